/-! What the store's methods do. -/
theorem jSo.len {g : jG} {H : Heap} {a : Nat} {σ : Sg} {R : List OR} (h : jSo g H a σ R) : R.length ≤ 21 := by
  obtain ⟨_, _, _, _, _, _, _, _, _, _, _, _, _, _, h7, _⟩ := h
  exact h7.2.1
theorem opnR_len {σ : Sg} : (opnR σ).length = σ.2.2.1.length := by unfold opnR; rw [List.length_map]
theorem opnR_get {σ : Sg} {i : Nat} {o : Od} (h : σ.2.2.1[i]? = some o) : (opnR σ)[i]? = some (oRow o) := by unfold opnR; rw [List.getElem?_map, h]; rfl
theorem oRow_v (o : Od) {u : Nat} (hu : u < 5) : oRow o u = nI (o u) := if_pos hu
theorem gtR_o {R : List OR} {i u : Nat} {o : Od} (h : R[i]? = some (oRow o)) (hu : u < 5) (hl : R.length ≤ 21) : gtR R (nI i) (nI u) = nI (o u) := (gtR_in h hu (by omega)).trans (oRow_v o hu)
theorem ixN {j a n : Nat} {r : Int32} (hj : j < 2 ^ 31) (hn : n ≤ 2 ^ 31) (h : (r = nI 1 ∧ ∃ q, ix (nI j) a n = some q ∧ a ≤ q ∧ q < n ∧ nI j = nI q) ∨ (r = nI 0 ∧ ix (nI j) a n = none)) : (r = nI 1 ∧ a ≤ j ∧ j < n) ∨ (r = nI 0 ∧ ¬ (a ≤ j ∧ j < n)) := by
  rcases h with ⟨h1, q, h2, h3, h4, h5⟩ | ⟨h1, h2⟩
  · obtain rfl : j = q := (nI_eq hj (by omega)).mp h5
    exact Or.inl ⟨h1, h3, h4⟩
  · exact Or.inr ⟨h1, fun q => by rw [ix_nI q.1 q.2 hn] at h2; cases h2⟩
theorem ixY {j a n : Nat} {r : Int32} (hn : n ≤ 2 ^ 31) (h1 : a ≤ j) (h2 : j < n) (h : (r = nI 1 ∧ ∃ q, ix (nI j) a n = some q ∧ a ≤ q ∧ q < n ∧ nI j = nI q) ∨ (r = nI 0 ∧ ix (nI j) a n = none)) : r = nI 1 := by
  rcases h with ⟨h3, -⟩ | ⟨-, h3⟩
  · exact h3
  · rw [ix_nI h1 h2 hn] at h3; cases h3
/-- in front or not, as the class keeps it -/
theorem fr_in {v : Nat} (hv : v < 2 ^ 30) : (nI v - nI 1 = -1) ↔ v = 0 := by
  constructor
  · intro h
    have h1 := congrArg Int32.toInt h
    rw [pk_sub_toInt (by omega) (by omega)] at h1
    have h2 : (-1 : Int32).toInt = -1 := by decide
    omega
  · rintro rfl; decide
theorem upn_comm {σ : Sg} {j k x y : Nat} (h : j ≠ k) : upn (upn σ j x) k y = upn (upn σ k y) j x := by
  unfold upn
  congr 1
  funext q
  show (if q = k then y else if q = j then x else σ.1 q) = (if q = j then x else if q = k then y else σ.1 q)
  by_cases h1 : q = k
  · rw [if_pos h1, if_neg (by omega), if_pos h1]
  · rw [if_neg h1]
    by_cases h2 : q = j
    · rw [if_pos h2, if_pos h2]
    · rw [if_neg h2, if_neg h2, if_neg h1]
theorem upn_upp {σ : Sg} {j x c : Nat} {y : Int32} : upn (upp σ c y) j x = upp (upn σ j x) c y := rfl
def payC (σ : Sg) (o : Od) : Sg := upn (upp σ (o 0) (σ.2.1 (o 0) + nI (o 3))) 11 (σ.1 11 + o 3)
theorem payS_C {σ : Sg} {i : Nat} {o : Od} : payS σ i o = upo (payC σ o) (σ.2.2.1.eraseIdx i) := rfl
def mark (r : OR) : OR := fun k => if k = 0 then -1 else r k
theorem rput_mark {R : List OR} {i : Nat} {r : OR} (h : R[i]? = some r) : rput R i 0 (-1) = R.set i (mark r) := by unfold rput; rw [h]; rfl
theorem rput_o {R : List OR} {i w v : Nat} {o : Od} (h : R[i]? = some (oRow o)) (hw : w < 5) : rput R i w (nI v) = R.set i (oRow (nSet o w v)) := by
  unfold rput
  rw [h]
  show R.set i _ = _
  congr 1
  funext k
  show (if k = w then nI v else if k < 5 then nI (o k) else 0) = (if k < 5 then nI (nSet o w v k) else 0)
  by_cases q : k = w
  · rw [if_pos q, if_pos (by omega), q, nSet_s]
  · rw [if_neg q, nSet_n _ _ q]
theorem kpt_app {A B : List OR} : kpt (A ++ B) = kpt A ++ kpt B := List.filter_append ..
theorem kpt_mark {r : OR} : kpt [mark r] = [] := rfl
theorem kpt_o {L : List Od} (h : ∀ o ∈ L, o 0 < 2 ^ 31) : kpt (L.map oRow) = L.map oRow := by
  unfold kpt
  refine List.filter_eq_self.mpr (fun r hr => ?_)
  obtain ⟨o, ho, rfl⟩ := List.mem_map.mp hr
  unfold gone
  rw [oRow_v o (by decide), decide_eq_false (nI_ne_m1 (h o ho))]; rfl
theorem set_td {α : Type} {L : List α} {i : Nat} (h : i < L.length) (x : α) : L.set i x = L.take i ++ x :: L.drop (i + 1) := List.set_eq_take_append_cons_drop.trans (if_pos h)
theorem kpt_end {L : List Od} {i : Nat} {o : Od} (h : ∀ o ∈ L, o 0 < 2 ^ 31) (ho : L[i]? = some o) : kpt (rput (L.map oRow) i 0 (-1)) = (L.eraseIdx i).map oRow := by
  have hi : i < L.length := lenlt ho
  rw [rput_mark (r := oRow o) (by rw [List.getElem?_map, ho]; rfl), set_td (by rw [List.length_map]; exact hi), kpt_app]
  have e1 : mark (oRow o) :: (L.map oRow).drop (i + 1) = [mark (oRow o)] ++ (L.map oRow).drop (i + 1) := rfl
  rw [e1, kpt_app, kpt_mark, List.nil_append, ← List.map_take, ← List.map_drop, kpt_o (fun x hx => h x (List.mem_of_mem_take hx)), kpt_o (fun x hx => h x (List.mem_of_mem_drop hx)), ← List.map_append]
  congr 1
  exact (List.eraseIdx_eq_take_drop_succ ..).symm
theorem mkR_o {c l it fe wt : Nat} : mkR (nI c) (nI l) (nI it) (nI fe) (nI wt) = oRow (mkO c l it fe wt 0) := by
  funext k
  unfold mkR oRow
  match k with
  | 0 => rfl
  | 1 => rfl
  | 2 => rfl
  | 3 => rfl
  | 4 => rfl
  | k + 5 => rw [if_neg (by omega)]; rfl
theorem opnR_add {σ : Sg} {o : Od} : opnR (upo σ (σ.2.2.1 ++ [o])) = opnR σ ++ [oRow o] := by
  show (σ.2.2.1 ++ [o]).map oRow = σ.2.2.1.map oRow ++ [oRow o]
  rw [List.map_append]; rfl
theorem latR_len {σ : Sg} : (latR σ).length = σ.2.2.2.length := by unfold latR; rw [List.length_reverse, List.length_map]
theorem lat_full {σ : Sg} {o : Od} (hs : okS σ) (h : 10 ≤ σ.2.2.2.length) : kpt (rput (latR σ) 0 0 (-1)) ++ [oRow o] = latR (upl σ ((o :: σ.2.2.2).take 10)) := by
  have h10 : σ.2.2.2.length = 10 := by have := hs.2.2.2.2.1; omega
  have e1 : latR σ = (σ.2.2.2.reverse).map oRow := by unfold latR; rw [List.map_reverse]
  have hok : ∀ x ∈ σ.2.2.2.reverse, x 0 < 2 ^ 31 := fun x hx => by
    have := (hs.2.2.2.2.2 x (List.mem_reverse.mp hx)).1
    omega
  obtain ⟨x, hx⟩ : ∃ x, σ.2.2.2.reverse[0]? = some x := getO (by rw [List.length_reverse]; omega)
  rw [e1, kpt_end hok hx]
  show _ = (((o :: σ.2.2.2).take 10).map oRow).reverse
  rw [← List.map_reverse, List.take_succ_cons, List.reverse_cons, List.map_append, List.eraseIdx_zero, List.tail_reverse]
  congr 3
  rw [List.dropLast_eq_take, h10]
theorem lat_more {σ : Sg} {o : Od} (h : ¬ 10 ≤ σ.2.2.2.length) : latR σ ++ [oRow o] = latR (upl σ ((o :: σ.2.2.2).take 10)) := by
  show _ = (((o :: σ.2.2.2).take 10).map oRow).reverse
  rw [List.take_of_length_le (by rw [List.length_cons]; omega), List.map_cons, List.reverse_cons]
  rfl
theorem note_C {σ : Sg} {o : Od} (ho : o 0 < 4) : upl (upn (upn (upn σ 7 (σ.1 7 + 1)) 10 (σ.1 10 + o 3)) (50 + o 0) (σ.1 (50 + o 0) + 1)) ((o :: σ.2.2.2).take 10) = note σ o := by
  unfold note
  rw [upn_comm (j := 10) (k := 50 + o 0) (by omega)]
/-- sums -/
def cntR (w : Nat) (x : Int32) : List OR → Nat
  | [] => 0
  | r :: t => (if r w = x then 1 else 0) + cntR w x t
def sumR (x : Int32) : List OR → Int32
  | [] => 0
  | r :: t => (if r 1 = x then r 3 else 0) + sumR x t
def allR : List OR → Int32
  | [] => 0
  | r :: t => r 3 + allR t
theorem cntR_take {w : Nat} {x : Int32} : ∀ {R : List OR} {k : Nat} {r : OR}, R[k]? = some r → cntR w x (R.take (k + 1)) = cntR w x (R.take k) + (if r w = x then 1 else 0)
  | [], k, r, h => by cases k <;> cases h
  | r0 :: t, 0, r, h => by cases h; simp only [List.take_succ_cons, List.take_zero, cntR, Nat.add_zero, Nat.zero_add]
  | r0 :: t, k + 1, r, h => by
    simp only [List.take_succ_cons, cntR]
    rw [cntR_take (R := t) (k := k) h, Nat.add_assoc]
theorem sumR_take {x : Int32} : ∀ {R : List OR} {k : Nat} {r : OR}, R[k]? = some r → sumR x (R.take (k + 1)) = sumR x (R.take k) + (if r 1 = x then r 3 else 0)
  | [], k, r, h => by cases k <;> cases h
  | r0 :: t, 0, r, h => by
    cases h
    simp only [List.take_succ_cons, List.take_zero, sumR]
    rw [Int32.add_zero, Int32.zero_add]
  | r0 :: t, k + 1, r, h => by
    simp only [List.take_succ_cons, sumR]
    rw [sumR_take (R := t) (k := k) h, Int32.add_assoc]
theorem allR_take : ∀ {R : List OR} {k : Nat} {r : OR}, R[k]? = some r → allR (R.take (k + 1)) = allR (R.take k) + r 3
  | [], k, r, h => by cases k <;> cases h
  | r0 :: t, 0, r, h => by
    cases h
    simp only [List.take_succ_cons, List.take_zero, allR]
    rw [Int32.add_zero, Int32.zero_add]
  | r0 :: t, k + 1, r, h => by
    simp only [List.take_succ_cons, allR]
    rw [allR_take (R := t) (k := k) h, Int32.add_assoc]
theorem cntR_le {w : Nat} {x : Int32} : ∀ {R : List OR}, cntR w x R ≤ R.length
  | [] => Nat.le_refl _
  | r :: t => by
    have := cntR_le (w := w) (x := x) (R := t)
    simp only [cntR, List.length_cons]
    split <;> omega
theorem cntR_o {w x : Nat} (hw : w < 5) (hx : x < 2 ^ 31) : ∀ {L : List Od}, (∀ o ∈ L, o w < 2 ^ 31) → cntR w (nI x) (L.map oRow) = ocnt w x L
  | [], _ => rfl
  | o :: t, h => by
    simp only [List.map_cons, cntR, ocnt]
    rw [cntR_o hw hx (fun q hq => h q (List.mem_cons_of_mem _ hq)), oRow_v o hw]
    congr 1
    by_cases q : o w = x
    · rw [if_pos q, if_pos (by rw [q])]
    · rw [if_neg q, if_neg (fun e => q ((nI_eq (h o List.mem_cons_self) hx).mp e))]
theorem sumR_o {x : Nat} (hx : x < 2 ^ 31) : ∀ {L : List Od}, (∀ o ∈ L, o 1 < 2 ^ 31) → sumR (nI x) (L.map oRow) = nI (fsum x L)
  | [], _ => rfl
  | o :: t, h => by
    simp only [List.map_cons, sumR, fsum]
    rw [sumR_o hx (fun q hq => h q (List.mem_cons_of_mem _ hq)), oRow_v o (by decide), oRow_v o (by decide)]
    by_cases q : o 1 = x
    · rw [if_pos q, if_pos (by rw [q]), nI_add]
    · rw [if_neg q, if_neg (fun e => q ((nI_eq (h o List.mem_cons_self) hx).mp e)), Nat.zero_add, Int32.zero_add]
def asum : List Od → Nat
  | [] => 0
  | o :: t => o 3 + asum t
theorem allR_o : ∀ {L : List Od}, allR (L.map oRow) = nI (asum L)
  | [] => rfl
  | o :: t => by
    simp only [List.map_cons, allR, asum]
    rw [allR_o, oRow_v o (by decide), nI_add]
theorem jLeast_lo {k : Nat} (h : k < 5) : jLeast k = nI (loS k) := by
  have hw9 : k = 0 ∨ k = 1 ∨ k = 2 ∨ k = 3 ∨ k = 4 := by omega
  rcases hw9 with rfl | rfl | rfl | rfl | rfl <;> rfl
theorem jMost_hi {k : Nat} (h : k < 5) : jMost k = nI (hiS k) := by
  have hw9 : k = 0 ∨ k = 1 ∨ k = 2 ∨ k = 3 ∨ k = 4 := by omega
  rcases hw9 with rfl | rfl | rfl | rfl | rfl <;> rfl
