/-! What the class does in a night. -/
theorem fr_le {a b : Nat} (ha : a < 2 ^ 30) (hb : b < 2 ^ 30) : (nI a - nI 1 ≤ nI b - nI 1) ↔ a ≤ b := by
  rw [Int32.le_iff_toInt_le, pk_sub_toInt (by omega) (by omega), pk_sub_toInt (by omega) (by omega)]
  omega
theorem fr_inc {v : Nat} : nI v - nI 1 + nI 1 = nI (v + 1) - nI 1 := by
  rw [pk_sub (show 1 ≤ v + 1 by omega), Nat.add_sub_cancel, Int32.sub_add_cancel]
theorem fr_v {v : Nat} : nI (v + 1) - nI 1 = nI v := by rw [pk_sub (show 1 ≤ v + 1 by omega), Nat.add_sub_cancel]
theorem upn_same {σ : Sg} {k x y : Nat} : upn (upn σ k x) k y = upn σ k y := by
  unfold upn
  congr 1
  funext q
  show (if q = k then y else if q = k then x else σ.1 q) = if q = k then y else σ.1 q
  by_cases h : q = k
  · rw [if_pos h, if_pos h]
  · rw [if_neg h, if_neg h, if_neg h]
theorem upn_id {σ : Sg} {k v : Nat} (h : σ.1 k = v) : upn σ k v = σ := by
  unfold upn
  have e : nSet σ.1 k v = σ.1 := by
    funext q
    show (if q = k then v else σ.1 q) = σ.1 q
    by_cases h1 : q = k
    · rw [if_pos h1, h1, h]
    · rw [if_neg h1]
  rw [e]
/-- the lot that has been in front the longest, as the class finds it -/
def lgc (n : Nat → Nat) (k b : Nat) : Prop := b < 16 ∧ ((lng n k = none ∧ b = 0 ∧ n 14 = 0) ∨ lng n k = some b)
theorem lgc_1 {n : Nat → Nat} : lgc n 1 0 := by
  refine ⟨by omega, ?_⟩
  by_cases h : 0 < n 14
  · exact Or.inr (by simp only [lng]; exact if_pos h)
  · exact Or.inl ⟨by simp only [lng]; exact if_neg h, rfl, by omega⟩
theorem lgc_go {n : Nat → Nat} {k b : Nat} (h : lgc n k b) (hk : k < 16) (hgt : n (14 + b) < n (14 + k)) : lgc n (k + 1) k := by
  refine ⟨hk, Or.inr ?_⟩
  rcases h.2 with ⟨h1, h2, h3⟩ | h1
  · simp only [lng, h1]; exact if_pos (by omega)
  · simp only [lng, h1]; exact if_pos hgt
theorem lgc_stay {n : Nat → Nat} {k b : Nat} (h : lgc n k b) (hgt : ¬ n (14 + b) < n (14 + k)) : lgc n (k + 1) b := by
  refine ⟨h.1, ?_⟩
  rcases h.2 with ⟨h1, h2, h3⟩ | h1
  · refine Or.inl ⟨?_, h2, h3⟩
    simp only [lng, h1]
    subst h2
    have h5 : n (14 + 0) = 0 := h3
    exact if_neg (by omega)
  · refine Or.inr ?_
    simp only [lng, h1]; exact if_neg hgt
theorem lgc_end {σ : Sg} {b : Nat} (h : lgc σ.1 16 b) (hf : 0 < fcnt σ.1 16) : upn σ (14 + b) 0 = sback σ := by
  rcases h.2 with ⟨h1, -, -⟩ | h1
  · have := lng_none h1; omega
  · unfold sback; rw [h1]
theorem clr_goS {σ : Sg} {j : Nat} (h : σ.1 1 ≤ fcnt σ.1 16) : clr (j + 1) σ = clr j (sback σ) := by simp only [clr]; rw [if_pos h]
theorem okS_sback {σ : Sg} (h : okS σ) : okS (sback σ) := by
  unfold sback
  split
  · exact h
  · rename_i b hb
    have := lng_lt hb
    exact h.front (k := 14 + b) (v := 0) (by omega) (by omega)
theorem okS_bring1 {σ : Sg} (h : okS σ) {l : Nat} (hl : l < 16) : okS (bring1 σ l) := (((okS_clr 16 σ h).front (k := 14 + l) (v := 1) (by omega) (by omega)).sn (k := 30 + l) (by omega)).sn (k := 12) (by omega)
theorem set_same {α : Type} {L : List α} {i : Nat} {x : α} (h : L[i]? = some x) : L.set i x = L := by
  apply List.ext_getElem?
  intro j
  by_cases q : i = j
  · subst q
    rw [List.getElem?_set_self (List.getElem?_eq_some_iff.mp h).1, h]
  · rw [List.getElem?_set_ne q]
/-- rows in the middle of a loop -/
def midF (F : Od → OR) (L : List Od) (j : Nat) : List OR := (L.take j).map F ++ (L.drop j).map oRow
theorem midF_0 {F : Od → OR} {L : List Od} : midF F L 0 = L.map oRow := by unfold midF; rw [List.take_zero, List.drop_zero]; rfl
theorem midF_n {F : Od → OR} {L : List Od} : midF F L L.length = L.map F := by unfold midF; rw [List.take_length, List.drop_length, List.map_nil, List.append_nil]
theorem midF_len {F : Od → OR} {L : List Od} {j : Nat} : (midF F L j).length = L.length := by
  unfold midF
  rw [List.length_append, List.length_map, List.length_map, List.length_take, List.length_drop]
  omega
theorem midF_get {F : Od → OR} {L : List Od} {j : Nat} {o : Od} (h : L[j]? = some o) : (midF F L j)[j]? = some (oRow o) := by
  have hj := lenlt h
  unfold midF
  rw [List.getElem?_append_right (by rw [List.length_map, List.length_take]; omega), List.length_map, List.length_take, Nat.min_eq_left (by omega), Nat.sub_self, List.getElem?_map, List.getElem?_drop, Nat.add_zero, h]
  rfl
theorem midF_set {F : Od → OR} {L : List Od} {j : Nat} {o : Od} (h : L[j]? = some o) : (midF F L j).set j (F o) = midF F L (j + 1) := by
  have hj := lenlt h
  unfold midF
  have e1 : ((L.take j).map F).length = j := by rw [List.length_map, List.length_take]; omega
  rw [dropO h, List.map_cons, takeO h, List.map_append, List.append_assoc]
  rw [List.set_append_right _ _ (by omega), e1, Nat.sub_self]
  rfl
theorem midF_same {F : Od → OR} {L : List Od} {j : Nat} {o : Od} (h : L[j]? = some o) (hF : F o = oRow o) : midF F L j = midF F L (j + 1) := by
  rw [← midF_set h, hF]
  exact (set_same (midF_get h)).symm
def Fb (l : Nat) (o : Od) : OR := if o 1 = l then mark (oRow o) else oRow o
theorem kpt_b {l : Nat} : ∀ {L : List Od}, (∀ o ∈ L, o 0 < 2 ^ 31) → kpt (L.map (Fb l)) = (kp l L).map oRow
  | [], _ => rfl
  | o :: t, h => by
    have ih := kpt_b (l := l) (L := t) (fun x hx => h x (List.mem_cons_of_mem _ hx))
    have e : (o :: t).map (Fb l) = [Fb l o] ++ t.map (Fb l) := rfl
    rw [e, kpt_app, ih]
    simp only [kp]
    by_cases q : o 1 = l
    · rw [if_pos q]
      unfold Fb
      rw [if_pos q, kpt_mark, List.nil_append]
    · rw [if_neg q]
      unfold Fb
      rw [if_neg q]
      have := kpt_o (L := [o]) (fun x hx => by rw [List.mem_singleton.mp hx]; exact h o List.mem_cons_self)
      rw [show [oRow o] = [o].map oRow from rfl, this]
      rfl
def Fw (pt : Nat) (o : Od) : OR := if pt ≤ o 4 + 1 then mark (oRow (nSet o 4 (o 4 + 1))) else oRow (nSet o 4 (o 4 + 1))
theorem kpt_w {pt : Nat} : ∀ {L : List Od}, (∀ o ∈ L, o 0 < 2 ^ 31) → kpt (L.map (Fw pt)) = (kpW pt L).map oRow
  | [], _ => rfl
  | o :: t, h => by
    have ih := kpt_w (pt := pt) (L := t) (fun x hx => h x (List.mem_cons_of_mem _ hx))
    have e : (o :: t).map (Fw pt) = [Fw pt o] ++ t.map (Fw pt) := rfl
    rw [e, kpt_app, ih]
    simp only [kpW]
    by_cases q : pt ≤ o 4 + 1
    · rw [if_pos q]
      unfold Fw
      rw [if_pos q, kpt_mark, List.nil_append]
    · rw [if_neg q]
      unfold Fw
      rw [if_neg q]
      have := kpt_o (L := [nSet o 4 (o 4 + 1)]) (fun x hx => by rw [List.mem_singleton.mp hx]; exact h o List.mem_cons_self)
      rw [show [oRow (nSet o 4 (o 4 + 1))] = [nSet o 4 (o 4 + 1)].map oRow from rfl, this]
      rfl
theorem dl_hit {l j : Nat} {L : List Od} {o : Od} {X : Sg} (ho : L[j]? = some o) (h : o 1 = l) : note (dl l (L.take j) X) (mkO (o 0) l (o 2) (o 3) (o 4) 0) = dl l (L.take (j + 1)) X := by
  rw [takeO ho, dl_app]
  simp only [dl]
  rw [if_pos h]
theorem dl_miss {l j : Nat} {L : List Od} {o : Od} {X : Sg} (ho : L[j]? = some o) (h : ¬ o 1 = l) : dl l (L.take j) X = dl l (L.take (j + 1)) X := by
  rw [takeO ho, dl_app]
  simp only [dl]
  rw [if_neg h]
theorem lapse_C {σ : Sg} {o : Od} (_ho : o 0 < 4) : upn (upn (payC σ o) 8 (σ.1 8 + 1)) (54 + o 0) (σ.1 (54 + o 0) + 1) = lapse1 σ o := by
  unfold payC lapse1 lost1
  rw [upn_comm (j := 11) (k := 8) (by omega), upn_comm (j := 11) (k := 54 + o 0) (by omega)]
  have e : (upn (upn σ (54 + o 0) (σ.1 (54 + o 0) + 1)) 8 (σ.1 8 + 1)).1 11 = σ.1 11 := (upn_n (by omega)).trans (upn_n (by omega))
  rw [e, upn_upp, upn_upp, upn_comm (j := 8) (k := 54 + o 0) (by omega)]
theorem lp_hit {pt j : Nat} {L : List Od} {o : Od} {X : Sg} (ho : L[j]? = some o) (h : pt ≤ o 4 + 1) : lapse1 (lpS pt (L.take j) X) (nSet o 4 (o 4 + 1)) = lpS pt (L.take (j + 1)) X := by
  rw [takeO ho, lpS_app]
  simp only [lpS]
  rw [if_pos h]
  rfl
theorem lp_miss {pt j : Nat} {L : List Od} {o : Od} {X : Sg} (ho : L[j]? = some o) (h : ¬ pt ≤ o 4 + 1) : lpS pt (L.take j) X = lpS pt (L.take (j + 1)) X := by
  rw [takeO ho, lpS_app]
  simp only [lpS]
  rw [if_neg h]
theorem dl_12 (l : Nat) : ∀ (L : List Od) (σ : Sg), (∀ o ∈ L, okO o) → (dl l L σ).1 12 = σ.1 12
  | [], _, _ => rfl
  | o :: t, σ, h => by
    simp only [dl]
    rw [dl_12 l t _ (fun x hx => h x (List.mem_cons_of_mem _ hx))]
    split
    · have h0 := (h o List.mem_cons_self).1
      unfold note
      show (upn (upn (upn σ 7 (σ.1 7 + 1)) (50 + o 0) (σ.1 (50 + o 0) + 1)) 10 (σ.1 10 + o 3)).1 12 = _
      rw [upn_n (by omega), upn_n (show 12 ≠ 50 + o 0 by omega), upn_n (by omega)]
    · rfl
theorem bring_12 {σ : Sg} (hs : okS σ) {l : Nat} (hl : l < 16) : (bringS σ l).1 12 = σ.1 12 + 1 := by
  show (dl l σ.2.2.1 (bring1 σ l)).1 12 = _
  rw [dl_12 l _ _ hs.2.2.2.1]
  unfold bring1
  rw [upn_s, clr_low 16 σ 12 (by omega)]
theorem trn_12 : ∀ (r : Nat) (σ : Sg), okS σ → (trn r σ).1 12 = σ.1 12 + (trl r σ).length
  | 0, _, _ => rfl
  | r + 1, σ, h => by
    cases hb : wantS σ with
    | none => rw [(trn_stop (Or.inr hb)).1, (trn_stop (Or.inr hb)).2.1]; rfl
    | some b =>
      rw [(trn_go hb).1, (trn_go hb).2.1, trn_12 r _ (okS_bring h (wantS_lt h hb)), bring_12 h (wantS_lt h hb), List.length_cons]
      omega
theorem lpS_12 (pt : Nat) {L : List Od} {σ : Sg} (h : ∀ o ∈ L, okO o) : (lpS pt L σ).1 12 = σ.1 12 := lpS_low pt L σ h 12 (by omega)
theorem night_12 {σ : Sg} (hs : okS σ) : (nightS σ).1 12 ≤ σ.1 12 + 16 := by
  have h1 : (nightS σ).1 12 = (trn (σ.1 0) σ).1 12 := by
    unfold nightS
    rw [upn_n (by omega), sty_low 16 _ 12 (by omega)]
    show (lpS ((nt1 σ).1 3) (nt1 σ).2.2.1 (nt1 σ)).1 12 = _
    rw [lpS_12 _ (okS_nt1 hs).2.2.2.1]
    exact upn_n (by omega)
  rw [h1, trn_12 _ _ hs]
  have h2 := trl_len (σ.1 0) σ
  have h3 := hs.1.1
  omega
theorem nights_12 {σ : Sg} (hs : okS σ) : ∀ k : Nat, (nightsS k σ).1 12 ≤ σ.1 12 + 16 * k
  | 0 => Nat.le_refl _
  | k + 1 => by
    have h1 := nights_12 hs k
    have h2 := night_12 (okS_nights hs k)
    show (nightS (nightsS k σ)).1 12 ≤ _
    omega
theorem want_1 {σ : Sg} (hs : okS σ) (h : σ.1 4 = 1) : gtR (opnR σ) (nI 0) (nI 1) = oI (wantS σ) := by
  have hl := hs.2.2.1
  unfold wantS
  by_cases h0 : σ.2.2.1.length = 0
  · rw [if_pos h0]
    have e : σ.2.2.1 = [] := List.length_eq_zero_iff.mp h0
    exact gtR_e (by unfold opnR; rw [e]; rfl)
  · rw [if_neg h0, if_pos h]
    obtain ⟨o, ho⟩ := getO (L := σ.2.2.1) (k := 0) (by omega)
    rw [gtR_o (opnR_get ho) (by decide) (by rw [opnR_len]; exact hl), ho]
    rfl
theorem wan_nil {cn wt : Nat → Nat} (h : ∀ q, cn q = 0) : ∀ k : Nat, wan cn wt k = none
  | 0 => rfl
  | k + 1 => by simp only [wan, wan_nil h k]; exact if_neg (by rw [h]; exact Nat.lt_irrefl 0)
theorem want_2 {σ : Sg} (h : ¬ σ.1 4 = 1) : wan (fun q => ocnt 1 q σ.2.2.1) (wtS σ) 16 = wantS σ := by
  unfold wantS
  by_cases h0 : σ.2.2.1.length = 0
  · rw [if_pos h0]
    exact wan_nil (fun q => by
      have := ocnt_le (w := 1) (l := q) (L := σ.2.2.1)
      show ocnt 1 q σ.2.2.1 = 0
      omega) 16
  · rw [if_neg h0, if_neg h]
theorem nt_1 {σ : Sg} (h : ¬ (trl (σ.1 0) σ).length = 0) : nt1 σ = upn (trn (σ.1 0) σ) 13 ((trn (σ.1 0) σ).1 13 + 1) := by unfold nt1 tb; rw [if_neg h]
theorem nt_0 {σ : Sg} (h : (trl (σ.1 0) σ).length = 0) : nt1 σ = trn (σ.1 0) σ := by unfold nt1 tb; rw [if_pos h]; exact upn_id rfl
theorem stv_pos {v m : Nat} (hv : 0 < v) : stv v m = if m < v then 0 else v + 1 := by
  unfold stv
  rw [if_pos hv]
  by_cases h : m < v
  · rw [if_pos (by omega), if_pos h]
  · rw [if_neg (by omega), if_neg h]
theorem stv_0 {m : Nat} : stv 0 m = 0 := by
  unfold stv
  rw [if_neg (Nat.lt_irrefl 0)]
  split <;> rfl
theorem set_set9 {α : Type} {L : List α} {i : Nat} {x y : α} : (L.set i x).set i y = L.set i y := List.set_set ..
theorem nights_op {k : Nat} {σ : Sg} : opnR (nightsS (k + 1) σ) = opnR (waitS (nt1 (nightsS k σ))) := by
  show (sty 16 (waitS (nt1 (nightsS k σ)))).2.2.1.map oRow = (waitS (nt1 (nightsS k σ))).2.2.1.map oRow
  rw [sty_2]
theorem nt1_calm {σ : Sg} (_hs : okS σ) (hc : ∀ o ∈ σ.2.2.1, o 4 < 9) : ∀ o ∈ (nt1 σ).2.2.1, o 4 < 9 := fun o ho => hc o (trn_mem _ _ ho)
