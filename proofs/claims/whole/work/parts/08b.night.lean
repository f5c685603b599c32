/-! A night. -/
theorem clr_low : ∀ (k : Nat) (σ : Sg) (j : Nat), (j < 14 ∨ 30 ≤ j) → (clr k σ).1 j = σ.1 j
  | 0, _, _, _ => rfl
  | k + 1, σ, j, h => by
    simp only [clr]
    split
    · rw [clr_low k _ j h]
      unfold sback
      split
      · rfl
      · rename_i b hb
        exact upn_n (by have := (lng_lt hb).1; omega)
    · rfl
theorem dl_low (l : Nat) : ∀ (L : List Od) (σ : Sg), (∀ o ∈ L, okO o) → ∀ j, (j < 7 ∨ 14 ≤ j ∧ j < 50 ∨ 54 ≤ j) → (dl l L σ).1 j = σ.1 j
  | [], _, _, _, _ => rfl
  | o :: t, σ, hO, j, h => by
    simp only [dl]
    rw [dl_low l t _ (fun o' ho' => hO o' (List.mem_cons_of_mem _ ho')) j h]
    have h0 := (hO o List.mem_cons_self).1
    split
    · show (upn (upn (upn σ 7 _) (50 + o 0) _) 10 _).1 j = σ.1 j
      rw [upn_n (by omega), upn_n (by omega), upn_n (by omega)]
    · rfl
theorem bring_low {σ : Sg} (hs : okS σ) {l : Nat} {j : Nat} (hj : j < 7) : (bringS σ l).1 j = σ.1 j := by
  show (dl l σ.2.2.1 (bring1 σ l)).1 j = σ.1 j
  rw [dl_low l _ _ hs.2.2.2.1 j (by omega)]
  show (upn (upn (upn (clr 16 σ) _ _) _ _) _ _).1 j = σ.1 j
  rw [upn_n (by omega), upn_n (by omega), upn_n (by omega), clr_low 16 σ j (by omega)]
def trn : Nat → Sg → Sg
  | 0, σ => σ
  | r + 1, σ => match wantS σ with
    | none => σ
    | some b => trn r (bringS σ b)
def trl : Nat → Sg → List Nat
  | 0, _ => []
  | r + 1, σ => match wantS σ with
    | none => []
    | some b => b :: trl r (bringS σ b)
def trw : Nat → Sg → Bool
  | 0, _ => false
  | r + 1, σ => match wantS σ with
    | none => false
    | some b => wd b σ.2.2.1 || trw r (bringS σ b)
theorem trn_stop {r : Nat} {σ : Sg} (h : r = 0 ∨ wantS σ = none) : trn r σ = σ ∧ trl r σ = [] ∧ trw r σ = false := by
  cases r with
  | zero => exact ⟨rfl, rfl, rfl⟩
  | succ r =>
    have h1 : wantS σ = none := h.resolve_left (by omega)
    simp only [trn, trl, trw, h1]
    exact ⟨trivial, trivial, trivial⟩
theorem trn_go {r b : Nat} {σ : Sg} (h : wantS σ = some b) : trn (r + 1) σ = trn r (bringS σ b) ∧ trl (r + 1) σ = b :: trl r (bringS σ b) ∧ trw (r + 1) σ = (wd b σ.2.2.1 || trw r (bringS σ b)) := by
  simp only [trn, trl, trw, h]
  exact ⟨trivial, trivial, trivial⟩
theorem trl_len : ∀ (r : Nat) (σ : Sg), (trl r σ).length ≤ r
  | 0, _ => Nat.le_refl _
  | r + 1, σ => by
    simp only [trl]
    split
    · exact Nat.zero_le _
    · exact Nat.succ_le_succ (trl_len r _)
def tb (σ : Sg) : Nat := if (trl (σ.1 0) σ).length = 0 then 0 else 1
def nt1 (σ : Sg) : Sg := upn (trn (σ.1 0) σ) 13 ((trn (σ.1 0) σ).1 13 + tb σ)
def lost1 (σ : Sg) (o : Od) : Sg := upn (upn σ (54 + o 0) (σ.1 (54 + o 0) + 1)) 8 (σ.1 8 + 1)
def lapse1 (σ : Sg) (o : Od) : Sg := upn (upp (lost1 σ o) (o 0) (σ.2.1 (o 0) + nI (o 3))) 11 ((lost1 σ o).1 11 + o 3)
def lpS (pt : Nat) : List Od → Sg → Sg
  | [], σ => σ
  | o :: t, σ => lpS pt t (if pt ≤ o 4 + 1 then lapse1 σ o else σ)
def kpW (pt : Nat) : List Od → List Od
  | [] => []
  | o :: t => if pt ≤ o 4 + 1 then kpW pt t else nSet o 4 (o 4 + 1) :: kpW pt t
def waitS (σ : Sg) : Sg := upo (lpS (σ.1 3) σ.2.2.1 σ) (kpW (σ.1 3) σ.2.2.1)
def stv (v m : Nat) : Nat := if m + 1 < (if 0 < v then v + 1 else v) then 0 else (if 0 < v then v + 1 else v)
def sty : Nat → Sg → Sg
  | 0, σ => σ
  | k + 1, σ => upn (sty k σ) (14 + k) (stv ((sty k σ).1 (14 + k)) (σ.1 2))
def nightS (σ : Sg) : Sg := upn (sty 16 (waitS (nt1 σ))) 5 ((sty 16 (waitS (nt1 σ))).1 5 + 1)
theorem sty_low : ∀ (k : Nat) (σ : Sg) (j : Nat), (j < 14 ∨ 14 + k ≤ j) → (sty k σ).1 j = σ.1 j
  | 0, _, _, _ => rfl
  | k + 1, σ, j, h => by
    simp only [sty]
    rw [upn_n (by omega), sty_low k σ j (by omega)]
theorem stv_le {v m : Nat} (h : m ≤ 9) : stv v m ≤ 10 := by
  unfold stv
  generalize (if 0 < v then v + 1 else v) = w
  split <;> omega
theorem lpS_app (pt : Nat) : ∀ (a b : List Od) (σ : Sg), lpS pt (a ++ b) σ = lpS pt b (lpS pt a σ)
  | [], b, σ => rfl
  | o :: t, b, σ => by simp only [List.cons_append, lpS]; exact lpS_app pt t b _
theorem kpW_app (pt : Nat) : ∀ (a b : List Od), kpW pt (a ++ b) = kpW pt a ++ kpW pt b
  | [], b => rfl
  | o :: t, b => by
    simp only [List.cons_append, kpW]
    split
    · exact kpW_app pt t b
    · rw [kpW_app pt t b]; rfl
theorem lpS_low (pt : Nat) : ∀ (L : List Od) (σ : Sg), (∀ o ∈ L, okO o) → ∀ j, (j < 8 ∨ 12 ≤ j ∧ j < 54 ∨ 58 ≤ j) → (lpS pt L σ).1 j = σ.1 j
  | [], _, _, _, _ => rfl
  | o :: t, σ, hO, j, h => by
    simp only [lpS]
    rw [lpS_low pt t _ (fun o' ho' => hO o' (List.mem_cons_of_mem _ ho')) j h]
    have h0 := (hO o List.mem_cons_self).1
    split
    · show (upn (upn (upn σ (54 + o 0) _) 8 _) 11 _).1 j = σ.1 j
      rw [upn_n (by omega), upn_n (by omega), upn_n (by omega)]
    · rfl
theorem dropO {L : List Od} {j : Nat} {o : Od} (ho : L[j]? = some o) : L.drop j = o :: L.drop (j + 1) := by
  rw [List.drop_eq_getElem_cons (lenlt ho)]
  congr 1
  exact Option.some.inj ((List.getElem?_eq_getElem (lenlt ho)).symm.trans ho)
theorem wait_get {pt j : Nat} {L : List Od} {o : Od} (ho : L[j]? = some o) : (kpW pt (L.take j) ++ L.drop j)[(kpW pt (L.take j)).length]? = some o := by
  rw [List.getElem?_append_right (Nat.le_refl _), Nat.sub_self, List.getElem?_drop, Nat.add_zero]
  exact ho
theorem wait_len {pt j : Nat} {L : List Od} : (kpW pt (L.take j) ++ L.drop j).length = (kpW pt (L.take j)).length + (L.length - j) := by
  rw [List.length_append, List.length_drop]
theorem set_mid (A B : List Od) (o o' : Od) : (A ++ o :: B).set A.length o' = A ++ o' :: B := by
  rw [List.set_append_right _ _ (Nat.le_refl _), Nat.sub_self, List.set_cons_zero]
theorem erase_mid (A B : List Od) (o : Od) : (A ++ o :: B).eraseIdx A.length = A ++ B := by
  rw [List.eraseIdx_append_of_length_le (Nat.le_refl _), Nat.sub_self, List.eraseIdx_cons_zero]
theorem wait_hit {pt j : Nat} {L : List Od} {o : Od} {X : Sg} (ho : L[j]? = some o) (h : pt ≤ o 4 + 1) : payS (upn (upn (upo (upo (lpS pt (L.take j) X) (kpW pt (L.take j) ++ L.drop j)) ((kpW pt (L.take j) ++ L.drop j).set (kpW pt (L.take j)).length (nSet o 4 (o 4 + 1)))) (54 + o 0) ((lpS pt (L.take j) X).1 (54 + o 0) + 1)) 8 ((lpS pt (L.take j) X).1 8 + 1)) (kpW pt (L.take j)).length (nSet o 4 (o 4 + 1)) = upo (lpS pt (L.take (j + 1)) X) (kpW pt (L.take (j + 1)) ++ L.drop (j + 1)) ∧ (kpW pt (L.take (j + 1))).length = (kpW pt (L.take j)).length := by
  rw [dropO ho, set_mid, takeO ho, lpS_app, kpW_app]
  simp only [lpS, kpW]
  rw [if_pos h, if_pos h, List.append_nil]
  refine ⟨?_, rfl⟩
  rw [← erase_mid (kpW pt (L.take j)) (L.drop (j + 1)) (nSet o 4 (o 4 + 1))]
  rfl
theorem wait_miss {pt j : Nat} {L : List Od} {o : Od} {X : Sg} (ho : L[j]? = some o) (h : ¬ pt ≤ o 4 + 1) : upo (upo (lpS pt (L.take j) X) (kpW pt (L.take j) ++ L.drop j)) ((kpW pt (L.take j) ++ L.drop j).set (kpW pt (L.take j)).length (nSet o 4 (o 4 + 1))) = upo (lpS pt (L.take (j + 1)) X) (kpW pt (L.take (j + 1)) ++ L.drop (j + 1)) ∧ (kpW pt (L.take (j + 1))).length = (kpW pt (L.take j)).length + 1 := by
  rw [dropO ho, set_mid, takeO ho, lpS_app, kpW_app]
  simp only [lpS, kpW]
  rw [if_neg h, if_neg h, List.append_assoc, List.length_append]
  exact ⟨rfl, rfl⟩
theorem took_add {pre : List Nat} {t b : Nat} {tk tk1 : Nat → Int32} (htl : pre.length = t) (h : ∀ i c, pre[i]? = some c → tk i = nI c) (e : tk1 = upd tk t (nI b)) : ∀ i c, (pre ++ [b])[i]? = some c → tk1 i = nI c := by
  intro i c hi
  rw [e]
  by_cases q : i = t
  · rw [q, pk_us]
    rw [q, List.getElem?_append_right (by omega), htl, Nat.sub_self] at hi
    cases hi; rfl
  · rw [pk_un q]
    have hl : i < (pre ++ [b]).length := (List.getElem?_eq_some_iff.mp hi).1
    rw [List.length_append] at hl
    have h1 : [b].length = 1 := rfl
    rw [List.getElem?_append_left (by omega)] at hi
    exact h i c hi
theorem stv_eq {v m w r : Nat} (h1 : 0 < v ∧ w = v + 1 ∨ v = 0 ∧ w = v + 0) (h2 : m + 1 < w ∧ r = 0 ∨ ¬ m + 1 < w ∧ r = w) : stv v m = r := by
  unfold stv
  generalize hq : (if 0 < v then v + 1 else v) = q
  have h3 : q = w := by rw [← hq]; split <;> omega
  subst h3
  split <;> omega
def nightsS : Nat → Sg → Sg
  | 0, σ => σ
  | k + 1, σ => nightS (nightsS k σ)
theorem sty_2 : ∀ (k : Nat) (σ : Sg), (sty k σ).2 = σ.2
  | 0, _ => rfl
  | k + 1, σ => by
    simp only [sty]
    exact sty_2 k σ
theorem night_open (σ : Sg) : (nightS σ).2.2.1 = kpW ((nt1 σ).1 3) (nt1 σ).2.2.1 := by
  show (sty 16 (waitS (nt1 σ))).2.2.1 = _
  rw [sty_2]
  rfl
theorem kpW_calm {pt : Nat} (hp : pt ≤ 9) : ∀ (L : List Od), ∀ o ∈ kpW pt L, o 4 < 9
  | [], o, h => by cases h
  | x :: t, o, h => by
    simp only [kpW] at h
    split at h
    · exact kpW_calm hp t o h
    · rcases List.mem_cons.mp h with q | q
      · rw [q, nSet_s]; omega
      · exact kpW_calm hp t o q
theorem okS_clr : ∀ (k : Nat) (σ : Sg), okS σ → okS (clr k σ)
  | 0, _, h => h
  | k + 1, σ, h => by
    simp only [clr]
    split
    · refine okS_clr k _ ?_
      unfold sback
      split
      · exact h
      · rename_i b hb
        exact h.front (by have := (lng_lt hb).1; omega) (by omega)
    · exact h
theorem okS_dl {l : Nat} (hl : l < 16) : ∀ (L : List Od) (σ : Sg), okS σ → (∀ o ∈ L, okO o) → okS (dl l L σ)
  | [], _, h, _ => h
  | o :: t, σ, h, hO => by
    simp only [dl]
    refine okS_dl hl t _ ?_ (fun o' ho' => hO o' (List.mem_cons_of_mem _ ho'))
    obtain ⟨h0, h1, h2, h3, h4, h5⟩ := hO o List.mem_cons_self
    split
    · exact h.sd ⟨h0, hl, h2, h3, h4, Nat.zero_lt_succ _⟩
    · exact h
theorem okS_bring {σ : Sg} (h : okS σ) {l : Nat} (hl : l < 16) : okS (bringS σ l) := by
  have h1 : okS (bring1 σ l) := (((okS_clr 16 σ h).front (k := 14 + l) (v := 1) (by omega) (by omega)).sn (k := 30 + l) (by omega)).sn (k := 12) (by omega)
  have h2 := okS_dl hl σ.2.2.1 _ h1 h.2.2.2.1
  exact h2.so (Nat.le_trans (kp_len _ _) h.2.2.1) (fun o ho => h.2.2.2.1 o (kp_mem ho))
theorem okS_trn : ∀ (r : Nat) (σ : Sg), okS σ → okS (trn r σ)
  | 0, _, h => h
  | r + 1, σ, h => by
    simp only [trn]
    split
    · exact h
    · rename_i b hb
      exact okS_trn r _ (okS_bring h (wantS_lt h hb))
theorem trn_low : ∀ (r : Nat) (σ : Sg), okS σ → ∀ j, j < 7 → (trn r σ).1 j = σ.1 j
  | 0, _, _, _, _ => rfl
  | r + 1, σ, h, j, hj => by
    simp only [trn]
    split
    · rfl
    · rename_i b hb
      exact (trn_low r _ (okS_bring h (wantS_lt h hb)) j hj).trans (bring_low h hj)
theorem okS_nt1 {σ : Sg} (h : okS σ) : okS (nt1 σ) := (okS_trn _ _ h).sn (by omega)
theorem nt1_low {σ : Sg} (h : okS σ) {j : Nat} (hj : j < 7) : (nt1 σ).1 j = σ.1 j := (upn_n (by omega)).trans (trn_low _ _ h j hj)
theorem kpW_ok {pt : Nat} (hp : pt ≤ 9) : ∀ (L : List Od), (∀ o ∈ L, okO o) → ∀ o ∈ kpW pt L, okO o
  | [], _, o, h => by cases h
  | x :: t, hO, o, h => by
    simp only [kpW] at h
    split at h
    · exact kpW_ok hp t (fun o' ho' => hO o' (List.mem_cons_of_mem _ ho')) o h
    · rcases List.mem_cons.mp h with q | q
      · rw [q]; exact (hO x List.mem_cons_self).wait (by omega)
      · exact kpW_ok hp t (fun o' ho' => hO o' (List.mem_cons_of_mem _ ho')) o q
theorem kpW_len (pt : Nat) : ∀ L : List Od, (kpW pt L).length ≤ L.length
  | [] => Nat.le_refl _
  | x :: t => by
    have := kpW_len pt t
    simp only [kpW]
    split <;> simp only [List.length_cons] <;> omega
theorem okS_lapse1 {σ : Sg} (h : okS σ) {o : Od} (ho : okO o) : okS (lapse1 σ o) := by
  have h0 := ho.1
  exact (((h.sn (k := 54 + o 0) (v := σ.1 (54 + o 0) + 1) (by omega)).sn (k := 8) (v := σ.1 8 + 1) (by omega)).sp (c := o 0) (x := σ.2.1 (o 0) + nI (o 3))).sn (k := 11) (by omega)
theorem okS_lpS {pt : Nat} : ∀ (L : List Od) (σ : Sg), okS σ → (∀ o ∈ L, okO o) → okS (lpS pt L σ)
  | [], _, h, _ => h
  | o :: t, σ, h, hO => by
    simp only [lpS]
    refine okS_lpS t _ ?_ (fun o' ho' => hO o' (List.mem_cons_of_mem _ ho'))
    split
    · exact okS_lapse1 h (hO o List.mem_cons_self)
    · exact h
theorem okS_wait {σ : Sg} (h : okS σ) : okS (waitS σ) :=
  (okS_lpS σ.2.2.1 σ h h.2.2.2.1).so (Nat.le_trans (kpW_len _ _) h.2.2.1) (kpW_ok h.1.2.2.2.2.2.2.1 _ h.2.2.2.1)
theorem okS_sty : ∀ (k : Nat) (σ : Sg), k ≤ 16 → okS σ → okS (sty k σ)
  | 0, _, _, h => h
  | k + 1, σ, hk, h => by
    simp only [sty]
    exact (okS_sty k σ (by omega) h).front (by omega) (stv_le h.1.2.2.2.2.1)
theorem okS_night {σ : Sg} (h : okS σ) : okS (nightS σ) := (okS_sty 16 _ (by omega) (okS_wait (okS_nt1 h))).sn (by omega)
theorem night_calm {σ : Sg} (h : okS σ) : ∀ o ∈ (nightS σ).2.2.1, o 4 < 9 := by
  rw [night_open]
  exact kpW_calm (okS_nt1 h).1.2.2.2.2.2.2.1 _
theorem okS_nights {σ : Sg} (h : okS σ) : ∀ k : Nat, okS (nightsS k σ)
  | 0 => h
  | k + 1 => okS_night (okS_nights h k)
def calm (σ : Sg) : Prop := ∀ o ∈ σ.2.2.1, o 4 < 9
theorem nights_calm {σ : Sg} (h : okS σ) (hc : calm σ) : ∀ k : Nat, calm (nightsS k σ)
  | 0 => hc
  | k + 1 => night_calm (okS_nights h k)
