/-! More answers. -/
def abN (σ : Sg) (u : Nat) : Nat := if u = 6 then hsum σ.2.2.1 16 else if u = 8 then fcnt σ.1 16 else if u = 1 then σ.2.2.1.length else if u < 6 then σ.1 (5 + u) else if u = 7 then σ.1 11 else σ.1 (12 + u - 9)
def fAbout (σ : Sg) (w : Int32) : Nat × Int32 := match ix w 0 11 with
  | none => (1, 0)
  | some u => (0, nI (abN σ u))
theorem Row.ab {f : Nat → Int32} {σ : Sg} (h : Row f σ) {u : Nat} (hu : u < 6) : f (5 + u) = nI (abN σ u) := by
  unfold abN
  rw [if_neg (by omega), if_neg (by omega)]
  by_cases q : u = 1
  · rw [if_pos q, q]; exact h.2.2.1
  · rw [if_neg q, if_pos hu]; exact h.n _ (by omega)
def fAppend (tx : List Nat) (c : Int32) : Nat × Int32 × List Nat := match ix c 0 256 with
  | none => (1, 0, tx)
  | some k => if tx.length = 120 then (2, 0, tx) else (0, nI (tx.length + 1), tx ++ [k])
theorem tIs_add {sc : Nat → Int32} {tx : List Nat} (h : tIs sc tx) {k : Nat} (hk : k < 256) : tIs (upd sc tx.length (nI k)) (tx ++ [k]) := by
  intro i c hc
  by_cases q : i < tx.length
  · rw [List.getElem?_append_left q] at hc
    rw [pk_un (by omega)]; exact h i c hc
  · have hl : i < (tx ++ [k]).length := (List.getElem?_eq_some_iff.mp hc).1
    rw [List.length_append] at hl
    have h1 : [k].length = 1 := rfl
    have hi2 : i = tx.length := by omega
    subst hi2
    rw [List.getElem?_append_right (Nat.le_refl _), Nat.sub_self] at hc
    cases hc
    rw [pk_us]; exact ⟨rfl, hk⟩
theorem MI.text {tx : List Nat} {σ : Sg} {hi : List Sg} {sv : Nat → Option Sg} {sc nw dy kp ik : Nat → Int32} (h : MI tx σ hi sv sc nw dy kp ik) {sc' : Nat → Int32} {tx' : List Nat} (h1 : tx'.length ≤ 120) (h2 : tIs sc' tx') : MI tx' σ hi sv sc' nw dy kp ik := ⟨h1, h2, h.2.2⟩
def wc (u : Nat) : Nat := match u with | 0 => 7 | 1 => 8 | 2 => 10 | _ => 12
def fWould (σ : Sg) (n w : Int32) : Nat × Int32 := match ix n 0 61 with
  | none => (1, 0)
  | some k => match ix w 0 4 with
    | none => (1, 0)
    | some u => (0, nI ((nightsS k σ).1 (wc u)) - nI (σ.1 (wc u)))
def fNext (σ : Sg) (k : Int32) : Nat × Int32 := match ix k 0 (2 ^ 31) with
  | none => (1, 0)
  | some j => (0, oI ((trl (σ.1 0) σ)[j]?))
theorem ix_neg {x : Int32} {n : Nat} (h : ¬ 0 ≤ x) : ix x 0 n = none := ix_none (fun q => h (Int32.le_iff_toInt_le.mpr (by have h0 : (0 : Int32).toInt = 0 := rfl; rw [h0]; exact q.1)))
theorem ix_pos {x : Int32} (h : 0 ≤ x) : ∃ j, j < 2 ^ 31 ∧ x = nI j ∧ ix x 0 (2 ^ 31) = some j := by
  obtain ⟨j, h1, h2⟩ := nI_of (x := x) (Int32.not_lt.mpr h)
  exact ⟨j, h1, h2, by rw [h2]; exact ix_nI (Nat.zero_le _) h1 (Nat.le_refl _)⟩
theorem Kep_save {kp ik nw : Nat → Int32} {sv : Nat → Option Sg} {σ : Sg} (h : Kep kp ik sv) {k : Nat} (hk : k < 2) (hR : Row nw σ) (hN : okN σ) : Kep (va_cpy nw kp 0 (235 * k) 235) (upd ik k (vp_nar .boolean (nI 1))) (fun j => if j = k then some σ else sv j) := by
  intro j hj
  by_cases q : j = k
  · subst q
    refine Or.inr ⟨σ, if_pos rfl, by rw [pk_us]; rfl, hR.cong hN.1 (fun i hi => ?_), hN⟩
    simp only [va_cpy]
    rw [if_pos (by omega)]
    congr 1
    omega
  · rcases h j hj with ⟨h1, h2⟩ | ⟨s, h1, h2, h3, h4⟩
    · exact Or.inl ⟨(if_neg q).trans h1, by rw [pk_un q]; exact h2⟩
    · refine Or.inr ⟨s, (if_neg q).trans h1, by rw [pk_un q]; exact h2, h3.cong h4.1 (fun i hi => ?_), h4⟩
      simp only [va_cpy]
      rw [if_neg (by omega)]
