/-! The class's cells: rows of orders, a store. -/
abbrev OR : Type := Nat → Int32
def oRow (o : Od) : OR := fun w => if w < 5 then nI (o w) else 0
def Rw (f : Nat → Int32) (R : List OR) : Prop := ∀ i w r, R[i]? = some r → w < 5 → f (5 * i + w) = r w
def jOr (g : jG) (H : Heap) (b : Nat) (R : List OR) : Prop := jO g H b 1 [.ref (b + 1), .int (nI R.length)] ∧ R.length ≤ 21 ∧ ∃ f, jI g H (b + 1) 105 f ∧ Rw f R
theorem jOr.kept {g : jG} {H H1 : Heap} {b : Nat} {R : List OR} (h : jOr g H b R) (hq : ∀ q : Nat, b ≤ q → q < b + 2 → H1[q]? = H[q]?) : jOr g H1 b R := by
  obtain ⟨h1, h2, f, h3, h4⟩ := h
  exact ⟨h1.kept (hq _ (by omega) (by omega)), h2, f, h3.kept (hq _ (by omega) (by omega)), h4⟩
/-- what the class reads of an order -/
def gtR (R : List OR) (i w : Int32) : Int32 := match ix i 0 R.length with
  | none => -1
  | some j => match ix w 0 5 with
    | none => -1
    | some u => match R[j]? with
      | none => -1
      | some r => r u
theorem gtR_in {R : List OR} {j u : Nat} {r : OR} (h : R[j]? = some r) (hu : u < 5) (hn : R.length < 2 ^ 30) : gtR R (nI j) (nI u) = r u := by
  have hj : j < R.length := (List.getElem?_eq_some_iff.mp h).1
  simp only [gtR, ix_nI (Nat.zero_le j) hj (by omega), ix_nI (Nat.zero_le u) hu (by decide), h]
theorem gtR_no1 {R : List OR} {i w : Int32} (h : ix i 0 R.length = none) : gtR R i w = -1 := by simp only [gtR, h]
theorem gtR_no2 {R : List OR} {i w : Int32} (h : ix w 0 5 = none) : gtR R i w = -1 := by
  simp only [gtR, h]
  split <;> rfl
theorem gtR_e {R : List OR} {u : Nat} (h : R = []) : gtR R (nI 0) (nI u) = -1 := gtR_no1 (by rw [h]; exact ix_none (by decide))
theorem ix_lt0 {x : Int32} {n : Nat} (h : x < 0) : ix x 0 n = none := ix_none (fun q => by
  have h1 := Int32.lt_iff_toInt_lt.mp h
  have h2 : (0 : Int32).toInt = 0 := by decide
  omega)
theorem ix_ge {x : Int32} {n : Nat} (hn : n < 2 ^ 31) (h : nI n ≤ x) : ix x 0 n = none := ix_none (fun q => by
  have h1 := Int32.le_iff_toInt_le.mp h
  rw [nI_toInt hn] at h1
  omega)
theorem ix_both {x : Int32} {n : Nat} (hn : n < 2 ^ 31) (h0 : ¬ x < 0) (h : ¬ nI n ≤ x) : ∃ j, ix x 0 n = some j ∧ 0 ≤ j ∧ j < n ∧ x = nI j := ix_in (by
  have h1 : ¬ x.toInt < (0 : Int32).toInt := fun q => h0 (Int32.lt_iff_toInt_lt.mpr q)
  have h2 : ¬ (nI n).toInt ≤ x.toInt := fun q => h (Int32.le_iff_toInt_le.mpr q)
  have h3 : (0 : Int32).toInt = 0 := by decide
  rw [h3] at h1
  rw [nI_toInt hn] at h2
  omega)
theorem ix_lo {x : Int32} {a n : Nat} (ha : a < 2 ^ 31) (h : x < nI a) : ix x a n = none := ix_none (fun q => by
  have h1 := Int32.lt_iff_toInt_lt.mp h
  rw [nI_toInt ha] at h1
  omega)
theorem ix_hi {x : Int32} {a n : Nat} (hn : n < 2 ^ 31) (h : nI n < x) : ix x a (n + 1) = none := ix_none (fun q => by
  have h1 := Int32.lt_iff_toInt_lt.mp h
  rw [nI_toInt hn] at h1
  omega)
theorem ix_mid {x : Int32} {a n : Nat} (ha : a < 2 ^ 31) (hn : n < 2 ^ 31) (h0 : ¬ x < nI a) (h : ¬ nI n < x) : ∃ j, ix x a (n + 1) = some j ∧ a ≤ j ∧ j < n + 1 ∧ x = nI j := ix_in (by
  have h1 : ¬ x.toInt < (nI a).toInt := fun q => h0 (Int32.lt_iff_toInt_lt.mpr q)
  have h2 : ¬ (nI n).toInt < x.toInt := fun q => h (Int32.lt_iff_toInt_lt.mpr q)
  rw [nI_toInt ha] at h1
  rw [nI_toInt hn] at h2
  omega)
def rput (R : List OR) (i w : Nat) (v : Int32) : List OR := match R[i]? with
  | none => R
  | some r => R.set i (fun k => if k = w then v else r k)
theorem rput_len {R : List OR} {i w : Nat} {v : Int32} : (rput R i w v).length = R.length := by
  unfold rput
  split
  · rfl
  · rw [List.length_set]
theorem Rw.put {f : Nat → Int32} {R : List OR} (h : Rw f R) {i w : Nat} (hw : w < 5) {v : Int32} (hi : i < R.length) : Rw (upd f (i * 5 + w) v) (rput R i w v) := by
  obtain ⟨r, hr⟩ : ∃ r, R[i]? = some r := ⟨R[i], List.getElem?_eq_getElem hi⟩
  intro j u q hq hu
  unfold rput at hq
  rw [hr] at hq
  have hq : (R.set i (fun k => if k = w then v else r k))[j]? = some q := hq
  by_cases e : i = j
  · subst e
    rw [List.getElem?_set_self hi] at hq
    cases hq
    show upd f (i * 5 + w) v (5 * i + u) = if u = w then v else r u
    by_cases e2 : u = w
    · rw [if_pos e2, e2, show 5 * i + w = i * 5 + w by omega, pk_us]
    · rw [if_neg e2, pk_un (by omega)]; exact h i u r hr hu
  · rw [List.getElem?_set_ne e] at hq
    rw [pk_un (by omega)]; exact h j u q hq hu
def mkR (a b c d e : Int32) : OR := fun w => match w with | 0 => a | 1 => b | 2 => c | 3 => d | 4 => e | _ => 0
theorem Rw.add {f f1 f2 f3 f4 f5 : Nat → Int32} {R : List OR} {a b c d e : Int32} (h : Rw f R) (e1 : f1 = upd f (R.length * 5 + 0) a) (e2 : f2 = upd f1 (R.length * 5 + 1) b) (e3 : f3 = upd f2 (R.length * 5 + 2) c) (e4 : f4 = upd f3 (R.length * 5 + 3) d) (e5 : f5 = upd f4 (R.length * 5 + 4) e) : Rw f5 (R ++ [mkR a b c d e]) := by
  intro j u q hq hu
  rw [e5, e4, e3, e2, e1]
  by_cases hj : j < R.length
  · rw [List.getElem?_append_left hj] at hq
    rw [pk_un (by omega), pk_un (by omega), pk_un (by omega), pk_un (by omega), pk_un (by omega)]
    exact h j u q hq hu
  · have hl : j < (R ++ [mkR a b c d e]).length := (List.getElem?_eq_some_iff.mp hq).1
    rw [List.length_append] at hl
    have h1 : [mkR a b c d e].length = 1 := rfl
    have hj2 : j = R.length := by omega
    subst hj2
    rw [List.getElem?_append_right (Nat.le_refl _), Nat.sub_self] at hq
    cases hq
    match u, hu with
    | 0, _ => rw [pk_un (by omega), pk_un (by omega), pk_un (by omega), pk_un (by omega), show 5 * R.length + 0 = R.length * 5 + 0 by omega, pk_us]; rfl
    | 1, _ => rw [pk_un (by omega), pk_un (by omega), pk_un (by omega), show 5 * R.length + 1 = R.length * 5 + 1 by omega, pk_us]; rfl
    | 2, _ => rw [pk_un (by omega), pk_un (by omega), show 5 * R.length + 2 = R.length * 5 + 2 by omega, pk_us]; rfl
    | 3, _ => rw [pk_un (by omega), show 5 * R.length + 3 = R.length * 5 + 3 by omega, pk_us]; rfl
    | 4, _ => rw [show 5 * R.length + 4 = R.length * 5 + 4 by omega, pk_us]; rfl
/-- the orders that have not ended -/
def gone (r : OR) : Bool := decide (r 0 = -1)
def kpt (R : List OR) : List OR := R.filter (fun r => !gone r)
/-- the rows as they lie there -/
def rowsOf (f : Nat → Int32) (n : Nat) : List OR := (List.range n).map (fun i w => f (5 * i + w))
theorem rowsOf_len {f : Nat → Int32} {n : Nat} : (rowsOf f n).length = n := by unfold rowsOf; rw [List.length_map, List.length_range]
theorem rowsOf_get {f : Nat → Int32} {n i : Nat} (h : i < n) : (rowsOf f n)[i]? = some (fun w => f (5 * i + w)) := by
  unfold rowsOf
  rw [List.getElem?_map, List.getElem?_range h]; rfl
theorem Rw_rows {f : Nat → Int32} {n : Nat} : Rw f (rowsOf f n) := by
  intro i w r hr _
  have hi : i < n := by have := (List.getElem?_eq_some_iff.mp hr).1; rw [rowsOf_len] at this; exact this
  rw [rowsOf_get hi] at hr
  cases hr
  rfl
theorem kpt_take {R : List OR} {j : Nat} {r : OR} (h : R[j]? = some r) : kpt (R.take (j + 1)) = kpt (R.take j) ++ (if r 0 = -1 then [] else [r]) := by
  unfold kpt
  rw [List.take_add_one, h, List.filter_append]
  congr 1
  show List.filter _ [r] = _
  unfold gone
  by_cases q : r 0 = -1
  · rw [if_pos q]; simp [q]
  · rw [if_neg q]; simp [q]
theorem kpt_len {R : List OR} : (kpt R).length ≤ R.length := List.length_filter_le _ _
/-- while the gaps are closed -/
def Gap (f : Nat → Int32) (R : List OR) (j : Nat) : Prop := Rw f (kpt (R.take j)) ∧ ∀ i w r, j ≤ i → R[i]? = some r → w < 5 → f (5 * i + w) = r w
theorem Gap.start {f : Nat → Int32} {R : List OR} (h : Rw f R) : Gap f R 0 := ⟨(fun i w r hr => by cases i <;> cases hr), fun i w r _ hr hw => h i w r hr hw⟩
theorem Gap.skip {f : Nat → Int32} {R : List OR} {j : Nat} {r : OR} (h : Gap f R j) (hr : R[j]? = some r) (hm : r 0 = -1) : Gap f R (j + 1) := by
  refine ⟨?_, fun i w q hi hq hw => h.2 i w q (by omega) hq hw⟩
  rw [kpt_take hr, if_pos hm, List.append_nil]; exact h.1
theorem Gap.keep {f f1 : Nat → Int32} {R : List OR} {j k : Nat} {r : OR} (h : Gap f R j) (hr : R[j]? = some r) (hm : ¬ r 0 = -1) (hk : k = (kpt (R.take j)).length) (e1 : f1 = va_cpy f f (j * 5) (k * 5) 5) : Gap f1 R (j + 1) := by
  have hkj : k ≤ j := by
    have h1 := kpt_len (R := R.take j)
    rw [List.length_take] at h1
    omega
  subst hk
  refine ⟨?_, fun i w q hi hq hw => ?_⟩
  · rw [kpt_take hr, if_neg hm]
    intro i w q hq hw
    by_cases hi : i < (kpt (R.take j)).length
    · rw [List.getElem?_append_left hi] at hq
      rw [e1]
      simp only [va_cpy]
      rw [if_neg (by omega)]
      exact h.1 i w q hq hw
    · have hl := (List.getElem?_eq_some_iff.mp hq).1
      rw [List.length_append] at hl
      have h1 : [r].length = 1 := rfl
      have hi2 : i = (kpt (R.take j)).length := by omega
      rw [hi2, List.getElem?_append_right (Nat.le_refl _), Nat.sub_self] at hq
      cases hq
      rw [e1]
      simp only [va_cpy]
      rw [if_pos (by omega), ← h.2 j w r (Nat.le_refl _) hr hw]
      congr 1
      omega
  · rw [e1]
    simp only [va_cpy]
    rw [if_neg (by omega)]
    exact h.2 i w q (by omega) hq hw
theorem Gap.stop {f : Nat → Int32} {R : List OR} (h : Gap f R R.length) : Rw f (kpt R) := by
  have := h.1
  rw [List.take_length] at this
  exact this
theorem ix_both2 {x : Int32} {n : Nat} (hn : n < 2 ^ 31) (h0 : ¬ x < 0) (h : ¬ nI n < x) : ∃ j, ix x 0 (n + 1) = some j ∧ 0 ≤ j ∧ j < n + 1 ∧ x = nI j := ix_mid (a := 0) (by decide) hn h0 h
/-- a store -/
def cnN (k : Nat) : Nat := match k with | 0 => 5 | 2 => 7 | 3 => 8 | 4 => 9 | 5 => 10 | 7 => 11 | 9 => 12 | _ => 13
def Sto (se pu dt la fr tk ct : Nat → Int32) (σ : Sg) : Prop := (∀ k, k < 5 → se k = nI (σ.1 k)) ∧ (∀ k, k < 4 → pu k = σ.2.1 k) ∧ (∀ k, k < 4 → dt k = nI (σ.1 (50 + k))) ∧ (∀ k, k < 4 → la k = nI (σ.1 (54 + k))) ∧ (∀ k, k < 16 → fr k = nI (σ.1 (14 + k)) - nI 1) ∧ (∀ k, k < 16 → tk k = nI (σ.1 (30 + k))) ∧ (∀ k, k < 11 → k ≠ 1 → k ≠ 6 → k ≠ 8 → ct k = nI (σ.1 (cnN k)))
def latR (σ : Sg) : List OR := (σ.2.2.2.map oRow).reverse
def opnR (σ : Sg) : List OR := σ.2.2.1.map oRow
def jSo (g : jG) (H : Heap) (a : Nat) (σ : Sg) (R : List OR) : Prop := ∃ se pu dt la fr tk ct, jO g H a 2 [.ref (a + 1), .ref (a + 2), .ref (a + 3), .ref (a + 4), .ref (a + 5), .ref (a + 6), .ref (a + 7), .ref (a + 9), .ref (a + 11)] ∧ jI g H (a + 1) 5 se ∧ jI g H (a + 2) 4 pu ∧ jI g H (a + 3) 4 dt ∧ jI g H (a + 4) 4 la ∧ jI g H (a + 5) 16 fr ∧ jI g H (a + 6) 16 tk ∧ jOr g H (a + 7) R ∧ jOr g H (a + 9) (latR σ) ∧ jI g H (a + 11) 11 ct ∧ Sto se pu dt la fr tk ct σ
theorem jSo.kept {g : jG} {H H1 : Heap} {a : Nat} {σ : Sg} {R : List OR} (h : jSo g H a σ R) (hq : ∀ q : Nat, a ≤ q → q < a + 12 → H1[q]? = H[q]?) : jSo g H1 a σ R := by
  obtain ⟨se, pu, dt, la, fr, tk, ct, h0, h1, h2, h3, h4, h5, h6, h7, h9, h11, hR⟩ := h
  exact ⟨se, pu, dt, la, fr, tk, ct, h0.kept (hq _ (by omega) (by omega)), h1.kept (hq _ (by omega) (by omega)), h2.kept (hq _ (by omega) (by omega)), h3.kept (hq _ (by omega) (by omega)), h4.kept (hq _ (by omega) (by omega)), h5.kept (hq _ (by omega) (by omega)), h6.kept (hq _ (by omega) (by omega)), h7.kept (fun q _ _ => hq q (by omega) (by omega)), h9.kept (fun q _ _ => hq q (by omega) (by omega)), h11.kept (hq _ (by omega) (by omega)), hR⟩
theorem jSo.obj {g : jG} {H : Heap} {a : Nat} {σ : Sg} {R : List OR} (h : jSo g H a σ R) : jO g H a 2 [.ref (a + 1), .ref (a + 2), .ref (a + 3), .ref (a + 4), .ref (a + 5), .ref (a + 6), .ref (a + 7), .ref (a + 9), .ref (a + 11)] := by
  obtain ⟨_, _, _, _, _, _, _, h0, _⟩ := h
  exact h0
section STO
variable {se pu dt la fr tk ct : Nat → Int32} {σ : Sg}
theorem Sto.rse (h : Sto se pu dt la fr tk ct σ) {k : Nat} (hk : k < 5) : se k = nI (σ.1 k) := h.1 k hk
theorem Sto.rpu (h : Sto se pu dt la fr tk ct σ) {k : Nat} (hk : k < 4) : pu k = σ.2.1 k := h.2.1 k hk
theorem Sto.rdt (h : Sto se pu dt la fr tk ct σ) {k : Nat} (hk : k < 4) : dt k = nI (σ.1 (50 + k)) := h.2.2.1 k hk
theorem Sto.rla (h : Sto se pu dt la fr tk ct σ) {k : Nat} (hk : k < 4) : la k = nI (σ.1 (54 + k)) := h.2.2.2.1 k hk
theorem Sto.rfr (h : Sto se pu dt la fr tk ct σ) {k : Nat} (hk : k < 16) : fr k = nI (σ.1 (14 + k)) - nI 1 := h.2.2.2.2.1 k hk
theorem Sto.rtk (h : Sto se pu dt la fr tk ct σ) {k : Nat} (hk : k < 16) : tk k = nI (σ.1 (30 + k)) := h.2.2.2.2.2.1 k hk
theorem Sto.rct (h : Sto se pu dt la fr tk ct σ) {k : Nat} (hk : k < 11 ∧ k ≠ 1 ∧ k ≠ 6 ∧ k ≠ 8) : ct k = nI (σ.1 (cnN k)) := h.2.2.2.2.2.2 k hk.1 hk.2.1 hk.2.2.1 hk.2.2.2
theorem cnN_ge {k : Nat} : 5 ≤ cnN k ∧ cnN k < 14 ∧ cnN k ≠ 6 := by unfold cnN; split <;> omega
theorem Sto.wse (h : Sto se pu dt la fr tk ct σ) {k v : Nat} {x : Int32} (hk : k < 5) (hx : x = nI v) : Sto (upd se k x) pu dt la fr tk ct (upn σ k v) := by
  obtain ⟨h1, h2, h3, h4, h5, h6, h7⟩ := h
  refine ⟨fun j hj => ?_, h2, fun j hj => by rw [h3 j hj, upn_n (by omega)], fun j hj => by rw [h4 j hj, upn_n (by omega)], fun j hj => by rw [h5 j hj, upn_n (by omega)], fun j hj => by rw [h6 j hj, upn_n (by omega)], fun j a b c d => by have := cnN_ge (k := j); rw [h7 j a b c d, upn_n (by omega)]⟩
  by_cases q : j = k
  · rw [q, pk_us, upn_s, hx]
  · rw [pk_un q, upn_n q]; exact h1 j hj
theorem Sto.wpu (h : Sto se pu dt la fr tk ct σ) {k : Nat} {x y : Int32} (_hk : k < 4) (hx : x = y) : Sto se (upd pu k x) dt la fr tk ct (upp σ k y) := by
  obtain ⟨h1, h2, h3, h4, h5, h6, h7⟩ := h
  refine ⟨h1, fun j hj => ?_, h3, h4, h5, h6, h7⟩
  show upd pu k x j = if j = k then y else σ.2.1 j
  by_cases q : j = k
  · rw [if_pos q, q, pk_us, hx]
  · rw [if_neg q, pk_un q]; exact h2 j hj
theorem Sto.wdt (h : Sto se pu dt la fr tk ct σ) {k v : Nat} {x : Int32} (hk : k < 4) (hx : x = nI v) : Sto se pu (upd dt k x) la fr tk ct (upn σ (50 + k) v) := by
  obtain ⟨h1, h2, h3, h4, h5, h6, h7⟩ := h
  refine ⟨fun j hj => by rw [h1 j hj, upn_n (by omega)], h2, fun j hj => ?_, fun j hj => by rw [h4 j hj, upn_n (by omega)], fun j hj => by rw [h5 j hj, upn_n (by omega)], fun j hj => by rw [h6 j hj, upn_n (by omega)], fun j a b c d => by have := cnN_ge (k := j); rw [h7 j a b c d, upn_n (by omega)]⟩
  by_cases q : j = k
  · rw [q, pk_us, upn_s, hx]
  · rw [pk_un q, upn_n (by omega)]; exact h3 j hj
theorem Sto.wla (h : Sto se pu dt la fr tk ct σ) {k v : Nat} {x : Int32} (hk : k < 4) (hx : x = nI v) : Sto se pu dt (upd la k x) fr tk ct (upn σ (54 + k) v) := by
  obtain ⟨h1, h2, h3, h4, h5, h6, h7⟩ := h
  refine ⟨fun j hj => by rw [h1 j hj, upn_n (by omega)], h2, fun j hj => by rw [h3 j hj, upn_n (by omega)], fun j hj => ?_, fun j hj => by rw [h5 j hj, upn_n (by omega)], fun j hj => by rw [h6 j hj, upn_n (by omega)], fun j a b c d => by have := cnN_ge (k := j); rw [h7 j a b c d, upn_n (by omega)]⟩
  by_cases q : j = k
  · rw [q, pk_us, upn_s, hx]
  · rw [pk_un q, upn_n (by omega)]; exact h4 j hj
theorem Sto.wfr (h : Sto se pu dt la fr tk ct σ) {k v : Nat} {x : Int32} (hk : k < 16) (hx : x = nI v - nI 1) : Sto se pu dt la (upd fr k x) tk ct (upn σ (14 + k) v) := by
  obtain ⟨h1, h2, h3, h4, h5, h6, h7⟩ := h
  refine ⟨fun j hj => by rw [h1 j hj, upn_n (by omega)], h2, fun j hj => by rw [h3 j hj, upn_n (by omega)], fun j hj => by rw [h4 j hj, upn_n (by omega)], fun j hj => ?_, fun j hj => by rw [h6 j hj, upn_n (by omega)], fun j a b c d => by have := cnN_ge (k := j); rw [h7 j a b c d, upn_n (by omega)]⟩
  by_cases q : j = k
  · rw [q, pk_us, upn_s, hx]
  · rw [pk_un q, upn_n (by omega)]; exact h5 j hj
theorem Sto.wtk (h : Sto se pu dt la fr tk ct σ) {k v : Nat} {x : Int32} (hk : k < 16) (hx : x = nI v) : Sto se pu dt la fr (upd tk k x) ct (upn σ (30 + k) v) := by
  obtain ⟨h1, h2, h3, h4, h5, h6, h7⟩ := h
  refine ⟨fun j hj => by rw [h1 j hj, upn_n (by omega)], h2, fun j hj => by rw [h3 j hj, upn_n (by omega)], fun j hj => by rw [h4 j hj, upn_n (by omega)], fun j hj => by rw [h5 j hj, upn_n (by omega)], fun j hj => ?_, fun j a b c d => by have := cnN_ge (k := j); rw [h7 j a b c d, upn_n (by omega)]⟩
  by_cases q : j = k
  · rw [q, pk_us, upn_s, hx]
  · rw [pk_un q, upn_n (by omega)]; exact h6 j hj
theorem cnN_inj {j k : Nat} (hj : j < 11 ∧ j ≠ 1 ∧ j ≠ 6 ∧ j ≠ 8) (hk : k < 11 ∧ k ≠ 1 ∧ k ≠ 6 ∧ k ≠ 8) (h : cnN j = cnN k) : j = k := by
  have h1 : j = 0 ∨ j = 2 ∨ j = 3 ∨ j = 4 ∨ j = 5 ∨ j = 7 ∨ j = 9 ∨ j = 10 := by omega
  have h2 : k = 0 ∨ k = 2 ∨ k = 3 ∨ k = 4 ∨ k = 5 ∨ k = 7 ∨ k = 9 ∨ k = 10 := by omega
  rcases h1 with rfl | rfl | rfl | rfl | rfl | rfl | rfl | rfl <;> rcases h2 with rfl | rfl | rfl | rfl | rfl | rfl | rfl | rfl <;> first | rfl | (exfalso; revert h; decide)
theorem Sto.wct (h : Sto se pu dt la fr tk ct σ) {k v : Nat} {x : Int32} (hk : k < 11 ∧ k ≠ 1 ∧ k ≠ 6 ∧ k ≠ 8) (hx : x = nI v) : Sto se pu dt la fr tk (upd ct k x) (upn σ (cnN k) v) := by
  obtain ⟨h1, h2, h3, h4, h5, h6, h7⟩ := h
  have hc := cnN_ge (k := k)
  refine ⟨fun j hj => by rw [h1 j hj, upn_n (by omega)], h2, fun j hj => by rw [h3 j hj, upn_n (by omega)], fun j hj => by rw [h4 j hj, upn_n (by omega)], fun j hj => by rw [h5 j hj, upn_n (by omega)], fun j hj => by rw [h6 j hj, upn_n (by omega)], fun j a b c d => ?_⟩
  by_cases q : j = k
  · rw [q, pk_us, upn_s, hx]
  · rw [pk_un q, upn_n (fun e => q (cnN_inj ⟨a, b, c, d⟩ hk e))]; exact h7 j a b c d
end STO
