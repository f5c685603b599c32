/-! WHAT A STATE IS. An order: its numbers (reader, lot, item, fee, waited, watched). A state: its numbers (places as in the reference's row), the purses, the open orders, those delivered lately (the last one first). -/
abbrev Od : Type := Nat → Nat
abbrev Sg : Type := (Nat → Nat) × (Nat → Int32) × List Od × List Od
def mkO (r l i f w v : Nat) : Od := fun k => match k with | 0 => r | 1 => l | 2 => i | 3 => f | 4 => w | _ => v
def okO (o : Od) : Prop := o 0 < 4 ∧ o 1 < 16 ∧ o 2 < 8 ∧ o 3 < 10 ∧ o 4 < 10 ∧ o 5 < 2
def okS (σ : Sg) : Prop := (σ.1 0 ≤ 16 ∧ 1 ≤ σ.1 1 ∧ σ.1 1 ≤ 6 ∧ 1 ≤ σ.1 2 ∧ σ.1 2 ≤ 9 ∧ 1 ≤ σ.1 3 ∧ σ.1 3 ≤ 9 ∧ σ.1 4 ≤ 2) ∧ (∀ l, l < 16 → σ.1 (14 + l) ≤ 10) ∧ σ.2.2.1.length ≤ 21 ∧ (∀ o ∈ σ.2.2.1, okO o) ∧ σ.2.2.2.length ≤ 10 ∧ (∀ o ∈ σ.2.2.2, okO o)
/-- the places of a delivered order's numbers in the reference's row -/
def lw (w : Nat) : Nat := match w with | 3 => 4 | 4 => 3 | w => w
/-- the reference's row of numbers holds the state -/
def Row (f : Nat → Int32) (σ : Sg) : Prop := (∀ k, k < 58 → k ≠ 6 → (k < 46 ∨ 50 ≤ k) → f k = nI (σ.1 k)) ∧ (∀ c, c < 4 → f (46 + c) = σ.2.1 c) ∧ f 6 = nI σ.2.2.1.length ∧ f 58 = nI σ.2.2.2.length ∧ (∀ i w o, σ.2.2.1[i]? = some o → w < 6 → f (109 + 6 * i + w) = nI (o w)) ∧ (∀ i w o, σ.2.2.2[i]? = some o → w < 5 → f (59 + 5 * i + w) = nI (o (lw w)))
theorem Row.n {f : Nat → Int32} {σ : Sg} (h : Row f σ) (k : Nat) (h1 : k < 58 ∧ k ≠ 6 ∧ (k < 46 ∨ 50 ≤ k)) : f k = nI (σ.1 k) := h.1 k h1.1 h1.2.1 h1.2.2
theorem Row.p {f : Nat → Int32} {σ : Sg} (h : Row f σ) {k : Nat} (c : Nat) (hc : c < 4) (hk : k = 46 + c) : f k = σ.2.1 c := by rw [hk]; exact h.2.1 c hc
theorem Row.o {f : Nat → Int32} {σ : Sg} (h : Row f σ) {i k : Nat} {o : Od} (ho : σ.2.2.1[i]? = some o) (w : Nat) (hw : w < 6) (hk : k = 109 + 6 * i + w) : f k = nI (o w) := by rw [hk]; exact h.2.2.2.2.1 i w o ho hw
theorem Row.d {f : Nat → Int32} {σ : Sg} (h : Row f σ) {i k : Nat} {o : Od} (ho : σ.2.2.2[i]? = some o) (w : Nat) (hw : w < 5) (hk : k = 59 + 5 * i + w) : f k = nI (o (lw w)) := by rw [hk]; exact h.2.2.2.2.2 i w o ho hw
theorem getO {L : List Od} {k : Nat} (h : k < L.length) : ∃ o, L[k]? = some o := ⟨L[k], List.getElem?_eq_getElem h⟩
theorem memO {L : List Od} {k : Nat} {o : Od} (h : L[k]? = some o) : o ∈ L := List.mem_of_getElem? h
/-- sums over orders -/
def fsum (l : Nat) : List Od → Nat
  | [] => 0
  | o :: t => (if o 1 = l then o 3 else 0) + fsum l t
def ocnt (w l : Nat) : List Od → Nat
  | [] => 0
  | o :: t => (if o w = l then 1 else 0) + ocnt w l t
theorem fsum_app (l : Nat) (a b : List Od) : fsum l (a ++ b) = fsum l a + fsum l b := by
  induction a with
  | nil => simp [fsum]
  | cons o t ih => simp [fsum, ih, Nat.add_assoc]
theorem ocnt_app (w l : Nat) (a b : List Od) : ocnt w l (a ++ b) = ocnt w l a + ocnt w l b := by
  induction a with
  | nil => simp [ocnt]
  | cons o t ih => simp [ocnt, ih, Nat.add_assoc]
theorem takeO {L : List Od} {k : Nat} {o : Od} (h : L[k]? = some o) : L.take (k + 1) = L.take k ++ [o] := by
  rw [List.take_add_one, h]; rfl
theorem fsum_take {l : Nat} {L : List Od} {k : Nat} {o : Od} (h : L[k]? = some o) : fsum l (L.take (k + 1)) = fsum l (L.take k) + (if o 1 = l then o 3 else 0) := by
  rw [takeO h, fsum_app]; simp [fsum]
theorem ocnt_take {w l : Nat} {L : List Od} {k : Nat} {o : Od} (h : L[k]? = some o) : ocnt w l (L.take (k + 1)) = ocnt w l (L.take k) + (if o w = l then 1 else 0) := by
  rw [takeO h, ocnt_app]; simp [ocnt]
theorem fsum_le {l : Nat} {L : List Od} (h : ∀ o ∈ L, okO o) : fsum l L ≤ 9 * L.length := by
  induction L with
  | nil => simp [fsum]
  | cons o t ih =>
    have h1 := ih (fun o' ho' => h o' (List.mem_cons_of_mem _ ho'))
    have h2 := (h o List.mem_cons_self).2.2.2.1
    simp only [fsum, List.length_cons]
    split <;> omega
theorem ocnt_le {w l : Nat} {L : List Od} : ocnt w l L ≤ L.length := by
  induction L with
  | nil => simp [ocnt]
  | cons o t ih =>
    simp only [ocnt, List.length_cons]
    split <;> omega
/-- lots in front -/
def fcnt (n : Nat → Nat) : Nat → Nat
  | 0 => 0
  | k + 1 => fcnt n k + (if 0 < n (14 + k) then 1 else 0)
theorem fcnt_le (n : Nat → Nat) (k : Nat) : fcnt n k ≤ k := by
  induction k with
  | zero => simp [fcnt]
  | succ k ih => simp only [fcnt]; split <;> omega
/-- copying within a row, a step -/
theorem cpy_0 {f g : Nat → Int32} {sp dp : Nat} : va_cpy f g sp dp 0 = g := by
  funext j; simp only [va_cpy]; rw [if_neg (by omega)]
theorem cpy_down {f : Nat → Int32} {sp dp k : Nat} (h : dp ≤ sp) : upd (va_cpy f f sp dp k) (dp + k) (va_cpy f f sp dp k (sp + k)) = va_cpy f f sp dp (k + 1) := by
  funext j
  simp only [upd, va_cpy]
  rw [if_neg (show ¬ (dp ≤ sp + k ∧ sp + k < dp + k) by omega)]
  by_cases h1 : j = dp + k
  · rw [if_pos h1, if_pos (by omega), h1, Nat.add_sub_cancel_left]
  · rw [if_neg h1]
    by_cases h2 : dp ≤ j ∧ j < dp + k
    · rw [if_pos h2, if_pos (by omega)]
    · rw [if_neg h2, if_neg (by omega)]
theorem cpy_two {f g : Nat → Int32} {sp dp k : Nat} : upd (va_cpy f g sp dp k) (dp + k) (f (sp + k)) = va_cpy f g sp dp (k + 1) := by
  funext j
  simp only [upd, va_cpy]
  by_cases h1 : j = dp + k
  · rw [if_pos h1, if_pos (by omega), h1, Nat.add_sub_cancel_left]
  · rw [if_neg h1]
    by_cases h2 : dp ≤ j ∧ j < dp + k
    · rw [if_pos h2, if_pos (by omega)]
    · rw [if_neg h2, if_neg (by omega)]
/-- copying from the last to the first: the upper part is done -/
def cpyU (f : Nat → Int32) (sp dp n k : Nat) : Nat → Int32 := fun j => if dp + k ≤ j ∧ j < dp + n then f (sp + (j - dp)) else f j
theorem cpyU_n {f : Nat → Int32} {sp dp n : Nat} : cpyU f sp dp n n = f := by
  funext j; simp only [cpyU]; rw [if_neg (by omega)]
theorem cpyU_0 {f : Nat → Int32} {sp dp n : Nat} : cpyU f sp dp n 0 = va_cpy f f sp dp n := by
  funext j; simp only [cpyU, va_cpy, Nat.add_zero]
theorem cpyU_step {f : Nat → Int32} {sp dp n k : Nat} (h : sp ≤ dp) (hk : k < n) : upd (cpyU f sp dp n (k + 1)) (dp + k) (cpyU f sp dp n (k + 1) (sp + k)) = cpyU f sp dp n k := by
  funext j
  simp only [upd, cpyU]
  rw [if_neg (show ¬ (dp + (k + 1) ≤ sp + k ∧ sp + k < dp + n) by omega)]
  by_cases h1 : j = dp + k
  · rw [if_pos h1, if_pos (by omega), h1, Nat.add_sub_cancel_left]
  · rw [if_neg h1]
    by_cases h2 : dp + (k + 1) ≤ j ∧ j < dp + n
    · rw [if_pos h2, if_pos (by omega)]
    · rw [if_neg h2, if_neg (by omega)]
theorem nI_m1 (j : Nat) : nI (j + 1) - 1 = nI j := nI_pred j
