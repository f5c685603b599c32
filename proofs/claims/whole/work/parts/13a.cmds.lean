/-! Commands on what is tried. -/
def okC (σ : Sg) : Prop := okS σ ∧ calm σ
def tAsk (σ : Sg) (c l it fe : Nat) : Option Sg := if c < 4 ∧ l < 16 ∧ (0 < σ.1 (14 + l) ∨ (σ.2.2.1.length < 20 ∧ nI fe ≤ σ.2.1 c)) then some (if 0 < σ.1 (14 + l) then askF σ c l it else askO σ c l it fe) else none
def tCancel (σ : Sg) (i : Nat) : Option Sg := match σ.2.2.1[i]? with
  | none => none
  | some o => some (cancelS σ i o)
def tRaise (σ : Sg) (i y : Nat) : Option Sg := if 1 ≤ y ∧ y < 10 then (match σ.2.2.1[i]? with
  | none => none
  | some o => if o 3 + y ≤ 9 ∧ nI y ≤ σ.2.1 (o 0) then some (raiseS σ i o y) else none) else none
def tNights (σ : Sg) (n : Nat) : Option Sg := if 1 ≤ n ∧ n < 31 then some (nightsS n σ) else none
def tSet (σ : Sg) (w v : Nat) : Option Sg := if w < 5 ∧ loS w ≤ v ∧ v ≤ hiS w then some (upn σ w v) else none
theorem tRaise_none {σ : Sg} {i y : Nat} (h : σ.2.2.1.length ≤ i) : tRaise σ i y = none := by
  unfold tRaise
  rw [List.getElem?_eq_none h]
  split <;> rfl
theorem okC.askF {σ : Sg} (h : okC σ) {c l it : Nat} (hc : c < 4) (hl : l < 16) (hi : it < 8) : okC (askF σ c l it) :=
  ⟨(h.1.front (k := 14 + l) (v := 1) (by omega) (by omega)).sd ⟨hc, hl, hi, Nat.zero_lt_succ _, Nat.zero_lt_succ _, Nat.zero_lt_succ _⟩, h.2⟩
theorem okC.askO {σ : Sg} (h : okC σ) {c l it fe : Nat} (hn : σ.2.2.1.length < 20) (ho : okO (mkO c l it fe 0 0)) : okC (askO σ c l it fe) := by
  refine ⟨(h.1.sp (c := c) (x := σ.2.1 c - nI fe)).so ?_ (fun o q => (List.mem_append.mp q).elim (h.1.2.2.2.1 o) (fun q => by rw [List.mem_singleton.mp q]; exact ho)), fun o q => ?_⟩
  · rw [List.length_append]; show σ.2.2.1.length + 1 ≤ 21; omega
  · rcases List.mem_append.mp (show o ∈ σ.2.2.1 ++ [mkO c l it fe 0 0] from q) with q | q
    · exact h.2 o q
    · rw [List.mem_singleton.mp q]; exact Nat.zero_lt_succ _
theorem okC_ask {σ σ' : Sg} (h : okC σ) {c l it fe : Nat} (hi : it < 8) (hf : fe < 10) (e : tAsk σ c l it fe = some σ') : okC σ' := by
  unfold tAsk at e
  split at e
  · rename_i q
    obtain ⟨q1, q2, q3⟩ := q
    split at e
    · cases e; exact h.askF q1 q2 hi
    · cases e
      rename_i q4
      exact h.askO (q3.resolve_left q4).1 ⟨q1, q2, hi, hf, Nat.zero_lt_succ _, Nat.zero_lt_succ _⟩
  · cases e
theorem okC_cancel {σ σ' : Sg} (h : okC σ) {i : Nat} (e : tCancel σ i = some σ') : okC σ' := by
  unfold tCancel at e
  split at e
  · cases e
  · rename_i o ho
    cases e
    exact ⟨((((h.1.sp (c := o 0) (x := σ.2.1 (o 0) + nI (o 3))).sn (k := 11) (v := σ.1 11 + o 3) (by omega)).erase i).sn (k := 9) (by omega)), fun x hx => h.2 x (List.mem_of_mem_eraseIdx hx)⟩
theorem okC_raise {σ σ' : Sg} (h : okC σ) {i y : Nat} (e : tRaise σ i y = some σ') : okC σ' := by
  unfold tRaise at e
  split at e
  · split at e
    · cases e
    · rename_i o ho
      split at e
      · rename_i q
        cases e
        refine ⟨(h.1.sp (c := o 0) (x := σ.2.1 (o 0) - nI y)).set i ((h.1.2.2.2.1 o (memO ho)).fee (by omega)), fun x hx => ?_⟩
        rcases List.mem_or_eq_of_mem_set (show x ∈ σ.2.2.1.set i (nSet o 3 (o 3 + y)) from hx) with q | q
        · exact h.2 x q
        · rw [q, nSet_n _ _ (by omega)]; exact h.2 o (memO ho)
      · cases e
  · cases e
theorem okC_nights {σ σ' : Sg} (h : okC σ) {n : Nat} (e : tNights σ n = some σ') : okC σ' := by
  unfold tNights at e
  split at e
  · cases e; exact ⟨okS_nights h.1 n, nights_calm h.1 h.2 n⟩
  · cases e
theorem okC_set {σ σ' : Sg} (h : okC σ) {w v : Nat} (e : tSet σ w v = some σ') : okC σ' := by
  unfold tSet at e
  split at e
  · rename_i q
    cases e
    exact ⟨okS_set h.1 q.1 q.2.1 (Or.inl q.2.2), h.2⟩
  · cases e
def doG (σ : Sg) (gp : Nat) : Option Sg := match gp / 10000 with
  | 1 => tAsk σ (gp / 1000 % 10) (gp / 10 % 100) 0 (gp % 10)
  | 2 => if gp % 100 = 0 then tCancel σ (gp / 100 % 100) else none
  | 3 => if gp % 100 < 10 then tRaise σ (gp / 100 % 100) (gp % 100) else none
  | 4 => if gp / 100 % 100 = 0 then tNights σ (gp % 100) else none
  | 5 => if gp / 100 % 100 % 10 = 0 ∧ gp % 100 % 10 = 0 then tSet σ (gp / 1000 % 10) (gp % 100 / 10) else none
  | 6 => if gp / 100 % 100 < 16 ∧ gp % 100 < 2 ∧ (0 < σ.1 (14 + gp / 100 % 100) ↔ gp % 100 = 1) then some σ else none
  | 7 => if gp / 1000 % 10 < 4 ∧ gp / 100 % 100 % 10 = 0 ∧ nI (gp % 100) ≤ nI (σ.1 (50 + gp / 1000 % 10)) then some σ else none
  | 8 => if gp / 100 % 100 = 0 ∧ nI (σ.1 8) ≤ nI (gp % 100) then some σ else none
  | 9 => if gp / 1000 % 10 = 0 ∧ nI (gp % 1000) ≤ nI (σ.1 10) then some σ else none
  | _ => none
theorem okC_do {σ σ' : Sg} (h : okC σ) {gp : Nat} (e : doG σ gp = some σ') : okC σ' := by
  unfold doG at e
  split at e
  · exact okC_ask h (by omega) (by omega) e
  · split at e
    · exact okC_cancel h e
    · cases e
  · split at e
    · exact okC_raise h e
    · cases e
  · split at e
    · exact okC_nights h e
    · cases e
  · split at e
    · exact okC_set h e
    · cases e
  · split at e
    · cases e; exact h
    · cases e
  · split at e
    · cases e; exact h
    · cases e
  · split at e
    · cases e; exact h
    · cases e
  · split at e
    · cases e; exact h
    · cases e
  · cases e
def p10 : Nat → Int64
  | 0 => 1
  | k + 1 => p10 k * 10
