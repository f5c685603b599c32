/-! The reference as a whole: nine cells from M on. -/
theorem jF.three {a n x y w : Nat} {H0 H H1 : Heap} (h : jF a n H0 H) (h2 : jF3 x y w H H1) (hx : a ≤ x ∧ x < a + n) (hy : a ≤ y ∧ y < a + n) (hw : a ≤ w ∧ w < a + n) : jF a n H0 H1 := ⟨by rw [h2.1, h.1], fun q hq => by rw [h2.2 q (by omega) (by omega) (by omega)]; exact h.2 q hq⟩
/-- a number within: from a on, below n -/
def ix (x : Int32) (a n : Nat) : Option Nat := if (a : Int) ≤ x.toInt ∧ x.toInt < (n : Int) then some x.toInt.toNat else none
theorem ix_some {x : Int32} {a n j : Nat} (h : ix x a n = some j) : a ≤ j ∧ j < n ∧ x = nI j := by
  unfold ix at h
  split at h
  · rename_i q
    cases h
    refine ⟨by omega, by omega, ?_⟩
    have h1 : x.toInt.toNat < 2 ^ 31 := by have := Int32.toInt_lt x; omega
    apply Int32.toInt_inj.mp
    rw [nI_toInt h1]
    omega
  · cases h
theorem ix_nI {a n j : Nat} (h1 : a ≤ j) (h2 : j < n) (h3 : n ≤ 2 ^ 31) : ix (nI j) a n = some j := by
  unfold ix
  rw [nI_toInt (by omega), if_pos (by omega)]
  rfl
theorem ix_none {x : Int32} {a n : Nat} (h : ¬ ((a : Int) ≤ x.toInt ∧ x.toInt < (n : Int))) : ix x a n = none := if_neg h
theorem ix_in {x : Int32} {a n : Nat} (h : (a : Int) ≤ x.toInt ∧ x.toInt < (n : Int)) : ∃ j, ix x a n = some j ∧ a ≤ j ∧ j < n ∧ x = nI j := by
  have h1 : ix x a n = some x.toInt.toNat := if_pos h
  exact ⟨_, h1, ix_some h1⟩
/-- the reference's own test, on longs -/
theorem in_ix {x : Int32} {lo hi : Int64} {a n : Nat} (ha : lo.toInt = a) (hb : hi.toInt + 1 = n) {r : Int32} (h : (r = nI 1 ∧ lo ≤ x.toInt64 ∧ x.toInt64 ≤ hi) ∨ (r = nI 0 ∧ ¬ (lo ≤ x.toInt64 ∧ x.toInt64 ≤ hi))) : (r = nI 1 ∧ ∃ j, ix x a n = some j ∧ a ≤ j ∧ j < n ∧ x = nI j) ∨ (r = nI 0 ∧ ix x a n = none) := by
  have key : (lo ≤ x.toInt64 ∧ x.toInt64 ≤ hi) ↔ ((a : Int) ≤ x.toInt ∧ x.toInt < (n : Int)) := by
    rw [Int64.le_iff_toInt_le, Int64.le_iff_toInt_le, Int32.toInt_toInt64]
    omega
  rcases h with ⟨h1, h2⟩ | ⟨h1, h2⟩
  · exact Or.inl ⟨h1, ix_in (key.mp h2)⟩
  · exact Or.inr ⟨h1, ix_none (fun q => h2 (key.mpr q))⟩
theorem toI64_sub1 {n : Nat} (h : n < 2 ^ 30) : (nI n - nI 1).toInt64.toInt + 1 = (n : Int) := by
  rw [Int32.toInt_toInt64, pk_sub_toInt h (by omega)]
  omega
theorem toI64_N {n : Nat} (h : n < 2 ^ 31) : (nI n).toInt64.toInt = (n : Int) := by
  rw [Int32.toInt_toInt64, nI_toInt h]
def okN (σ : Sg) : Prop := okS σ ∧ calm σ ∧ σ.2.2.1.length ≤ 20
def tIs (sc : Nat → Int32) (tx : List Nat) : Prop := ∀ i c, tx[i]? = some c → sc i = nI c ∧ c < 256
def Dia (dy : Nat → Int32) (hi : List Sg) : Prop := ∀ i s, hi[i]? = some s → Row (fun j => dy (235 * i + j)) s ∧ okN s
def Kep (kp ik : Nat → Int32) (sv : Nat → Option Sg) : Prop := ∀ k, k < 2 → (sv k = none ∧ ik k = nI 0) ∨ (∃ s, sv k = some s ∧ ik k = nI 1 ∧ Row (fun j => kp (235 * k + j)) s ∧ okN s)
def MI (tx : List Nat) (σ : Sg) (hi : List Sg) (sv : Nat → Option Sg) (sc nw dy kp ik : Nat → Int32) : Prop := tx.length ≤ 120 ∧ tIs sc tx ∧ Row nw σ ∧ okN σ ∧ hi.length ≤ 14 ∧ Dia dy hi ∧ Kep kp ik sv
def MD (g : jG) (H : Heap) (M : Nat) (x0 : Int32) (tx : List Nat) (σ : Sg) (hi : List Sg) (sv : Nat → Option Sg) : Prop :=
  ∃ (x3 x4 x5 x14 : Int32) (sn : Bool) (sc rd nw tr dy kp ik tk : Nat → Int32), jO g H M 5 [.int x0, .ref (M + 1), .int (nI tx.length), .int x3, .int x4, .int x5, .ref (M + 2), .ref (M + 3), .ref (M + 4), .ref (M + 5), .int (nI hi.length), .ref (M + 6), .ref (M + 7), .ref (M + 8), .int x14, .int (bI sn)] ∧ jI g H (M + 1) 120 sc ∧ jI g H (M + 2) 235 rd ∧ jI g H (M + 3) 235 nw ∧ jI g H (M + 4) 235 tr ∧ jI g H (M + 5) 3290 dy ∧ jI g H (M + 6) 470 kp ∧ jZ g H (M + 7) 2 ik ∧ jI g H (M + 8) 16 tk ∧ MI tx σ hi sv sc nw dy kp ik
theorem Row.cpy {f f0 : Nat → Int32} {σ : Sg} (hs : okS σ) {sp dp : Nat} (h : Row (fun j => f (sp + j)) σ) : Row (fun j => va_cpy f f0 sp dp 235 (dp + j)) σ := by
  have e : ∀ j, j < 235 → va_cpy f f0 sp dp 235 (dp + j) = f (sp + j) := fun j hj => by
    simp only [va_cpy]; rw [if_pos (by omega), Nat.add_sub_cancel_left]
  obtain ⟨h1, h2, h3, h4, h5, h6⟩ := h
  refine ⟨fun k a b c => (e k (by omega)).trans (h1 k a b c), fun c hc => (e _ (by omega)).trans (h2 c hc), (e 6 (by omega)).trans h3, (e 58 (by omega)).trans h4, fun i w o ho hw => ?_, fun i w o ho hw => ?_⟩
  · have hl := lenlt ho
    have := hs.2.2.1
    exact (e _ (by omega)).trans (h5 i w o ho hw)
  · have hl := lenlt ho
    have := hs.2.2.2.2.1
    exact (e _ (by omega)).trans (h6 i w o ho hw)
theorem Row.of0 {f : Nat → Int32} {σ : Sg} (h : Row (fun j => f (0 + j)) σ) : Row f σ := by
  have e : (fun j => f (0 + j)) = f := by funext j; rw [Nat.zero_add]
  rw [e] at h; exact h
theorem Row.to0 {f : Nat → Int32} {σ : Sg} (h : Row f σ) : Row (fun j => f (0 + j)) σ := by
  have e : (fun j => f (0 + j)) = f := by funext j; rw [Nat.zero_add]
  rw [e]; exact h
theorem Row.cpy0 {f f0 : Nat → Int32} {σ : Sg} (hs : okS σ) (h : Row f σ) : Row (va_cpy f f0 0 0 235) σ := Row.of0 (Row.cpy hs h.to0)
theorem MI.now {tx : List Nat} {σ : Sg} {hi : List Sg} {sv : Nat → Option Sg} {sc nw dy kp ik : Nat → Int32} (h : MI tx σ hi sv sc nw dy kp ik) {f : Nat → Int32} {σ' : Sg} (hR : Row f σ') (hs : okN σ') : MI tx σ' hi sv sc f dy kp ik := ⟨h.1, h.2.1, hR, hs, h.2.2.2.2⟩
/-- the answers -/
def fOrder (σ : Sg) (i w : Int32) : Nat × Int32 := match ix i 0 σ.2.2.1.length with
  | none => (1, 0)
  | some j => match ix w 0 5 with
    | none => (2, 0)
    | some u => (0, match σ.2.2.1[j]? with
      | some o => nI (o u)
      | none => 0)
def fLot (σ : Sg) (l w : Int32) : Nat × Int32 := match ix l 0 16 with
  | none => (1, 0)
  | some j => match ix w 0 4 with
    | none => (2, 0)
    | some u => (0, match u with
      | 0 => nI (σ.1 (14 + j)) - nI 1
      | 1 => nI (ocnt 1 j σ.2.2.1)
      | 2 => nI (fsum j σ.2.2.1)
      | _ => nI (σ.1 (30 + j)))
def fReader (σ : Sg) (c w : Int32) : Nat × Int32 := match ix c 0 4 with
  | none => (1, 0)
  | some j => match ix w 0 4 with
    | none => (2, 0)
    | some u => (0, match u with
      | 0 => σ.2.1 j
      | 1 => nI (ocnt 0 j σ.2.2.1)
      | 2 => nI (σ.1 (50 + j))
      | _ => nI (σ.1 (54 + j)))
def fDel (σ : Sg) (k w : Int32) : Nat × Int32 := match ix k 0 10 with
  | none => (1, 0)
  | some j => match ix w 0 5 with
    | none => (1, 0)
    | some u => (0, match σ.2.2.2[j]? with
      | some o => nI (o (lw u))
      | none => -1)
def fSetting (σ : Sg) (w : Int32) : Nat × Int32 := match ix w 0 5 with
  | none => (1, 0)
  | some u => (0, nI (σ.1 u))
