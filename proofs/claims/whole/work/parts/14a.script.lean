/-! Scripts and simulations. -/
theorem wb_tb (n : Nat) : (lN n).toBitVec = BitVec.ofNat 64 n := rfl
theorem wb_inj {a b : Int64} (h : a.toBitVec = b.toBitVec) : a = b := Int64.toBitVec_inj.mp h
theorem wb_tn {n : Nat} (h : n < 2 ^ 64) : (lN n).toBitVec.toNat = n := by rw [wb_tb, BitVec.toNat_ofNat, Nat.mod_eq_of_lt h]
theorem wb_cu : ∀ k, k < 64 → ((nI k).toInt64.toUInt64 &&& Int64.toUInt64 63) = UInt64.ofNat k := by decide +kernel
theorem wb_shr {n k : Nat} (hn : n < 2 ^ 64) (hk : k < 64) : ((lN n).toUInt64 >>> ((nI k).toInt64.toUInt64 &&& Int64.toUInt64 63)).toInt64 = lN (n / 2 ^ k) := by
  rw [wb_cu k hk]
  apply wb_inj
  apply BitVec.eq_of_toNat_eq
  show ((lN n).toUInt64 >>> UInt64.ofNat k).toNat = (BitVec.ofNat 64 _).toNat
  have h1 : (UInt64.ofNat k).toNat = k := by
    show (BitVec.ofNat 64 k).toNat = k
    rw [BitVec.toNat_ofNat, Nat.mod_eq_of_lt (by omega)]
  have h2 : (lN n).toUInt64.toNat = n := wb_tn hn
  rw [UInt64.toNat_shiftRight, h1, h2, Nat.mod_eq_of_lt hk, Nat.shiftRight_eq_div_pow, BitVec.toNat_ofNat, Nat.mod_eq_of_lt (Nat.lt_of_le_of_lt (Nat.div_le_self _ _) hn)]
def lcg (x : Int64) : Int64 := x * 6364136223846793005 + 1442695040888963407
def rOf (x : Int64) : Nat := x.toBitVec.toNat / 2 ^ 33
theorem rOf_lt (x : Int64) : rOf x < 2 ^ 31 := by
  have h := x.toBitVec.isLt
  unfold rOf
  omega
theorem rOf_eq (x : Int64) : ((x.toUInt64 >>> ((nI 33).toInt64.toUInt64 &&& Int64.toUInt64 63)).toInt64).toInt32 = nI (rOf x) := by
  obtain ⟨n, hn, rfl⟩ : ∃ n, n < 2 ^ 64 ∧ x = lN n := ⟨x.toBitVec.toNat, x.toBitVec.isLt, wb_inj (by rw [wb_tb]; simp)⟩
  rw [wb_shr hn (by decide), lN_i]
  unfold rOf
  rw [wb_tn hn]
theorem okC_getD {σ : Sg} {t : Option Sg} (h : okC σ) (ht : ∀ σ', t = some σ' → okC σ') : okC (t.getD σ) := by
  cases t with
  | none => exact h
  | some a => exact ht a rfl
def day1 (σ : Sg) (r : Nat) : Sg := (tAsk σ (r % 4) (r / 4 % 16) (r / 64 % 8) (r / 512 % 10)).getD σ
def day2 (σ : Sg) (r : Nat) : Sg := if r / 8192 % 4 = 0 then (tCancel (day1 σ r) (r / 32768 % 20)).getD (day1 σ r) else day1 σ r
def day (σ : Sg) (r : Nat) : Sg := if r / 1048576 % 2 = 0 then nightS (day2 σ r) else day2 σ r
theorem okC_day1 {σ : Sg} (h : okC σ) (r : Nat) : okC (day1 σ r) := okC_getD h (fun _ e => okC_ask h (by omega) (by omega) e)
theorem okC_day2 {σ : Sg} (h : okC σ) (r : Nat) : okC (day2 σ r) := by
  unfold day2
  split
  · exact okC_getD (okC_day1 h r) (fun _ e => okC_cancel (okC_day1 h r) e)
  · exact okC_day1 h r
theorem okC_day {σ : Sg} (h : okC σ) (r : Nat) : okC (day σ r) := by
  unfold day
  split
  · exact ⟨okS_night (okC_day2 h r).1, night_calm (okC_day2 h r).1⟩
  · exact okC_day2 h r
def simG (L : Int64 → Int64) : Nat → Int64 → Sg → Sg
  | 0, _, σ => σ
  | q + 1, x, σ => simG L q (L x) (day σ (rOf (L x)))
theorem simG_0 (L : Int64 → Int64) (x : Int64) (σ : Sg) : simG L 0 x σ = σ := by rw [simG]
theorem simG_s (L : Int64 → Int64) (q : Nat) (x : Int64) (σ : Sg) : simG L (q + 1) x σ = simG L q (L x) (day σ (rOf (L x))) := by rw [simG]
def sim (q : Nat) (x : Int64) (σ : Sg) : Sg := simG lcg q x σ
def fSim (σ : Sg) (seed : Int64) (m : Int32) : Nat × Int32 := match ix m 1 100 with
  | none => (1, 0)
  | some k => (0, nI 10000 * (nI ((sim k seed σ).1 7) - nI (σ.1 7)) + nI 100 * (nI ((sim k seed σ).1 8) - nI (σ.1 8)) + nI (sim k seed σ).2.2.1.length)
theorem p10_eq : ∀ m, m < 16 → p10 m = lN (10 ^ m) := by
  intro m hm
  have h : m = 0 ∨ m = 1 ∨ m = 2 ∨ m = 3 ∨ m = 4 ∨ m = 5 ∨ m = 6 ∨ m = 7 ∨ m = 8 ∨ m = 9 ∨ m = 10 ∨ m = 11 ∨ m = 12 ∨ m = 13 ∨ m = 14 ∨ m = 15 := by omega
  rcases h with rfl | rfl | rfl | rfl | rfl | rfl | rfl | rfl | rfl | rfl | rfl | rfl | rfl | rfl | rfl | rfl <;> decide
theorem p10_lt : ∀ m, m < 16 → 10 ^ m < 2 ^ 63 := by
  intro m hm
  have h1 : 10 ^ m ≤ 10 ^ 15 := Nat.pow_le_pow_right (by decide) (by omega)
  exact Nat.lt_of_le_of_lt h1 (by decide)
theorem p10_ne {m : Nat} (hm : m < 16) : ¬ p10 m = 0 := by
  rw [p10_eq m hm]
  have h1 := p10_lt m hm
  have h0 : 0 < 10 ^ m := Nat.pow_pos (by decide)
  intro h
  have := (pk_lEQ (b := 0) h1 (by decide)).mp h
  omega
def grp (T k i : Nat) : Nat := T / 10 ^ (5 * (k - 1 - i)) % 100000
theorem grp_eq {told : Int64} {T m : Nat} (hT : T < 2 ^ 63) (e : told = lN T) (hm : m < 16) : (told / p10 m - told / p10 m / 100000 * 100000).toInt32 = nI (T / 10 ^ m % 100000) := by
  subst e
  rw [p10_eq m hm, pk_lDiv hT (Nat.pow_pos (by decide)) (p10_lt m hm)]
  show (lN _ - lN _ / lN 100000 * lN 100000).toInt32 = _
  rw [pk_lRem (Nat.lt_of_le_of_lt (Nat.div_le_self _ _) hT) (by decide) (by decide), lN_i]
def scl (T k : Nat) : Nat → Nat → Sg → Option Nat
  | 0, _, _ => none
  | q + 1, i, σ => match doG σ (grp T k i) with
    | none => some i
    | some σ' => scl T k q (i + 1) σ'
theorem scl_no {T k q i : Nat} {σ : Sg} (h : doG σ (grp T k i) = none) : scl T k (q + 1) i σ = some i := by simp only [scl, h]
theorem scl_yes {T k q i : Nat} {σ σ' : Sg} (h : doG σ (grp T k i) = some σ') : scl T k (q + 1) i σ = scl T k q (i + 1) σ' := by simp only [scl, h]
def fScript (σ : Sg) (n : Int32) (told : Int64) : Nat × Int32 := match ix n 1 4 with
  | none => (1, 0)
  | some k => if 0 ≤ told ∧ told ≤ p10 (5 * k) - 1 then (0, oI (scl told.toInt.toNat k k 0 σ)) else (1, 0)
theorem sim_0 (x : Int64) (σ : Sg) : sim 0 x σ = σ := simG_0 lcg x σ
theorem simG_st {L : Int64 → Int64} {x y : Int64} {σ τ : Sg} {d : Nat} (hy : y = L x) (h : simG L (d + 1) x σ = τ) : simG L d y (day σ (rOf y)) = τ := by
  rw [hy, ← simG_s]; exact h
theorem lcg_d (x : Int64) : lcg x = x * 6364136223846793005 + 1442695040888963407 := by rw [lcg]
theorem sim_st {x y : Int64} {σ τ : Sg} {d : Nat} (hy : y = x * 6364136223846793005 + 1442695040888963407) (h : sim (d + 1) x σ = τ) : sim d y (day σ (rOf y)) = τ := simG_st (hy.trans (lcg_d x).symm) h
section JX
variable {p : Program} {l : Launch} {e : Env} {R : Room} {s : State} {m : MethodId} {args : Array Value} {below : List Frame} {meth : Method} {c : Code} {H : Heap} {locs : List Loc} {cells slots : Nat} {Q : State → Prop}
variable {pc : Nat} {ls : Array Slot} {rest : List Value}
/-- the long on top by a name -/
theorem j_gl {x : Int64} (k : ∀ y : Int64, y = x → W p l e R s m args below meth c H locs cells slots Q (F0 m pc ls (.long y :: rest))) : W p l e R s m args below meth c H locs cells slots Q (F0 m pc ls (.long x :: rest)) := k x rfl
end JX
