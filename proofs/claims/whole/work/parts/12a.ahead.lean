/-! What would be. -/
def anyW : List Od → Bool
  | [] => false
  | o :: t => decide (o 5 = 1) || anyW t
theorem anyW_app : ∀ a b : List Od, anyW (a ++ b) = (anyW a || anyW b)
  | [], b => rfl
  | o :: t, b => by simp only [List.cons_append, anyW]; rw [anyW_app t b, Bool.or_assoc]
theorem anyW_take {L : List Od} {k : Nat} {o : Od} (ho : L[k]? = some o) : anyW (L.take (k + 1)) = (anyW (L.take k) || decide (o 5 = 1)) := by
  rw [takeO ho, anyW_app]
  simp only [anyW, Bool.or_false]
theorem bI_01 (b : Bool) : bI b = 0 ∨ bI b = 1 := by cases b; exact Or.inl rfl; exact Or.inr rfl
def watchS (σ : Sg) (j : Nat) (o : Od) : Sg := upo σ (σ.2.2.1.set j (nSet o 5 1))
theorem okS_watch {σ : Sg} (h : okS σ) {j : Nat} {o : Od} (ho : σ.2.2.1[j]? = some o) : okS (watchS σ j o) := h.set j ((h.2.2.2.1 o (memO ho)).watch (by omega))
theorem calm_watch {σ : Sg} (h : calm σ) {j : Nat} {o : Od} (ho : σ.2.2.1[j]? = some o) : calm (watchS σ j o) := fun x hx => by
  rcases List.mem_or_eq_of_mem_set (show x ∈ σ.2.2.1.set j (nSet o 5 1) from hx) with q | q
  · exact h x q
  · rw [q, nSet_n _ _ (by omega)]; exact h o (memO ho)
/-- every open order has waited so many nights at least -/
def old (k : Nat) (σ : Sg) : Prop := ∀ o ∈ σ.2.2.1, k ≤ o 4
theorem trn_mem {o : Od} : ∀ (r : Nat) (σ : Sg), o ∈ (trn r σ).2.2.1 → o ∈ σ.2.2.1
  | 0, _, h => h
  | r + 1, σ, h => by
    simp only [trn] at h
    split at h
    · exact h
    · exact kp_mem (trn_mem r _ h)
theorem kpW_old {pt k : Nat} : ∀ L : List Od, (∀ o ∈ L, k ≤ o 4) → ∀ o ∈ kpW pt L, k + 1 ≤ o 4
  | [], _, o, h => by cases h
  | x :: t, hL, o, h => by
    simp only [kpW] at h
    split at h
    · exact kpW_old t (fun o' ho' => hL o' (List.mem_cons_of_mem _ ho')) o h
    · rcases List.mem_cons.mp h with q | q
      · rw [q, nSet_s]; exact Nat.succ_le_succ (hL x List.mem_cons_self)
      · exact kpW_old t (fun o' ho' => hL o' (List.mem_cons_of_mem _ ho')) o q
theorem night_old {k : Nat} {σ : Sg} (h : old k σ) : old (k + 1) (nightS σ) := by
  unfold old
  rw [night_open]
  exact kpW_old _ (fun o ho => h o (trn_mem _ _ ho))
theorem old_lt {k : Nat} {σ : Sg} (h : old k σ) (hc : calm σ) (hn : σ.2.2.1 ≠ []) : k < 9 := by
  cases hL : σ.2.2.1 with
  | nil => exact absurd hL hn
  | cons o t => exact Nat.lt_of_le_of_lt (h o (by rw [hL]; exact List.mem_cons_self)) (hc o (by rw [hL]; exact List.mem_cons_self))
def arv : Nat → Sg → Nat → Bool → Nat × Bool
  | 0, _, n, b => (n, b)
  | q + 1, σ, n, b => if anyW σ.2.2.1 = true then arv q (nightS σ) (n + 1) (b || trw (σ.1 0) σ) else (n, b)
theorem arv_stop {σ : Sg} (h : anyW σ.2.2.1 = false) (q n : Nat) (b : Bool) : arv q σ n b = (n, b) := by
  cases q with
  | zero => rfl
  | succ q => simp only [arv]; rw [if_neg (by rw [h]; decide)]
theorem arv_go {σ : Sg} (h : anyW σ.2.2.1 = true) (q n : Nat) (b : Bool) : arv (q + 1) σ n b = arv q (nightS σ) (n + 1) (b || trw (σ.1 0) σ) := by
  simp only [arv]; rw [if_pos h]
def fArrives (σ : Sg) (i : Int32) : Nat × Int32 := match ix i 0 σ.2.2.1.length with
  | none => (1, 0)
  | some j => match σ.2.2.1[j]? with
    | none => (1, 0)
    | some o => (0, if (arv 10 (watchS σ j o) 0 false).2 = true then nI (arv 10 (watchS σ j o) 0 false).1 else -1)
def goS : Nat → Sg → Sg
  | 0, σ => σ
  | q + 1, σ => if σ.2.2.1.length = 0 then σ else goS q (nightS σ)
theorem goS_stop {σ : Sg} (h : σ.2.2.1.length = 0) (q : Nat) : goS q σ = σ := by
  cases q with
  | zero => rfl
  | succ q => simp only [goS]; rw [if_pos h]
theorem goS_go {σ : Sg} (h : ¬ σ.2.2.1.length = 0) (q : Nat) : goS (q + 1) σ = goS q (nightS σ) := by
  simp only [goS]; rw [if_neg h]
/-- the first that holds -/
def fnd (p : Nat → Bool) : Nat → Nat → Option Nat
  | 0, _ => none
  | q + 1, k => if p k = true then some k else fnd p q (k + 1)
theorem fnd_hit {p : Nat → Bool} {q k : Nat} (h : p k = true) : fnd p (q + 1) k = some k := by simp only [fnd]; rw [if_pos h]
theorem fnd_miss {p : Nat → Bool} {q k : Nat} (h : p k = false) : fnd p (q + 1) k = fnd p q (k + 1) := by simp only [fnd]; rw [if_neg (by rw [h]; decide)]
def entS (σ : Sg) (l fe : Nat) : Sg := upo σ ((σ.2.2.1 ++ [mkO 0 l 0 fe 0 0]).set σ.2.2.1.length (nSet (mkO 0 l 0 fe 0 0) 5 1))
def fee1 (σ : Sg) (l fe : Nat) : Bool := decide (0 < σ.1 (14 + l)) || trw (σ.1 0) (entS σ l fe)
def fFee (σ : Sg) (l : Int32) : Nat × Int32 := match ix l 0 16 with
  | none => (1, 0)
  | some j => (0, oI (fnd (fee1 σ j) 10 0))
theorem calm_ent {σ : Sg} (h : calm σ) (l fe : Nat) : calm (entS σ l fe) := fun x hx => by
  rcases List.mem_or_eq_of_mem_set (show x ∈ (σ.2.2.1 ++ [mkO 0 l 0 fe 0 0]).set σ.2.2.1.length (nSet (mkO 0 l 0 fe 0 0) 5 1) from hx) with q | q
  · rcases List.mem_append.mp q with q | q
    · exact h x q
    · rw [List.mem_singleton.mp q]; exact Nat.zero_lt_succ _
  · rw [q]; exact Nat.zero_lt_succ _
def rmOk (σ : Sg) (r : Nat) : Bool := decide (nI ((goS 10 (upn σ 0 r)).1 8) = nI (σ.1 8))
def fRoom (σ : Sg) : Int32 := oI (fnd (rmOk σ) 17 0)
def bst (σ : Sg) : Nat → Option Nat × Int32 × Int32
  | 0 => (none, nI 0, nI 0)
  | k + 1 => if (bst σ k).1 = none ∨ (bst σ k).2.1 < nI ((goS 10 (upn σ 4 k)).1 7) ∨ (nI ((goS 10 (upn σ 4 k)).1 7) = (bst σ k).2.1 ∧ (bst σ k).2.2 < nI ((goS 10 (upn σ 4 k)).1 10)) then (some k, nI ((goS 10 (upn σ 4 k)).1 7), nI ((goS 10 (upn σ 4 k)).1 10)) else bst σ k
def fBest (σ : Sg) : Int32 := oI (bst σ 3).1
theorem bst_y {σ : Sg} {k : Nat} (h : (bst σ k).1 = none ∨ (bst σ k).2.1 < nI ((goS 10 (upn σ 4 k)).1 7) ∨ (nI ((goS 10 (upn σ 4 k)).1 7) = (bst σ k).2.1 ∧ (bst σ k).2.2 < nI ((goS 10 (upn σ 4 k)).1 10))) : bst σ (k + 1) = (some k, nI ((goS 10 (upn σ 4 k)).1 7), nI ((goS 10 (upn σ 4 k)).1 10)) := by
  simp only [bst]; exact if_pos h
theorem bst_n {σ : Sg} {k : Nat} (h : ¬ ((bst σ k).1 = none ∨ (bst σ k).2.1 < nI ((goS 10 (upn σ 4 k)).1 7) ∨ (nI ((goS 10 (upn σ 4 k)).1 7) = (bst σ k).2.1 ∧ (bst σ k).2.2 < nI ((goS 10 (upn σ 4 k)).1 10)))) : bst σ (k + 1) = bst σ k := by
  simp only [bst]; exact if_neg h
theorem bst_lt {σ : Sg} : ∀ {k b : Nat}, (bst σ k).1 = some b → b < k
  | 0, b, h => by cases h
  | k + 1, b, h => by
    simp only [bst] at h
    split at h
    · cases h; omega
    · exact Nat.lt_succ_of_lt (bst_lt h)
theorem okS_set {σ : Sg} (h : okS σ) {k u : Nat} (hk : k < 5) (h1 : loS k ≤ u) (h2 : u ≤ hiS k ∨ k = 0 ∧ u ≤ 16) : okS (upn σ k u) := by
  obtain ⟨⟨a0, a1, a2, a3, a4, a5, a6, a7⟩, b⟩ := h
  refine ⟨?_, fun l hl => by rw [upn_n (by omega)]; exact b.1 l hl, b.2⟩
  match k, hk, h1, h2 with
  | 0, _, h1, h2 => exact ⟨by rw [upn_s]; rcases h2 with h2 | h2; exact Nat.le_trans h2 (by decide); exact h2.2, by rw [upn_n (by omega)]; exact a1, by rw [upn_n (by omega)]; exact a2, by rw [upn_n (by omega)]; exact a3, by rw [upn_n (by omega)]; exact a4, by rw [upn_n (by omega)]; exact a5, by rw [upn_n (by omega)]; exact a6, by rw [upn_n (by omega)]; exact a7⟩
  | 4, _, h1, h2 => exact ⟨by rw [upn_n (by omega)]; exact a0, by rw [upn_n (by omega)]; exact a1, by rw [upn_n (by omega)]; exact a2, by rw [upn_n (by omega)]; exact a3, by rw [upn_n (by omega)]; exact a4, by rw [upn_n (by omega)]; exact a5, by rw [upn_n (by omega)]; exact a6, by rw [upn_s]; rcases h2 with h2 | h2; exact h2; omega⟩
  | 1, _, h1, h2 => exact ⟨by rw [upn_n (by omega)]; exact a0, by rw [upn_s]; exact h1, by rw [upn_s]; rcases h2 with h2 | h2; exact h2; omega, by rw [upn_n (by omega)]; exact a3, by rw [upn_n (by omega)]; exact a4, by rw [upn_n (by omega)]; exact a5, by rw [upn_n (by omega)]; exact a6, by rw [upn_n (by omega)]; exact a7⟩
  | 2, _, h1, h2 => exact ⟨by rw [upn_n (by omega)]; exact a0, by rw [upn_n (by omega)]; exact a1, by rw [upn_n (by omega)]; exact a2, by rw [upn_s]; exact h1, by rw [upn_s]; rcases h2 with h2 | h2; exact h2; omega, by rw [upn_n (by omega)]; exact a5, by rw [upn_n (by omega)]; exact a6, by rw [upn_n (by omega)]; exact a7⟩
  | 3, _, h1, h2 => exact ⟨by rw [upn_n (by omega)]; exact a0, by rw [upn_n (by omega)]; exact a1, by rw [upn_n (by omega)]; exact a2, by rw [upn_n (by omega)]; exact a3, by rw [upn_n (by omega)]; exact a4, by rw [upn_s]; exact h1, by rw [upn_s]; rcases h2 with h2 | h2; exact h2; omega, by rw [upn_n (by omega)]; exact a7⟩
