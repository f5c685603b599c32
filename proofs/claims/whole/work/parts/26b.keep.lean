/-! What stays within bounds from call to call. -/
def gS (K : Nat) (σ : Sg) : Prop := lim K σ ∧ flat σ
theorem gS.mono {K K' : Nat} {σ : Sg} (h : gS K σ) (hK : K ≤ K') : gS K' σ := ⟨h.1.mono hK, h.2⟩
theorem flat_cong {σ τ : Sg} (h : flat σ) (e : τ.2.2.1 = σ.2.2.1) : flat τ := by unfold flat; rw [e]; exact h
theorem flat_night {σ : Sg} (h : flat σ) : flat (nightS σ) := by
  have e : erS σ = σ := by
    show upo σ (σ.2.2.1.map er) = σ
    rw [er_map h]; rfl
  have e2 : erS (nightS σ) = nightS σ := by rw [← er_night, e]
  have e3 : (nightS σ).2.2.1.map er = (nightS σ).2.2.1 := congrArg (fun x : Sg => x.2.2.1) e2
  intro o ho
  rw [← e3] at ho
  obtain ⟨o', -, rfl⟩ := List.mem_map.mp ho
  exact nSet_s _ _ _
theorem flat_nights {σ : Sg} (h : flat σ) : ∀ n : Nat, flat (nightsS n σ)
  | 0 => h
  | n + 1 => flat_night (flat_nights h n)
theorem flat_askF {σ : Sg} (h : flat σ) {c l it : Nat} : flat (askF σ c l it) := flat_cong h rfl
theorem flat_askO {σ : Sg} (h : flat σ) {c l it fe : Nat} : flat (askO σ c l it fe) := fun o ho => by
  have ho' : o ∈ σ.2.2.1 ++ [mkO c l it fe 0 0] := ho
  rcases List.mem_append.mp ho' with q | q
  · exact h o q
  · rw [List.mem_singleton.mp q]; rfl
theorem flat_cancel {σ : Sg} (h : flat σ) {i : Nat} {o : Od} : flat (cancelS σ i o) := fun x hx => h x (List.mem_of_mem_eraseIdx (show x ∈ σ.2.2.1.eraseIdx i from hx))
theorem flat_raise {σ : Sg} (h : flat σ) {i y : Nat} {o : Od} (ho : σ.2.2.1[i]? = some o) : flat (raiseS σ i o y) := fun x hx => by
  have hx' : x ∈ σ.2.2.1.set i (nSet o 3 (o 3 + y)) := hx
  rcases List.mem_or_eq_of_mem_set hx' with q | q
  · exact h x q
  · rw [q, nSet_n _ _ (by decide)]; exact h o (List.mem_of_getElem? ho)
theorem flat_doC {σ σ' : Sg} (h : flat σ) {cm : Cm} (e : doC σ cm = some σ') : flat σ' := by
  rcases cm with ⟨c, l, it, fe⟩ | i | k
  · have e' : tAsk σ c l it fe = some σ' := e
    unfold tAsk at e'
    split at e'
    · split at e'
      · cases e'; exact flat_askF h
      · cases e'; exact flat_askO h
    · cases e'
  · have e' : tCancel σ i = some σ' := e
    unfold tCancel at e'
    split at e'
    · cases e'
    · cases e'; exact flat_cancel h
  · have e' : some (nightsS k σ) = some σ' := e
    cases e'; exact flat_nights h k
theorem gS_rdOne {tx : List Nat} {sp lo K : Nat} {σ : Sg} (hN : okN σ) (h : gS K σ) : gS (K + 30000) (rdOne tx sp lo σ).2.2.2 := by
  unfold rdOne
  split
  · exact h.mono (by omega)
  · rename_i s' cm hc
    split
    · exact h.mono (by omega)
    · rename_i σ' hd
      exact ⟨doC_lim hN.1 h.1 (rdCmd_ok hc).1 hd, flat_doC h.2 hd⟩
theorem gS_rdAll {tx : List Nat} : ∀ (q sp lo K : Nat) (σ : Sg), okN σ → gS K σ → gS (K + 30000 * q) (rdAll tx q sp lo σ).2.2.2
  | 0, _, _, _, _, _, h => h
  | q + 1, sp, lo, K, σ, hN, h => by
    have h1 := gS_rdOne (tx := tx) (sp := sp) (lo := lo) hN h
    have h2 := okN_rdOne (tx := tx) (sp := sp) (lo := lo) hN
    simp only [rdAll]
    split
    · rcases he : rdOne tx sp lo σ with ⟨s', gd, lo', σ'⟩
      rw [he] at h1 h2
      cases gd with
      | true => exact (gS_rdAll q s' lo' _ σ' h2 h1).mono (by omega)
      | false => exact h1.mono (by omega)
    · exact h.mono (by omega)
theorem S0_flat : flat S0 := fun o h => by cases h
theorem hd_keep {tx : List Nat} : ∀ {k : Nat}, k ≤ 5 → okN (hdS tx k).2.2 ∧ gS 0 (hdS tx k).2.2
  | 0, _ => by
    simp only [hdS]
    split <;> exact ⟨okN_S0, S0_lim, S0_flat⟩
  | k + 1, hk => by
    obtain ⟨h1, h2, h3⟩ := hd_keep (tx := tx) (k := k) (by omega)
    rcases he : hdS tx k with ⟨sp, gd, σ⟩
    rw [he] at h1 h2 h3
    have hlh := loS_hiS (show k < 5 by omega)
    have key : ∀ v, loS k ≤ v → v ≤ hiS k → okN (upn σ k v) ∧ gS 0 (upn σ k v) := fun v a b => ⟨h1.set (by omega) a b, set_lim h2 (by omega), flat_cong h3 rfl⟩
    cases gd with
    | true =>
      cases hd : dgt tx sp (loS k) (hiS k) with
      | none => rw [hdS_g0 he hd]; exact key _ (Nat.le_refl _) hlh.1
      | some v =>
        rw [hdS_g1 he hd]
        have := dgt_some hd
        exact key v (by omega) (by omega)
    | false => rw [hdS_b he]; exact key _ (Nat.le_refl _) hlh.1
theorem gS_load {tx : List Nat} : gS 3600000 (fLoad tx).2.2 := by
  have e : (fLoad tx).2.2 = (rdText tx).2.2.2 := by unfold fLoad; split <;> rfl
  rw [e]
  obtain ⟨h1, h2⟩ := hd_keep (tx := tx) (k := 5) (Nat.le_refl _)
  unfold rdText cont
  split
  · exact (gS_rdAll 120 _ _ 0 _ h1 h2).mono (by omega)
  · exact h2.mono (by omega)
theorem lim_askF {K : Nat} {σ : Sg} (h : lim K σ) {c l it : Nat} (hc : c < 4) (hl : l < 16) : lim (K + 9) (askF σ c l it) := lim_note (h.cong (fun j hj => upn_n (by omega))) (show (0 : Nat) < 10 by decide) hc
theorem gS_ask {K : Nat} {σ : Sg} (h : gS K σ) {c l it fe : Int32} : gS (K + 100000) (fAsk σ c l it fe).2.2 := by
  have h0 : gS (K + 100000) σ := h.mono (by omega)
  unfold fAsk
  split
  · exact h0
  · rename_i c9 hc
    split
    · exact h0
    · rename_i l9 hl
      split
      · exact h0
      · split
        · exact h0
        · split
          · split
            · exact ⟨(lim_askF h.1 (ix_some hc).2.1 (ix_some hl).2.1).mono (by omega), flat_askF h.2⟩
            · exact ⟨(h.1.cong (fun j _ => rfl)).mono (by omega), flat_askO h.2⟩
          · exact h0
theorem gS_cancel {K : Nat} {σ : Sg} (h : gS K σ) {i : Int32} : gS (K + 100000) (fCancel σ i).2.2 := by
  have h0 : gS (K + 100000) σ := h.mono (by omega)
  unfold fCancel
  split
  · exact h0
  · split
    · exact h0
    · exact ⟨(cancel_lim h.1).mono (by omega), flat_cancel h.2⟩
theorem gS_raise {K : Nat} {σ : Sg} (h : gS K σ) {i y : Int32} : gS (K + 100000) (fRaise σ i y).2.2 := by
  have h0 : gS (K + 100000) σ := h.mono (by omega)
  unfold fRaise
  split
  · exact h0
  · split
    · exact h0
    · split
      · exact h0
      · rename_i o ho
        split
        · exact ⟨(raise_lim h.1).mono (by omega), flat_raise h.2 ho⟩
        · exact h0
theorem gS_nights {K : Nat} {σ : Sg} (hN : okN σ) (h : gS K σ) {n : Int32} : gS (K + 100000) (fNights σ n).2.2 := by
  have h0 : gS (K + 100000) σ := h.mono (by omega)
  unfold fNights
  split
  · exact h0
  · rename_i k hk
    have := (ix_some hk).2.1
    exact ⟨(lim_nights hN.1 h.1 k).mono (by omega), flat_nights h.2 k⟩
theorem gS_give {K : Nat} {σ : Sg} (h : gS K σ) {c v : Int32} : gS (K + 100000) (fGive σ c v).2.2 := by
  have h0 : gS (K + 100000) σ := h.mono (by omega)
  unfold fGive
  split
  · exact h0
  · split
    · exact h0
    · exact ⟨(h.1.cong (fun j _ => rfl)).mono (by omega), flat_cong h.2 rfl⟩
theorem gS_set {K : Nat} {σ : Sg} (h : gS K σ) {c v : Int32} : gS (K + 100000) (fSet σ c v).2.2 := by
  have h0 : gS (K + 100000) σ := h.mono (by omega)
  unfold fSet
  split
  · exact h0
  · rename_i k hk
    split
    · exact h0
    · exact ⟨(set_lim h.1 (ix_some hk).2.1).mono (by omega), flat_cong h.2 rfl⟩
def good (K : Nat) (w : Wd) : Prop := gS K w.2.1 ∧ (∀ s ∈ w.2.2.1, gS K s) ∧ (∀ k s, w.2.2.2 k = some s → gS K s)
theorem good.mono {K K' : Nat} {w : Wd} (h : good K w) (hK : K ≤ K') : good K' w := ⟨h.1.mono hK, fun s hs => (h.2.1 s hs).mono hK, fun k s hs => (h.2.2 k s hs).mono hK⟩
theorem mem_push {hi : List Sg} {σ s : Sg} (h : s ∈ pushH hi σ) : s = σ ∨ s ∈ hi := by
  unfold pushH at h
  rcases List.mem_append.mp h with q | q
  · refine Or.inr ?_
    split at q
    · exact List.mem_of_mem_tail q
    · exact q
  · exact Or.inl (List.mem_singleton.mp q)
theorem good_Q {K : Nat} {w : Wd} {f : Nat × Int32} (h : good K w) : good (K + 100000) (opQ f w).2.2 := h.mono (by omega)
theorem good_T {K : Nat} {w : Wd} {f : Nat × Int32 × List Nat} (h : good K w) : good (K + 100000) (opT f w).2.2 := ⟨h.1.mono (by omega), fun s hs => (h.2.1 s hs).mono (by omega), fun k s hs => (h.2.2 k s hs).mono (by omega)⟩
theorem good_A {K : Nat} {w : Wd} {f : Nat × Int32 × Sg} (h : good K w) (hf : gS (K + 100000) f.2.2) : good (K + 100000) (opA f w).2.2 := by
  refine ⟨hf, fun s hs => ?_, fun k s hs => (h.2.2 k s hs).mono (by omega)⟩
  have hs' : s ∈ (if f.1 = 0 then pushH w.2.2.1 w.2.1 else w.2.2.1) := hs
  split at hs'
  · rcases mem_push hs' with q | q
    · rw [q]; exact h.1.mono (by omega)
    · exact (h.2.1 s q).mono (by omega)
  · exact (h.2.1 s hs').mono (by omega)
theorem good_L {K : Nat} {w : Wd} (h : good K w) (hK : 3600000 ≤ K) : good (K + 100000) (opL w).2.2 := by
  have h0 := h.mono (show K ≤ K + 100000 by omega)
  have h1 : gS (K + 100000) (fLoad w.1).2.2 := gS_load.mono (by omega)
  by_cases q : (fLoad w.1).1 = 0
  · refine ⟨?_, fun s hs => ?_, fun k s hs => ?_⟩
    · show gS _ (if (fLoad w.1).1 = 0 then (fLoad w.1).2.2 else w.2.1); rw [if_pos q]; exact h1
    · have hs' : s ∈ (if (fLoad w.1).1 = 0 then [] else w.2.2.1) := hs
      rw [if_pos q] at hs'; cases hs'
    · have hs' : (if (fLoad w.1).1 = 0 then (fun _ => none) else w.2.2.2) k = some s := hs
      rw [if_pos q] at hs'; cases hs'
  · refine ⟨?_, fun s hs => ?_, fun k s hs => ?_⟩
    · show gS _ (if (fLoad w.1).1 = 0 then (fLoad w.1).2.2 else w.2.1); rw [if_neg q]; exact h0.1
    · have hs' : s ∈ (if (fLoad w.1).1 = 0 then [] else w.2.2.1) := hs
      rw [if_neg q] at hs'; exact h0.2.1 s hs'
    · have hs' : (if (fLoad w.1).1 = 0 then (fun _ => none) else w.2.2.2) k = some s := hs
      rw [if_neg q] at hs'; exact h0.2.2 k s hs'
theorem good_U {K : Nat} {w : Wd} (h : good K w) : good (K + 100000) (opU w).2.2 := by
  have h0 := h.mono (show K ≤ K + 100000 by omega)
  unfold opU
  split
  · exact h0
  · rename_i s hs
    exact ⟨h0.2.1 s (List.mem_of_getLast? hs), fun t ht => h0.2.1 t (List.dropLast_subset _ ht), h0.2.2⟩
theorem good_S {K : Nat} {w : Wd} {a : Int32} (h : good K w) : good (K + 100000) (opS a w).2.2 := by
  have h0 := h.mono (show K ≤ K + 100000 by omega)
  unfold opS
  split
  · exact h0
  · rename_i k hk
    refine ⟨h0.1, h0.2.1, fun j s hs => ?_⟩
    have hs' : (if j = k then some w.2.1 else w.2.2.2 j) = some s := hs
    split at hs'
    · cases hs'; exact h0.1
    · exact h0.2.2 j s hs'
theorem good_R {K : Nat} {w : Wd} {a : Int32} (h : good K w) : good (K + 100000) (opR a w).2.2 := by
  have h0 := h.mono (show K ≤ K + 100000 by omega)
  unfold opR
  split
  · exact h0
  · rename_i k hk
    split
    · exact h0
    · rename_i s hs
      exact ⟨h0.2.2 k s hs, (fun t ht => by cases ht), h0.2.2⟩
theorem good_0 {K : Nat} : good K ([], S0, [], fun _ => none) := ⟨⟨S0_lim.mono (Nat.zero_le _), S0_flat⟩, (fun s h => by cases h), (fun k s h => by cases h)⟩
