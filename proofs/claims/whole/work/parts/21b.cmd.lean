/-! Commands of a text, as the class does them; scripts by groups. -/
theorem rd_kind {tx : List Nat} (ht : tOk tx) {sp s' : Nat} {cm : Cm} (h : rdCmd tx sp = .inr (s', cm)) :
    (ch tx sp = 111 ∧ ∃ c t d it fe, cm = .inl (c, 10 * t + d, it, fe) ∧ dgA tx (sp + 1) = nI c ∧ dgA tx (sp + 2) = nI t ∧ dgA tx (sp + 3) = nI d ∧ dgA tx (sp + 4) = nI it ∧ dgA tx (sp + 5) = nI fe ∧ c < 4 ∧ t < 10 ∧ d < 10 ∧ 10 * t + d < 16 ∧ it < 8 ∧ fe < 10) ∨
    (ch tx sp = 99 ∧ ∃ t d, cm = .inr (.inl (10 * t + d)) ∧ dgA tx (sp + 1) = nI t ∧ dgA tx (sp + 2) = nI d ∧ t < 10 ∧ d < 10) ∨
    (ch tx sp = 110 ∧ ∃ k, cm = .inr (.inr k) ∧ dgA tx (sp + 1) = nI k ∧ 1 ≤ k ∧ k < 10) := by
  have hok := (rdCmd_ok h).1
  unfold rdCmd at h
  split at h
  · rename_i q
    refine Or.inl ⟨q, ?_⟩
    split at h
    · cases h
    · rename_i c hc
      split at h
      · cases h
      · rename_i t ht'
        split at h
        · cases h
        · rename_i d hd
          split at h
          · cases h
          · rename_i it hit
            split at h
            · cases h
            · rename_i fe hfe
              cases h
              have h1 := dgt_dg ht (by omega) hc
              have h2 := dgt_dg ht (by omega) ht'
              have h3 := dgt_dg ht (by split <;> omega) hd
              have h4 := dgt_dg ht (by omega) hit
              have h5 := dgt_dg ht (by omega) hfe
              have h6 : d ≤ 9 := by have := h3.2.2; split at this <;> omega
              exact ⟨c, t, d, it, fe, rfl, h1.1, h2.1, h3.1, h4.1, h5.1, hok.1, by omega, by omega, hok.2.1, hok.2.2.1, hok.2.2.2⟩
  · split at h
    · rename_i q
      refine Or.inr (Or.inl ⟨q, ?_⟩)
      split at h
      · cases h
      · rename_i t ht'
        split at h
        · cases h
        · rename_i d hd
          cases h
          have h2 := dgt_dg ht (by omega) ht'
          have h3 := dgt_dg ht (by omega) hd
          exact ⟨t, d, rfl, h2.1, h3.1, by omega, by omega⟩
    · split at h
      · rename_i q
        refine Or.inr (Or.inr ⟨q, ?_⟩)
        split at h
        · cases h
        · rename_i d hd
          cases h
          have h3 := dgt_dg ht (by omega) hd
          exact ⟨d, rfl, h3.1, by omega, by omega⟩
      · cases h
theorem pair_v {tx : List Nat} {sp t d : Nat} (h1 : dgA tx sp = nI t) (h2 : dgA tx (sp + 1) = nI d) : nI 10 * dgA tx sp + dgA tx (sp + 1) = nI (10 * t + d) := by rw [h1, h2, pk_mul, nI_add]
/-- a text that is a store: its head, its commands -/
theorem hdS_false {tx : List Nat} {k sp : Nat} {σ : Sg} (hk : k ≤ 5) (h : hdS tx k = (sp, false, σ)) : (rdText tx).2.1 = false := by
  obtain ⟨τ, e⟩ := hdS_bad (5 - k) k σ (by omega) h
  rw [rdText_of e]
  rfl
theorem hd_ok {tx : List Nat} (hg : (rdText tx).2.1 = true) {k : Nat} (hk : k ≤ 5) : ∃ σ, hdS tx k = (1 + k, true, σ) := by
  rcases he : hdS tx k with ⟨sp, gd, σ⟩
  cases gd with
  | true => exact ⟨σ, by have := hdS_true he; subst this; rw [Nat.add_comm]⟩
  | false => rw [hdS_false hk he] at hg; cases hg
theorem hd_step {tx : List Nat} (ht : tOk tx) (hg : (rdText tx).2.1 = true) {k : Nat} (hk : k < 5) {σ : Sg} (h : hdS tx k = (1 + k, true, σ)) : ∃ v, dgA tx (1 + k) = nI v ∧ loS k ≤ v ∧ v ≤ hiS k ∧ hdS tx (k + 1) = (1 + (k + 1), true, upn σ k v) := by
  cases hd : dgt tx (1 + k) (loS k) (hiS k) with
  | none => rw [hdS_false (by omega) (hdS_g0 h hd)] at hg; cases hg
  | some v =>
    have h1 := dgt_dg ht (loS_hiS hk).2 hd
    exact ⟨v, h1.1, h1.2.1, h1.2.2, hdS_g1 h hd⟩
theorem ld_0 {tx : List Nat} {σ : Sg} (h : hdS tx 5 = (1 + 5, true, σ)) : cont tx true 120 6 0 σ = rdText tx := (rdText_of h).symm
theorem ld_step {tx : List Nat} (hg : (rdText tx).2.1 = true) {d p lo : Nat} {σ : Sg} (hp : p < tx.length) (hd : tx.length ≤ p + d) (h : cont tx true d p lo σ = rdText tx) : ∃ cm d', d = d' + 1 ∧ rdCmd tx p = .inr (p + (1 + dgs tx p), cm) ∧ (doC σ cm = none → cont tx true d' (p + (1 + dgs tx p)) (lo + 1) σ = rdText tx) ∧ (∀ σ', doC σ cm = some σ' → cont tx true d' (p + (1 + dgs tx p)) lo σ' = rdText tx) := by
  obtain ⟨d, rfl⟩ : ∃ d1, d = d1 + 1 := ⟨d - 1, by omega⟩
  cases hr : rdCmd tx p with
  | inl e =>
    have e1 : rdOne tx p lo σ = (e, false, lo, σ) := by unfold rdOne; rw [hr]
    rw [cont_go hp e1] at h
    have e2 : rdText tx = (e, false, lo, σ) := h.symm
    rw [e2] at hg; cases hg
  | inr q =>
    obtain ⟨s', cm⟩ := q
    have hs' := rdCmd_dgs hr
    subst hs'
    refine ⟨cm, d, rfl, rfl, fun hq => ?_, fun σ' hq => ?_⟩
    · have e1 : rdOne tx p lo σ = (p + (1 + dgs tx p), true, lo + 1, σ) := by unfold rdOne; rw [hr]; simp only [hq]
      rw [cont_go hp e1] at h; exact h
    · have e1 : rdOne tx p lo σ = (p + (1 + dgs tx p), true, lo, σ') := by unfold rdOne; rw [hr]; simp only [hq]
      rw [cont_go hp e1] at h; exact h
theorem ld_end {tx : List Nat} {d p lo : Nat} {σ : Sg} (hp : ¬ p < tx.length) (h : cont tx true d p lo σ = rdText tx) : fLoad tx = (0, nI lo, σ) := by
  rw [cont_end hp] at h
  unfold fLoad
  rw [← h]; rfl
theorem fLoad_bad {tx : List Nat} (h : ¬ fErr tx = -1) : (fLoad tx).1 = 1 := by
  unfold fErr at h
  unfold fLoad
  cases hg : (rdText tx).2.1 with
  | true => rw [hg] at h; exact absurd rfl h
  | false => rfl
theorem fErr_ok {tx : List Nat} (hl : tx.length ≤ 120) (h : fErr tx = -1) : (rdText tx).2.1 = true := by
  cases hg : (rdText tx).2.1 with
  | true => rfl
  | false =>
    unfold fErr at h
    rw [hg] at h
    have := rdText_le (tx := tx)
    exact absurd h (nI_ne_m1 (by omega))
/-- what commands add to the numbers that only grow -/
theorem tAsk_lim {K : Nat} {σ σ' : Sg} (h : lim K σ) {c l it fe : Nat} (e : tAsk σ c l it fe = some σ') : lim (K + 9) σ' := by
  unfold tAsk at e
  split at e
  · rename_i q
    split at e
    · cases e
      have h1 : lim K (upn σ (14 + l) 1) := h.cong (fun j hj => upn_n (by omega))
      exact lim_note h1 (show (0 : Nat) < 10 by decide) q.1
    · cases e
      exact (h.cong (fun j _ => rfl)).mono (by omega)
  · cases e
theorem cancel_lim {K : Nat} {σ : Sg} (h : lim K σ) {i : Nat} {o : Od} : lim K (cancelS σ i o) := h.cong (fun j hj => by
  show (upn (upn (upp σ (o 0) _) 11 _) 9 _).1 j = σ.1 j
  rw [upn_n (by omega), upn_n (by omega)]
  rfl)
theorem raise_lim {K : Nat} {σ : Sg} (h : lim K σ) {i y : Nat} {o : Od} : lim K (raiseS σ i o y) := h.cong (fun _ _ => rfl)
theorem set_lim {K : Nat} {σ : Sg} (h : lim K σ) {k v : Nat} (hk : k < 5) : lim K (upn σ k v) := h.cong (fun j hj => upn_n (by omega))
theorem tCancel_lim {K : Nat} {σ σ' : Sg} (h : lim K σ) {i : Nat} (e : tCancel σ i = some σ') : lim (K + 9) σ' := by
  unfold tCancel at e
  split at e
  · cases e
  · cases e; exact (cancel_lim h).mono (by omega)
theorem doC_lim {K : Nat} {σ σ' : Sg} (hs : okS σ) (h : lim K σ) {cm : Cm} (hc : okCm cm) (e : doC σ cm = some σ') : lim (K + 30000) σ' := by
  rcases cm with ⟨c, l, it, fe⟩ | i | k
  · exact (tAsk_lim h (show tAsk σ c l it fe = some σ' from e)).mono (by omega)
  · exact (tCancel_lim h (show tCancel σ i = some σ' from e)).mono (by omega)
  · have e' : some (nightsS k σ) = some σ' := e
    cases e'
    have hk : k < 10 := hc.2
    exact (lim_nights hs h k).mono (by omega)
theorem doG_lim {K : Nat} {σ σ' : Sg} (hs : okS σ) (h : lim K σ) {gp : Nat} (e : doG σ gp = some σ') : lim (K + 92000) σ' := by
  unfold doG at e
  split at e
  · exact (tAsk_lim h e).mono (by omega)
  · split at e
    · exact (tCancel_lim h e).mono (by omega)
    · cases e
  · split at e
    · unfold tRaise at e
      split at e
      · split at e
        · cases e
        · split at e
          · cases e; exact (raise_lim h).mono (by omega)
          · cases e
      · cases e
    · cases e
  · split at e
    · unfold tNights at e
      split at e
      · rename_i q
        cases e
        exact (lim_nights hs h _).mono (by omega)
      · cases e
    · cases e
  · split at e
    · unfold tSet at e
      split at e
      · rename_i q
        cases e
        exact (set_lim h q.1).mono (by omega)
      · cases e
    · cases e
  · split at e
    · cases e; exact h.mono (by omega)
    · cases e
  · split at e
    · cases e; exact h.mono (by omega)
    · cases e
  · split at e
    · cases e; exact h.mono (by omega)
    · cases e
  · split at e
    · cases e; exact h.mono (by omega)
    · cases e
  · cases e
theorem getD_lim {K d : Nat} {σ : Sg} {t : Option Sg} (h : lim K σ) (ht : ∀ σ', t = some σ' → lim (K + d) σ') : lim (K + d) (t.getD σ) := by
  cases t with
  | none => exact h.mono (by omega)
  | some a => exact ht a rfl
theorem day_lim {K : Nat} {σ : Sg} (hs : okC σ) (h : lim K σ) (r : Nat) : lim (K + 3100) (day σ r) := by
  have h1 : lim (K + 9) (day1 σ r) := getD_lim h (fun _ e => tAsk_lim h e)
  have h2 : lim (K + 9 + 9) (day2 σ r) := by
    unfold day2
    split
    · exact getD_lim h1 (fun _ e => tCancel_lim h1 e)
    · exact h1.mono (by omega)
  unfold day
  split
  · exact (lim_night (okC_day2 hs r).1 h2).mono (by omega)
  · exact h2.mono (by omega)
/-- groups of five digits -/
theorem grp_div {T k i : Nat} : T / 100000 ^ (k - 1 - i) % 100000 = grp T k i := by
  unfold grp
  rw [show (100000 : Nat) = 10 ^ 5 from rfl, ← Nat.pow_mul]
theorem wg_step {T j : Nat} : T / 100000 ^ j / 100000 = T / 100000 ^ (j + 1) := by rw [Nat.div_div_eq_div_mul, Nat.pow_succ]
theorem wg_long {T j : Nat} (hT : T < 2 ^ 63) : lN (T / 100000 ^ j) / 100000 = lN (T / 100000 ^ (j + 1)) := by
  rw [← wg_step]
  exact pk_lDiv (Nat.lt_of_le_of_lt (Nat.div_le_self _ _) hT) (by decide) (by decide)
theorem wg_0 {T k : Nat} (hT : T < 2 ^ 63) (hk : k < 4) : (lN (T / 100000 ^ k) = 0) ↔ T < 10 ^ (5 * k) := by
  have e1 : (lN (T / 100000 ^ k) = lN 0) ↔ T / 100000 ^ k = 0 := pk_lEQ (Nat.lt_of_le_of_lt (Nat.div_le_self _ _) hT) (by decide)
  have e2 : (100000 : Nat) ^ k = 10 ^ (5 * k) := by rw [show (100000 : Nat) = 10 ^ 5 from rfl, ← Nat.pow_mul]
  rw [show (0 : Int64) = lN 0 from rfl, e1, e2, Nat.div_eq_zero_iff]
  have h0 : 0 < 10 ^ (5 * k) := Nat.pow_pos (by decide)
  omega
theorem l_sub1 {m : Nat} (h : 0 < m) : lN m - 1 = lN (m - 1) := by
  have e : lN m = lN (m - 1) + lN 1 := by rw [lN_add, Nat.sub_add_cancel h]
  rw [e]
  exact Int64.add_sub_cancel _ _
theorem sc_ok {told : Int64} {T k : Nat} (hT : T < 2 ^ 63) (e : told = lN T) (hk : k < 4) : (0 ≤ told ∧ told ≤ p10 (5 * k) - 1) ↔ T < 10 ^ (5 * k) := by
  have h0 : 0 < 10 ^ (5 * k) := Nat.pow_pos (by decide)
  have h1 := p10_lt (5 * k) (by omega)
  have e1 : p10 (5 * k) - 1 = lN (10 ^ (5 * k) - 1) := by
    rw [p10_eq _ (by omega)]
    exact l_sub1 h0
  rw [e, e1, Int64.le_iff_toInt_le, Int64.le_iff_toInt_le, pk_lT hT, pk_lT (by omega)]
  have : (0 : Int64).toInt = 0 := by decide
  omega
theorem grp_l {T k i : Nat} (hT : T < 2 ^ 63) : (lN (T / 100000 ^ (k - 1 - i)) - lN (T / 100000 ^ (k - 1 - i)) / 100000 * 100000).toInt32 = nI (grp T k i) := by
  rw [← grp_div]
  show (lN _ - lN _ / lN 100000 * lN 100000).toInt32 = _
  rw [pk_lRem (Nat.lt_of_le_of_lt (Nat.div_le_self _ _) hT) (by decide) (by decide), lN_i]
section JXL
variable {p : Program} {l : Launch} {e : Env} {R : Room} {s : State} {m : MethodId} {args : Array Value} {below : List Frame} {meth : Method} {c : Code} {H : Heap} {locs : List Loc} {cells slots : Nat} {Q : State → Prop}
variable {pc : Nat} {ls : Array Slot} {rest : List Value}
theorem j_eqL {x y : Int64} (h : x = y) (k : W p l e R s m args below meth c H locs cells slots Q (F0 m pc ls (.long y :: rest))) : W p l e R s m args below meth c H locs cells slots Q (F0 m pc ls (.long x :: rest)) := by rw [h]; exact k
end JXL
def wn (u : Nat) : Nat := match u with | 0 => 2 | 1 => 3 | 2 => 5 | _ => 9
theorem wn_ab {σ : Sg} {u : Nat} (hu : u < 4) : abN σ (wn u) = σ.1 (wc u) := by
  have hw9 : u = 0 ∨ u = 1 ∨ u = 2 ∨ u = 3 := by omega
  rcases hw9 with rfl | rfl | rfl | rfl <;> rfl
theorem mxL_pos {P w : Nat} : 0 < mxL P w := by unfold mxL; split <;> omega
theorem mxL_le {P w : Nat} (h : P ≤ 9) : mxL P w ≤ 9 := by unfold mxL; split <;> omega
theorem mxL_more {P w k : Nat} (h : k + 1 < mxL P w) : w + k + 1 < P := by unfold mxL at h; split at h <;> omega
theorem mxL_done {P w k : Nat} (h : k + 1 = mxL P w) : P ≤ w + k + 1 := by unfold mxL at h; split at h <;> omega
theorem sub_0 {a b : Nat} : (nI a - nI b = 0) ↔ nI a = nI b := by rw [Int32.sub_eq_iff_eq_add, Int32.zero_add]
theorem okS_ent {σ : Sg} (hs : okS σ) (hn : σ.2.2.1.length ≤ 20) {l fe : Nat} (hl : l < 16) (hfe : fe < 10) : okS (upo σ (σ.2.2.1 ++ [mkO 0 l 0 fe 0 0])) := hs.so (by rw [List.length_append]; show σ.2.2.1.length + 1 ≤ 21; omega) (fun o ho => by
  rcases List.mem_append.mp ho with q | q
  · exact hs.2.2.2.1 o q
  · rw [List.mem_singleton.mp q]; exact ⟨Nat.zero_lt_succ _, hl, Nat.zero_lt_succ _, hfe, Nat.zero_lt_succ _, Nat.zero_lt_succ _⟩)
theorem calm_ent2 {σ : Sg} (h : calm σ) {l fe : Nat} : calm (upo σ (σ.2.2.1 ++ [mkO 0 l 0 fe 0 0])) := fun x hx => by
  rcases List.mem_append.mp (show x ∈ σ.2.2.1 ++ [mkO 0 l 0 fe 0 0] from hx) with q | q
  · exact h x q
  · rw [List.mem_singleton.mp q]; exact Nat.zero_lt_succ _
theorem next_step {σ σk : Sg} {r b j t : Nat} (hwo : wantS σk = some b) (htj : t < j) (hG : (trl (σ.1 0) σ)[j]? = (trl (r + 1) σk)[j - t]?) : (trl (σ.1 0) σ)[j]? = (trl r (bringS σk b))[j - (t + 1)]? := by
  rw [hG, (trn_go hwo).2.1, show j - t = (j - (t + 1)) + 1 by omega, List.getElem?_cons_succ]
theorem next_hit {σ σk : Sg} {r b j t : Nat} (hwo : wantS σk = some b) (htj : t = j) (hG : (trl (σ.1 0) σ)[j]? = (trl (r + 1) σk)[j - t]?) : (trl (σ.1 0) σ)[j]? = some b := by
  rw [hG, (trn_go hwo).2.1, htj, Nat.sub_self]
  rfl
theorem next_none {σ σk : Sg} {r j t : Nat} (h : r = 0 ∨ wantS σk = none) (hG : (trl (σ.1 0) σ)[j]? = (trl r σk)[j - t]?) : (trl (σ.1 0) σ)[j]? = none := by
  rw [hG, (trn_stop h).2.1]
  rfl
theorem rd_dgs1 {tx : List Nat} {sp s' : Nat} {cm : Cm} (h : rdCmd tx sp = .inr (s', cm)) : 1 ≤ dgs tx sp := by
  unfold rdCmd at h
  unfold dgs
  split at h
  · rename_i q; rw [if_pos q]; omega
  · rename_i q
    rw [if_neg q]
    split at h
    · rename_i q; rw [if_pos q]; omega
    · rename_i q
      rw [if_neg q]
      split at h
      · rename_i q; rw [if_pos q]; omega
      · cases h
theorem S0_lim : lim 0 S0 := ⟨Nat.le_of_eq (clnN_big (k := 7) (by omega)), Nat.le_of_eq (clnN_big (k := 10) (by omega)), Nat.le_of_eq (clnN_big (k := 12) (by omega)), fun l _ => Nat.le_of_eq (clnN_big (k := 30 + l) (by omega))⟩
theorem hd_lim {tx : List Nat} : ∀ {k sp : Nat} {gd : Bool} {σ : Sg}, k ≤ 5 → hdS tx k = (sp, gd, σ) → lim 0 σ
  | 0, sp, gd, σ, _, h => by
    simp only [hdS] at h
    split at h
    · cases h; exact S0_lim
    · cases h; exact S0_lim
  | k + 1, sp, gd, σ, hk, h => by
    rcases he : hdS tx k with ⟨s1, g1, σ1⟩
    have ih := hd_lim (by omega) he
    cases g1 with
    | true =>
      cases hd : dgt tx s1 (loS k) (hiS k) with
      | none => rw [hdS_g0 he hd] at h; cases h; exact set_lim ih (by omega)
      | some v => rw [hdS_g1 he hd] at h; cases h; exact set_lim ih (by omega)
    | false => rw [hdS_b he] at h; cases h; exact set_lim ih (by omega)
