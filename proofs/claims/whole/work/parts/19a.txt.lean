/-! The class's text: its cells, what it reads of them. -/
def jTe (g : jG) (H : Heap) (a : Nat) (tx : List Nat) : Prop := jO g H a 3 [.ref (a + 1), .int (nI tx.length)] ∧ tx.length ≤ 120 ∧ ∃ sc, jC g H (a + 1) 120 sc ∧ tIs sc tx
theorem jTe.kept {g : jG} {H H1 : Heap} {a : Nat} {tx : List Nat} (h : jTe g H a tx) (hq : ∀ q : Nat, a ≤ q → q < a + 2 → H1[q]? = H[q]?) : jTe g H1 a tx := by
  obtain ⟨h1, h2, f, h3, h4⟩ := h
  exact ⟨h1.kept (hq _ (by omega) (by omega)), h2, f, h3.kept (hq _ (by omega) (by omega)), h4⟩
theorem jTe.obj {g : jG} {H : Heap} {a : Nat} {tx : List Nat} (h : jTe g H a tx) : jO g H a 3 [.ref (a + 1), .int (nI tx.length)] := h.1
theorem jTe.len {g : jG} {H : Heap} {a : Nat} {tx : List Nat} (h : jTe g H a tx) : tx.length ≤ 120 := h.2.1
theorem nar_c : ∀ k, k < 256 → vp_nar .char (nI k) = nI k := by decide +kernel
theorem i2c_c : ∀ k, k < 256 → ((nI k).toUInt32 % 65536).toInt32 = nI k := by decide +kernel
def tOk (tx : List Nat) : Prop := ∀ i, i < tx.length → ch tx i < 256
theorem tIs.ok {sc : Nat → Int32} {tx : List Nat} (h : tIs sc tx) : tOk tx := fun _ hi => (h.ch hi).2
theorem jTe.ok {g : jG} {H : Heap} {a : Nat} {tx : List Nat} (h : jTe g H a tx) : tOk tx := by
  obtain ⟨-, -, f, -, h4⟩ := h
  exact h4.ok
/-- the character code at a place; -1 behind the text -/
def sgA (tx : List Nat) (i : Nat) : Int32 := if i < tx.length then nI (ch tx i) else -1
def dgA (tx : List Nat) (i : Nat) : Int32 := sgA tx i - nI 48
theorem sgA_in {tx : List Nat} {i : Nat} (h : i < tx.length) : sgA tx i = nI (ch tx i) := if_pos h
theorem sgA_out {tx : List Nat} {i : Nat} (h : ¬ i < tx.length) : sgA tx i = -1 := if_neg h
theorem sg_eq {tx : List Nat} (ht : tOk tx) {i k : Nat} (hk : k < 256) : sgA tx i = nI k ↔ ch tx i = k := by
  by_cases h : i < tx.length
  · rw [sgA_in h]
    exact nI_eq (by have := ht i h; omega) (by omega)
  · rw [sgA_out h, ch_out h]
    exact ⟨fun q => absurd q.symm (nI_ne_m1 (by omega)), fun q => by omega⟩
theorem dg_in {tx : List Nat} (ht : tOk tx) {i : Nat} (h : i < tx.length) : (dgA tx i).toInt = (ch tx i : Int) - 48 := by
  have := ht i h
  unfold dgA
  rw [sgA_in h, pk_sub_toInt (by omega) (by omega)]
  rfl
theorem dg_out {tx : List Nat} {i : Nat} (h : ¬ i < tx.length) : (dgA tx i).toInt = -49 := by
  unfold dgA
  rw [sgA_out h]
  decide
theorem dgt_ix {tx : List Nat} (ht : tOk tx) {i lo hi : Nat} (h9 : hi ≤ 9) : dgt tx i lo hi = ix (dgA tx i) lo (hi + 1) := by
  unfold dgt ix
  by_cases h : i < tx.length
  · have hc := ht i h
    rw [dg_in ht h]
    by_cases q : 48 + lo ≤ ch tx i ∧ ch tx i ≤ 48 + hi
    · rw [if_pos q, if_pos (by omega)]
      congr 1
      omega
    · rw [if_neg q, if_neg (by omega)]
  · rw [dg_out h, ch_out h, if_neg (by omega), if_neg (by omega)]
theorem dgt_dg {tx : List Nat} {i lo hi u : Nat} (ht : tOk tx) (h9 : hi ≤ 9) (h : dgt tx i lo hi = some u) : dgA tx i = nI u ∧ lo ≤ u ∧ u ≤ hi := by
  rw [dgt_ix ht h9] at h
  have := ix_some h
  exact ⟨this.2.2, this.1, by omega⟩
/-- a digit is wrong, as the class sees it -/
theorem dgt_bad {tx : List Nat} (ht : tOk tx) {i lo hi : Nat} (h9 : hi ≤ 9) (hl : lo ≤ 9) : (dgA tx i < nI lo ∨ nI hi < dgA tx i) ↔ dgt tx i lo hi = none := by
  rw [dgt_ix ht h9]
  constructor
  · rintro (h | h)
    · exact ix_lo (by omega) h
    · exact ix_hi (by omega) h
  · intro h
    by_cases h1 : dgA tx i < nI lo
    · exact Or.inl h1
    · by_cases h2 : nI hi < dgA tx i
      · exact Or.inr h2
      · obtain ⟨j, hj, -⟩ := ix_mid (x := dgA tx i) (a := lo) (n := hi) (by omega) (by omega) h1 h2
        rw [hj] at h; cases h
def dgs (tx : List Nat) (sp : Nat) : Nat := if ch tx sp = 111 then 5 else if ch tx sp = 99 then 2 else if ch tx sp = 110 then 1 else 0
theorem dgs_le {tx : List Nat} {sp : Nat} : dgs tx sp ≤ 5 := by unfold dgs; split; omega; split; omega; split <;> omega
theorem rdCmd_dgs {tx : List Nat} {sp s' : Nat} {cm : Cm} (h : rdCmd tx sp = .inr (s', cm)) : s' = sp + (1 + dgs tx sp) := by
  unfold rdCmd at h
  unfold dgs
  split at h
  · rename_i q
    rw [if_pos q]
    split at h
    · cases h
    · split at h
      · cases h
      · split at h
        · cases h
        · split at h
          · cases h
          · split at h
            · cases h
            · cases h; omega
  · rename_i q
    rw [if_neg q]
    split at h
    · rename_i q
      rw [if_pos q]
      split at h
      · cases h
      · split at h
        · cases h
        · cases h; omega
    · rename_i q
      rw [if_neg q]
      split at h
      · rename_i q
        rw [if_pos q]
        split at h
        · cases h
        · cases h; omega
      · cases h
/-- the highest digits -/
def hop (tx : List Nat) (a pl mo : Nat) : Nat := if pl = 2 ∧ dgA tx a < nI (mo / 10) then 9 else if pl = 1 then mo / 10 else mo % 10
def hgd (tx : List Nat) (sp i : Nat) : Nat := if ch tx sp = 99 then hop tx (sp + 1) i 19 else if ch tx sp = 110 then 9 else if i = 1 then 3 else if i = 2 then hop tx (sp + 2) 1 15 else if i = 3 then hop tx (sp + 2) 2 15 else if i = 4 then 7 else 9
def lwd (tx : List Nat) (sp : Nat) : Nat := if ch tx sp = 110 then 1 else 0
theorem hop_le {tx : List Nat} {a pl mo : Nat} (h : mo < 20) : hop tx a pl mo ≤ 9 := by unfold hop; split; omega; split <;> omega
theorem hgd_le {tx : List Nat} {sp i : Nat} : hgd tx sp i ≤ 9 := by
  unfold hgd
  split
  · exact hop_le (by omega)
  · split
    · omega
    · split
      · omega
      · split
        · exact hop_le (by omega)
        · split
          · exact hop_le (by omega)
          · split <;> omega
theorem lwd_le {tx : List Nat} {sp : Nat} : lwd tx sp ≤ 1 := by unfold lwd; split <;> omega
def badD (tx : List Nat) (sp i : Nat) : Prop := dgA tx (sp + i) < nI (lwd tx sp) ∨ nI (hgd tx sp i) < dgA tx (sp + i)
/-- the error's place in a command; -1 if there is none -/
def wic (tx : List Nat) (sp : Nat) : Int32 := match rdCmd tx sp with
  | .inl e => nI e
  | .inr _ => -1
theorem badD_dgt {tx : List Nat} (ht : tOk tx) {sp i : Nat} : badD tx sp i ↔ dgt tx (sp + i) (lwd tx sp) (hgd tx sp i) = none := dgt_bad ht hgd_le (Nat.le_trans lwd_le (by omega))
theorem goodD {tx : List Nat} (ht : tOk tx) {sp i : Nat} (h : ¬ badD tx sp i) : ∃ u, dgt tx (sp + i) (lwd tx sp) (hgd tx sp i) = some u := by
  cases hd : dgt tx (sp + i) (lwd tx sp) (hgd tx sp i) with
  | none => exact absurd ((badD_dgt ht).mpr hd) h
  | some u => exact ⟨u, rfl⟩
theorem lt_nI {a b : Nat} (ha : a < 2 ^ 31) (hb : b < 2 ^ 31) : nI a < nI b ↔ a < b := nI_ltI ha hb
theorem wic_0 {tx : List Nat} {sp : Nat} (h : dgs tx sp = 0) : wic tx sp = nI sp := by
  unfold dgs at h
  unfold wic rdCmd
  split at h
  · cases h
  · rename_i q1
    split at h
    · cases h
    · rename_i q2
      split at h
      · cases h
      · rename_i q3
        rw [if_neg q1, if_neg q2, if_neg q3]
theorem wic_o {tx : List Nat} (ht : tOk tx) {sp : Nat} (h : ch tx sp = 111) : (∀ i, 1 ≤ i → i ≤ 5 → (∀ j, 1 ≤ j → j < i → ¬ badD tx sp j) → badD tx sp i → wic tx sp = nI (sp + i)) ∧ ((∀ j, 1 ≤ j → j ≤ 5 → ¬ badD tx sp j) → wic tx sp = -1) := by
  have hl : lwd tx sp = 0 := if_neg (by omega)
  have e1 : hgd tx sp 1 = 3 := by unfold hgd; rw [if_neg (by omega), if_neg (by omega)]; rfl
  have e2 : hgd tx sp 2 = 1 := by unfold hgd; rw [if_neg (by omega), if_neg (by omega)]; rfl
  have e3 : hgd tx sp 3 = hop tx (sp + 2) 2 15 := by unfold hgd; rw [if_neg (by omega), if_neg (by omega)]; rfl
  have e4 : hgd tx sp 4 = 7 := by unfold hgd; rw [if_neg (by omega), if_neg (by omega)]; rfl
  have e5 : hgd tx sp 5 = 9 := by unfold hgd; rw [if_neg (by omega), if_neg (by omega)]; rfl
  have e3' : ∀ t, dgt tx (sp + 2) 0 1 = some t → hop tx (sp + 2) 2 15 = if t = 1 then 5 else 9 := fun t q => by
    have q1 := dgt_dg ht (by omega) q
    unfold hop
    rw [q1.1]
    have q2 : (2 = 2 ∧ nI t < nI (15 / 10)) ↔ ¬ t = 1 := by
      rw [lt_nI (by omega) (by omega)]
      have := q1.2.2
      constructor
      · intro z; have := z.2; omega
      · intro z; exact ⟨rfl, by omega⟩
    by_cases z : t = 1
    · rw [if_neg (fun y => q2.mp y z), if_pos z]; rfl
    · rw [if_pos (q2.mpr z), if_neg z]
  refine ⟨fun i h1 h5 hb hbad => ?_, fun hb => ?_⟩
  · unfold wic rdCmd
    rw [if_pos h]
    have b1 := hb 1 (by omega)
    have b2 := hb 2 (by omega)
    have b3 := hb 3 (by omega)
    have b4 := hb 4 (by omega)
    have key : ∀ i, (badD tx sp i ↔ dgt tx (sp + i) 0 (hgd tx sp i) = none) := fun i => by rw [badD_dgt ht, hl]
    have gkey : ∀ i, ¬ badD tx sp i → ∃ u, dgt tx (sp + i) 0 (hgd tx sp i) = some u := fun i q => by
      have := goodD ht q
      rw [hl] at this; exact this
    have hi : i = 1 ∨ i = 2 ∨ i = 3 ∨ i = 4 ∨ i = 5 := by omega
    rcases hi with rfl | rfl | rfl | rfl | rfl
    · have z := (key 1).mp hbad
      rw [e1] at z
      rw [z]
    · obtain ⟨u1, z1⟩ := gkey 1 (b1 (by omega))
      have z := (key 2).mp hbad
      rw [e1] at z1
      rw [e2] at z
      rw [z1]
      simp only [z]
    · obtain ⟨u1, z1⟩ := gkey 1 (b1 (by omega))
      obtain ⟨u2, z2⟩ := gkey 2 (b2 (by omega))
      have z := (key 3).mp hbad
      rw [e1] at z1
      rw [e2] at z2
      rw [e3, e3' u2 z2] at z
      rw [z1]
      simp only [z2, z]
    · obtain ⟨u1, z1⟩ := gkey 1 (b1 (by omega))
      obtain ⟨u2, z2⟩ := gkey 2 (b2 (by omega))
      obtain ⟨u3, z3⟩ := gkey 3 (b3 (by omega))
      have z := (key 4).mp hbad
      rw [e1] at z1
      rw [e2] at z2
      rw [e3, e3' u2 z2] at z3
      rw [e4] at z
      rw [z1]
      simp only [z2, z3, z]
    · obtain ⟨u1, z1⟩ := gkey 1 (b1 (by omega))
      obtain ⟨u2, z2⟩ := gkey 2 (b2 (by omega))
      obtain ⟨u3, z3⟩ := gkey 3 (b3 (by omega))
      obtain ⟨u4, z4⟩ := gkey 4 (b4 (by omega))
      have z := (key 5).mp hbad
      rw [e1] at z1
      rw [e2] at z2
      rw [e3, e3' u2 z2] at z3
      rw [e4] at z4
      rw [e5] at z
      rw [z1]
      simp only [z2, z3, z4, z]
  · unfold wic rdCmd
    rw [if_pos h]
    have gkey : ∀ i, ¬ badD tx sp i → ∃ u, dgt tx (sp + i) 0 (hgd tx sp i) = some u := fun i q => by
      have := goodD ht q
      rw [hl] at this; exact this
    obtain ⟨u1, z1⟩ := gkey 1 (hb 1 (by omega) (by omega))
    obtain ⟨u2, z2⟩ := gkey 2 (hb 2 (by omega) (by omega))
    obtain ⟨u3, z3⟩ := gkey 3 (hb 3 (by omega) (by omega))
    obtain ⟨u4, z4⟩ := gkey 4 (hb 4 (by omega) (by omega))
    obtain ⟨u5, z5⟩ := gkey 5 (hb 5 (by omega) (by omega))
    rw [e1] at z1
    rw [e2] at z2
    rw [e3, e3' u2 z2] at z3
    rw [e4] at z4
    rw [e5] at z5
    rw [z1]
    simp only [z2, z3, z4, z5]
theorem wic_c {tx : List Nat} (ht : tOk tx) {sp : Nat} (h : ch tx sp = 99) : (∀ i, 1 ≤ i → i ≤ 2 → (∀ j, 1 ≤ j → j < i → ¬ badD tx sp j) → badD tx sp i → wic tx sp = nI (sp + i)) ∧ ((∀ j, 1 ≤ j → j ≤ 2 → ¬ badD tx sp j) → wic tx sp = -1) := by
  have hl : lwd tx sp = 0 := if_neg (by omega)
  have e1 : hgd tx sp 1 = 1 := by unfold hgd; rw [if_pos h]; rfl
  have e2 : hgd tx sp 2 = 9 := by
    unfold hgd; rw [if_pos h]
    unfold hop
    split
    · rfl
    · rfl
  have key : ∀ i, (badD tx sp i ↔ dgt tx (sp + i) 0 (hgd tx sp i) = none) := fun i => by rw [badD_dgt ht, hl]
  have gkey : ∀ i, ¬ badD tx sp i → ∃ u, dgt tx (sp + i) 0 (hgd tx sp i) = some u := fun i q => by
    have := goodD ht q
    rw [hl] at this; exact this
  refine ⟨fun i h1 h5 hb hbad => ?_, fun hb => ?_⟩
  · unfold wic rdCmd
    rw [if_neg (by omega), if_pos h]
    have hi : i = 1 ∨ i = 2 := by omega
    rcases hi with rfl | rfl
    · have z := (key 1).mp hbad
      rw [e1] at z
      rw [z]
    · obtain ⟨u1, z1⟩ := gkey 1 (hb 1 (by omega) (by omega))
      have z := (key 2).mp hbad
      rw [e1] at z1
      rw [e2] at z
      rw [z1]
      simp only [z]
  · unfold wic rdCmd
    rw [if_neg (by omega), if_pos h]
    obtain ⟨u1, z1⟩ := gkey 1 (hb 1 (by omega) (by omega))
    obtain ⟨u2, z2⟩ := gkey 2 (hb 2 (by omega) (by omega))
    rw [e1] at z1
    rw [e2] at z2
    rw [z1]
    simp only [z2]
theorem wic_n {tx : List Nat} (ht : tOk tx) {sp : Nat} (h : ch tx sp = 110) : (badD tx sp 1 → wic tx sp = nI (sp + 1)) ∧ (¬ badD tx sp 1 → wic tx sp = -1) := by
  have hl : lwd tx sp = 1 := if_pos h
  have e1 : hgd tx sp 1 = 9 := by unfold hgd; rw [if_neg (by omega), if_pos h]
  refine ⟨fun hbad => ?_, fun hb => ?_⟩
  · unfold wic rdCmd
    rw [if_neg (by omega), if_neg (by omega), if_pos h]
    have z := (badD_dgt ht).mp hbad
    rw [hl, e1] at z
    rw [z]
  · unfold wic rdCmd
    rw [if_neg (by omega), if_neg (by omega), if_pos h]
    obtain ⟨u1, z1⟩ := goodD ht hb
    rw [hl, e1] at z1
    rw [z1]
theorem wic_bad {tx : List Nat} (ht : tOk tx) {sp i : Nat} (h1 : 1 ≤ i) (h2 : i ≤ dgs tx sp) (hb : ∀ j, 1 ≤ j → j < i → ¬ badD tx sp j) (hbad : badD tx sp i) : wic tx sp = nI (sp + i) := by
  unfold dgs at h2
  split at h2
  · rename_i q; exact (wic_o ht q).1 i h1 h2 hb hbad
  · split at h2
    · rename_i q; exact (wic_c ht q).1 i h1 h2 hb hbad
    · split at h2
      · rename_i q
        obtain rfl : i = 1 := by omega
        exact (wic_n ht q).1 hbad
      · omega
theorem wic_good {tx : List Nat} (ht : tOk tx) {sp : Nat} (h1 : ¬ dgs tx sp = 0) (hb : ∀ j, 1 ≤ j → j ≤ dgs tx sp → ¬ badD tx sp j) : wic tx sp = -1 := by
  unfold dgs at h1 hb
  split at h1
  · rename_i q
    rw [if_pos q] at hb
    exact (wic_o ht q).2 hb
  · rename_i q0
    rw [if_neg q0] at hb
    split at h1
    · rename_i q
      rw [if_pos q] at hb
      exact (wic_c ht q).2 hb
    · rename_i q1
      rw [if_neg q1] at hb
      split at h1
      · rename_i q
        rw [if_pos q] at hb
        exact (wic_n ht q).2 (hb 1 (by omega) (by omega))
      · exact absurd rfl h1
/-- the head -/
def wih (tx : List Nat) : Int32 := if (hdS tx 5).2.1 then -1 else nI (hdS tx 5).1
theorem hdS_bad {tx : List Nat} {sp : Nat} : ∀ (d k : Nat) (σ : Sg), k + d = 5 → hdS tx k = (sp, false, σ) → ∃ τ, hdS tx 5 = (sp, false, τ)
  | 0, k, σ, h, e => ⟨σ, by obtain rfl : k = 5 := (by omega); exact e⟩
  | d + 1, k, σ, h, e => hdS_bad d (k + 1) _ (by omega) (hdS_b e)
theorem hdS_gd {tx : List Nat} {k : Nat} {σ : Sg} (h : hdS tx k = (1 + k, true, σ)) {v : Nat} (hd : dgt tx (1 + k) (loS k) (hiS k) = some v) : ∃ τ, hdS tx (k + 1) = (1 + (k + 1), true, τ) := ⟨_, hdS_g1 h hd⟩
theorem wih_bad {tx : List Nat} {k : Nat} {σ : Sg} (hk : k < 5) (h : hdS tx k = (1 + k, true, σ)) (hd : dgt tx (1 + k) (loS k) (hiS k) = none) : wih tx = nI (1 + k) := by
  obtain ⟨τ, e⟩ := hdS_bad (4 - k) (k + 1) _ (by omega) (hdS_g0 h hd)
  unfold wih
  rw [e]; rfl
theorem wih_0 {tx : List Nat} (h : ¬ ch tx 0 = 68) : wih tx = nI 0 := by
  obtain ⟨τ, e⟩ := hdS_bad (tx := tx) (sp := 0) 5 0 S0 rfl (if_neg h)
  unfold wih
  rw [e]; rfl
theorem wih_good {tx : List Nat} {σ : Sg} (h : hdS tx 5 = (1 + 5, true, σ)) : wih tx = -1 := by unfold wih; rw [h]; rfl
/-- the whole text, as the class goes through it -/
def fwI (tx : List Nat) (w : Int32) (p : Nat) : Prop := (w = -1 ∧ ∃ d lo σ, cont tx true d p lo σ = rdText tx ∧ tx.length ≤ p + d) ∨ (¬ w = -1 ∧ w = fErr tx)
theorem fErr_bad {tx : List Nat} {e lo : Nat} {σ : Sg} (h : rdText tx = (e, false, lo, σ)) : fErr tx = nI e := by unfold fErr; rw [h]; rfl
theorem fErr_good {tx : List Nat} {e lo : Nat} {σ : Sg} (h : rdText tx = (e, true, lo, σ)) : fErr tx = -1 := by unfold fErr; rw [h]; rfl
theorem hdS_true {tx : List Nat} : ∀ {k sp : Nat} {σ : Sg}, hdS tx k = (sp, true, σ) → sp = k + 1
  | 0, sp, σ, h => by
    simp only [hdS] at h
    split at h
    · cases h; rfl
    · cases h
  | k + 1, sp, σ, h => by
    rcases he : hdS tx k with ⟨s1, g1, σ1⟩
    cases g1 with
    | true =>
      have := hdS_true he
      cases hd : dgt tx s1 (loS k) (hiS k) with
      | none => rw [hdS_g0 he hd] at h; cases h
      | some v => rw [hdS_g1 he hd] at h; cases h; omega
    | false => rw [hdS_b he] at h; cases h
theorem fw_start {tx : List Nat} (hl : tx.length ≤ 120) : fwI tx (wih tx) 6 := by
  rcases he : hdS tx 5 with ⟨sp, gd, σ⟩
  have hR := rdText_of he
  cases gd with
  | true =>
    have hsp := hdS_true he
    subst hsp
    refine Or.inl ⟨by unfold wih; rw [he]; rfl, 120, 0, σ, hR.symm, by omega⟩
  | false =>
    have e1 : rdText tx = (sp, false, 0, σ) := hR
    have hle := rdText_le (tx := tx)
    rw [e1] at hle
    have e2 : wih tx = nI sp := by unfold wih; rw [he]; rfl
    have hle : sp ≤ tx.length := hle
    exact Or.inr ⟨by rw [e2]; exact nI_ne_m1 (by omega), by rw [e2, fErr_bad e1]⟩
theorem fw_step {tx : List Nat} {p : Nat} (hl : tx.length ≤ 120) (hp : p < tx.length) (h : fwI tx (-1) p) : fwI tx (wic tx p) (p + (1 + dgs tx p)) := by
  rcases h with ⟨-, d, lo, σ, hc, hd⟩ | ⟨h, -⟩
  · obtain ⟨d, rfl⟩ : ∃ d1, d = d1 + 1 := ⟨d - 1, by omega⟩
    unfold wic
    cases hr : rdCmd tx p with
    | inl e =>
      have e1 : rdOne tx p lo σ = (e, false, lo, σ) := by unfold rdOne; rw [hr]
      rw [cont_go hp e1] at hc
      have e2 : rdText tx = (e, false, lo, σ) := hc.symm
      have hle := (rdCmd_le hp).1 e hr
      exact Or.inr ⟨nI_ne_m1 (by omega), (fErr_bad e2).symm⟩
    | inr q =>
      obtain ⟨s', cm⟩ := q
      have hs' := rdCmd_dgs hr
      subst hs'
      have e1 : ∃ lo1 σ1, rdOne tx p lo σ = (p + (1 + dgs tx p), true, lo1, σ1) := by
        unfold rdOne
        rw [hr]
        cases hq : doC σ cm with
        | none => exact ⟨lo + 1, σ, by simp only [hq]⟩
        | some σ1 => exact ⟨lo, σ1, by simp only [hq]⟩
      obtain ⟨lo1, σ1, e1⟩ := e1
      rw [cont_go hp e1] at hc
      exact Or.inl ⟨rfl, d, lo1, σ1, hc, by omega⟩
  · exact absurd rfl h
theorem fw_end {tx : List Nat} {w : Int32} {p : Nat} (h : fwI tx w p) (hp : ¬ p < tx.length) : w = fErr tx := by
  rcases h with ⟨h1, d, lo, σ, hc, hd⟩ | ⟨-, h⟩
  · rw [cont_end hp] at hc
    rw [h1, fErr_good hc.symm]
  · exact h
theorem fw_out {tx : List Nat} {w : Int32} {p : Nat} (h : fwI tx w p) (hw : ¬ w = -1) : w = fErr tx := by
  rcases h with ⟨h1, -⟩ | ⟨-, h⟩
  · exact absurd h1 hw
  · exact h
theorem lk3_no {x : Int32} {a b c d : Int} (h1 : ¬ x = nI 99) (h2 : ¬ x = nI 110) (h3 : ¬ x = nI 111) : Op.lookupswitch.offset [(99, a), (110, b), (111, c)] d x.toInt = d := by
  have g1 : ¬ (99 : Int) = x.toInt := fun q => h1 (Int32.toInt_inj.mp (by rw [← q]; decide))
  have g2 : ¬ (110 : Int) = x.toInt := fun q => h2 (Int32.toInt_inj.mp (by rw [← q]; decide))
  have g3 : ¬ (111 : Int) = x.toInt := fun q => h3 (Int32.toInt_inj.mp (by rw [← q]; decide))
  simp [Op.lookupswitch.offset, g1, g2, g3]
