/-! The text: characters, digits, commands, and what a reading of it makes. -/
def ch (tx : List Nat) (i : Nat) : Nat := (tx[i]?).getD 256
theorem ch_in {tx : List Nat} {i : Nat} (h : i < tx.length) : ∃ c, tx[i]? = some c ∧ ch tx i = c := ⟨tx[i], List.getElem?_eq_getElem h, by unfold ch; rw [List.getElem?_eq_getElem h]; rfl⟩
theorem ch_out {tx : List Nat} {i : Nat} (h : ¬ i < tx.length) : ch tx i = 256 := by unfold ch; rw [List.getElem?_eq_none (by omega)]; rfl
theorem tIs.ch {sc : Nat → Int32} {tx : List Nat} (h : tIs sc tx) {i : Nat} (hi : i < tx.length) : sc i = nI (ch tx i) ∧ ch tx i < 256 := by
  obtain ⟨c, h1, h2⟩ := ch_in hi
  rw [h2]; exact h i c h1
def dgt (tx : List Nat) (i lo hi : Nat) : Option Nat := if 48 + lo ≤ ch tx i ∧ ch tx i ≤ 48 + hi then some (ch tx i - 48) else none
/-- the value of a sign, as both programs take it -/
def dv (tx : List Nat) (i : Nat) (v : Int32) : Prop := (i < tx.length ∧ ch tx i < 256 ∧ v = nI (ch tx i) - nI 48) ∨ (¬ i < tx.length ∧ v = -1)
theorem dv_ge {tx : List Nat} {i u : Nat} (h : dv tx i (nI u)) (hu : u < 2 ^ 30) : i < tx.length ∧ ch tx i = u + 48 := by
  rcases h with ⟨h1, h2, h3⟩ | ⟨h1, h3⟩
  · refine ⟨h1, ?_⟩
    have h4 := congrArg Int32.toInt h3
    rw [nI_toInt (by omega), pk_sub_toInt (by omega) (by omega)] at h4
    omega
  · exact absurd h3 (nI_ne_m1 (by omega))
theorem dv_none {tx : List Nat} {i : Nat} {v : Int32} (h : dv tx i v) (hx : ix v 0 10 = none) : ¬ (48 ≤ ch tx i ∧ ch tx i ≤ 57) := by
  rcases h with ⟨h1, h2, h3⟩ | ⟨h1, h3⟩
  · intro q
    have h5 : v = nI (ch tx i - 48) := by rw [h3, pk_sub (by omega)]
    rw [h5, ix_nI (Nat.zero_le _) (by omega) (by decide)] at hx
    cases hx
  · rw [ch_out h1]; omega
theorem dgt_yes {tx : List Nat} {i lo hi u : Nat} (h : dv tx i (nI u)) (hu : u < 10) (h1 : lo ≤ u) (h2 : u ≤ hi) : dgt tx i lo hi = some u := by
  have h3 := (dv_ge h (by omega)).2
  unfold dgt
  rw [if_pos (by omega), h3]
  congr 1
theorem dgt_no1 {tx : List Nat} {i lo hi : Nat} {v : Int32} (h : dv tx i v) (hx : ix v 0 10 = none) (h9 : hi ≤ 9) : dgt tx i lo hi = none := by
  have h3 := dv_none h hx
  unfold dgt
  rw [if_neg (by omega)]
theorem dgt_no2 {tx : List Nat} {i lo hi u : Nat} (h : dv tx i (nI u)) (hu : u < 10) (h1 : ¬ (lo ≤ u ∧ u ≤ hi)) : dgt tx i lo hi = none := by
  have h3 := (dv_ge h (by omega)).2
  unfold dgt
  rw [if_neg (by omega)]
theorem dgt_some {tx : List Nat} {i lo hi u : Nat} (h : dgt tx i lo hi = some u) : lo ≤ u ∧ u ≤ hi ∧ ch tx i = u + 48 := by
  unfold dgt at h
  split at h
  · cases h; omega
  · cases h
theorem le64 {a b : Nat} (ha : a < 2 ^ 31) (hb : b < 2 ^ 31) : (nI a).toInt64 ≤ (nI b).toInt64 ↔ a ≤ b := by
  rw [Int64.le_iff_toInt_le, toI64_N ha, toI64_N hb]; omega
/-- a command: an order, a cancel, nights -/
abbrev Cm : Type := (Nat × Nat × Nat × Nat) ⊕ (Nat ⊕ Nat)
def okCm : Cm → Prop
  | .inl (c, l, it, fe) => c < 4 ∧ l < 16 ∧ it < 8 ∧ fe < 10
  | .inr (.inl i) => i < 20
  | .inr (.inr k) => 1 ≤ k ∧ k < 10
/-- a command: the error's place, or the place behind it and what it says -/
def rdCmd (tx : List Nat) (sp : Nat) : Nat ⊕ (Nat × Cm) :=
  if ch tx sp = 111 then (match dgt tx (sp + 1) 0 3 with
    | none => .inl (sp + 1)
    | some c => match dgt tx (sp + 2) 0 1 with
      | none => .inl (sp + 2)
      | some t => match dgt tx (sp + 3) 0 (if t = 1 then 5 else 9) with
        | none => .inl (sp + 3)
        | some d => match dgt tx (sp + 4) 0 7 with
          | none => .inl (sp + 4)
          | some it => match dgt tx (sp + 5) 0 9 with
            | none => .inl (sp + 5)
            | some fe => .inr (sp + 6, .inl (c, 10 * t + d, it, fe)))
  else if ch tx sp = 99 then (match dgt tx (sp + 1) 0 1 with
    | none => .inl (sp + 1)
    | some t => match dgt tx (sp + 2) 0 9 with
      | none => .inl (sp + 2)
      | some d => .inr (sp + 3, .inr (.inl (10 * t + d))))
  else if ch tx sp = 110 then (match dgt tx (sp + 1) 1 9 with
    | none => .inl (sp + 1)
    | some d => .inr (sp + 2, .inr (.inr d)))
  else .inl sp
theorem rdCmd_ok {tx : List Nat} {sp s' : Nat} {cm : Cm} (h : rdCmd tx sp = .inr (s', cm)) : okCm cm ∧ sp < s' := by
  unfold rdCmd at h
  split at h
  · split at h
    · cases h
    · rename_i c hc
      split at h
      · cases h
      · rename_i t ht
        split at h
        · cases h
        · rename_i d hd
          split at h
          · cases h
          · rename_i it hit
            split at h
            · cases h
            · rename_i fe hfe
              cases h
              have h1 := dgt_some hc
              have h2 := dgt_some ht
              have h3 := dgt_some hd
              have h4 := dgt_some hit
              have h5 := dgt_some hfe
              refine ⟨⟨by omega, ?_, by omega, by omega⟩, by omega⟩
              by_cases q : t = 1
              · rw [if_pos q] at h3; omega
              · rw [if_neg q] at h3; omega
  · split at h
    · split at h
      · cases h
      · rename_i t ht
        split at h
        · cases h
        · rename_i d hd
          cases h
          have h2 := dgt_some ht
          have h3 := dgt_some hd
          exact ⟨by show _ < 20; omega, by omega⟩
    · split at h
      · split at h
        · cases h
        · rename_i d hd
          cases h
          have h3 := dgt_some hd
          exact ⟨⟨by omega, by omega⟩, by omega⟩
      · cases h
def doC (σ : Sg) : Cm → Option Sg
  | .inl (c, l, it, fe) => tAsk σ c l it fe
  | .inr (.inl i) => tCancel σ i
  | .inr (.inr k) => some (nightsS k σ)
theorem okN.doC {σ σ' : Sg} (h : okN σ) {cm : Cm} (hc : okCm cm) (e : doC σ cm = some σ') : okN σ' := by
  rcases cm with ⟨c, l, it, fe⟩ | i | k
  · have e' : tAsk σ c l it fe = some σ' := e
    unfold tAsk at e'
    split at e'
    · rename_i q
      obtain ⟨q1, q2, q3⟩ := q
      split at e'
      · cases e'; exact h.askF q1 q2 hc.2.2.1
      · cases e'
        rename_i q4
        exact h.askO (q3.resolve_left q4).1 ⟨q1, q2, hc.2.2.1, hc.2.2.2, Nat.zero_lt_succ _, Nat.zero_lt_succ _⟩
    · cases e'
  · have e' : tCancel σ i = some σ' := e
    unfold tCancel at e'
    split at e'
    · cases e'
    · cases e'; exact h.cancel
  · have e' : some (nightsS k σ) = some σ' := e
    cases e'; exact h.nights k
/-- one command read and done -/
def rdOne (tx : List Nat) (sp lo : Nat) (σ : Sg) : Nat × Bool × Nat × Sg := match rdCmd tx sp with
  | .inl e => (e, false, lo, σ)
  | .inr (s', cm) => match doC σ cm with
    | none => (s', true, lo + 1, σ)
    | some σ' => (s', true, lo, σ')
theorem okN_rdOne {tx : List Nat} {sp lo : Nat} {σ : Sg} (h : okN σ) : okN (rdOne tx sp lo σ).2.2.2 := by
  unfold rdOne
  split
  · exact h
  · rename_i s' cm hc
    split
    · exact h
    · rename_i σ' hd
      exact h.doC (rdCmd_ok hc).1 hd
theorem rdOne_sp {tx : List Nat} {sp lo : Nat} {σ : Sg} (h : (rdOne tx sp lo σ).2.1 = true) : sp < (rdOne tx sp lo σ).1 := by
  unfold rdOne at h ⊢
  split at h
  · cases h
  · rename_i s' cm hc
    have := (rdCmd_ok hc).2
    split <;> exact this
/-- all commands -/
def rdAll (tx : List Nat) : Nat → Nat → Nat → Sg → Nat × Bool × Nat × Sg
  | 0, sp, lo, σ => (sp, true, lo, σ)
  | q + 1, sp, lo, σ => if sp < tx.length then (match rdOne tx sp lo σ with
    | (s', true, lo', σ') => rdAll tx q s' lo' σ'
    | (s', false, lo', σ') => (s', false, lo', σ')) else (sp, true, lo, σ)
def cont (tx : List Nat) (gd : Bool) (q sp lo : Nat) (σ : Sg) : Nat × Bool × Nat × Sg := if gd then rdAll tx q sp lo σ else (sp, false, lo, σ)
theorem cont_end {tx : List Nat} {q sp lo : Nat} {σ : Sg} (h : ¬ sp < tx.length) : cont tx true q sp lo σ = (sp, true, lo, σ) := by
  unfold cont
  rw [if_pos rfl]
  cases q with
  | zero => rfl
  | succ q => simp only [rdAll]; rw [if_neg h]
theorem cont_go {tx : List Nat} {q sp lo : Nat} {σ : Sg} (h : sp < tx.length) {s' lo' : Nat} {gd : Bool} {σ' : Sg} (e : rdOne tx sp lo σ = (s', gd, lo', σ')) : cont tx true (q + 1) sp lo σ = cont tx gd q s' lo' σ' := by
  unfold cont
  rw [if_pos rfl]
  simp only [rdAll]
  rw [if_pos h, e]
  cases gd <;> rfl
/-- a new store -/
def clnN (k : Nat) : Nat := match k with | 0 => 1 | 1 => 3 | 2 => 2 | 3 => 5 | _ => 0
def S0 : Sg := (clnN, (fun _ => nI 50), [], [])
theorem okN_S0 : okN S0 := by
  refine ⟨⟨⟨by decide, by decide, by decide, by decide, by decide, by decide, by decide, by decide⟩, fun l hl => ?_, Nat.zero_le _, (fun o h => by cases h), Nat.zero_le _, (fun o h => by cases h)⟩, (fun o h => by cases h), Nat.zero_le _⟩
  show clnN (14 + l) ≤ 10
  unfold clnN
  split <;> omega
theorem Row_S0 {f : Nat → Int32} (h1 : ∀ j, j < 235 → (j < 46 ∨ 50 ≤ j) → f j = nI (clnN j)) (h2 : ∀ c, c < 4 → f (46 + c) = nI 50) : Row f S0 :=
  ⟨(fun k a _ c => h1 k (by omega) c), (fun c hc => h2 c hc), h1 6 (by omega) (by omega), h1 58 (by omega) (by omega), (fun i w o h => by cases i <;> cases h), (fun i w o h => by cases i <;> cases h)⟩
/-- the letter and the settings -/
def hdS (tx : List Nat) : Nat → Nat × Bool × Sg
  | 0 => if ch tx 0 = 68 then (1, true, S0) else (0, false, S0)
  | k + 1 => match hdS tx k with
    | (sp, true, σ) => (match dgt tx sp (loS k) (hiS k) with
      | some v => (sp + 1, true, upn σ k v)
      | none => (sp, false, upn σ k (loS k)))
    | (sp, false, σ) => (sp, false, upn σ k (loS k))
theorem hdS_g1 {tx : List Nat} {k sp v : Nat} {σ : Sg} (h : hdS tx k = (sp, true, σ)) (hd : dgt tx sp (loS k) (hiS k) = some v) : hdS tx (k + 1) = (sp + 1, true, upn σ k v) := by simp only [hdS, h, hd]
theorem hdS_g0 {tx : List Nat} {k sp : Nat} {σ : Sg} (h : hdS tx k = (sp, true, σ)) (hd : dgt tx sp (loS k) (hiS k) = none) : hdS tx (k + 1) = (sp, false, upn σ k (loS k)) := by simp only [hdS, h, hd]
theorem hdS_b {tx : List Nat} {k sp : Nat} {σ : Sg} (h : hdS tx k = (sp, false, σ)) : hdS tx (k + 1) = (sp, false, upn σ k (loS k)) := by simp only [hdS, h]
theorem loS_hiS {k : Nat} (h : k < 5) : loS k ≤ hiS k ∧ hiS k ≤ 9 := by
  have hw9 : k = 0 ∨ k = 1 ∨ k = 2 ∨ k = 3 ∨ k = 4 := by omega
  rcases hw9 with rfl | rfl | rfl | rfl | rfl <;> decide
def rdText (tx : List Nat) : Nat × Bool × Nat × Sg := cont tx (hdS tx 5).2.1 120 (hdS tx 5).1 0 (hdS tx 5).2.2
theorem rdText_of {tx : List Nat} {sp : Nat} {gd : Bool} {σ : Sg} (h : hdS tx 5 = (sp, gd, σ)) : rdText tx = cont tx gd 120 sp 0 σ := by unfold rdText; rw [h]
def fErr (tx : List Nat) : Int32 := if (rdText tx).2.1 then -1 else nI (rdText tx).1
def fLoad (tx : List Nat) : Nat × Int32 × Sg := if (rdText tx).2.1 then (0, nI (rdText tx).2.2.1, (rdText tx).2.2.2) else (1, 0, (rdText tx).2.2.2)
theorem dgt_lt {tx : List Nat} {i lo hi u : Nat} (h : dgt tx i lo hi = some u) (h9 : hi ≤ 9) : i < tx.length := by
  by_cases q : i < tx.length
  · exact q
  · have h1 := dgt_some h
    rw [ch_out q] at h1
    omega
theorem rdCmd_le {tx : List Nat} {sp : Nat} (hsp : sp < tx.length) : (∀ e, rdCmd tx sp = .inl e → e ≤ tx.length) ∧ (∀ s' cm, rdCmd tx sp = .inr (s', cm) → s' ≤ tx.length) := by
  refine ⟨fun e h => ?_, fun s' cm h => ?_⟩
  · unfold rdCmd at h
    split at h
    · split at h
      · cases h; omega
      · rename_i c hc
        have h1 := dgt_lt hc (by omega)
        split at h
        · cases h; omega
        · rename_i t ht
          have h2 := dgt_lt ht (by omega)
          split at h
          · cases h; omega
          · rename_i d hd
            have h3 := dgt_lt hd (by split <;> omega)
            split at h
            · cases h; omega
            · rename_i it hit
              have h4 := dgt_lt hit (by omega)
              split at h
              · cases h; omega
              · cases h
    · split at h
      · split at h
        · cases h; omega
        · rename_i t ht
          have h2 := dgt_lt ht (by omega)
          split at h
          · cases h; omega
          · cases h
      · split at h
        · split at h
          · cases h; omega
          · cases h
        · cases h; omega
  · unfold rdCmd at h
    split at h
    · split at h
      · cases h
      · split at h
        · cases h
        · split at h
          · cases h
          · split at h
            · cases h
            · split at h
              · cases h
              · rename_i fe hfe
                have h4 := dgt_lt hfe (by omega)
                cases h; omega
    · split at h
      · split at h
        · cases h
        · split at h
          · cases h
          · rename_i d hd
            have h4 := dgt_lt hd (by omega)
            cases h; omega
      · split at h
        · split at h
          · cases h
          · rename_i d hd
            have h4 := dgt_lt hd (by omega)
            cases h; omega
        · cases h
theorem rdOne_le {tx : List Nat} {sp lo : Nat} {σ : Sg} (hsp : sp < tx.length) {s1 lo1 : Nat} {gd : Bool} {σ1 : Sg} (h : rdOne tx sp lo σ = (s1, gd, lo1, σ1)) : s1 ≤ tx.length ∧ (gd = true → sp < s1) := by
  have h1 : (rdOne tx sp lo σ).1 = s1 := by rw [h]
  have h2 : (rdOne tx sp lo σ).2.1 = gd := by rw [h]
  refine ⟨?_, fun q => by rw [← h1]; exact rdOne_sp (by rw [h2]; exact q)⟩
  rw [← h1]
  unfold rdOne
  split
  · rename_i e he
    exact (rdCmd_le hsp).1 e he
  · rename_i s' cm hc
    have h3 := (rdCmd_le hsp).2 s' cm hc
    split <;> exact h3
theorem cln_4 {fk f2 f3 f4 f5 : Nat → Int32} {k : Nat} (h0 : ∀ j, j < k → fk j = nI 0) (e2 : f2 = upd fk 0 (nI 1)) (e3 : f3 = upd f2 1 (nI 3)) (e4 : f4 = upd f3 2 (nI 2)) (e5 : f5 = upd f4 3 (nI 5)) (hk : 235 ≤ k) : ∀ j, j < 235 → (j < 46 ∨ 50 ≤ j) → f5 j = nI (clnN j) := by
  intro j hj _
  rw [e5, e4, e3, e2]
  match j, hj with
  | 0, _ => rw [pk_un (by omega), pk_un (by omega), pk_un (by omega), pk_us]; rfl
  | 1, _ => rw [pk_un (by omega), pk_un (by omega), pk_us]; rfl
  | 2, _ => rw [pk_un (by omega), pk_us]; rfl
  | 3, _ => rw [pk_us]; rfl
  | j + 4, hj => rw [pk_un (by omega), pk_un (by omega), pk_un (by omega), pk_un (by omega)]; exact h0 _ (by omega)
theorem okO_mk {a b i f : Nat} (h1 : a < 4) (h2 : b < 16) (h3 : i < 8) (h4 : f < 10) : okO (mkO a b i f 0 0) := ⟨h1, h2, h3, h4, Nat.zero_lt_succ _, Nat.zero_lt_succ _⟩
theorem ik_two {f : Nat → Int32} {k : Nat} (hk : k < 2) : upd (upd f 0 (vp_nar .boolean (nI 0))) 1 (vp_nar .boolean (nI 0)) k = nI 0 := by
  have h : k = 0 ∨ k = 1 := by omega
  rcases h with rfl | rfl
  · rw [pk_un (by omega), pk_us]; rfl
  · rw [pk_us]; rfl
theorem rdAll_le {tx : List Nat} : ∀ (q sp lo : Nat) (σ : Sg), sp ≤ tx.length → (rdAll tx q sp lo σ).1 ≤ tx.length
  | 0, _, _, _, h => h
  | q + 1, sp, lo, σ, h => by
    simp only [rdAll]
    split
    · rename_i hs
      rcases he : rdOne tx sp lo σ with ⟨s1, gd, lo1, σ1⟩
      have h1 := (rdOne_le hs he).1
      cases gd with
      | true => exact rdAll_le q s1 lo1 σ1 h1
      | false => exact h1
    · exact h
theorem hdS_le {tx : List Nat} : ∀ k : Nat, k ≤ 5 → (hdS tx k).1 ≤ tx.length
  | 0, _ => by
    simp only [hdS]
    split
    · rename_i h
      by_cases q : 0 < tx.length
      · exact q
      · rw [ch_out q] at h; cases h
    · exact Nat.zero_le _
  | k + 1, hk => by
    have ih := hdS_le (tx := tx) k (by omega)
    rcases he : hdS tx k with ⟨sp, gd, σ⟩
    rw [he] at ih
    cases gd with
    | true =>
      cases hd : dgt tx sp (loS k) (hiS k) with
      | none => rw [hdS_g0 he hd]; exact ih
      | some v => rw [hdS_g1 he hd]; exact dgt_lt hd (loS_hiS (by omega)).2
    | false => rw [hdS_b he]; exact ih
theorem rdText_le {tx : List Nat} : (rdText tx).1 ≤ tx.length := by
  unfold rdText cont
  have h := hdS_le (tx := tx) 5 (Nat.le_refl _)
  split
  · exact rdAll_le _ _ _ _ h
  · exact h
