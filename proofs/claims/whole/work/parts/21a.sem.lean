/-! What the class finds by other ways than the reference: bounds, watched orders, nights to the end. -/
theorem lim.mono {K K' : Nat} {σ : Sg} (h : lim K σ) (hK : K ≤ K') : lim K' σ := ⟨Nat.le_trans h.1 hK, Nat.le_trans h.2.1 hK, Nat.le_trans h.2.2.1 hK, fun l hl => Nat.le_trans (h.2.2.2 l hl) hK⟩
theorem lim.cong {K : Nat} {σ τ : Sg} (h : lim K σ) (e : ∀ j, j = 7 ∨ j = 10 ∨ j = 12 ∨ 30 ≤ j ∧ j < 46 → τ.1 j = σ.1 j) : lim K τ :=
  ⟨by rw [e 7 (by omega)]; exact h.1, by rw [e 10 (by omega)]; exact h.2.1, by rw [e 12 (by omega)]; exact h.2.2.1, fun l hl => by rw [e _ (by omega)]; exact h.2.2.2 l hl⟩
theorem note_f {σ : Sg} {o : Od} : (note σ o).1 = (upn (upn (upn σ 7 (σ.1 7 + 1)) (50 + o 0) (σ.1 (50 + o 0) + 1)) 10 (σ.1 10 + o 3)).1 := rfl
theorem note_n {σ : Sg} {o : Od} {j : Nat} (h7 : j ≠ 7) (h10 : j ≠ 10) (h50 : j ≠ 50 + o 0) : (note σ o).1 j = σ.1 j := by
  rw [note_f, upn_n h10, upn_n h50, upn_n h7]
theorem note_7 {σ : Sg} {o : Od} : (note σ o).1 7 = σ.1 7 + 1 := by
  rw [note_f, upn_n (by omega), upn_n (by omega), upn_s]
theorem note_10 {σ : Sg} {o : Od} : (note σ o).1 10 = σ.1 10 + o 3 := by rw [note_f, upn_s]
theorem lim_note {K : Nat} {σ : Sg} {o : Od} (h : lim K σ) (h3 : o 3 < 10) (h0 : o 0 < 4) : lim (K + 9) (note σ o) := by
  obtain ⟨a, b, c, d⟩ := h
  exact ⟨by rw [note_7]; omega, by rw [note_10]; omega, by rw [note_n (by omega) (by omega) (by omega)]; omega, fun l hl => by rw [note_n (by omega) (by omega) (by omega)]; have := d l hl; omega⟩
theorem lim_dl {l : Nat} : ∀ (L : List Od) {K : Nat} {σ : Sg}, lim K σ → (∀ o ∈ L, okO o) → lim (K + 9 * L.length) (dl l L σ)
  | [], _, _, h, _ => h
  | o :: t, K, σ, h, hO => by
    have ho := hO o List.mem_cons_self
    have hO' := fun x hx => hO x (List.mem_cons_of_mem o hx)
    simp only [dl]
    have h2 : lim (K + 9) (if o 1 = l then note σ (mkO (o 0) l (o 2) (o 3) (o 4) 0) else σ) := by
      split
      · exact lim_note h ho.2.2.2.1 ho.1
      · exact h.mono (by omega)
    exact (lim_dl t h2 hO').mono (by rw [List.length_cons]; omega)
theorem bring1_n {σ : Sg} {l j : Nat} (h : j = 7 ∨ j = 10) : (bring1 σ l).1 j = σ.1 j := by
  unfold bring1
  rw [upn_n (by omega), upn_n (by omega), upn_n (by omega), clr_low 16 σ j (by omega)]
theorem bring1_12 {σ : Sg} {l : Nat} : (bring1 σ l).1 12 = σ.1 12 + 1 := by
  unfold bring1
  rw [upn_s, clr_low 16 σ 12 (by omega)]
theorem bring1_30 {σ : Sg} {l L : Nat} (hL : L < 16) (hl : l < 16) : (bring1 σ l).1 (30 + L) = σ.1 (30 + L) + (if l = L then 1 else 0) := by
  unfold bring1
  rw [upn_n (by omega)]
  by_cases q : l = L
  · subst q
    rw [if_pos rfl, upn_s, clr_low 16 σ _ (by omega)]
  · rw [if_neg q, upn_n (by omega), upn_n (by omega), clr_low 16 σ _ (by omega)]; rfl
theorem lim_bring {K : Nat} {σ : Sg} (hs : okS σ) (h : lim K σ) {l : Nat} (hl : l < 16) : lim (K + 190) (bringS σ l) := by
  have h1 : lim (K + 1) (bring1 σ l) := ⟨by rw [bring1_n (by omega)]; have := h.1; omega, by rw [bring1_n (by omega)]; have := h.2.1; omega, by rw [bring1_12]; have := h.2.2.1; omega, fun q hq => by rw [bring1_30 hq hl]; have := h.2.2.2 q hq; split <;> omega⟩
  have h2 := lim_dl (l := l) σ.2.2.1 h1 hs.2.2.2.1
  have h3 : lim (K + 190) (dl l σ.2.2.1 (bring1 σ l)) := h2.mono (by have := hs.2.2.1; omega)
  exact h3.cong (fun j _ => rfl)
theorem lim_trn : ∀ (r : Nat) {K : Nat} {σ : Sg}, okS σ → lim K σ → lim (K + 190 * r) (trn r σ)
  | 0, _, _, _, h => h
  | r + 1, K, σ, hs, h => by
    simp only [trn]
    split
    · exact h.mono (by omega)
    · rename_i b hb
      exact (lim_trn r (okS_bring hs (wantS_lt hs hb)) (lim_bring hs h (wantS_lt hs hb))).mono (by omega)
theorem lpS_keep (pt : Nat) : ∀ (L : List Od) (σ : Sg), (∀ o ∈ L, okO o) → ∀ j, j ≠ 8 → j ≠ 11 → (j < 54 ∨ 58 ≤ j) → (lpS pt L σ).1 j = σ.1 j
  | [], _, _, _, _, _, _ => rfl
  | o :: t, σ, hO, j, h8, h11, h54 => by
    simp only [lpS]
    rw [lpS_keep pt t _ (fun o' ho' => hO o' (List.mem_cons_of_mem _ ho')) j h8 h11 h54]
    have h0 := (hO o List.mem_cons_self).1
    split
    · show (upn (upn (upn σ (54 + o 0) _) 8 _) 11 _).1 j = σ.1 j
      rw [upn_n h11, upn_n h8, upn_n (by omega)]
    · rfl
/-- what a night's train alone changes -/
theorem night_n {σ : Sg} (hs : okS σ) {j : Nat} (h : j = 7 ∨ j = 10 ∨ j = 12 ∨ 30 ≤ j ∧ j < 46) : (nightS σ).1 j = (trn (σ.1 0) σ).1 j := by
  unfold nightS
  rw [upn_n (by omega), sty_low 16 _ j (by omega)]
  show (lpS ((nt1 σ).1 3) (nt1 σ).2.2.1 (nt1 σ)).1 j = _
  rw [lpS_keep _ _ _ (okS_nt1 hs).2.2.2.1 j (by omega) (by omega) (by omega)]
  exact upn_n (by omega)
theorem lim_night {K : Nat} {σ : Sg} (hs : okS σ) (h : lim K σ) : lim (K + 3040) (nightS σ) := by
  have h1 := (lim_trn (σ.1 0) hs h).mono (show K + 190 * σ.1 0 ≤ K + 3040 by have := hs.1.1; omega)
  exact h1.cong (fun j hj => night_n hs hj)
theorem lim_nights {K : Nat} {σ : Sg} (hs : okS σ) (h : lim K σ) : ∀ n : Nat, lim (K + 3040 * n) (nightsS n σ)
  | 0 => h
  | n + 1 => (lim_night (okS_nights hs n) (lim_nights hs h n)).mono (by omega)
/-- no order is watched -/
def flat (σ : Sg) : Prop := ∀ o ∈ σ.2.2.1, o 5 = 0
def er (o : Od) : Od := nSet o 5 0
def erS (σ : Sg) : Sg := upo σ (σ.2.2.1.map er)
theorem er_n {o : Od} {k : Nat} (h : k ≠ 5) : er o k = o k := nSet_n _ _ h
theorem er_id {o : Od} (h : o 5 = 0) : er o = o := by
  funext k
  by_cases q : k = 5
  · rw [q, h]; exact nSet_s _ _ _
  · exact er_n q
theorem er_map {L : List Od} (h : ∀ o ∈ L, o 5 = 0) : L.map er = L := by
  induction L with
  | nil => rfl
  | cons o t ih => rw [List.map_cons, er_id (h o List.mem_cons_self), ih (fun x hx => h x (List.mem_cons_of_mem _ hx))]
theorem er_fsum (l : Nat) : ∀ L : List Od, fsum l (L.map er) = fsum l L
  | [] => rfl
  | o :: t => by simp only [List.map_cons, fsum]; rw [er_fsum l t, er_n (by decide), er_n (by decide)]
theorem er_ocnt {w : Nat} (hw : w ≠ 5) (l : Nat) : ∀ L : List Od, ocnt w l (L.map er) = ocnt w l L
  | [] => rfl
  | o :: t => by simp only [List.map_cons, ocnt]; rw [er_ocnt hw l t, er_n hw]
theorem er_want {σ : Sg} : wantS (erS σ) = wantS σ := by
  have e1 : wtS (erS σ) = wtS σ := by
    funext l
    show (if σ.1 4 = 0 then fsum l (σ.2.2.1.map er) else ocnt 1 l (σ.2.2.1.map er)) = _
    rw [er_fsum, er_ocnt (by decide)]; rfl
  have e2 : (fun l => ocnt 1 l (erS σ).2.2.1) = (fun l => ocnt 1 l σ.2.2.1) := by
    funext l
    exact er_ocnt (by decide) l _
  have e3 : (erS σ).2.2.1.length = σ.2.2.1.length := List.length_map er
  have e4 : (erS σ).2.2.1[0]?.map (fun o => o 1) = σ.2.2.1[0]?.map (fun o => o 1) := by
    show (σ.2.2.1.map er)[0]?.map _ = _
    rw [List.getElem?_map]
    cases σ.2.2.1[0]? with
    | none => rfl
    | some o => exact congrArg some (er_n (by decide))
  unfold wantS
  rw [e1, e2, e3, e4]
  rfl
theorem er_kp (l : Nat) : ∀ L : List Od, kp l (L.map er) = (kp l L).map er
  | [] => rfl
  | o :: t => by
    simp only [List.map_cons, kp]
    rw [er_kp l t, er_n (by decide)]
    split
    · rfl
    · rfl
theorem upo_upo {σ : Sg} {A B : List Od} : upo (upo σ A) B = upo σ B := rfl
theorem clr_upo (M : List Od) : ∀ (k : Nat) (σ : Sg), clr k (upo σ M) = upo (clr k σ) M
  | 0, _ => rfl
  | k + 1, σ => by
    simp only [clr]
    have e : sback (upo σ M) = upo (sback σ) M := by
      unfold sback
      show (match lng σ.1 16 with | none => upo σ M | some b => upn (upo σ M) (14 + b) 0) = _
      cases lng σ.1 16 <;> rfl
    rw [e, clr_upo M k (sback σ)]
    show (if σ.1 1 ≤ fcnt σ.1 16 then _ else _) = _
    split <;> rfl
theorem bring1_upo {σ : Sg} {M : List Od} {l : Nat} : bring1 (upo σ M) l = upo (bring1 σ l) M := by
  unfold bring1
  rw [clr_upo]
  rfl
theorem dl_upo (l : Nat) (M : List Od) : ∀ (L : List Od) (σ : Sg), dl l L (upo σ M) = upo (dl l L σ) M
  | [], _ => rfl
  | o :: t, σ => by
    simp only [dl]
    by_cases q : o 1 = l
    · rw [if_pos q, if_pos q]
      exact dl_upo l M t (note σ (mkO (o 0) l (o 2) (o 3) (o 4) 0))
    · rw [if_neg q, if_neg q]
      exact dl_upo l M t σ
theorem er_dl (l : Nat) : ∀ (L : List Od) (σ : Sg), dl l (L.map er) σ = dl l L σ
  | [], _ => rfl
  | o :: t, σ => by
    simp only [List.map_cons, dl]
    rw [er_dl l t, er_n (by decide), er_n (by decide), er_n (by decide), er_n (by decide), er_n (by decide)]
theorem er_bring {σ : Sg} {l : Nat} : bringS (erS σ) l = erS (bringS σ l) := by
  show upo (dl l (σ.2.2.1.map er) (bring1 (upo σ (σ.2.2.1.map er)) l)) (kp l (σ.2.2.1.map er)) = upo (upo (dl l σ.2.2.1 (bring1 σ l)) (kp l σ.2.2.1)) ((kp l σ.2.2.1).map er)
  rw [er_dl, bring1_upo, dl_upo, er_kp]
  rfl
theorem er_trn : ∀ (r : Nat) (σ : Sg), trn r (erS σ) = erS (trn r σ)
  | 0, _ => rfl
  | r + 1, σ => by
    simp only [trn]
    rw [er_want]
    cases wantS σ with
    | none => rfl
    | some b =>
      show trn r (bringS (erS σ) b) = erS (trn r (bringS σ b))
      rw [er_bring]; exact er_trn r _
theorem er_trl : ∀ (r : Nat) (σ : Sg), trl r (erS σ) = trl r σ
  | 0, _ => rfl
  | r + 1, σ => by
    simp only [trl]
    rw [er_want]
    cases wantS σ with
    | none => rfl
    | some b =>
      show b :: trl r (bringS (erS σ) b) = b :: trl r (bringS σ b)
      rw [er_bring, er_trl r _]
theorem er_nt1 {σ : Sg} : nt1 (erS σ) = erS (nt1 σ) := by
  have e : tb (erS σ) = tb σ := by
    unfold tb
    show (if (trl (σ.1 0) (erS σ)).length = 0 then 0 else 1) = _
    rw [er_trl]
  unfold nt1
  rw [e]
  show upn (trn (σ.1 0) (erS σ)) 13 ((trn (σ.1 0) (erS σ)).1 13 + tb σ) = _
  rw [er_trn]
  rfl
theorem lpS_upo (pt : Nat) (M : List Od) : ∀ (L : List Od) (σ : Sg), lpS pt L (upo σ M) = upo (lpS pt L σ) M
  | [], _ => rfl
  | o :: t, σ => by
    simp only [lpS]
    by_cases q : pt ≤ o 4 + 1
    · rw [if_pos q, if_pos q]
      exact lpS_upo pt M t (lapse1 σ o)
    · rw [if_neg q, if_neg q]
      exact lpS_upo pt M t σ
theorem er_lpS (pt : Nat) : ∀ (L : List Od) (σ : Sg), lpS pt (L.map er) σ = lpS pt L σ
  | [], _ => rfl
  | o :: t, σ => by
    simp only [List.map_cons, lpS]
    have e : lapse1 σ (er o) = lapse1 σ o := by
      unfold lapse1 lost1
      rw [er_n (by decide), er_n (by decide)]
    rw [er_lpS pt t, er_n (by decide), e]
theorem er_kpW (pt : Nat) : ∀ L : List Od, kpW pt (L.map er) = (kpW pt L).map er
  | [] => rfl
  | o :: t => by
    have e : nSet (er o) 4 (o 4 + 1) = er (nSet o 4 (o 4 + 1)) := by
      funext k
      by_cases q : k = 4
      · subst q; rw [nSet_s, er_n (by decide), nSet_s]
      · rw [nSet_n _ _ q]
        by_cases q5 : k = 5
        · subst q5; exact (nSet_s _ _ _).trans (nSet_s _ _ _).symm
        · rw [er_n q5, er_n q5, nSet_n _ _ q]
    simp only [List.map_cons, kpW]
    rw [er_kpW pt t, er_n (by decide)]
    split
    · rfl
    · rw [List.map_cons, e]
theorem er_wait {σ : Sg} : waitS (erS σ) = erS (waitS σ) := by
  show upo (lpS (σ.1 3) (σ.2.2.1.map er) (upo σ (σ.2.2.1.map er))) (kpW (σ.1 3) (σ.2.2.1.map er)) = upo (upo (lpS (σ.1 3) σ.2.2.1 σ) (kpW (σ.1 3) σ.2.2.1)) ((kpW (σ.1 3) σ.2.2.1).map er)
  rw [er_lpS, lpS_upo, er_kpW]
  rfl
theorem sty_upo (M : List Od) : ∀ (k : Nat) (σ : Sg), sty k (upo σ M) = upo (sty k σ) M
  | 0, _ => rfl
  | k + 1, σ => by
    simp only [sty]
    rw [sty_upo M k σ]
    rfl
theorem er_night {σ : Sg} : nightS (erS σ) = erS (nightS σ) := by
  have e : sty 16 (waitS (nt1 (erS σ))) = erS (sty 16 (waitS (nt1 σ))) := by
    rw [er_nt1, er_wait]
    show sty 16 (upo (waitS (nt1 σ)) ((waitS (nt1 σ)).2.2.1.map er)) = upo (sty 16 (waitS (nt1 σ))) ((sty 16 (waitS (nt1 σ))).2.2.1.map er)
    rw [sty_upo, sty_2]
  unfold nightS
  rw [e]
  rfl
theorem er_watch {σ : Sg} (hf : flat σ) {j : Nat} {o : Od} (ho : σ.2.2.1[j]? = some o) : erS (watchS σ j o) = σ := by
  show upo σ ((σ.2.2.1.set j (nSet o 5 1)).map er) = σ
  have e1 : er (nSet o 5 1) = o := by
    funext k
    by_cases q : k = 5
    · subst q; exact (nSet_s _ _ _).trans (hf o (memO ho)).symm
    · rw [er_n q, nSet_n _ _ q]
  rw [List.map_set, e1, er_map hf, set_same ho]
  rfl
theorem er_ent {σ : Sg} (hf : flat σ) (l fe : Nat) : erS (entS σ l fe) = upo σ (σ.2.2.1 ++ [mkO 0 l 0 fe 0 0]) := by
  show upo σ (((σ.2.2.1 ++ [mkO 0 l 0 fe 0 0]).set σ.2.2.1.length (nSet (mkO 0 l 0 fe 0 0) 5 1)).map er) = _
  have e1 : er (nSet (mkO 0 l 0 fe 0 0) 5 1) = mkO 0 l 0 fe 0 0 := by
    funext k
    by_cases q : k = 5
    · subst q; exact nSet_s _ _ _
    · rw [er_n q, nSet_n _ _ q]
  have ho : (σ.2.2.1 ++ [mkO 0 l 0 fe 0 0])[σ.2.2.1.length]? = some (mkO 0 l 0 fe 0 0) := by rw [List.getElem?_append_right (Nat.le_refl _), Nat.sub_self]; rfl
  have hf2 : ∀ o ∈ σ.2.2.1 ++ [mkO 0 l 0 fe 0 0], o 5 = 0 := fun o h => by
    rcases List.mem_append.mp h with h | h
    · exact hf o h
    · rw [List.mem_singleton.mp h]; rfl
  rw [List.map_set, e1, er_map hf2, set_same ho]
/-- the watched orders: all of one lot, all waited alike -/
def WI (L w : Nat) (τ : Sg) : Prop := (∀ o ∈ τ.2.2.1, o 5 = 1 → o 1 = L ∧ o 4 = w) ∧ ∃ o ∈ τ.2.2.1, o 5 = 1
theorem anyW_iff : ∀ {L : List Od}, anyW L = true ↔ ∃ o ∈ L, o 5 = 1
  | [] => by simp [anyW]
  | o :: t => by
    simp only [anyW, Bool.or_eq_true, decide_eq_true_eq, anyW_iff (L := t), List.mem_cons]
    constructor
    · rintro (h | ⟨x, hx, h⟩)
      · exact ⟨o, Or.inl rfl, h⟩
      · exact ⟨x, Or.inr hx, h⟩
    · rintro ⟨x, hx | hx, h⟩
      · subst hx; exact Or.inl h
      · exact Or.inr ⟨x, hx, h⟩
theorem wd_iff {b : Nat} : ∀ {L : List Od}, wd b L = true ↔ ∃ o ∈ L, o 1 = b ∧ o 5 = 1
  | [] => by simp [wd]
  | o :: t => by
    simp only [wd, Bool.or_eq_true, decide_eq_true_eq, wd_iff (L := t), List.mem_cons]
    constructor
    · rintro (h | ⟨x, hx, h⟩)
      · exact ⟨o, Or.inl rfl, h⟩
      · exact ⟨x, Or.inr hx, h⟩
    · rintro ⟨x, hx | hx, h⟩
      · subst hx; exact Or.inl h
      · exact Or.inr ⟨x, hx, h⟩
theorem kp_iff {l : Nat} {o : Od} : ∀ {L : List Od}, o ∈ kp l L ↔ o ∈ L ∧ ¬ o 1 = l
  | [] => by simp [kp]
  | x :: t => by
    have ih := kp_iff (l := l) (o := o) (L := t)
    simp only [kp]
    by_cases q : x 1 = l
    · rw [if_pos q, ih, List.mem_cons]
      constructor
      · rintro ⟨h1, h2⟩; exact ⟨Or.inr h1, h2⟩
      · rintro ⟨h1 | h1, h2⟩
        · subst h1; exact absurd q h2
        · exact ⟨h1, h2⟩
    · rw [if_neg q, List.mem_cons, ih, List.mem_cons]
      constructor
      · rintro (h | ⟨h1, h2⟩)
        · subst h; exact ⟨Or.inl rfl, q⟩
        · exact ⟨Or.inr h1, h2⟩
      · rintro ⟨h1 | h1, h2⟩
        · exact Or.inl h1
        · exact Or.inr ⟨h1, h2⟩
theorem bring_30 {σ : Sg} (hs : okS σ) {l L : Nat} (hl : l < 16) (hL : L < 16) : (bringS σ l).1 (30 + L) = σ.1 (30 + L) + (if l = L then 1 else 0) := by
  show (dl l σ.2.2.1 (bring1 σ l)).1 (30 + L) = _
  rw [dl_low l _ _ hs.2.2.2.1 _ (by omega), bring1_30 hL hl]
theorem trn_30 {L : Nat} (hL : L < 16) : ∀ (r : Nat) (σ : Sg), okS σ → σ.1 (30 + L) ≤ (trn r σ).1 (30 + L)
  | 0, _, _ => Nat.le_refl _
  | r + 1, σ, hs => by
    simp only [trn]
    split
    · exact Nat.le_refl _
    · rename_i b hb
      have hb16 := wantS_lt hs hb
      have h1 := bring_30 hs hb16 hL
      have h2 := trn_30 hL r _ (okS_bring hs hb16)
      split at h1 <;> omega
/-- the train takes the watched lot, or leaves the watched orders as they are -/
theorem trw_key {L w : Nat} (hL : L < 16) : ∀ (r : Nat) (τ : Sg), okS τ → WI L w τ → (trw r τ = true ∧ τ.1 (30 + L) < (trn r τ).1 (30 + L) ∧ anyW (trn r τ).2.2.1 = false) ∨ (trw r τ = false ∧ (trn r τ).1 (30 + L) = τ.1 (30 + L) ∧ WI L w (trn r τ))
  | 0, τ, _, h => Or.inr ⟨rfl, rfl, h⟩
  | r + 1, τ, hs, h => by
    cases hb : wantS τ with
    | none =>
      obtain ⟨e1, -, e3⟩ := trn_stop (r := r + 1) (Or.inr hb)
      rw [e1, e3]
      exact Or.inr ⟨rfl, rfl, h⟩
    | some b =>
      obtain ⟨e1, -, e3⟩ := trn_go (r := r) hb
      rw [e1, e3]
      have hb16 := wantS_lt hs hb
      have hs2 := okS_bring hs hb16
      have h30 := bring_30 hs hb16 hL
      by_cases q : b = L
      · subst q
        obtain ⟨x, hx, hx5⟩ := h.2
        have hw : wd b τ.2.2.1 = true := wd_iff.mpr ⟨x, hx, (h.1 x hx hx5).1, hx5⟩
        rw [hw, if_pos rfl] at *
        have hmono := trn_30 hL r _ hs2
        refine Or.inl ⟨rfl, by omega, ?_⟩
        cases hA : anyW (trn r (bringS τ b)).2.2.1 with
        | false => rfl
        | true =>
          obtain ⟨y, hy, hy5⟩ := anyW_iff.mp hA
          have hy2 : y ∈ kp b τ.2.2.1 := trn_mem r _ hy
          have hy3 := kp_iff.mp hy2
          exact absurd (h.1 y hy3.1 hy5).1 hy3.2
      · have hw : wd b τ.2.2.1 = false := by
          cases hA : wd b τ.2.2.1 with
          | false => rfl
          | true =>
            obtain ⟨y, hy, hy1, hy5⟩ := wd_iff.mp hA
            exact absurd (hy1.symm.trans (h.1 y hy hy5).1) q
        rw [if_neg q] at h30
        have hW2 : WI L w (bringS τ b) := by
          refine ⟨fun o ho h5 => h.1 o (kp_iff.mp (show o ∈ kp b τ.2.2.1 from ho)).1 h5, ?_⟩
          obtain ⟨x, hx, hx5⟩ := h.2
          exact ⟨x, (show x ∈ kp b τ.2.2.1 from kp_iff.mpr ⟨hx, fun z => q (z.symm.trans (h.1 x hx hx5).1)⟩), hx5⟩
        rw [hw, Bool.false_or]
        rcases trw_key hL r _ hs2 hW2 with ⟨k1, k2, k3⟩ | ⟨k1, k2, k3⟩
        · exact Or.inl ⟨k1, by omega, k3⟩
        · exact Or.inr ⟨k1, by omega, k3⟩
theorem kpW_iff {pt : Nat} {o : Od} : ∀ {L : List Od}, o ∈ kpW pt L ↔ ∃ x ∈ L, ¬ pt ≤ x 4 + 1 ∧ o = nSet x 4 (x 4 + 1)
  | [] => by simp [kpW]
  | x :: t => by
    have ih := kpW_iff (pt := pt) (o := o) (L := t)
    simp only [kpW]
    by_cases q : pt ≤ x 4 + 1
    · rw [if_pos q, ih]
      constructor
      · rintro ⟨y, hy, h⟩; exact ⟨y, List.mem_cons_of_mem _ hy, h⟩
      · rintro ⟨y, hy, h⟩
        rcases List.mem_cons.mp hy with e | e
        · subst e; exact absurd q h.1
        · exact ⟨y, e, h⟩
    · rw [if_neg q, List.mem_cons, ih]
      constructor
      · rintro (h | ⟨y, hy, h⟩)
        · exact ⟨x, List.mem_cons_self, q, h⟩
        · exact ⟨y, List.mem_cons_of_mem _ hy, h⟩
      · rintro ⟨y, hy, h⟩
        rcases List.mem_cons.mp hy with e | e
        · subst e; exact Or.inl h.2
        · exact Or.inr ⟨y, e, h⟩
/-- a night, of the watched orders -/
theorem night_w {L w : Nat} (hL : L < 16) {τ : Sg} (hs : okS τ) (h : WI L w τ) : (trw (τ.1 0) τ = true ∧ τ.1 (30 + L) < (nightS τ).1 (30 + L) ∧ anyW (nightS τ).2.2.1 = false) ∨ (trw (τ.1 0) τ = false ∧ (nightS τ).1 (30 + L) = τ.1 (30 + L) ∧ (τ.1 3 ≤ w + 1 → anyW (nightS τ).2.2.1 = false) ∧ (w + 1 < τ.1 3 → WI L (w + 1) (nightS τ))) := by
  have e3 : (nt1 τ).1 3 = τ.1 3 := nt1_low hs (by omega)
  have eo : (nightS τ).2.2.1 = kpW (τ.1 3) (trn (τ.1 0) τ).2.2.1 := by rw [night_open, e3]; rfl
  have e30 := night_n hs (j := 30 + L) (by omega)
  rcases trw_key hL (τ.1 0) τ hs h with ⟨k1, k2, k3⟩ | ⟨k1, k2, k3⟩
  · refine Or.inl ⟨k1, by rw [e30]; exact k2, ?_⟩
    cases hA : anyW (nightS τ).2.2.1 with
    | false => rfl
    | true =>
      obtain ⟨y, hy, hy5⟩ := anyW_iff.mp hA
      rw [eo] at hy
      obtain ⟨x, hx, -, rfl⟩ := kpW_iff.mp hy
      have : anyW (trn (τ.1 0) τ).2.2.1 = true := anyW_iff.mpr ⟨x, hx, by rw [nSet_n _ _ (by decide)] at hy5; exact hy5⟩
      rw [k3] at this; cases this
  · refine Or.inr ⟨k1, by rw [e30]; exact k2, fun hp => ?_, fun hp => ?_⟩
    · cases hA : anyW (nightS τ).2.2.1 with
      | false => rfl
      | true =>
        obtain ⟨y, hy, hy5⟩ := anyW_iff.mp hA
        rw [eo] at hy
        obtain ⟨x, hx, hx4, rfl⟩ := kpW_iff.mp hy
        rw [nSet_n _ _ (by decide)] at hy5
        have := (k3.1 x hx hy5).2
        omega
    · refine ⟨fun o ho h5 => ?_, ?_⟩
      · rw [eo] at ho
        obtain ⟨x, hx, hx4, rfl⟩ := kpW_iff.mp ho
        rw [nSet_n _ _ (by decide)] at h5
        have := k3.1 x hx h5
        exact ⟨by rw [nSet_n _ _ (by decide)]; exact this.1, by rw [nSet_s, this.2]⟩
      · obtain ⟨x, hx, hx5⟩ := k3.2
        have := k3.1 x hx hx5
        exact ⟨nSet x 4 (x 4 + 1), by rw [eo]; exact kpW_iff.mpr ⟨x, hx, by omega, rfl⟩, by rw [nSet_n _ _ (by decide)]; exact hx5⟩
/-- while the class looks for the night -/
def arvR (σ : Sg) (j : Nat) (o : Od) : Int32 := if (arv 10 (watchS σ j o) 0 false).2 = true then nI (arv 10 (watchS σ j o) 0 false).1 else -1
def AI (σ : Sg) (j : Nat) (o : Od) (k : Nat) : Prop := ∃ τ d, d + k = 10 ∧ arv d τ k false = arv 10 (watchS σ j o) 0 false ∧ erS τ = nightsS k σ ∧ WI (o 1) (o 4 + k) τ ∧ okS τ ∧ (nightsS k σ).1 (30 + o 1) = σ.1 (30 + o 1)
theorem nights_3 {σ : Sg} (hs : okS σ) : ∀ k : Nat, (nightsS k σ).1 3 = σ.1 3
  | 0 => rfl
  | k + 1 => by
    show (nightS (nightsS k σ)).1 3 = _
    have hk := okS_nights hs k
    unfold nightS
    rw [upn_n (by omega), sty_low 16 _ 3 (by omega)]
    show (lpS ((nt1 (nightsS k σ)).1 3) (nt1 (nightsS k σ)).2.2.1 (nt1 (nightsS k σ))).1 3 = _
    rw [lpS_keep _ _ _ (okS_nt1 hk).2.2.2.1 3 (by omega) (by omega) (by omega), nt1_low hk (by omega)]
    exact nights_3 hs k
theorem AI_0 {σ : Sg} (hs : okS σ) (hf : flat σ) {j : Nat} {o : Od} (ho : σ.2.2.1[j]? = some o) : AI σ j o 0 := by
  refine ⟨watchS σ j o, 10, rfl, rfl, er_watch hf ho, ⟨fun x hx h5 => ?_, ?_⟩, okS_watch hs ho, rfl⟩
  · rcases List.mem_or_eq_of_mem_set (show x ∈ σ.2.2.1.set j (nSet o 5 1) from hx) with q | q
    · have := hf x q; omega
    · subst q; exact ⟨nSet_n _ _ (by decide), nSet_n _ _ (by decide)⟩
  · exact ⟨nSet o 5 1, (show nSet o 5 1 ∈ σ.2.2.1.set j (nSet o 5 1) from List.mem_of_getElem? (List.getElem?_set_self (lenlt ho))), nSet_s _ _ _⟩
theorem AI_step {σ : Sg} (hs : okS σ) {j : Nat} {o : Od} (ho1 : o 1 < 16) {k : Nat} (hk : k < 9) (h : AI σ j o k) : (σ.1 (30 + o 1) < (nightsS (k + 1) σ).1 (30 + o 1) → arvR σ j o = nI (k + 1)) ∧ (¬ σ.1 (30 + o 1) < (nightsS (k + 1) σ).1 (30 + o 1) → (σ.1 3 ≤ o 4 + k + 1 → arvR σ j o = -1) ∧ (o 4 + k + 1 < σ.1 3 → AI σ j o (k + 1))) := by
  obtain ⟨τ, d, hd, hG, hE, hW, hO, h30⟩ := h
  obtain ⟨d, rfl⟩ : ∃ d1, d = d1 + 1 := ⟨d - 1, by omega⟩
  have hany : anyW τ.2.2.1 = true := anyW_iff.mpr hW.2
  rw [arv_go hany] at hG
  have hE2 : erS (nightS τ) = nightsS (k + 1) σ := by rw [← er_night, hE]; rfl
  have e1 : τ.1 (30 + o 1) = σ.1 (30 + o 1) := by rw [← h30, ← hE]; rfl
  have e2 : (nightsS (k + 1) σ).1 (30 + o 1) = (nightS τ).1 (30 + o 1) := by rw [← hE2]; rfl
  have e3 : τ.1 3 = σ.1 3 := by rw [← nights_3 hs k, ← hE]; rfl
  rw [e2]
  unfold arvR
  rcases night_w ho1 hO hW with ⟨k1, k2, k3⟩ | ⟨k1, k2, k3, k4⟩
  · refine ⟨fun _ => ?_, fun q => absurd (by omega) q⟩
    rw [k1, arv_stop k3] at hG
    rw [← hG]
    rfl
  · refine ⟨fun q => absurd q (by omega), fun _ => ⟨fun hp => ?_, fun hp => ?_⟩⟩
    · rw [k1, arv_stop (k3 (by omega))] at hG
      rw [← hG]
      rfl
    · rw [k1] at hG
      exact ⟨nightS τ, d, by omega, hG, hE2, k4 (by omega), okS_night hO, by rw [e2, k2, e1]⟩
def mxL (P w : Nat) : Nat := if w + 1 < P then P - w else 1
theorem mxL_eq {P w : Nat} (hP : P < 2 ^ 30) (hw : w < 2 ^ 30) : (if nI 1 < nI P - nI w then nI P - nI w else nI 1) = nI (mxL P w) := by
  unfold mxL
  have e : (nI 1 < nI P - nI w) ↔ w + 1 < P := by
    rw [Int32.lt_iff_toInt_lt, pk_sub_toInt (by omega) (by omega), nI_toInt (by omega)]
    omega
  by_cases q : w + 1 < P
  · rw [if_pos (e.mpr q), if_pos q, pk_sub (by omega)]
  · rw [if_neg (fun z => q (e.mp z)), if_neg q]
/-- which fee would do -/
theorem fee_iff {σ : Sg} (hs : okS σ) (hn : σ.2.2.1.length ≤ 20) (hf : flat σ) {l fe : Nat} (hl : l < 16) (hfe : fe < 10) (h0 : ¬ 0 < σ.1 (14 + l)) : fee1 σ l fe = true ↔ σ.1 (30 + l) < (nightS (upo σ (σ.2.2.1 ++ [mkO 0 l 0 fe 0 0]))).1 (30 + l) := by
  have hok : okO (mkO 0 l 0 fe 0 0) := ⟨Nat.zero_lt_succ _, hl, Nat.zero_lt_succ _, hfe, Nat.zero_lt_succ _, Nat.zero_lt_succ _⟩
  have hsE : okS (upo σ (σ.2.2.1 ++ [mkO 0 l 0 fe 0 0])) := hs.so (by rw [List.length_append]; show σ.2.2.1.length + 1 ≤ 21; omega) (fun o ho => by
    rcases List.mem_append.mp ho with q | q
    · exact hs.2.2.2.1 o q
    · rw [List.mem_singleton.mp q]; exact hok)
  have ho9 : (upo σ (σ.2.2.1 ++ [mkO 0 l 0 fe 0 0])).2.2.1[σ.2.2.1.length]? = some (mkO 0 l 0 fe 0 0) := by
    show (σ.2.2.1 ++ [mkO 0 l 0 fe 0 0])[σ.2.2.1.length]? = _
    rw [List.getElem?_append_right (Nat.le_refl _), Nat.sub_self]; rfl
  have hsW : okS (entS σ l fe) := hsE.set σ.2.2.1.length (o := nSet (mkO 0 l 0 fe 0 0) 5 1) (hok.watch (by omega))
  have hW : WI l 0 (entS σ l fe) := by
    refine ⟨fun x hx h5 => ?_, ?_⟩
    · rcases List.mem_or_eq_of_mem_set (show x ∈ (σ.2.2.1 ++ [mkO 0 l 0 fe 0 0]).set σ.2.2.1.length (nSet (mkO 0 l 0 fe 0 0) 5 1) from hx) with q | q
      · rcases List.mem_append.mp q with q | q
        · have := hf x q; omega
        · rw [List.mem_singleton.mp q] at h5; cases h5
      · subst q; exact ⟨nSet_n _ _ (by decide), nSet_n _ _ (by decide)⟩
    · exact ⟨nSet (mkO 0 l 0 fe 0 0) 5 1, (show _ ∈ (σ.2.2.1 ++ [mkO 0 l 0 fe 0 0]).set σ.2.2.1.length (nSet (mkO 0 l 0 fe 0 0) 5 1) from List.mem_of_getElem? (List.getElem?_set_self (lenlt ho9))), nSet_s _ _ _⟩
  have e1 : (nightS (upo σ (σ.2.2.1 ++ [mkO 0 l 0 fe 0 0]))).1 (30 + l) = (nightS (entS σ l fe)).1 (30 + l) := by rw [← er_ent hf, er_night]; rfl
  rw [e1]
  unfold fee1
  rw [decide_eq_false h0, Bool.false_or]
  have e2 : (entS σ l fe).1 (30 + l) = σ.1 (30 + l) := rfl
  rcases night_w hl hsW hW with ⟨k1, k2, -⟩ | ⟨k1, k2, -, -⟩
  · exact ⟨fun _ => by rw [e2] at k2; exact k2, fun _ => k1⟩
  · refine ⟨fun q => ?_, fun q => ?_⟩
    · have : trw (σ.1 0) (entS σ l fe) = false := k1
      rw [this] at q; cases q
    · rw [e2] at k2; omega
/-- nights to the end -/
theorem nights_head : ∀ (q : Nat) (σ : Sg), nightsS (q + 1) σ = nightsS q (nightS σ)
  | 0, _ => rfl
  | q + 1, σ => by
    show nightS (nightsS (q + 1) σ) = nightS (nightsS q (nightS σ))
    rw [nights_head q σ]
theorem want_nil {σ : Sg} (h : σ.2.2.1 = []) : wantS σ = none := by unfold wantS; rw [h]; rfl
theorem night_nil {σ : Sg} (h : σ.2.2.1 = []) : (nightS σ).2.2.1 = [] ∧ ∀ j, j = 7 ∨ j = 8 ∨ j = 10 → (nightS σ).1 j = σ.1 j := by
  have e := (trn_stop (r := σ.1 0) (Or.inr (want_nil h))).1
  have e0 : (nt1 σ).2.2.1 = [] := by
    show (trn (σ.1 0) σ).2.2.1 = []
    rw [e]; exact h
  refine ⟨by rw [night_open, e0]; rfl, fun j hj => ?_⟩
  unfold nightS
  rw [upn_n (by omega), sty_low 16 _ j (by omega)]
  show (lpS ((nt1 σ).1 3) (nt1 σ).2.2.1 (nt1 σ)).1 j = _
  rw [e0]
  show (upn (trn (σ.1 0) σ) 13 _).1 j = _
  rw [upn_n (by omega), e]
theorem nights_nil {σ : Sg} (h : σ.2.2.1 = []) : ∀ q : Nat, (nightsS q σ).2.2.1 = [] ∧ ∀ j, j = 7 ∨ j = 8 ∨ j = 10 → (nightsS q σ).1 j = σ.1 j
  | 0 => ⟨h, fun _ _ => rfl⟩
  | q + 1 => by
    have ih := nights_nil h q
    have h1 := night_nil ih.1
    exact ⟨h1.1, fun j hj => (h1.2 j hj).trans (ih.2 j hj)⟩
theorem go_nights {j : Nat} (hj : j = 7 ∨ j = 8 ∨ j = 10) : ∀ (q k : Nat) (σ : Sg), okS σ → calm σ → old k σ → 9 ≤ k + q → (nightsS q σ).1 j = (goS (q + 1) σ).1 j
  | 0, k, σ, hs, hc, ho, hk => by
    have h0 : σ.2.2.1 = [] := by
      cases hL : σ.2.2.1 with
      | nil => rfl
      | cons o t =>
        have := old_lt ho hc (by rw [hL]; exact List.cons_ne_nil _ _)
        omega
    rw [goS_stop (by rw [h0]; rfl)]
    rfl
  | q + 1, k, σ, hs, hc, ho, hk => by
    by_cases h0 : σ.2.2.1.length = 0
    · rw [goS_stop h0]
      exact (nights_nil (List.length_eq_zero_iff.mp h0) (q + 1)).2 j hj
    · rw [goS_go h0, nights_head]
      exact go_nights hj q (k + 1) (nightS σ) (okS_night hs) (night_calm hs) (night_old ho) (by omega)
theorem go_9 {j : Nat} (hj : j = 7 ∨ j = 8 ∨ j = 10) {σ : Sg} (hs : okS σ) (hc : calm σ) : (nightsS 9 σ).1 j = (goS 10 σ).1 j := go_nights hj 9 0 σ hs hc (fun _ _ => Nat.zero_le _) (by omega)
theorem dl_mono (l : Nat) {j : Nat} (hj : j = 7 ∨ j = 10) : ∀ (L : List Od) (σ : Sg), (∀ o ∈ L, okO o) → σ.1 j ≤ (dl l L σ).1 j
  | [], _, _ => Nat.le_refl _
  | o :: t, σ, hO => by
    simp only [dl]
    refine Nat.le_trans ?_ (dl_mono l hj t _ (fun x hx => hO x (List.mem_cons_of_mem _ hx)))
    split
    · rcases hj with rfl | rfl
      · rw [note_7]; omega
      · rw [note_10]; omega
    · exact Nat.le_refl _
theorem trn_mono {j : Nat} (hj : j = 7 ∨ j = 10) : ∀ (r : Nat) (σ : Sg), okS σ → σ.1 j ≤ (trn r σ).1 j
  | 0, _, _ => Nat.le_refl _
  | r + 1, σ, hs => by
    simp only [trn]
    split
    · exact Nat.le_refl _
    · rename_i b hb
      refine Nat.le_trans ?_ (trn_mono hj r _ (okS_bring hs (wantS_lt hs hb)))
      show σ.1 j ≤ (dl b σ.2.2.1 (bring1 σ b)).1 j
      refine Nat.le_trans ?_ (dl_mono b hj _ _ hs.2.2.2.1)
      rw [bring1_n hj]
      exact Nat.le_refl _
theorem nights_mono {j : Nat} (hj : j = 7 ∨ j = 10) {σ : Sg} (hs : okS σ) : ∀ q : Nat, σ.1 j ≤ (nightsS q σ).1 j
  | 0 => Nat.le_refl _
  | q + 1 => by
    refine Nat.le_trans (nights_mono hj hs q) ?_
    show (nightsS q σ).1 j ≤ (nightS (nightsS q σ)).1 j
    rw [night_n (okS_nights hs q) (by omega)]
    exact trn_mono hj _ _ (okS_nights hs q)
/-- the best rule, by differences -/
def bI2 (σ : Sg) (k : Nat) (b m1 m2 : Int32) : Prop := (k = 0 ∧ b = nI 0 ∧ m1 = -1 ∧ m2 = -1) ∨ (∃ q D C, bst σ k = (some q, nI D, nI C) ∧ b = nI q ∧ m1 = nI D - nI (σ.1 7) ∧ m2 = nI C - nI (σ.1 10) ∧ σ.1 7 ≤ D ∧ D < 2 ^ 30 ∧ σ.1 10 ≤ C ∧ C < 2 ^ 30)
theorem dif_lt {a b d : Nat} (ha : a < 2 ^ 30) (hb : b < 2 ^ 30) (hd : d < 2 ^ 30) : (nI a - nI d < nI b - nI d) ↔ a < b := by
  rw [Int32.lt_iff_toInt_lt, pk_sub_toInt (by omega) (by omega), pk_sub_toInt (by omega) (by omega)]
  omega
theorem dif_eq {a b d : Nat} (ha : a < 2 ^ 30) (hb : b < 2 ^ 30) (hd : d < 2 ^ 30) : (nI a - nI d = nI b - nI d) ↔ a = b := by
  rw [← Int32.toInt_inj, pk_sub_toInt (by omega) (by omega), pk_sub_toInt (by omega) (by omega)]
  omega
theorem dif_m1 {a d : Nat} (ha : a < 2 ^ 30) (hd : d ≤ a) : (-1 : Int32) < nI a - nI d := by
  rw [Int32.lt_iff_toInt_lt, pk_sub_toInt (by omega) (by omega)]
  have : (-1 : Int32).toInt = -1 := by decide
  omega
theorem best_step {σ : Sg} {k D C : Nat} {b m1 m2 : Int32} (h : bI2 σ k b m1 m2) (eD : (goS 10 (upn σ 4 k)).1 7 = D) (eC : (goS 10 (upn σ 4 k)).1 10 = C) (hD : σ.1 7 ≤ D ∧ D < 2 ^ 30) (hC : σ.1 10 ≤ C ∧ C < 2 ^ 30) :
    ((m1 < nI D - nI (σ.1 7) ∨ (nI D - nI (σ.1 7) = m1 ∧ m2 < nI C - nI (σ.1 10))) → bI2 σ (k + 1) (nI k) (nI D - nI (σ.1 7)) (nI C - nI (σ.1 10))) ∧ (¬ (m1 < nI D - nI (σ.1 7) ∨ (nI D - nI (σ.1 7) = m1 ∧ m2 < nI C - nI (σ.1 10))) → bI2 σ (k + 1) b m1 m2) := by
  rcases h with ⟨rfl, rfl, rfl, rfl⟩ | ⟨q, D0, C0, hb, rfl, rfl, rfl, h1, h2, h3, h4⟩
  · refine ⟨fun _ => Or.inr ⟨0, D, C, ?_, rfl, rfl, rfl, hD.1, hD.2, hC.1, hC.2⟩, fun q => absurd (Or.inl (dif_m1 hD.2 hD.1)) q⟩
    rw [bst_y (Or.inl rfl), eD, eC]
  · have c1 := dif_lt (d := σ.1 7) h2 hD.2 (by omega)
    have c2 := dif_eq (d := σ.1 7) hD.2 h2 (by omega)
    have c3 := dif_lt (d := σ.1 10) h4 hC.2 (by omega)
    have g1 : (nI D0 < nI D) ↔ D0 < D := nI_ltI (by omega) (by omega)
    have g2 : (nI D = nI D0) ↔ D = D0 := nI_eq (by omega) (by omega)
    have g3 : (nI C0 < nI C) ↔ C0 < C := nI_ltI (by omega) (by omega)
    refine ⟨fun hc => Or.inr ⟨k, D, C, ?_, rfl, rfl, rfl, hD.1, hD.2, hC.1, hC.2⟩, fun hc => Or.inr ⟨q, D0, C0, ?_, rfl, rfl, rfl, h1, h2, h3, h4⟩⟩
    · rw [bst_y, eD, eC]
      rw [hb, eD, eC]
      rcases hc with hc | ⟨hc1, hc2⟩
      · exact Or.inr (Or.inl (g1.mpr (c1.mp hc)))
      · exact Or.inr (Or.inr ⟨g2.mpr (c2.mp hc1), g3.mpr (c3.mp hc2)⟩)
    · rw [bst_n, hb]
      rw [hb, eD, eC]
      rintro (z | z | ⟨z1, z2⟩)
      · cases z
      · exact hc (Or.inl (c1.mpr (g1.mp z)))
      · exact hc (Or.inr ⟨c2.mpr (g2.mp z1), c3.mpr (g3.mp z2)⟩)
theorem best_end {σ : Sg} {b m1 m2 : Int32} (h : bI2 σ 3 b m1 m2) : b = fBest σ := by
  rcases h with ⟨h, -⟩ | ⟨q, D, C, hb, e, -⟩
  · omega
  · unfold fBest
    rw [hb, e]; rfl
