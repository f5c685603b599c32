abbrev q_X2_passNights (g : jG) (H0 : Heap) (a : Nat) (n : Nat) (σ : Sg) : Option Value → Heap → Prop := jV (fun H1 => jSo g H1 a (nightsS n σ) (opnR (nightsS n σ)) ∧ jF a 12 H0 H1)
set_option maxHeartbeats 4000000 in
set_option maxRecDepth 100000 in
theorem c_X2_passNights (l : Launch) (g : jG) (z : Nat) (H0 : Heap) (a : Nat) (n : Nat) (σ : Sg) (hz : z ≤ a) (hS : jSo g H0 a σ (opnR σ)) (hs : okS σ) (hcalm : ∀ o ∈ σ.2.2.1, o 4 < 9) (hb12 : σ.1 12 + 16 * n < 2 ^ 31) (hn : n < 1000) : jM l g z yX2_passNights wsX2_passNights 6 152 [.ref a, .int (nI (n))] H0 (q_X2_passNights g H0 a n σ) := by
  refine j_of (cc := cX2_passNights) (n := 3) (ret := none) (by decide) rfl (Nat.le_of_ble_eq_true rfl) ?_
  intro p e s m below meth c hx hb hr hml hown hts hlocks hname hH hw ls hl
  have hl : lv_has ls 3 [(0, .ref a), (1, .int (nI (n)))] := hl
  have hinX2 : ∀ w ∈ u_ws RX2 TX2 9, w ∈ wsX2_passNights := by decide +kernel
  have hf : jF a 12 H0 H0 := jF.rf
  have hl21 := hS.len
  have hln := opnR_len (σ := σ)
  rw [hln] at hl21
  refine lv_iconst (v := (nI (0))) hx hb dX2_passNights_0 (by decide) ?_
  refine lv_istore_n (lv' := [(2, .int _), (0, .ref _), (1, .int _)]) hx hb dX2_passNights_1 rfl hl (by decide) rfl (fun ls hl => ?_)
  have lp2 : ∀ (n2 : Nat) (k : Nat) (hk : k ≤ n) (hs9 : okS (nightsS k σ)) (hc9 : ∀ o ∈ (nightsS k σ).2.2.1, o 4 < 9) (hmu2 : n - k < n2) (H : Heap) (locs : List Loc) (hw : jW g z s H locs) (hf : jF a 12 H0 H) (hS : jSo g H a (nightsS k σ) (opnR (nightsS k σ))) (ls : Array Slot) (hl : lv_has ls 3 [(0, .ref a), (1, .int (nI (n))), (2, .int (nI (k)))]), jK p l e 6 152 s m [.ref a, .int (nI (n))] below meth c z H0 (q_X2_passNights g H0 a n σ) H locs (F0 m 2 ls []) := by
    intro n2
    induction n2 with
    | zero => intros; omega
    | succ n2 ih2 =>
      intro k hk hs9 hc9 hmu2 H locs hw hf hS ls hl
      refine lv_iload_n hx hb dX2_passNights_2 rfl (lv_at hl 2 rfl) ?_
      refine lv_iload_n hx hb dX2_passNights_3 rfl (lv_at hl 1 rfl) ?_
      refine jn_ge (tgt := 35) hx hb dX2_passNights_4 (by decide) (by omega) (by omega) (fun c4 => ?_) (fun c4 => ?_)
      · obtain rfl : n = k := by omega
        refine j_vret hx hb hr hlocks hH hw dX2_passNights_35 ?_
        exact ⟨rfl, hS, hf⟩
      · have h12 := nights_12 hs k
        refine lv_aload_n hx hb dX2_passNights_7 rfl (lv_at hl 0 rfl) ?_
        refine j_Vv (n := 0) (As := []) hx hb hml hown hts hw (j_recv hw hS.obj rfl) (c_X2_runTrain l g z H a (nightsS k σ) hz hS hs9 (by omega)) gX2_passNights_X2_runTrain rfl (by decide +kernel) ⟨Nat.le_of_ble_eq_true rfl, Nat.le_of_ble_eq_true rfl⟩ rfl hl.1 (Nat.le_of_ble_eq_true rfl) ⟨Nat.zero_le _, Nat.zero_le _⟩ dX2_passNights_8 (fun H locs hr1 hw hsz => ?_) rfl
        obtain ⟨hS, hf2⟩ := hr1
        have hf := hf.step hf2 (by omega)
        refine lv_aload_n hx hb dX2_passNights_11 rfl (lv_at hl 0 rfl) ?_
        refine j_Vv (n := 0) (As := []) hx hb hml hown hts hw (j_recv hw hS.obj rfl) (c_X2_letOrdersWait l g z H a (nt1 (nightsS k σ)) hz hS (okS_nt1 hs9) (nt1_calm hs9 hc9)) gX2_passNights_X2_letOrdersWait rfl (by decide +kernel) ⟨Nat.le_of_ble_eq_true rfl, Nat.le_of_ble_eq_true rfl⟩ rfl hl.1 (Nat.le_of_ble_eq_true rfl) ⟨Nat.zero_le _, Nat.zero_le _⟩ dX2_passNights_12 (fun H locs hr2 hw hsz => ?_) rfl
        obtain ⟨hS, hf2⟩ := hr2
        have hf := hf.step hf2 (by omega)
        refine lv_aload_n hx hb dX2_passNights_15 rfl (lv_at hl 0 rfl) ?_
        refine j_Vv (n := 0) (As := []) hx hb hml hown hts hw (j_recv hw hS.obj rfl) (c_X2_letLotsStay l g z H a (waitS (nt1 (nightsS k σ))) (opnR (waitS (nt1 (nightsS k σ)))) hz hS (okS_wait (okS_nt1 hs9))) gX2_passNights_X2_letLotsStay rfl (by decide +kernel) ⟨Nat.le_of_ble_eq_true rfl, Nat.le_of_ble_eq_true rfl⟩ rfl hl.1 (Nat.le_of_ble_eq_true rfl) ⟨Nat.zero_le _, Nat.zero_le _⟩ dX2_passNights_16 (fun H locs hr3 hw hsz => ?_) rfl
        obtain ⟨hS, hf2⟩ := hr3
        have hf := hf.step hf2 (by omega)
        refine lv_aload_n hx hb dX2_passNights_19 rfl (lv_at hl 0 rfl) ?_
        obtain ⟨ses4, pus4, dts4, las4, frs4, tks4, cts4, hOs4, hses4, hpus4, hdts4, hlas4, hfrs4, htks4, hops4, hlts4, hcts4, hSs4⟩ := hS
        have hOs4 : jO g H a 2 [.ref (a + 1), .ref (a + 2), .ref (a + 3), .ref (a + 4), .ref (a + 5), .ref (a + 6), .ref (a + 7), .ref (a + 9), .ref (a + 11)] := hOs4
        have hses4 : jI g H (a + 1) 5 ses4 := hses4
        have hpus4 : jI g H (a + 2) 4 pus4 := hpus4
        have hdts4 : jI g H (a + 3) 4 dts4 := hdts4
        have hlas4 : jI g H (a + 4) 4 las4 := hlas4
        have hfrs4 : jI g H (a + 5) 16 frs4 := hfrs4
        have htks4 : jI g H (a + 6) 16 tks4 := htks4
        have hcts4 : jI g H (a + 11) 11 cts4 := hcts4
        have hops4 : jOr g H (a + 7) (opnR (waitS (nt1 (nightsS k σ)))) := hops4
        have hlts4 : jOr g H (a + 9) (latR (sty 16 (waitS (nt1 (nightsS k σ))))) := hlts4
        refine j_get (T := TX2) (N := 9) (k := 8) hx hb hts hinX2 hown hw hOs4 rfl (by decide) (hts (.fieldLink RX2 40 "NightTrains$Store" "counts" "[I") (by decide +kernel)) rfl dX2_passNights_20 ?_
        refine lv_iconst (v := (nI (0))) hx hb dX2_passNights_23 (by decide) ?_
        refine lv_dup2_11 hx hb dX2_passNights_24 rfl rfl ?_
        refine j_iald hx hb hw hcts4 (k := 0) rfl (by omega) (by omega) dX2_passNights_25 ?_
        refine j_eq (y := nI ((sty 16 (waitS (nt1 (nightsS k σ)))).1 5)) (hSs4.rct (k := 0) (by decide)) ?_
        refine lv_iconst (v := (nI (1))) hx hb dX2_passNights_26 (by decide) ?_
        refine j_addN hx hb dX2_passNights_27 ?_
        refine j_iast hx hb hw hcts4 (by omega) (k := 0) rfl (by omega) (by omega) dX2_passNights_28 (fun H locs hw hcts4 oq hsz => ?_)
        obtain ⟨f5, ef5⟩ : ∃ y9, y9 = upd cts4 (0) (nI (((sty 16 (waitS (nt1 (nightsS k σ)))).1 5 + 1))) := ⟨_, rfl⟩
        rw [← ef5] at hcts4
        have hOs4 := hOs4.kept (oq _ (by omega))
        have hses4 := hses4.kept (oq _ (by omega))
        have hpus4 := hpus4.kept (oq _ (by omega))
        have hdts4 := hdts4.kept (oq _ (by omega))
        have hlas4 := hlas4.kept (oq _ (by omega))
        have hfrs4 := hfrs4.kept (oq _ (by omega))
        have htks4 := htks4.kept (oq _ (by omega))
        have hops4 := hops4.kept (fun q _ _ => oq q (by omega))
        have hlts4 := hlts4.kept (fun q _ _ => oq q (by omega))
        have hf := hf.put oq hsz (by omega)
        have hSs4 := hSs4.wct (k := 0) (v := (sty 16 (waitS (nt1 (nightsS k σ)))).1 5 + 1) (by decide) rfl
        rw [← ef5] at hSs4
        have hSs4 : Sto ses4 pus4 dts4 las4 frs4 tks4 f5 (upn (sty 16 (waitS (nt1 (nightsS k σ)))) 5 ((sty 16 (waitS (nt1 (nightsS k σ)))).1 5 + 1)) := hSs4
        have hops4 : jOr g H (a + 7) (opnR (nightsS (k + 1) σ)) := by rw [show opnR (nightsS (k + 1) σ) = opnR (waitS (nt1 (nightsS k σ))) from nights_op]; exact hops4
        have hlts4 : jOr g H (a + 9) (latR (nightsS (k + 1) σ)) := hlts4
        refine lv_iinc (v := nI (k + 1)) (lv' := [(2, .int _), (0, .ref _), (1, .int _)]) hx hb dX2_passNights_29 hl (k := 2) rfl (nI_add _ 1) (by decide) rfl (fun ls hl => ?_)
        refine lv_goto (tgt := 2) hx hb dX2_passNights_32 (by decide) ?_
        have hS6 : jSo g H a (nightsS (k + 1) σ) (opnR (nightsS (k + 1) σ)) := ⟨ses4, pus4, dts4, las4, frs4, tks4, f5, hOs4, hses4, hpus4, hdts4, hlas4, hfrs4, htks4, hops4, hlts4, hcts4, hSs4⟩
        exact ih2  (k + 1) (by first | assumption | omega) (okS_night hs9) (night_calm hs9) (by omega) H _ hw hf hS6 _ (lv_sub hl [1, 2, 0] rfl)
  exact lp2 (n - 0 + 1) 0 (by first | assumption | omega) hs hcalm (by omega) H0 _ hw hf hS _ (lv_sub hl [1, 2, 0] rfl)
