abbrev q_X2_runTrain (g : jG) (H0 : Heap) (a : Nat) (σ : Sg) : Option Value → Heap → Prop := jV (fun H1 => jSo g H1 a (nt1 σ) (opnR (nt1 σ)) ∧ jF a 12 H0 H1)
set_option maxHeartbeats 4000000 in
set_option maxRecDepth 100000 in
theorem c_X2_runTrain (l : Launch) (g : jG) (z : Nat) (H0 : Heap) (a : Nat) (σ : Sg) (hz : z ≤ a) (hS : jSo g H0 a σ (opnR σ)) (hs : okS σ) (hb12 : σ.1 12 + 16 < 2 ^ 31) : jM l g z yX2_runTrain wsX2_runTrain 5 129 [.ref a] H0 (q_X2_runTrain g H0 a σ) := by
  refine j_of (cc := cX2_runTrain) (n := 4) (ret := none) (by decide) rfl (Nat.le_of_ble_eq_true rfl) ?_
  intro p e s m below meth c hx hb hr hml hown hts hlocks hname hH hw ls hl
  have hl : lv_has ls 4 [(0, .ref a)] := hl
  have hinX2 : ∀ w ∈ u_ws RX2 TX2 9, w ∈ wsX2_runTrain := by decide +kernel
  have hf : jF a 12 H0 H0 := jF.rf
  have hl21 := hS.len
  have hln := opnR_len (σ := σ)
  rw [hln] at hl21
  have hs0 := hs
  have h16 := hs.1.1
  refine lv_aload_n hx hb dX2_runTrain_0 rfl (lv_at hl 0 rfl) ?_
  obtain ⟨ses1, pus1, dts1, las1, frs1, tks1, cts1, hOs1, hses1, hpus1, hdts1, hlas1, hfrs1, htks1, hops1, hlts1, hcts1, hSs1⟩ := hS
  have hOs1 : jO g H0 a 2 [.ref (a + 1), .ref (a + 2), .ref (a + 3), .ref (a + 4), .ref (a + 5), .ref (a + 6), .ref (a + 7), .ref (a + 9), .ref (a + 11)] := hOs1
  have hses1 : jI g H0 (a + 1) 5 ses1 := hses1
  have hpus1 : jI g H0 (a + 2) 4 pus1 := hpus1
  have hdts1 : jI g H0 (a + 3) 4 dts1 := hdts1
  have hlas1 : jI g H0 (a + 4) 4 las1 := hlas1
  have hfrs1 : jI g H0 (a + 5) 16 frs1 := hfrs1
  have htks1 : jI g H0 (a + 6) 16 tks1 := htks1
  have hcts1 : jI g H0 (a + 11) 11 cts1 := hcts1
  have hops1 : jOr g H0 (a + 7) (opnR σ) := hops1
  have hlts1 : jOr g H0 (a + 9) (latR σ) := hlts1
  refine j_get (T := TX2) (N := 9) (k := 8) hx hb hts hinX2 hown hw hOs1 rfl (by decide) (hts (.fieldLink RX2 40 "NightTrains$Store" "counts" "[I") (by decide +kernel)) rfl dX2_runTrain_1 ?_
  refine lv_bipush (v := (nI (9))) hx hb dX2_runTrain_4 (by decide) ?_
  refine j_iald hx hb hw hcts1 (k := 9) rfl (by omega) (by omega) dX2_runTrain_6 ?_
  refine j_eq (y := nI (σ.1 12)) (hSs1.rct (k := 9) (by decide)) ?_
  refine lv_istore_n (lv' := [(1, .int _), (0, .ref _)]) hx hb dX2_runTrain_7 rfl hl (by decide) rfl (fun ls hl => ?_)
  refine lv_iconst (v := (nI (0))) hx hb dX2_runTrain_8 (by decide) ?_
  refine lv_istore_n (lv' := [(2, .int _), (1, .int _), (0, .ref _)]) hx hb dX2_runTrain_9 rfl hl (by decide) rfl (fun ls hl => ?_)
  have hS2 : jSo g H0 a σ (opnR σ) := ⟨ses1, pus1, dts1, las1, frs1, tks1, cts1, hOs1, hses1, hpus1, hdts1, hlas1, hfrs1, htks1, hops1, hlts1, hcts1, hSs1⟩
  have lp10 : ∀ (n10 : Nat) (t : Nat) (r : Nat) (σk : Sg) (htr : t + r = σ.1 0) (hT : trn r σk = trn (σ.1 0) σ) (hTl : (trl (σ.1 0) σ).length = t + (trl r σk).length) (hlo : σk.1 0 = σ.1 0) (hs : okS σk) (hmu10 : r < n10) (H : Heap) (locs : List Loc) (hw : jW g z s H locs) (hf : jF a 12 H0 H) (hS2 : jSo g H a σk (opnR σk)) (ls : Array Slot) (hl : lv_has ls 4 [(0, .ref a), (1, .int (nI ((σ.1 12)))), (2, .int (nI (t)))]), jK p l e 5 129 s m [.ref a] below meth c z H0 (q_X2_runTrain g H0 a σ) H locs (F0 m 10 ls []) := by
    intro n10
    induction n10 with
    | zero => intros; omega
    | succ n10 ih10 =>
      intro t r σk htr hT hTl hlo hs hmu10 H locs hw hf hS2 ls hl
      refine lv_iload_n hx hb dX2_runTrain_10 rfl (lv_at hl 2 rfl) ?_
      refine lv_aload_n hx hb dX2_runTrain_11 rfl (lv_at hl 0 rfl) ?_
      obtain ⟨ses3, pus3, dts3, las3, frs3, tks3, cts3, hOs3, hses3, hpus3, hdts3, hlas3, hfrs3, htks3, hops3, hlts3, hcts3, hSs3⟩ := hS2
      have hOs3 : jO g H a 2 [.ref (a + 1), .ref (a + 2), .ref (a + 3), .ref (a + 4), .ref (a + 5), .ref (a + 6), .ref (a + 7), .ref (a + 9), .ref (a + 11)] := hOs3
      have hses3 : jI g H (a + 1) 5 ses3 := hses3
      have hpus3 : jI g H (a + 2) 4 pus3 := hpus3
      have hdts3 : jI g H (a + 3) 4 dts3 := hdts3
      have hlas3 : jI g H (a + 4) 4 las3 := hlas3
      have hfrs3 : jI g H (a + 5) 16 frs3 := hfrs3
      have htks3 : jI g H (a + 6) 16 tks3 := htks3
      have hcts3 : jI g H (a + 11) 11 cts3 := hcts3
      have hops3 : jOr g H (a + 7) (opnR σk) := hops3
      have hlts3 : jOr g H (a + 9) (latR σk) := hlts3
      refine j_get (T := TX2) (N := 9) (k := 0) hx hb hts hinX2 hown hw hOs3 rfl (by decide) (hts (.fieldLink RX2 9 "NightTrains$Store" "settings" "[I") (by decide +kernel)) rfl dX2_runTrain_12 ?_
      refine lv_iconst (v := (nI (0))) hx hb dX2_runTrain_15 (by decide) ?_
      refine j_iald hx hb hw hses3 (k := 0) rfl (by omega) (by omega) dX2_runTrain_16 ?_
      refine j_eq (y := nI (σk.1 0)) (hSs3.rse (k := 0) (by omega)) ?_
      refine jn_ge (tgt := 46) hx hb dX2_runTrain_17 (by decide) (by omega) (by omega) (fun c17 => ?_) (fun c17 => ?_)
      · have hst := trn_stop (r := r) (σ := σk) (by first | exact Or.inl (by omega) | exact Or.inr hwo.symm)
        rw [hst.1] at hT
        rw [hst.2.1] at hTl
        have hTl : (trl (σ.1 0) σ).length = t := hTl
        subst hT
        have h12 := trn_12 (σ.1 0) σ hs0
        have ht16 := hs0.1.1
        refine lv_aload_n hx hb dX2_runTrain_46 rfl (lv_at hl 0 rfl) ?_
        refine j_get (T := TX2) (N := 9) (k := 8) hx hb hts hinX2 hown hw hOs3 rfl (by decide) (hts (.fieldLink RX2 40 "NightTrains$Store" "counts" "[I") (by decide +kernel)) rfl dX2_runTrain_47 ?_
        refine lv_bipush (v := (nI (9))) hx hb dX2_runTrain_50 (by decide) ?_
        refine j_iald hx hb hw hcts3 (k := 9) rfl (by omega) (by omega) dX2_runTrain_52 ?_
        refine j_eq (y := nI ((trn (σ.1 0) σ).1 12)) (hSs3.rct (k := 9) (by decide)) ?_
        refine lv_iload_n hx hb dX2_runTrain_53 rfl (lv_at hl 1 rfl) ?_
        refine jn_le (tgt := 68) hx hb dX2_runTrain_54 (by decide) (by omega) (by omega) (fun c54 => ?_) (fun c54 => ?_)
        · refine j_vret hx hb hr hlocks hH hw dX2_runTrain_68 ?_
          have hS4 : jSo g H a (trn (σ.1 0) σ) (opnR (trn (σ.1 0) σ)) := ⟨ses3, pus3, dts3, las3, frs3, tks3, cts3, hOs3, hses3, hpus3, hdts3, hlas3, hfrs3, htks3, hops3, hlts3, hcts3, hSs3⟩
          have h9 : jSo g H a (nt1 σ) (opnR (nt1 σ)) := by rw [nt_0 (by omega)]; exact hS4
          exact ⟨rfl, h9, hf⟩
        · refine lv_aload_n hx hb dX2_runTrain_57 rfl (lv_at hl 0 rfl) ?_
          refine j_get (T := TX2) (N := 9) (k := 8) hx hb hts hinX2 hown hw hOs3 rfl (by decide) (hts (.fieldLink RX2 40 "NightTrains$Store" "counts" "[I") (by decide +kernel)) rfl dX2_runTrain_58 ?_
          refine lv_bipush (v := (nI (10))) hx hb dX2_runTrain_61 (by decide) ?_
          refine lv_dup2_11 hx hb dX2_runTrain_63 rfl rfl ?_
          refine j_iald hx hb hw hcts3 (k := 10) rfl (by omega) (by omega) dX2_runTrain_64 ?_
          refine j_eq (y := nI ((trn (σ.1 0) σ).1 13)) (hSs3.rct (k := 10) (by decide)) ?_
          refine lv_iconst (v := (nI (1))) hx hb dX2_runTrain_65 (by decide) ?_
          refine j_addN hx hb dX2_runTrain_66 ?_
          refine j_iast hx hb hw hcts3 (by omega) (k := 10) rfl (by omega) (by omega) dX2_runTrain_67 (fun H locs hw hcts3 oq hsz => ?_)
          obtain ⟨f5, ef5⟩ : ∃ y9, y9 = upd cts3 (10) (nI (((trn (σ.1 0) σ).1 13 + 1))) := ⟨_, rfl⟩
          rw [← ef5] at hcts3
          have hOs3 := hOs3.kept (oq _ (by omega))
          have hses3 := hses3.kept (oq _ (by omega))
          have hpus3 := hpus3.kept (oq _ (by omega))
          have hdts3 := hdts3.kept (oq _ (by omega))
          have hlas3 := hlas3.kept (oq _ (by omega))
          have hfrs3 := hfrs3.kept (oq _ (by omega))
          have htks3 := htks3.kept (oq _ (by omega))
          have hops3 := hops3.kept (fun q _ _ => oq q (by omega))
          have hlts3 := hlts3.kept (fun q _ _ => oq q (by omega))
          have hf := hf.put oq hsz (by omega)
          have hSs3 := hSs3.wct (k := 10) (v := (trn (σ.1 0) σ).1 13 + 1) (by decide) rfl
          rw [← ef5] at hSs3
          have hSs3 : Sto ses3 pus3 dts3 las3 frs3 tks3 f5 (upn (trn (σ.1 0) σ) 13 ((trn (σ.1 0) σ).1 13 + 1)) := hSs3
          refine j_vret hx hb hr hlocks hH hw dX2_runTrain_68 ?_
          have hS6 : jSo g H a (upn (trn (σ.1 0) σ) 13 ((trn (σ.1 0) σ).1 13 + 1)) (opnR (trn (σ.1 0) σ)) := ⟨ses3, pus3, dts3, las3, frs3, tks3, f5, hOs3, hses3, hpus3, hdts3, hlas3, hfrs3, htks3, hops3, hlts3, hcts3, hSs3⟩
          have h9 : jSo g H a (nt1 σ) (opnR (nt1 σ)) := by rw [nt_1 (by omega)]; exact hS6
          exact ⟨rfl, h9, hf⟩
      · obtain ⟨r, rfl⟩ : ∃ r1, r = r1 + 1 := ⟨r - 1, by omega⟩
        refine lv_aload_n hx hb dX2_runTrain_20 rfl (lv_at hl 0 rfl) ?_
        have hS7 : jSo g H a σk (opnR σk) := ⟨ses3, pus3, dts3, las3, frs3, tks3, cts3, hOs3, hses3, hpus3, hdts3, hlas3, hfrs3, htks3, hops3, hlts3, hcts3, hSs3⟩
        refine j_Vp (n := 0) (As := []) hx hb hml hown hts hw (j_recv hw hS7.obj rfl) (c_X2_wantedLot l g z H a σk (by omega) hS7 (by first | assumption | omega)) gX2_runTrain_X2_wantedLot rfl (by decide +kernel) ⟨Nat.le_of_ble_eq_true rfl, Nat.le_of_ble_eq_true rfl⟩ rfl hl.1 (Nat.le_of_ble_eq_true rfl) ⟨Nat.zero_le _, Nat.zero_le _⟩ dX2_runTrain_21 (fun r8 locs hr8 hw => ?_) rfl
        obtain ⟨wo, hwo⟩ : ∃ x, x = wantS σk := ⟨_, rfl⟩
        rw [← hwo] at hr8
        rcases wo with _ | b
        · obtain rfl : r8 = -1 := hr8
          refine lv_istore_n (lv' := [(3, .int _), (0, .ref _), (1, .int _), (2, .int _)]) hx hb dX2_runTrain_24 rfl hl (by decide) rfl (fun ls hl => ?_)
          refine lv_iload_n hx hb dX2_runTrain_25 rfl (lv_at hl 0 rfl) ?_
          refine j_SNp (n := 1) (As := [.int (-1)]) hx hb hml hown hts hw (c_X4_isLot l g z H (-1)   ) gX2_runTrain_X4_isLot_n80 (host := RX4) (by decide +kernel) (by decide +kernel) (by decide +kernel) rfl (by decide +kernel) ⟨Nat.le_of_ble_eq_true rfl, Nat.le_of_ble_eq_true rfl⟩ rfl hl.1 (Nat.le_of_ble_eq_true rfl) ⟨Nat.zero_le _, Nat.zero_le _⟩ dX2_runTrain_26 (fun r9 locs hr9 hw => ?_) rfl
          obtain rfl : r9 = nI 0 := by rcases hr9 with ⟨-, q, h, -⟩ | ⟨h, -⟩; rw [ix_none (by decide)] at h; cases h; exact h
          refine jz_ne (tgt := 35) hx hb dX2_runTrain_29 (by decide) (by omega) (fun c29 => absurd c29 (by omega)) (fun c29 => ?_)
          refine lv_goto (tgt := 46) hx hb dX2_runTrain_32 (by decide) ?_
          have hst := trn_stop (r := r + 1) (σ := σk) (by first | exact Or.inl (by omega) | exact Or.inr hwo.symm)
          rw [hst.1] at hT
          rw [hst.2.1] at hTl
          have hTl : (trl (σ.1 0) σ).length = t := hTl
          subst hT
          have h12 := trn_12 (σ.1 0) σ hs0
          have ht16 := hs0.1.1
          refine lv_aload_n hx hb dX2_runTrain_46 rfl (lv_at hl 1 rfl) ?_
          obtain ⟨ses10, pus10, dts10, las10, frs10, tks10, cts10, hOs10, hses10, hpus10, hdts10, hlas10, hfrs10, htks10, hops10, hlts10, hcts10, hSs10⟩ := hS7
          have hOs10 : jO g H a 2 [.ref (a + 1), .ref (a + 2), .ref (a + 3), .ref (a + 4), .ref (a + 5), .ref (a + 6), .ref (a + 7), .ref (a + 9), .ref (a + 11)] := hOs10
          have hses10 : jI g H (a + 1) 5 ses10 := hses10
          have hpus10 : jI g H (a + 2) 4 pus10 := hpus10
          have hdts10 : jI g H (a + 3) 4 dts10 := hdts10
          have hlas10 : jI g H (a + 4) 4 las10 := hlas10
          have hfrs10 : jI g H (a + 5) 16 frs10 := hfrs10
          have htks10 : jI g H (a + 6) 16 tks10 := htks10
          have hcts10 : jI g H (a + 11) 11 cts10 := hcts10
          have hops10 : jOr g H (a + 7) (opnR (trn (σ.1 0) σ)) := hops10
          have hlts10 : jOr g H (a + 9) (latR (trn (σ.1 0) σ)) := hlts10
          refine j_get (T := TX2) (N := 9) (k := 8) hx hb hts hinX2 hown hw hOs10 rfl (by decide) (hts (.fieldLink RX2 40 "NightTrains$Store" "counts" "[I") (by decide +kernel)) rfl dX2_runTrain_47 ?_
          refine lv_bipush (v := (nI (9))) hx hb dX2_runTrain_50 (by decide) ?_
          refine j_iald hx hb hw hcts10 (k := 9) rfl (by omega) (by omega) dX2_runTrain_52 ?_
          refine j_eq (y := nI ((trn (σ.1 0) σ).1 12)) (hSs10.rct (k := 9) (by decide)) ?_
          refine lv_iload_n hx hb dX2_runTrain_53 rfl (lv_at hl 2 rfl) ?_
          refine jn_le (tgt := 68) hx hb dX2_runTrain_54 (by decide) (by omega) (by omega) (fun c54 => ?_) (fun c54 => ?_)
          · refine j_vret hx hb hr hlocks hH hw dX2_runTrain_68 ?_
            have hS11 : jSo g H a (trn (σ.1 0) σ) (opnR (trn (σ.1 0) σ)) := ⟨ses10, pus10, dts10, las10, frs10, tks10, cts10, hOs10, hses10, hpus10, hdts10, hlas10, hfrs10, htks10, hops10, hlts10, hcts10, hSs10⟩
            have h9 : jSo g H a (nt1 σ) (opnR (nt1 σ)) := by rw [nt_0 (by omega)]; exact hS11
            exact ⟨rfl, h9, hf⟩
          · refine lv_aload_n hx hb dX2_runTrain_57 rfl (lv_at hl 1 rfl) ?_
            refine j_get (T := TX2) (N := 9) (k := 8) hx hb hts hinX2 hown hw hOs10 rfl (by decide) (hts (.fieldLink RX2 40 "NightTrains$Store" "counts" "[I") (by decide +kernel)) rfl dX2_runTrain_58 ?_
            refine lv_bipush (v := (nI (10))) hx hb dX2_runTrain_61 (by decide) ?_
            refine lv_dup2_11 hx hb dX2_runTrain_63 rfl rfl ?_
            refine j_iald hx hb hw hcts10 (k := 10) rfl (by omega) (by omega) dX2_runTrain_64 ?_
            refine j_eq (y := nI ((trn (σ.1 0) σ).1 13)) (hSs10.rct (k := 10) (by decide)) ?_
            refine lv_iconst (v := (nI (1))) hx hb dX2_runTrain_65 (by decide) ?_
            refine j_addN hx hb dX2_runTrain_66 ?_
            refine j_iast hx hb hw hcts10 (by omega) (k := 10) rfl (by omega) (by omega) dX2_runTrain_67 (fun H locs hw hcts10 oq hsz => ?_)
            obtain ⟨f12, ef12⟩ : ∃ y9, y9 = upd cts10 (10) (nI (((trn (σ.1 0) σ).1 13 + 1))) := ⟨_, rfl⟩
            rw [← ef12] at hcts10
            have hOs10 := hOs10.kept (oq _ (by omega))
            have hses10 := hses10.kept (oq _ (by omega))
            have hpus10 := hpus10.kept (oq _ (by omega))
            have hdts10 := hdts10.kept (oq _ (by omega))
            have hlas10 := hlas10.kept (oq _ (by omega))
            have hfrs10 := hfrs10.kept (oq _ (by omega))
            have htks10 := htks10.kept (oq _ (by omega))
            have hops10 := hops10.kept (fun q _ _ => oq q (by omega))
            have hlts10 := hlts10.kept (fun q _ _ => oq q (by omega))
            have hf := hf.put oq hsz (by omega)
            have hSs10 := hSs10.wct (k := 10) (v := (trn (σ.1 0) σ).1 13 + 1) (by decide) rfl
            rw [← ef12] at hSs10
            have hSs10 : Sto ses10 pus10 dts10 las10 frs10 tks10 f12 (upn (trn (σ.1 0) σ) 13 ((trn (σ.1 0) σ).1 13 + 1)) := hSs10
            refine j_vret hx hb hr hlocks hH hw dX2_runTrain_68 ?_
            have hS13 : jSo g H a (upn (trn (σ.1 0) σ) 13 ((trn (σ.1 0) σ).1 13 + 1)) (opnR (trn (σ.1 0) σ)) := ⟨ses10, pus10, dts10, las10, frs10, tks10, f12, hOs10, hses10, hpus10, hdts10, hlas10, hfrs10, htks10, hops10, hlts10, hcts10, hSs10⟩
            have h9 : jSo g H a (nt1 σ) (opnR (nt1 σ)) := by rw [nt_1 (by omega)]; exact hS13
            exact ⟨rfl, h9, hf⟩
        · obtain rfl : r8 = nI b := hr8
          have hb16 := wantS_lt hs hwo.symm
          refine lv_istore_n (lv' := [(3, .int _), (0, .ref _), (1, .int _), (2, .int _)]) hx hb dX2_runTrain_24 rfl hl (by decide) rfl (fun ls hl => ?_)
          refine lv_iload_n hx hb dX2_runTrain_25 rfl (lv_at hl 0 rfl) ?_
          refine j_SNp (n := 1) (As := [.int (nI (b))]) hx hb hml hown hts hw (c_X4_isLot l g z H (nI (b))   ) gX2_runTrain_X4_isLot_n80 (host := RX4) (by decide +kernel) (by decide +kernel) (by decide +kernel) rfl (by decide +kernel) ⟨Nat.le_of_ble_eq_true rfl, Nat.le_of_ble_eq_true rfl⟩ rfl hl.1 (Nat.le_of_ble_eq_true rfl) ⟨Nat.zero_le _, Nat.zero_le _⟩ dX2_runTrain_26 (fun r14 locs hr14 hw => ?_) rfl
          obtain rfl : r14 = nI 1 := ixY (by decide) (by omega) (by omega) hr14
          refine jz_ne (tgt := 35) hx hb dX2_runTrain_29 (by decide) (by omega) (fun c29 => ?_) (fun c29 => absurd c29 (by omega))
          refine lv_aload_n hx hb dX2_runTrain_35 rfl (lv_at hl 1 rfl) ?_
          refine lv_iload_n hx hb dX2_runTrain_36 rfl (lv_at hl 0 rfl) ?_
          refine j_Vv (n := 1) (As := [.int (nI (b))]) hx hb hml hown hts hw (j_recv hw hS7.obj rfl) (c_X2_bring l g z H a (b) σk (by omega) hS7 hs (by first | assumption | omega)) gX2_runTrain_X2_bring rfl (by decide +kernel) ⟨Nat.le_of_ble_eq_true rfl, Nat.le_of_ble_eq_true rfl⟩ rfl hl.1 (Nat.le_of_ble_eq_true rfl) ⟨Nat.zero_le _, Nat.zero_le _⟩ dX2_runTrain_37 (fun H locs hr15 hw hsz => ?_) rfl
          obtain ⟨hS7, hf2⟩ := hr15
          have hf := hf.step hf2 (by omega)
          refine lv_iinc (v := nI (t + 1)) (lv' := [(2, .int _), (3, .int _), (0, .ref _), (1, .int _)]) hx hb dX2_runTrain_40 hl (k := 3) rfl (nI_add _ 1) (by decide) rfl (fun ls hl => ?_)
          refine lv_goto (tgt := 10) hx hb dX2_runTrain_43 (by decide) ?_
          exact ih10  (t + 1) r (bringS σk (b)) (by first | assumption | omega) (by rw [← (trn_go hwo.symm).1]; exact hT) (by rw [hTl, (trn_go hwo.symm).2.1, List.length_cons]; omega) ((bring_low hs (by omega)).trans hlo) (okS_bring hs hb16) (by omega) H _ hw hf hS7 _ (lv_sub hl [2, 3, 0] rfl)
  exact lp10 ((σ.1 0) + 1) 0 (σ.1 0) σ (by first | assumption | omega) rfl (Nat.zero_add _).symm rfl hs (by omega) H0 _ hw hf hS2 _ (lv_sub hl [2, 1, 0] rfl)
