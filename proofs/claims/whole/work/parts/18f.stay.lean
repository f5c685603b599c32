abbrev q_X2_letLotsStay (g : jG) (H0 : Heap) (a : Nat) (σ : Sg) (Rs : List OR) : Option Value → Heap → Prop := jV (fun H1 => jSo g H1 a (sty 16 σ) Rs ∧ jF a 12 H0 H1)
set_option maxHeartbeats 4000000 in
set_option maxRecDepth 100000 in
theorem c_X2_letLotsStay (l : Launch) (g : jG) (z : Nat) (H0 : Heap) (a : Nat) (σ : Sg) (Rs : List OR) (hz : z ≤ a) (hS : jSo g H0 a σ Rs) (hs : okS σ) : jM l g z yX2_letLotsStay wsX2_letLotsStay 0 0 [.ref a] H0 (q_X2_letLotsStay g H0 a σ Rs) := by
  refine j_of (cc := cX2_letLotsStay) (n := 2) (ret := none) (by decide) rfl (Nat.le_of_ble_eq_true rfl) ?_
  intro p e s m below meth c hx hb hr hml hown hts hlocks hname hH hw ls hl
  have hl : lv_has ls 2 [(0, .ref a)] := hl
  have hinX2 : ∀ w ∈ u_ws RX2 TX2 9, w ∈ wsX2_letLotsStay := by decide +kernel
  have hf : jF a 12 H0 H0 := jF.rf
  have hl21 := hS.len
  have hm9 := hs.1.2.2.2.2.1
  refine lv_iconst (v := (nI (0))) hx hb dX2_letLotsStay_0 (by decide) ?_
  refine lv_istore_n (lv' := [(1, .int _), (0, .ref _)]) hx hb dX2_letLotsStay_1 rfl hl (by decide) rfl (fun ls hl => ?_)
  have lp2 : ∀ (n2 : Nat) (k : Nat) (hk : k ≤ 16) (hs9 : okS (sty k σ)) (hmu2 : 16 - k < n2) (H : Heap) (locs : List Loc) (hw : jW g z s H locs) (hf : jF a 12 H0 H) (hS : jSo g H a (sty k σ) Rs) (ls : Array Slot) (hl : lv_has ls 2 [(0, .ref a), (1, .int (nI (k)))]), jK p l e 0 0 s m [.ref a] below meth c z H0 (q_X2_letLotsStay g H0 a σ Rs) H locs (F0 m 2 ls []) := by
    intro n2
    induction n2 with
    | zero => intros; omega
    | succ n2 ih2 =>
      intro k hk hs9 hmu2 H locs hw hf hS ls hl
      refine lv_iload_n hx hb dX2_letLotsStay_2 rfl (lv_at hl 1 rfl) ?_
      refine lv_bipush (v := (nI (16))) hx hb dX2_letLotsStay_3 (by decide) ?_
      refine jn_ge (tgt := 56) hx hb dX2_letLotsStay_5 (by decide) (by omega) (by omega) (fun c5 => ?_) (fun c5 => ?_)
      · obtain rfl : k = 16 := by omega
        refine j_vret hx hb hr hlocks hH hw dX2_letLotsStay_56 ?_
        exact ⟨rfl, hS, hf⟩
      · have hfk := hs9.2.1 k (by omega)
        have h29 := sty_low k σ 2 (by omega)
        refine lv_aload_n hx hb dX2_letLotsStay_8 rfl (lv_at hl 0 rfl) ?_
        obtain ⟨ses1, pus1, dts1, las1, frs1, tks1, cts1, hOs1, hses1, hpus1, hdts1, hlas1, hfrs1, htks1, hops1, hlts1, hcts1, hSs1⟩ := hS
        have hOs1 : jO g H a 2 [.ref (a + 1), .ref (a + 2), .ref (a + 3), .ref (a + 4), .ref (a + 5), .ref (a + 6), .ref (a + 7), .ref (a + 9), .ref (a + 11)] := hOs1
        have hses1 : jI g H (a + 1) 5 ses1 := hses1
        have hpus1 : jI g H (a + 2) 4 pus1 := hpus1
        have hdts1 : jI g H (a + 3) 4 dts1 := hdts1
        have hlas1 : jI g H (a + 4) 4 las1 := hlas1
        have hfrs1 : jI g H (a + 5) 16 frs1 := hfrs1
        have htks1 : jI g H (a + 6) 16 tks1 := htks1
        have hcts1 : jI g H (a + 11) 11 cts1 := hcts1
        have hops1 : jOr g H (a + 7) Rs := hops1
        have hlts1 : jOr g H (a + 9) (latR (sty k σ)) := hlts1
        refine j_get (T := TX2) (N := 9) (k := 4) hx hb hts hinX2 hown hw hOs1 rfl (by decide) (hts (.fieldLink RX2 24 "NightTrains$Store" "front" "[I") (by decide +kernel)) rfl dX2_letLotsStay_9 ?_
        refine lv_iload_n hx hb dX2_letLotsStay_12 rfl (lv_at hl 1 rfl) ?_
        refine j_iald hx hb hw hfrs1 (k := k) rfl (by omega) (by omega) dX2_letLotsStay_13 ?_
        refine j_eq (y := (nI ((sty k σ).1 (14 + k)) - nI 1)) (hSs1.rfr (k := k) (by omega)) ?_
        refine lv_iconst (v := (-1)) hx hb dX2_letLotsStay_14 (by decide) ?_
        refine lv_icmp_eq (tgt := 50) hx hb dX2_letLotsStay_15 (by decide) (fun c15 => ?_) (fun c15 => ?_)
        · have hS2 : jSo g H a (sty k σ) Rs := ⟨ses1, pus1, dts1, las1, frs1, tks1, cts1, hOs1, hses1, hpus1, hdts1, hlas1, hfrs1, htks1, hops1, hlts1, hcts1, hSs1⟩
          have hS : jSo g H a (sty (k + 1) σ) Rs := by show jSo g H a (upn (sty k σ) (14 + k) (stv ((sty k σ).1 (14 + k)) (σ.1 2))) Rs; rw [(fr_in (by omega)).mp c15, stv_0, upn_id ((fr_in (by omega)).mp c15)]; exact hS2
          refine lv_iinc (v := nI (k + 1)) (lv' := [(1, .int _), (0, .ref _)]) hx hb dX2_letLotsStay_50 hl (k := 1) rfl (nI_add _ 1) (by decide) rfl (fun ls hl => ?_)
          refine lv_goto (tgt := 2) hx hb dX2_letLotsStay_53 (by decide) ?_
          exact ih2  (k + 1) (by first | assumption | omega) (okS_sty (k + 1) σ (by omega) hs) (by omega) H _ hw hf hS _ (lv_sub hl [1, 0] rfl)
        · refine lv_aload_n hx hb dX2_letLotsStay_18 rfl (lv_at hl 0 rfl) ?_
          refine j_get (T := TX2) (N := 9) (k := 4) hx hb hts hinX2 hown hw hOs1 rfl (by decide) (hts (.fieldLink RX2 24 "NightTrains$Store" "front" "[I") (by decide +kernel)) rfl dX2_letLotsStay_19 ?_
          refine lv_iload_n hx hb dX2_letLotsStay_22 rfl (lv_at hl 1 rfl) ?_
          refine lv_dup2_11 hx hb dX2_letLotsStay_23 rfl rfl ?_
          refine j_iald hx hb hw hfrs1 (k := k) rfl (by omega) (by omega) dX2_letLotsStay_24 ?_
          refine j_eq (y := (nI ((sty k σ).1 (14 + k)) - nI 1)) (hSs1.rfr (k := k) (by omega)) ?_
          refine lv_iconst (v := (nI (1))) hx hb dX2_letLotsStay_25 (by decide) ?_
          refine lv_iadd hx hb dX2_letLotsStay_26 ?_
          refine j_iast hx hb hw hfrs1 (by omega) (k := k) rfl (by omega) (by omega) dX2_letLotsStay_27 (fun H locs hw hfrs1 oq hsz => ?_)
          obtain ⟨f3, ef3⟩ : ∃ y9, y9 = upd frs1 (k) ((nI ((sty k σ).1 (14 + k)) - nI 1) + (nI (1))) := ⟨_, rfl⟩
          rw [← ef3] at hfrs1
          have hOs1 := hOs1.kept (oq _ (by omega))
          have hses1 := hses1.kept (oq _ (by omega))
          have hpus1 := hpus1.kept (oq _ (by omega))
          have hdts1 := hdts1.kept (oq _ (by omega))
          have hlas1 := hlas1.kept (oq _ (by omega))
          have htks1 := htks1.kept (oq _ (by omega))
          have hcts1 := hcts1.kept (oq _ (by omega))
          have hops1 := hops1.kept (fun q _ _ => oq q (by omega))
          have hlts1 := hlts1.kept (fun q _ _ => oq q (by omega))
          have hf := hf.put oq hsz (by omega)
          have hSs1 := hSs1.wfr (k := k) (v := ((sty k σ).1 (14 + k)) + 1) (x := (nI ((sty k σ).1 (14 + k)) - nI 1 + nI 1)) (by omega) fr_inc
          rw [← ef3] at hSs1
          refine lv_aload_n hx hb dX2_letLotsStay_28 rfl (lv_at hl 0 rfl) ?_
          refine j_get (T := TX2) (N := 9) (k := 4) hx hb hts hinX2 hown hw hOs1 rfl (by decide) (hts (.fieldLink RX2 24 "NightTrains$Store" "front" "[I") (by decide +kernel)) rfl dX2_letLotsStay_29 ?_
          refine lv_iload_n hx hb dX2_letLotsStay_32 rfl (lv_at hl 1 rfl) ?_
          refine j_iald hx hb hw hfrs1 (k := k) rfl (by omega) (by omega) dX2_letLotsStay_33 ?_
          refine j_eq (y := nI (((sty k σ).1 (14 + k)))) ((hSs1.rfr (k := k) (by omega)).trans (by rw [upn_s]; exact fr_v)) ?_
          refine lv_aload_n hx hb dX2_letLotsStay_34 rfl (lv_at hl 0 rfl) ?_
          refine j_get (T := TX2) (N := 9) (k := 0) hx hb hts hinX2 hown hw hOs1 rfl (by decide) (hts (.fieldLink RX2 9 "NightTrains$Store" "settings" "[I") (by decide +kernel)) rfl dX2_letLotsStay_35 ?_
          refine lv_iconst (v := (nI (2))) hx hb dX2_letLotsStay_38 (by decide) ?_
          refine j_iald hx hb hw hses1 (k := 2) rfl (by omega) (by omega) dX2_letLotsStay_39 ?_
          refine j_eq (y := nI ((σ.1 2))) ((hSs1.rse (k := 2) (by omega)).trans (congrArg nI ((upn_n (by omega)).trans h29))) ?_
          refine jn_le (tgt := 50) hx hb dX2_letLotsStay_40 (by decide) (by omega) (by omega) (fun c40 => ?_) (fun c40 => ?_)
          · have hS4 : jSo g H a (upn (sty k σ) (14 + k) ((sty k σ).1 (14 + k) + 1)) Rs := ⟨ses1, pus1, dts1, las1, f3, tks1, cts1, hOs1, hses1, hpus1, hdts1, hlas1, hfrs1, htks1, hops1, hlts1, hcts1, hSs1⟩
            have hS : jSo g H a (sty (k + 1) σ) Rs := by show jSo g H a (upn (sty k σ) (14 + k) (stv ((sty k σ).1 (14 + k)) (σ.1 2))) Rs; rw [stv_pos (Nat.pos_of_ne_zero (fun q => c15 ((fr_in (by omega)).mpr q))), if_neg (by omega)]; exact hS4
            refine lv_iinc (v := nI (k + 1)) (lv' := [(1, .int _), (0, .ref _)]) hx hb dX2_letLotsStay_50 hl (k := 1) rfl (nI_add _ 1) (by decide) rfl (fun ls hl => ?_)
            refine lv_goto (tgt := 2) hx hb dX2_letLotsStay_53 (by decide) ?_
            exact ih2  (k + 1) (by first | assumption | omega) (okS_sty (k + 1) σ (by omega) hs) (by omega) H _ hw hf hS _ (lv_sub hl [1, 0] rfl)
          · refine lv_aload_n hx hb dX2_letLotsStay_43 rfl (lv_at hl 0 rfl) ?_
            refine j_get (T := TX2) (N := 9) (k := 4) hx hb hts hinX2 hown hw hOs1 rfl (by decide) (hts (.fieldLink RX2 24 "NightTrains$Store" "front" "[I") (by decide +kernel)) rfl dX2_letLotsStay_44 ?_
            refine lv_iload_n hx hb dX2_letLotsStay_47 rfl (lv_at hl 1 rfl) ?_
            refine lv_iconst (v := (-1)) hx hb dX2_letLotsStay_48 (by decide) ?_
            refine j_iast hx hb hw hfrs1 (by omega) (k := k) rfl (by omega) (by omega) dX2_letLotsStay_49 (fun H locs hw hfrs1 oq hsz => ?_)
            obtain ⟨f5, ef5⟩ : ∃ y9, y9 = upd f3 (k) (-1) := ⟨_, rfl⟩
            rw [← ef5] at hfrs1
            have hOs1 := hOs1.kept (oq _ (by omega))
            have hses1 := hses1.kept (oq _ (by omega))
            have hpus1 := hpus1.kept (oq _ (by omega))
            have hdts1 := hdts1.kept (oq _ (by omega))
            have hlas1 := hlas1.kept (oq _ (by omega))
            have htks1 := htks1.kept (oq _ (by omega))
            have hcts1 := hcts1.kept (oq _ (by omega))
            have hops1 := hops1.kept (fun q _ _ => oq q (by omega))
            have hlts1 := hlts1.kept (fun q _ _ => oq q (by omega))
            have hf := hf.put oq hsz (by omega)
            have hSs1 := hSs1.wfr (k := k) (v := 0) (x := -1) (by omega) (by decide)
            rw [← ef5] at hSs1
            have hS6 : jSo g H a (upn (upn (sty k σ) (14 + k) ((sty k σ).1 (14 + k) + 1)) (14 + k) 0) Rs := ⟨ses1, pus1, dts1, las1, f5, tks1, cts1, hOs1, hses1, hpus1, hdts1, hlas1, hfrs1, htks1, hops1, hlts1, hcts1, hSs1⟩
            have hS : jSo g H a (sty (k + 1) σ) Rs := by show jSo g H a (upn (sty k σ) (14 + k) (stv ((sty k σ).1 (14 + k)) (σ.1 2))) Rs; rw [stv_pos (Nat.pos_of_ne_zero (fun q => c15 ((fr_in (by omega)).mpr q))), if_pos (by omega), ← upn_same]; exact hS6
            refine lv_iinc (v := nI (k + 1)) (lv' := [(1, .int _), (0, .ref _)]) hx hb dX2_letLotsStay_50 hl (k := 1) rfl (nI_add _ 1) (by decide) rfl (fun ls hl => ?_)
            refine lv_goto (tgt := 2) hx hb dX2_letLotsStay_53 (by decide) ?_
            exact ih2  (k + 1) (by first | assumption | omega) (okS_sty (k + 1) σ (by omega) hs) (by omega) H _ hw hf hS _ (lv_sub hl [1, 0] rfl)
  exact lp2 (16 - 0 + 1) 0 (by first | assumption | omega) hs (by omega) H0 _ hw hf hS _ (lv_sub hl [1, 0] rfl)
