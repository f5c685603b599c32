abbrev q_X2_wantedLot (g : jG) (H0 : Heap) (a : Nat) (σ : Sg) : Option Value → Heap → Prop := jN (fun r H1 => H1 = H0 ∧ (r = oI (wantS σ)))
set_option maxHeartbeats 4000000 in
set_option maxRecDepth 100000 in
theorem c_X2_wantedLot (l : Launch) (g : jG) (z : Nat) (H0 : Heap) (a : Nat) (σ : Sg) (hz : z ≤ a) (hS : jSo g H0 a σ (opnR σ)) (hs : okS σ) : jM l g z yX2_wantedLot wsX2_wantedLot 2 47 [.ref a] H0 (q_X2_wantedLot g H0 a σ) := by
  refine j_of (cc := cX2_wantedLot) (n := 6) (ret := some .int) (by decide) rfl (Nat.le_of_ble_eq_true rfl) ?_
  intro p e s m below meth c hx hb hr hml hown hts hlocks hname hH hw ls hl
  have hl : lv_has ls 6 [(0, .ref a)] := hl
  have hinX2 : ∀ w ∈ u_ws RX2 TX2 9, w ∈ wsX2_wantedLot := by decide +kernel
  have hl21 := hS.len
  have hln := opnR_len (σ := σ)
  rw [hln] at hl21
  have h4 := hs.1.2.2.2.2.2.2.2
  have hcn : ∀ q, ocnt 1 q σ.2.2.1 ≤ 21 := fun q => Nat.le_trans ocnt_le hl21
  have hfs : ∀ q, fsum q σ.2.2.1 ≤ 189 := fun q => Nat.le_trans (fsum_le hs.2.2.2.1) (by omega)
  have hwt : ∀ q, wtS σ q ≤ 189 := fun q => by have a := hcn q; have b := hfs q; unfold wtS; split <;> omega
  refine lv_aload_n hx hb dX2_wantedLot_0 rfl (lv_at hl 0 rfl) ?_
  obtain ⟨ses1, pus1, dts1, las1, frs1, tks1, cts1, hOs1, hses1, hpus1, hdts1, hlas1, hfrs1, htks1, hops1, hlts1, hcts1, hSs1⟩ := hS
  have hOs1 : jO g H0 a 2 [.ref (a + 1), .ref (a + 2), .ref (a + 3), .ref (a + 4), .ref (a + 5), .ref (a + 6), .ref (a + 7), .ref (a + 9), .ref (a + 11)] := hOs1
  have hses1 : jI g H0 (a + 1) 5 ses1 := hses1
  have hpus1 : jI g H0 (a + 2) 4 pus1 := hpus1
  have hdts1 : jI g H0 (a + 3) 4 dts1 := hdts1
  have hlas1 : jI g H0 (a + 4) 4 las1 := hlas1
  have hfrs1 : jI g H0 (a + 5) 16 frs1 := hfrs1
  have htks1 : jI g H0 (a + 6) 16 tks1 := htks1
  have hcts1 : jI g H0 (a + 11) 11 cts1 := hcts1
  have hops1 : jOr g H0 (a + 7) (opnR σ) := hops1
  have hlts1 : jOr g H0 (a + 9) (latR σ) := hlts1
  refine j_get (T := TX2) (N := 9) (k := 0) hx hb hts hinX2 hown hw hOs1 rfl (by decide) (hts (.fieldLink RX2 9 "NightTrains$Store" "settings" "[I") (by decide +kernel)) rfl dX2_wantedLot_1 ?_
  refine lv_iconst (v := (nI (4))) hx hb dX2_wantedLot_4 (by decide) ?_
  refine j_iald hx hb hw hses1 (k := 4) rfl (by omega) (by omega) dX2_wantedLot_5 ?_
  refine j_eq (y := nI (σ.1 4)) (hSs1.rse (k := 4) (by omega)) ?_
  refine lv_iconst (v := (nI (1))) hx hb dX2_wantedLot_6 (by decide) ?_
  refine jn_ne (tgt := 20) hx hb dX2_wantedLot_7 (by decide) (by omega) (by omega) (fun c7 => ?_) (fun c7 => ?_)
  · refine lv_iconst (v := (-1)) hx hb dX2_wantedLot_20 (by decide) ?_
    refine lv_istore_n (lv' := [(1, .int _), (0, .ref _)]) hx hb dX2_wantedLot_21 rfl hl (by decide) rfl (fun ls hl => ?_)
    refine lv_iconst (v := (-1)) hx hb dX2_wantedLot_22 (by decide) ?_
    refine lv_istore_n (lv' := [(2, .int _), (1, .int _), (0, .ref _)]) hx hb dX2_wantedLot_23 rfl hl (by decide) rfl (fun ls hl => ?_)
    refine lv_iconst (v := (nI (0))) hx hb dX2_wantedLot_24 (by decide) ?_
    refine lv_istore_n (lv' := [(3, .int _), (2, .int _), (1, .int _), (0, .ref _)]) hx hb dX2_wantedLot_25 rfl hl (by decide) rfl (fun ls hl => ?_)
    have lp26 : ∀ (n26 : Nat) (k : Nat) (x1 : Int32) (x2 : Int32) (hk : k ≤ 16) (hx1 : x1 = oI (wan (fun q => ocnt 1 q σ.2.2.1) (wtS σ) k)) (hx2 : x2 = oI ((wan (fun q => ocnt 1 q σ.2.2.1) (wtS σ) k).map (wtS σ))) (hmu26 : 16 - k < n26) (locs : List Loc) (hw : jW g z s H0 locs) (ls : Array Slot) (hl : lv_has ls 6 [(0, .ref a), (1, .int x1), (2, .int x2), (3, .int (nI (k)))]), jK p l e 2 47 s m [.ref a] below meth c z H0 (q_X2_wantedLot g H0 a σ) H0 locs (F0 m 26 ls []) := by
      intro n26
      induction n26 with
      | zero => intros; omega
      | succ n26 ih26 =>
        intro k x1 x2 hk hx1 hx2 hmu26 locs hw  ls hl
        refine lv_iload_n hx hb dX2_wantedLot_26 rfl (lv_at hl 3 rfl) ?_
        refine lv_bipush (v := (nI (16))) hx hb dX2_wantedLot_27 (by decide) ?_
        refine jn_ge (tgt := 83) hx hb dX2_wantedLot_29 (by decide) (by omega) (by omega) (fun c29 => ?_) (fun c29 => ?_)
        · obtain rfl : k = 16 := by omega
          rw [want_2 c7] at hx1
          refine lv_iload_n hx hb dX2_wantedLot_83 rfl (lv_at hl 1 rfl) ?_
          refine j_iret hx hb hr hlocks hH hw dX2_wantedLot_84 ?_
          exact ⟨_, rfl, rfl, hx1⟩
        · rcases hwk : wan (fun q => ocnt 1 q σ.2.2.1) (wtS σ) k with _ | b
          · rw [hwk] at hx1 hx2
            have hx1 : x1 = -1 := hx1
            have hx2 : x2 = -1 := hx2
            subst hx1
            subst hx2
            refine lv_aload_n hx hb dX2_wantedLot_32 rfl (lv_at hl 0 rfl) ?_
            refine lv_iconst (v := (nI (1))) hx hb dX2_wantedLot_33 (by decide) ?_
            refine lv_iload_n hx hb dX2_wantedLot_34 rfl (lv_at hl 3 rfl) ?_
            have hS2 : jSo g H0 a σ (opnR σ) := ⟨ses1, pus1, dts1, las1, frs1, tks1, cts1, hOs1, hses1, hpus1, hdts1, hlas1, hfrs1, htks1, hops1, hlts1, hcts1, hSs1⟩
            refine j_Vp (n := 2) (As := [.int (nI (1)), .int (nI (k))]) hx hb hml hown hts hw (j_recv hw hS2.obj rfl) (c_X2_openOf l g z H0 a (1) (nI (k)) σ (opnR σ) (by omega) hS2 (by first | assumption | omega)) gX2_wantedLot_X2_openOf rfl (by decide +kernel) ⟨Nat.le_of_ble_eq_true rfl, Nat.le_of_ble_eq_true rfl⟩ rfl hl.1 (Nat.le_of_ble_eq_true rfl) ⟨Nat.zero_le _, Nat.zero_le _⟩ dX2_wantedLot_35 (fun r3 locs hr3 hw => ?_) rfl
            obtain rfl : r3 = nI (ocnt 1 k σ.2.2.1) := hr3.trans (congrArg nI (cntR_o (by decide) (by omega) (fun x hx => Nat.lt_trans (hs.2.2.2.1 x hx).2.1 (by decide))))
            refine lv_istore (lv' := [(4, .int _), (0, .ref _), (1, .int _), (2, .int _), (3, .int _)]) hx hb dX2_wantedLot_38 hl (by decide) rfl (fun ls hl => ?_)
            have hck := hcn k
            refine lv_aload_n hx hb dX2_wantedLot_40 rfl (lv_at hl 1 rfl) ?_
            obtain ⟨ses4, pus4, dts4, las4, frs4, tks4, cts4, hOs4, hses4, hpus4, hdts4, hlas4, hfrs4, htks4, hops4, hlts4, hcts4, hSs4⟩ := hS2
            have hOs4 : jO g H0 a 2 [.ref (a + 1), .ref (a + 2), .ref (a + 3), .ref (a + 4), .ref (a + 5), .ref (a + 6), .ref (a + 7), .ref (a + 9), .ref (a + 11)] := hOs4
            have hses4 : jI g H0 (a + 1) 5 ses4 := hses4
            have hpus4 : jI g H0 (a + 2) 4 pus4 := hpus4
            have hdts4 : jI g H0 (a + 3) 4 dts4 := hdts4
            have hlas4 : jI g H0 (a + 4) 4 las4 := hlas4
            have hfrs4 : jI g H0 (a + 5) 16 frs4 := hfrs4
            have htks4 : jI g H0 (a + 6) 16 tks4 := htks4
            have hcts4 : jI g H0 (a + 11) 11 cts4 := hcts4
            have hops4 : jOr g H0 (a + 7) (opnR σ) := hops4
            have hlts4 : jOr g H0 (a + 9) (latR σ) := hlts4
            refine j_get (T := TX2) (N := 9) (k := 0) hx hb hts hinX2 hown hw hOs4 rfl (by decide) (hts (.fieldLink RX2 9 "NightTrains$Store" "settings" "[I") (by decide +kernel)) rfl dX2_wantedLot_41 ?_
            refine lv_iconst (v := (nI (4))) hx hb dX2_wantedLot_44 (by decide) ?_
            refine j_iald hx hb hw hses4 (k := 4) rfl (by omega) (by omega) dX2_wantedLot_45 ?_
            refine j_eq (y := nI (σ.1 4)) (hSs4.rse (k := 4) (by omega)) ?_
            refine jz_ne (tgt := 57) hx hb dX2_wantedLot_46 (by decide) (by omega) (fun c46 => ?_) (fun c46 => ?_)
            · refine lv_iload hx hb dX2_wantedLot_57 (lv_at hl 0 rfl) ?_
              refine j_eq (y := nI (wtS σ k)) (by unfold wtS; rw [if_neg c46]) ?_
              refine lv_istore (lv' := [(5, .int _), (4, .int _), (0, .ref _), (1, .int _), (2, .int _), (3, .int _)]) hx hb dX2_wantedLot_59 hl (by decide) rfl (fun ls hl => ?_)
              have hwk2 := hwt k
              have hfk := hfs k
              refine lv_iload hx hb dX2_wantedLot_61 (lv_at hl 1 rfl) ?_
              refine jz_le (tgt := 77) hx hb dX2_wantedLot_63 (by decide) (by omega) (fun c63 => ?_) (fun c63 => ?_)
              · refine lv_iinc (v := nI (k + 1)) (lv' := [(3, .int _), (5, .int _), (4, .int _), (0, .ref _), (1, .int _), (2, .int _)]) hx hb dX2_wantedLot_77 hl (k := 5) rfl (nI_add _ 1) (by decide) rfl (fun ls hl => ?_)
                refine lv_goto (tgt := 26) hx hb dX2_wantedLot_80 (by decide) ?_
                exact ih26  (k + 1) _ _ (by first | assumption | omega) (by simp only [wan, hwk]; first | (rw [if_pos (by omega)]; done) | (rw [if_neg (by omega)]; done) | (rw [if_pos (by omega)]; rfl) | (rw [if_neg (by omega)]; rfl)) (by simp only [wan, hwk]; first | (rw [if_pos (by omega)]; done) | (rw [if_neg (by omega)]; done) | (rw [if_pos (by omega)]; rfl) | (rw [if_neg (by omega)]; rfl)) (by omega) _ hw _ (lv_sub hl [3, 4, 5, 0] rfl)
              · refine lv_iload hx hb dX2_wantedLot_66 (lv_at hl 0 rfl) ?_
                refine lv_iload_n hx hb dX2_wantedLot_68 rfl (lv_at hl 4 rfl) ?_
                refine lv_icmp_le (tgt := 77) hx hb dX2_wantedLot_69 (by decide) (fun c69 => absurd c69 (nle_m1 (by omega))) (fun c69 => ?_)
                refine lv_iload_n hx hb dX2_wantedLot_72 rfl (lv_at hl 5 rfl) ?_
                refine lv_istore_n (lv' := [(1, .int _), (5, .int _), (4, .int _), (0, .ref _), (2, .int _), (3, .int _)]) hx hb dX2_wantedLot_73 rfl hl (by decide) rfl (fun ls hl => ?_)
                refine lv_iload hx hb dX2_wantedLot_74 (lv_at hl 1 rfl) ?_
                refine lv_istore_n (lv' := [(2, .int _), (1, .int _), (5, .int _), (4, .int _), (0, .ref _), (3, .int _)]) hx hb dX2_wantedLot_76 rfl hl (by decide) rfl (fun ls hl => ?_)
                refine lv_iinc (v := nI (k + 1)) (lv' := [(3, .int _), (2, .int _), (1, .int _), (5, .int _), (4, .int _), (0, .ref _)]) hx hb dX2_wantedLot_77 hl (k := 5) rfl (nI_add _ 1) (by decide) rfl (fun ls hl => ?_)
                refine lv_goto (tgt := 26) hx hb dX2_wantedLot_80 (by decide) ?_
                exact ih26  (k + 1) _ _ (by first | assumption | omega) (by simp only [wan, hwk]; first | (rw [if_pos (by omega)]; done) | (rw [if_neg (by omega)]; done) | (rw [if_pos (by omega)]; rfl) | (rw [if_neg (by omega)]; rfl)) (by simp only [wan, hwk]; first | (rw [if_pos (by omega)]; done) | (rw [if_neg (by omega)]; done) | (rw [if_pos (by omega)]; rfl) | (rw [if_neg (by omega)]; rfl)) (by omega) _ hw _ (lv_sub hl [5, 2, 1, 0] rfl)
            · refine lv_aload_n hx hb dX2_wantedLot_49 rfl (lv_at hl 1 rfl) ?_
              refine lv_iload_n hx hb dX2_wantedLot_50 rfl (lv_at hl 4 rfl) ?_
              have hS5 : jSo g H0 a σ (opnR σ) := ⟨ses4, pus4, dts4, las4, frs4, tks4, cts4, hOs4, hses4, hpus4, hdts4, hlas4, hfrs4, htks4, hops4, hlts4, hcts4, hSs4⟩
              refine j_Vp (n := 1) (As := [.int (nI (k))]) hx hb hml hown hts hw (j_recv hw hS5.obj rfl) (c_X2_feesFor l g z H0 a (nI (k)) σ (opnR σ) (by omega) hS5 ) gX2_wantedLot_X2_feesFor rfl (by decide +kernel) ⟨Nat.le_of_ble_eq_true rfl, Nat.le_of_ble_eq_true rfl⟩ rfl hl.1 (Nat.le_of_ble_eq_true rfl) ⟨Nat.zero_le _, Nat.zero_le _⟩ dX2_wantedLot_51 (fun r6 locs hr6 hw => ?_) rfl
              obtain rfl : r6 = nI (fsum k σ.2.2.1) := hr6.trans (sumR_o (by omega) (fun x hx => Nat.lt_trans (hs.2.2.2.1 x hx).2.1 (by decide)))
              refine lv_goto (tgt := 59) hx hb dX2_wantedLot_54 (by decide) ?_
              refine j_eq (y := nI (wtS σ k)) (by unfold wtS; rw [if_pos c46]) ?_
              refine lv_istore (lv' := [(5, .int _), (4, .int _), (0, .ref _), (1, .int _), (2, .int _), (3, .int _)]) hx hb dX2_wantedLot_59 hl (by decide) rfl (fun ls hl => ?_)
              have hwk2 := hwt k
              have hfk := hfs k
              refine lv_iload hx hb dX2_wantedLot_61 (lv_at hl 1 rfl) ?_
              refine jz_le (tgt := 77) hx hb dX2_wantedLot_63 (by decide) (by omega) (fun c63 => ?_) (fun c63 => ?_)
              · refine lv_iinc (v := nI (k + 1)) (lv' := [(3, .int _), (5, .int _), (4, .int _), (0, .ref _), (1, .int _), (2, .int _)]) hx hb dX2_wantedLot_77 hl (k := 5) rfl (nI_add _ 1) (by decide) rfl (fun ls hl => ?_)
                refine lv_goto (tgt := 26) hx hb dX2_wantedLot_80 (by decide) ?_
                exact ih26  (k + 1) _ _ (by first | assumption | omega) (by simp only [wan, hwk]; first | (rw [if_pos (by omega)]; done) | (rw [if_neg (by omega)]; done) | (rw [if_pos (by omega)]; rfl) | (rw [if_neg (by omega)]; rfl)) (by simp only [wan, hwk]; first | (rw [if_pos (by omega)]; done) | (rw [if_neg (by omega)]; done) | (rw [if_pos (by omega)]; rfl) | (rw [if_neg (by omega)]; rfl)) (by omega) _ hw _ (lv_sub hl [3, 4, 5, 0] rfl)
              · refine lv_iload hx hb dX2_wantedLot_66 (lv_at hl 0 rfl) ?_
                refine lv_iload_n hx hb dX2_wantedLot_68 rfl (lv_at hl 4 rfl) ?_
                refine lv_icmp_le (tgt := 77) hx hb dX2_wantedLot_69 (by decide) (fun c69 => absurd c69 (nle_m1 (by omega))) (fun c69 => ?_)
                refine lv_iload_n hx hb dX2_wantedLot_72 rfl (lv_at hl 5 rfl) ?_
                refine lv_istore_n (lv' := [(1, .int _), (5, .int _), (4, .int _), (0, .ref _), (2, .int _), (3, .int _)]) hx hb dX2_wantedLot_73 rfl hl (by decide) rfl (fun ls hl => ?_)
                refine lv_iload hx hb dX2_wantedLot_74 (lv_at hl 1 rfl) ?_
                refine lv_istore_n (lv' := [(2, .int _), (1, .int _), (5, .int _), (4, .int _), (0, .ref _), (3, .int _)]) hx hb dX2_wantedLot_76 rfl hl (by decide) rfl (fun ls hl => ?_)
                refine lv_iinc (v := nI (k + 1)) (lv' := [(3, .int _), (2, .int _), (1, .int _), (5, .int _), (4, .int _), (0, .ref _)]) hx hb dX2_wantedLot_77 hl (k := 5) rfl (nI_add _ 1) (by decide) rfl (fun ls hl => ?_)
                refine lv_goto (tgt := 26) hx hb dX2_wantedLot_80 (by decide) ?_
                exact ih26  (k + 1) _ _ (by first | assumption | omega) (by simp only [wan, hwk]; first | (rw [if_pos (by omega)]; done) | (rw [if_neg (by omega)]; done) | (rw [if_pos (by omega)]; rfl) | (rw [if_neg (by omega)]; rfl)) (by simp only [wan, hwk]; first | (rw [if_pos (by omega)]; done) | (rw [if_neg (by omega)]; done) | (rw [if_pos (by omega)]; rfl) | (rw [if_neg (by omega)]; rfl)) (by omega) _ hw _ (lv_sub hl [5, 2, 1, 0] rfl)
          · rw [hwk] at hx1 hx2
            have hx1 : x1 = nI b := hx1
            have hx2 : x2 = nI (wtS σ b) := hx2
            subst hx1
            subst hx2
            have hbk := (wan_lt hwk).1
            have hwb := hwt b
            refine lv_aload_n hx hb dX2_wantedLot_32 rfl (lv_at hl 0 rfl) ?_
            refine lv_iconst (v := (nI (1))) hx hb dX2_wantedLot_33 (by decide) ?_
            refine lv_iload_n hx hb dX2_wantedLot_34 rfl (lv_at hl 3 rfl) ?_
            have hS7 : jSo g H0 a σ (opnR σ) := ⟨ses1, pus1, dts1, las1, frs1, tks1, cts1, hOs1, hses1, hpus1, hdts1, hlas1, hfrs1, htks1, hops1, hlts1, hcts1, hSs1⟩
            refine j_Vp (n := 2) (As := [.int (nI (1)), .int (nI (k))]) hx hb hml hown hts hw (j_recv hw hS7.obj rfl) (c_X2_openOf l g z H0 a (1) (nI (k)) σ (opnR σ) (by omega) hS7 (by first | assumption | omega)) gX2_wantedLot_X2_openOf rfl (by decide +kernel) ⟨Nat.le_of_ble_eq_true rfl, Nat.le_of_ble_eq_true rfl⟩ rfl hl.1 (Nat.le_of_ble_eq_true rfl) ⟨Nat.zero_le _, Nat.zero_le _⟩ dX2_wantedLot_35 (fun r8 locs hr8 hw => ?_) rfl
            obtain rfl : r8 = nI (ocnt 1 k σ.2.2.1) := hr8.trans (congrArg nI (cntR_o (by decide) (by omega) (fun x hx => Nat.lt_trans (hs.2.2.2.1 x hx).2.1 (by decide))))
            refine lv_istore (lv' := [(4, .int _), (0, .ref _), (1, .int _), (2, .int _), (3, .int _)]) hx hb dX2_wantedLot_38 hl (by decide) rfl (fun ls hl => ?_)
            have hck := hcn k
            refine lv_aload_n hx hb dX2_wantedLot_40 rfl (lv_at hl 1 rfl) ?_
            obtain ⟨ses9, pus9, dts9, las9, frs9, tks9, cts9, hOs9, hses9, hpus9, hdts9, hlas9, hfrs9, htks9, hops9, hlts9, hcts9, hSs9⟩ := hS7
            have hOs9 : jO g H0 a 2 [.ref (a + 1), .ref (a + 2), .ref (a + 3), .ref (a + 4), .ref (a + 5), .ref (a + 6), .ref (a + 7), .ref (a + 9), .ref (a + 11)] := hOs9
            have hses9 : jI g H0 (a + 1) 5 ses9 := hses9
            have hpus9 : jI g H0 (a + 2) 4 pus9 := hpus9
            have hdts9 : jI g H0 (a + 3) 4 dts9 := hdts9
            have hlas9 : jI g H0 (a + 4) 4 las9 := hlas9
            have hfrs9 : jI g H0 (a + 5) 16 frs9 := hfrs9
            have htks9 : jI g H0 (a + 6) 16 tks9 := htks9
            have hcts9 : jI g H0 (a + 11) 11 cts9 := hcts9
            have hops9 : jOr g H0 (a + 7) (opnR σ) := hops9
            have hlts9 : jOr g H0 (a + 9) (latR σ) := hlts9
            refine j_get (T := TX2) (N := 9) (k := 0) hx hb hts hinX2 hown hw hOs9 rfl (by decide) (hts (.fieldLink RX2 9 "NightTrains$Store" "settings" "[I") (by decide +kernel)) rfl dX2_wantedLot_41 ?_
            refine lv_iconst (v := (nI (4))) hx hb dX2_wantedLot_44 (by decide) ?_
            refine j_iald hx hb hw hses9 (k := 4) rfl (by omega) (by omega) dX2_wantedLot_45 ?_
            refine j_eq (y := nI (σ.1 4)) (hSs9.rse (k := 4) (by omega)) ?_
            refine jz_ne (tgt := 57) hx hb dX2_wantedLot_46 (by decide) (by omega) (fun c46 => ?_) (fun c46 => ?_)
            · refine lv_iload hx hb dX2_wantedLot_57 (lv_at hl 0 rfl) ?_
              refine j_eq (y := nI (wtS σ k)) (by unfold wtS; rw [if_neg c46]) ?_
              refine lv_istore (lv' := [(5, .int _), (4, .int _), (0, .ref _), (1, .int _), (2, .int _), (3, .int _)]) hx hb dX2_wantedLot_59 hl (by decide) rfl (fun ls hl => ?_)
              have hwk2 := hwt k
              have hfk := hfs k
              refine lv_iload hx hb dX2_wantedLot_61 (lv_at hl 1 rfl) ?_
              refine jz_le (tgt := 77) hx hb dX2_wantedLot_63 (by decide) (by omega) (fun c63 => ?_) (fun c63 => ?_)
              · refine lv_iinc (v := nI (k + 1)) (lv' := [(3, .int _), (5, .int _), (4, .int _), (0, .ref _), (1, .int _), (2, .int _)]) hx hb dX2_wantedLot_77 hl (k := 5) rfl (nI_add _ 1) (by decide) rfl (fun ls hl => ?_)
                refine lv_goto (tgt := 26) hx hb dX2_wantedLot_80 (by decide) ?_
                exact ih26  (k + 1) _ _ (by first | assumption | omega) (by simp only [wan, hwk]; first | (rw [if_pos (by omega)]; done) | (rw [if_neg (by omega)]; done) | (rw [if_pos (by omega)]; rfl) | (rw [if_neg (by omega)]; rfl)) (by simp only [wan, hwk]; first | (rw [if_pos (by omega)]; done) | (rw [if_neg (by omega)]; done) | (rw [if_pos (by omega)]; rfl) | (rw [if_neg (by omega)]; rfl)) (by omega) _ hw _ (lv_sub hl [3, 4, 5, 0] rfl)
              · refine lv_iload hx hb dX2_wantedLot_66 (lv_at hl 0 rfl) ?_
                refine lv_iload_n hx hb dX2_wantedLot_68 rfl (lv_at hl 4 rfl) ?_
                refine jn_le (tgt := 77) hx hb dX2_wantedLot_69 (by decide) (by omega) (by omega) (fun c69 => ?_) (fun c69 => ?_)
                · refine lv_iinc (v := nI (k + 1)) (lv' := [(3, .int _), (5, .int _), (4, .int _), (0, .ref _), (1, .int _), (2, .int _)]) hx hb dX2_wantedLot_77 hl (k := 5) rfl (nI_add _ 1) (by decide) rfl (fun ls hl => ?_)
                  refine lv_goto (tgt := 26) hx hb dX2_wantedLot_80 (by decide) ?_
                  exact ih26  (k + 1) _ _ (by first | assumption | omega) (by simp only [wan, hwk]; first | (rw [if_pos (by omega)]; done) | (rw [if_neg (by omega)]; done) | (rw [if_pos (by omega)]; rfl) | (rw [if_neg (by omega)]; rfl)) (by simp only [wan, hwk]; first | (rw [if_pos (by omega)]; done) | (rw [if_neg (by omega)]; done) | (rw [if_pos (by omega)]; rfl) | (rw [if_neg (by omega)]; rfl)) (by omega) _ hw _ (lv_sub hl [3, 4, 5, 0] rfl)
                · refine lv_iload_n hx hb dX2_wantedLot_72 rfl (lv_at hl 5 rfl) ?_
                  refine lv_istore_n (lv' := [(1, .int _), (5, .int _), (4, .int _), (0, .ref _), (2, .int _), (3, .int _)]) hx hb dX2_wantedLot_73 rfl hl (by decide) rfl (fun ls hl => ?_)
                  refine lv_iload hx hb dX2_wantedLot_74 (lv_at hl 1 rfl) ?_
                  refine lv_istore_n (lv' := [(2, .int _), (1, .int _), (5, .int _), (4, .int _), (0, .ref _), (3, .int _)]) hx hb dX2_wantedLot_76 rfl hl (by decide) rfl (fun ls hl => ?_)
                  refine lv_iinc (v := nI (k + 1)) (lv' := [(3, .int _), (2, .int _), (1, .int _), (5, .int _), (4, .int _), (0, .ref _)]) hx hb dX2_wantedLot_77 hl (k := 5) rfl (nI_add _ 1) (by decide) rfl (fun ls hl => ?_)
                  refine lv_goto (tgt := 26) hx hb dX2_wantedLot_80 (by decide) ?_
                  exact ih26  (k + 1) _ _ (by first | assumption | omega) (by simp only [wan, hwk]; first | (rw [if_pos (by omega)]; done) | (rw [if_neg (by omega)]; done) | (rw [if_pos (by omega)]; rfl) | (rw [if_neg (by omega)]; rfl)) (by simp only [wan, hwk]; first | (rw [if_pos (by omega)]; done) | (rw [if_neg (by omega)]; done) | (rw [if_pos (by omega)]; rfl) | (rw [if_neg (by omega)]; rfl)) (by omega) _ hw _ (lv_sub hl [5, 2, 1, 0] rfl)
            · refine lv_aload_n hx hb dX2_wantedLot_49 rfl (lv_at hl 1 rfl) ?_
              refine lv_iload_n hx hb dX2_wantedLot_50 rfl (lv_at hl 4 rfl) ?_
              have hS10 : jSo g H0 a σ (opnR σ) := ⟨ses9, pus9, dts9, las9, frs9, tks9, cts9, hOs9, hses9, hpus9, hdts9, hlas9, hfrs9, htks9, hops9, hlts9, hcts9, hSs9⟩
              refine j_Vp (n := 1) (As := [.int (nI (k))]) hx hb hml hown hts hw (j_recv hw hS10.obj rfl) (c_X2_feesFor l g z H0 a (nI (k)) σ (opnR σ) (by omega) hS10 ) gX2_wantedLot_X2_feesFor rfl (by decide +kernel) ⟨Nat.le_of_ble_eq_true rfl, Nat.le_of_ble_eq_true rfl⟩ rfl hl.1 (Nat.le_of_ble_eq_true rfl) ⟨Nat.zero_le _, Nat.zero_le _⟩ dX2_wantedLot_51 (fun r11 locs hr11 hw => ?_) rfl
              obtain rfl : r11 = nI (fsum k σ.2.2.1) := hr11.trans (sumR_o (by omega) (fun x hx => Nat.lt_trans (hs.2.2.2.1 x hx).2.1 (by decide)))
              refine lv_goto (tgt := 59) hx hb dX2_wantedLot_54 (by decide) ?_
              refine j_eq (y := nI (wtS σ k)) (by unfold wtS; rw [if_pos c46]) ?_
              refine lv_istore (lv' := [(5, .int _), (4, .int _), (0, .ref _), (1, .int _), (2, .int _), (3, .int _)]) hx hb dX2_wantedLot_59 hl (by decide) rfl (fun ls hl => ?_)
              have hwk2 := hwt k
              have hfk := hfs k
              refine lv_iload hx hb dX2_wantedLot_61 (lv_at hl 1 rfl) ?_
              refine jz_le (tgt := 77) hx hb dX2_wantedLot_63 (by decide) (by omega) (fun c63 => ?_) (fun c63 => ?_)
              · refine lv_iinc (v := nI (k + 1)) (lv' := [(3, .int _), (5, .int _), (4, .int _), (0, .ref _), (1, .int _), (2, .int _)]) hx hb dX2_wantedLot_77 hl (k := 5) rfl (nI_add _ 1) (by decide) rfl (fun ls hl => ?_)
                refine lv_goto (tgt := 26) hx hb dX2_wantedLot_80 (by decide) ?_
                exact ih26  (k + 1) _ _ (by first | assumption | omega) (by simp only [wan, hwk]; first | (rw [if_pos (by omega)]; done) | (rw [if_neg (by omega)]; done) | (rw [if_pos (by omega)]; rfl) | (rw [if_neg (by omega)]; rfl)) (by simp only [wan, hwk]; first | (rw [if_pos (by omega)]; done) | (rw [if_neg (by omega)]; done) | (rw [if_pos (by omega)]; rfl) | (rw [if_neg (by omega)]; rfl)) (by omega) _ hw _ (lv_sub hl [3, 4, 5, 0] rfl)
              · refine lv_iload hx hb dX2_wantedLot_66 (lv_at hl 0 rfl) ?_
                refine lv_iload_n hx hb dX2_wantedLot_68 rfl (lv_at hl 4 rfl) ?_
                refine jn_le (tgt := 77) hx hb dX2_wantedLot_69 (by decide) (by omega) (by omega) (fun c69 => ?_) (fun c69 => ?_)
                · refine lv_iinc (v := nI (k + 1)) (lv' := [(3, .int _), (5, .int _), (4, .int _), (0, .ref _), (1, .int _), (2, .int _)]) hx hb dX2_wantedLot_77 hl (k := 5) rfl (nI_add _ 1) (by decide) rfl (fun ls hl => ?_)
                  refine lv_goto (tgt := 26) hx hb dX2_wantedLot_80 (by decide) ?_
                  exact ih26  (k + 1) _ _ (by first | assumption | omega) (by simp only [wan, hwk]; first | (rw [if_pos (by omega)]; done) | (rw [if_neg (by omega)]; done) | (rw [if_pos (by omega)]; rfl) | (rw [if_neg (by omega)]; rfl)) (by simp only [wan, hwk]; first | (rw [if_pos (by omega)]; done) | (rw [if_neg (by omega)]; done) | (rw [if_pos (by omega)]; rfl) | (rw [if_neg (by omega)]; rfl)) (by omega) _ hw _ (lv_sub hl [3, 4, 5, 0] rfl)
                · refine lv_iload_n hx hb dX2_wantedLot_72 rfl (lv_at hl 5 rfl) ?_
                  refine lv_istore_n (lv' := [(1, .int _), (5, .int _), (4, .int _), (0, .ref _), (2, .int _), (3, .int _)]) hx hb dX2_wantedLot_73 rfl hl (by decide) rfl (fun ls hl => ?_)
                  refine lv_iload hx hb dX2_wantedLot_74 (lv_at hl 1 rfl) ?_
                  refine lv_istore_n (lv' := [(2, .int _), (1, .int _), (5, .int _), (4, .int _), (0, .ref _), (3, .int _)]) hx hb dX2_wantedLot_76 rfl hl (by decide) rfl (fun ls hl => ?_)
                  refine lv_iinc (v := nI (k + 1)) (lv' := [(3, .int _), (2, .int _), (1, .int _), (5, .int _), (4, .int _), (0, .ref _)]) hx hb dX2_wantedLot_77 hl (k := 5) rfl (nI_add _ 1) (by decide) rfl (fun ls hl => ?_)
                  refine lv_goto (tgt := 26) hx hb dX2_wantedLot_80 (by decide) ?_
                  exact ih26  (k + 1) _ _ (by first | assumption | omega) (by simp only [wan, hwk]; first | (rw [if_pos (by omega)]; done) | (rw [if_neg (by omega)]; done) | (rw [if_pos (by omega)]; rfl) | (rw [if_neg (by omega)]; rfl)) (by simp only [wan, hwk]; first | (rw [if_pos (by omega)]; done) | (rw [if_neg (by omega)]; done) | (rw [if_pos (by omega)]; rfl) | (rw [if_neg (by omega)]; rfl)) (by omega) _ hw _ (lv_sub hl [5, 2, 1, 0] rfl)
    exact lp26 (16 - (0) + 1) (0) _ _ (by first | assumption | omega) rfl rfl (by omega) _ hw _ (lv_sub hl [3, 2, 1, 0] rfl)
  · refine lv_aload_n hx hb dX2_wantedLot_10 rfl (lv_at hl 0 rfl) ?_
    refine j_get (T := TX2) (N := 9) (k := 6) hx hb hts hinX2 hown hw hOs1 rfl (by decide) (hts (.fieldLink RX2 33 "NightTrains$Store" "open" "LNightTrains$Orders;") (by decide +kernel)) rfl dX2_wantedLot_11 ?_
    refine lv_iconst (v := (nI (0))) hx hb dX2_wantedLot_14 (by decide) ?_
    refine lv_iconst (v := (nI (1))) hx hb dX2_wantedLot_15 (by decide) ?_
    refine j_Vp (n := 2) (As := [.int (nI (0)), .int (nI (1))]) hx hb hml hown hts hw (j_recv hw hops1.1 rfl) (c_X1_get l g z H0 (a + 7) (nI (0)) (nI (1)) (opnR σ) (by omega) hops1 ) gX2_wantedLot_X1_get rfl (by decide +kernel) ⟨Nat.le_of_ble_eq_true rfl, Nat.le_of_ble_eq_true rfl⟩ rfl hl.1 (Nat.le_of_ble_eq_true rfl) ⟨Nat.zero_le _, Nat.zero_le _⟩ dX2_wantedLot_16 (fun r12 locs hr12 hw => ?_) rfl
    obtain rfl : r12 = (gtR (opnR σ) (nI (0)) (nI (1))) := hr12
    refine j_iret hx hb hr hlocks hH hw dX2_wantedLot_19 ?_
    exact ⟨_, rfl, rfl, want_1 hs c7⟩
