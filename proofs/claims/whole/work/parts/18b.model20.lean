abbrev q_X2_sendBackLongest (g : jG) (H0 : Heap) (a : Nat) (σ : Sg) (Rs : List OR) : Option Value → Heap → Prop := jV (fun H1 => jSo g H1 a (sback σ) Rs ∧ jF a 12 H0 H1)
set_option maxHeartbeats 4000000 in
set_option maxRecDepth 100000 in
theorem c_X2_sendBackLongest (l : Launch) (g : jG) (z : Nat) (H0 : Heap) (a : Nat) (σ : Sg) (Rs : List OR) (hz : z ≤ a) (hS : jSo g H0 a σ Rs) (hs : okS σ) (hf0 : 0 < fcnt σ.1 16) : jM l g z yX2_sendBackLongest wsX2_sendBackLongest 0 0 [.ref a] H0 (q_X2_sendBackLongest g H0 a σ Rs) := by
  refine j_of (cc := cX2_sendBackLongest) (n := 3) (ret := none) (by decide) rfl (Nat.le_of_ble_eq_true rfl) ?_
  intro p e s m below meth c hx hb hr hml hown hts hlocks hname hH hw ls hl
  have hl : lv_has ls 3 [(0, .ref a)] := hl
  have hinX2 : ∀ w ∈ u_ws RX2 TX2 9, w ∈ wsX2_sendBackLongest := by decide +kernel
  have hf : jF a 12 H0 H0 := jF.rf
  have hl21 := hS.len
  refine lv_iconst (v := (nI (0))) hx hb dX2_sendBackLongest_0 (by decide) ?_
  refine lv_istore_n (lv' := [(1, .int _), (0, .ref _)]) hx hb dX2_sendBackLongest_1 rfl hl (by decide) rfl (fun ls hl => ?_)
  refine lv_iconst (v := (nI (1))) hx hb dX2_sendBackLongest_2 (by decide) ?_
  refine lv_istore_n (lv' := [(2, .int _), (1, .int _), (0, .ref _)]) hx hb dX2_sendBackLongest_3 rfl hl (by decide) rfl (fun ls hl => ?_)
  have lp4 : ∀ (n4 : Nat) (k : Nat) (b : Nat) (hk : k ≤ 16) (hG : lgc σ.1 k b) (hmu4 : 16 - k < n4) (locs : List Loc) (hw : jW g z s H0 locs) (ls : Array Slot) (hl : lv_has ls 3 [(0, .ref a), (1, .int (nI (b))), (2, .int (nI (k)))]), jK p l e 0 0 s m [.ref a] below meth c z H0 (q_X2_sendBackLongest g H0 a σ Rs) H0 locs (F0 m 4 ls []) := by
    intro n4
    induction n4 with
    | zero => intros; omega
    | succ n4 ih4 =>
      intro k b hk hG hmu4 locs hw  ls hl
      refine lv_iload_n hx hb dX2_sendBackLongest_4 rfl (lv_at hl 2 rfl) ?_
      refine lv_bipush (v := (nI (16))) hx hb dX2_sendBackLongest_5 (by decide) ?_
      refine jn_ge (tgt := 33) hx hb dX2_sendBackLongest_7 (by decide) (by omega) (by omega) (fun c7 => ?_) (fun c7 => ?_)
      · obtain rfl : k = 16 := by omega
        have hb16 := hG.1
        refine lv_aload_n hx hb dX2_sendBackLongest_33 rfl (lv_at hl 0 rfl) ?_
        obtain ⟨ses1, pus1, dts1, las1, frs1, tks1, cts1, hOs1, hses1, hpus1, hdts1, hlas1, hfrs1, htks1, hops1, hlts1, hcts1, hSs1⟩ := hS
        have hOs1 : jO g H0 a 2 [.ref (a + 1), .ref (a + 2), .ref (a + 3), .ref (a + 4), .ref (a + 5), .ref (a + 6), .ref (a + 7), .ref (a + 9), .ref (a + 11)] := hOs1
        have hses1 : jI g H0 (a + 1) 5 ses1 := hses1
        have hpus1 : jI g H0 (a + 2) 4 pus1 := hpus1
        have hdts1 : jI g H0 (a + 3) 4 dts1 := hdts1
        have hlas1 : jI g H0 (a + 4) 4 las1 := hlas1
        have hfrs1 : jI g H0 (a + 5) 16 frs1 := hfrs1
        have htks1 : jI g H0 (a + 6) 16 tks1 := htks1
        have hcts1 : jI g H0 (a + 11) 11 cts1 := hcts1
        have hops1 : jOr g H0 (a + 7) Rs := hops1
        have hlts1 : jOr g H0 (a + 9) (latR σ) := hlts1
        refine j_get (T := TX2) (N := 9) (k := 4) hx hb hts hinX2 hown hw hOs1 rfl (by decide) (hts (.fieldLink RX2 24 "NightTrains$Store" "front" "[I") (by decide +kernel)) rfl dX2_sendBackLongest_34 ?_
        refine lv_iload_n hx hb dX2_sendBackLongest_37 rfl (lv_at hl 1 rfl) ?_
        refine lv_iconst (v := (-1)) hx hb dX2_sendBackLongest_38 (by decide) ?_
        refine j_iast hx hb hw hfrs1 (by omega) (k := b) rfl (by omega) (by omega) dX2_sendBackLongest_39 (fun H locs hw hfrs1 oq hsz => ?_)
        obtain ⟨f2, ef2⟩ : ∃ y9, y9 = upd frs1 (b) (-1) := ⟨_, rfl⟩
        rw [← ef2] at hfrs1
        have hOs1 := hOs1.kept (oq _ (by omega))
        have hses1 := hses1.kept (oq _ (by omega))
        have hpus1 := hpus1.kept (oq _ (by omega))
        have hdts1 := hdts1.kept (oq _ (by omega))
        have hlas1 := hlas1.kept (oq _ (by omega))
        have htks1 := htks1.kept (oq _ (by omega))
        have hcts1 := hcts1.kept (oq _ (by omega))
        have hops1 := hops1.kept (fun q _ _ => oq q (by omega))
        have hlts1 := hlts1.kept (fun q _ _ => oq q (by omega))
        have hf := hf.put oq hsz (by omega)
        have hSs1 := hSs1.wfr (k := b) (v := 0) (x := -1) (by omega) (by decide)
        rw [← ef2] at hSs1
        refine j_vret hx hb hr hlocks hH hw dX2_sendBackLongest_40 ?_
        have hS3 : jSo g H a (upn σ (14 + b) 0) Rs := ⟨ses1, pus1, dts1, las1, f2, tks1, cts1, hOs1, hses1, hpus1, hdts1, hlas1, hfrs1, htks1, hops1, hlts1, hcts1, hSs1⟩
        have h9 := hS3
        rw [lgc_end hG hf0] at h9
        exact ⟨rfl, h9, hf⟩
      · have hb16 := hG.1
        have hfk := hs.2.1 k (by omega)
        have hfb := hs.2.1 b (by omega)
        refine lv_aload_n hx hb dX2_sendBackLongest_10 rfl (lv_at hl 0 rfl) ?_
        obtain ⟨ses4, pus4, dts4, las4, frs4, tks4, cts4, hOs4, hses4, hpus4, hdts4, hlas4, hfrs4, htks4, hops4, hlts4, hcts4, hSs4⟩ := hS
        have hOs4 : jO g H0 a 2 [.ref (a + 1), .ref (a + 2), .ref (a + 3), .ref (a + 4), .ref (a + 5), .ref (a + 6), .ref (a + 7), .ref (a + 9), .ref (a + 11)] := hOs4
        have hses4 : jI g H0 (a + 1) 5 ses4 := hses4
        have hpus4 : jI g H0 (a + 2) 4 pus4 := hpus4
        have hdts4 : jI g H0 (a + 3) 4 dts4 := hdts4
        have hlas4 : jI g H0 (a + 4) 4 las4 := hlas4
        have hfrs4 : jI g H0 (a + 5) 16 frs4 := hfrs4
        have htks4 : jI g H0 (a + 6) 16 tks4 := htks4
        have hcts4 : jI g H0 (a + 11) 11 cts4 := hcts4
        have hops4 : jOr g H0 (a + 7) Rs := hops4
        have hlts4 : jOr g H0 (a + 9) (latR σ) := hlts4
        refine j_get (T := TX2) (N := 9) (k := 4) hx hb hts hinX2 hown hw hOs4 rfl (by decide) (hts (.fieldLink RX2 24 "NightTrains$Store" "front" "[I") (by decide +kernel)) rfl dX2_sendBackLongest_11 ?_
        refine lv_iload_n hx hb dX2_sendBackLongest_14 rfl (lv_at hl 2 rfl) ?_
        refine j_iald hx hb hw hfrs4 (k := k) rfl (by omega) (by omega) dX2_sendBackLongest_15 ?_
        refine j_eq (y := (nI (σ.1 (14 + k)) - nI 1)) (hSs4.rfr (k := k) (by omega)) ?_
        refine lv_aload_n hx hb dX2_sendBackLongest_16 rfl (lv_at hl 0 rfl) ?_
        refine j_get (T := TX2) (N := 9) (k := 4) hx hb hts hinX2 hown hw hOs4 rfl (by decide) (hts (.fieldLink RX2 24 "NightTrains$Store" "front" "[I") (by decide +kernel)) rfl dX2_sendBackLongest_17 ?_
        refine lv_iload_n hx hb dX2_sendBackLongest_20 rfl (lv_at hl 1 rfl) ?_
        refine j_iald hx hb hw hfrs4 (k := b) rfl (by omega) (by omega) dX2_sendBackLongest_21 ?_
        refine j_eq (y := (nI (σ.1 (14 + b)) - nI 1)) (hSs4.rfr (k := b) (by omega)) ?_
        refine lv_icmp_le (tgt := 27) hx hb dX2_sendBackLongest_22 (by decide) (fun c22 => ?_) (fun c22 => ?_)
        · have hG := lgc_stay hG (Nat.not_lt.mpr ((fr_le (by omega) (by omega)).mp c22))
          refine lv_iinc (v := nI (k + 1)) (lv' := [(2, .int _), (0, .ref _), (1, .int _)]) hx hb dX2_sendBackLongest_27 hl (k := 2) rfl (nI_add _ 1) (by decide) rfl (fun ls hl => ?_)
          refine lv_goto (tgt := 4) hx hb dX2_sendBackLongest_30 (by decide) ?_
          exact ih4  (k + 1) b (by first | assumption | omega) hG (by omega) _ hw _ (lv_sub hl [1, 2, 0] rfl)
        · refine lv_iload_n hx hb dX2_sendBackLongest_25 rfl (lv_at hl 2 rfl) ?_
          refine lv_istore_n (lv' := [(1, .int _), (0, .ref _), (2, .int _)]) hx hb dX2_sendBackLongest_26 rfl hl (by decide) rfl (fun ls hl => ?_)
          have hG := lgc_go hG (by omega) (Nat.not_le.mp (fun q => c22 ((fr_le (by omega) (by omega)).mpr q)))
          refine lv_iinc (v := nI (k + 1)) (lv' := [(2, .int _), (1, .int _), (0, .ref _)]) hx hb dX2_sendBackLongest_27 hl (k := 2) rfl (nI_add _ 1) (by decide) rfl (fun ls hl => ?_)
          refine lv_goto (tgt := 4) hx hb dX2_sendBackLongest_30 (by decide) ?_
          exact ih4  (k + 1) k (by first | assumption | omega) hG (by omega) _ hw _ (lv_sub hl [2, 1, 0] rfl)
  exact lp4 (16 - 1 + 1) 1 (0) (by first | assumption | omega) lgc_1 (by omega) _ hw _ (lv_sub hl [2, 1, 0] rfl)

abbrev q_X2_bring (g : jG) (H0 : Heap) (a : Nat) (lt : Nat) (σ : Sg) : Option Value → Heap → Prop := jV (fun H1 => jSo g H1 a (bringS σ lt) (opnR (bringS σ lt)) ∧ jF a 12 H0 H1)
set_option maxHeartbeats 4000000 in
set_option maxRecDepth 100000 in
theorem c_X2_bring (l : Launch) (g : jG) (z : Nat) (H0 : Heap) (a : Nat) (lt : Nat) (σ : Sg) (hz : z ≤ a) (hS : jSo g H0 a σ (opnR σ)) (hs : okS σ) (hlt : lt < 16) : jM l g z yX2_bring wsX2_bring 4 107 [.ref a, .int (nI (lt))] H0 (q_X2_bring g H0 a lt σ) := by
  refine j_of (cc := cX2_bring) (n := 3) (ret := none) (by decide) rfl (Nat.le_of_ble_eq_true rfl) ?_
  intro p e s m below meth c hx hb hr hml hown hts hlocks hname hH hw ls hl
  have hl : lv_has ls 3 [(0, .ref a), (1, .int (nI (lt)))] := hl
  have hinX2 : ∀ w ∈ u_ws RX2 TX2 9, w ∈ wsX2_bring := by decide +kernel
  have hf : jF a 12 H0 H0 := jF.rf
  have hl21 := hS.len
  have hln := opnR_len (σ := σ)
  rw [hln] at hl21
  have hs0 := hs
  refine lv_iconst (v := (nI (0))) hx hb dX2_bring_0 (by decide) ?_
  refine lv_istore_n (lv' := [(2, .int _), (0, .ref _), (1, .int _)]) hx hb dX2_bring_1 rfl hl (by decide) rfl (fun ls hl => ?_)
  have lp2 : ∀ (n2 : Nat) (t : Nat) (k : Nat) (σk : Sg) (htk : t + k = 16) (hG : clr k σk = clr 16 σ) (hs : okS σk) (hmu2 : k < n2) (H : Heap) (locs : List Loc) (hw : jW g z s H locs) (hf : jF a 12 H0 H) (hS : jSo g H a σk (opnR σ)) (ls : Array Slot) (hl : lv_has ls 3 [(0, .ref a), (1, .int (nI (lt))), (2, .int (nI (t)))]), jK p l e 4 107 s m [.ref a, .int (nI (lt))] below meth c z H0 (q_X2_bring g H0 a lt σ) H locs (F0 m 2 ls []) := by
    intro n2
    induction n2 with
    | zero => intros; omega
    | succ n2 ih2 =>
      intro t k σk htk hG hs hmu2 H locs hw hf hS ls hl
      have lp68 : ∀ (n68 : Nat) (j : Nat) (hj : j ≤ σ.2.2.1.length) (hmu68 : σ.2.2.1.length - j < n68) (H : Heap) (locs : List Loc) (hw : jW g z s H locs) (hf : jF a 12 H0 H) (hS : jSo g H a (dl lt (σ.2.2.1.take j) (bring1 σ lt)) (midF (Fb lt) σ.2.2.1 j)) (ls : Array Slot) (hl : lv_has ls 3 [(0, .ref a), (1, .int (nI (lt))), (2, .int (nI (j)))]), jK p l e 4 107 s m [.ref a, .int (nI (lt))] below meth c z H0 (q_X2_bring g H0 a lt σ) H locs (F0 m 68 ls []) := by
        intro n68
        induction n68 with
        | zero => intros; omega
        | succ n68 ih68 =>
          intro j hj hmu68 H locs hw hf hS ls hl
          have hm9 := midF_len (F := Fb lt) (L := σ.2.2.1) (j := j)
          have hk21 := hs0.2.2.1
          refine lv_iload_n hx hb dX2_bring_68 rfl (lv_at hl 2 rfl) ?_
          refine lv_aload_n hx hb dX2_bring_69 rfl (lv_at hl 0 rfl) ?_
          obtain ⟨ses1, pus1, dts1, las1, frs1, tks1, cts1, hOs1, hses1, hpus1, hdts1, hlas1, hfrs1, htks1, hops1, hlts1, hcts1, hSs1⟩ := hS
          have hOs1 : jO g H a 2 [.ref (a + 1), .ref (a + 2), .ref (a + 3), .ref (a + 4), .ref (a + 5), .ref (a + 6), .ref (a + 7), .ref (a + 9), .ref (a + 11)] := hOs1
          have hses1 : jI g H (a + 1) 5 ses1 := hses1
          have hpus1 : jI g H (a + 2) 4 pus1 := hpus1
          have hdts1 : jI g H (a + 3) 4 dts1 := hdts1
          have hlas1 : jI g H (a + 4) 4 las1 := hlas1
          have hfrs1 : jI g H (a + 5) 16 frs1 := hfrs1
          have htks1 : jI g H (a + 6) 16 tks1 := htks1
          have hcts1 : jI g H (a + 11) 11 cts1 := hcts1
          have hops1 : jOr g H (a + 7) (midF (Fb lt) σ.2.2.1 j) := hops1
          have hlts1 : jOr g H (a + 9) (latR (dl lt (σ.2.2.1.take j) (bring1 σ lt))) := hlts1
          refine j_get (T := TX2) (N := 9) (k := 6) hx hb hts hinX2 hown hw hOs1 rfl (by decide) (hts (.fieldLink RX2 33 "NightTrains$Store" "open" "LNightTrains$Orders;") (by decide +kernel)) rfl dX2_bring_70 ?_
          refine j_Vp (n := 0) (As := []) hx hb hml hown hts hw (j_recv hw hops1.1 rfl) (c_X1_size l g z H (a + 7) (midF (Fb lt) σ.2.2.1 j) (by omega) hops1 ) gX2_bring_X1_size rfl (by decide +kernel) ⟨Nat.le_of_ble_eq_true rfl, Nat.le_of_ble_eq_true rfl⟩ rfl hl.1 (Nat.le_of_ble_eq_true rfl) ⟨Nat.zero_le _, Nat.zero_le _⟩ dX2_bring_73 (fun r2 locs hr2 hw => ?_) rfl
          obtain rfl : r2 = (nI ((midF (Fb lt) σ.2.2.1 j).length)) := hr2
          refine jn_ge (tgt := 147) hx hb dX2_bring_76 (by decide) (by omega) (by omega) (fun c76 => ?_) (fun c76 => ?_)
          · have hS3 : jSo g H a (dl lt (σ.2.2.1.take j) (bring1 σ lt)) (midF (Fb lt) σ.2.2.1 j) := ⟨ses1, pus1, dts1, las1, frs1, tks1, cts1, hOs1, hses1, hpus1, hdts1, hlas1, hfrs1, htks1, hops1, hlts1, hcts1, hSs1⟩
            obtain rfl : j = σ.2.2.1.length := by omega
            rw [List.take_length] at hS3
            refine lv_aload_n hx hb dX2_bring_147 rfl (lv_at hl 0 rfl) ?_
            obtain ⟨ses4, pus4, dts4, las4, frs4, tks4, cts4, hOs4, hses4, hpus4, hdts4, hlas4, hfrs4, htks4, hops4, hlts4, hcts4, hSs4⟩ := hS3
            have hOs4 : jO g H a 2 [.ref (a + 1), .ref (a + 2), .ref (a + 3), .ref (a + 4), .ref (a + 5), .ref (a + 6), .ref (a + 7), .ref (a + 9), .ref (a + 11)] := hOs4
            have hses4 : jI g H (a + 1) 5 ses4 := hses4
            have hpus4 : jI g H (a + 2) 4 pus4 := hpus4
            have hdts4 : jI g H (a + 3) 4 dts4 := hdts4
            have hlas4 : jI g H (a + 4) 4 las4 := hlas4
            have hfrs4 : jI g H (a + 5) 16 frs4 := hfrs4
            have htks4 : jI g H (a + 6) 16 tks4 := htks4
            have hcts4 : jI g H (a + 11) 11 cts4 := hcts4
            have hops4 : jOr g H (a + 7) (midF (Fb lt) σ.2.2.1 σ.2.2.1.length) := hops4
            have hlts4 : jOr g H (a + 9) (latR (dl lt σ.2.2.1 (bring1 σ lt))) := hlts4
            refine j_get (T := TX2) (N := 9) (k := 6) hx hb hts hinX2 hown hw hOs4 rfl (by decide) (hts (.fieldLink RX2 33 "NightTrains$Store" "open" "LNightTrains$Orders;") (by decide +kernel)) rfl dX2_bring_148 ?_
            refine j_Vv (n := 0) (As := []) hx hb hml hown hts hw (j_recv hw hops4.1 rfl) (c_X1_closeGaps l g z H (a + 7) (midF (Fb lt) σ.2.2.1 σ.2.2.1.length) (by omega) hops4 ) gX2_bring_X1_closeGaps rfl (by decide +kernel) ⟨Nat.le_of_ble_eq_true rfl, Nat.le_of_ble_eq_true rfl⟩ rfl hl.1 (Nat.le_of_ble_eq_true rfl) ⟨Nat.zero_le _, Nat.zero_le _⟩ dX2_bring_151 (fun H locs hr5 hw hsz => ?_) rfl
            obtain ⟨hops4, hf2⟩ := hr5
            have hOs4 := hOs4.kept (hf2.2 _ (by omega))
            have hses4 := hses4.kept (hf2.2 _ (by omega))
            have hpus4 := hpus4.kept (hf2.2 _ (by omega))
            have hdts4 := hdts4.kept (hf2.2 _ (by omega))
            have hlas4 := hlas4.kept (hf2.2 _ (by omega))
            have hfrs4 := hfrs4.kept (hf2.2 _ (by omega))
            have htks4 := htks4.kept (hf2.2 _ (by omega))
            have hcts4 := hcts4.kept (hf2.2 _ (by omega))
            have hlts4 := hlts4.kept (fun q _ _ => hf2.2 q (by omega))
            have hf := hf.step hf2 (by omega)
            rw [midF_n, kpt_b (fun x hx => Nat.lt_trans (hs0.2.2.2.1 x hx).1 (by decide))] at hops4
            refine j_vret hx hb hr hlocks hH hw dX2_bring_154 ?_
            have hS6 : jSo g H a (bringS σ lt) (opnR (bringS σ lt)) := ⟨ses4, pus4, dts4, las4, frs4, tks4, cts4, hOs4, hses4, hpus4, hdts4, hlas4, hfrs4, htks4, hops4, hlts4, hcts4, hSs4⟩
            exact ⟨rfl, hS6, hf⟩
          · obtain ⟨o, ho⟩ := getO (L := σ.2.2.1) (k := j) (by omega)
            have hro := midF_get (F := Fb lt) ho
            obtain ⟨ho0, ho1, ho2, ho3, ho4, ho5⟩ := hs0.2.2.2.1 o (memO ho)
            refine lv_aload_n hx hb dX2_bring_79 rfl (lv_at hl 0 rfl) ?_
            refine j_get (T := TX2) (N := 9) (k := 6) hx hb hts hinX2 hown hw hOs1 rfl (by decide) (hts (.fieldLink RX2 33 "NightTrains$Store" "open" "LNightTrains$Orders;") (by decide +kernel)) rfl dX2_bring_80 ?_
            refine lv_iload_n hx hb dX2_bring_83 rfl (lv_at hl 2 rfl) ?_
            refine lv_iconst (v := (nI (1))) hx hb dX2_bring_84 (by decide) ?_
            refine j_Vp (n := 2) (As := [.int (nI (j)), .int (nI (1))]) hx hb hml hown hts hw (j_recv hw hops1.1 rfl) (c_X1_get l g z H (a + 7) (nI (j)) (nI (1)) (midF (Fb lt) σ.2.2.1 j) (by omega) hops1 ) gX2_bring_X1_get rfl (by decide +kernel) ⟨Nat.le_of_ble_eq_true rfl, Nat.le_of_ble_eq_true rfl⟩ rfl hl.1 (Nat.le_of_ble_eq_true rfl) ⟨Nat.zero_le _, Nat.zero_le _⟩ dX2_bring_85 (fun r7 locs hr7 hw => ?_) rfl
            obtain rfl : r7 = nI (o 1) := hr7.trans (gtR_o hro (by decide) (by rw [midF_len]; omega))
            refine lv_iload_n hx hb dX2_bring_88 rfl (lv_at hl 1 rfl) ?_
            refine jn_ne (tgt := 141) hx hb dX2_bring_89 (by decide) (by omega) (by omega) (fun c89 => ?_) (fun c89 => ?_)
            · have hS8 : jSo g H a (dl lt (σ.2.2.1.take j) (bring1 σ lt)) (midF (Fb lt) σ.2.2.1 j) := ⟨ses1, pus1, dts1, las1, frs1, tks1, cts1, hOs1, hses1, hpus1, hdts1, hlas1, hfrs1, htks1, hops1, hlts1, hcts1, hSs1⟩
              have hS : jSo g H a (dl lt (σ.2.2.1.take (j + 1)) (bring1 σ lt)) (midF (Fb lt) σ.2.2.1 (j + 1)) := by rw [← dl_miss ho c89, ← midF_same ho (show Fb lt o = oRow o from if_neg c89)]; exact hS8
              refine lv_iinc (v := nI (j + 1)) (lv' := [(2, .int _), (0, .ref _), (1, .int _)]) hx hb dX2_bring_141 hl (k := 2) rfl (nI_add _ 1) (by decide) rfl (fun ls hl => ?_)
              refine lv_goto (tgt := 68) hx hb dX2_bring_144 (by decide) ?_
              exact ih68  (j + 1) (by first | assumption | omega) (by omega) H _ hw hf hS _ (lv_sub hl [1, 2, 0] rfl)
            · refine lv_aload_n hx hb dX2_bring_92 rfl (lv_at hl 0 rfl) ?_
              refine lv_aload_n hx hb dX2_bring_93 rfl (lv_at hl 0 rfl) ?_
              refine j_get (T := TX2) (N := 9) (k := 6) hx hb hts hinX2 hown hw hOs1 rfl (by decide) (hts (.fieldLink RX2 33 "NightTrains$Store" "open" "LNightTrains$Orders;") (by decide +kernel)) rfl dX2_bring_94 ?_
              refine lv_iload_n hx hb dX2_bring_97 rfl (lv_at hl 2 rfl) ?_
              refine lv_iconst (v := (nI (0))) hx hb dX2_bring_98 (by decide) ?_
              refine j_Vp (n := 2) (As := [.int (nI (j)), .int (nI (0))]) hx hb hml hown hts hw (j_recv hw hops1.1 rfl) (c_X1_get l g z H (a + 7) (nI (j)) (nI (0)) (midF (Fb lt) σ.2.2.1 j) (by omega) hops1 ) gX2_bring_X1_get rfl (by decide +kernel) ⟨Nat.le_of_ble_eq_true rfl, Nat.le_of_ble_eq_true rfl⟩ rfl hl.1 (Nat.le_of_ble_eq_true rfl) ⟨Nat.zero_le _, Nat.zero_le _⟩ dX2_bring_99 (fun r9 locs hr9 hw => ?_) rfl
              obtain rfl : r9 = nI (o 0) := hr9.trans (gtR_o hro (by decide) (by rw [midF_len]; omega))
              refine lv_iload_n hx hb dX2_bring_102 rfl (lv_at hl 1 rfl) ?_
              refine lv_aload_n hx hb dX2_bring_103 rfl (lv_at hl 0 rfl) ?_
              refine j_get (T := TX2) (N := 9) (k := 6) hx hb hts hinX2 hown hw hOs1 rfl (by decide) (hts (.fieldLink RX2 33 "NightTrains$Store" "open" "LNightTrains$Orders;") (by decide +kernel)) rfl dX2_bring_104 ?_
              refine lv_iload_n hx hb dX2_bring_107 rfl (lv_at hl 2 rfl) ?_
              refine lv_iconst (v := (nI (2))) hx hb dX2_bring_108 (by decide) ?_
              refine j_Vp (n := 2) (As := [.int (nI (j)), .int (nI (2))]) hx hb hml hown hts hw (j_recv hw hops1.1 rfl) (c_X1_get l g z H (a + 7) (nI (j)) (nI (2)) (midF (Fb lt) σ.2.2.1 j) (by omega) hops1 ) gX2_bring_X1_get rfl (by decide +kernel) ⟨Nat.le_of_ble_eq_true rfl, Nat.le_of_ble_eq_true rfl⟩ rfl hl.1 (Nat.le_of_ble_eq_true rfl) ⟨Nat.zero_le _, Nat.zero_le _⟩ dX2_bring_109 (fun r10 locs hr10 hw => ?_) rfl
              obtain rfl : r10 = nI (o 2) := hr10.trans (gtR_o hro (by decide) (by rw [midF_len]; omega))
              refine lv_aload_n hx hb dX2_bring_112 rfl (lv_at hl 0 rfl) ?_
              refine j_get (T := TX2) (N := 9) (k := 6) hx hb hts hinX2 hown hw hOs1 rfl (by decide) (hts (.fieldLink RX2 33 "NightTrains$Store" "open" "LNightTrains$Orders;") (by decide +kernel)) rfl dX2_bring_113 ?_
              refine lv_iload_n hx hb dX2_bring_116 rfl (lv_at hl 2 rfl) ?_
              refine lv_iconst (v := (nI (3))) hx hb dX2_bring_117 (by decide) ?_
              refine j_Vp (n := 2) (As := [.int (nI (j)), .int (nI (3))]) hx hb hml hown hts hw (j_recv hw hops1.1 rfl) (c_X1_get l g z H (a + 7) (nI (j)) (nI (3)) (midF (Fb lt) σ.2.2.1 j) (by omega) hops1 ) gX2_bring_X1_get rfl (by decide +kernel) ⟨Nat.le_of_ble_eq_true rfl, Nat.le_of_ble_eq_true rfl⟩ rfl hl.1 (Nat.le_of_ble_eq_true rfl) ⟨Nat.zero_le _, Nat.zero_le _⟩ dX2_bring_118 (fun r11 locs hr11 hw => ?_) rfl
              obtain rfl : r11 = nI (o 3) := hr11.trans (gtR_o hro (by decide) (by rw [midF_len]; omega))
              refine lv_aload_n hx hb dX2_bring_121 rfl (lv_at hl 0 rfl) ?_
              refine j_get (T := TX2) (N := 9) (k := 6) hx hb hts hinX2 hown hw hOs1 rfl (by decide) (hts (.fieldLink RX2 33 "NightTrains$Store" "open" "LNightTrains$Orders;") (by decide +kernel)) rfl dX2_bring_122 ?_
              refine lv_iload_n hx hb dX2_bring_125 rfl (lv_at hl 2 rfl) ?_
              refine lv_iconst (v := (nI (4))) hx hb dX2_bring_126 (by decide) ?_
              refine j_Vp (n := 2) (As := [.int (nI (j)), .int (nI (4))]) hx hb hml hown hts hw (j_recv hw hops1.1 rfl) (c_X1_get l g z H (a + 7) (nI (j)) (nI (4)) (midF (Fb lt) σ.2.2.1 j) (by omega) hops1 ) gX2_bring_X1_get rfl (by decide +kernel) ⟨Nat.le_of_ble_eq_true rfl, Nat.le_of_ble_eq_true rfl⟩ rfl hl.1 (Nat.le_of_ble_eq_true rfl) ⟨Nat.zero_le _, Nat.zero_le _⟩ dX2_bring_127 (fun r12 locs hr12 hw => ?_) rfl
              obtain rfl : r12 = nI (o 4) := hr12.trans (gtR_o hro (by decide) (by rw [midF_len]; omega))
              have hS13 : jSo g H a (dl lt (σ.2.2.1.take j) (bring1 σ lt)) (midF (Fb lt) σ.2.2.1 j) := ⟨ses1, pus1, dts1, las1, frs1, tks1, cts1, hOs1, hses1, hpus1, hdts1, hlas1, hfrs1, htks1, hops1, hlts1, hcts1, hSs1⟩
              refine j_Vv (n := 5) (As := [.int (nI ((o 0))), .int (nI (lt)), .int (nI ((o 2))), .int (nI ((o 3))), .int (nI ((o 4)))]) hx hb hml hown hts hw (j_recv hw hS13.obj rfl) (c_X2_noteDelivered l g z H a ((o 0)) (lt) ((o 2)) ((o 3)) ((o 4)) (dl lt (σ.2.2.1.take j) (bring1 σ lt)) (midF (Fb lt) σ.2.2.1 j) (by omega) hS13 (okS_dl hlt _ _ (okS_bring1 hs0 hlt) (fun x hx => hs0.2.2.2.1 x (List.mem_of_mem_take hx))) (by first | assumption | omega)) gX2_bring_X2_noteDelivered rfl (by decide +kernel) ⟨Nat.le_of_ble_eq_true rfl, Nat.le_of_ble_eq_true rfl⟩ rfl hl.1 (Nat.le_of_ble_eq_true rfl) ⟨Nat.zero_le _, Nat.zero_le _⟩ dX2_bring_130 (fun H locs hr14 hw hsz => ?_) rfl
              obtain ⟨hS13, hf2⟩ := hr14
              have hf := hf.step hf2 (by omega)
              refine lv_aload_n hx hb dX2_bring_133 rfl (lv_at hl 0 rfl) ?_
              obtain ⟨ses15, pus15, dts15, las15, frs15, tks15, cts15, hOs15, hses15, hpus15, hdts15, hlas15, hfrs15, htks15, hops15, hlts15, hcts15, hSs15⟩ := hS13
              have hOs15 : jO g H a 2 [.ref (a + 1), .ref (a + 2), .ref (a + 3), .ref (a + 4), .ref (a + 5), .ref (a + 6), .ref (a + 7), .ref (a + 9), .ref (a + 11)] := hOs15
              have hses15 : jI g H (a + 1) 5 ses15 := hses15
              have hpus15 : jI g H (a + 2) 4 pus15 := hpus15
              have hdts15 : jI g H (a + 3) 4 dts15 := hdts15
              have hlas15 : jI g H (a + 4) 4 las15 := hlas15
              have hfrs15 : jI g H (a + 5) 16 frs15 := hfrs15
              have htks15 : jI g H (a + 6) 16 tks15 := htks15
              have hcts15 : jI g H (a + 11) 11 cts15 := hcts15
              have hops15 : jOr g H (a + 7) (midF (Fb lt) σ.2.2.1 j) := hops15
              have hlts15 : jOr g H (a + 9) (latR (note (dl lt (σ.2.2.1.take j) (bring1 σ lt)) (mkO ((o 0)) (lt) ((o 2)) ((o 3)) ((o 4)) 0))) := hlts15
              refine j_get (T := TX2) (N := 9) (k := 6) hx hb hts hinX2 hown hw hOs15 rfl (by decide) (hts (.fieldLink RX2 33 "NightTrains$Store" "open" "LNightTrains$Orders;") (by decide +kernel)) rfl dX2_bring_134 ?_
              refine lv_iload_n hx hb dX2_bring_137 rfl (lv_at hl 2 rfl) ?_
              refine j_Vv (n := 1) (As := [.int (nI (j))]) hx hb hml hown hts hw (j_recv hw hops15.1 rfl) (c_X1_end l g z H (a + 7) (j) (midF (Fb lt) σ.2.2.1 j) (by omega) hops15 (by omega)) gX2_bring_X1_end rfl (by decide +kernel) ⟨Nat.le_of_ble_eq_true rfl, Nat.le_of_ble_eq_true rfl⟩ rfl hl.1 (Nat.le_of_ble_eq_true rfl) ⟨Nat.zero_le _, Nat.zero_le _⟩ dX2_bring_138 (fun H locs hr16 hw hsz => ?_) rfl
              obtain ⟨hops15, hf2⟩ := hr16
              have hOs15 := hOs15.kept (hf2.2 _ (by omega))
              have hses15 := hses15.kept (hf2.2 _ (by omega))
              have hpus15 := hpus15.kept (hf2.2 _ (by omega))
              have hdts15 := hdts15.kept (hf2.2 _ (by omega))
              have hlas15 := hlas15.kept (hf2.2 _ (by omega))
              have hfrs15 := hfrs15.kept (hf2.2 _ (by omega))
              have htks15 := htks15.kept (hf2.2 _ (by omega))
              have hcts15 := hcts15.kept (hf2.2 _ (by omega))
              have hlts15 := hlts15.kept (fun q _ _ => hf2.2 q (by omega))
              have hf := hf.step hf2 (by omega)
              have hS17 : jSo g H a (note (dl lt (σ.2.2.1.take j) (bring1 σ lt)) (mkO ((o 0)) (lt) ((o 2)) ((o 3)) ((o 4)) 0)) (rput (midF (Fb lt) σ.2.2.1 j) (j) 0 (-1)) := ⟨ses15, pus15, dts15, las15, frs15, tks15, cts15, hOs15, hses15, hpus15, hdts15, hlas15, hfrs15, htks15, hops15, hlts15, hcts15, hSs15⟩
              have hS : jSo g H a (dl lt (σ.2.2.1.take (j + 1)) (bring1 σ lt)) (midF (Fb lt) σ.2.2.1 (j + 1)) := by rw [← dl_hit ho c89, ← midF_set ho, show Fb lt o = mark (oRow o) from if_pos c89, ← rput_mark hro]; exact hS17
              refine lv_iinc (v := nI (j + 1)) (lv' := [(2, .int _), (0, .ref _), (1, .int _)]) hx hb dX2_bring_141 hl (k := 2) rfl (nI_add _ 1) (by decide) rfl (fun ls hl => ?_)
              refine lv_goto (tgt := 68) hx hb dX2_bring_144 (by decide) ?_
              exact ih68  (j + 1) (by first | assumption | omega) (by omega) H _ hw hf hS _ (lv_sub hl [1, 2, 0] rfl)
      refine lv_iload_n hx hb dX2_bring_2 rfl (lv_at hl 2 rfl) ?_
      refine lv_bipush (v := (nI (16))) hx hb dX2_bring_3 (by decide) ?_
      refine jn_ge (tgt := 31) hx hb dX2_bring_5 (by decide) (by omega) (by omega) (fun c5 => ?_) (fun c5 => ?_)
      · obtain rfl : σk = clr 16 σ := by first | (rw [← hG]; exact (clr_stop (by omega) _).symm) | (obtain rfl : k = 0 := (by omega); exact hG)
        refine lv_iload_n hx hb dX2_bring_31 rfl (lv_at hl 1 rfl) ?_
        refine j_SNp (n := 1) (As := [.int (nI (lt))]) hx hb hml hown hts hw (c_X4_isLot l g z H (nI (lt))   ) gX2_bring_X4_isLot_n80 (host := RX4) (by decide +kernel) (by decide +kernel) (by decide +kernel) rfl (by decide +kernel) ⟨Nat.le_of_ble_eq_true rfl, Nat.le_of_ble_eq_true rfl⟩ rfl hl.1 (Nat.le_of_ble_eq_true rfl) ⟨Nat.zero_le _, Nat.zero_le _⟩ dX2_bring_32 (fun r18 locs hr18 hw => ?_) rfl
        obtain rfl : r18 = nI 1 := ixY (by decide) (by omega) (by omega) hr18
        refine jz_eq (tgt := 55) hx hb dX2_bring_35 (by decide) (by omega) (fun c35 => absurd c35 (by omega)) (fun c35 => ?_)
        have hs9 := okS_clr 16 σ hs0
        refine lv_aload_n hx hb dX2_bring_38 rfl (lv_at hl 0 rfl) ?_
        obtain ⟨ses19, pus19, dts19, las19, frs19, tks19, cts19, hOs19, hses19, hpus19, hdts19, hlas19, hfrs19, htks19, hops19, hlts19, hcts19, hSs19⟩ := hS
        have hOs19 : jO g H a 2 [.ref (a + 1), .ref (a + 2), .ref (a + 3), .ref (a + 4), .ref (a + 5), .ref (a + 6), .ref (a + 7), .ref (a + 9), .ref (a + 11)] := hOs19
        have hses19 : jI g H (a + 1) 5 ses19 := hses19
        have hpus19 : jI g H (a + 2) 4 pus19 := hpus19
        have hdts19 : jI g H (a + 3) 4 dts19 := hdts19
        have hlas19 : jI g H (a + 4) 4 las19 := hlas19
        have hfrs19 : jI g H (a + 5) 16 frs19 := hfrs19
        have htks19 : jI g H (a + 6) 16 tks19 := htks19
        have hcts19 : jI g H (a + 11) 11 cts19 := hcts19
        have hops19 : jOr g H (a + 7) (opnR σ) := hops19
        have hlts19 : jOr g H (a + 9) (latR (clr 16 σ)) := hlts19
        refine j_get (T := TX2) (N := 9) (k := 4) hx hb hts hinX2 hown hw hOs19 rfl (by decide) (hts (.fieldLink RX2 24 "NightTrains$Store" "front" "[I") (by decide +kernel)) rfl dX2_bring_39 ?_
        refine lv_iload_n hx hb dX2_bring_42 rfl (lv_at hl 1 rfl) ?_
        refine lv_iconst (v := (nI (0))) hx hb dX2_bring_43 (by decide) ?_
        refine j_iast hx hb hw hfrs19 (by omega) (k := lt) rfl (by omega) (by omega) dX2_bring_44 (fun H locs hw hfrs19 oq hsz => ?_)
        obtain ⟨f20, ef20⟩ : ∃ y9, y9 = upd frs19 (lt) (nI (0)) := ⟨_, rfl⟩
        rw [← ef20] at hfrs19
        have hOs19 := hOs19.kept (oq _ (by omega))
        have hses19 := hses19.kept (oq _ (by omega))
        have hpus19 := hpus19.kept (oq _ (by omega))
        have hdts19 := hdts19.kept (oq _ (by omega))
        have hlas19 := hlas19.kept (oq _ (by omega))
        have htks19 := htks19.kept (oq _ (by omega))
        have hcts19 := hcts19.kept (oq _ (by omega))
        have hops19 := hops19.kept (fun q _ _ => oq q (by omega))
        have hlts19 := hlts19.kept (fun q _ _ => oq q (by omega))
        have hf := hf.put oq hsz (by omega)
        have hSs19 := hSs19.wfr (k := lt) (v := 1) (x := nI 0) (by omega) (by decide)
        rw [← ef20] at hSs19
        refine lv_aload_n hx hb dX2_bring_45 rfl (lv_at hl 0 rfl) ?_
        refine j_get (T := TX2) (N := 9) (k := 5) hx hb hts hinX2 hown hw hOs19 rfl (by decide) (hts (.fieldLink RX2 27 "NightTrains$Store" "taken" "[I") (by decide +kernel)) rfl dX2_bring_46 ?_
        refine lv_iload_n hx hb dX2_bring_49 rfl (lv_at hl 1 rfl) ?_
        refine lv_dup2_11 hx hb dX2_bring_50 rfl rfl ?_
        refine j_iald hx hb hw htks19 (k := lt) rfl (by omega) (by omega) dX2_bring_51 ?_
        refine j_eq (y := nI ((clr 16 σ).1 (30 + lt))) ((hSs19.rtk (k := lt) (by omega)).trans (congrArg nI (upn_n (by omega)))) ?_
        refine lv_iconst (v := (nI (1))) hx hb dX2_bring_52 (by decide) ?_
        refine j_addN hx hb dX2_bring_53 ?_
        refine j_iast hx hb hw htks19 (by omega) (k := lt) rfl (by omega) (by omega) dX2_bring_54 (fun H locs hw htks19 oq hsz => ?_)
        obtain ⟨f21, ef21⟩ : ∃ y9, y9 = upd tks19 (lt) (nI (((clr 16 σ).1 (30 + lt) + 1))) := ⟨_, rfl⟩
        rw [← ef21] at htks19
        have hOs19 := hOs19.kept (oq _ (by omega))
        have hses19 := hses19.kept (oq _ (by omega))
        have hpus19 := hpus19.kept (oq _ (by omega))
        have hdts19 := hdts19.kept (oq _ (by omega))
        have hlas19 := hlas19.kept (oq _ (by omega))
        have hfrs19 := hfrs19.kept (oq _ (by omega))
        have hcts19 := hcts19.kept (oq _ (by omega))
        have hops19 := hops19.kept (fun q _ _ => oq q (by omega))
        have hlts19 := hlts19.kept (fun q _ _ => oq q (by omega))
        have hf := hf.put oq hsz (by omega)
        have hSs19 := hSs19.wtk (k := lt) (v := (clr 16 σ).1 (30 + lt) + 1) (by omega) rfl
        rw [← ef21] at hSs19
        refine lv_aload_n hx hb dX2_bring_55 rfl (lv_at hl 0 rfl) ?_
        refine j_get (T := TX2) (N := 9) (k := 8) hx hb hts hinX2 hown hw hOs19 rfl (by decide) (hts (.fieldLink RX2 40 "NightTrains$Store" "counts" "[I") (by decide +kernel)) rfl dX2_bring_56 ?_
        refine lv_bipush (v := (nI (9))) hx hb dX2_bring_59 (by decide) ?_
        refine lv_dup2_11 hx hb dX2_bring_61 rfl rfl ?_
        refine j_iald hx hb hw hcts19 (k := 9) rfl (by omega) (by omega) dX2_bring_62 ?_
        refine j_eq (y := nI ((clr 16 σ).1 12)) ((hSs19.rct (k := 9) (by decide)).trans (congrArg nI ((upn_n (by show (12 : Nat) ≠ _; omega)).trans (upn_n (by show (12 : Nat) ≠ _; omega))))) ?_
        refine lv_iconst (v := (nI (1))) hx hb dX2_bring_63 (by decide) ?_
        refine j_addN hx hb dX2_bring_64 ?_
        refine j_iast hx hb hw hcts19 (by omega) (k := 9) rfl (by omega) (by omega) dX2_bring_65 (fun H locs hw hcts19 oq hsz => ?_)
        obtain ⟨f22, ef22⟩ : ∃ y9, y9 = upd cts19 (9) (nI (((clr 16 σ).1 12 + 1))) := ⟨_, rfl⟩
        rw [← ef22] at hcts19
        have hOs19 := hOs19.kept (oq _ (by omega))
        have hses19 := hses19.kept (oq _ (by omega))
        have hpus19 := hpus19.kept (oq _ (by omega))
        have hdts19 := hdts19.kept (oq _ (by omega))
        have hlas19 := hlas19.kept (oq _ (by omega))
        have hfrs19 := hfrs19.kept (oq _ (by omega))
        have htks19 := htks19.kept (oq _ (by omega))
        have hops19 := hops19.kept (fun q _ _ => oq q (by omega))
        have hlts19 := hlts19.kept (fun q _ _ => oq q (by omega))
        have hf := hf.put oq hsz (by omega)
        have hSs19 := hSs19.wct (k := 9) (v := (clr 16 σ).1 12 + 1) (by decide) rfl
        rw [← ef22] at hSs19
        have hSs19 : Sto ses19 pus19 dts19 las19 f20 f21 f22 (upn (upn (upn (clr 16 σ) (14 + lt) 1) (30 + lt) ((clr 16 σ).1 (30 + lt) + 1)) 12 ((clr 16 σ).1 12 + 1)) := hSs19
        refine lv_iconst (v := (nI (0))) hx hb dX2_bring_66 (by decide) ?_
        have hS23 : jSo g H a (upn (upn (upn (clr 16 σ) (14 + lt) 1) (30 + lt) ((clr 16 σ).1 (30 + lt) + 1)) 12 ((clr 16 σ).1 12 + 1)) (opnR σ) := ⟨ses19, pus19, dts19, las19, f20, f21, f22, hOs19, hses19, hpus19, hdts19, hlas19, hfrs19, htks19, hops19, hlts19, hcts19, hSs19⟩
        have hS : jSo g H a (dl lt (σ.2.2.1.take 0) (bring1 σ lt)) (midF (Fb lt) σ.2.2.1 0) := by rw [midF_0]; exact hS23
        refine lv_istore_n (lv' := [(2, .int _), (0, .ref _), (1, .int _)]) hx hb dX2_bring_67 rfl hl (by decide) rfl (fun ls hl => ?_)
        exact lp68 (σ.2.2.1.length - 0 + 1) 0 (by first | assumption | omega) (by omega) H _ hw hf hS _ (lv_sub hl [1, 2, 0] rfl)
      · obtain ⟨k, rfl⟩ : ∃ k1, k = k1 + 1 := ⟨k - 1, by omega⟩
        have hfl := fcnt_le σk.1 16
        have h16 := hs.1.2.2.1
        refine lv_aload_n hx hb dX2_bring_8 rfl (lv_at hl 0 rfl) ?_
        refine j_Vp (n := 0) (As := []) hx hb hml hown hts hw (j_recv hw hS.obj rfl) (c_X2_lotsInFront l g z H a σk (opnR σ) hz hS (by first | assumption | omega)) gX2_bring_X2_lotsInFront rfl (by decide +kernel) ⟨Nat.le_of_ble_eq_true rfl, Nat.le_of_ble_eq_true rfl⟩ rfl hl.1 (Nat.le_of_ble_eq_true rfl) ⟨Nat.zero_le _, Nat.zero_le _⟩ dX2_bring_9 (fun r24 locs hr24 hw => ?_) rfl
        obtain rfl : r24 = (nI (fcnt σk.1 16)) := hr24
        refine lv_aload_n hx hb dX2_bring_12 rfl (lv_at hl 0 rfl) ?_
        obtain ⟨ses25, pus25, dts25, las25, frs25, tks25, cts25, hOs25, hses25, hpus25, hdts25, hlas25, hfrs25, htks25, hops25, hlts25, hcts25, hSs25⟩ := hS
        have hOs25 : jO g H a 2 [.ref (a + 1), .ref (a + 2), .ref (a + 3), .ref (a + 4), .ref (a + 5), .ref (a + 6), .ref (a + 7), .ref (a + 9), .ref (a + 11)] := hOs25
        have hses25 : jI g H (a + 1) 5 ses25 := hses25
        have hpus25 : jI g H (a + 2) 4 pus25 := hpus25
        have hdts25 : jI g H (a + 3) 4 dts25 := hdts25
        have hlas25 : jI g H (a + 4) 4 las25 := hlas25
        have hfrs25 : jI g H (a + 5) 16 frs25 := hfrs25
        have htks25 : jI g H (a + 6) 16 tks25 := htks25
        have hcts25 : jI g H (a + 11) 11 cts25 := hcts25
        have hops25 : jOr g H (a + 7) (opnR σ) := hops25
        have hlts25 : jOr g H (a + 9) (latR σk) := hlts25
        refine j_get (T := TX2) (N := 9) (k := 0) hx hb hts hinX2 hown hw hOs25 rfl (by decide) (hts (.fieldLink RX2 9 "NightTrains$Store" "settings" "[I") (by decide +kernel)) rfl dX2_bring_13 ?_
        refine lv_iconst (v := (nI (1))) hx hb dX2_bring_16 (by decide) ?_
        refine j_iald hx hb hw hses25 (k := 1) rfl (by omega) (by omega) dX2_bring_17 ?_
        refine j_eq (y := nI (σk.1 1)) (hSs25.rse (k := 1) (by omega)) ?_
        refine jn_lt (tgt := 31) hx hb dX2_bring_18 (by decide) (by omega) (by omega) (fun c18 => ?_) (fun c18 => ?_)
        · obtain rfl : σk = clr 16 σ := by first | (rw [← hG]; exact (clr_stop (by omega) _).symm) | (obtain rfl : k = 0 := (by omega); exact hG)
          refine lv_iload_n hx hb dX2_bring_31 rfl (lv_at hl 1 rfl) ?_
          refine j_SNp (n := 1) (As := [.int (nI (lt))]) hx hb hml hown hts hw (c_X4_isLot l g z H (nI (lt))   ) gX2_bring_X4_isLot_n80 (host := RX4) (by decide +kernel) (by decide +kernel) (by decide +kernel) rfl (by decide +kernel) ⟨Nat.le_of_ble_eq_true rfl, Nat.le_of_ble_eq_true rfl⟩ rfl hl.1 (Nat.le_of_ble_eq_true rfl) ⟨Nat.zero_le _, Nat.zero_le _⟩ dX2_bring_32 (fun r26 locs hr26 hw => ?_) rfl
          obtain rfl : r26 = nI 1 := ixY (by decide) (by omega) (by omega) hr26
          refine jz_eq (tgt := 55) hx hb dX2_bring_35 (by decide) (by omega) (fun c35 => absurd c35 (by omega)) (fun c35 => ?_)
          have hs9 := okS_clr 16 σ hs0
          refine lv_aload_n hx hb dX2_bring_38 rfl (lv_at hl 0 rfl) ?_
          refine j_get (T := TX2) (N := 9) (k := 4) hx hb hts hinX2 hown hw hOs25 rfl (by decide) (hts (.fieldLink RX2 24 "NightTrains$Store" "front" "[I") (by decide +kernel)) rfl dX2_bring_39 ?_
          refine lv_iload_n hx hb dX2_bring_42 rfl (lv_at hl 1 rfl) ?_
          refine lv_iconst (v := (nI (0))) hx hb dX2_bring_43 (by decide) ?_
          refine j_iast hx hb hw hfrs25 (by omega) (k := lt) rfl (by omega) (by omega) dX2_bring_44 (fun H locs hw hfrs25 oq hsz => ?_)
          obtain ⟨f27, ef27⟩ : ∃ y9, y9 = upd frs25 (lt) (nI (0)) := ⟨_, rfl⟩
          rw [← ef27] at hfrs25
          have hOs25 := hOs25.kept (oq _ (by omega))
          have hses25 := hses25.kept (oq _ (by omega))
          have hpus25 := hpus25.kept (oq _ (by omega))
          have hdts25 := hdts25.kept (oq _ (by omega))
          have hlas25 := hlas25.kept (oq _ (by omega))
          have htks25 := htks25.kept (oq _ (by omega))
          have hcts25 := hcts25.kept (oq _ (by omega))
          have hops25 := hops25.kept (fun q _ _ => oq q (by omega))
          have hlts25 := hlts25.kept (fun q _ _ => oq q (by omega))
          have hf := hf.put oq hsz (by omega)
          have hSs25 := hSs25.wfr (k := lt) (v := 1) (x := nI 0) (by omega) (by decide)
          rw [← ef27] at hSs25
          refine lv_aload_n hx hb dX2_bring_45 rfl (lv_at hl 0 rfl) ?_
          refine j_get (T := TX2) (N := 9) (k := 5) hx hb hts hinX2 hown hw hOs25 rfl (by decide) (hts (.fieldLink RX2 27 "NightTrains$Store" "taken" "[I") (by decide +kernel)) rfl dX2_bring_46 ?_
          refine lv_iload_n hx hb dX2_bring_49 rfl (lv_at hl 1 rfl) ?_
          refine lv_dup2_11 hx hb dX2_bring_50 rfl rfl ?_
          refine j_iald hx hb hw htks25 (k := lt) rfl (by omega) (by omega) dX2_bring_51 ?_
          refine j_eq (y := nI ((clr 16 σ).1 (30 + lt))) ((hSs25.rtk (k := lt) (by omega)).trans (congrArg nI (upn_n (by omega)))) ?_
          refine lv_iconst (v := (nI (1))) hx hb dX2_bring_52 (by decide) ?_
          refine j_addN hx hb dX2_bring_53 ?_
          refine j_iast hx hb hw htks25 (by omega) (k := lt) rfl (by omega) (by omega) dX2_bring_54 (fun H locs hw htks25 oq hsz => ?_)
          obtain ⟨f28, ef28⟩ : ∃ y9, y9 = upd tks25 (lt) (nI (((clr 16 σ).1 (30 + lt) + 1))) := ⟨_, rfl⟩
          rw [← ef28] at htks25
          have hOs25 := hOs25.kept (oq _ (by omega))
          have hses25 := hses25.kept (oq _ (by omega))
          have hpus25 := hpus25.kept (oq _ (by omega))
          have hdts25 := hdts25.kept (oq _ (by omega))
          have hlas25 := hlas25.kept (oq _ (by omega))
          have hfrs25 := hfrs25.kept (oq _ (by omega))
          have hcts25 := hcts25.kept (oq _ (by omega))
          have hops25 := hops25.kept (fun q _ _ => oq q (by omega))
          have hlts25 := hlts25.kept (fun q _ _ => oq q (by omega))
          have hf := hf.put oq hsz (by omega)
          have hSs25 := hSs25.wtk (k := lt) (v := (clr 16 σ).1 (30 + lt) + 1) (by omega) rfl
          rw [← ef28] at hSs25
          refine lv_aload_n hx hb dX2_bring_55 rfl (lv_at hl 0 rfl) ?_
          refine j_get (T := TX2) (N := 9) (k := 8) hx hb hts hinX2 hown hw hOs25 rfl (by decide) (hts (.fieldLink RX2 40 "NightTrains$Store" "counts" "[I") (by decide +kernel)) rfl dX2_bring_56 ?_
          refine lv_bipush (v := (nI (9))) hx hb dX2_bring_59 (by decide) ?_
          refine lv_dup2_11 hx hb dX2_bring_61 rfl rfl ?_
          refine j_iald hx hb hw hcts25 (k := 9) rfl (by omega) (by omega) dX2_bring_62 ?_
          refine j_eq (y := nI ((clr 16 σ).1 12)) ((hSs25.rct (k := 9) (by decide)).trans (congrArg nI ((upn_n (by show (12 : Nat) ≠ _; omega)).trans (upn_n (by show (12 : Nat) ≠ _; omega))))) ?_
          refine lv_iconst (v := (nI (1))) hx hb dX2_bring_63 (by decide) ?_
          refine j_addN hx hb dX2_bring_64 ?_
          refine j_iast hx hb hw hcts25 (by omega) (k := 9) rfl (by omega) (by omega) dX2_bring_65 (fun H locs hw hcts25 oq hsz => ?_)
          obtain ⟨f29, ef29⟩ : ∃ y9, y9 = upd cts25 (9) (nI (((clr 16 σ).1 12 + 1))) := ⟨_, rfl⟩
          rw [← ef29] at hcts25
          have hOs25 := hOs25.kept (oq _ (by omega))
          have hses25 := hses25.kept (oq _ (by omega))
          have hpus25 := hpus25.kept (oq _ (by omega))
          have hdts25 := hdts25.kept (oq _ (by omega))
          have hlas25 := hlas25.kept (oq _ (by omega))
          have hfrs25 := hfrs25.kept (oq _ (by omega))
          have htks25 := htks25.kept (oq _ (by omega))
          have hops25 := hops25.kept (fun q _ _ => oq q (by omega))
          have hlts25 := hlts25.kept (fun q _ _ => oq q (by omega))
          have hf := hf.put oq hsz (by omega)
          have hSs25 := hSs25.wct (k := 9) (v := (clr 16 σ).1 12 + 1) (by decide) rfl
          rw [← ef29] at hSs25
          have hSs25 : Sto ses25 pus25 dts25 las25 f27 f28 f29 (upn (upn (upn (clr 16 σ) (14 + lt) 1) (30 + lt) ((clr 16 σ).1 (30 + lt) + 1)) 12 ((clr 16 σ).1 12 + 1)) := hSs25
          refine lv_iconst (v := (nI (0))) hx hb dX2_bring_66 (by decide) ?_
          have hS30 : jSo g H a (upn (upn (upn (clr 16 σ) (14 + lt) 1) (30 + lt) ((clr 16 σ).1 (30 + lt) + 1)) 12 ((clr 16 σ).1 12 + 1)) (opnR σ) := ⟨ses25, pus25, dts25, las25, f27, f28, f29, hOs25, hses25, hpus25, hdts25, hlas25, hfrs25, htks25, hops25, hlts25, hcts25, hSs25⟩
          have hS : jSo g H a (dl lt (σ.2.2.1.take 0) (bring1 σ lt)) (midF (Fb lt) σ.2.2.1 0) := by rw [midF_0]; exact hS30
          refine lv_istore_n (lv' := [(2, .int _), (0, .ref _), (1, .int _)]) hx hb dX2_bring_67 rfl hl (by decide) rfl (fun ls hl => ?_)
          exact lp68 (σ.2.2.1.length - 0 + 1) 0 (by first | assumption | omega) (by omega) H _ hw hf hS _ (lv_sub hl [1, 2, 0] rfl)
        · refine lv_aload_n hx hb dX2_bring_21 rfl (lv_at hl 0 rfl) ?_
          have hS31 : jSo g H a σk (opnR σ) := ⟨ses25, pus25, dts25, las25, frs25, tks25, cts25, hOs25, hses25, hpus25, hdts25, hlas25, hfrs25, htks25, hops25, hlts25, hcts25, hSs25⟩
          refine j_Vv (n := 0) (As := []) hx hb hml hown hts hw (j_recv hw hS31.obj rfl) (c_X2_sendBackLongest l g z H a σk (opnR σ) (by omega) hS31 hs (by have := hs.1.2.1; omega)) gX2_bring_X2_sendBackLongest rfl (by decide +kernel) ⟨Nat.le_of_ble_eq_true rfl, Nat.le_of_ble_eq_true rfl⟩ rfl hl.1 (Nat.le_of_ble_eq_true rfl) ⟨Nat.zero_le _, Nat.zero_le _⟩ dX2_bring_22 (fun H locs hr32 hw hsz => ?_) rfl
          obtain ⟨hS31, hf2⟩ := hr32
          have hf := hf.step hf2 (by omega)
          refine lv_iinc (v := nI (t + 1)) (lv' := [(2, .int _), (0, .ref _), (1, .int _)]) hx hb dX2_bring_25 hl (k := 2) rfl (nI_add _ 1) (by decide) rfl (fun ls hl => ?_)
          refine lv_goto (tgt := 2) hx hb dX2_bring_28 (by decide) ?_
          exact ih2  (t + 1) k (sback σk) (by first | assumption | omega) (by rw [← clr_goS (Nat.not_lt.mp c18)]; exact hG) (okS_sback hs) (by omega) H _ hw hf hS31 _ (lv_sub hl [1, 2, 0] rfl)
  exact lp2 (16 + 1) 0 16 σ (by first | assumption | omega) rfl hs (by omega) H0 _ hw hf hS _ (lv_sub hl [1, 2, 0] rfl)
