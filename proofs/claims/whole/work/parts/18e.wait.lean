abbrev q_X2_lapse (g : jG) (H0 : Heap) (a : Nat) (i : Nat) (σ : Sg) (Rs : List OR) (o : Od) : Option Value → Heap → Prop := jV (fun H1 => jSo g H1 a (lapse1 σ o) (Rs.set i (mark (oRow o))) ∧ jF a 12 H0 H1)
set_option maxHeartbeats 4000000 in
set_option maxRecDepth 100000 in
theorem c_X2_lapse (l : Launch) (g : jG) (z : Nat) (H0 : Heap) (a : Nat) (i : Nat) (σ : Sg) (Rs : List OR) (o : Od) (hz : z ≤ a) (hS : jSo g H0 a σ Rs) (hro : Rs[i]? = some (oRow o)) (hoo : okO o) : jM l g z yX2_lapse wsX2_lapse 2 46 [.ref a, .int (nI (i))] H0 (q_X2_lapse g H0 a i σ Rs o) := by
  refine j_of (cc := cX2_lapse) (n := 3) (ret := none) (by decide) rfl (Nat.le_of_ble_eq_true rfl) ?_
  intro p e s m below meth c hx hb hr hml hown hts hlocks hname hH hw ls hl
  have hl : lv_has ls 3 [(0, .ref a), (1, .int (nI (i)))] := hl
  have hinX2 : ∀ w ∈ u_ws RX2 TX2 9, w ∈ wsX2_lapse := by decide +kernel
  have hf : jF a 12 H0 H0 := jF.rf
  have hl21 := hS.len
  obtain ⟨ho0, ho1, ho2, ho3, ho4, ho5⟩ := id hoo
  have hil : i < Rs.length := (List.getElem?_eq_some_iff.mp hro).1
  refine lv_aload_n hx hb dX2_lapse_0 rfl (lv_at hl 0 rfl) ?_
  obtain ⟨ses1, pus1, dts1, las1, frs1, tks1, cts1, hOs1, hses1, hpus1, hdts1, hlas1, hfrs1, htks1, hops1, hlts1, hcts1, hSs1⟩ := hS
  have hOs1 : jO g H0 a 2 [.ref (a + 1), .ref (a + 2), .ref (a + 3), .ref (a + 4), .ref (a + 5), .ref (a + 6), .ref (a + 7), .ref (a + 9), .ref (a + 11)] := hOs1
  have hses1 : jI g H0 (a + 1) 5 ses1 := hses1
  have hpus1 : jI g H0 (a + 2) 4 pus1 := hpus1
  have hdts1 : jI g H0 (a + 3) 4 dts1 := hdts1
  have hlas1 : jI g H0 (a + 4) 4 las1 := hlas1
  have hfrs1 : jI g H0 (a + 5) 16 frs1 := hfrs1
  have htks1 : jI g H0 (a + 6) 16 tks1 := htks1
  have hcts1 : jI g H0 (a + 11) 11 cts1 := hcts1
  have hops1 : jOr g H0 (a + 7) Rs := hops1
  have hlts1 : jOr g H0 (a + 9) (latR σ) := hlts1
  refine j_get (T := TX2) (N := 9) (k := 6) hx hb hts hinX2 hown hw hOs1 rfl (by decide) (hts (.fieldLink RX2 33 "NightTrains$Store" "open" "LNightTrains$Orders;") (by decide +kernel)) rfl dX2_lapse_1 ?_
  refine lv_iload_n hx hb dX2_lapse_4 rfl (lv_at hl 1 rfl) ?_
  refine lv_iconst (v := (nI (0))) hx hb dX2_lapse_5 (by decide) ?_
  refine j_Vp (n := 2) (As := [.int (nI (i)), .int (nI (0))]) hx hb hml hown hts hw (j_recv hw hops1.1 rfl) (c_X1_get l g z H0 (a + 7) (nI (i)) (nI (0)) Rs (by omega) hops1 ) gX2_lapse_X1_get rfl (by decide +kernel) ⟨Nat.le_of_ble_eq_true rfl, Nat.le_of_ble_eq_true rfl⟩ rfl hl.1 (Nat.le_of_ble_eq_true rfl) ⟨Nat.zero_le _, Nat.zero_le _⟩ dX2_lapse_6 (fun r2 locs hr2 hw => ?_) rfl
  obtain rfl : r2 = nI (o 0) := hr2.trans (gtR_o hro (by decide) (by omega))
  refine lv_istore_n (lv' := [(2, .int _), (0, .ref _), (1, .int _)]) hx hb dX2_lapse_9 rfl hl (by decide) rfl (fun ls hl => ?_)
  refine lv_aload_n hx hb dX2_lapse_10 rfl (lv_at hl 1 rfl) ?_
  refine lv_iload_n hx hb dX2_lapse_11 rfl (lv_at hl 2 rfl) ?_
  have hS3 : jSo g H0 a σ Rs := ⟨ses1, pus1, dts1, las1, frs1, tks1, cts1, hOs1, hses1, hpus1, hdts1, hlas1, hfrs1, htks1, hops1, hlts1, hcts1, hSs1⟩
  refine j_Vi (n := 1) (As := [.int (nI (i))]) hx hb hml hown hts hw (j_recv hw hS3.obj rfl) (c_X2_payBack l g z H0 a (i) σ Rs o (by omega) hS3 hro hoo) gX2_lapse_X2_payBack rfl (by decide +kernel) ⟨Nat.le_of_ble_eq_true rfl, Nat.le_of_ble_eq_true rfl⟩ rfl hl.1 (Nat.le_of_ble_eq_true rfl) ⟨Nat.zero_le _, Nat.zero_le _⟩ dX2_lapse_12 (fun r4 H locs hr4 hw hsz => ?_) rfl
  obtain ⟨rfl, hr4⟩ := hr4
  obtain ⟨hS3, hf2⟩ := hr4
  have hf := hf.step hf2 (by omega)
  refine lv_pop hx hb dX2_lapse_15 rfl ?_
  refine lv_aload_n hx hb dX2_lapse_16 rfl (lv_at hl 1 rfl) ?_
  obtain ⟨ses5, pus5, dts5, las5, frs5, tks5, cts5, hOs5, hses5, hpus5, hdts5, hlas5, hfrs5, htks5, hops5, hlts5, hcts5, hSs5⟩ := hS3
  have hOs5 : jO g H a 2 [.ref (a + 1), .ref (a + 2), .ref (a + 3), .ref (a + 4), .ref (a + 5), .ref (a + 6), .ref (a + 7), .ref (a + 9), .ref (a + 11)] := hOs5
  have hses5 : jI g H (a + 1) 5 ses5 := hses5
  have hpus5 : jI g H (a + 2) 4 pus5 := hpus5
  have hdts5 : jI g H (a + 3) 4 dts5 := hdts5
  have hlas5 : jI g H (a + 4) 4 las5 := hlas5
  have hfrs5 : jI g H (a + 5) 16 frs5 := hfrs5
  have htks5 : jI g H (a + 6) 16 tks5 := htks5
  have hcts5 : jI g H (a + 11) 11 cts5 := hcts5
  have hops5 : jOr g H (a + 7) Rs := hops5
  have hlts5 : jOr g H (a + 9) (latR (payC σ o)) := hlts5
  refine j_get (T := TX2) (N := 9) (k := 8) hx hb hts hinX2 hown hw hOs5 rfl (by decide) (hts (.fieldLink RX2 40 "NightTrains$Store" "counts" "[I") (by decide +kernel)) rfl dX2_lapse_17 ?_
  refine lv_iconst (v := (nI (3))) hx hb dX2_lapse_20 (by decide) ?_
  refine lv_dup2_11 hx hb dX2_lapse_21 rfl rfl ?_
  refine j_iald hx hb hw hcts5 (k := 3) rfl (by omega) (by omega) dX2_lapse_22 ?_
  refine j_eq (y := nI (σ.1 8)) ((hSs5.rct (k := 3) (by decide)).trans (congrArg nI (upn_n (by show (8 : Nat) ≠ _; omega)))) ?_
  refine lv_iconst (v := (nI (1))) hx hb dX2_lapse_23 (by decide) ?_
  refine j_addN hx hb dX2_lapse_24 ?_
  refine j_iast hx hb hw hcts5 (by omega) (k := 3) rfl (by omega) (by omega) dX2_lapse_25 (fun H locs hw hcts5 oq hsz => ?_)
  obtain ⟨f6, ef6⟩ : ∃ y9, y9 = upd cts5 (3) (nI ((σ.1 8 + 1))) := ⟨_, rfl⟩
  rw [← ef6] at hcts5
  have hOs5 := hOs5.kept (oq _ (by omega))
  have hses5 := hses5.kept (oq _ (by omega))
  have hpus5 := hpus5.kept (oq _ (by omega))
  have hdts5 := hdts5.kept (oq _ (by omega))
  have hlas5 := hlas5.kept (oq _ (by omega))
  have hfrs5 := hfrs5.kept (oq _ (by omega))
  have htks5 := htks5.kept (oq _ (by omega))
  have hops5 := hops5.kept (fun q _ _ => oq q (by omega))
  have hlts5 := hlts5.kept (fun q _ _ => oq q (by omega))
  have hf := hf.put oq hsz (by omega)
  have hSs5 := hSs5.wct (k := 3) (v := σ.1 8 + 1) (by decide) rfl
  rw [← ef6] at hSs5
  have hSs5 : Sto ses5 pus5 dts5 las5 frs5 tks5 f6 (upn (payC σ o) 8 (σ.1 8 + 1)) := hSs5
  refine lv_iload_n hx hb dX2_lapse_26 rfl (lv_at hl 0 rfl) ?_
  refine j_SNp (n := 1) (As := [.int (nI ((o 0)))]) hx hb hml hown hts hw (c_X4_isReader l g z H (nI ((o 0)))   ) gX2_lapse_X4_isReader_n87 (host := RX4) (by decide +kernel) (by decide +kernel) (by decide +kernel) rfl (by decide +kernel) ⟨Nat.le_of_ble_eq_true rfl, Nat.le_of_ble_eq_true rfl⟩ rfl hl.1 (Nat.le_of_ble_eq_true rfl) ⟨Nat.zero_le _, Nat.zero_le _⟩ dX2_lapse_27 (fun r7 locs hr7 hw => ?_) rfl
  obtain rfl : r7 = nI 1 := ixY (by decide) (by omega) (by omega) hr7
  refine jz_eq (tgt := 43) hx hb dX2_lapse_30 (by decide) (by omega) (fun c30 => absurd c30 (by omega)) (fun c30 => ?_)
  refine lv_aload_n hx hb dX2_lapse_33 rfl (lv_at hl 1 rfl) ?_
  refine j_get (T := TX2) (N := 9) (k := 3) hx hb hts hinX2 hown hw hOs5 rfl (by decide) (hts (.fieldLink RX2 21 "NightTrains$Store" "lapsedOf" "[I") (by decide +kernel)) rfl dX2_lapse_34 ?_
  refine lv_iload_n hx hb dX2_lapse_37 rfl (lv_at hl 0 rfl) ?_
  refine lv_dup2_11 hx hb dX2_lapse_38 rfl rfl ?_
  refine j_iald hx hb hw hlas5 (k := (o 0)) rfl (by omega) (by omega) dX2_lapse_39 ?_
  refine j_eq (y := nI (σ.1 (54 + o 0))) ((hSs5.rla (k := o 0) (by omega)).trans (congrArg nI ((upn_n (by omega)).trans (upn_n (by omega))))) ?_
  refine lv_iconst (v := (nI (1))) hx hb dX2_lapse_40 (by decide) ?_
  refine j_addN hx hb dX2_lapse_41 ?_
  refine j_iast hx hb hw hlas5 (by omega) (k := (o 0)) rfl (by omega) (by omega) dX2_lapse_42 (fun H locs hw hlas5 oq hsz => ?_)
  obtain ⟨f8, ef8⟩ : ∃ y9, y9 = upd las5 ((o 0)) (nI ((σ.1 (54 + o 0) + 1))) := ⟨_, rfl⟩
  rw [← ef8] at hlas5
  have hOs5 := hOs5.kept (oq _ (by omega))
  have hses5 := hses5.kept (oq _ (by omega))
  have hpus5 := hpus5.kept (oq _ (by omega))
  have hdts5 := hdts5.kept (oq _ (by omega))
  have hfrs5 := hfrs5.kept (oq _ (by omega))
  have htks5 := htks5.kept (oq _ (by omega))
  have hcts5 := hcts5.kept (oq _ (by omega))
  have hops5 := hops5.kept (fun q _ _ => oq q (by omega))
  have hlts5 := hlts5.kept (fun q _ _ => oq q (by omega))
  have hf := hf.put oq hsz (by omega)
  have hSs5 := hSs5.wla (k := o 0) (v := σ.1 (54 + o 0) + 1) (by omega) rfl
  rw [← ef8] at hSs5
  refine lv_aload_n hx hb dX2_lapse_43 rfl (lv_at hl 1 rfl) ?_
  refine j_get (T := TX2) (N := 9) (k := 6) hx hb hts hinX2 hown hw hOs5 rfl (by decide) (hts (.fieldLink RX2 33 "NightTrains$Store" "open" "LNightTrains$Orders;") (by decide +kernel)) rfl dX2_lapse_44 ?_
  refine lv_iload_n hx hb dX2_lapse_47 rfl (lv_at hl 2 rfl) ?_
  refine j_Vv (n := 1) (As := [.int (nI (i))]) hx hb hml hown hts hw (j_recv hw hops5.1 rfl) (c_X1_end l g z H (a + 7) (i) Rs (by omega) hops5 (by first | assumption | omega)) gX2_lapse_X1_end rfl (by decide +kernel) ⟨Nat.le_of_ble_eq_true rfl, Nat.le_of_ble_eq_true rfl⟩ rfl hl.1 (Nat.le_of_ble_eq_true rfl) ⟨Nat.zero_le _, Nat.zero_le _⟩ dX2_lapse_48 (fun H locs hr9 hw hsz => ?_) rfl
  obtain ⟨hops5, hf2⟩ := hr9
  have hOs5 := hOs5.kept (hf2.2 _ (by omega))
  have hses5 := hses5.kept (hf2.2 _ (by omega))
  have hpus5 := hpus5.kept (hf2.2 _ (by omega))
  have hdts5 := hdts5.kept (hf2.2 _ (by omega))
  have hlas5 := hlas5.kept (hf2.2 _ (by omega))
  have hfrs5 := hfrs5.kept (hf2.2 _ (by omega))
  have htks5 := htks5.kept (hf2.2 _ (by omega))
  have hcts5 := hcts5.kept (hf2.2 _ (by omega))
  have hlts5 := hlts5.kept (fun q _ _ => hf2.2 q (by omega))
  have hf := hf.step hf2 (by omega)
  refine j_vret hx hb hr hlocks hH hw dX2_lapse_51 ?_
  have hS10 : jSo g H a (upn (upn (payC σ o) 8 (σ.1 8 + 1)) (54 + o 0) (σ.1 (54 + o 0) + 1)) (rput Rs (i) 0 (-1)) := ⟨ses5, pus5, dts5, f8, frs5, tks5, f6, hOs5, hses5, hpus5, hdts5, hlas5, hfrs5, htks5, hops5, hlts5, hcts5, hSs5⟩
  have h9 := hS10
  rw [lapse_C ho0, rput_mark hro] at h9
  exact ⟨rfl, h9, hf⟩

abbrev q_X2_letOrdersWait (g : jG) (H0 : Heap) (a : Nat) (σ : Sg) : Option Value → Heap → Prop := jV (fun H1 => jSo g H1 a (waitS σ) (opnR (waitS σ)) ∧ jF a 12 H0 H1)
set_option maxHeartbeats 4000000 in
set_option maxRecDepth 100000 in
theorem c_X2_letOrdersWait (l : Launch) (g : jG) (z : Nat) (H0 : Heap) (a : Nat) (σ : Sg) (hz : z ≤ a) (hS : jSo g H0 a σ (opnR σ)) (hs : okS σ) (hcalm : ∀ o ∈ σ.2.2.1, o 4 < 9) : jM l g z yX2_letOrdersWait wsX2_letOrdersWait 3 82 [.ref a] H0 (q_X2_letOrdersWait g H0 a σ) := by
  refine j_of (cc := cX2_letOrdersWait) (n := 3) (ret := none) (by decide) rfl (Nat.le_of_ble_eq_true rfl) ?_
  intro p e s m below meth c hx hb hr hml hown hts hlocks hname hH hw ls hl
  have hl : lv_has ls 3 [(0, .ref a)] := hl
  have hinX2 : ∀ w ∈ u_ws RX2 TX2 9, w ∈ wsX2_letOrdersWait := by decide +kernel
  have hf : jF a 12 H0 H0 := jF.rf
  have hl21 := hS.len
  have hln := opnR_len (σ := σ)
  rw [hln] at hl21
  have hS : jSo g H0 a (lpS (σ.1 3) (σ.2.2.1.take 0) σ) (midF (Fw (σ.1 3)) σ.2.2.1 0) := by rw [midF_0]; exact hS
  refine lv_iconst (v := (nI (0))) hx hb dX2_letOrdersWait_0 (by decide) ?_
  refine lv_istore_n (lv' := [(1, .int _), (0, .ref _)]) hx hb dX2_letOrdersWait_1 rfl hl (by decide) rfl (fun ls hl => ?_)
  have lp2 : ∀ (n2 : Nat) (j : Nat) (hj : j ≤ σ.2.2.1.length) (hmu2 : σ.2.2.1.length - j < n2) (H : Heap) (locs : List Loc) (hw : jW g z s H locs) (hf : jF a 12 H0 H) (hS : jSo g H a (lpS (σ.1 3) (σ.2.2.1.take j) σ) (midF (Fw (σ.1 3)) σ.2.2.1 j)) (ls : Array Slot) (hl : lv_has ls 3 [(0, .ref a), (1, .int (nI (j)))]), jK p l e 3 82 s m [.ref a] below meth c z H0 (q_X2_letOrdersWait g H0 a σ) H locs (F0 m 2 ls []) := by
    intro n2
    induction n2 with
    | zero => intros; omega
    | succ n2 ih2 =>
      intro j hj hmu2 H locs hw hf hS ls hl
      have hm9 := midF_len (F := Fw (σ.1 3)) (L := σ.2.2.1) (j := j)
      refine lv_iload_n hx hb dX2_letOrdersWait_2 rfl (lv_at hl 1 rfl) ?_
      refine lv_aload_n hx hb dX2_letOrdersWait_3 rfl (lv_at hl 0 rfl) ?_
      obtain ⟨ses1, pus1, dts1, las1, frs1, tks1, cts1, hOs1, hses1, hpus1, hdts1, hlas1, hfrs1, htks1, hops1, hlts1, hcts1, hSs1⟩ := hS
      have hOs1 : jO g H a 2 [.ref (a + 1), .ref (a + 2), .ref (a + 3), .ref (a + 4), .ref (a + 5), .ref (a + 6), .ref (a + 7), .ref (a + 9), .ref (a + 11)] := hOs1
      have hses1 : jI g H (a + 1) 5 ses1 := hses1
      have hpus1 : jI g H (a + 2) 4 pus1 := hpus1
      have hdts1 : jI g H (a + 3) 4 dts1 := hdts1
      have hlas1 : jI g H (a + 4) 4 las1 := hlas1
      have hfrs1 : jI g H (a + 5) 16 frs1 := hfrs1
      have htks1 : jI g H (a + 6) 16 tks1 := htks1
      have hcts1 : jI g H (a + 11) 11 cts1 := hcts1
      have hops1 : jOr g H (a + 7) (midF (Fw (σ.1 3)) σ.2.2.1 j) := hops1
      have hlts1 : jOr g H (a + 9) (latR (lpS (σ.1 3) (σ.2.2.1.take j) σ)) := hlts1
      refine j_get (T := TX2) (N := 9) (k := 6) hx hb hts hinX2 hown hw hOs1 rfl (by decide) (hts (.fieldLink RX2 33 "NightTrains$Store" "open" "LNightTrains$Orders;") (by decide +kernel)) rfl dX2_letOrdersWait_4 ?_
      refine j_Vp (n := 0) (As := []) hx hb hml hown hts hw (j_recv hw hops1.1 rfl) (c_X1_size l g z H (a + 7) (midF (Fw (σ.1 3)) σ.2.2.1 j) (by omega) hops1 ) gX2_letOrdersWait_X1_size rfl (by decide +kernel) ⟨Nat.le_of_ble_eq_true rfl, Nat.le_of_ble_eq_true rfl⟩ rfl hl.1 (Nat.le_of_ble_eq_true rfl) ⟨Nat.zero_le _, Nat.zero_le _⟩ dX2_letOrdersWait_7 (fun r2 locs hr2 hw => ?_) rfl
      obtain rfl : r2 = (nI ((midF (Fw (σ.1 3)) σ.2.2.1 j).length)) := hr2
      refine jn_ge (tgt := 56) hx hb dX2_letOrdersWait_10 (by decide) (by omega) (by omega) (fun c10 => ?_) (fun c10 => ?_)
      · have hS3 : jSo g H a (lpS (σ.1 3) (σ.2.2.1.take j) σ) (midF (Fw (σ.1 3)) σ.2.2.1 j) := ⟨ses1, pus1, dts1, las1, frs1, tks1, cts1, hOs1, hses1, hpus1, hdts1, hlas1, hfrs1, htks1, hops1, hlts1, hcts1, hSs1⟩
        obtain rfl : j = σ.2.2.1.length := by omega
        rw [List.take_length] at hS3
        refine lv_aload_n hx hb dX2_letOrdersWait_56 rfl (lv_at hl 0 rfl) ?_
        obtain ⟨ses4, pus4, dts4, las4, frs4, tks4, cts4, hOs4, hses4, hpus4, hdts4, hlas4, hfrs4, htks4, hops4, hlts4, hcts4, hSs4⟩ := hS3
        have hOs4 : jO g H a 2 [.ref (a + 1), .ref (a + 2), .ref (a + 3), .ref (a + 4), .ref (a + 5), .ref (a + 6), .ref (a + 7), .ref (a + 9), .ref (a + 11)] := hOs4
        have hses4 : jI g H (a + 1) 5 ses4 := hses4
        have hpus4 : jI g H (a + 2) 4 pus4 := hpus4
        have hdts4 : jI g H (a + 3) 4 dts4 := hdts4
        have hlas4 : jI g H (a + 4) 4 las4 := hlas4
        have hfrs4 : jI g H (a + 5) 16 frs4 := hfrs4
        have htks4 : jI g H (a + 6) 16 tks4 := htks4
        have hcts4 : jI g H (a + 11) 11 cts4 := hcts4
        have hops4 : jOr g H (a + 7) (midF (Fw (σ.1 3)) σ.2.2.1 σ.2.2.1.length) := hops4
        have hlts4 : jOr g H (a + 9) (latR (lpS (σ.1 3) σ.2.2.1 σ)) := hlts4
        refine j_get (T := TX2) (N := 9) (k := 6) hx hb hts hinX2 hown hw hOs4 rfl (by decide) (hts (.fieldLink RX2 33 "NightTrains$Store" "open" "LNightTrains$Orders;") (by decide +kernel)) rfl dX2_letOrdersWait_57 ?_
        refine j_Vv (n := 0) (As := []) hx hb hml hown hts hw (j_recv hw hops4.1 rfl) (c_X1_closeGaps l g z H (a + 7) (midF (Fw (σ.1 3)) σ.2.2.1 σ.2.2.1.length) (by omega) hops4 ) gX2_letOrdersWait_X1_closeGaps rfl (by decide +kernel) ⟨Nat.le_of_ble_eq_true rfl, Nat.le_of_ble_eq_true rfl⟩ rfl hl.1 (Nat.le_of_ble_eq_true rfl) ⟨Nat.zero_le _, Nat.zero_le _⟩ dX2_letOrdersWait_60 (fun H locs hr5 hw hsz => ?_) rfl
        obtain ⟨hops4, hf2⟩ := hr5
        have hOs4 := hOs4.kept (hf2.2 _ (by omega))
        have hses4 := hses4.kept (hf2.2 _ (by omega))
        have hpus4 := hpus4.kept (hf2.2 _ (by omega))
        have hdts4 := hdts4.kept (hf2.2 _ (by omega))
        have hlas4 := hlas4.kept (hf2.2 _ (by omega))
        have hfrs4 := hfrs4.kept (hf2.2 _ (by omega))
        have htks4 := htks4.kept (hf2.2 _ (by omega))
        have hcts4 := hcts4.kept (hf2.2 _ (by omega))
        have hlts4 := hlts4.kept (fun q _ _ => hf2.2 q (by omega))
        have hf := hf.step hf2 (by omega)
        rw [midF_n, kpt_w (fun x hx => Nat.lt_trans (hs.2.2.2.1 x hx).1 (by decide))] at hops4
        refine j_vret hx hb hr hlocks hH hw dX2_letOrdersWait_63 ?_
        have hS6 : jSo g H a (waitS σ) (opnR (waitS σ)) := ⟨ses4, pus4, dts4, las4, frs4, tks4, cts4, hOs4, hses4, hpus4, hdts4, hlas4, hfrs4, htks4, hops4, hlts4, hcts4, hSs4⟩
        exact ⟨rfl, hS6, hf⟩
      · obtain ⟨o, hoj⟩ := getO (L := σ.2.2.1) (k := j) (by omega)
        have hro := midF_get (F := Fw (σ.1 3)) hoj
        obtain ⟨ho0, ho1, ho2, ho3, ho4, ho5⟩ := hs.2.2.2.1 o (memO hoj)
        have hoc := hcalm o (memO hoj)
        have hx3 : (lpS (σ.1 3) (σ.2.2.1.take j) σ).1 3 = σ.1 3 := lpS_low _ _ _ (fun x hx => hs.2.2.2.1 x (List.mem_of_mem_take hx)) 3 (by omega)
        have hp9 := hs.1.2.2.2.2.2.2.1
        refine lv_aload_n hx hb dX2_letOrdersWait_13 rfl (lv_at hl 0 rfl) ?_
        refine j_get (T := TX2) (N := 9) (k := 6) hx hb hts hinX2 hown hw hOs1 rfl (by decide) (hts (.fieldLink RX2 33 "NightTrains$Store" "open" "LNightTrains$Orders;") (by decide +kernel)) rfl dX2_letOrdersWait_14 ?_
        refine lv_iload_n hx hb dX2_letOrdersWait_17 rfl (lv_at hl 1 rfl) ?_
        refine lv_iconst (v := (nI (4))) hx hb dX2_letOrdersWait_18 (by decide) ?_
        refine j_Vp (n := 2) (As := [.int (nI (j)), .int (nI (4))]) hx hb hml hown hts hw (j_recv hw hops1.1 rfl) (c_X1_get l g z H (a + 7) (nI (j)) (nI (4)) (midF (Fw (σ.1 3)) σ.2.2.1 j) (by omega) hops1 ) gX2_letOrdersWait_X1_get rfl (by decide +kernel) ⟨Nat.le_of_ble_eq_true rfl, Nat.le_of_ble_eq_true rfl⟩ rfl hl.1 (Nat.le_of_ble_eq_true rfl) ⟨Nat.zero_le _, Nat.zero_le _⟩ dX2_letOrdersWait_19 (fun r7 locs hr7 hw => ?_) rfl
        obtain rfl : r7 = nI (o 4) := hr7.trans (gtR_o hro (by decide) (by rw [midF_len]; omega))
        refine lv_iconst (v := (nI (1))) hx hb dX2_letOrdersWait_22 (by decide) ?_
        refine j_addN hx hb dX2_letOrdersWait_23 ?_
        refine lv_istore_n (lv' := [(2, .int _), (0, .ref _), (1, .int _)]) hx hb dX2_letOrdersWait_24 rfl hl (by decide) rfl (fun ls hl => ?_)
        refine lv_aload_n hx hb dX2_letOrdersWait_25 rfl (lv_at hl 1 rfl) ?_
        refine j_get (T := TX2) (N := 9) (k := 6) hx hb hts hinX2 hown hw hOs1 rfl (by decide) (hts (.fieldLink RX2 33 "NightTrains$Store" "open" "LNightTrains$Orders;") (by decide +kernel)) rfl dX2_letOrdersWait_26 ?_
        refine lv_iload_n hx hb dX2_letOrdersWait_29 rfl (lv_at hl 2 rfl) ?_
        refine lv_iconst (v := (nI (4))) hx hb dX2_letOrdersWait_30 (by decide) ?_
        refine lv_iload_n hx hb dX2_letOrdersWait_31 rfl (lv_at hl 0 rfl) ?_
        refine j_Vv (n := 3) (As := [.int (nI (j)), .int (nI (4)), .int (nI (((o 4) + 1)))]) hx hb hml hown hts hw (j_recv hw hops1.1 rfl) (c_X1_put l g z H (a + 7) (j) (4) (nI (((o 4) + 1))) (midF (Fw (σ.1 3)) σ.2.2.1 j) (by omega) hops1 (by rw [midF_len]; omega) (by first | assumption | omega)) gX2_letOrdersWait_X1_put rfl (by decide +kernel) ⟨Nat.le_of_ble_eq_true rfl, Nat.le_of_ble_eq_true rfl⟩ rfl hl.1 (Nat.le_of_ble_eq_true rfl) ⟨Nat.zero_le _, Nat.zero_le _⟩ dX2_letOrdersWait_32 (fun H locs hr8 hw hsz => ?_) rfl
        obtain ⟨hops1, hf2⟩ := hr8
        have hOs1 := hOs1.kept (hf2.2 _ (by omega))
        have hses1 := hses1.kept (hf2.2 _ (by omega))
        have hpus1 := hpus1.kept (hf2.2 _ (by omega))
        have hdts1 := hdts1.kept (hf2.2 _ (by omega))
        have hlas1 := hlas1.kept (hf2.2 _ (by omega))
        have hfrs1 := hfrs1.kept (hf2.2 _ (by omega))
        have htks1 := htks1.kept (hf2.2 _ (by omega))
        have hcts1 := hcts1.kept (hf2.2 _ (by omega))
        have hlts1 := hlts1.kept (fun q _ _ => hf2.2 q (by omega))
        have hf := hf.step hf2 (by omega)
        rw [rput_o hro (by decide)] at hops1
        have hro2 : ((midF (Fw (σ.1 3)) σ.2.2.1 j).set j (oRow (nSet o 4 (o 4 + 1))))[j]? = some (oRow (nSet o 4 (o 4 + 1))) := List.getElem?_set_self (by rw [midF_len]; omega)
        have hoo2 := (show okO o from ⟨ho0, ho1, ho2, ho3, ho4, ho5⟩).wait (v := o 4 + 1) (by omega)
        refine lv_iload_n hx hb dX2_letOrdersWait_35 rfl (lv_at hl 0 rfl) ?_
        refine lv_aload_n hx hb dX2_letOrdersWait_36 rfl (lv_at hl 1 rfl) ?_
        refine j_get (T := TX2) (N := 9) (k := 0) hx hb hts hinX2 hown hw hOs1 rfl (by decide) (hts (.fieldLink RX2 9 "NightTrains$Store" "settings" "[I") (by decide +kernel)) rfl dX2_letOrdersWait_37 ?_
        refine lv_iconst (v := (nI (3))) hx hb dX2_letOrdersWait_40 (by decide) ?_
        refine j_iald hx hb hw hses1 (k := 3) rfl (by omega) (by omega) dX2_letOrdersWait_41 ?_
        refine j_eq (y := nI (σ.1 3)) ((hSs1.rse (k := 3) (by omega)).trans (congrArg nI hx3)) ?_
        refine jn_lt (tgt := 50) hx hb dX2_letOrdersWait_42 (by decide) (by omega) (by omega) (fun c42 => ?_) (fun c42 => ?_)
        · have hS9 : jSo g H a (lpS (σ.1 3) (σ.2.2.1.take j) σ) ((midF (Fw (σ.1 3)) σ.2.2.1 j).set j (oRow (nSet o 4 (o 4 + 1)))) := ⟨ses1, pus1, dts1, las1, frs1, tks1, cts1, hOs1, hses1, hpus1, hdts1, hlas1, hfrs1, htks1, hops1, hlts1, hcts1, hSs1⟩
          have hS : jSo g H a (lpS (σ.1 3) (σ.2.2.1.take (j + 1)) σ) (midF (Fw (σ.1 3)) σ.2.2.1 (j + 1)) := by rw [← lp_miss hoj (by omega), ← midF_set hoj, show Fw (σ.1 3) o = oRow (nSet o 4 (o 4 + 1)) from if_neg (by omega)]; exact hS9
          refine lv_iinc (v := nI (j + 1)) (lv' := [(1, .int _), (2, .int _), (0, .ref _)]) hx hb dX2_letOrdersWait_50 hl (k := 2) rfl (nI_add _ 1) (by decide) rfl (fun ls hl => ?_)
          refine lv_goto (tgt := 2) hx hb dX2_letOrdersWait_53 (by decide) ?_
          exact ih2  (j + 1) (by first | assumption | omega) (by omega) H _ hw hf hS _ (lv_sub hl [2, 0] rfl)
        · refine lv_aload_n hx hb dX2_letOrdersWait_45 rfl (lv_at hl 1 rfl) ?_
          refine lv_iload_n hx hb dX2_letOrdersWait_46 rfl (lv_at hl 2 rfl) ?_
          have hS10 : jSo g H a (lpS (σ.1 3) (σ.2.2.1.take j) σ) ((midF (Fw (σ.1 3)) σ.2.2.1 j).set j (oRow (nSet o 4 (o 4 + 1)))) := ⟨ses1, pus1, dts1, las1, frs1, tks1, cts1, hOs1, hses1, hpus1, hdts1, hlas1, hfrs1, htks1, hops1, hlts1, hcts1, hSs1⟩
          refine j_Vv (n := 1) (As := [.int (nI (j))]) hx hb hml hown hts hw (j_recv hw hS10.obj rfl) (c_X2_lapse l g z H a (j) (lpS (σ.1 3) (σ.2.2.1.take j) σ) ((midF (Fw (σ.1 3)) σ.2.2.1 j).set j (oRow (nSet o 4 (o 4 + 1)))) (nSet o 4 (o 4 + 1)) (by omega) hS10 hro2 hoo2) gX2_letOrdersWait_X2_lapse rfl (by decide +kernel) ⟨Nat.le_of_ble_eq_true rfl, Nat.le_of_ble_eq_true rfl⟩ rfl hl.1 (Nat.le_of_ble_eq_true rfl) ⟨Nat.zero_le _, Nat.zero_le _⟩ dX2_letOrdersWait_47 (fun H locs hr11 hw hsz => ?_) rfl
          obtain ⟨hS10, hf2⟩ := hr11
          have hf := hf.step hf2 (by omega)
          have hS : jSo g H a (lpS (σ.1 3) (σ.2.2.1.take (j + 1)) σ) (midF (Fw (σ.1 3)) σ.2.2.1 (j + 1)) := by rw [← lp_hit hoj (Nat.not_lt.mp (fun q => c42 (by omega))), ← midF_set hoj, show Fw (σ.1 3) o = mark (oRow (nSet o 4 (o 4 + 1))) from if_pos (by omega), ← set_set9]; exact hS10
          refine lv_iinc (v := nI (j + 1)) (lv' := [(1, .int _), (2, .int _), (0, .ref _)]) hx hb dX2_letOrdersWait_50 hl (k := 2) rfl (nI_add _ 1) (by decide) rfl (fun ls hl => ?_)
          refine lv_goto (tgt := 2) hx hb dX2_letOrdersWait_53 (by decide) ?_
          exact ih2  (j + 1) (by first | assumption | omega) (by omega) H _ hw hf hS _ (lv_sub hl [2, 0] rfl)
  exact lp2 (σ.2.2.1.length - 0 + 1) 0 (by first | assumption | omega) (by omega) H0 _ hw hf hS _ (lv_sub hl [1, 0] rfl)
