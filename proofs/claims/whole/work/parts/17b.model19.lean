abbrev q_X2_lotsInFront (g : jG) (H0 : Heap) (a : Nat) (σ : Sg) (Rs : List OR) : Option Value → Heap → Prop := jN (fun r H1 => H1 = H0 ∧ (r = nI (fcnt σ.1 16)))
set_option maxHeartbeats 4000000 in
set_option maxRecDepth 100000 in
theorem c_X2_lotsInFront (l : Launch) (g : jG) (z : Nat) (H0 : Heap) (a : Nat) (σ : Sg) (Rs : List OR) (hz : z ≤ a) (hS : jSo g H0 a σ Rs) (hs : okS σ) : jM l g z yX2_lotsInFront wsX2_lotsInFront 0 0 [.ref a] H0 (q_X2_lotsInFront g H0 a σ Rs) := by
  refine j_of (cc := cX2_lotsInFront) (n := 3) (ret := some .int) (by decide) rfl (Nat.le_of_ble_eq_true rfl) ?_
  intro p e s m below meth c hx hb hr hml hown hts hlocks hname hH hw ls hl
  have hl : lv_has ls 3 [(0, .ref a)] := hl
  have hinX2 : ∀ w ∈ u_ws RX2 TX2 9, w ∈ wsX2_lotsInFront := by decide +kernel
  have hl21 := hS.len
  refine lv_iconst (v := (nI (0))) hx hb dX2_lotsInFront_0 (by decide) ?_
  refine lv_istore_n (lv' := [(1, .int _), (0, .ref _)]) hx hb dX2_lotsInFront_1 rfl hl (by decide) rfl (fun ls hl => ?_)
  refine lv_iconst (v := (nI (0))) hx hb dX2_lotsInFront_2 (by decide) ?_
  refine lv_istore_n (lv' := [(2, .int _), (1, .int _), (0, .ref _)]) hx hb dX2_lotsInFront_3 rfl hl (by decide) rfl (fun ls hl => ?_)
  have lp4 : ∀ (n4 : Nat) (k : Nat) (hk : k ≤ 16) (hmu4 : 16 - k < n4) (locs : List Loc) (hw : jW g z s H0 locs) (ls : Array Slot) (hl : lv_has ls 3 [(0, .ref a), (1, .int (nI (fcnt σ.1 k))), (2, .int (nI (k)))]), jK p l e 0 0 s m [.ref a] below meth c z H0 (q_X2_lotsInFront g H0 a σ Rs) H0 locs (F0 m 4 ls []) := by
    intro n4
    induction n4 with
    | zero => intros; omega
    | succ n4 ih4 =>
      intro k hk hmu4 locs hw  ls hl
      refine lv_iload_n hx hb dX2_lotsInFront_4 rfl (lv_at hl 2 rfl) ?_
      refine lv_bipush (v := (nI (16))) hx hb dX2_lotsInFront_5 (by decide) ?_
      refine jn_ge (tgt := 29) hx hb dX2_lotsInFront_7 (by decide) (by omega) (by omega) (fun c7 => ?_) (fun c7 => ?_)
      · obtain rfl : k = 16 := by omega
        refine lv_iload_n hx hb dX2_lotsInFront_29 rfl (lv_at hl 1 rfl) ?_
        refine j_iret hx hb hr hlocks hH hw dX2_lotsInFront_30 ?_
        exact ⟨_, rfl, rfl, rfl⟩
      · have hfk := hs.2.1 k (by omega)
        refine lv_aload_n hx hb dX2_lotsInFront_10 rfl (lv_at hl 0 rfl) ?_
        obtain ⟨ses1, pus1, dts1, las1, frs1, tks1, cts1, hOs1, hses1, hpus1, hdts1, hlas1, hfrs1, htks1, hops1, hlts1, hcts1, hSs1⟩ := hS
        have hOs1 : jO g H0 a 2 [.ref (a + 1), .ref (a + 2), .ref (a + 3), .ref (a + 4), .ref (a + 5), .ref (a + 6), .ref (a + 7), .ref (a + 9), .ref (a + 11)] := hOs1
        have hses1 : jI g H0 (a + 1) 5 ses1 := hses1
        have hpus1 : jI g H0 (a + 2) 4 pus1 := hpus1
        have hdts1 : jI g H0 (a + 3) 4 dts1 := hdts1
        have hlas1 : jI g H0 (a + 4) 4 las1 := hlas1
        have hfrs1 : jI g H0 (a + 5) 16 frs1 := hfrs1
        have htks1 : jI g H0 (a + 6) 16 tks1 := htks1
        have hcts1 : jI g H0 (a + 11) 11 cts1 := hcts1
        have hops1 : jOr g H0 (a + 7) Rs := hops1
        have hlts1 : jOr g H0 (a + 9) (latR σ) := hlts1
        refine j_get (T := TX2) (N := 9) (k := 4) hx hb hts hinX2 hown hw hOs1 rfl (by decide) (hts (.fieldLink RX2 24 "NightTrains$Store" "front" "[I") (by decide +kernel)) rfl dX2_lotsInFront_11 ?_
        refine lv_iload_n hx hb dX2_lotsInFront_14 rfl (lv_at hl 2 rfl) ?_
        refine j_iald hx hb hw hfrs1 (k := k) rfl (by omega) (by omega) dX2_lotsInFront_15 ?_
        refine j_eq (y := (nI (σ.1 (14 + k)) - nI 1)) (hSs1.rfr (k := k) (by omega)) ?_
        refine lv_iconst (v := (-1)) hx hb dX2_lotsInFront_16 (by decide) ?_
        refine lv_icmp_eq (tgt := 23) hx hb dX2_lotsInFront_17 (by decide) (fun c17 => ?_) (fun c17 => ?_)
        · have hk7 : fcnt σ.1 (k + 1) = fcnt σ.1 k := by simp only [fcnt]; rw [if_neg (by have := (fr_in (by omega)).mp c17; omega)]; rfl
          rw [← hk7] at hl
          refine lv_iinc (v := nI (k + 1)) (lv' := [(2, .int _), (0, .ref _), (1, .int _)]) hx hb dX2_lotsInFront_23 hl (k := 2) rfl (nI_add _ 1) (by decide) rfl (fun ls hl => ?_)
          refine lv_goto (tgt := 4) hx hb dX2_lotsInFront_26 (by decide) ?_
          exact ih4  (k + 1) (by first | assumption | omega) (by omega) _ hw _ (lv_sub hl [1, 2, 0] rfl)
        · refine lv_iinc (v := nI (fcnt σ.1 k + 1)) (lv' := [(1, .int _), (0, .ref _), (2, .int _)]) hx hb dX2_lotsInFront_20 hl (k := 1) rfl (nI_add _ 1) (by decide) rfl (fun ls hl => ?_)
          have hk7 : fcnt σ.1 (k + 1) = fcnt σ.1 k + 1 := by simp only [fcnt]; rw [if_pos (Nat.pos_of_ne_zero (fun q => c17 ((fr_in (by omega)).mpr q)))]
          rw [← hk7] at hl
          refine lv_iinc (v := nI (k + 1)) (lv' := [(2, .int _), (1, .int _), (0, .ref _)]) hx hb dX2_lotsInFront_23 hl (k := 2) rfl (nI_add _ 1) (by decide) rfl (fun ls hl => ?_)
          refine lv_goto (tgt := 4) hx hb dX2_lotsInFront_26 (by decide) ?_
          exact ih4  (k + 1) (by first | assumption | omega) (by omega) _ hw _ (lv_sub hl [2, 1, 0] rfl)
  exact lp4 (16 - (0) + 1) (0) (by first | assumption | omega) (by omega) _ hw _ (lv_sub hl [2, 1, 0] rfl)

abbrev q_X2_feesHeld (g : jG) (H0 : Heap) (a : Nat) (σ : Sg) (Rs : List OR) : Option Value → Heap → Prop := jN (fun r H1 => H1 = H0 ∧ (r = allR Rs))
set_option maxHeartbeats 4000000 in
set_option maxRecDepth 100000 in
theorem c_X2_feesHeld (l : Launch) (g : jG) (z : Nat) (H0 : Heap) (a : Nat) (σ : Sg) (Rs : List OR) (hz : z ≤ a) (hS : jSo g H0 a σ Rs) : jM l g z yX2_feesHeld wsX2_feesHeld 1 23 [.ref a] H0 (q_X2_feesHeld g H0 a σ Rs) := by
  refine j_of (cc := cX2_feesHeld) (n := 3) (ret := some .int) (by decide) rfl (Nat.le_of_ble_eq_true rfl) ?_
  intro p e s m below meth c hx hb hr hml hown hts hlocks hname hH hw ls hl
  have hl : lv_has ls 3 [(0, .ref a)] := hl
  have hinX2 : ∀ w ∈ u_ws RX2 TX2 9, w ∈ wsX2_feesHeld := by decide +kernel
  have hl21 := hS.len
  refine lv_iconst (v := (nI (0))) hx hb dX2_feesHeld_0 (by decide) ?_
  refine lv_istore_n (lv' := [(1, .int _), (0, .ref _)]) hx hb dX2_feesHeld_1 rfl hl (by decide) rfl (fun ls hl => ?_)
  refine lv_iconst (v := (nI (0))) hx hb dX2_feesHeld_2 (by decide) ?_
  refine lv_istore_n (lv' := [(2, .int _), (1, .int _), (0, .ref _)]) hx hb dX2_feesHeld_3 rfl hl (by decide) rfl (fun ls hl => ?_)
  have lp4 : ∀ (n4 : Nat) (k : Nat) (hk : k ≤ Rs.length) (hmu4 : Rs.length - k < n4) (locs : List Loc) (hw : jW g z s H0 locs) (ls : Array Slot) (hl : lv_has ls 3 [(0, .ref a), (1, .int (allR (Rs.take k))), (2, .int (nI (k)))]), jK p l e 1 23 s m [.ref a] below meth c z H0 (q_X2_feesHeld g H0 a σ Rs) H0 locs (F0 m 4 ls []) := by
    intro n4
    induction n4 with
    | zero => intros; omega
    | succ n4 ih4 =>
      intro k hk hmu4 locs hw  ls hl
      refine lv_iload_n hx hb dX2_feesHeld_4 rfl (lv_at hl 2 rfl) ?_
      refine lv_aload_n hx hb dX2_feesHeld_5 rfl (lv_at hl 0 rfl) ?_
      obtain ⟨ses1, pus1, dts1, las1, frs1, tks1, cts1, hOs1, hses1, hpus1, hdts1, hlas1, hfrs1, htks1, hops1, hlts1, hcts1, hSs1⟩ := hS
      have hOs1 : jO g H0 a 2 [.ref (a + 1), .ref (a + 2), .ref (a + 3), .ref (a + 4), .ref (a + 5), .ref (a + 6), .ref (a + 7), .ref (a + 9), .ref (a + 11)] := hOs1
      have hses1 : jI g H0 (a + 1) 5 ses1 := hses1
      have hpus1 : jI g H0 (a + 2) 4 pus1 := hpus1
      have hdts1 : jI g H0 (a + 3) 4 dts1 := hdts1
      have hlas1 : jI g H0 (a + 4) 4 las1 := hlas1
      have hfrs1 : jI g H0 (a + 5) 16 frs1 := hfrs1
      have htks1 : jI g H0 (a + 6) 16 tks1 := htks1
      have hcts1 : jI g H0 (a + 11) 11 cts1 := hcts1
      have hops1 : jOr g H0 (a + 7) Rs := hops1
      have hlts1 : jOr g H0 (a + 9) (latR σ) := hlts1
      refine j_get (T := TX2) (N := 9) (k := 6) hx hb hts hinX2 hown hw hOs1 rfl (by decide) (hts (.fieldLink RX2 33 "NightTrains$Store" "open" "LNightTrains$Orders;") (by decide +kernel)) rfl dX2_feesHeld_6 ?_
      refine j_Vp (n := 0) (As := []) hx hb hml hown hts hw (j_recv hw hops1.1 rfl) (c_X1_size l g z H0 (a + 7) Rs (by omega) hops1 ) gX2_feesHeld_X1_size rfl (by decide +kernel) ⟨Nat.le_of_ble_eq_true rfl, Nat.le_of_ble_eq_true rfl⟩ rfl hl.1 (Nat.le_of_ble_eq_true rfl) ⟨Nat.zero_le _, Nat.zero_le _⟩ dX2_feesHeld_9 (fun r2 locs hr2 hw => ?_) rfl
      obtain rfl : r2 = (nI (Rs.length)) := hr2
      refine jn_ge (tgt := 33) hx hb dX2_feesHeld_12 (by decide) (by omega) (by omega) (fun c12 => ?_) (fun c12 => ?_)
      · obtain rfl : k = Rs.length := by omega
        refine lv_iload_n hx hb dX2_feesHeld_33 rfl (lv_at hl 1 rfl) ?_
        refine j_iret hx hb hr hlocks hH hw dX2_feesHeld_34 ?_
        exact ⟨_, rfl, rfl, by rw [List.take_length]⟩
      · obtain ⟨rr, hrr⟩ : ∃ rr, Rs[k]? = some rr := ⟨Rs[k], List.getElem?_eq_getElem (by omega)⟩
        refine lv_iload_n hx hb dX2_feesHeld_15 rfl (lv_at hl 1 rfl) ?_
        refine lv_aload_n hx hb dX2_feesHeld_16 rfl (lv_at hl 0 rfl) ?_
        refine j_get (T := TX2) (N := 9) (k := 6) hx hb hts hinX2 hown hw hOs1 rfl (by decide) (hts (.fieldLink RX2 33 "NightTrains$Store" "open" "LNightTrains$Orders;") (by decide +kernel)) rfl dX2_feesHeld_17 ?_
        refine lv_iload_n hx hb dX2_feesHeld_20 rfl (lv_at hl 2 rfl) ?_
        refine lv_iconst (v := (nI (3))) hx hb dX2_feesHeld_21 (by decide) ?_
        refine j_Vp (n := 2) (As := [.int (nI (k)), .int (nI (3))]) hx hb hml hown hts hw (j_recv hw hops1.1 rfl) (c_X1_get l g z H0 (a + 7) (nI (k)) (nI (3)) Rs (by omega) hops1 ) gX2_feesHeld_X1_get rfl (by decide +kernel) ⟨Nat.le_of_ble_eq_true rfl, Nat.le_of_ble_eq_true rfl⟩ rfl hl.1 (Nat.le_of_ble_eq_true rfl) ⟨Nat.zero_le _, Nat.zero_le _⟩ dX2_feesHeld_22 (fun r3 locs hr3 hw => ?_) rfl
        obtain rfl : r3 = rr 3 := hr3.trans (gtR_in hrr (by decide) (by omega))
        refine lv_iadd hx hb dX2_feesHeld_25 ?_
        refine lv_istore_n (lv' := [(1, .int _), (0, .ref _), (2, .int _)]) hx hb dX2_feesHeld_26 rfl hl (by decide) rfl (fun ls hl => ?_)
        rw [← allR_take hrr] at hl
        refine lv_iinc (v := nI (k + 1)) (lv' := [(2, .int _), (1, .int _), (0, .ref _)]) hx hb dX2_feesHeld_27 hl (k := 2) rfl (nI_add _ 1) (by decide) rfl (fun ls hl => ?_)
        refine lv_goto (tgt := 4) hx hb dX2_feesHeld_30 (by decide) ?_
        exact ih4  (k + 1) (by first | assumption | omega) (by omega) _ hw _ (lv_sub hl [2, 1, 0] rfl)
  exact lp4 (Rs.length - (0) + 1) (0) (by first | assumption | omega) (by omega) _ hw _ (lv_sub hl [2, 1, 0] rfl)

abbrev q_X2_openOf (g : jG) (H0 : Heap) (a : Nat) (kd : Nat) (x : Int32) (σ : Sg) (Rs : List OR) : Option Value → Heap → Prop := jN (fun r H1 => H1 = H0 ∧ (r = nI (cntR kd x Rs)))
set_option maxHeartbeats 4000000 in
set_option maxRecDepth 100000 in
theorem c_X2_openOf (l : Launch) (g : jG) (z : Nat) (H0 : Heap) (a : Nat) (kd : Nat) (x : Int32) (σ : Sg) (Rs : List OR) (hz : z ≤ a) (hS : jSo g H0 a σ Rs) (hkd : kd < 5) : jM l g z yX2_openOf wsX2_openOf 1 23 [.ref a, .int (nI (kd)), .int x] H0 (q_X2_openOf g H0 a kd x σ Rs) := by
  refine j_of (cc := cX2_openOf) (n := 5) (ret := some .int) (by decide) rfl (Nat.le_of_ble_eq_true rfl) ?_
  intro p e s m below meth c hx hb hr hml hown hts hlocks hname hH hw ls hl
  have hl : lv_has ls 5 [(0, .ref a), (1, .int (nI (kd))), (2, .int x)] := hl
  have hinX2 : ∀ w ∈ u_ws RX2 TX2 9, w ∈ wsX2_openOf := by decide +kernel
  have hl21 := hS.len
  refine lv_iconst (v := (nI (0))) hx hb dX2_openOf_0 (by decide) ?_
  refine lv_istore_n (lv' := [(3, .int _), (0, .ref _), (1, .int _), (2, .int _)]) hx hb dX2_openOf_1 rfl hl (by decide) rfl (fun ls hl => ?_)
  refine lv_iconst (v := (nI (0))) hx hb dX2_openOf_2 (by decide) ?_
  refine lv_istore (lv' := [(4, .int _), (3, .int _), (0, .ref _), (1, .int _), (2, .int _)]) hx hb dX2_openOf_3 hl (by decide) rfl (fun ls hl => ?_)
  have lp5 : ∀ (n5 : Nat) (k : Nat) (hk : k ≤ Rs.length) (hmu5 : Rs.length - k < n5) (locs : List Loc) (hw : jW g z s H0 locs) (ls : Array Slot) (hl : lv_has ls 5 [(0, .ref a), (1, .int (nI (kd))), (2, .int x), (3, .int (nI (cntR kd x (Rs.take k)))), (4, .int (nI (k)))]), jK p l e 1 23 s m [.ref a, .int (nI (kd)), .int x] below meth c z H0 (q_X2_openOf g H0 a kd x σ Rs) H0 locs (F0 m 5 ls []) := by
    intro n5
    induction n5 with
    | zero => intros; omega
    | succ n5 ih5 =>
      intro k hk hmu5 locs hw  ls hl
      refine lv_iload hx hb dX2_openOf_5 (lv_at hl 4 rfl) ?_
      refine lv_aload_n hx hb dX2_openOf_7 rfl (lv_at hl 0 rfl) ?_
      obtain ⟨ses1, pus1, dts1, las1, frs1, tks1, cts1, hOs1, hses1, hpus1, hdts1, hlas1, hfrs1, htks1, hops1, hlts1, hcts1, hSs1⟩ := hS
      have hOs1 : jO g H0 a 2 [.ref (a + 1), .ref (a + 2), .ref (a + 3), .ref (a + 4), .ref (a + 5), .ref (a + 6), .ref (a + 7), .ref (a + 9), .ref (a + 11)] := hOs1
      have hses1 : jI g H0 (a + 1) 5 ses1 := hses1
      have hpus1 : jI g H0 (a + 2) 4 pus1 := hpus1
      have hdts1 : jI g H0 (a + 3) 4 dts1 := hdts1
      have hlas1 : jI g H0 (a + 4) 4 las1 := hlas1
      have hfrs1 : jI g H0 (a + 5) 16 frs1 := hfrs1
      have htks1 : jI g H0 (a + 6) 16 tks1 := htks1
      have hcts1 : jI g H0 (a + 11) 11 cts1 := hcts1
      have hops1 : jOr g H0 (a + 7) Rs := hops1
      have hlts1 : jOr g H0 (a + 9) (latR σ) := hlts1
      refine j_get (T := TX2) (N := 9) (k := 6) hx hb hts hinX2 hown hw hOs1 rfl (by decide) (hts (.fieldLink RX2 33 "NightTrains$Store" "open" "LNightTrains$Orders;") (by decide +kernel)) rfl dX2_openOf_8 ?_
      refine j_Vp (n := 0) (As := []) hx hb hml hown hts hw (j_recv hw hops1.1 rfl) (c_X1_size l g z H0 (a + 7) Rs (by omega) hops1 ) gX2_openOf_X1_size rfl (by decide +kernel) ⟨Nat.le_of_ble_eq_true rfl, Nat.le_of_ble_eq_true rfl⟩ rfl hl.1 (Nat.le_of_ble_eq_true rfl) ⟨Nat.zero_le _, Nat.zero_le _⟩ dX2_openOf_11 (fun r2 locs hr2 hw => ?_) rfl
      obtain rfl : r2 = (nI (Rs.length)) := hr2
      refine jn_ge (tgt := 40) hx hb dX2_openOf_14 (by decide) (by omega) (by omega) (fun c14 => ?_) (fun c14 => ?_)
      · obtain rfl : k = Rs.length := by omega
        refine lv_iload_n hx hb dX2_openOf_40 rfl (lv_at hl 3 rfl) ?_
        refine j_iret hx hb hr hlocks hH hw dX2_openOf_41 ?_
        exact ⟨_, rfl, rfl, by rw [List.take_length]⟩
      · obtain ⟨rr, hrr⟩ : ∃ rr, Rs[k]? = some rr := ⟨Rs[k], List.getElem?_eq_getElem (by omega)⟩
        refine lv_aload_n hx hb dX2_openOf_17 rfl (lv_at hl 0 rfl) ?_
        refine j_get (T := TX2) (N := 9) (k := 6) hx hb hts hinX2 hown hw hOs1 rfl (by decide) (hts (.fieldLink RX2 33 "NightTrains$Store" "open" "LNightTrains$Orders;") (by decide +kernel)) rfl dX2_openOf_18 ?_
        refine lv_iload hx hb dX2_openOf_21 (lv_at hl 4 rfl) ?_
        refine lv_iload_n hx hb dX2_openOf_23 rfl (lv_at hl 1 rfl) ?_
        refine j_Vp (n := 2) (As := [.int (nI (k)), .int (nI (kd))]) hx hb hml hown hts hw (j_recv hw hops1.1 rfl) (c_X1_get l g z H0 (a + 7) (nI (k)) (nI (kd)) Rs (by omega) hops1 ) gX2_openOf_X1_get rfl (by decide +kernel) ⟨Nat.le_of_ble_eq_true rfl, Nat.le_of_ble_eq_true rfl⟩ rfl hl.1 (Nat.le_of_ble_eq_true rfl) ⟨Nat.zero_le _, Nat.zero_le _⟩ dX2_openOf_24 (fun r3 locs hr3 hw => ?_) rfl
        obtain rfl : r3 = rr kd := hr3.trans (gtR_in hrr hkd (by omega))
        refine lv_iload_n hx hb dX2_openOf_27 rfl (lv_at hl 2 rfl) ?_
        refine lv_icmp_ne (tgt := 34) hx hb dX2_openOf_28 (by decide) (fun c28 => ?_) (fun c28 => ?_)
        · have hk7 : cntR kd x (Rs.take (k + 1)) = cntR kd x (Rs.take k) := by rw [cntR_take hrr, if_neg c28]; rfl
          rw [← hk7] at hl
          refine lv_iinc (v := nI (k + 1)) (lv' := [(4, .int _), (0, .ref _), (1, .int _), (2, .int _), (3, .int _)]) hx hb dX2_openOf_34 hl (k := 4) rfl (nI_add _ 1) (by decide) rfl (fun ls hl => ?_)
          refine lv_goto (tgt := 5) hx hb dX2_openOf_37 (by decide) ?_
          exact ih5  (k + 1) (by first | assumption | omega) (by omega) _ hw _ (lv_sub hl [1, 2, 3, 4, 0] rfl)
        · refine lv_iinc (v := nI (cntR kd x (Rs.take k) + 1)) (lv' := [(3, .int _), (0, .ref _), (1, .int _), (2, .int _), (4, .int _)]) hx hb dX2_openOf_31 hl (k := 3) rfl (nI_add _ 1) (by decide) rfl (fun ls hl => ?_)
          have hk7 : cntR kd x (Rs.take (k + 1)) = cntR kd x (Rs.take k) + 1 := by rw [cntR_take hrr, if_pos c28]
          rw [← hk7] at hl
          refine lv_iinc (v := nI (k + 1)) (lv' := [(4, .int _), (3, .int _), (0, .ref _), (1, .int _), (2, .int _)]) hx hb dX2_openOf_34 hl (k := 4) rfl (nI_add _ 1) (by decide) rfl (fun ls hl => ?_)
          refine lv_goto (tgt := 5) hx hb dX2_openOf_37 (by decide) ?_
          exact ih5  (k + 1) (by first | assumption | omega) (by omega) _ hw _ (lv_sub hl [2, 3, 4, 1, 0] rfl)
  exact lp5 (Rs.length - (0) + 1) (0) (by first | assumption | omega) (by omega) _ hw _ (lv_sub hl [2, 3, 4, 1, 0] rfl)

abbrev q_X2_feesFor (g : jG) (H0 : Heap) (a : Nat) (x : Int32) (σ : Sg) (Rs : List OR) : Option Value → Heap → Prop := jN (fun r H1 => H1 = H0 ∧ (r = sumR x Rs))
set_option maxHeartbeats 4000000 in
set_option maxRecDepth 100000 in
theorem c_X2_feesFor (l : Launch) (g : jG) (z : Nat) (H0 : Heap) (a : Nat) (x : Int32) (σ : Sg) (Rs : List OR) (hz : z ≤ a) (hS : jSo g H0 a σ Rs) : jM l g z yX2_feesFor wsX2_feesFor 1 23 [.ref a, .int x] H0 (q_X2_feesFor g H0 a x σ Rs) := by
  refine j_of (cc := cX2_feesFor) (n := 4) (ret := some .int) (by decide) rfl (Nat.le_of_ble_eq_true rfl) ?_
  intro p e s m below meth c hx hb hr hml hown hts hlocks hname hH hw ls hl
  have hl : lv_has ls 4 [(0, .ref a), (1, .int x)] := hl
  have hinX2 : ∀ w ∈ u_ws RX2 TX2 9, w ∈ wsX2_feesFor := by decide +kernel
  have hl21 := hS.len
  refine lv_iconst (v := (nI (0))) hx hb dX2_feesFor_0 (by decide) ?_
  refine lv_istore_n (lv' := [(2, .int _), (0, .ref _), (1, .int _)]) hx hb dX2_feesFor_1 rfl hl (by decide) rfl (fun ls hl => ?_)
  refine lv_iconst (v := (nI (0))) hx hb dX2_feesFor_2 (by decide) ?_
  refine lv_istore_n (lv' := [(3, .int _), (2, .int _), (0, .ref _), (1, .int _)]) hx hb dX2_feesFor_3 rfl hl (by decide) rfl (fun ls hl => ?_)
  have lp4 : ∀ (n4 : Nat) (k : Nat) (hk : k ≤ Rs.length) (hmu4 : Rs.length - k < n4) (locs : List Loc) (hw : jW g z s H0 locs) (ls : Array Slot) (hl : lv_has ls 4 [(0, .ref a), (1, .int x), (2, .int (sumR x (Rs.take k))), (3, .int (nI (k)))]), jK p l e 1 23 s m [.ref a, .int x] below meth c z H0 (q_X2_feesFor g H0 a x σ Rs) H0 locs (F0 m 4 ls []) := by
    intro n4
    induction n4 with
    | zero => intros; omega
    | succ n4 ih4 =>
      intro k hk hmu4 locs hw  ls hl
      refine lv_iload_n hx hb dX2_feesFor_4 rfl (lv_at hl 3 rfl) ?_
      refine lv_aload_n hx hb dX2_feesFor_5 rfl (lv_at hl 0 rfl) ?_
      obtain ⟨ses1, pus1, dts1, las1, frs1, tks1, cts1, hOs1, hses1, hpus1, hdts1, hlas1, hfrs1, htks1, hops1, hlts1, hcts1, hSs1⟩ := hS
      have hOs1 : jO g H0 a 2 [.ref (a + 1), .ref (a + 2), .ref (a + 3), .ref (a + 4), .ref (a + 5), .ref (a + 6), .ref (a + 7), .ref (a + 9), .ref (a + 11)] := hOs1
      have hses1 : jI g H0 (a + 1) 5 ses1 := hses1
      have hpus1 : jI g H0 (a + 2) 4 pus1 := hpus1
      have hdts1 : jI g H0 (a + 3) 4 dts1 := hdts1
      have hlas1 : jI g H0 (a + 4) 4 las1 := hlas1
      have hfrs1 : jI g H0 (a + 5) 16 frs1 := hfrs1
      have htks1 : jI g H0 (a + 6) 16 tks1 := htks1
      have hcts1 : jI g H0 (a + 11) 11 cts1 := hcts1
      have hops1 : jOr g H0 (a + 7) Rs := hops1
      have hlts1 : jOr g H0 (a + 9) (latR σ) := hlts1
      refine j_get (T := TX2) (N := 9) (k := 6) hx hb hts hinX2 hown hw hOs1 rfl (by decide) (hts (.fieldLink RX2 33 "NightTrains$Store" "open" "LNightTrains$Orders;") (by decide +kernel)) rfl dX2_feesFor_6 ?_
      refine j_Vp (n := 0) (As := []) hx hb hml hown hts hw (j_recv hw hops1.1 rfl) (c_X1_size l g z H0 (a + 7) Rs (by omega) hops1 ) gX2_feesFor_X1_size rfl (by decide +kernel) ⟨Nat.le_of_ble_eq_true rfl, Nat.le_of_ble_eq_true rfl⟩ rfl hl.1 (Nat.le_of_ble_eq_true rfl) ⟨Nat.zero_le _, Nat.zero_le _⟩ dX2_feesFor_9 (fun r2 locs hr2 hw => ?_) rfl
      obtain rfl : r2 = (nI (Rs.length)) := hr2
      refine jn_ge (tgt := 46) hx hb dX2_feesFor_12 (by decide) (by omega) (by omega) (fun c12 => ?_) (fun c12 => ?_)
      · obtain rfl : k = Rs.length := by omega
        refine lv_iload_n hx hb dX2_feesFor_46 rfl (lv_at hl 2 rfl) ?_
        refine j_iret hx hb hr hlocks hH hw dX2_feesFor_47 ?_
        exact ⟨_, rfl, rfl, by rw [List.take_length]⟩
      · obtain ⟨rr, hrr⟩ : ∃ rr, Rs[k]? = some rr := ⟨Rs[k], List.getElem?_eq_getElem (by omega)⟩
        refine lv_aload_n hx hb dX2_feesFor_15 rfl (lv_at hl 0 rfl) ?_
        refine j_get (T := TX2) (N := 9) (k := 6) hx hb hts hinX2 hown hw hOs1 rfl (by decide) (hts (.fieldLink RX2 33 "NightTrains$Store" "open" "LNightTrains$Orders;") (by decide +kernel)) rfl dX2_feesFor_16 ?_
        refine lv_iload_n hx hb dX2_feesFor_19 rfl (lv_at hl 3 rfl) ?_
        refine lv_iconst (v := (nI (1))) hx hb dX2_feesFor_20 (by decide) ?_
        refine j_Vp (n := 2) (As := [.int (nI (k)), .int (nI (1))]) hx hb hml hown hts hw (j_recv hw hops1.1 rfl) (c_X1_get l g z H0 (a + 7) (nI (k)) (nI (1)) Rs (by omega) hops1 ) gX2_feesFor_X1_get rfl (by decide +kernel) ⟨Nat.le_of_ble_eq_true rfl, Nat.le_of_ble_eq_true rfl⟩ rfl hl.1 (Nat.le_of_ble_eq_true rfl) ⟨Nat.zero_le _, Nat.zero_le _⟩ dX2_feesFor_21 (fun r3 locs hr3 hw => ?_) rfl
        obtain rfl : r3 = rr 1 := hr3.trans (gtR_in hrr (by decide) (by omega))
        refine lv_iload_n hx hb dX2_feesFor_24 rfl (lv_at hl 1 rfl) ?_
        refine lv_icmp_ne (tgt := 40) hx hb dX2_feesFor_25 (by decide) (fun c25 => ?_) (fun c25 => ?_)
        · have hk7 : sumR x (Rs.take (k + 1)) = (sumR x (Rs.take k)) := by rw [sumR_take hrr, if_neg c25]; exact Int32.add_zero _
          rw [← hk7] at hl
          refine lv_iinc (v := nI (k + 1)) (lv' := [(3, .int _), (0, .ref _), (1, .int _), (2, .int _)]) hx hb dX2_feesFor_40 hl (k := 3) rfl (nI_add _ 1) (by decide) rfl (fun ls hl => ?_)
          refine lv_goto (tgt := 4) hx hb dX2_feesFor_43 (by decide) ?_
          exact ih4  (k + 1) (by first | assumption | omega) (by omega) _ hw _ (lv_sub hl [1, 2, 3, 0] rfl)
        · refine lv_iload_n hx hb dX2_feesFor_28 rfl (lv_at hl 2 rfl) ?_
          refine lv_aload_n hx hb dX2_feesFor_29 rfl (lv_at hl 0 rfl) ?_
          refine j_get (T := TX2) (N := 9) (k := 6) hx hb hts hinX2 hown hw hOs1 rfl (by decide) (hts (.fieldLink RX2 33 "NightTrains$Store" "open" "LNightTrains$Orders;") (by decide +kernel)) rfl dX2_feesFor_30 ?_
          refine lv_iload_n hx hb dX2_feesFor_33 rfl (lv_at hl 3 rfl) ?_
          refine lv_iconst (v := (nI (3))) hx hb dX2_feesFor_34 (by decide) ?_
          refine j_Vp (n := 2) (As := [.int (nI (k)), .int (nI (3))]) hx hb hml hown hts hw (j_recv hw hops1.1 rfl) (c_X1_get l g z H0 (a + 7) (nI (k)) (nI (3)) Rs (by omega) hops1 ) gX2_feesFor_X1_get rfl (by decide +kernel) ⟨Nat.le_of_ble_eq_true rfl, Nat.le_of_ble_eq_true rfl⟩ rfl hl.1 (Nat.le_of_ble_eq_true rfl) ⟨Nat.zero_le _, Nat.zero_le _⟩ dX2_feesFor_35 (fun r4 locs hr4 hw => ?_) rfl
          obtain rfl : r4 = rr 3 := hr4.trans (gtR_in hrr (by decide) (by omega))
          refine lv_iadd hx hb dX2_feesFor_38 ?_
          refine lv_istore_n (lv' := [(2, .int _), (0, .ref _), (1, .int _), (3, .int _)]) hx hb dX2_feesFor_39 rfl hl (by decide) rfl (fun ls hl => ?_)
          have hk7 : sumR x (Rs.take (k + 1)) = ((sumR x (Rs.take k)) + (rr 3)) := by rw [sumR_take hrr, if_pos c25]
          rw [← hk7] at hl
          refine lv_iinc (v := nI (k + 1)) (lv' := [(3, .int _), (2, .int _), (0, .ref _), (1, .int _)]) hx hb dX2_feesFor_40 hl (k := 3) rfl (nI_add _ 1) (by decide) rfl (fun ls hl => ?_)
          refine lv_goto (tgt := 4) hx hb dX2_feesFor_43 (by decide) ?_
          exact ih4  (k + 1) (by first | assumption | omega) (by omega) _ hw _ (lv_sub hl [2, 3, 1, 0] rfl)
  exact lp4 (Rs.length - (0) + 1) (0) (by first | assumption | omega) (by omega) _ hw _ (lv_sub hl [2, 3, 1, 0] rfl)

abbrev q_X2_isInFront (g : jG) (H0 : Heap) (a : Nat) (lt : Nat) (σ : Sg) (Rs : List OR) : Option Value → Heap → Prop := jN (fun r H1 => H1 = H0 ∧ ((r = nI 1 ∧ 0 < σ.1 (14 + lt)) ∨ (r = nI 0 ∧ σ.1 (14 + lt) = 0)))
set_option maxHeartbeats 4000000 in
set_option maxRecDepth 100000 in
theorem c_X2_isInFront (l : Launch) (g : jG) (z : Nat) (H0 : Heap) (a : Nat) (lt : Nat) (σ : Sg) (Rs : List OR) (hz : z ≤ a) (hS : jSo g H0 a σ Rs) (hs : okS σ) (hlt : lt < 16) : jM l g z yX2_isInFront wsX2_isInFront 1 20 [.ref a, .int (nI (lt))] H0 (q_X2_isInFront g H0 a lt σ Rs) := by
  refine j_of (cc := cX2_isInFront) (n := 2) (ret := some .boolean) (by decide) rfl (Nat.le_of_ble_eq_true rfl) ?_
  intro p e s m below meth c hx hb hr hml hown hts hlocks hname hH hw ls hl
  have hl : lv_has ls 2 [(0, .ref a), (1, .int (nI (lt)))] := hl
  have hinX2 : ∀ w ∈ u_ws RX2 TX2 9, w ∈ wsX2_isInFront := by decide +kernel
  have hl21 := hS.len
  have hfl := hs.2.1 lt hlt
  refine lv_iload_n hx hb dX2_isInFront_0 rfl (lv_at hl 1 rfl) ?_
  refine j_SNp (n := 1) (As := [.int (nI (lt))]) hx hb hml hown hts hw (c_X4_isLot l g z H0 (nI (lt))   ) gX2_isInFront_X4_isLot_n80 (host := RX4) (by decide +kernel) (by decide +kernel) (by decide +kernel) rfl (by decide +kernel) ⟨Nat.le_of_ble_eq_true rfl, Nat.le_of_ble_eq_true rfl⟩ rfl hl.1 (Nat.le_of_ble_eq_true rfl) ⟨Nat.zero_le _, Nat.zero_le _⟩ dX2_isInFront_1 (fun r1 locs hr1 hw => ?_) rfl
  obtain rfl : r1 = nI 1 := ixY (by decide) (by omega) (by omega) hr1
  refine jz_eq (tgt := 21) hx hb dX2_isInFront_4 (by decide) (by omega) (fun c4 => absurd c4 (by omega)) (fun c4 => ?_)
  refine lv_aload_n hx hb dX2_isInFront_7 rfl (lv_at hl 0 rfl) ?_
  obtain ⟨ses2, pus2, dts2, las2, frs2, tks2, cts2, hOs2, hses2, hpus2, hdts2, hlas2, hfrs2, htks2, hops2, hlts2, hcts2, hSs2⟩ := hS
  have hOs2 : jO g H0 a 2 [.ref (a + 1), .ref (a + 2), .ref (a + 3), .ref (a + 4), .ref (a + 5), .ref (a + 6), .ref (a + 7), .ref (a + 9), .ref (a + 11)] := hOs2
  have hses2 : jI g H0 (a + 1) 5 ses2 := hses2
  have hpus2 : jI g H0 (a + 2) 4 pus2 := hpus2
  have hdts2 : jI g H0 (a + 3) 4 dts2 := hdts2
  have hlas2 : jI g H0 (a + 4) 4 las2 := hlas2
  have hfrs2 : jI g H0 (a + 5) 16 frs2 := hfrs2
  have htks2 : jI g H0 (a + 6) 16 tks2 := htks2
  have hcts2 : jI g H0 (a + 11) 11 cts2 := hcts2
  have hops2 : jOr g H0 (a + 7) Rs := hops2
  have hlts2 : jOr g H0 (a + 9) (latR σ) := hlts2
  refine j_get (T := TX2) (N := 9) (k := 4) hx hb hts hinX2 hown hw hOs2 rfl (by decide) (hts (.fieldLink RX2 24 "NightTrains$Store" "front" "[I") (by decide +kernel)) rfl dX2_isInFront_8 ?_
  refine lv_iload_n hx hb dX2_isInFront_11 rfl (lv_at hl 1 rfl) ?_
  refine j_iald hx hb hw hfrs2 (k := lt) rfl (by omega) (by omega) dX2_isInFront_12 ?_
  refine j_eq (y := (nI (σ.1 (14 + lt)) - nI 1)) (hSs2.rfr (k := lt) (by omega)) ?_
  refine lv_iconst (v := (-1)) hx hb dX2_isInFront_13 (by decide) ?_
  refine lv_icmp_eq (tgt := 21) hx hb dX2_isInFront_14 (by decide) (fun c14 => ?_) (fun c14 => ?_)
  · refine lv_iconst (v := (nI (0))) hx hb dX2_isInFront_21 (by decide) ?_
    refine j_zret hx hb hr hlocks hH hw (Or.inl rfl) dX2_isInFront_22 ?_
    exact ⟨_, rfl, rfl, Or.inr ⟨rfl, (fr_in (by omega)).mp c14⟩⟩
  · refine lv_iconst (v := (nI (1))) hx hb dX2_isInFront_17 (by decide) ?_
    refine lv_goto (tgt := 22) hx hb dX2_isInFront_18 (by decide) ?_
    refine j_zret hx hb hr hlocks hH hw (Or.inr rfl) dX2_isInFront_22 ?_
    exact ⟨_, rfl, rfl, Or.inl ⟨rfl, Nat.pos_of_ne_zero (fun q => c14 ((fr_in (by omega)).mpr q))⟩⟩

abbrev q_X2_takenMoreThan (g : jG) (H0 : Heap) (a : Nat) (a2 : Nat) (lt : Nat) (σ : Sg) (Rs : List OR) (τ : Sg) (Rt : List OR) : Option Value → Heap → Prop := jN (fun r H1 => H1 = H0 ∧ ((r = nI 1 ∧ nI (τ.1 (30 + lt)) < nI (σ.1 (30 + lt))) ∨ (r = nI 0 ∧ ¬ nI (τ.1 (30 + lt)) < nI (σ.1 (30 + lt)))))
set_option maxHeartbeats 4000000 in
set_option maxRecDepth 100000 in
theorem c_X2_takenMoreThan (l : Launch) (g : jG) (z : Nat) (H0 : Heap) (a : Nat) (a2 : Nat) (lt : Nat) (σ : Sg) (Rs : List OR) (τ : Sg) (Rt : List OR) (hz : z ≤ a) (hS : jSo g H0 a σ Rs) (hT : jSo g H0 a2 τ Rt) (hlt : lt < 16) : jM l g z yX2_takenMoreThan wsX2_takenMoreThan 1 20 [.ref a, .ref a2, .int (nI (lt))] H0 (q_X2_takenMoreThan g H0 a a2 lt σ Rs τ Rt) := by
  refine j_of (cc := cX2_takenMoreThan) (n := 3) (ret := some .boolean) (by decide) rfl (Nat.le_of_ble_eq_true rfl) ?_
  intro p e s m below meth c hx hb hr hml hown hts hlocks hname hH hw ls hl
  have hl : lv_has ls 3 [(0, .ref a), (1, .ref a2), (2, .int (nI (lt)))] := hl
  have hinX2 : ∀ w ∈ u_ws RX2 TX2 9, w ∈ wsX2_takenMoreThan := by decide +kernel
  have hl21 := hS.len
  refine lv_iload_n hx hb dX2_takenMoreThan_0 rfl (lv_at hl 2 rfl) ?_
  refine j_SNp (n := 1) (As := [.int (nI (lt))]) hx hb hml hown hts hw (c_X4_isLot l g z H0 (nI (lt))   ) gX2_takenMoreThan_X4_isLot_n80 (host := RX4) (by decide +kernel) (by decide +kernel) (by decide +kernel) rfl (by decide +kernel) ⟨Nat.le_of_ble_eq_true rfl, Nat.le_of_ble_eq_true rfl⟩ rfl hl.1 (Nat.le_of_ble_eq_true rfl) ⟨Nat.zero_le _, Nat.zero_le _⟩ dX2_takenMoreThan_1 (fun r1 locs hr1 hw => ?_) rfl
  obtain rfl : r1 = nI 1 := ixY (by decide) (by omega) (by omega) hr1
  refine jz_eq (tgt := 26) hx hb dX2_takenMoreThan_4 (by decide) (by omega) (fun c4 => absurd c4 (by omega)) (fun c4 => ?_)
  refine lv_aload_n hx hb dX2_takenMoreThan_7 rfl (lv_at hl 0 rfl) ?_
  obtain ⟨ses2, pus2, dts2, las2, frs2, tks2, cts2, hOs2, hses2, hpus2, hdts2, hlas2, hfrs2, htks2, hops2, hlts2, hcts2, hSs2⟩ := hS
  have hOs2 : jO g H0 a 2 [.ref (a + 1), .ref (a + 2), .ref (a + 3), .ref (a + 4), .ref (a + 5), .ref (a + 6), .ref (a + 7), .ref (a + 9), .ref (a + 11)] := hOs2
  have hses2 : jI g H0 (a + 1) 5 ses2 := hses2
  have hpus2 : jI g H0 (a + 2) 4 pus2 := hpus2
  have hdts2 : jI g H0 (a + 3) 4 dts2 := hdts2
  have hlas2 : jI g H0 (a + 4) 4 las2 := hlas2
  have hfrs2 : jI g H0 (a + 5) 16 frs2 := hfrs2
  have htks2 : jI g H0 (a + 6) 16 tks2 := htks2
  have hcts2 : jI g H0 (a + 11) 11 cts2 := hcts2
  have hops2 : jOr g H0 (a + 7) Rs := hops2
  have hlts2 : jOr g H0 (a + 9) (latR σ) := hlts2
  refine j_get (T := TX2) (N := 9) (k := 5) hx hb hts hinX2 hown hw hOs2 rfl (by decide) (hts (.fieldLink RX2 27 "NightTrains$Store" "taken" "[I") (by decide +kernel)) rfl dX2_takenMoreThan_8 ?_
  refine lv_iload_n hx hb dX2_takenMoreThan_11 rfl (lv_at hl 2 rfl) ?_
  refine j_iald hx hb hw htks2 (k := lt) rfl (by omega) (by omega) dX2_takenMoreThan_12 ?_
  refine j_eq (y := (nI (σ.1 (30 + lt)))) (hSs2.rtk (k := lt) (by omega)) ?_
  refine lv_aload_n hx hb dX2_takenMoreThan_13 rfl (lv_at hl 1 rfl) ?_
  obtain ⟨ses3, pus3, dts3, las3, frs3, tks3, cts3, hOs3, hses3, hpus3, hdts3, hlas3, hfrs3, htks3, hops3, hlts3, hcts3, hSs3⟩ := hT
  have hOs3 : jO g H0 a2 2 [.ref (a2 + 1), .ref (a2 + 2), .ref (a2 + 3), .ref (a2 + 4), .ref (a2 + 5), .ref (a2 + 6), .ref (a2 + 7), .ref (a2 + 9), .ref (a2 + 11)] := hOs3
  have hses3 : jI g H0 (a2 + 1) 5 ses3 := hses3
  have hpus3 : jI g H0 (a2 + 2) 4 pus3 := hpus3
  have hdts3 : jI g H0 (a2 + 3) 4 dts3 := hdts3
  have hlas3 : jI g H0 (a2 + 4) 4 las3 := hlas3
  have hfrs3 : jI g H0 (a2 + 5) 16 frs3 := hfrs3
  have htks3 : jI g H0 (a2 + 6) 16 tks3 := htks3
  have hcts3 : jI g H0 (a2 + 11) 11 cts3 := hcts3
  have hops3 : jOr g H0 (a2 + 7) Rt := hops3
  have hlts3 : jOr g H0 (a2 + 9) (latR τ) := hlts3
  refine j_get (T := TX2) (N := 9) (k := 5) hx hb hts hinX2 hown hw hOs3 rfl (by decide) (hts (.fieldLink RX2 27 "NightTrains$Store" "taken" "[I") (by decide +kernel)) rfl dX2_takenMoreThan_14 ?_
  refine lv_iload_n hx hb dX2_takenMoreThan_17 rfl (lv_at hl 2 rfl) ?_
  refine j_iald hx hb hw htks3 (k := lt) rfl (by omega) (by omega) dX2_takenMoreThan_18 ?_
  refine j_eq (y := (nI (τ.1 (30 + lt)))) (hSs3.rtk (k := lt) (by omega)) ?_
  refine lv_icmp_le (tgt := 26) hx hb dX2_takenMoreThan_19 (by decide) (fun c19 => ?_) (fun c19 => ?_)
  · refine lv_iconst (v := (nI (0))) hx hb dX2_takenMoreThan_26 (by decide) ?_
    refine j_zret hx hb hr hlocks hH hw (Or.inl rfl) dX2_takenMoreThan_27 ?_
    exact ⟨_, rfl, rfl, Or.inr ⟨rfl, Int32.not_lt.mpr c19⟩⟩
  · refine lv_iconst (v := (nI (1))) hx hb dX2_takenMoreThan_22 (by decide) ?_
    refine lv_goto (tgt := 27) hx hb dX2_takenMoreThan_23 (by decide) ?_
    refine j_zret hx hb hr hlocks hH hw (Or.inr rfl) dX2_takenMoreThan_27 ?_
    exact ⟨_, rfl, rfl, Or.inl ⟨rfl, Int32.not_le.mp c19⟩⟩

abbrev q_X2_takesOrder (g : jG) (H0 : Heap) (a : Nat) (cu : Nat) (lt : Nat) (fe : Nat) (σ : Sg) : Option Value → Heap → Prop := jN (fun r H1 => H1 = H0 ∧ ((r = nI 1 ∧ canS σ cu lt fe) ∨ (r = nI 0 ∧ ¬ canS σ cu lt fe)))
set_option maxHeartbeats 4000000 in
set_option maxRecDepth 100000 in
theorem c_X2_takesOrder (l : Launch) (g : jG) (z : Nat) (H0 : Heap) (a : Nat) (cu : Nat) (lt : Nat) (fe : Nat) (σ : Sg) (hz : z ≤ a) (hS : jSo g H0 a σ (opnR σ)) (hs : okS σ) (hcu : cu < 4) (hlt : lt < 16) : jM l g z yX2_takesOrder wsX2_takesOrder 2 41 [.ref a, .int (nI (cu)), .int (nI (lt)), .int (nI (fe))] H0 (q_X2_takesOrder g H0 a cu lt fe σ) := by
  refine j_of (cc := cX2_takesOrder) (n := 4) (ret := some .boolean) (by decide) rfl (Nat.le_of_ble_eq_true rfl) ?_
  intro p e s m below meth c hx hb hr hml hown hts hlocks hname hH hw ls hl
  have hl : lv_has ls 4 [(0, .ref a), (1, .int (nI (cu))), (2, .int (nI (lt))), (3, .int (nI (fe)))] := hl
  have hinX2 : ∀ w ∈ u_ws RX2 TX2 9, w ∈ wsX2_takesOrder := by decide +kernel
  have hl21 := hS.len
  have hln := opnR_len (σ := σ)
  rw [hln] at hl21
  refine lv_aload_n hx hb dX2_takesOrder_0 rfl (lv_at hl 0 rfl) ?_
  refine lv_iload_n hx hb dX2_takesOrder_1 rfl (lv_at hl 2 rfl) ?_
  refine j_Vp (n := 1) (As := [.int (nI (lt))]) hx hb hml hown hts hw (j_recv hw hS.obj rfl) (c_X2_isInFront l g z H0 a (lt) σ (opnR σ) hz hS (by first | assumption | omega) (by first | assumption | omega)) gX2_takesOrder_X2_isInFront rfl (by decide +kernel) ⟨Nat.le_of_ble_eq_true rfl, Nat.le_of_ble_eq_true rfl⟩ rfl hl.1 (Nat.le_of_ble_eq_true rfl) ⟨Nat.zero_le _, Nat.zero_le _⟩ dX2_takesOrder_2 (fun r1 locs hr1 hw => ?_) rfl
  rcases hr1 with ⟨rfl, hr1⟩ | ⟨rfl, hr1⟩
  · refine jz_ne (tgt := 37) hx hb dX2_takesOrder_5 (by decide) (by omega) (fun c5 => ?_) (fun c5 => absurd c5 (by omega))
    refine lv_iconst (v := (nI (1))) hx hb dX2_takesOrder_37 (by decide) ?_
    refine lv_goto (tgt := 42) hx hb dX2_takesOrder_38 (by decide) ?_
    refine j_zret hx hb hr hlocks hH hw (Or.inr rfl) dX2_takesOrder_42 ?_
    exact ⟨_, rfl, rfl, Or.inl ⟨rfl, by unfold canS; first | exact Or.inl hr1 | exact Or.inr ⟨by omega, Int32.not_lt.mp c34⟩⟩⟩
  · refine jz_ne (tgt := 37) hx hb dX2_takesOrder_5 (by decide) (by omega) (fun c5 => absurd c5 (by omega)) (fun c5 => ?_)
    refine lv_aload_n hx hb dX2_takesOrder_8 rfl (lv_at hl 0 rfl) ?_
    obtain ⟨ses2, pus2, dts2, las2, frs2, tks2, cts2, hOs2, hses2, hpus2, hdts2, hlas2, hfrs2, htks2, hops2, hlts2, hcts2, hSs2⟩ := hS
    have hOs2 : jO g H0 a 2 [.ref (a + 1), .ref (a + 2), .ref (a + 3), .ref (a + 4), .ref (a + 5), .ref (a + 6), .ref (a + 7), .ref (a + 9), .ref (a + 11)] := hOs2
    have hses2 : jI g H0 (a + 1) 5 ses2 := hses2
    have hpus2 : jI g H0 (a + 2) 4 pus2 := hpus2
    have hdts2 : jI g H0 (a + 3) 4 dts2 := hdts2
    have hlas2 : jI g H0 (a + 4) 4 las2 := hlas2
    have hfrs2 : jI g H0 (a + 5) 16 frs2 := hfrs2
    have htks2 : jI g H0 (a + 6) 16 tks2 := htks2
    have hcts2 : jI g H0 (a + 11) 11 cts2 := hcts2
    have hops2 : jOr g H0 (a + 7) (opnR σ) := hops2
    have hlts2 : jOr g H0 (a + 9) (latR σ) := hlts2
    refine j_get (T := TX2) (N := 9) (k := 6) hx hb hts hinX2 hown hw hOs2 rfl (by decide) (hts (.fieldLink RX2 33 "NightTrains$Store" "open" "LNightTrains$Orders;") (by decide +kernel)) rfl dX2_takesOrder_9 ?_
    refine j_Vp (n := 0) (As := []) hx hb hml hown hts hw (j_recv hw hops2.1 rfl) (c_X1_size l g z H0 (a + 7) (opnR σ) (by omega) hops2 ) gX2_takesOrder_X1_size rfl (by decide +kernel) ⟨Nat.le_of_ble_eq_true rfl, Nat.le_of_ble_eq_true rfl⟩ rfl hl.1 (Nat.le_of_ble_eq_true rfl) ⟨Nat.zero_le _, Nat.zero_le _⟩ dX2_takesOrder_12 (fun r3 locs hr3 hw => ?_) rfl
    obtain rfl : r3 = (nI ((opnR σ).length)) := hr3
    rw [hln]
    refine lv_bipush (v := (nI (20))) hx hb dX2_takesOrder_15 (by decide) ?_
    refine jn_ge (tgt := 41) hx hb dX2_takesOrder_17 (by decide) (by omega) (by omega) (fun c17 => ?_) (fun c17 => ?_)
    · refine lv_iconst (v := (nI (0))) hx hb dX2_takesOrder_41 (by decide) ?_
      refine j_zret hx hb hr hlocks hH hw (Or.inl rfl) dX2_takesOrder_42 ?_
      exact ⟨_, rfl, rfl, Or.inr ⟨rfl, fun q => by rcases q with q | ⟨q1, q2⟩ <;> first | omega | exact absurd c34 (Int32.not_lt.mpr q2)⟩⟩
    · refine lv_iload_n hx hb dX2_takesOrder_20 rfl (lv_at hl 1 rfl) ?_
      refine j_SNp (n := 1) (As := [.int (nI (cu))]) hx hb hml hown hts hw (c_X4_isReader l g z H0 (nI (cu))   ) gX2_takesOrder_X4_isReader_n87 (host := RX4) (by decide +kernel) (by decide +kernel) (by decide +kernel) rfl (by decide +kernel) ⟨Nat.le_of_ble_eq_true rfl, Nat.le_of_ble_eq_true rfl⟩ rfl hl.1 (Nat.le_of_ble_eq_true rfl) ⟨Nat.zero_le _, Nat.zero_le _⟩ dX2_takesOrder_21 (fun r4 locs hr4 hw => ?_) rfl
      obtain rfl : r4 = nI 1 := ixY (by decide) (by omega) (by omega) hr4
      refine jz_eq (tgt := 41) hx hb dX2_takesOrder_24 (by decide) (by omega) (fun c24 => absurd c24 (by omega)) (fun c24 => ?_)
      refine lv_aload_n hx hb dX2_takesOrder_27 rfl (lv_at hl 0 rfl) ?_
      refine j_get (T := TX2) (N := 9) (k := 1) hx hb hts hinX2 hown hw hOs2 rfl (by decide) (hts (.fieldLink RX2 15 "NightTrains$Store" "purse" "[I") (by decide +kernel)) rfl dX2_takesOrder_28 ?_
      refine lv_iload_n hx hb dX2_takesOrder_31 rfl (lv_at hl 1 rfl) ?_
      refine j_iald hx hb hw hpus2 (k := cu) rfl (by omega) (by omega) dX2_takesOrder_32 ?_
      refine j_eq (y := (σ.2.1 cu)) (hSs2.rpu (k := cu) (by omega)) ?_
      refine lv_iload_n hx hb dX2_takesOrder_33 rfl (lv_at hl 3 rfl) ?_
      refine lv_icmp_lt (tgt := 41) hx hb dX2_takesOrder_34 (by decide) (fun c34 => ?_) (fun c34 => ?_)
      · refine lv_iconst (v := (nI (0))) hx hb dX2_takesOrder_41 (by decide) ?_
        refine j_zret hx hb hr hlocks hH hw (Or.inl rfl) dX2_takesOrder_42 ?_
        exact ⟨_, rfl, rfl, Or.inr ⟨rfl, fun q => by rcases q with q | ⟨q1, q2⟩ <;> first | omega | exact absurd c34 (Int32.not_lt.mpr q2)⟩⟩
      · refine lv_iconst (v := (nI (1))) hx hb dX2_takesOrder_37 (by decide) ?_
        refine lv_goto (tgt := 42) hx hb dX2_takesOrder_38 (by decide) ?_
        refine j_zret hx hb hr hlocks hH hw (Or.inr rfl) dX2_takesOrder_42 ?_
        exact ⟨_, rfl, rfl, Or.inl ⟨rfl, by unfold canS; first | exact Or.inl hr1 | exact Or.inr ⟨by omega, Int32.not_lt.mp c34⟩⟩⟩

abbrev q_X2_noteDelivered (g : jG) (H0 : Heap) (a : Nat) (cu : Nat) (lt : Nat) (it : Nat) (fe : Nat) (wt : Nat) (σ : Sg) (Rs : List OR) : Option Value → Heap → Prop := jV (fun H1 => jSo g H1 a (note σ (mkO cu lt it fe wt 0)) Rs ∧ jF a 12 H0 H1)
set_option maxHeartbeats 4000000 in
set_option maxRecDepth 100000 in
theorem c_X2_noteDelivered (l : Launch) (g : jG) (z : Nat) (H0 : Heap) (a : Nat) (cu : Nat) (lt : Nat) (it : Nat) (fe : Nat) (wt : Nat) (σ : Sg) (Rs : List OR) (hz : z ≤ a) (hS : jSo g H0 a σ Rs) (hs : okS σ) (hcu : cu < 4) : jM l g z yX2_noteDelivered wsX2_noteDelivered 3 82 [.ref a, .int (nI (cu)), .int (nI (lt)), .int (nI (it)), .int (nI (fe)), .int (nI (wt))] H0 (q_X2_noteDelivered g H0 a cu lt it fe wt σ Rs) := by
  refine j_of (cc := cX2_noteDelivered) (n := 6) (ret := none) (by decide) rfl (Nat.le_of_ble_eq_true rfl) ?_
  intro p e s m below meth c hx hb hr hml hown hts hlocks hname hH hw ls hl
  have hl : lv_has ls 6 [(0, .ref a), (1, .int (nI (cu))), (2, .int (nI (lt))), (3, .int (nI (it))), (4, .int (nI (fe))), (5, .int (nI (wt)))] := hl
  have hinX2 : ∀ w ∈ u_ws RX2 TX2 9, w ∈ wsX2_noteDelivered := by decide +kernel
  have hf : jF a 12 H0 H0 := jF.rf
  have hl21 := hS.len
  have hl10 : (latR σ).length ≤ 10 := by rw [latR_len]; exact hs.2.2.2.2.1
  refine lv_aload_n hx hb dX2_noteDelivered_0 rfl (lv_at hl 0 rfl) ?_
  obtain ⟨ses1, pus1, dts1, las1, frs1, tks1, cts1, hOs1, hses1, hpus1, hdts1, hlas1, hfrs1, htks1, hops1, hlts1, hcts1, hSs1⟩ := hS
  have hOs1 : jO g H0 a 2 [.ref (a + 1), .ref (a + 2), .ref (a + 3), .ref (a + 4), .ref (a + 5), .ref (a + 6), .ref (a + 7), .ref (a + 9), .ref (a + 11)] := hOs1
  have hses1 : jI g H0 (a + 1) 5 ses1 := hses1
  have hpus1 : jI g H0 (a + 2) 4 pus1 := hpus1
  have hdts1 : jI g H0 (a + 3) 4 dts1 := hdts1
  have hlas1 : jI g H0 (a + 4) 4 las1 := hlas1
  have hfrs1 : jI g H0 (a + 5) 16 frs1 := hfrs1
  have htks1 : jI g H0 (a + 6) 16 tks1 := htks1
  have hcts1 : jI g H0 (a + 11) 11 cts1 := hcts1
  have hops1 : jOr g H0 (a + 7) Rs := hops1
  have hlts1 : jOr g H0 (a + 9) (latR σ) := hlts1
  refine j_get (T := TX2) (N := 9) (k := 8) hx hb hts hinX2 hown hw hOs1 rfl (by decide) (hts (.fieldLink RX2 40 "NightTrains$Store" "counts" "[I") (by decide +kernel)) rfl dX2_noteDelivered_1 ?_
  refine lv_iconst (v := (nI (2))) hx hb dX2_noteDelivered_4 (by decide) ?_
  refine lv_dup2_11 hx hb dX2_noteDelivered_5 rfl rfl ?_
  refine j_iald hx hb hw hcts1 (k := 2) rfl (by omega) (by omega) dX2_noteDelivered_6 ?_
  refine j_eq (y := nI (σ.1 7)) (hSs1.rct (k := 2) (by decide)) ?_
  refine lv_iconst (v := (nI (1))) hx hb dX2_noteDelivered_7 (by decide) ?_
  refine j_addN hx hb dX2_noteDelivered_8 ?_
  refine j_iast hx hb hw hcts1 (by omega) (k := 2) rfl (by omega) (by omega) dX2_noteDelivered_9 (fun H locs hw hcts1 oq hsz => ?_)
  obtain ⟨f2, ef2⟩ : ∃ y9, y9 = upd cts1 (2) (nI ((σ.1 7 + 1))) := ⟨_, rfl⟩
  rw [← ef2] at hcts1
  have hOs1 := hOs1.kept (oq _ (by omega))
  have hses1 := hses1.kept (oq _ (by omega))
  have hpus1 := hpus1.kept (oq _ (by omega))
  have hdts1 := hdts1.kept (oq _ (by omega))
  have hlas1 := hlas1.kept (oq _ (by omega))
  have hfrs1 := hfrs1.kept (oq _ (by omega))
  have htks1 := htks1.kept (oq _ (by omega))
  have hops1 := hops1.kept (fun q _ _ => oq q (by omega))
  have hlts1 := hlts1.kept (fun q _ _ => oq q (by omega))
  have hf := hf.put oq hsz (by omega)
  have hSs1 := hSs1.wct (k := 2) (v := σ.1 7 + 1) (by decide) rfl
  rw [← ef2] at hSs1
  have hSs1 : Sto ses1 pus1 dts1 las1 frs1 tks1 f2 (upn σ 7 (σ.1 7 + 1)) := hSs1
  refine lv_aload_n hx hb dX2_noteDelivered_10 rfl (lv_at hl 0 rfl) ?_
  refine j_get (T := TX2) (N := 9) (k := 8) hx hb hts hinX2 hown hw hOs1 rfl (by decide) (hts (.fieldLink RX2 40 "NightTrains$Store" "counts" "[I") (by decide +kernel)) rfl dX2_noteDelivered_11 ?_
  refine lv_iconst (v := (nI (5))) hx hb dX2_noteDelivered_14 (by decide) ?_
  refine lv_dup2_11 hx hb dX2_noteDelivered_15 rfl rfl ?_
  refine j_iald hx hb hw hcts1 (k := 5) rfl (by omega) (by omega) dX2_noteDelivered_16 ?_
  refine j_eq (y := nI (σ.1 10)) ((hSs1.rct (k := 5) (by decide)).trans (congrArg nI (upn_n (by show (10 : Nat) ≠ _; omega)))) ?_
  skip
  refine lv_iload hx hb dX2_noteDelivered_17 (lv_at hl 4 rfl) ?_
  refine j_addN hx hb dX2_noteDelivered_19 ?_
  refine j_iast hx hb hw hcts1 (by omega) (k := 5) rfl (by omega) (by omega) dX2_noteDelivered_20 (fun H locs hw hcts1 oq hsz => ?_)
  obtain ⟨f3, ef3⟩ : ∃ y9, y9 = upd f2 (5) (nI ((σ.1 10 + fe))) := ⟨_, rfl⟩
  rw [← ef3] at hcts1
  have hOs1 := hOs1.kept (oq _ (by omega))
  have hses1 := hses1.kept (oq _ (by omega))
  have hpus1 := hpus1.kept (oq _ (by omega))
  have hdts1 := hdts1.kept (oq _ (by omega))
  have hlas1 := hlas1.kept (oq _ (by omega))
  have hfrs1 := hfrs1.kept (oq _ (by omega))
  have htks1 := htks1.kept (oq _ (by omega))
  have hops1 := hops1.kept (fun q _ _ => oq q (by omega))
  have hlts1 := hlts1.kept (fun q _ _ => oq q (by omega))
  have hf := hf.put oq hsz (by omega)
  have hSs1 := hSs1.wct (k := 5) (v := σ.1 10 + fe) (by decide) rfl
  rw [← ef3] at hSs1
  have hSs1 : Sto ses1 pus1 dts1 las1 frs1 tks1 f3 (upn (upn σ 7 (σ.1 7 + 1)) 10 (σ.1 10 + fe)) := hSs1
  refine lv_iload_n hx hb dX2_noteDelivered_21 rfl (lv_at hl 1 rfl) ?_
  refine j_SNp (n := 1) (As := [.int (nI (cu))]) hx hb hml hown hts hw (c_X4_isReader l g z H (nI (cu))   ) gX2_noteDelivered_X4_isReader_n87 (host := RX4) (by decide +kernel) (by decide +kernel) (by decide +kernel) rfl (by decide +kernel) ⟨Nat.le_of_ble_eq_true rfl, Nat.le_of_ble_eq_true rfl⟩ rfl hl.1 (Nat.le_of_ble_eq_true rfl) ⟨Nat.zero_le _, Nat.zero_le _⟩ dX2_noteDelivered_22 (fun r4 locs hr4 hw => ?_) rfl
  obtain rfl : r4 = nI 1 := ixY (by decide) (by omega) (by omega) hr4
  refine jz_eq (tgt := 38) hx hb dX2_noteDelivered_25 (by decide) (by omega) (fun c25 => absurd c25 (by omega)) (fun c25 => ?_)
  refine lv_aload_n hx hb dX2_noteDelivered_28 rfl (lv_at hl 0 rfl) ?_
  refine j_get (T := TX2) (N := 9) (k := 2) hx hb hts hinX2 hown hw hOs1 rfl (by decide) (hts (.fieldLink RX2 18 "NightTrains$Store" "deliveredTo" "[I") (by decide +kernel)) rfl dX2_noteDelivered_29 ?_
  refine lv_iload_n hx hb dX2_noteDelivered_32 rfl (lv_at hl 1 rfl) ?_
  refine lv_dup2_11 hx hb dX2_noteDelivered_33 rfl rfl ?_
  refine j_iald hx hb hw hdts1 (k := cu) rfl (by omega) (by omega) dX2_noteDelivered_34 ?_
  refine j_eq (y := nI (σ.1 (50 + cu))) ((hSs1.rdt (k := cu) (by omega)).trans (congrArg nI ((upn_n (by omega)).trans (upn_n (by omega))))) ?_
  refine lv_iconst (v := (nI (1))) hx hb dX2_noteDelivered_35 (by decide) ?_
  refine j_addN hx hb dX2_noteDelivered_36 ?_
  refine j_iast hx hb hw hdts1 (by omega) (k := cu) rfl (by omega) (by omega) dX2_noteDelivered_37 (fun H locs hw hdts1 oq hsz => ?_)
  obtain ⟨f5, ef5⟩ : ∃ y9, y9 = upd dts1 (cu) (nI ((σ.1 (50 + cu) + 1))) := ⟨_, rfl⟩
  rw [← ef5] at hdts1
  have hOs1 := hOs1.kept (oq _ (by omega))
  have hses1 := hses1.kept (oq _ (by omega))
  have hpus1 := hpus1.kept (oq _ (by omega))
  have hlas1 := hlas1.kept (oq _ (by omega))
  have hfrs1 := hfrs1.kept (oq _ (by omega))
  have htks1 := htks1.kept (oq _ (by omega))
  have hcts1 := hcts1.kept (oq _ (by omega))
  have hops1 := hops1.kept (fun q _ _ => oq q (by omega))
  have hlts1 := hlts1.kept (fun q _ _ => oq q (by omega))
  have hf := hf.put oq hsz (by omega)
  have hSs1 := hSs1.wdt (k := cu) (v := σ.1 (50 + cu) + 1) (by omega) rfl
  rw [← ef5] at hSs1
  refine lv_aload_n hx hb dX2_noteDelivered_38 rfl (lv_at hl 0 rfl) ?_
  refine j_get (T := TX2) (N := 9) (k := 7) hx hb hts hinX2 hown hw hOs1 rfl (by decide) (hts (.fieldLink RX2 37 "NightTrains$Store" "lately" "LNightTrains$Orders;") (by decide +kernel)) rfl dX2_noteDelivered_39 ?_
  refine j_Vp (n := 0) (As := []) hx hb hml hown hts hw (j_recv hw hlts1.1 rfl) (c_X1_size l g z H (a + 9) (latR σ) (by omega) hlts1 ) gX2_noteDelivered_X1_size rfl (by decide +kernel) ⟨Nat.le_of_ble_eq_true rfl, Nat.le_of_ble_eq_true rfl⟩ rfl hl.1 (Nat.le_of_ble_eq_true rfl) ⟨Nat.zero_le _, Nat.zero_le _⟩ dX2_noteDelivered_42 (fun r6 locs hr6 hw => ?_) rfl
  obtain rfl : r6 = (nI ((latR σ).length)) := hr6
  refine lv_bipush (v := (nI (10))) hx hb dX2_noteDelivered_45 (by decide) ?_
  refine jn_lt (tgt := 65) hx hb dX2_noteDelivered_47 (by decide) (by omega) (by omega) (fun c47 => ?_) (fun c47 => ?_)
  · have hlk9 := kpt_len (R := rput (latR σ) 0 0 (-1))
    rw [rput_len] at hlk9
    refine lv_aload_n hx hb dX2_noteDelivered_65 rfl (lv_at hl 0 rfl) ?_
    refine j_get (T := TX2) (N := 9) (k := 7) hx hb hts hinX2 hown hw hOs1 rfl (by decide) (hts (.fieldLink RX2 37 "NightTrains$Store" "lately" "LNightTrains$Orders;") (by decide +kernel)) rfl dX2_noteDelivered_66 ?_
    refine lv_iload_n hx hb dX2_noteDelivered_69 rfl (lv_at hl 1 rfl) ?_
    refine lv_iload_n hx hb dX2_noteDelivered_70 rfl (lv_at hl 2 rfl) ?_
    refine lv_iload_n hx hb dX2_noteDelivered_71 rfl (lv_at hl 3 rfl) ?_
    refine lv_iload hx hb dX2_noteDelivered_72 (lv_at hl 4 rfl) ?_
    refine lv_iload hx hb dX2_noteDelivered_74 (lv_at hl 5 rfl) ?_
    refine j_Vi (n := 5) (As := [.int (nI (cu)), .int (nI (lt)), .int (nI (it)), .int (nI (fe)), .int (nI (wt))]) hx hb hml hown hts hw (j_recv hw hlts1.1 rfl) (c_X1_add l g z H (a + 9) (nI (cu)) (nI (lt)) (nI (it)) (nI (fe)) (nI (wt)) (latR σ) (by omega) hlts1 (by first | assumption | omega)) gX2_noteDelivered_X1_add rfl (by decide +kernel) ⟨Nat.le_of_ble_eq_true rfl, Nat.le_of_ble_eq_true rfl⟩ rfl hl.1 (Nat.le_of_ble_eq_true rfl) ⟨Nat.zero_le _, Nat.zero_le _⟩ dX2_noteDelivered_76 (fun r7 H locs hr7 hw hsz => ?_) rfl
    obtain ⟨rfl, hr7⟩ := hr7
    obtain ⟨hlts1, hf2⟩ := hr7
    have hOs1 := hOs1.kept (hf2.2 _ (by omega))
    have hses1 := hses1.kept (hf2.2 _ (by omega))
    have hpus1 := hpus1.kept (hf2.2 _ (by omega))
    have hdts1 := hdts1.kept (hf2.2 _ (by omega))
    have hlas1 := hlas1.kept (hf2.2 _ (by omega))
    have hfrs1 := hfrs1.kept (hf2.2 _ (by omega))
    have htks1 := htks1.kept (hf2.2 _ (by omega))
    have hcts1 := hcts1.kept (hf2.2 _ (by omega))
    have hops1 := hops1.kept (fun q _ _ => hf2.2 q (by omega))
    have hf := hf.step hf2 (by omega)
    rw [mkR_o, lat_more (by rw [latR_len] at c47; omega)] at hlts1
    refine lv_pop hx hb dX2_noteDelivered_79 rfl ?_
    refine j_vret hx hb hr hlocks hH hw dX2_noteDelivered_80 ?_
    have hS8 : jSo g H a (upl (upn (upn (upn σ 7 (σ.1 7 + 1)) 10 (σ.1 10 + fe)) (50 + cu) (σ.1 (50 + cu) + 1)) ((mkO cu lt it fe wt 0 :: σ.2.2.2).take 10)) Rs := ⟨ses1, pus1, f5, las1, frs1, tks1, f3, hOs1, hses1, hpus1, hdts1, hlas1, hfrs1, htks1, hops1, hlts1, hcts1, hSs1⟩
    have h8 := hS8
    have h9 : jSo g H a (note σ (mkO cu lt it fe wt 0)) Rs := by rw [← note_C (o := mkO cu lt it fe wt 0) hcu]; exact h8
    exact ⟨rfl, h9, hf⟩
  · refine lv_aload_n hx hb dX2_noteDelivered_50 rfl (lv_at hl 0 rfl) ?_
    refine j_get (T := TX2) (N := 9) (k := 7) hx hb hts hinX2 hown hw hOs1 rfl (by decide) (hts (.fieldLink RX2 37 "NightTrains$Store" "lately" "LNightTrains$Orders;") (by decide +kernel)) rfl dX2_noteDelivered_51 ?_
    refine lv_iconst (v := (nI (0))) hx hb dX2_noteDelivered_54 (by decide) ?_
    refine j_Vv (n := 1) (As := [.int (nI (0))]) hx hb hml hown hts hw (j_recv hw hlts1.1 rfl) (c_X1_end l g z H (a + 9) (0) (latR σ) (by omega) hlts1 (by first | assumption | omega)) gX2_noteDelivered_X1_end rfl (by decide +kernel) ⟨Nat.le_of_ble_eq_true rfl, Nat.le_of_ble_eq_true rfl⟩ rfl hl.1 (Nat.le_of_ble_eq_true rfl) ⟨Nat.zero_le _, Nat.zero_le _⟩ dX2_noteDelivered_55 (fun H locs hr9 hw hsz => ?_) rfl
    obtain ⟨hlts1, hf2⟩ := hr9
    have hOs1 := hOs1.kept (hf2.2 _ (by omega))
    have hses1 := hses1.kept (hf2.2 _ (by omega))
    have hpus1 := hpus1.kept (hf2.2 _ (by omega))
    have hdts1 := hdts1.kept (hf2.2 _ (by omega))
    have hlas1 := hlas1.kept (hf2.2 _ (by omega))
    have hfrs1 := hfrs1.kept (hf2.2 _ (by omega))
    have htks1 := htks1.kept (hf2.2 _ (by omega))
    have hcts1 := hcts1.kept (hf2.2 _ (by omega))
    have hops1 := hops1.kept (fun q _ _ => hf2.2 q (by omega))
    have hf := hf.step hf2 (by omega)
    refine lv_aload_n hx hb dX2_noteDelivered_58 rfl (lv_at hl 0 rfl) ?_
    refine j_get (T := TX2) (N := 9) (k := 7) hx hb hts hinX2 hown hw hOs1 rfl (by decide) (hts (.fieldLink RX2 37 "NightTrains$Store" "lately" "LNightTrains$Orders;") (by decide +kernel)) rfl dX2_noteDelivered_59 ?_
    refine j_Vv (n := 0) (As := []) hx hb hml hown hts hw (j_recv hw hlts1.1 rfl) (c_X1_closeGaps l g z H (a + 9) (rput (latR σ) (0) 0 (-1)) (by omega) hlts1 ) gX2_noteDelivered_X1_closeGaps rfl (by decide +kernel) ⟨Nat.le_of_ble_eq_true rfl, Nat.le_of_ble_eq_true rfl⟩ rfl hl.1 (Nat.le_of_ble_eq_true rfl) ⟨Nat.zero_le _, Nat.zero_le _⟩ dX2_noteDelivered_62 (fun H locs hr10 hw hsz => ?_) rfl
    obtain ⟨hlts1, hf2⟩ := hr10
    have hOs1 := hOs1.kept (hf2.2 _ (by omega))
    have hses1 := hses1.kept (hf2.2 _ (by omega))
    have hpus1 := hpus1.kept (hf2.2 _ (by omega))
    have hdts1 := hdts1.kept (hf2.2 _ (by omega))
    have hlas1 := hlas1.kept (hf2.2 _ (by omega))
    have hfrs1 := hfrs1.kept (hf2.2 _ (by omega))
    have htks1 := htks1.kept (hf2.2 _ (by omega))
    have hcts1 := hcts1.kept (hf2.2 _ (by omega))
    have hops1 := hops1.kept (fun q _ _ => hf2.2 q (by omega))
    have hf := hf.step hf2 (by omega)
    have hlk9 := kpt_len (R := rput (latR σ) 0 0 (-1))
    rw [rput_len] at hlk9
    refine lv_aload_n hx hb dX2_noteDelivered_65 rfl (lv_at hl 0 rfl) ?_
    refine j_get (T := TX2) (N := 9) (k := 7) hx hb hts hinX2 hown hw hOs1 rfl (by decide) (hts (.fieldLink RX2 37 "NightTrains$Store" "lately" "LNightTrains$Orders;") (by decide +kernel)) rfl dX2_noteDelivered_66 ?_
    refine lv_iload_n hx hb dX2_noteDelivered_69 rfl (lv_at hl 1 rfl) ?_
    refine lv_iload_n hx hb dX2_noteDelivered_70 rfl (lv_at hl 2 rfl) ?_
    refine lv_iload_n hx hb dX2_noteDelivered_71 rfl (lv_at hl 3 rfl) ?_
    refine lv_iload hx hb dX2_noteDelivered_72 (lv_at hl 4 rfl) ?_
    refine lv_iload hx hb dX2_noteDelivered_74 (lv_at hl 5 rfl) ?_
    refine j_Vi (n := 5) (As := [.int (nI (cu)), .int (nI (lt)), .int (nI (it)), .int (nI (fe)), .int (nI (wt))]) hx hb hml hown hts hw (j_recv hw hlts1.1 rfl) (c_X1_add l g z H (a + 9) (nI (cu)) (nI (lt)) (nI (it)) (nI (fe)) (nI (wt)) (kpt (rput (latR σ) (0) 0 (-1))) (by omega) hlts1 (by first | assumption | omega)) gX2_noteDelivered_X1_add rfl (by decide +kernel) ⟨Nat.le_of_ble_eq_true rfl, Nat.le_of_ble_eq_true rfl⟩ rfl hl.1 (Nat.le_of_ble_eq_true rfl) ⟨Nat.zero_le _, Nat.zero_le _⟩ dX2_noteDelivered_76 (fun r11 H locs hr11 hw hsz => ?_) rfl
    obtain ⟨rfl, hr11⟩ := hr11
    obtain ⟨hlts1, hf2⟩ := hr11
    have hOs1 := hOs1.kept (hf2.2 _ (by omega))
    have hses1 := hses1.kept (hf2.2 _ (by omega))
    have hpus1 := hpus1.kept (hf2.2 _ (by omega))
    have hdts1 := hdts1.kept (hf2.2 _ (by omega))
    have hlas1 := hlas1.kept (hf2.2 _ (by omega))
    have hfrs1 := hfrs1.kept (hf2.2 _ (by omega))
    have htks1 := htks1.kept (hf2.2 _ (by omega))
    have hcts1 := hcts1.kept (hf2.2 _ (by omega))
    have hops1 := hops1.kept (fun q _ _ => hf2.2 q (by omega))
    have hf := hf.step hf2 (by omega)
    rw [mkR_o, lat_full hs (by rw [latR_len] at c47; omega)] at hlts1
    refine lv_pop hx hb dX2_noteDelivered_79 rfl ?_
    refine j_vret hx hb hr hlocks hH hw dX2_noteDelivered_80 ?_
    have hS12 : jSo g H a (upl (upn (upn (upn σ 7 (σ.1 7 + 1)) 10 (σ.1 10 + fe)) (50 + cu) (σ.1 (50 + cu) + 1)) ((mkO cu lt it fe wt 0 :: σ.2.2.2).take 10)) Rs := ⟨ses1, pus1, f5, las1, frs1, tks1, f3, hOs1, hses1, hpus1, hdts1, hlas1, hfrs1, htks1, hops1, hlts1, hcts1, hSs1⟩
    have h8 := hS12
    have h9 : jSo g H a (note σ (mkO cu lt it fe wt 0)) Rs := by rw [← note_C (o := mkO cu lt it fe wt 0) hcu]; exact h8
    exact ⟨rfl, h9, hf⟩

abbrev q_X2_payBack (g : jG) (H0 : Heap) (a : Nat) (i : Nat) (σ : Sg) (Rs : List OR) (o : Od) : Option Value → Heap → Prop := jN (fun r H1 => r = nI (o 3) ∧ jSo g H1 a (payC σ o) Rs ∧ jF a 12 H0 H1)
set_option maxHeartbeats 4000000 in
set_option maxRecDepth 100000 in
theorem c_X2_payBack (l : Launch) (g : jG) (z : Nat) (H0 : Heap) (a : Nat) (i : Nat) (σ : Sg) (Rs : List OR) (o : Od) (hz : z ≤ a) (hS : jSo g H0 a σ Rs) (hro : Rs[i]? = some (oRow o)) (hoo : okO o) : jM l g z yX2_payBack wsX2_payBack 1 23 [.ref a, .int (nI (i))] H0 (q_X2_payBack g H0 a i σ Rs o) := by
  refine j_of (cc := cX2_payBack) (n := 4) (ret := some .int) (by decide) rfl (Nat.le_of_ble_eq_true rfl) ?_
  intro p e s m below meth c hx hb hr hml hown hts hlocks hname hH hw ls hl
  have hl : lv_has ls 4 [(0, .ref a), (1, .int (nI (i)))] := hl
  have hinX2 : ∀ w ∈ u_ws RX2 TX2 9, w ∈ wsX2_payBack := by decide +kernel
  have hf : jF a 12 H0 H0 := jF.rf
  have hl21 := hS.len
  obtain ⟨ho0, ho1, ho2, ho3, ho4, ho5⟩ := hoo
  refine lv_aload_n hx hb dX2_payBack_0 rfl (lv_at hl 0 rfl) ?_
  obtain ⟨ses1, pus1, dts1, las1, frs1, tks1, cts1, hOs1, hses1, hpus1, hdts1, hlas1, hfrs1, htks1, hops1, hlts1, hcts1, hSs1⟩ := hS
  have hOs1 : jO g H0 a 2 [.ref (a + 1), .ref (a + 2), .ref (a + 3), .ref (a + 4), .ref (a + 5), .ref (a + 6), .ref (a + 7), .ref (a + 9), .ref (a + 11)] := hOs1
  have hses1 : jI g H0 (a + 1) 5 ses1 := hses1
  have hpus1 : jI g H0 (a + 2) 4 pus1 := hpus1
  have hdts1 : jI g H0 (a + 3) 4 dts1 := hdts1
  have hlas1 : jI g H0 (a + 4) 4 las1 := hlas1
  have hfrs1 : jI g H0 (a + 5) 16 frs1 := hfrs1
  have htks1 : jI g H0 (a + 6) 16 tks1 := htks1
  have hcts1 : jI g H0 (a + 11) 11 cts1 := hcts1
  have hops1 : jOr g H0 (a + 7) Rs := hops1
  have hlts1 : jOr g H0 (a + 9) (latR σ) := hlts1
  refine j_get (T := TX2) (N := 9) (k := 6) hx hb hts hinX2 hown hw hOs1 rfl (by decide) (hts (.fieldLink RX2 33 "NightTrains$Store" "open" "LNightTrains$Orders;") (by decide +kernel)) rfl dX2_payBack_1 ?_
  refine lv_iload_n hx hb dX2_payBack_4 rfl (lv_at hl 1 rfl) ?_
  refine lv_iconst (v := (nI (0))) hx hb dX2_payBack_5 (by decide) ?_
  refine j_Vp (n := 2) (As := [.int (nI (i)), .int (nI (0))]) hx hb hml hown hts hw (j_recv hw hops1.1 rfl) (c_X1_get l g z H0 (a + 7) (nI (i)) (nI (0)) Rs (by omega) hops1 ) gX2_payBack_X1_get rfl (by decide +kernel) ⟨Nat.le_of_ble_eq_true rfl, Nat.le_of_ble_eq_true rfl⟩ rfl hl.1 (Nat.le_of_ble_eq_true rfl) ⟨Nat.zero_le _, Nat.zero_le _⟩ dX2_payBack_6 (fun r2 locs hr2 hw => ?_) rfl
  obtain rfl : r2 = nI (o 0) := hr2.trans (gtR_o hro (by decide) (by omega))
  refine lv_istore_n (lv' := [(2, .int _), (0, .ref _), (1, .int _)]) hx hb dX2_payBack_9 rfl hl (by decide) rfl (fun ls hl => ?_)
  refine lv_aload_n hx hb dX2_payBack_10 rfl (lv_at hl 1 rfl) ?_
  refine j_get (T := TX2) (N := 9) (k := 6) hx hb hts hinX2 hown hw hOs1 rfl (by decide) (hts (.fieldLink RX2 33 "NightTrains$Store" "open" "LNightTrains$Orders;") (by decide +kernel)) rfl dX2_payBack_11 ?_
  refine lv_iload_n hx hb dX2_payBack_14 rfl (lv_at hl 2 rfl) ?_
  refine lv_iconst (v := (nI (3))) hx hb dX2_payBack_15 (by decide) ?_
  refine j_Vp (n := 2) (As := [.int (nI (i)), .int (nI (3))]) hx hb hml hown hts hw (j_recv hw hops1.1 rfl) (c_X1_get l g z H0 (a + 7) (nI (i)) (nI (3)) Rs (by omega) hops1 ) gX2_payBack_X1_get rfl (by decide +kernel) ⟨Nat.le_of_ble_eq_true rfl, Nat.le_of_ble_eq_true rfl⟩ rfl hl.1 (Nat.le_of_ble_eq_true rfl) ⟨Nat.zero_le _, Nat.zero_le _⟩ dX2_payBack_16 (fun r3 locs hr3 hw => ?_) rfl
  obtain rfl : r3 = nI (o 3) := hr3.trans (gtR_o hro (by decide) (by omega))
  refine lv_istore_n (lv' := [(3, .int _), (2, .int _), (0, .ref _), (1, .int _)]) hx hb dX2_payBack_19 rfl hl (by decide) rfl (fun ls hl => ?_)
  refine lv_iload_n hx hb dX2_payBack_20 rfl (lv_at hl 1 rfl) ?_
  refine j_SNp (n := 1) (As := [.int (nI ((o 0)))]) hx hb hml hown hts hw (c_X4_isReader l g z H0 (nI ((o 0)))   ) gX2_payBack_X4_isReader_n87 (host := RX4) (by decide +kernel) (by decide +kernel) (by decide +kernel) rfl (by decide +kernel) ⟨Nat.le_of_ble_eq_true rfl, Nat.le_of_ble_eq_true rfl⟩ rfl hl.1 (Nat.le_of_ble_eq_true rfl) ⟨Nat.zero_le _, Nat.zero_le _⟩ dX2_payBack_21 (fun r4 locs hr4 hw => ?_) rfl
  obtain rfl : r4 = nI 1 := ixY (by decide) (by omega) (by omega) hr4
  refine jz_eq (tgt := 37) hx hb dX2_payBack_24 (by decide) (by omega) (fun c24 => absurd c24 (by omega)) (fun c24 => ?_)
  refine lv_aload_n hx hb dX2_payBack_27 rfl (lv_at hl 2 rfl) ?_
  refine j_get (T := TX2) (N := 9) (k := 1) hx hb hts hinX2 hown hw hOs1 rfl (by decide) (hts (.fieldLink RX2 15 "NightTrains$Store" "purse" "[I") (by decide +kernel)) rfl dX2_payBack_28 ?_
  refine lv_iload_n hx hb dX2_payBack_31 rfl (lv_at hl 1 rfl) ?_
  refine lv_dup2_11 hx hb dX2_payBack_32 rfl rfl ?_
  refine j_iald hx hb hw hpus1 (k := (o 0)) rfl (by omega) (by omega) dX2_payBack_33 ?_
  refine j_eq (y := (σ.2.1 (o 0))) (hSs1.rpu (k := o 0) (by omega)) ?_
  refine lv_iload_n hx hb dX2_payBack_34 rfl (lv_at hl 0 rfl) ?_
  refine lv_iadd hx hb dX2_payBack_35 ?_
  refine j_iast hx hb hw hpus1 (by omega) (k := (o 0)) rfl (by omega) (by omega) dX2_payBack_36 (fun H locs hw hpus1 oq hsz => ?_)
  obtain ⟨f5, ef5⟩ : ∃ y9, y9 = upd pus1 ((o 0)) ((σ.2.1 (o 0)) + (nI ((o 3)))) := ⟨_, rfl⟩
  rw [← ef5] at hpus1
  have hOs1 := hOs1.kept (oq _ (by omega))
  have hses1 := hses1.kept (oq _ (by omega))
  have hdts1 := hdts1.kept (oq _ (by omega))
  have hlas1 := hlas1.kept (oq _ (by omega))
  have hfrs1 := hfrs1.kept (oq _ (by omega))
  have htks1 := htks1.kept (oq _ (by omega))
  have hcts1 := hcts1.kept (oq _ (by omega))
  have hops1 := hops1.kept (fun q _ _ => oq q (by omega))
  have hlts1 := hlts1.kept (fun q _ _ => oq q (by omega))
  have hf := hf.put oq hsz (by omega)
  have hSs1 := hSs1.wpu (k := o 0) (y := (σ.2.1 (o 0) + nI (o 3))) (by omega) rfl
  rw [← ef5] at hSs1
  refine lv_aload_n hx hb dX2_payBack_37 rfl (lv_at hl 2 rfl) ?_
  refine j_get (T := TX2) (N := 9) (k := 8) hx hb hts hinX2 hown hw hOs1 rfl (by decide) (hts (.fieldLink RX2 40 "NightTrains$Store" "counts" "[I") (by decide +kernel)) rfl dX2_payBack_38 ?_
  refine lv_bipush (v := (nI (7))) hx hb dX2_payBack_41 (by decide) ?_
  refine lv_dup2_11 hx hb dX2_payBack_43 rfl rfl ?_
  refine j_iald hx hb hw hcts1 (k := 7) rfl (by omega) (by omega) dX2_payBack_44 ?_
  refine j_eq (y := nI (σ.1 11)) (hSs1.rct (k := 7) (by decide)) ?_
  refine lv_iload_n hx hb dX2_payBack_45 rfl (lv_at hl 0 rfl) ?_
  refine j_addN hx hb dX2_payBack_46 ?_
  refine j_iast hx hb hw hcts1 (by omega) (k := 7) rfl (by omega) (by omega) dX2_payBack_47 (fun H locs hw hcts1 oq hsz => ?_)
  obtain ⟨f6, ef6⟩ : ∃ y9, y9 = upd cts1 (7) (nI ((σ.1 11 + (o 3)))) := ⟨_, rfl⟩
  rw [← ef6] at hcts1
  have hOs1 := hOs1.kept (oq _ (by omega))
  have hses1 := hses1.kept (oq _ (by omega))
  have hpus1 := hpus1.kept (oq _ (by omega))
  have hdts1 := hdts1.kept (oq _ (by omega))
  have hlas1 := hlas1.kept (oq _ (by omega))
  have hfrs1 := hfrs1.kept (oq _ (by omega))
  have htks1 := htks1.kept (oq _ (by omega))
  have hops1 := hops1.kept (fun q _ _ => oq q (by omega))
  have hlts1 := hlts1.kept (fun q _ _ => oq q (by omega))
  have hf := hf.put oq hsz (by omega)
  have hSs1 := hSs1.wct (k := 7) (v := σ.1 11 + o 3) (by decide) rfl
  rw [← ef6] at hSs1
  have hSs1 : Sto ses1 f5 dts1 las1 frs1 tks1 f6 (upn (upp σ (o 0) (σ.2.1 (o 0) + nI (o 3))) 11 (σ.1 11 + o 3)) := hSs1
  refine lv_iload_n hx hb dX2_payBack_48 rfl (lv_at hl 0 rfl) ?_
  refine j_iret hx hb hr hlocks hH hw dX2_payBack_49 ?_
  have hS7 : jSo g H a (upn (upp σ (o 0) (σ.2.1 (o 0) + nI (o 3))) 11 (σ.1 11 + o 3)) Rs := ⟨ses1, f5, dts1, las1, frs1, tks1, f6, hOs1, hses1, hpus1, hdts1, hlas1, hfrs1, htks1, hops1, hlts1, hcts1, hSs1⟩
  exact ⟨_, rfl, rfl, hS7, hf⟩

abbrev q_X2_place (g : jG) (H0 : Heap) (a : Nat) (cu : Nat) (lt : Nat) (it : Nat) (fe : Nat) (σ : Sg) : Option Value → Heap → Prop := jN (fun r H1 => (0 < σ.1 (14 + lt) ∧ r = -1 ∧ jSo g H1 a (askF σ cu lt it) (opnR (askF σ cu lt it)) ∧ jF a 12 H0 H1) ∨ (σ.1 (14 + lt) = 0 ∧ r = nI σ.2.2.1.length ∧ jSo g H1 a (askO σ cu lt it fe) (opnR (askO σ cu lt it fe)) ∧ jF a 12 H0 H1))
set_option maxHeartbeats 4000000 in
set_option maxRecDepth 100000 in
theorem c_X2_place (l : Launch) (g : jG) (z : Nat) (H0 : Heap) (a : Nat) (cu : Nat) (lt : Nat) (it : Nat) (fe : Nat) (σ : Sg) (hz : z ≤ a) (hS : jSo g H0 a σ (opnR σ)) (hs : okS σ) (hcu : cu < 4) (hlt : lt < 16) (hn : 0 < σ.1 (14 + lt) ∨ σ.2.2.1.length < 21) : jM l g z yX2_place wsX2_place 4 107 [.ref a, .int (nI (cu)), .int (nI (lt)), .int (nI (it)), .int (nI (fe))] H0 (q_X2_place g H0 a cu lt it fe σ) := by
  refine j_of (cc := cX2_place) (n := 5) (ret := some .int) (by decide) rfl (Nat.le_of_ble_eq_true rfl) ?_
  intro p e s m below meth c hx hb hr hml hown hts hlocks hname hH hw ls hl
  have hl : lv_has ls 5 [(0, .ref a), (1, .int (nI (cu))), (2, .int (nI (lt))), (3, .int (nI (it))), (4, .int (nI (fe)))] := hl
  have hinX2 : ∀ w ∈ u_ws RX2 TX2 9, w ∈ wsX2_place := by decide +kernel
  have hf : jF a 12 H0 H0 := jF.rf
  have hl21 := hS.len
  have hln := opnR_len (σ := σ)
  rw [hln] at hl21
  refine lv_aload_n hx hb dX2_place_0 rfl (lv_at hl 0 rfl) ?_
  refine lv_iload_n hx hb dX2_place_1 rfl (lv_at hl 2 rfl) ?_
  refine j_Vp (n := 1) (As := [.int (nI (lt))]) hx hb hml hown hts hw (j_recv hw hS.obj rfl) (c_X2_isInFront l g z H0 a (lt) σ (opnR σ) hz hS (by first | assumption | omega) (by first | assumption | omega)) gX2_place_X2_isInFront rfl (by decide +kernel) ⟨Nat.le_of_ble_eq_true rfl, Nat.le_of_ble_eq_true rfl⟩ rfl hl.1 (Nat.le_of_ble_eq_true rfl) ⟨Nat.zero_le _, Nat.zero_le _⟩ dX2_place_2 (fun r1 locs hr1 hw => ?_) rfl
  rcases hr1 with ⟨rfl, hr1⟩ | ⟨rfl, hr1⟩
  · refine jz_eq (tgt := 26) hx hb dX2_place_5 (by decide) (by omega) (fun c5 => absurd c5 (by omega)) (fun c5 => ?_)
    refine lv_aload_n hx hb dX2_place_8 rfl (lv_at hl 0 rfl) ?_
    obtain ⟨ses2, pus2, dts2, las2, frs2, tks2, cts2, hOs2, hses2, hpus2, hdts2, hlas2, hfrs2, htks2, hops2, hlts2, hcts2, hSs2⟩ := hS
    have hOs2 : jO g H0 a 2 [.ref (a + 1), .ref (a + 2), .ref (a + 3), .ref (a + 4), .ref (a + 5), .ref (a + 6), .ref (a + 7), .ref (a + 9), .ref (a + 11)] := hOs2
    have hses2 : jI g H0 (a + 1) 5 ses2 := hses2
    have hpus2 : jI g H0 (a + 2) 4 pus2 := hpus2
    have hdts2 : jI g H0 (a + 3) 4 dts2 := hdts2
    have hlas2 : jI g H0 (a + 4) 4 las2 := hlas2
    have hfrs2 : jI g H0 (a + 5) 16 frs2 := hfrs2
    have htks2 : jI g H0 (a + 6) 16 tks2 := htks2
    have hcts2 : jI g H0 (a + 11) 11 cts2 := hcts2
    have hops2 : jOr g H0 (a + 7) (opnR σ) := hops2
    have hlts2 : jOr g H0 (a + 9) (latR σ) := hlts2
    refine j_get (T := TX2) (N := 9) (k := 4) hx hb hts hinX2 hown hw hOs2 rfl (by decide) (hts (.fieldLink RX2 24 "NightTrains$Store" "front" "[I") (by decide +kernel)) rfl dX2_place_9 ?_
    refine lv_iload_n hx hb dX2_place_12 rfl (lv_at hl 2 rfl) ?_
    refine lv_iconst (v := (nI (0))) hx hb dX2_place_13 (by decide) ?_
    refine j_iast hx hb hw hfrs2 (by omega) (k := lt) rfl (by omega) (by omega) dX2_place_14 (fun H locs hw hfrs2 oq hsz => ?_)
    obtain ⟨f3, ef3⟩ : ∃ y9, y9 = upd frs2 (lt) (nI (0)) := ⟨_, rfl⟩
    rw [← ef3] at hfrs2
    have hOs2 := hOs2.kept (oq _ (by omega))
    have hses2 := hses2.kept (oq _ (by omega))
    have hpus2 := hpus2.kept (oq _ (by omega))
    have hdts2 := hdts2.kept (oq _ (by omega))
    have hlas2 := hlas2.kept (oq _ (by omega))
    have htks2 := htks2.kept (oq _ (by omega))
    have hcts2 := hcts2.kept (oq _ (by omega))
    have hops2 := hops2.kept (fun q _ _ => oq q (by omega))
    have hlts2 := hlts2.kept (fun q _ _ => oq q (by omega))
    have hf := hf.put oq hsz (by omega)
    have hSs2 := hSs2.wfr (k := lt) (v := 1) (x := nI 0) (by omega) (by decide)
    rw [← ef3] at hSs2
    refine lv_aload_n hx hb dX2_place_15 rfl (lv_at hl 0 rfl) ?_
    refine lv_iload_n hx hb dX2_place_16 rfl (lv_at hl 1 rfl) ?_
    refine lv_iload_n hx hb dX2_place_17 rfl (lv_at hl 2 rfl) ?_
    refine lv_iload_n hx hb dX2_place_18 rfl (lv_at hl 3 rfl) ?_
    refine lv_iconst (v := (nI (0))) hx hb dX2_place_19 (by decide) ?_
    refine lv_iconst (v := (nI (0))) hx hb dX2_place_20 (by decide) ?_
    have hS4 : jSo g H a (upn σ (14 + lt) 1) (opnR σ) := ⟨ses2, pus2, dts2, las2, f3, tks2, cts2, hOs2, hses2, hpus2, hdts2, hlas2, hfrs2, htks2, hops2, hlts2, hcts2, hSs2⟩
    refine j_Vv (n := 5) (As := [.int (nI (cu)), .int (nI (lt)), .int (nI (it)), .int (nI (0)), .int (nI (0))]) hx hb hml hown hts hw (j_recv hw hS4.obj rfl) (c_X2_noteDelivered l g z H a (cu) (lt) (it) (0) (0) (upn σ (14 + lt) 1) (opnR σ) (by omega) hS4 (hs.front (k := 14 + lt) (v := 1) (by omega) (by omega)) (by first | assumption | omega)) gX2_place_X2_noteDelivered rfl (by decide +kernel) ⟨Nat.le_of_ble_eq_true rfl, Nat.le_of_ble_eq_true rfl⟩ rfl hl.1 (Nat.le_of_ble_eq_true rfl) ⟨Nat.zero_le _, Nat.zero_le _⟩ dX2_place_21 (fun H locs hr5 hw hsz => ?_) rfl
    obtain ⟨hS4, hf2⟩ := hr5
    have hf := hf.step hf2 (by omega)
    refine lv_iconst (v := (-1)) hx hb dX2_place_24 (by decide) ?_
    refine j_iret hx hb hr hlocks hH hw dX2_place_25 ?_
    exact ⟨_, rfl, Or.inl ⟨hr1, rfl, hS4, hf⟩⟩
  · refine jz_eq (tgt := 26) hx hb dX2_place_5 (by decide) (by omega) (fun c5 => ?_) (fun c5 => absurd c5 (by omega))
    refine lv_iload_n hx hb dX2_place_26 rfl (lv_at hl 1 rfl) ?_
    refine j_SNp (n := 1) (As := [.int (nI (cu))]) hx hb hml hown hts hw (c_X4_isReader l g z H0 (nI (cu))   ) gX2_place_X4_isReader_n87 (host := RX4) (by decide +kernel) (by decide +kernel) (by decide +kernel) rfl (by decide +kernel) ⟨Nat.le_of_ble_eq_true rfl, Nat.le_of_ble_eq_true rfl⟩ rfl hl.1 (Nat.le_of_ble_eq_true rfl) ⟨Nat.zero_le _, Nat.zero_le _⟩ dX2_place_27 (fun r6 locs hr6 hw => ?_) rfl
    obtain rfl : r6 = nI 1 := ixY (by decide) (by omega) (by omega) hr6
    refine jz_eq (tgt := 44) hx hb dX2_place_30 (by decide) (by omega) (fun c30 => absurd c30 (by omega)) (fun c30 => ?_)
    refine lv_aload_n hx hb dX2_place_33 rfl (lv_at hl 0 rfl) ?_
    obtain ⟨ses7, pus7, dts7, las7, frs7, tks7, cts7, hOs7, hses7, hpus7, hdts7, hlas7, hfrs7, htks7, hops7, hlts7, hcts7, hSs7⟩ := hS
    have hOs7 : jO g H0 a 2 [.ref (a + 1), .ref (a + 2), .ref (a + 3), .ref (a + 4), .ref (a + 5), .ref (a + 6), .ref (a + 7), .ref (a + 9), .ref (a + 11)] := hOs7
    have hses7 : jI g H0 (a + 1) 5 ses7 := hses7
    have hpus7 : jI g H0 (a + 2) 4 pus7 := hpus7
    have hdts7 : jI g H0 (a + 3) 4 dts7 := hdts7
    have hlas7 : jI g H0 (a + 4) 4 las7 := hlas7
    have hfrs7 : jI g H0 (a + 5) 16 frs7 := hfrs7
    have htks7 : jI g H0 (a + 6) 16 tks7 := htks7
    have hcts7 : jI g H0 (a + 11) 11 cts7 := hcts7
    have hops7 : jOr g H0 (a + 7) (opnR σ) := hops7
    have hlts7 : jOr g H0 (a + 9) (latR σ) := hlts7
    refine j_get (T := TX2) (N := 9) (k := 1) hx hb hts hinX2 hown hw hOs7 rfl (by decide) (hts (.fieldLink RX2 15 "NightTrains$Store" "purse" "[I") (by decide +kernel)) rfl dX2_place_34 ?_
    refine lv_iload_n hx hb dX2_place_37 rfl (lv_at hl 1 rfl) ?_
    refine lv_dup2_11 hx hb dX2_place_38 rfl rfl ?_
    refine j_iald hx hb hw hpus7 (k := cu) rfl (by omega) (by omega) dX2_place_39 ?_
    refine j_eq (y := (σ.2.1 cu)) (hSs7.rpu (k := cu) (by omega)) ?_
    refine lv_iload hx hb dX2_place_40 (lv_at hl 4 rfl) ?_
    refine lv_isub hx hb dX2_place_42 ?_
    refine j_iast hx hb hw hpus7 (by omega) (k := cu) rfl (by omega) (by omega) dX2_place_43 (fun H locs hw hpus7 oq hsz => ?_)
    obtain ⟨f8, ef8⟩ : ∃ y9, y9 = upd pus7 (cu) ((σ.2.1 cu) - (nI (fe))) := ⟨_, rfl⟩
    rw [← ef8] at hpus7
    have hOs7 := hOs7.kept (oq _ (by omega))
    have hses7 := hses7.kept (oq _ (by omega))
    have hdts7 := hdts7.kept (oq _ (by omega))
    have hlas7 := hlas7.kept (oq _ (by omega))
    have hfrs7 := hfrs7.kept (oq _ (by omega))
    have htks7 := htks7.kept (oq _ (by omega))
    have hcts7 := hcts7.kept (oq _ (by omega))
    have hops7 := hops7.kept (fun q _ _ => oq q (by omega))
    have hlts7 := hlts7.kept (fun q _ _ => oq q (by omega))
    have hf := hf.put oq hsz (by omega)
    have hSs7 := hSs7.wpu (k := cu) (y := (σ.2.1 cu - nI fe)) (by omega) rfl
    rw [← ef8] at hSs7
    refine lv_aload_n hx hb dX2_place_44 rfl (lv_at hl 0 rfl) ?_
    refine j_get (T := TX2) (N := 9) (k := 6) hx hb hts hinX2 hown hw hOs7 rfl (by decide) (hts (.fieldLink RX2 33 "NightTrains$Store" "open" "LNightTrains$Orders;") (by decide +kernel)) rfl dX2_place_45 ?_
    refine lv_iload_n hx hb dX2_place_48 rfl (lv_at hl 1 rfl) ?_
    refine lv_iload_n hx hb dX2_place_49 rfl (lv_at hl 2 rfl) ?_
    refine lv_iload_n hx hb dX2_place_50 rfl (lv_at hl 3 rfl) ?_
    refine lv_iload hx hb dX2_place_51 (lv_at hl 4 rfl) ?_
    refine lv_iconst (v := (nI (0))) hx hb dX2_place_53 (by decide) ?_
    refine j_Vi (n := 5) (As := [.int (nI (cu)), .int (nI (lt)), .int (nI (it)), .int (nI (fe)), .int (nI (0))]) hx hb hml hown hts hw (j_recv hw hops7.1 rfl) (c_X1_add l g z H (a + 7) (nI (cu)) (nI (lt)) (nI (it)) (nI (fe)) (nI (0)) (opnR σ) (by omega) hops7 (by rw [hln]; exact hn.resolve_left (by omega))) gX2_place_X1_add rfl (by decide +kernel) ⟨Nat.le_of_ble_eq_true rfl, Nat.le_of_ble_eq_true rfl⟩ rfl hl.1 (Nat.le_of_ble_eq_true rfl) ⟨Nat.zero_le _, Nat.zero_le _⟩ dX2_place_54 (fun r9 H locs hr9 hw hsz => ?_) rfl
    obtain ⟨rfl, hr9⟩ := hr9
    obtain ⟨hops7, hf2⟩ := hr9
    have hOs7 := hOs7.kept (hf2.2 _ (by omega))
    have hses7 := hses7.kept (hf2.2 _ (by omega))
    have hpus7 := hpus7.kept (hf2.2 _ (by omega))
    have hdts7 := hdts7.kept (hf2.2 _ (by omega))
    have hlas7 := hlas7.kept (hf2.2 _ (by omega))
    have hfrs7 := hfrs7.kept (hf2.2 _ (by omega))
    have htks7 := htks7.kept (hf2.2 _ (by omega))
    have hcts7 := hcts7.kept (hf2.2 _ (by omega))
    have hlts7 := hlts7.kept (fun q _ _ => hf2.2 q (by omega))
    have hf := hf.step hf2 (by omega)
    refine j_iret hx hb hr hlocks hH hw dX2_place_57 ?_
    rw [mkR_o, ← opnR_add] at hops7
    have hS10 : jSo g H a (askO σ cu lt it fe) (opnR (askO σ cu lt it fe)) := ⟨ses7, f8, dts7, las7, frs7, tks7, cts7, hOs7, hses7, hpus7, hdts7, hlas7, hfrs7, htks7, hops7, hlts7, hcts7, hSs7⟩
    exact ⟨_, rfl, Or.inr ⟨hr1, by rw [hln], hS10, hf⟩⟩

abbrev q_X2_placeIfAllowed (g : jG) (H0 : Heap) (a : Nat) (cu : Nat) (lt : Nat) (it : Nat) (fe : Nat) (σ : Sg) : Option Value → Heap → Prop := jN (fun r H1 => r = bI (tAsk σ cu lt it fe).isSome ∧ jSo g H1 a ((tAsk σ cu lt it fe).getD σ) (opnR ((tAsk σ cu lt it fe).getD σ)) ∧ jF a 12 H0 H1)
set_option maxHeartbeats 4000000 in
set_option maxRecDepth 100000 in
theorem c_X2_placeIfAllowed (l : Launch) (g : jG) (z : Nat) (H0 : Heap) (a : Nat) (cu : Nat) (lt : Nat) (it : Nat) (fe : Nat) (σ : Sg) (hz : z ≤ a) (hS : jSo g H0 a σ (opnR σ)) (hs : okS σ) (hit : it < 8) (hfe : fe < 10) (hcu : cu < 2 ^ 31) (hlt : lt < 2 ^ 31) : jM l g z yX2_placeIfAllowed wsX2_placeIfAllowed 5 131 [.ref a, .int (nI (cu)), .int (nI (lt)), .int (nI (it)), .int (nI (fe))] H0 (q_X2_placeIfAllowed g H0 a cu lt it fe σ) := by
  refine j_of (cc := cX2_placeIfAllowed) (n := 6) (ret := some .boolean) (by decide) rfl (Nat.le_of_ble_eq_true rfl) ?_
  intro p e s m below meth c hx hb hr hml hown hts hlocks hname hH hw ls hl
  have hl : lv_has ls 6 [(0, .ref a), (1, .int (nI (cu))), (2, .int (nI (lt))), (3, .int (nI (it))), (4, .int (nI (fe)))] := hl
  have hf : jF a 12 H0 H0 := jF.rf
  have hl21 := hS.len
  have hln := opnR_len (σ := σ)
  rw [hln] at hl21
  refine lv_iload_n hx hb dX2_placeIfAllowed_0 rfl (lv_at hl 1 rfl) ?_
  refine j_SNp (n := 1) (As := [.int (nI (cu))]) hx hb hml hown hts hw (c_X4_isReader l g z H0 (nI (cu))   ) gX2_placeIfAllowed_X4_isReader_n87 (host := RX4) (by decide +kernel) (by decide +kernel) (by decide +kernel) rfl (by decide +kernel) ⟨Nat.le_of_ble_eq_true rfl, Nat.le_of_ble_eq_true rfl⟩ rfl hl.1 (Nat.le_of_ble_eq_true rfl) ⟨Nat.zero_le _, Nat.zero_le _⟩ dX2_placeIfAllowed_1 (fun r1 locs hr1 hw => ?_) rfl
  rcases ixN (by omega) (by decide) hr1 with ⟨rfl, hc1⟩ | ⟨rfl, hc1⟩
  · refine jz_eq (tgt := 44) hx hb dX2_placeIfAllowed_4 (by decide) (by omega) (fun c4 => absurd c4 (by omega)) (fun c4 => ?_)
    refine lv_iload_n hx hb dX2_placeIfAllowed_7 rfl (lv_at hl 2 rfl) ?_
    refine j_SNp (n := 1) (As := [.int (nI (lt))]) hx hb hml hown hts hw (c_X4_isLot l g z H0 (nI (lt))   ) gX2_placeIfAllowed_X4_isLot_n80 (host := RX4) (by decide +kernel) (by decide +kernel) (by decide +kernel) rfl (by decide +kernel) ⟨Nat.le_of_ble_eq_true rfl, Nat.le_of_ble_eq_true rfl⟩ rfl hl.1 (Nat.le_of_ble_eq_true rfl) ⟨Nat.zero_le _, Nat.zero_le _⟩ dX2_placeIfAllowed_8 (fun r2 locs hr2 hw => ?_) rfl
    rcases ixN (by omega) (by decide) hr2 with ⟨rfl, hc2⟩ | ⟨rfl, hc2⟩
    · refine jz_eq (tgt := 44) hx hb dX2_placeIfAllowed_11 (by decide) (by omega) (fun c11 => absurd c11 (by omega)) (fun c11 => ?_)
      refine lv_iload_n hx hb dX2_placeIfAllowed_14 rfl (lv_at hl 3 rfl) ?_
      refine j_SNp (n := 1) (As := [.int (nI (it))]) hx hb hml hown hts hw (c_X4_isItem l g z H0 (nI (it))   ) gX2_placeIfAllowed_X4_isItem_n98 (host := RX4) (by decide +kernel) (by decide +kernel) (by decide +kernel) rfl (by decide +kernel) ⟨Nat.le_of_ble_eq_true rfl, Nat.le_of_ble_eq_true rfl⟩ rfl hl.1 (Nat.le_of_ble_eq_true rfl) ⟨Nat.zero_le _, Nat.zero_le _⟩ dX2_placeIfAllowed_15 (fun r3 locs hr3 hw => ?_) rfl
      obtain rfl : r3 = nI 1 := ixY (by decide) (by omega) (by omega) hr3
      refine jz_eq (tgt := 44) hx hb dX2_placeIfAllowed_18 (by decide) (by omega) (fun c18 => absurd c18 (by omega)) (fun c18 => ?_)
      refine lv_iload hx hb dX2_placeIfAllowed_21 (lv_at hl 4 rfl) ?_
      refine j_SNp (n := 1) (As := [.int (nI (fe))]) hx hb hml hown hts hw (c_X4_isFee l g z H0 (nI (fe))   ) gX2_placeIfAllowed_X4_isFee_n101 (host := RX4) (by decide +kernel) (by decide +kernel) (by decide +kernel) rfl (by decide +kernel) ⟨Nat.le_of_ble_eq_true rfl, Nat.le_of_ble_eq_true rfl⟩ rfl hl.1 (Nat.le_of_ble_eq_true rfl) ⟨Nat.zero_le _, Nat.zero_le _⟩ dX2_placeIfAllowed_23 (fun r4 locs hr4 hw => ?_) rfl
      obtain rfl : r4 = nI 1 := ixY (by decide) (by omega) (by omega) hr4
      refine jz_eq (tgt := 44) hx hb dX2_placeIfAllowed_26 (by decide) (by omega) (fun c26 => absurd c26 (by omega)) (fun c26 => ?_)
      refine lv_aload_n hx hb dX2_placeIfAllowed_29 rfl (lv_at hl 0 rfl) ?_
      refine lv_iload_n hx hb dX2_placeIfAllowed_30 rfl (lv_at hl 1 rfl) ?_
      refine lv_iload_n hx hb dX2_placeIfAllowed_31 rfl (lv_at hl 2 rfl) ?_
      refine lv_iload hx hb dX2_placeIfAllowed_32 (lv_at hl 4 rfl) ?_
      refine j_Vp (n := 3) (As := [.int (nI (cu)), .int (nI (lt)), .int (nI (fe))]) hx hb hml hown hts hw (j_recv hw hS.obj rfl) (c_X2_takesOrder l g z H0 a (cu) (lt) (fe) σ hz hS (by first | assumption | omega) (by first | assumption | omega) (by first | assumption | omega)) gX2_placeIfAllowed_X2_takesOrder rfl (by decide +kernel) ⟨Nat.le_of_ble_eq_true rfl, Nat.le_of_ble_eq_true rfl⟩ rfl hl.1 (Nat.le_of_ble_eq_true rfl) ⟨Nat.zero_le _, Nat.zero_le _⟩ dX2_placeIfAllowed_34 (fun r5 locs hca hw => ?_) rfl
      rcases hca with ⟨rfl, hca⟩ | ⟨rfl, hca⟩
      · refine jz_eq (tgt := 44) hx hb dX2_placeIfAllowed_37 (by decide) (by omega) (fun c37 => absurd c37 (by omega)) (fun c37 => ?_)
        refine lv_iconst (v := (nI (1))) hx hb dX2_placeIfAllowed_40 (by decide) ?_
        refine lv_goto (tgt := 45) hx hb dX2_placeIfAllowed_41 (by decide) ?_
        refine lv_istore (lv' := [(5, .int _), (0, .ref _), (1, .int _), (2, .int _), (3, .int _), (4, .int _)]) hx hb dX2_placeIfAllowed_45 hl (by decide) rfl (fun ls hl => ?_)
        refine lv_iload hx hb dX2_placeIfAllowed_47 (lv_at hl 0 rfl) ?_
        refine jz_eq (tgt := 62) hx hb dX2_placeIfAllowed_49 (by decide) (by omega) (fun c49 => absurd c49 (by omega)) (fun c49 => ?_)
        refine lv_aload_n hx hb dX2_placeIfAllowed_52 rfl (lv_at hl 1 rfl) ?_
        refine lv_iload_n hx hb dX2_placeIfAllowed_53 rfl (lv_at hl 2 rfl) ?_
        refine lv_iload_n hx hb dX2_placeIfAllowed_54 rfl (lv_at hl 3 rfl) ?_
        refine lv_iload_n hx hb dX2_placeIfAllowed_55 rfl (lv_at hl 4 rfl) ?_
        refine lv_iload hx hb dX2_placeIfAllowed_56 (lv_at hl 5 rfl) ?_
        refine j_Vi (n := 4) (As := [.int (nI (cu)), .int (nI (lt)), .int (nI (it)), .int (nI (fe))]) hx hb hml hown hts hw (j_recv hw hS.obj rfl) (c_X2_place l g z H0 a (cu) (lt) (it) (fe) σ hz hS (by first | assumption | omega) (by first | assumption | omega) (by first | assumption | omega) (hca.imp_right (fun q => by have := q.1; omega))) gX2_placeIfAllowed_X2_place rfl (by decide +kernel) ⟨Nat.le_of_ble_eq_true rfl, Nat.le_of_ble_eq_true rfl⟩ rfl hl.1 (Nat.le_of_ble_eq_true rfl) ⟨Nat.zero_le _, Nat.zero_le _⟩ dX2_placeIfAllowed_58 (fun r6 H locs hr6 hw hsz => ?_) rfl
        rcases hr6 with ⟨hfr, rfl, hr6⟩ | ⟨hfr, rfl, hr6⟩
        · obtain ⟨hS, hf2⟩ := hr6
          have hf := hf.step hf2 (by omega)
          refine lv_pop hx hb dX2_placeIfAllowed_61 rfl ?_
          refine lv_iload hx hb dX2_placeIfAllowed_62 (lv_at hl 0 rfl) ?_
          refine j_zret hx hb hr hlocks hH hw (Or.inr rfl) dX2_placeIfAllowed_64 ?_
          have e9 : tAsk σ cu lt it fe = some (askF σ cu lt it) := by unfold tAsk; exact (if_pos ⟨by omega, by omega, hca⟩).trans (congrArg some (if_pos hfr))
          exact ⟨_, rfl, by rw [e9]; rfl, by rw [e9]; exact hS, hf⟩
        · obtain ⟨hS, hf2⟩ := hr6
          have hf := hf.step hf2 (by omega)
          refine lv_pop hx hb dX2_placeIfAllowed_61 rfl ?_
          refine lv_iload hx hb dX2_placeIfAllowed_62 (lv_at hl 0 rfl) ?_
          refine j_zret hx hb hr hlocks hH hw (Or.inr rfl) dX2_placeIfAllowed_64 ?_
          have e9 : tAsk σ cu lt it fe = some (askO σ cu lt it fe) := by unfold tAsk; exact (if_pos ⟨by omega, by omega, hca⟩).trans (congrArg some (if_neg (by omega)))
          exact ⟨_, rfl, by rw [e9]; rfl, by rw [e9]; exact hS, hf⟩
      · refine jz_eq (tgt := 44) hx hb dX2_placeIfAllowed_37 (by decide) (by omega) (fun c37 => ?_) (fun c37 => absurd c37 (by omega))
        refine lv_iconst (v := (nI (0))) hx hb dX2_placeIfAllowed_44 (by decide) ?_
        refine lv_istore (lv' := [(5, .int _), (0, .ref _), (1, .int _), (2, .int _), (3, .int _), (4, .int _)]) hx hb dX2_placeIfAllowed_45 hl (by decide) rfl (fun ls hl => ?_)
        refine lv_iload hx hb dX2_placeIfAllowed_47 (lv_at hl 0 rfl) ?_
        refine jz_eq (tgt := 62) hx hb dX2_placeIfAllowed_49 (by decide) (by omega) (fun c49 => ?_) (fun c49 => absurd c49 (by omega))
        refine lv_iload hx hb dX2_placeIfAllowed_62 (lv_at hl 0 rfl) ?_
        refine j_zret hx hb hr hlocks hH hw (Or.inl rfl) dX2_placeIfAllowed_64 ?_
        have e9 : tAsk σ cu lt it fe = none := by unfold tAsk; exact if_neg (fun q => by have q1 := q.1; have q2 := q.2.1; first | exact hc1 ⟨Nat.zero_le _, q1⟩ | exact hc2 ⟨Nat.zero_le _, q2⟩ | exact hca q.2.2)
        exact ⟨_, rfl, by rw [e9]; rfl, by rw [e9]; exact hS, hf⟩
    · refine jz_eq (tgt := 44) hx hb dX2_placeIfAllowed_11 (by decide) (by omega) (fun c11 => ?_) (fun c11 => absurd c11 (by omega))
      refine lv_iconst (v := (nI (0))) hx hb dX2_placeIfAllowed_44 (by decide) ?_
      refine lv_istore (lv' := [(5, .int _), (0, .ref _), (1, .int _), (2, .int _), (3, .int _), (4, .int _)]) hx hb dX2_placeIfAllowed_45 hl (by decide) rfl (fun ls hl => ?_)
      refine lv_iload hx hb dX2_placeIfAllowed_47 (lv_at hl 0 rfl) ?_
      refine jz_eq (tgt := 62) hx hb dX2_placeIfAllowed_49 (by decide) (by omega) (fun c49 => ?_) (fun c49 => absurd c49 (by omega))
      refine lv_iload hx hb dX2_placeIfAllowed_62 (lv_at hl 0 rfl) ?_
      refine j_zret hx hb hr hlocks hH hw (Or.inl rfl) dX2_placeIfAllowed_64 ?_
      have e9 : tAsk σ cu lt it fe = none := by unfold tAsk; exact if_neg (fun q => by have q1 := q.1; have q2 := q.2.1; first | exact hc1 ⟨Nat.zero_le _, q1⟩ | exact hc2 ⟨Nat.zero_le _, q2⟩ | exact hca q.2.2)
      exact ⟨_, rfl, by rw [e9]; rfl, by rw [e9]; exact hS, hf⟩
  · refine jz_eq (tgt := 44) hx hb dX2_placeIfAllowed_4 (by decide) (by omega) (fun c4 => ?_) (fun c4 => absurd c4 (by omega))
    refine lv_iconst (v := (nI (0))) hx hb dX2_placeIfAllowed_44 (by decide) ?_
    refine lv_istore (lv' := [(5, .int _), (0, .ref _), (1, .int _), (2, .int _), (3, .int _), (4, .int _)]) hx hb dX2_placeIfAllowed_45 hl (by decide) rfl (fun ls hl => ?_)
    refine lv_iload hx hb dX2_placeIfAllowed_47 (lv_at hl 0 rfl) ?_
    refine jz_eq (tgt := 62) hx hb dX2_placeIfAllowed_49 (by decide) (by omega) (fun c49 => ?_) (fun c49 => absurd c49 (by omega))
    refine lv_iload hx hb dX2_placeIfAllowed_62 (lv_at hl 0 rfl) ?_
    refine j_zret hx hb hr hlocks hH hw (Or.inl rfl) dX2_placeIfAllowed_64 ?_
    have e9 : tAsk σ cu lt it fe = none := by unfold tAsk; exact if_neg (fun q => by have q1 := q.1; have q2 := q.2.1; first | exact hc1 ⟨Nat.zero_le _, q1⟩ | exact hc2 ⟨Nat.zero_le _, q2⟩ | exact hca q.2.2)
    exact ⟨_, rfl, by rw [e9]; rfl, by rw [e9]; exact hS, hf⟩

abbrev q_X2_drop (g : jG) (H0 : Heap) (a : Nat) (i : Nat) (σ : Sg) (o : Od) : Option Value → Heap → Prop := jN (fun r H1 => r = nI (o 3) ∧ jSo g H1 a (cancelS σ i o) (opnR (cancelS σ i o)) ∧ jF a 12 H0 H1)
set_option maxHeartbeats 4000000 in
set_option maxRecDepth 100000 in
theorem c_X2_drop (l : Launch) (g : jG) (z : Nat) (H0 : Heap) (a : Nat) (i : Nat) (σ : Sg) (o : Od) (hz : z ≤ a) (hS : jSo g H0 a σ (opnR σ)) (hs : okS σ) (ho : σ.2.2.1[i]? = some o) : jM l g z yX2_drop wsX2_drop 3 82 [.ref a, .int (nI (i))] H0 (q_X2_drop g H0 a i σ o) := by
  refine j_of (cc := cX2_drop) (n := 3) (ret := some .int) (by decide) rfl (Nat.le_of_ble_eq_true rfl) ?_
  intro p e s m below meth c hx hb hr hml hown hts hlocks hname hH hw ls hl
  have hl : lv_has ls 3 [(0, .ref a), (1, .int (nI (i)))] := hl
  have hinX2 : ∀ w ∈ u_ws RX2 TX2 9, w ∈ wsX2_drop := by decide +kernel
  have hf : jF a 12 H0 H0 := jF.rf
  have hl21 := hS.len
  have hln := opnR_len (σ := σ)
  rw [hln] at hl21
  have hil := lenlt ho
  refine lv_aload_n hx hb dX2_drop_0 rfl (lv_at hl 0 rfl) ?_
  refine lv_iload_n hx hb dX2_drop_1 rfl (lv_at hl 1 rfl) ?_
  refine j_Vi (n := 1) (As := [.int (nI (i))]) hx hb hml hown hts hw (j_recv hw hS.obj rfl) (c_X2_payBack l g z H0 a (i) σ (opnR σ) o hz hS (opnR_get ho) (hs.2.2.2.1 o (memO ho))) gX2_drop_X2_payBack rfl (by decide +kernel) ⟨Nat.le_of_ble_eq_true rfl, Nat.le_of_ble_eq_true rfl⟩ rfl hl.1 (Nat.le_of_ble_eq_true rfl) ⟨Nat.zero_le _, Nat.zero_le _⟩ dX2_drop_2 (fun r1 H locs hr1 hw hsz => ?_) rfl
  obtain ⟨rfl, hr1⟩ := hr1
  obtain ⟨hS, hf2⟩ := hr1
  have hf := hf.step hf2 (by omega)
  refine lv_istore_n (lv' := [(2, .int _), (0, .ref _), (1, .int _)]) hx hb dX2_drop_5 rfl hl (by decide) rfl (fun ls hl => ?_)
  refine lv_aload_n hx hb dX2_drop_6 rfl (lv_at hl 1 rfl) ?_
  obtain ⟨ses2, pus2, dts2, las2, frs2, tks2, cts2, hOs2, hses2, hpus2, hdts2, hlas2, hfrs2, htks2, hops2, hlts2, hcts2, hSs2⟩ := hS
  have hOs2 : jO g H a 2 [.ref (a + 1), .ref (a + 2), .ref (a + 3), .ref (a + 4), .ref (a + 5), .ref (a + 6), .ref (a + 7), .ref (a + 9), .ref (a + 11)] := hOs2
  have hses2 : jI g H (a + 1) 5 ses2 := hses2
  have hpus2 : jI g H (a + 2) 4 pus2 := hpus2
  have hdts2 : jI g H (a + 3) 4 dts2 := hdts2
  have hlas2 : jI g H (a + 4) 4 las2 := hlas2
  have hfrs2 : jI g H (a + 5) 16 frs2 := hfrs2
  have htks2 : jI g H (a + 6) 16 tks2 := htks2
  have hcts2 : jI g H (a + 11) 11 cts2 := hcts2
  have hops2 : jOr g H (a + 7) (opnR σ) := hops2
  have hlts2 : jOr g H (a + 9) (latR (payC σ o)) := hlts2
  refine j_get (T := TX2) (N := 9) (k := 8) hx hb hts hinX2 hown hw hOs2 rfl (by decide) (hts (.fieldLink RX2 40 "NightTrains$Store" "counts" "[I") (by decide +kernel)) rfl dX2_drop_7 ?_
  refine lv_iconst (v := (nI (4))) hx hb dX2_drop_10 (by decide) ?_
  refine lv_dup2_11 hx hb dX2_drop_11 rfl rfl ?_
  refine j_iald hx hb hw hcts2 (k := 4) rfl (by omega) (by omega) dX2_drop_12 ?_
  refine j_eq (y := nI (σ.1 9)) ((hSs2.rct (k := 4) (by decide)).trans (congrArg nI (upn_n (by show (9 : Nat) ≠ _; omega)))) ?_
  refine lv_iconst (v := (nI (1))) hx hb dX2_drop_13 (by decide) ?_
  refine j_addN hx hb dX2_drop_14 ?_
  refine j_iast hx hb hw hcts2 (by omega) (k := 4) rfl (by omega) (by omega) dX2_drop_15 (fun H locs hw hcts2 oq hsz => ?_)
  obtain ⟨f3, ef3⟩ : ∃ y9, y9 = upd cts2 (4) (nI ((σ.1 9 + 1))) := ⟨_, rfl⟩
  rw [← ef3] at hcts2
  have hOs2 := hOs2.kept (oq _ (by omega))
  have hses2 := hses2.kept (oq _ (by omega))
  have hpus2 := hpus2.kept (oq _ (by omega))
  have hdts2 := hdts2.kept (oq _ (by omega))
  have hlas2 := hlas2.kept (oq _ (by omega))
  have hfrs2 := hfrs2.kept (oq _ (by omega))
  have htks2 := htks2.kept (oq _ (by omega))
  have hops2 := hops2.kept (fun q _ _ => oq q (by omega))
  have hlts2 := hlts2.kept (fun q _ _ => oq q (by omega))
  have hf := hf.put oq hsz (by omega)
  have hSs2 := hSs2.wct (k := 4) (v := σ.1 9 + 1) (by decide) rfl
  rw [← ef3] at hSs2
  have hSs2 : Sto ses2 pus2 dts2 las2 frs2 tks2 f3 (upn (payC σ o) 9 (σ.1 9 + 1)) := hSs2
  refine lv_aload_n hx hb dX2_drop_16 rfl (lv_at hl 1 rfl) ?_
  refine j_get (T := TX2) (N := 9) (k := 6) hx hb hts hinX2 hown hw hOs2 rfl (by decide) (hts (.fieldLink RX2 33 "NightTrains$Store" "open" "LNightTrains$Orders;") (by decide +kernel)) rfl dX2_drop_17 ?_
  refine lv_iload_n hx hb dX2_drop_20 rfl (lv_at hl 2 rfl) ?_
  refine j_Vv (n := 1) (As := [.int (nI (i))]) hx hb hml hown hts hw (j_recv hw hops2.1 rfl) (c_X1_end l g z H (a + 7) (i) (opnR σ) (by omega) hops2 (by first | assumption | omega)) gX2_drop_X1_end rfl (by decide +kernel) ⟨Nat.le_of_ble_eq_true rfl, Nat.le_of_ble_eq_true rfl⟩ rfl hl.1 (Nat.le_of_ble_eq_true rfl) ⟨Nat.zero_le _, Nat.zero_le _⟩ dX2_drop_21 (fun H locs hr4 hw hsz => ?_) rfl
  obtain ⟨hops2, hf2⟩ := hr4
  have hOs2 := hOs2.kept (hf2.2 _ (by omega))
  have hses2 := hses2.kept (hf2.2 _ (by omega))
  have hpus2 := hpus2.kept (hf2.2 _ (by omega))
  have hdts2 := hdts2.kept (hf2.2 _ (by omega))
  have hlas2 := hlas2.kept (hf2.2 _ (by omega))
  have hfrs2 := hfrs2.kept (hf2.2 _ (by omega))
  have htks2 := htks2.kept (hf2.2 _ (by omega))
  have hcts2 := hcts2.kept (hf2.2 _ (by omega))
  have hlts2 := hlts2.kept (fun q _ _ => hf2.2 q (by omega))
  have hf := hf.step hf2 (by omega)
  refine lv_aload_n hx hb dX2_drop_24 rfl (lv_at hl 1 rfl) ?_
  refine j_get (T := TX2) (N := 9) (k := 6) hx hb hts hinX2 hown hw hOs2 rfl (by decide) (hts (.fieldLink RX2 33 "NightTrains$Store" "open" "LNightTrains$Orders;") (by decide +kernel)) rfl dX2_drop_25 ?_
  refine j_Vv (n := 0) (As := []) hx hb hml hown hts hw (j_recv hw hops2.1 rfl) (c_X1_closeGaps l g z H (a + 7) (rput (opnR σ) (i) 0 (-1)) (by omega) hops2 ) gX2_drop_X1_closeGaps rfl (by decide +kernel) ⟨Nat.le_of_ble_eq_true rfl, Nat.le_of_ble_eq_true rfl⟩ rfl hl.1 (Nat.le_of_ble_eq_true rfl) ⟨Nat.zero_le _, Nat.zero_le _⟩ dX2_drop_28 (fun H locs hr5 hw hsz => ?_) rfl
  obtain ⟨hops2, hf2⟩ := hr5
  have hOs2 := hOs2.kept (hf2.2 _ (by omega))
  have hses2 := hses2.kept (hf2.2 _ (by omega))
  have hpus2 := hpus2.kept (hf2.2 _ (by omega))
  have hdts2 := hdts2.kept (hf2.2 _ (by omega))
  have hlas2 := hlas2.kept (hf2.2 _ (by omega))
  have hfrs2 := hfrs2.kept (hf2.2 _ (by omega))
  have htks2 := htks2.kept (hf2.2 _ (by omega))
  have hcts2 := hcts2.kept (hf2.2 _ (by omega))
  have hlts2 := hlts2.kept (fun q _ _ => hf2.2 q (by omega))
  have hf := hf.step hf2 (by omega)
  rw [show kpt (rput (opnR σ) i 0 (-1)) = opnR (cancelS σ i o) from kpt_end (fun x hx => Nat.lt_trans (hs.2.2.2.1 x hx).1 (by decide)) ho] at hops2
  refine lv_iload_n hx hb dX2_drop_31 rfl (lv_at hl 0 rfl) ?_
  refine j_iret hx hb hr hlocks hH hw dX2_drop_32 ?_
  have hS6 : jSo g H a (cancelS σ i o) (opnR (cancelS σ i o)) := ⟨ses2, pus2, dts2, las2, frs2, tks2, f3, hOs2, hses2, hpus2, hdts2, hlas2, hfrs2, htks2, hops2, hlts2, hcts2, hSs2⟩
  exact ⟨_, rfl, rfl, hS6, hf⟩

abbrev q_X2_dropIfAllowed (g : jG) (H0 : Heap) (a : Nat) (i : Nat) (σ : Sg) : Option Value → Heap → Prop := jN (fun r H1 => r = bI (tCancel σ i).isSome ∧ jSo g H1 a ((tCancel σ i).getD σ) (opnR ((tCancel σ i).getD σ)) ∧ jF a 12 H0 H1)
set_option maxHeartbeats 4000000 in
set_option maxRecDepth 100000 in
theorem c_X2_dropIfAllowed (l : Launch) (g : jG) (z : Nat) (H0 : Heap) (a : Nat) (i : Nat) (σ : Sg) (hz : z ≤ a) (hS : jSo g H0 a σ (opnR σ)) (hs : okS σ) (hi31 : i < 2 ^ 31) : jM l g z yX2_dropIfAllowed wsX2_dropIfAllowed 4 104 [.ref a, .int (nI (i))] H0 (q_X2_dropIfAllowed g H0 a i σ) := by
  refine j_of (cc := cX2_dropIfAllowed) (n := 3) (ret := some .boolean) (by decide) rfl (Nat.le_of_ble_eq_true rfl) ?_
  intro p e s m below meth c hx hb hr hml hown hts hlocks hname hH hw ls hl
  have hl : lv_has ls 3 [(0, .ref a), (1, .int (nI (i)))] := hl
  have hinX2 : ∀ w ∈ u_ws RX2 TX2 9, w ∈ wsX2_dropIfAllowed := by decide +kernel
  have hf : jF a 12 H0 H0 := jF.rf
  have hl21 := hS.len
  have hln := opnR_len (σ := σ)
  rw [hln] at hl21
  refine lv_aload_n hx hb dX2_dropIfAllowed_0 rfl (lv_at hl 0 rfl) ?_
  obtain ⟨ses1, pus1, dts1, las1, frs1, tks1, cts1, hOs1, hses1, hpus1, hdts1, hlas1, hfrs1, htks1, hops1, hlts1, hcts1, hSs1⟩ := hS
  have hOs1 : jO g H0 a 2 [.ref (a + 1), .ref (a + 2), .ref (a + 3), .ref (a + 4), .ref (a + 5), .ref (a + 6), .ref (a + 7), .ref (a + 9), .ref (a + 11)] := hOs1
  have hses1 : jI g H0 (a + 1) 5 ses1 := hses1
  have hpus1 : jI g H0 (a + 2) 4 pus1 := hpus1
  have hdts1 : jI g H0 (a + 3) 4 dts1 := hdts1
  have hlas1 : jI g H0 (a + 4) 4 las1 := hlas1
  have hfrs1 : jI g H0 (a + 5) 16 frs1 := hfrs1
  have htks1 : jI g H0 (a + 6) 16 tks1 := htks1
  have hcts1 : jI g H0 (a + 11) 11 cts1 := hcts1
  have hops1 : jOr g H0 (a + 7) (opnR σ) := hops1
  have hlts1 : jOr g H0 (a + 9) (latR σ) := hlts1
  refine j_get (T := TX2) (N := 9) (k := 6) hx hb hts hinX2 hown hw hOs1 rfl (by decide) (hts (.fieldLink RX2 33 "NightTrains$Store" "open" "LNightTrains$Orders;") (by decide +kernel)) rfl dX2_dropIfAllowed_1 ?_
  refine lv_iload_n hx hb dX2_dropIfAllowed_4 rfl (lv_at hl 1 rfl) ?_
  refine j_Vp (n := 1) (As := [.int (nI (i))]) hx hb hml hown hts hw (j_recv hw hops1.1 rfl) (c_X1_has l g z H0 (a + 7) (nI (i)) (opnR σ) (by omega) hops1 ) gX2_dropIfAllowed_X1_has rfl (by decide +kernel) ⟨Nat.le_of_ble_eq_true rfl, Nat.le_of_ble_eq_true rfl⟩ rfl hl.1 (Nat.le_of_ble_eq_true rfl) ⟨Nat.zero_le _, Nat.zero_le _⟩ dX2_dropIfAllowed_5 (fun r2 locs hr2 hw => ?_) rfl
  rcases ixN (by omega) (by omega) hr2 with ⟨rfl, hih⟩ | ⟨rfl, hih⟩
  all_goals rw [hln] at hih
  · refine lv_istore_n (lv' := [(2, .int _), (0, .ref _), (1, .int _)]) hx hb dX2_dropIfAllowed_8 rfl hl (by decide) rfl (fun ls hl => ?_)
    refine lv_iload_n hx hb dX2_dropIfAllowed_9 rfl (lv_at hl 0 rfl) ?_
    refine jz_eq (tgt := 19) hx hb dX2_dropIfAllowed_10 (by decide) (by omega) (fun c10 => absurd c10 (by omega)) (fun c10 => ?_)
    obtain ⟨o, ho⟩ := getO (L := σ.2.2.1) (k := i) (by omega)
    refine lv_aload_n hx hb dX2_dropIfAllowed_13 rfl (lv_at hl 1 rfl) ?_
    refine lv_iload_n hx hb dX2_dropIfAllowed_14 rfl (lv_at hl 2 rfl) ?_
    have hS3 : jSo g H0 a σ (opnR σ) := ⟨ses1, pus1, dts1, las1, frs1, tks1, cts1, hOs1, hses1, hpus1, hdts1, hlas1, hfrs1, htks1, hops1, hlts1, hcts1, hSs1⟩
    refine j_Vi (n := 1) (As := [.int (nI (i))]) hx hb hml hown hts hw (j_recv hw hS3.obj rfl) (c_X2_drop l g z H0 a (i) σ o (by omega) hS3 (by first | assumption | omega) ho) gX2_dropIfAllowed_X2_drop rfl (by decide +kernel) ⟨Nat.le_of_ble_eq_true rfl, Nat.le_of_ble_eq_true rfl⟩ rfl hl.1 (Nat.le_of_ble_eq_true rfl) ⟨Nat.zero_le _, Nat.zero_le _⟩ dX2_dropIfAllowed_15 (fun r4 H locs hr4 hw hsz => ?_) rfl
    obtain ⟨rfl, hr4⟩ := hr4
    obtain ⟨hS3, hf2⟩ := hr4
    have hf := hf.step hf2 (by omega)
    refine lv_pop hx hb dX2_dropIfAllowed_18 rfl ?_
    refine lv_iload_n hx hb dX2_dropIfAllowed_19 rfl (lv_at hl 0 rfl) ?_
    refine j_zret hx hb hr hlocks hH hw (Or.inr rfl) dX2_dropIfAllowed_20 ?_
    have e9 : tCancel σ i = some (cancelS σ i o) := by unfold tCancel; rw [ho]
    exact ⟨_, rfl, by rw [e9]; rfl, by rw [e9]; exact hS3, hf⟩
  · refine lv_istore_n (lv' := [(2, .int _), (0, .ref _), (1, .int _)]) hx hb dX2_dropIfAllowed_8 rfl hl (by decide) rfl (fun ls hl => ?_)
    refine lv_iload_n hx hb dX2_dropIfAllowed_9 rfl (lv_at hl 0 rfl) ?_
    refine jz_eq (tgt := 19) hx hb dX2_dropIfAllowed_10 (by decide) (by omega) (fun c10 => ?_) (fun c10 => absurd c10 (by omega))
    refine lv_iload_n hx hb dX2_dropIfAllowed_19 rfl (lv_at hl 0 rfl) ?_
    refine j_zret hx hb hr hlocks hH hw (Or.inl rfl) dX2_dropIfAllowed_20 ?_
    have hS5 : jSo g H0 a σ (opnR σ) := ⟨ses1, pus1, dts1, las1, frs1, tks1, cts1, hOs1, hses1, hpus1, hdts1, hlas1, hfrs1, htks1, hops1, hlts1, hcts1, hSs1⟩
    have e9 : tCancel σ i = none := by unfold tCancel; rw [List.getElem?_eq_none (by omega)]
    exact ⟨_, rfl, by rw [e9]; rfl, by rw [e9]; exact hS5, hf⟩

abbrev q_X2_takesRaise (g : jG) (H0 : Heap) (a : Nat) (i : Nat) (y : Nat) (σ : Sg) (o : Od) : Option Value → Heap → Prop := jN (fun r H1 => H1 = H0 ∧ ((r = nI 1 ∧ canR σ o y) ∨ (r = nI 0 ∧ ¬ canR σ o y)))
set_option maxHeartbeats 4000000 in
set_option maxRecDepth 100000 in
theorem c_X2_takesRaise (l : Launch) (g : jG) (z : Nat) (H0 : Heap) (a : Nat) (i : Nat) (y : Nat) (σ : Sg) (o : Od) (hz : z ≤ a) (hS : jSo g H0 a σ (opnR σ)) (hs : okS σ) (ho : σ.2.2.1[i]? = some o) (hy : y < 10) : jM l g z yX2_takesRaise wsX2_takesRaise 1 23 [.ref a, .int (nI (i)), .int (nI (y))] H0 (q_X2_takesRaise g H0 a i y σ o) := by
  refine j_of (cc := cX2_takesRaise) (n := 4) (ret := some .boolean) (by decide) rfl (Nat.le_of_ble_eq_true rfl) ?_
  intro p e s m below meth c hx hb hr hml hown hts hlocks hname hH hw ls hl
  have hl : lv_has ls 4 [(0, .ref a), (1, .int (nI (i))), (2, .int (nI (y)))] := hl
  have hinX2 : ∀ w ∈ u_ws RX2 TX2 9, w ∈ wsX2_takesRaise := by decide +kernel
  have hl21 := hS.len
  have hln := opnR_len (σ := σ)
  rw [hln] at hl21
  have hoo := hs.2.2.2.1 o (memO ho)
  have hro := opnR_get ho
  obtain ⟨ho0, ho1, ho2, ho3, ho4, ho5⟩ := hoo
  refine lv_aload_n hx hb dX2_takesRaise_0 rfl (lv_at hl 0 rfl) ?_
  obtain ⟨ses1, pus1, dts1, las1, frs1, tks1, cts1, hOs1, hses1, hpus1, hdts1, hlas1, hfrs1, htks1, hops1, hlts1, hcts1, hSs1⟩ := hS
  have hOs1 : jO g H0 a 2 [.ref (a + 1), .ref (a + 2), .ref (a + 3), .ref (a + 4), .ref (a + 5), .ref (a + 6), .ref (a + 7), .ref (a + 9), .ref (a + 11)] := hOs1
  have hses1 : jI g H0 (a + 1) 5 ses1 := hses1
  have hpus1 : jI g H0 (a + 2) 4 pus1 := hpus1
  have hdts1 : jI g H0 (a + 3) 4 dts1 := hdts1
  have hlas1 : jI g H0 (a + 4) 4 las1 := hlas1
  have hfrs1 : jI g H0 (a + 5) 16 frs1 := hfrs1
  have htks1 : jI g H0 (a + 6) 16 tks1 := htks1
  have hcts1 : jI g H0 (a + 11) 11 cts1 := hcts1
  have hops1 : jOr g H0 (a + 7) (opnR σ) := hops1
  have hlts1 : jOr g H0 (a + 9) (latR σ) := hlts1
  refine j_get (T := TX2) (N := 9) (k := 6) hx hb hts hinX2 hown hw hOs1 rfl (by decide) (hts (.fieldLink RX2 33 "NightTrains$Store" "open" "LNightTrains$Orders;") (by decide +kernel)) rfl dX2_takesRaise_1 ?_
  refine lv_iload_n hx hb dX2_takesRaise_4 rfl (lv_at hl 1 rfl) ?_
  refine lv_iconst (v := (nI (0))) hx hb dX2_takesRaise_5 (by decide) ?_
  refine j_Vp (n := 2) (As := [.int (nI (i)), .int (nI (0))]) hx hb hml hown hts hw (j_recv hw hops1.1 rfl) (c_X1_get l g z H0 (a + 7) (nI (i)) (nI (0)) (opnR σ) (by omega) hops1 ) gX2_takesRaise_X1_get rfl (by decide +kernel) ⟨Nat.le_of_ble_eq_true rfl, Nat.le_of_ble_eq_true rfl⟩ rfl hl.1 (Nat.le_of_ble_eq_true rfl) ⟨Nat.zero_le _, Nat.zero_le _⟩ dX2_takesRaise_6 (fun r2 locs hr2 hw => ?_) rfl
  obtain rfl : r2 = nI (o 0) := hr2.trans (gtR_o hro (by decide) (by omega))
  refine lv_istore_n (lv' := [(3, .int _), (0, .ref _), (1, .int _), (2, .int _)]) hx hb dX2_takesRaise_9 rfl hl (by decide) rfl (fun ls hl => ?_)
  refine lv_aload_n hx hb dX2_takesRaise_10 rfl (lv_at hl 1 rfl) ?_
  refine j_get (T := TX2) (N := 9) (k := 6) hx hb hts hinX2 hown hw hOs1 rfl (by decide) (hts (.fieldLink RX2 33 "NightTrains$Store" "open" "LNightTrains$Orders;") (by decide +kernel)) rfl dX2_takesRaise_11 ?_
  refine lv_iload_n hx hb dX2_takesRaise_14 rfl (lv_at hl 2 rfl) ?_
  refine lv_iconst (v := (nI (3))) hx hb dX2_takesRaise_15 (by decide) ?_
  refine j_Vp (n := 2) (As := [.int (nI (i)), .int (nI (3))]) hx hb hml hown hts hw (j_recv hw hops1.1 rfl) (c_X1_get l g z H0 (a + 7) (nI (i)) (nI (3)) (opnR σ) (by omega) hops1 ) gX2_takesRaise_X1_get rfl (by decide +kernel) ⟨Nat.le_of_ble_eq_true rfl, Nat.le_of_ble_eq_true rfl⟩ rfl hl.1 (Nat.le_of_ble_eq_true rfl) ⟨Nat.zero_le _, Nat.zero_le _⟩ dX2_takesRaise_16 (fun r3 locs hr3 hw => ?_) rfl
  obtain rfl : r3 = nI (o 3) := hr3.trans (gtR_o hro (by decide) (by omega))
  refine lv_iload_n hx hb dX2_takesRaise_19 rfl (lv_at hl 3 rfl) ?_
  refine j_addN hx hb dX2_takesRaise_20 ?_
  refine j_SNp (n := 1) (As := [.int (nI (((o 3) + y)))]) hx hb hml hown hts hw (c_X4_isFee l g z H0 (nI (((o 3) + y)))   ) gX2_takesRaise_X4_isFee_n101 (host := RX4) (by decide +kernel) (by decide +kernel) (by decide +kernel) rfl (by decide +kernel) ⟨Nat.le_of_ble_eq_true rfl, Nat.le_of_ble_eq_true rfl⟩ rfl hl.1 (Nat.le_of_ble_eq_true rfl) ⟨Nat.zero_le _, Nat.zero_le _⟩ dX2_takesRaise_21 (fun r4 locs hr4 hw => ?_) rfl
  rcases ixN (by omega) (by decide) hr4 with ⟨rfl, hf9⟩ | ⟨rfl, hf9⟩
  · refine jz_eq (tgt := 48) hx hb dX2_takesRaise_24 (by decide) (by omega) (fun c24 => absurd c24 (by omega)) (fun c24 => ?_)
    refine lv_iload_n hx hb dX2_takesRaise_27 rfl (lv_at hl 0 rfl) ?_
    refine j_SNp (n := 1) (As := [.int (nI ((o 0)))]) hx hb hml hown hts hw (c_X4_isReader l g z H0 (nI ((o 0)))   ) gX2_takesRaise_X4_isReader_n87 (host := RX4) (by decide +kernel) (by decide +kernel) (by decide +kernel) rfl (by decide +kernel) ⟨Nat.le_of_ble_eq_true rfl, Nat.le_of_ble_eq_true rfl⟩ rfl hl.1 (Nat.le_of_ble_eq_true rfl) ⟨Nat.zero_le _, Nat.zero_le _⟩ dX2_takesRaise_28 (fun r5 locs hr5 hw => ?_) rfl
    obtain rfl : r5 = nI 1 := ixY (by decide) (by omega) (by omega) hr5
    refine jz_eq (tgt := 48) hx hb dX2_takesRaise_31 (by decide) (by omega) (fun c31 => absurd c31 (by omega)) (fun c31 => ?_)
    refine lv_aload_n hx hb dX2_takesRaise_34 rfl (lv_at hl 1 rfl) ?_
    refine j_get (T := TX2) (N := 9) (k := 1) hx hb hts hinX2 hown hw hOs1 rfl (by decide) (hts (.fieldLink RX2 15 "NightTrains$Store" "purse" "[I") (by decide +kernel)) rfl dX2_takesRaise_35 ?_
    refine lv_iload_n hx hb dX2_takesRaise_38 rfl (lv_at hl 0 rfl) ?_
    refine j_iald hx hb hw hpus1 (k := (o 0)) rfl (by omega) (by omega) dX2_takesRaise_39 ?_
    refine j_eq (y := (σ.2.1 (o 0))) (hSs1.rpu (k := o 0) (by omega)) ?_
    refine lv_iload_n hx hb dX2_takesRaise_40 rfl (lv_at hl 3 rfl) ?_
    refine lv_icmp_lt (tgt := 48) hx hb dX2_takesRaise_41 (by decide) (fun c41 => ?_) (fun c41 => ?_)
    · refine lv_iconst (v := (nI (0))) hx hb dX2_takesRaise_48 (by decide) ?_
      refine j_zret hx hb hr hlocks hH hw (Or.inl rfl) dX2_takesRaise_49 ?_
      exact ⟨_, rfl, rfl, Or.inr ⟨rfl, fun q => by have q1 := q.1; have q2 := q.2; first | omega | exact absurd c41 (Int32.not_lt.mpr q2)⟩⟩
    · refine lv_iconst (v := (nI (1))) hx hb dX2_takesRaise_44 (by decide) ?_
      refine lv_goto (tgt := 49) hx hb dX2_takesRaise_45 (by decide) ?_
      refine j_zret hx hb hr hlocks hH hw (Or.inr rfl) dX2_takesRaise_49 ?_
      exact ⟨_, rfl, rfl, Or.inl ⟨rfl, by omega, Int32.not_lt.mp c41⟩⟩
  · refine jz_eq (tgt := 48) hx hb dX2_takesRaise_24 (by decide) (by omega) (fun c24 => ?_) (fun c24 => absurd c24 (by omega))
    refine lv_iconst (v := (nI (0))) hx hb dX2_takesRaise_48 (by decide) ?_
    refine j_zret hx hb hr hlocks hH hw (Or.inl rfl) dX2_takesRaise_49 ?_
    exact ⟨_, rfl, rfl, Or.inr ⟨rfl, fun q => by have q1 := q.1; have q2 := q.2; first | omega | exact absurd c41 (Int32.not_lt.mpr q2)⟩⟩

abbrev q_X2_lift (g : jG) (H0 : Heap) (a : Nat) (i : Nat) (y : Nat) (σ : Sg) (o : Od) : Option Value → Heap → Prop := jN (fun r H1 => r = nI (o 3 + y) ∧ jSo g H1 a (raiseS σ i o y) (opnR (raiseS σ i o y)) ∧ jF a 12 H0 H1)
set_option maxHeartbeats 4000000 in
set_option maxRecDepth 100000 in
theorem c_X2_lift (l : Launch) (g : jG) (z : Nat) (H0 : Heap) (a : Nat) (i : Nat) (y : Nat) (σ : Sg) (o : Od) (hz : z ≤ a) (hS : jSo g H0 a σ (opnR σ)) (hs : okS σ) (ho : σ.2.2.1[i]? = some o) : jM l g z yX2_lift wsX2_lift 1 23 [.ref a, .int (nI (i)), .int (nI (y))] H0 (q_X2_lift g H0 a i y σ o) := by
  refine j_of (cc := cX2_lift) (n := 4) (ret := some .int) (by decide) rfl (Nat.le_of_ble_eq_true rfl) ?_
  intro p e s m below meth c hx hb hr hml hown hts hlocks hname hH hw ls hl
  have hl : lv_has ls 4 [(0, .ref a), (1, .int (nI (i))), (2, .int (nI (y)))] := hl
  have hinX2 : ∀ w ∈ u_ws RX2 TX2 9, w ∈ wsX2_lift := by decide +kernel
  have hf : jF a 12 H0 H0 := jF.rf
  have hl21 := hS.len
  have hln := opnR_len (σ := σ)
  rw [hln] at hl21
  have hoo := hs.2.2.2.1 o (memO ho)
  have hro := opnR_get ho
  have hil := lenlt ho
  obtain ⟨ho0, ho1, ho2, ho3, ho4, ho5⟩ := hoo
  refine lv_aload_n hx hb dX2_lift_0 rfl (lv_at hl 0 rfl) ?_
  obtain ⟨ses1, pus1, dts1, las1, frs1, tks1, cts1, hOs1, hses1, hpus1, hdts1, hlas1, hfrs1, htks1, hops1, hlts1, hcts1, hSs1⟩ := hS
  have hOs1 : jO g H0 a 2 [.ref (a + 1), .ref (a + 2), .ref (a + 3), .ref (a + 4), .ref (a + 5), .ref (a + 6), .ref (a + 7), .ref (a + 9), .ref (a + 11)] := hOs1
  have hses1 : jI g H0 (a + 1) 5 ses1 := hses1
  have hpus1 : jI g H0 (a + 2) 4 pus1 := hpus1
  have hdts1 : jI g H0 (a + 3) 4 dts1 := hdts1
  have hlas1 : jI g H0 (a + 4) 4 las1 := hlas1
  have hfrs1 : jI g H0 (a + 5) 16 frs1 := hfrs1
  have htks1 : jI g H0 (a + 6) 16 tks1 := htks1
  have hcts1 : jI g H0 (a + 11) 11 cts1 := hcts1
  have hops1 : jOr g H0 (a + 7) (opnR σ) := hops1
  have hlts1 : jOr g H0 (a + 9) (latR σ) := hlts1
  refine j_get (T := TX2) (N := 9) (k := 6) hx hb hts hinX2 hown hw hOs1 rfl (by decide) (hts (.fieldLink RX2 33 "NightTrains$Store" "open" "LNightTrains$Orders;") (by decide +kernel)) rfl dX2_lift_1 ?_
  refine lv_iload_n hx hb dX2_lift_4 rfl (lv_at hl 1 rfl) ?_
  refine lv_iconst (v := (nI (0))) hx hb dX2_lift_5 (by decide) ?_
  refine j_Vp (n := 2) (As := [.int (nI (i)), .int (nI (0))]) hx hb hml hown hts hw (j_recv hw hops1.1 rfl) (c_X1_get l g z H0 (a + 7) (nI (i)) (nI (0)) (opnR σ) (by omega) hops1 ) gX2_lift_X1_get rfl (by decide +kernel) ⟨Nat.le_of_ble_eq_true rfl, Nat.le_of_ble_eq_true rfl⟩ rfl hl.1 (Nat.le_of_ble_eq_true rfl) ⟨Nat.zero_le _, Nat.zero_le _⟩ dX2_lift_6 (fun r2 locs hr2 hw => ?_) rfl
  obtain rfl : r2 = nI (o 0) := hr2.trans (gtR_o hro (by decide) (by omega))
  refine lv_istore_n (lv' := [(3, .int _), (0, .ref _), (1, .int _), (2, .int _)]) hx hb dX2_lift_9 rfl hl (by decide) rfl (fun ls hl => ?_)
  refine lv_iload_n hx hb dX2_lift_10 rfl (lv_at hl 0 rfl) ?_
  refine j_SNp (n := 1) (As := [.int (nI ((o 0)))]) hx hb hml hown hts hw (c_X4_isReader l g z H0 (nI ((o 0)))   ) gX2_lift_X4_isReader_n87 (host := RX4) (by decide +kernel) (by decide +kernel) (by decide +kernel) rfl (by decide +kernel) ⟨Nat.le_of_ble_eq_true rfl, Nat.le_of_ble_eq_true rfl⟩ rfl hl.1 (Nat.le_of_ble_eq_true rfl) ⟨Nat.zero_le _, Nat.zero_le _⟩ dX2_lift_11 (fun r3 locs hr3 hw => ?_) rfl
  obtain rfl : r3 = nI 1 := ixY (by decide) (by omega) (by omega) hr3
  refine jz_eq (tgt := 27) hx hb dX2_lift_14 (by decide) (by omega) (fun c14 => absurd c14 (by omega)) (fun c14 => ?_)
  refine lv_aload_n hx hb dX2_lift_17 rfl (lv_at hl 1 rfl) ?_
  refine j_get (T := TX2) (N := 9) (k := 1) hx hb hts hinX2 hown hw hOs1 rfl (by decide) (hts (.fieldLink RX2 15 "NightTrains$Store" "purse" "[I") (by decide +kernel)) rfl dX2_lift_18 ?_
  refine lv_iload_n hx hb dX2_lift_21 rfl (lv_at hl 0 rfl) ?_
  refine lv_dup2_11 hx hb dX2_lift_22 rfl rfl ?_
  refine j_iald hx hb hw hpus1 (k := (o 0)) rfl (by omega) (by omega) dX2_lift_23 ?_
  refine j_eq (y := (σ.2.1 (o 0))) (hSs1.rpu (k := o 0) (by omega)) ?_
  refine lv_iload_n hx hb dX2_lift_24 rfl (lv_at hl 3 rfl) ?_
  refine lv_isub hx hb dX2_lift_25 ?_
  refine j_iast hx hb hw hpus1 (by omega) (k := (o 0)) rfl (by omega) (by omega) dX2_lift_26 (fun H locs hw hpus1 oq hsz => ?_)
  obtain ⟨f4, ef4⟩ : ∃ y9, y9 = upd pus1 ((o 0)) ((σ.2.1 (o 0)) - (nI (y))) := ⟨_, rfl⟩
  rw [← ef4] at hpus1
  have hOs1 := hOs1.kept (oq _ (by omega))
  have hses1 := hses1.kept (oq _ (by omega))
  have hdts1 := hdts1.kept (oq _ (by omega))
  have hlas1 := hlas1.kept (oq _ (by omega))
  have hfrs1 := hfrs1.kept (oq _ (by omega))
  have htks1 := htks1.kept (oq _ (by omega))
  have hcts1 := hcts1.kept (oq _ (by omega))
  have hops1 := hops1.kept (fun q _ _ => oq q (by omega))
  have hlts1 := hlts1.kept (fun q _ _ => oq q (by omega))
  have hf := hf.put oq hsz (by omega)
  have hSs1 := hSs1.wpu (k := o 0) (y := (σ.2.1 (o 0) - nI y)) (by omega) rfl
  rw [← ef4] at hSs1
  refine lv_aload_n hx hb dX2_lift_27 rfl (lv_at hl 1 rfl) ?_
  refine j_get (T := TX2) (N := 9) (k := 6) hx hb hts hinX2 hown hw hOs1 rfl (by decide) (hts (.fieldLink RX2 33 "NightTrains$Store" "open" "LNightTrains$Orders;") (by decide +kernel)) rfl dX2_lift_28 ?_
  refine lv_iload_n hx hb dX2_lift_31 rfl (lv_at hl 2 rfl) ?_
  refine lv_iconst (v := (nI (3))) hx hb dX2_lift_32 (by decide) ?_
  refine lv_aload_n hx hb dX2_lift_33 rfl (lv_at hl 1 rfl) ?_
  refine j_get (T := TX2) (N := 9) (k := 6) hx hb hts hinX2 hown hw hOs1 rfl (by decide) (hts (.fieldLink RX2 33 "NightTrains$Store" "open" "LNightTrains$Orders;") (by decide +kernel)) rfl dX2_lift_34 ?_
  refine lv_iload_n hx hb dX2_lift_37 rfl (lv_at hl 2 rfl) ?_
  refine lv_iconst (v := (nI (3))) hx hb dX2_lift_38 (by decide) ?_
  refine j_Vp (n := 2) (As := [.int (nI (i)), .int (nI (3))]) hx hb hml hown hts hw (j_recv hw hops1.1 rfl) (c_X1_get l g z H (a + 7) (nI (i)) (nI (3)) (opnR σ) (by omega) hops1 ) gX2_lift_X1_get rfl (by decide +kernel) ⟨Nat.le_of_ble_eq_true rfl, Nat.le_of_ble_eq_true rfl⟩ rfl hl.1 (Nat.le_of_ble_eq_true rfl) ⟨Nat.zero_le _, Nat.zero_le _⟩ dX2_lift_39 (fun r5 locs hr5 hw => ?_) rfl
  obtain rfl : r5 = nI (o 3) := hr5.trans (gtR_o hro (by decide) (by omega))
  refine lv_iload_n hx hb dX2_lift_42 rfl (lv_at hl 3 rfl) ?_
  refine j_addN hx hb dX2_lift_43 ?_
  refine j_Vv (n := 3) (As := [.int (nI (i)), .int (nI (3)), .int (nI (((o 3) + y)))]) hx hb hml hown hts hw (j_recv hw hops1.1 rfl) (c_X1_put l g z H (a + 7) (i) (3) (nI (((o 3) + y))) (opnR σ) (by omega) hops1 (by omega) (by first | assumption | omega)) gX2_lift_X1_put rfl (by decide +kernel) ⟨Nat.le_of_ble_eq_true rfl, Nat.le_of_ble_eq_true rfl⟩ rfl hl.1 (Nat.le_of_ble_eq_true rfl) ⟨Nat.zero_le _, Nat.zero_le _⟩ dX2_lift_44 (fun H locs hr6 hw hsz => ?_) rfl
  obtain ⟨hops1, hf2⟩ := hr6
  have hOs1 := hOs1.kept (hf2.2 _ (by omega))
  have hses1 := hses1.kept (hf2.2 _ (by omega))
  have hpus1 := hpus1.kept (hf2.2 _ (by omega))
  have hdts1 := hdts1.kept (hf2.2 _ (by omega))
  have hlas1 := hlas1.kept (hf2.2 _ (by omega))
  have hfrs1 := hfrs1.kept (hf2.2 _ (by omega))
  have htks1 := htks1.kept (hf2.2 _ (by omega))
  have hcts1 := hcts1.kept (hf2.2 _ (by omega))
  have hlts1 := hlts1.kept (fun q _ _ => hf2.2 q (by omega))
  have hf := hf.step hf2 (by omega)
  rw [rput_o hro (by decide)] at hops1
  rw [show (opnR σ).set i (oRow (nSet o 3 (o 3 + y))) = opnR (raiseS σ i o y) from List.map_set.symm] at hops1
  have hro2 : (opnR (raiseS σ i o y))[i]? = some (oRow (nSet o 3 (o 3 + y))) := opnR_get (List.getElem?_set_self (lenlt ho))
  have hl22 : (opnR (raiseS σ i o y)).length ≤ 21 := by rw [opnR_len]; show (σ.2.2.1.set i _).length ≤ 21; rw [List.length_set]; exact hs.2.2.1
  refine lv_aload_n hx hb dX2_lift_47 rfl (lv_at hl 1 rfl) ?_
  refine j_get (T := TX2) (N := 9) (k := 6) hx hb hts hinX2 hown hw hOs1 rfl (by decide) (hts (.fieldLink RX2 33 "NightTrains$Store" "open" "LNightTrains$Orders;") (by decide +kernel)) rfl dX2_lift_48 ?_
  refine lv_iload_n hx hb dX2_lift_51 rfl (lv_at hl 2 rfl) ?_
  refine lv_iconst (v := (nI (3))) hx hb dX2_lift_52 (by decide) ?_
  refine j_Vp (n := 2) (As := [.int (nI (i)), .int (nI (3))]) hx hb hml hown hts hw (j_recv hw hops1.1 rfl) (c_X1_get l g z H (a + 7) (nI (i)) (nI (3)) (opnR (raiseS σ i o y)) (by omega) hops1 ) gX2_lift_X1_get rfl (by decide +kernel) ⟨Nat.le_of_ble_eq_true rfl, Nat.le_of_ble_eq_true rfl⟩ rfl hl.1 (Nat.le_of_ble_eq_true rfl) ⟨Nat.zero_le _, Nat.zero_le _⟩ dX2_lift_53 (fun r7 locs hr7 hw => ?_) rfl
  obtain rfl : r7 = nI (o 3 + y) := hr7.trans ((gtR_o hro2 (by decide) hl22).trans (congrArg nI (nSet_s _ _ _)))
  refine j_iret hx hb hr hlocks hH hw dX2_lift_56 ?_
  have hS8 : jSo g H a (raiseS σ i o y) (opnR (raiseS σ i o y)) := ⟨ses1, f4, dts1, las1, frs1, tks1, cts1, hOs1, hses1, hpus1, hdts1, hlas1, hfrs1, htks1, hops1, hlts1, hcts1, hSs1⟩
  exact ⟨_, rfl, rfl, hS8, hf⟩

abbrev q_X2_liftIfAllowed (g : jG) (H0 : Heap) (a : Nat) (i : Nat) (y : Nat) (σ : Sg) : Option Value → Heap → Prop := jN (fun r H1 => r = bI (tRaise σ i y).isSome ∧ jSo g H1 a ((tRaise σ i y).getD σ) (opnR ((tRaise σ i y).getD σ)) ∧ jF a 12 H0 H1)
set_option maxHeartbeats 4000000 in
set_option maxRecDepth 100000 in
theorem c_X2_liftIfAllowed (l : Launch) (g : jG) (z : Nat) (H0 : Heap) (a : Nat) (i : Nat) (y : Nat) (σ : Sg) (hz : z ≤ a) (hS : jSo g H0 a σ (opnR σ)) (hs : okS σ) (hi31 : i < 2 ^ 31) (hy31 : y < 2 ^ 31) : jM l g z yX2_liftIfAllowed wsX2_liftIfAllowed 2 46 [.ref a, .int (nI (i)), .int (nI (y))] H0 (q_X2_liftIfAllowed g H0 a i y σ) := by
  refine j_of (cc := cX2_liftIfAllowed) (n := 4) (ret := some .boolean) (by decide) rfl (Nat.le_of_ble_eq_true rfl) ?_
  intro p e s m below meth c hx hb hr hml hown hts hlocks hname hH hw ls hl
  have hl : lv_has ls 4 [(0, .ref a), (1, .int (nI (i))), (2, .int (nI (y)))] := hl
  have hinX2 : ∀ w ∈ u_ws RX2 TX2 9, w ∈ wsX2_liftIfAllowed := by decide +kernel
  have hf : jF a 12 H0 H0 := jF.rf
  have hl21 := hS.len
  have hln := opnR_len (σ := σ)
  rw [hln] at hl21
  refine lv_aload_n hx hb dX2_liftIfAllowed_0 rfl (lv_at hl 0 rfl) ?_
  obtain ⟨ses1, pus1, dts1, las1, frs1, tks1, cts1, hOs1, hses1, hpus1, hdts1, hlas1, hfrs1, htks1, hops1, hlts1, hcts1, hSs1⟩ := hS
  have hOs1 : jO g H0 a 2 [.ref (a + 1), .ref (a + 2), .ref (a + 3), .ref (a + 4), .ref (a + 5), .ref (a + 6), .ref (a + 7), .ref (a + 9), .ref (a + 11)] := hOs1
  have hses1 : jI g H0 (a + 1) 5 ses1 := hses1
  have hpus1 : jI g H0 (a + 2) 4 pus1 := hpus1
  have hdts1 : jI g H0 (a + 3) 4 dts1 := hdts1
  have hlas1 : jI g H0 (a + 4) 4 las1 := hlas1
  have hfrs1 : jI g H0 (a + 5) 16 frs1 := hfrs1
  have htks1 : jI g H0 (a + 6) 16 tks1 := htks1
  have hcts1 : jI g H0 (a + 11) 11 cts1 := hcts1
  have hops1 : jOr g H0 (a + 7) (opnR σ) := hops1
  have hlts1 : jOr g H0 (a + 9) (latR σ) := hlts1
  refine j_get (T := TX2) (N := 9) (k := 6) hx hb hts hinX2 hown hw hOs1 rfl (by decide) (hts (.fieldLink RX2 33 "NightTrains$Store" "open" "LNightTrains$Orders;") (by decide +kernel)) rfl dX2_liftIfAllowed_1 ?_
  refine lv_iload_n hx hb dX2_liftIfAllowed_4 rfl (lv_at hl 1 rfl) ?_
  refine j_Vp (n := 1) (As := [.int (nI (i))]) hx hb hml hown hts hw (j_recv hw hops1.1 rfl) (c_X1_has l g z H0 (a + 7) (nI (i)) (opnR σ) (by omega) hops1 ) gX2_liftIfAllowed_X1_has rfl (by decide +kernel) ⟨Nat.le_of_ble_eq_true rfl, Nat.le_of_ble_eq_true rfl⟩ rfl hl.1 (Nat.le_of_ble_eq_true rfl) ⟨Nat.zero_le _, Nat.zero_le _⟩ dX2_liftIfAllowed_5 (fun r2 locs hr2 hw => ?_) rfl
  rcases ixN (by omega) (by omega) hr2 with ⟨rfl, hih⟩ | ⟨rfl, hih⟩
  all_goals rw [hln] at hih
  · refine jz_eq (tgt := 31) hx hb dX2_liftIfAllowed_8 (by decide) (by omega) (fun c8 => absurd c8 (by omega)) (fun c8 => ?_)
    refine lv_iload_n hx hb dX2_liftIfAllowed_11 rfl (lv_at hl 2 rfl) ?_
    refine j_SNp (n := 1) (As := [.int (nI (y))]) hx hb hml hown hts hw (c_X4_isRaise l g z H0 (nI (y))   ) gX2_liftIfAllowed_X4_isRaise_n133 (host := RX4) (by decide +kernel) (by decide +kernel) (by decide +kernel) rfl (by decide +kernel) ⟨Nat.le_of_ble_eq_true rfl, Nat.le_of_ble_eq_true rfl⟩ rfl hl.1 (Nat.le_of_ble_eq_true rfl) ⟨Nat.zero_le _, Nat.zero_le _⟩ dX2_liftIfAllowed_12 (fun r3 locs hr3 hw => ?_) rfl
    rcases ixN (by omega) (by decide) hr3 with ⟨rfl, hy9⟩ | ⟨rfl, hy9⟩
    · refine jz_eq (tgt := 31) hx hb dX2_liftIfAllowed_15 (by decide) (by omega) (fun c15 => absurd c15 (by omega)) (fun c15 => ?_)
      obtain ⟨o, ho⟩ := getO (L := σ.2.2.1) (k := i) (by omega)
      refine lv_aload_n hx hb dX2_liftIfAllowed_18 rfl (lv_at hl 0 rfl) ?_
      refine lv_iload_n hx hb dX2_liftIfAllowed_19 rfl (lv_at hl 1 rfl) ?_
      refine lv_iload_n hx hb dX2_liftIfAllowed_20 rfl (lv_at hl 2 rfl) ?_
      have hS4 : jSo g H0 a σ (opnR σ) := ⟨ses1, pus1, dts1, las1, frs1, tks1, cts1, hOs1, hses1, hpus1, hdts1, hlas1, hfrs1, htks1, hops1, hlts1, hcts1, hSs1⟩
      refine j_Vp (n := 2) (As := [.int (nI (i)), .int (nI (y))]) hx hb hml hown hts hw (j_recv hw hS4.obj rfl) (c_X2_takesRaise l g z H0 a (i) (y) σ o (by omega) hS4 (by first | assumption | omega) ho (by omega)) gX2_liftIfAllowed_X2_takesRaise rfl (by decide +kernel) ⟨Nat.le_of_ble_eq_true rfl, Nat.le_of_ble_eq_true rfl⟩ rfl hl.1 (Nat.le_of_ble_eq_true rfl) ⟨Nat.zero_le _, Nat.zero_le _⟩ dX2_liftIfAllowed_21 (fun r5 locs hcr hw => ?_) rfl
      rcases hcr with ⟨rfl, hcr⟩ | ⟨rfl, hcr⟩
      · refine jz_eq (tgt := 31) hx hb dX2_liftIfAllowed_24 (by decide) (by omega) (fun c24 => absurd c24 (by omega)) (fun c24 => ?_)
        refine lv_iconst (v := (nI (1))) hx hb dX2_liftIfAllowed_27 (by decide) ?_
        refine lv_goto (tgt := 32) hx hb dX2_liftIfAllowed_28 (by decide) ?_
        refine lv_istore_n (lv' := [(3, .int _), (0, .ref _), (1, .int _), (2, .int _)]) hx hb dX2_liftIfAllowed_32 rfl hl (by decide) rfl (fun ls hl => ?_)
        refine lv_iload_n hx hb dX2_liftIfAllowed_33 rfl (lv_at hl 0 rfl) ?_
        refine jz_eq (tgt := 44) hx hb dX2_liftIfAllowed_34 (by decide) (by omega) (fun c34 => absurd c34 (by omega)) (fun c34 => ?_)
        refine lv_aload_n hx hb dX2_liftIfAllowed_37 rfl (lv_at hl 1 rfl) ?_
        refine lv_iload_n hx hb dX2_liftIfAllowed_38 rfl (lv_at hl 2 rfl) ?_
        refine lv_iload_n hx hb dX2_liftIfAllowed_39 rfl (lv_at hl 3 rfl) ?_
        refine j_Vi (n := 2) (As := [.int (nI (i)), .int (nI (y))]) hx hb hml hown hts hw (j_recv hw hS4.obj rfl) (c_X2_lift l g z H0 a (i) (y) σ o (by omega) hS4 (by first | assumption | omega) ho) gX2_liftIfAllowed_X2_lift rfl (by decide +kernel) ⟨Nat.le_of_ble_eq_true rfl, Nat.le_of_ble_eq_true rfl⟩ rfl hl.1 (Nat.le_of_ble_eq_true rfl) ⟨Nat.zero_le _, Nat.zero_le _⟩ dX2_liftIfAllowed_40 (fun r6 H locs hr6 hw hsz => ?_) rfl
        obtain ⟨rfl, hr6⟩ := hr6
        obtain ⟨hS4, hf2⟩ := hr6
        have hf := hf.step hf2 (by omega)
        refine lv_pop hx hb dX2_liftIfAllowed_43 rfl ?_
        refine lv_iload_n hx hb dX2_liftIfAllowed_44 rfl (lv_at hl 0 rfl) ?_
        refine j_zret hx hb hr hlocks hH hw (Or.inr rfl) dX2_liftIfAllowed_45 ?_
        have e9 : tRaise σ i y = some (raiseS σ i o y) := by unfold tRaise; rw [if_pos (show 1 ≤ y ∧ y < 10 from hy9), ho]; exact if_pos hcr
        exact ⟨_, rfl, by rw [e9]; rfl, by rw [e9]; exact hS4, hf⟩
      · refine jz_eq (tgt := 31) hx hb dX2_liftIfAllowed_24 (by decide) (by omega) (fun c24 => ?_) (fun c24 => absurd c24 (by omega))
        refine lv_iconst (v := (nI (0))) hx hb dX2_liftIfAllowed_31 (by decide) ?_
        refine lv_istore_n (lv' := [(3, .int _), (0, .ref _), (1, .int _), (2, .int _)]) hx hb dX2_liftIfAllowed_32 rfl hl (by decide) rfl (fun ls hl => ?_)
        refine lv_iload_n hx hb dX2_liftIfAllowed_33 rfl (lv_at hl 0 rfl) ?_
        refine jz_eq (tgt := 44) hx hb dX2_liftIfAllowed_34 (by decide) (by omega) (fun c34 => ?_) (fun c34 => absurd c34 (by omega))
        refine lv_iload_n hx hb dX2_liftIfAllowed_44 rfl (lv_at hl 0 rfl) ?_
        refine j_zret hx hb hr hlocks hH hw (Or.inl rfl) dX2_liftIfAllowed_45 ?_
        have e9 : tRaise σ i y = none := by first | exact tRaise_none (by omega) | (unfold tRaise; exact if_neg hy9) | (unfold tRaise; rw [if_pos (show 1 ≤ y ∧ y < 10 from hy9), ho]; exact if_neg hcr)
        exact ⟨_, rfl, by rw [e9]; rfl, by rw [e9]; exact hS4, hf⟩
    · refine jz_eq (tgt := 31) hx hb dX2_liftIfAllowed_15 (by decide) (by omega) (fun c15 => ?_) (fun c15 => absurd c15 (by omega))
      refine lv_iconst (v := (nI (0))) hx hb dX2_liftIfAllowed_31 (by decide) ?_
      refine lv_istore_n (lv' := [(3, .int _), (0, .ref _), (1, .int _), (2, .int _)]) hx hb dX2_liftIfAllowed_32 rfl hl (by decide) rfl (fun ls hl => ?_)
      refine lv_iload_n hx hb dX2_liftIfAllowed_33 rfl (lv_at hl 0 rfl) ?_
      refine jz_eq (tgt := 44) hx hb dX2_liftIfAllowed_34 (by decide) (by omega) (fun c34 => ?_) (fun c34 => absurd c34 (by omega))
      refine lv_iload_n hx hb dX2_liftIfAllowed_44 rfl (lv_at hl 0 rfl) ?_
      refine j_zret hx hb hr hlocks hH hw (Or.inl rfl) dX2_liftIfAllowed_45 ?_
      have hS7 : jSo g H0 a σ (opnR σ) := ⟨ses1, pus1, dts1, las1, frs1, tks1, cts1, hOs1, hses1, hpus1, hdts1, hlas1, hfrs1, htks1, hops1, hlts1, hcts1, hSs1⟩
      have e9 : tRaise σ i y = none := by first | exact tRaise_none (by omega) | (unfold tRaise; exact if_neg hy9) | (unfold tRaise; rw [if_pos (show 1 ≤ y ∧ y < 10 from hy9), ho]; exact if_neg hcr)
      exact ⟨_, rfl, by rw [e9]; rfl, by rw [e9]; exact hS7, hf⟩
  · refine jz_eq (tgt := 31) hx hb dX2_liftIfAllowed_8 (by decide) (by omega) (fun c8 => ?_) (fun c8 => absurd c8 (by omega))
    refine lv_iconst (v := (nI (0))) hx hb dX2_liftIfAllowed_31 (by decide) ?_
    refine lv_istore_n (lv' := [(3, .int _), (0, .ref _), (1, .int _), (2, .int _)]) hx hb dX2_liftIfAllowed_32 rfl hl (by decide) rfl (fun ls hl => ?_)
    refine lv_iload_n hx hb dX2_liftIfAllowed_33 rfl (lv_at hl 0 rfl) ?_
    refine jz_eq (tgt := 44) hx hb dX2_liftIfAllowed_34 (by decide) (by omega) (fun c34 => ?_) (fun c34 => absurd c34 (by omega))
    refine lv_iload_n hx hb dX2_liftIfAllowed_44 rfl (lv_at hl 0 rfl) ?_
    refine j_zret hx hb hr hlocks hH hw (Or.inl rfl) dX2_liftIfAllowed_45 ?_
    have hS8 : jSo g H0 a σ (opnR σ) := ⟨ses1, pus1, dts1, las1, frs1, tks1, cts1, hOs1, hses1, hpus1, hdts1, hlas1, hfrs1, htks1, hops1, hlts1, hcts1, hSs1⟩
    have e9 : tRaise σ i y = none := by first | exact tRaise_none (by omega) | (unfold tRaise; exact if_neg hy9) | (unfold tRaise; rw [if_pos (show 1 ≤ y ∧ y < 10 from hy9), ho]; exact if_neg hcr)
    exact ⟨_, rfl, by rw [e9]; rfl, by rw [e9]; exact hS8, hf⟩

abbrev q_X4_isSettingValue (g : jG) (H0 : Heap) (x : Int32) (v : Int32) : Option Value → Heap → Prop := jN (fun r H1 => H1 = H0 ∧ ((r = nI 1 ∧ ∃ k u, ix x 0 5 = some k ∧ k < 5 ∧ x = nI k ∧ ix v (loS k) (hiS k + 1) = some u ∧ loS k ≤ u ∧ u < hiS k + 1 ∧ v = nI u) ∨ (r = nI 0 ∧ (ix x 0 5 = none ∨ ∃ k, ix x 0 5 = some k ∧ ix v (loS k) (hiS k + 1) = none))))
set_option maxHeartbeats 4000000 in
set_option maxRecDepth 100000 in
theorem c_X4_isSettingValue (l : Launch) (g : jG) (z : Nat) (H0 : Heap) (x : Int32) (v : Int32)  : jM l g z yX4_isSettingValue wsX4_isSettingValue 1 20 [.int x, .int v] H0 (q_X4_isSettingValue g H0 x v) := by
  refine j_of (cc := cX4_isSettingValue) (n := 2) (ret := some .boolean) (by decide) rfl (Nat.le_of_ble_eq_true rfl) ?_
  intro p e s m below meth c hx hb hr hml hown hts hlocks hname hH hw ls hl
  have hl : lv_has ls 2 [(0, .int x), (1, .int v)] := hl
  refine lv_iload_n hx hb dX4_isSettingValue_0 rfl (lv_at hl 0 rfl) ?_
  refine j_Sp (n := 1) (As := [.int x]) hx hb hml hown hts hw (c_X4_isSetting l g z H0 x   ) gX4_isSettingValue_X4_isSetting rfl (by decide +kernel) ⟨Nat.le_of_ble_eq_true rfl, Nat.le_of_ble_eq_true rfl⟩ rfl hl.1 (Nat.le_of_ble_eq_true rfl) ⟨Nat.zero_le _, Nat.zero_le _⟩ dX4_isSettingValue_1 (fun r1 locs hr1 hw => ?_) rfl
  rcases hr1 with ⟨rfl, k, hk, hka, hkn, rfl⟩ | ⟨rfl, hk⟩
  · refine jz_eq (tgt := 29) hx hb dX4_isSettingValue_4 (by decide) (by omega) (fun c4 => absurd c4 (by omega)) (fun c4 => ?_)
    have hlh9 := loS_hiS hkn
    refine lv_iload_n hx hb dX4_isSettingValue_7 rfl (lv_at hl 1 rfl) ?_
    obtain ⟨t2, hZt2, hTt2⟩ := hw.2.1.1
    refine j_gets hx hb hw hZt2 hown (hts (.fieldLink RX4 326 "NightTrains" "SETTING_LEAST" "[I") (by decide +kernel)) dX4_isSettingValue_8 ?_
    refine lv_iload_n hx hb dX4_isSettingValue_11 rfl (lv_at hl 0 rfl) ?_
    refine j_ti hx hb hw hTt2 (k := k) rfl (by omega) (by omega) dX4_isSettingValue_12 ?_
    refine lv_icmp_lt (tgt := 29) hx hb dX4_isSettingValue_13 (by decide) (fun c13 => ?_) (fun c13 => ?_)
    · refine lv_iconst (v := (nI (0))) hx hb dX4_isSettingValue_29 (by decide) ?_
      refine j_zret hx hb hr hlocks hH hw (Or.inl rfl) dX4_isSettingValue_30 ?_
      exact ⟨_, rfl, rfl, Or.inr ⟨rfl, Or.inr ⟨k, hk, by first | exact ix_lo (by omega) (by rw [← jLeast_lo hkn]; exact c13) | exact ix_hi (by omega) (by rw [← jMost_hi hkn]; exact c22)⟩⟩⟩
    · refine lv_iload_n hx hb dX4_isSettingValue_16 rfl (lv_at hl 1 rfl) ?_
      obtain ⟨t3, hZt3, hTt3⟩ := hw.2.1.2.1
      refine j_gets hx hb hw hZt3 hown (hts (.fieldLink RX4 329 "NightTrains" "SETTING_MOST" "[I") (by decide +kernel)) dX4_isSettingValue_17 ?_
      refine lv_iload_n hx hb dX4_isSettingValue_20 rfl (lv_at hl 0 rfl) ?_
      refine j_ti hx hb hw hTt3 (k := k) rfl (by omega) (by omega) dX4_isSettingValue_21 ?_
      refine lv_icmp_gt (tgt := 29) hx hb dX4_isSettingValue_22 (by decide) (fun c22 => ?_) (fun c22 => ?_)
      · refine lv_iconst (v := (nI (0))) hx hb dX4_isSettingValue_29 (by decide) ?_
        refine j_zret hx hb hr hlocks hH hw (Or.inl rfl) dX4_isSettingValue_30 ?_
        exact ⟨_, rfl, rfl, Or.inr ⟨rfl, Or.inr ⟨k, hk, by first | exact ix_lo (by omega) (by rw [← jLeast_lo hkn]; exact c13) | exact ix_hi (by omega) (by rw [← jMost_hi hkn]; exact c22)⟩⟩⟩
      · refine lv_iconst (v := (nI (1))) hx hb dX4_isSettingValue_25 (by decide) ?_
        refine lv_goto (tgt := 30) hx hb dX4_isSettingValue_26 (by decide) ?_
        refine j_zret hx hb hr hlocks hH hw (Or.inr rfl) dX4_isSettingValue_30 ?_
        obtain ⟨u, hu, hua, hun, rfl⟩ := ix_mid (x := v) (a := loS k) (n := hiS k) (by omega) (by omega) (by rw [← jLeast_lo hkn]; exact c13) (by rw [← jMost_hi hkn]; exact c22)
        exact ⟨_, rfl, rfl, Or.inl ⟨rfl, k, u, hk, hkn, rfl, hu, hua, hun, rfl⟩⟩
  · refine jz_eq (tgt := 29) hx hb dX4_isSettingValue_4 (by decide) (by omega) (fun c4 => ?_) (fun c4 => absurd c4 (by omega))
    refine lv_iconst (v := (nI (0))) hx hb dX4_isSettingValue_29 (by decide) ?_
    refine j_zret hx hb hr hlocks hH hw (Or.inl rfl) dX4_isSettingValue_30 ?_
    exact ⟨_, rfl, rfl, Or.inr ⟨rfl, Or.inl hk⟩⟩

abbrev q_X2_change (g : jG) (H0 : Heap) (a : Nat) (k : Nat) (v : Nat) (σ : Sg) (Rs : List OR) : Option Value → Heap → Prop := jV (fun H1 => jSo g H1 a (upn σ k v) Rs ∧ jF a 12 H0 H1)
set_option maxHeartbeats 4000000 in
set_option maxRecDepth 100000 in
theorem c_X2_change (l : Launch) (g : jG) (z : Nat) (H0 : Heap) (a : Nat) (k : Nat) (v : Nat) (σ : Sg) (Rs : List OR) (hz : z ≤ a) (hS : jSo g H0 a σ Rs) (hk5 : k < 5) : jM l g z yX2_change wsX2_change 1 20 [.ref a, .int (nI (k)), .int (nI (v))] H0 (q_X2_change g H0 a k v σ Rs) := by
  refine j_of (cc := cX2_change) (n := 3) (ret := none) (by decide) rfl (Nat.le_of_ble_eq_true rfl) ?_
  intro p e s m below meth c hx hb hr hml hown hts hlocks hname hH hw ls hl
  have hl : lv_has ls 3 [(0, .ref a), (1, .int (nI (k))), (2, .int (nI (v)))] := hl
  have hinX2 : ∀ w ∈ u_ws RX2 TX2 9, w ∈ wsX2_change := by decide +kernel
  have hf : jF a 12 H0 H0 := jF.rf
  have hl21 := hS.len
  refine lv_iload_n hx hb dX2_change_0 rfl (lv_at hl 1 rfl) ?_
  refine j_SNp (n := 1) (As := [.int (nI (k))]) hx hb hml hown hts hw (c_X4_isSetting l g z H0 (nI (k))   ) gX2_change_X4_isSetting_n143 (host := RX4) (by decide +kernel) (by decide +kernel) (by decide +kernel) rfl (by decide +kernel) ⟨Nat.le_of_ble_eq_true rfl, Nat.le_of_ble_eq_true rfl⟩ rfl hl.1 (Nat.le_of_ble_eq_true rfl) ⟨Nat.zero_le _, Nat.zero_le _⟩ dX2_change_1 (fun r1 locs hr1 hw => ?_) rfl
  obtain rfl : r1 = nI 1 := ixY (by decide) (by omega) (by omega) hr1
  refine jz_eq (tgt := 14) hx hb dX2_change_4 (by decide) (by omega) (fun c4 => absurd c4 (by omega)) (fun c4 => ?_)
  refine lv_aload_n hx hb dX2_change_7 rfl (lv_at hl 0 rfl) ?_
  obtain ⟨ses2, pus2, dts2, las2, frs2, tks2, cts2, hOs2, hses2, hpus2, hdts2, hlas2, hfrs2, htks2, hops2, hlts2, hcts2, hSs2⟩ := hS
  have hOs2 : jO g H0 a 2 [.ref (a + 1), .ref (a + 2), .ref (a + 3), .ref (a + 4), .ref (a + 5), .ref (a + 6), .ref (a + 7), .ref (a + 9), .ref (a + 11)] := hOs2
  have hses2 : jI g H0 (a + 1) 5 ses2 := hses2
  have hpus2 : jI g H0 (a + 2) 4 pus2 := hpus2
  have hdts2 : jI g H0 (a + 3) 4 dts2 := hdts2
  have hlas2 : jI g H0 (a + 4) 4 las2 := hlas2
  have hfrs2 : jI g H0 (a + 5) 16 frs2 := hfrs2
  have htks2 : jI g H0 (a + 6) 16 tks2 := htks2
  have hcts2 : jI g H0 (a + 11) 11 cts2 := hcts2
  have hops2 : jOr g H0 (a + 7) Rs := hops2
  have hlts2 : jOr g H0 (a + 9) (latR σ) := hlts2
  refine j_get (T := TX2) (N := 9) (k := 0) hx hb hts hinX2 hown hw hOs2 rfl (by decide) (hts (.fieldLink RX2 9 "NightTrains$Store" "settings" "[I") (by decide +kernel)) rfl dX2_change_8 ?_
  refine lv_iload_n hx hb dX2_change_11 rfl (lv_at hl 1 rfl) ?_
  refine lv_iload_n hx hb dX2_change_12 rfl (lv_at hl 2 rfl) ?_
  refine j_iast hx hb hw hses2 (by omega) (k := k) rfl (by omega) (by omega) dX2_change_13 (fun H locs hw hses2 oq hsz => ?_)
  obtain ⟨f3, ef3⟩ : ∃ y9, y9 = upd ses2 (k) (nI (v)) := ⟨_, rfl⟩
  rw [← ef3] at hses2
  have hOs2 := hOs2.kept (oq _ (by omega))
  have hpus2 := hpus2.kept (oq _ (by omega))
  have hdts2 := hdts2.kept (oq _ (by omega))
  have hlas2 := hlas2.kept (oq _ (by omega))
  have hfrs2 := hfrs2.kept (oq _ (by omega))
  have htks2 := htks2.kept (oq _ (by omega))
  have hcts2 := hcts2.kept (oq _ (by omega))
  have hops2 := hops2.kept (fun q _ _ => oq q (by omega))
  have hlts2 := hlts2.kept (fun q _ _ => oq q (by omega))
  have hf := hf.put oq hsz (by omega)
  have hSs2 := hSs2.wse (k := k) (v := v) (by omega) rfl
  rw [← ef3] at hSs2
  refine j_vret hx hb hr hlocks hH hw dX2_change_14 ?_
  have hS4 : jSo g H a (upn σ k v) Rs := ⟨f3, pus2, dts2, las2, frs2, tks2, cts2, hOs2, hses2, hpus2, hdts2, hlas2, hfrs2, htks2, hops2, hlts2, hcts2, hSs2⟩
  exact ⟨rfl, hS4, hf⟩

abbrev q_X2_changeIfAllowed (g : jG) (H0 : Heap) (a : Nat) (x : Nat) (v : Nat) (σ : Sg) : Option Value → Heap → Prop := jN (fun r H1 => r = bI (tSet σ x v).isSome ∧ jSo g H1 a ((tSet σ x v).getD σ) (opnR ((tSet σ x v).getD σ)) ∧ jF a 12 H0 H1)
set_option maxHeartbeats 4000000 in
set_option maxRecDepth 100000 in
theorem c_X2_changeIfAllowed (l : Launch) (g : jG) (z : Nat) (H0 : Heap) (a : Nat) (x : Nat) (v : Nat) (σ : Sg) (hz : z ≤ a) (hS : jSo g H0 a σ (opnR σ)) (hx31 : x < 2 ^ 31) (hv31 : v < 2 ^ 31) : jM l g z yX2_changeIfAllowed wsX2_changeIfAllowed 2 42 [.ref a, .int (nI (x)), .int (nI (v))] H0 (q_X2_changeIfAllowed g H0 a x v σ) := by
  refine j_of (cc := cX2_changeIfAllowed) (n := 4) (ret := some .boolean) (by decide) rfl (Nat.le_of_ble_eq_true rfl) ?_
  intro p e s m below meth c hx hb hr hml hown hts hlocks hname hH hw ls hl
  have hl : lv_has ls 4 [(0, .ref a), (1, .int (nI (x))), (2, .int (nI (v)))] := hl
  have hf : jF a 12 H0 H0 := jF.rf
  have hl21 := hS.len
  have hln := opnR_len (σ := σ)
  rw [hln] at hl21
  refine lv_iload_n hx hb dX2_changeIfAllowed_0 rfl (lv_at hl 1 rfl) ?_
  refine lv_iload_n hx hb dX2_changeIfAllowed_1 rfl (lv_at hl 2 rfl) ?_
  refine j_SNp (n := 2) (As := [.int (nI (x)), .int (nI (v))]) hx hb hml hown hts hw (c_X4_isSettingValue l g z H0 (nI (x)) (nI (v))   ) gX2_changeIfAllowed_X4_isSettingValue_n146 (host := RX4) (by decide +kernel) (by decide +kernel) (by decide +kernel) rfl (by decide +kernel) ⟨Nat.le_of_ble_eq_true rfl, Nat.le_of_ble_eq_true rfl⟩ rfl hl.1 (Nat.le_of_ble_eq_true rfl) ⟨Nat.zero_le _, Nat.zero_le _⟩ dX2_changeIfAllowed_2 (fun r1 locs hr1 hw => ?_) rfl
  rcases hr1 with ⟨rfl, k9, u9, hk9, hkn, hke, hu9, hua, hun, hue⟩ | ⟨rfl, hno⟩
  · obtain rfl : x = k9 := (nI_eq (by omega) (by omega)).mp hke
    have hib : hiS x ≤ 9 := by unfold hiS; split <;> decide
    obtain rfl : v = u9 := (nI_eq (by omega) (by omega)).mp hue
    refine lv_istore_n (lv' := [(3, .int _), (0, .ref _), (1, .int _), (2, .int _)]) hx hb dX2_changeIfAllowed_5 rfl hl (by decide) rfl (fun ls hl => ?_)
    refine lv_iload_n hx hb dX2_changeIfAllowed_6 rfl (lv_at hl 0 rfl) ?_
    refine jz_eq (tgt := 16) hx hb dX2_changeIfAllowed_7 (by decide) (by omega) (fun c7 => absurd c7 (by omega)) (fun c7 => ?_)
    refine lv_aload_n hx hb dX2_changeIfAllowed_10 rfl (lv_at hl 1 rfl) ?_
    refine lv_iload_n hx hb dX2_changeIfAllowed_11 rfl (lv_at hl 2 rfl) ?_
    refine lv_iload_n hx hb dX2_changeIfAllowed_12 rfl (lv_at hl 3 rfl) ?_
    refine j_Vv (n := 2) (As := [.int (nI (x)), .int (nI (v))]) hx hb hml hown hts hw (j_recv hw hS.obj rfl) (c_X2_change l g z H0 a (x) (v) σ (opnR σ) hz hS (by first | assumption | omega)) gX2_changeIfAllowed_X2_change rfl (by decide +kernel) ⟨Nat.le_of_ble_eq_true rfl, Nat.le_of_ble_eq_true rfl⟩ rfl hl.1 (Nat.le_of_ble_eq_true rfl) ⟨Nat.zero_le _, Nat.zero_le _⟩ dX2_changeIfAllowed_13 (fun H locs hr2 hw hsz => ?_) rfl
    obtain ⟨hS, hf2⟩ := hr2
    have hf := hf.step hf2 (by omega)
    refine lv_iload_n hx hb dX2_changeIfAllowed_16 rfl (lv_at hl 0 rfl) ?_
    refine j_zret hx hb hr hlocks hH hw (Or.inr rfl) dX2_changeIfAllowed_17 ?_
    have e9 : tSet σ x v = some (upn σ x v) := by unfold tSet; exact if_pos ⟨hkn, hua, Nat.lt_succ_iff.mp hun⟩
    exact ⟨_, rfl, by rw [e9]; rfl, by rw [e9]; exact hS, hf⟩
  · have hn8 : ¬ (x < 5 ∧ loS x ≤ v ∧ v ≤ hiS x) := fun q => by
      have h5 := ix_nI (a := 0) (Nat.zero_le _) q.1 (by decide)
      have hib : hiS x ≤ 9 := by unfold hiS; split <;> decide
      have h6 := ix_nI (n := hiS x + 1) q.2.1 (Nat.lt_succ_of_le q.2.2) (by omega)
      rcases hno with h | ⟨k, h1, h2⟩
      · rw [h5] at h; cases h
      · rw [h5] at h1; cases h1; rw [h6] at h2; cases h2
    refine lv_istore_n (lv' := [(3, .int _), (0, .ref _), (1, .int _), (2, .int _)]) hx hb dX2_changeIfAllowed_5 rfl hl (by decide) rfl (fun ls hl => ?_)
    refine lv_iload_n hx hb dX2_changeIfAllowed_6 rfl (lv_at hl 0 rfl) ?_
    refine jz_eq (tgt := 16) hx hb dX2_changeIfAllowed_7 (by decide) (by omega) (fun c7 => ?_) (fun c7 => absurd c7 (by omega))
    refine lv_iload_n hx hb dX2_changeIfAllowed_16 rfl (lv_at hl 0 rfl) ?_
    refine j_zret hx hb hr hlocks hH hw (Or.inl rfl) dX2_changeIfAllowed_17 ?_
    have e9 : tSet σ x v = none := by unfold tSet; exact if_neg hn8
    exact ⟨_, rfl, by rw [e9]; rfl, by rw [e9]; exact hS, hf⟩
