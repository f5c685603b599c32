abbrev q_X4_setting (g : jG) (H0 : Heap) (A : Nat) (what : Int32) (tx : List Nat) (σ : Sg) (hi : List Sg) (sv : Nat → Option Sg) : Option Value → Heap → Prop := jN (fun r H1 => fSetting σ what = (0, r) ∧ CD g H1 A tx σ hi sv ∧ jF A 223 H0 H1)
abbrev x_X4_setting (A : Nat) (what : Int32) (tx : List Nat) (σ : Sg) (hi : List Sg) (sv : Nat → Option Sg) : String → Prop := fun E => ((fSetting σ what = (1, 0)) ∧ E = "java/lang/IllegalArgumentException")
set_option maxHeartbeats 4000000 in
set_option maxRecDepth 100000 in
theorem c_X4_setting (l : Launch) (hl0 : l.stackTraces = false) (g : jG) (z : Nat) (H0 : Heap) (A : Nat) (what : Int32) (tx : List Nat) (σ : Sg) (hi : List Sg) (sv : Nat → Option Sg) (hz : z ≤ A) (hCD : CD g H0 A tx σ hi sv) : jMX l g z yX4_setting wsX4_setting 6 82 [.ref A, .int what] H0 (q_X4_setting g H0 A what tx σ hi sv) (x_X4_setting A what tx σ hi sv) := by
  refine j_ofX (cc := cX4_setting) (n := 2) (ret := some .int) (by decide) rfl (Nat.le_of_ble_eq_true rfl) ?_
  intro p e s m below meth c hx hb hr hml hown hts hlocks hname hH hw hE hex ls hl
  have hl : lv_has ls 2 [(0, .ref A), (1, .int what)] := hl
  have hinX4 : ∀ w ∈ u_ws RX4 TX4 6, w ∈ wsX4_setting := by decide +kernel
  have hinX2 : ∀ w ∈ u_ws RX2 TX2 9, w ∈ wsX4_setting := by decide +kernel
  have hf : jF A 223 H0 H0 := jF.rf
  obtain ⟨τ, Rt, hO, hT, hS, hTr, hHi, hSl, hN⟩ := hCD
  obtain ⟨hs, hcalm, h20⟩ := id hN
  have hln := opnR_len (σ := σ)
  have hl21 := hs.2.2.1
  refine lv_iload_n hx hb dX4_setting_0 rfl (lv_at hl 1 rfl) ?_
  refine j_Sp (n := 1) (As := [.int what]) hx hb hml hown hts hw (c_X4_isSetting l g z H0 what   ) gX4_setting_X4_isSetting rfl (by decide +kernel) ⟨Nat.le_of_ble_eq_true rfl, Nat.le_of_ble_eq_true rfl⟩ rfl hl.1 (Nat.le_of_ble_eq_true rfl) ⟨Nat.zero_le _, Nat.zero_le _⟩ dX4_setting_1 (fun r1 locs hr1 hw => ?_) rfl
  rcases hr1 with ⟨rfl, u, hu, hua, hun, rfl⟩ | ⟨rfl, hu⟩
  · refine jz_ne (tgt := 17) hx hb dX4_setting_4 (by decide) (by omega) (fun c4 => ?_) (fun c4 => absurd c4 (by omega))
    refine lv_aload_n hx hb dX4_setting_17 rfl (lv_at hl 0 rfl) ?_
    refine j_get (T := TX4) (N := 6) (k := 1) hx hb hts hinX4 hown hw hO rfl (by decide) (hts (.fieldLink RX4 19 "NightTrains" "now" "LNightTrains$Store;") (by decide +kernel)) rfl dX4_setting_18 ?_
    obtain ⟨ses2, pus2, dts2, las2, frs2, tks2, cts2, hOs2, hses2, hpus2, hdts2, hlas2, hfrs2, htks2, hops2, hlts2, hcts2, hSs2⟩ := hS
    have hOs2 : jO g H0 (A + 3) 2 [.ref (A + 4), .ref (A + 5), .ref (A + 6), .ref (A + 7), .ref (A + 8), .ref (A + 9), .ref (A + 10), .ref (A + 12), .ref (A + 14)] := hOs2
    have hses2 : jI g H0 (A + 4) 5 ses2 := hses2
    have hpus2 : jI g H0 (A + 5) 4 pus2 := hpus2
    have hdts2 : jI g H0 (A + 6) 4 dts2 := hdts2
    have hlas2 : jI g H0 (A + 7) 4 las2 := hlas2
    have hfrs2 : jI g H0 (A + 8) 16 frs2 := hfrs2
    have htks2 : jI g H0 (A + 9) 16 tks2 := htks2
    have hcts2 : jI g H0 (A + 14) 11 cts2 := hcts2
    have hops2 : jOr g H0 (A + 10) (opnR σ) := hops2
    have hlts2 : jOr g H0 (A + 12) (latR σ) := hlts2
    refine j_get (T := TX2) (N := 9) (k := 0) hx hb hts hinX2 hown hw hOs2 rfl (by decide) (hts (.fieldLink RX4 187 "NightTrains$Store" "settings" "[I") (by decide +kernel)) rfl dX4_setting_21 ?_
    refine lv_iload_n hx hb dX4_setting_24 rfl (lv_at hl 1 rfl) ?_
    refine j_iald hx hb hw hses2 (k := u) rfl (by omega) (by omega) dX4_setting_25 ?_
    refine j_eq (y := nI (σ.1 u)) (hSs2.rse (k := u) (by omega)) ?_
    refine j_retX ?_
    refine j_iret hx hb hr hlocks hH hw dX4_setting_26 ?_
    have hS3 : jSo g H0 (A + 3) σ (opnR σ) := ⟨ses2, pus2, dts2, las2, frs2, tks2, cts2, hOs2, hses2, hpus2, hdts2, hlas2, hfrs2, htks2, hops2, hlts2, hcts2, hSs2⟩
    have e9 : fSetting σ (nI (u)) = (0, nI (σ.1 u)) := by simp only [fSetting, hu]
    exact ⟨_, rfl, e9, ⟨_, _, hO, hT, hS3, hTr, hHi, hSl, hN⟩, hf⟩
  · refine jz_ne (tgt := 17) hx hb dX4_setting_4 (by decide) (by omega) (fun c4 => absurd c4 (by omega)) (fun c4 => ?_)
    exact j_throw hl0 (cls := "java/lang/IllegalArgumentException") (text := "what is 0 to 4") (ik := 41) (is := 133) (ic := 45) hx hb hml hown hlocks hH hw hE hex (by decide +kernel) hts (by decide +kernel) (by decide +kernel) (by decide +kernel) (by decide +kernel) (by decide +kernel) vx_n41 vx_g41 hl.1 dX4_setting_7 dX4_setting_10 dX4_setting_11 dX4_setting_13 dX4_setting_16 ⟨Nat.le_of_ble_eq_true rfl, Nat.le_of_ble_eq_true rfl, Nat.le_of_ble_eq_true rfl, Nat.le_of_ble_eq_true rfl⟩ (⟨(by simp only [fSetting, hu]), rfl⟩)

abbrev q_X4_order (g : jG) (H0 : Heap) (A : Nat) (i : Int32) (what : Int32) (tx : List Nat) (σ : Sg) (hi : List Sg) (sv : Nat → Option Sg) : Option Value → Heap → Prop := jN (fun r H1 => fOrder σ i what = (0, r) ∧ CD g H1 A tx σ hi sv ∧ jF A 223 H0 H1)
abbrev x_X4_order (A : Nat) (i : Int32) (what : Int32) (tx : List Nat) (σ : Sg) (hi : List Sg) (sv : Nat → Option Sg) : String → Prop := fun E => ((fOrder σ i what = (1, 0)) ∧ E = "java/lang/IndexOutOfBoundsException") ∨ ((fOrder σ i what = (2, 0)) ∧ E = "java/lang/IllegalArgumentException")
set_option maxHeartbeats 4000000 in
set_option maxRecDepth 100000 in
theorem c_X4_order (l : Launch) (hl0 : l.stackTraces = false) (g : jG) (z : Nat) (H0 : Heap) (A : Nat) (i : Int32) (what : Int32) (tx : List Nat) (σ : Sg) (hi : List Sg) (sv : Nat → Option Sg) (hz : z ≤ A) (hCD : CD g H0 A tx σ hi sv) : jMX l g z yX4_order wsX4_order 6 82 [.ref A, .int i, .int what] H0 (q_X4_order g H0 A i what tx σ hi sv) (x_X4_order A i what tx σ hi sv) := by
  refine j_ofX (cc := cX4_order) (n := 3) (ret := some .int) (by decide) rfl (Nat.le_of_ble_eq_true rfl) ?_
  intro p e s m below meth c hx hb hr hml hown hts hlocks hname hH hw hE hex ls hl
  have hl : lv_has ls 3 [(0, .ref A), (1, .int i), (2, .int what)] := hl
  have hinX4 : ∀ w ∈ u_ws RX4 TX4 6, w ∈ wsX4_order := by decide +kernel
  have hinX2 : ∀ w ∈ u_ws RX2 TX2 9, w ∈ wsX4_order := by decide +kernel
  have hf : jF A 223 H0 H0 := jF.rf
  obtain ⟨τ, Rt, hO, hT, hS, hTr, hHi, hSl, hN⟩ := hCD
  obtain ⟨hs, hcalm, h20⟩ := id hN
  have hln := opnR_len (σ := σ)
  have hl21 := hs.2.2.1
  refine lv_aload_n hx hb dX4_order_0 rfl (lv_at hl 0 rfl) ?_
  refine j_get (T := TX4) (N := 6) (k := 1) hx hb hts hinX4 hown hw hO rfl (by decide) (hts (.fieldLink RX4 19 "NightTrains" "now" "LNightTrains$Store;") (by decide +kernel)) rfl dX4_order_1 ?_
  obtain ⟨ses1, pus1, dts1, las1, frs1, tks1, cts1, hOs1, hses1, hpus1, hdts1, hlas1, hfrs1, htks1, hops1, hlts1, hcts1, hSs1⟩ := hS
  have hOs1 : jO g H0 (A + 3) 2 [.ref (A + 4), .ref (A + 5), .ref (A + 6), .ref (A + 7), .ref (A + 8), .ref (A + 9), .ref (A + 10), .ref (A + 12), .ref (A + 14)] := hOs1
  have hses1 : jI g H0 (A + 4) 5 ses1 := hses1
  have hpus1 : jI g H0 (A + 5) 4 pus1 := hpus1
  have hdts1 : jI g H0 (A + 6) 4 dts1 := hdts1
  have hlas1 : jI g H0 (A + 7) 4 las1 := hlas1
  have hfrs1 : jI g H0 (A + 8) 16 frs1 := hfrs1
  have htks1 : jI g H0 (A + 9) 16 tks1 := htks1
  have hcts1 : jI g H0 (A + 14) 11 cts1 := hcts1
  have hops1 : jOr g H0 (A + 10) (opnR σ) := hops1
  have hlts1 : jOr g H0 (A + 12) (latR σ) := hlts1
  refine j_get (T := TX2) (N := 9) (k := 6) hx hb hts hinX2 hown hw hOs1 rfl (by decide) (hts (.fieldLink RX4 116 "NightTrains$Store" "open" "LNightTrains$Orders;") (by decide +kernel)) rfl dX4_order_4 ?_
  refine lv_iload_n hx hb dX4_order_7 rfl (lv_at hl 1 rfl) ?_
  refine j_Vp (n := 1) (As := [.int i]) hx hb hml hown hts hw (j_recv hw hops1.1 rfl) (c_X1_has l g z H0 (A + 10) i (opnR σ) (by omega) hops1 ) gX4_order_X1_has rfl (by decide +kernel) ⟨Nat.le_of_ble_eq_true rfl, Nat.le_of_ble_eq_true rfl⟩ rfl hl.1 (Nat.le_of_ble_eq_true rfl) ⟨Nat.zero_le _, Nat.zero_le _⟩ dX4_order_8 (fun r2 locs hr2 hw => ?_) rfl
  rw [hln] at hr2
  rcases hr2 with ⟨rfl, q, hq, hqa, hqn, rfl⟩ | ⟨rfl, hq⟩
  · refine jz_ne (tgt := 24) hx hb dX4_order_11 (by decide) (by omega) (fun c11 => ?_) (fun c11 => absurd c11 (by omega))
    refine lv_iload_n hx hb dX4_order_24 rfl (lv_at hl 2 rfl) ?_
    refine j_Sp (n := 1) (As := [.int what]) hx hb hml hown hts hw (c_X4_isOrderNumber l g z H0 what   ) gX4_order_X4_isOrderNumber rfl (by decide +kernel) ⟨Nat.le_of_ble_eq_true rfl, Nat.le_of_ble_eq_true rfl⟩ rfl hl.1 (Nat.le_of_ble_eq_true rfl) ⟨Nat.zero_le _, Nat.zero_le _⟩ dX4_order_25 (fun r3 locs hr3 hw => ?_) rfl
    rcases hr3 with ⟨rfl, u, hu, hua, hun, rfl⟩ | ⟨rfl, hu⟩
    · refine jz_ne (tgt := 41) hx hb dX4_order_28 (by decide) (by omega) (fun c28 => ?_) (fun c28 => absurd c28 (by omega))
      obtain ⟨o, ho⟩ := getO hqn
      refine lv_aload_n hx hb dX4_order_41 rfl (lv_at hl 0 rfl) ?_
      refine j_get (T := TX4) (N := 6) (k := 1) hx hb hts hinX4 hown hw hO rfl (by decide) (hts (.fieldLink RX4 19 "NightTrains" "now" "LNightTrains$Store;") (by decide +kernel)) rfl dX4_order_42 ?_
      refine j_get (T := TX2) (N := 9) (k := 6) hx hb hts hinX2 hown hw hOs1 rfl (by decide) (hts (.fieldLink RX4 116 "NightTrains$Store" "open" "LNightTrains$Orders;") (by decide +kernel)) rfl dX4_order_45 ?_
      refine lv_iload_n hx hb dX4_order_48 rfl (lv_at hl 1 rfl) ?_
      refine lv_iload_n hx hb dX4_order_49 rfl (lv_at hl 2 rfl) ?_
      refine j_Vp (n := 2) (As := [.int (nI (q)), .int (nI (u))]) hx hb hml hown hts hw (j_recv hw hops1.1 rfl) (c_X1_get l g z H0 (A + 10) (nI (q)) (nI (u)) (opnR σ) (by omega) hops1 ) gX4_order_X1_get rfl (by decide +kernel) ⟨Nat.le_of_ble_eq_true rfl, Nat.le_of_ble_eq_true rfl⟩ rfl hl.1 (Nat.le_of_ble_eq_true rfl) ⟨Nat.zero_le _, Nat.zero_le _⟩ dX4_order_50 (fun r4 locs hr4 hw => ?_) rfl
      obtain rfl : r4 = nI (o u) := hr4.trans (gtR_o (opnR_get ho) hun (by omega))
      refine j_retX ?_
      refine j_iret hx hb hr hlocks hH hw dX4_order_53 ?_
      have hS5 : jSo g H0 (A + 3) σ (opnR σ) := ⟨ses1, pus1, dts1, las1, frs1, tks1, cts1, hOs1, hses1, hpus1, hdts1, hlas1, hfrs1, htks1, hops1, hlts1, hcts1, hSs1⟩
      have e9 : fOrder σ (nI (q)) (nI (u)) = (0, nI (o u)) := by simp only [fOrder, hq, hu, ho]
      exact ⟨_, rfl, e9, ⟨_, _, hO, hT, hS5, hTr, hHi, hSl, hN⟩, hf⟩
    · refine jz_ne (tgt := 41) hx hb dX4_order_28 (by decide) (by omega) (fun c28 => absurd c28 (by omega)) (fun c28 => ?_)
      exact j_throw hl0 (cls := "java/lang/IllegalArgumentException") (text := "what is 0 to 4") (ik := 41) (is := 133) (ic := 45) hx hb hml hown hlocks hH hw hE hex (by decide +kernel) hts (by decide +kernel) (by decide +kernel) (by decide +kernel) (by decide +kernel) (by decide +kernel) vx_n41 vx_g41 hl.1 dX4_order_31 dX4_order_34 dX4_order_35 dX4_order_37 dX4_order_40 ⟨Nat.le_of_ble_eq_true rfl, Nat.le_of_ble_eq_true rfl, Nat.le_of_ble_eq_true rfl, Nat.le_of_ble_eq_true rfl⟩ (Or.inr ⟨(by simp only [fOrder, hq, hu]), rfl⟩)
  · refine jz_ne (tgt := 24) hx hb dX4_order_11 (by decide) (by omega) (fun c11 => absurd c11 (by omega)) (fun c11 => ?_)
    exact j_throw hl0 (cls := "java/lang/IndexOutOfBoundsException") (text := "no such open order") (ik := 125) (is := 127) (ic := 129) hx hb hml hown hlocks hH hw hE hex (by decide +kernel) hts (by decide +kernel) (by decide +kernel) (by decide +kernel) (by decide +kernel) (by decide +kernel) vx_n125 vx_g125 hl.1 dX4_order_14 dX4_order_17 dX4_order_18 dX4_order_20 dX4_order_23 ⟨Nat.le_of_ble_eq_true rfl, Nat.le_of_ble_eq_true rfl, Nat.le_of_ble_eq_true rfl, Nat.le_of_ble_eq_true rfl⟩ (Or.inl ⟨(by simp only [fOrder, hq]), rfl⟩)

abbrev q_X4_lot (g : jG) (H0 : Heap) (A : Nat) (al : Int32) (what : Int32) (tx : List Nat) (σ : Sg) (hi : List Sg) (sv : Nat → Option Sg) : Option Value → Heap → Prop := jN (fun r H1 => fLot σ al what = (0, r) ∧ CD g H1 A tx σ hi sv ∧ jF A 223 H0 H1)
abbrev x_X4_lot (A : Nat) (al : Int32) (what : Int32) (tx : List Nat) (σ : Sg) (hi : List Sg) (sv : Nat → Option Sg) : String → Prop := fun E => ((fLot σ al what = (1, 0)) ∧ E = "java/lang/IndexOutOfBoundsException") ∨ ((fLot σ al what = (2, 0)) ∧ E = "java/lang/IllegalArgumentException")
set_option maxHeartbeats 4000000 in
set_option maxRecDepth 100000 in
theorem c_X4_lot (l : Launch) (hl0 : l.stackTraces = false) (g : jG) (z : Nat) (H0 : Heap) (A : Nat) (al : Int32) (what : Int32) (tx : List Nat) (σ : Sg) (hi : List Sg) (sv : Nat → Option Sg) (hz : z ≤ A) (hCD : CD g H0 A tx σ hi sv) : jMX l g z yX4_lot wsX4_lot 6 82 [.ref A, .int al, .int what] H0 (q_X4_lot g H0 A al what tx σ hi sv) (x_X4_lot A al what tx σ hi sv) := by
  refine j_ofX (cc := cX4_lot) (n := 3) (ret := some .int) (by decide) rfl (Nat.le_of_ble_eq_true rfl) ?_
  intro p e s m below meth c hx hb hr hml hown hts hlocks hname hH hw hE hex ls hl
  have hl : lv_has ls 3 [(0, .ref A), (1, .int al), (2, .int what)] := hl
  have hinX4 : ∀ w ∈ u_ws RX4 TX4 6, w ∈ wsX4_lot := by decide +kernel
  have hinX2 : ∀ w ∈ u_ws RX2 TX2 9, w ∈ wsX4_lot := by decide +kernel
  have hf : jF A 223 H0 H0 := jF.rf
  obtain ⟨τ, Rt, hO, hT, hS, hTr, hHi, hSl, hN⟩ := hCD
  obtain ⟨hs, hcalm, h20⟩ := id hN
  have hln := opnR_len (σ := σ)
  have hl21 := hs.2.2.1
  refine lv_iload_n hx hb dX4_lot_0 rfl (lv_at hl 1 rfl) ?_
  refine j_Sp (n := 1) (As := [.int al]) hx hb hml hown hts hw (c_X4_isLot l g z H0 al   ) gX4_lot_X4_isLot rfl (by decide +kernel) ⟨Nat.le_of_ble_eq_true rfl, Nat.le_of_ble_eq_true rfl⟩ rfl hl.1 (Nat.le_of_ble_eq_true rfl) ⟨Nat.zero_le _, Nat.zero_le _⟩ dX4_lot_1 (fun r1 locs hr1 hw => ?_) rfl
  rcases hr1 with ⟨rfl, j, hj, hja, hjn, rfl⟩ | ⟨rfl, hj⟩
  · refine jz_ne (tgt := 17) hx hb dX4_lot_4 (by decide) (by omega) (fun c4 => ?_) (fun c4 => absurd c4 (by omega))
    rcases hu : ix what 0 4 with _ | u
    · have hno := ix_no hu
      refine lv_iload_n hx hb dX4_lot_17 rfl (lv_at hl 2 rfl) ?_
      refine lv_tableOut (tgt := 87) hx hb dX4_lot_18 (by omega) (by decide) ?_
      exact j_throw hl0 (cls := "java/lang/IllegalArgumentException") (text := "what is 0 to 3") (ik := 41) (is := 157) (ic := 45) hx hb hml hown hlocks hH hw hE hex (by decide +kernel) hts (by decide +kernel) (by decide +kernel) (by decide +kernel) (by decide +kernel) (by decide +kernel) vx_n41 vx_g41 hl.1 dX4_lot_87 dX4_lot_90 dX4_lot_91 dX4_lot_93 dX4_lot_96 ⟨Nat.le_of_ble_eq_true rfl, Nat.le_of_ble_eq_true rfl, Nat.le_of_ble_eq_true rfl, Nat.le_of_ble_eq_true rfl⟩ (Or.inr ⟨(by simp only [fLot, hj, hu]), rfl⟩)
    · obtain ⟨-, hun, rfl⟩ := ix_some hu
      have hw9 : u = 0 ∨ u = 1 ∨ u = 2 ∨ u = 3 := by omega
      rcases hw9 with hw9 | hw9 | hw9 | hw9
      · subst hw9
        refine lv_iload_n hx hb dX4_lot_17 rfl (lv_at hl 2 rfl) ?_
        refine lv_tableIn (tgt := 48) hx hb dX4_lot_18 (by decide) (by decide) (off := 30) (by decide) (by decide) ?_
        refine lv_aload_n hx hb dX4_lot_48 rfl (lv_at hl 0 rfl) ?_
        refine j_get (T := TX4) (N := 6) (k := 1) hx hb hts hinX4 hown hw hO rfl (by decide) (hts (.fieldLink RX4 19 "NightTrains" "now" "LNightTrains$Store;") (by decide +kernel)) rfl dX4_lot_49 ?_
        obtain ⟨ses2, pus2, dts2, las2, frs2, tks2, cts2, hOs2, hses2, hpus2, hdts2, hlas2, hfrs2, htks2, hops2, hlts2, hcts2, hSs2⟩ := hS
        have hOs2 : jO g H0 (A + 3) 2 [.ref (A + 4), .ref (A + 5), .ref (A + 6), .ref (A + 7), .ref (A + 8), .ref (A + 9), .ref (A + 10), .ref (A + 12), .ref (A + 14)] := hOs2
        have hses2 : jI g H0 (A + 4) 5 ses2 := hses2
        have hpus2 : jI g H0 (A + 5) 4 pus2 := hpus2
        have hdts2 : jI g H0 (A + 6) 4 dts2 := hdts2
        have hlas2 : jI g H0 (A + 7) 4 las2 := hlas2
        have hfrs2 : jI g H0 (A + 8) 16 frs2 := hfrs2
        have htks2 : jI g H0 (A + 9) 16 tks2 := htks2
        have hcts2 : jI g H0 (A + 14) 11 cts2 := hcts2
        have hops2 : jOr g H0 (A + 10) (opnR σ) := hops2
        have hlts2 : jOr g H0 (A + 12) (latR σ) := hlts2
        refine j_get (T := TX2) (N := 9) (k := 4) hx hb hts hinX2 hown hw hOs2 rfl (by decide) (hts (.fieldLink RX4 144 "NightTrains$Store" "front" "[I") (by decide +kernel)) rfl dX4_lot_52 ?_
        refine lv_iload_n hx hb dX4_lot_55 rfl (lv_at hl 1 rfl) ?_
        refine j_iald hx hb hw hfrs2 (k := j) rfl (by omega) (by omega) dX4_lot_56 ?_
        refine j_eq (y := (nI (σ.1 (14 + j)) - nI 1)) (hSs2.rfr (k := j) (by omega)) ?_
        refine j_retX ?_
        refine j_iret hx hb hr hlocks hH hw dX4_lot_57 ?_
        have hS3 : jSo g H0 (A + 3) σ (opnR σ) := ⟨ses2, pus2, dts2, las2, frs2, tks2, cts2, hOs2, hses2, hpus2, hdts2, hlas2, hfrs2, htks2, hops2, hlts2, hcts2, hSs2⟩
        have e9 : fLot σ (nI (j)) (nI (0)) = (0, nI (σ.1 (14 + j)) - nI 1) := by simp only [fLot, hj, hu]
        exact ⟨_, rfl, e9, ⟨_, _, hO, hT, hS3, hTr, hHi, hSl, hN⟩, hf⟩
      · subst hw9
        refine lv_iload_n hx hb dX4_lot_17 rfl (lv_at hl 2 rfl) ?_
        refine lv_tableIn (tgt := 58) hx hb dX4_lot_18 (by decide) (by decide) (off := 40) (by decide) (by decide) ?_
        refine lv_aload_n hx hb dX4_lot_58 rfl (lv_at hl 0 rfl) ?_
        refine j_get (T := TX4) (N := 6) (k := 1) hx hb hts hinX4 hown hw hO rfl (by decide) (hts (.fieldLink RX4 19 "NightTrains" "now" "LNightTrains$Store;") (by decide +kernel)) rfl dX4_lot_59 ?_
        refine lv_iconst (v := (nI (1))) hx hb dX4_lot_62 (by decide) ?_
        refine lv_iload_n hx hb dX4_lot_63 rfl (lv_at hl 1 rfl) ?_
        refine j_Vp (n := 2) (As := [.int (nI (1)), .int (nI (j))]) hx hb hml hown hts hw (j_recv hw hS.obj rfl) (c_X2_openOf l g z H0 (A + 3) (1) (nI (j)) σ (opnR σ) (by omega) hS (by first | assumption | omega)) gX4_lot_X2_openOf rfl (by decide +kernel) ⟨Nat.le_of_ble_eq_true rfl, Nat.le_of_ble_eq_true rfl⟩ rfl hl.1 (Nat.le_of_ble_eq_true rfl) ⟨Nat.zero_le _, Nat.zero_le _⟩ dX4_lot_64 (fun r4 locs hr4 hw => ?_) rfl
        obtain rfl : r4 = (nI ((ocnt 1 j σ.2.2.1))) := hr4.trans (congrArg nI (cntR_o (by decide) (by omega) (fun x hx => Nat.lt_trans (hs.2.2.2.1 x hx).2.1 (by decide))))
        refine j_retX ?_
        refine j_iret hx hb hr hlocks hH hw dX4_lot_67 ?_
        have e9 : fLot σ (nI (j)) (nI (1)) = (0, nI (ocnt 1 j σ.2.2.1)) := by simp only [fLot, hj, hu]
        exact ⟨_, rfl, e9, ⟨_, _, hO, hT, hS, hTr, hHi, hSl, hN⟩, hf⟩
      · subst hw9
        refine lv_iload_n hx hb dX4_lot_17 rfl (lv_at hl 2 rfl) ?_
        refine lv_tableIn (tgt := 68) hx hb dX4_lot_18 (by decide) (by decide) (off := 50) (by decide) (by decide) ?_
        refine lv_aload_n hx hb dX4_lot_68 rfl (lv_at hl 0 rfl) ?_
        refine j_get (T := TX4) (N := 6) (k := 1) hx hb hts hinX4 hown hw hO rfl (by decide) (hts (.fieldLink RX4 19 "NightTrains" "now" "LNightTrains$Store;") (by decide +kernel)) rfl dX4_lot_69 ?_
        refine lv_iload_n hx hb dX4_lot_72 rfl (lv_at hl 1 rfl) ?_
        refine j_Vp (n := 1) (As := [.int (nI (j))]) hx hb hml hown hts hw (j_recv hw hS.obj rfl) (c_X2_feesFor l g z H0 (A + 3) (nI (j)) σ (opnR σ) (by omega) hS ) gX4_lot_X2_feesFor rfl (by decide +kernel) ⟨Nat.le_of_ble_eq_true rfl, Nat.le_of_ble_eq_true rfl⟩ rfl hl.1 (Nat.le_of_ble_eq_true rfl) ⟨Nat.zero_le _, Nat.zero_le _⟩ dX4_lot_73 (fun r5 locs hr5 hw => ?_) rfl
        obtain rfl : r5 = (nI ((fsum j σ.2.2.1))) := hr5.trans (sumR_o (by omega) (fun x hx => Nat.lt_trans (hs.2.2.2.1 x hx).2.1 (by decide)))
        refine j_retX ?_
        refine j_iret hx hb hr hlocks hH hw dX4_lot_76 ?_
        have e9 : fLot σ (nI (j)) (nI (2)) = (0, nI (fsum j σ.2.2.1)) := by simp only [fLot, hj, hu]
        exact ⟨_, rfl, e9, ⟨_, _, hO, hT, hS, hTr, hHi, hSl, hN⟩, hf⟩
      · subst hw9
        refine lv_iload_n hx hb dX4_lot_17 rfl (lv_at hl 2 rfl) ?_
        refine lv_tableIn (tgt := 77) hx hb dX4_lot_18 (by decide) (by decide) (off := 59) (by decide) (by decide) ?_
        refine lv_aload_n hx hb dX4_lot_77 rfl (lv_at hl 0 rfl) ?_
        refine j_get (T := TX4) (N := 6) (k := 1) hx hb hts hinX4 hown hw hO rfl (by decide) (hts (.fieldLink RX4 19 "NightTrains" "now" "LNightTrains$Store;") (by decide +kernel)) rfl dX4_lot_78 ?_
        obtain ⟨ses6, pus6, dts6, las6, frs6, tks6, cts6, hOs6, hses6, hpus6, hdts6, hlas6, hfrs6, htks6, hops6, hlts6, hcts6, hSs6⟩ := hS
        have hOs6 : jO g H0 (A + 3) 2 [.ref (A + 4), .ref (A + 5), .ref (A + 6), .ref (A + 7), .ref (A + 8), .ref (A + 9), .ref (A + 10), .ref (A + 12), .ref (A + 14)] := hOs6
        have hses6 : jI g H0 (A + 4) 5 ses6 := hses6
        have hpus6 : jI g H0 (A + 5) 4 pus6 := hpus6
        have hdts6 : jI g H0 (A + 6) 4 dts6 := hdts6
        have hlas6 : jI g H0 (A + 7) 4 las6 := hlas6
        have hfrs6 : jI g H0 (A + 8) 16 frs6 := hfrs6
        have htks6 : jI g H0 (A + 9) 16 tks6 := htks6
        have hcts6 : jI g H0 (A + 14) 11 cts6 := hcts6
        have hops6 : jOr g H0 (A + 10) (opnR σ) := hops6
        have hlts6 : jOr g H0 (A + 12) (latR σ) := hlts6
        refine j_get (T := TX2) (N := 9) (k := 5) hx hb hts hinX2 hown hw hOs6 rfl (by decide) (hts (.fieldLink RX4 154 "NightTrains$Store" "taken" "[I") (by decide +kernel)) rfl dX4_lot_81 ?_
        refine lv_iload_n hx hb dX4_lot_84 rfl (lv_at hl 1 rfl) ?_
        refine j_iald hx hb hw htks6 (k := j) rfl (by omega) (by omega) dX4_lot_85 ?_
        refine j_eq (y := nI (σ.1 (30 + j))) (hSs6.rtk (k := j) (by omega)) ?_
        refine j_retX ?_
        refine j_iret hx hb hr hlocks hH hw dX4_lot_86 ?_
        have hS7 : jSo g H0 (A + 3) σ (opnR σ) := ⟨ses6, pus6, dts6, las6, frs6, tks6, cts6, hOs6, hses6, hpus6, hdts6, hlas6, hfrs6, htks6, hops6, hlts6, hcts6, hSs6⟩
        have e9 : fLot σ (nI (j)) (nI (3)) = (0, nI (σ.1 (30 + j))) := by simp only [fLot, hj, hu]
        exact ⟨_, rfl, e9, ⟨_, _, hO, hT, hS7, hTr, hHi, hSl, hN⟩, hf⟩
  · refine jz_ne (tgt := 17) hx hb dX4_lot_4 (by decide) (by omega) (fun c4 => absurd c4 (by omega)) (fun c4 => ?_)
    exact j_throw hl0 (cls := "java/lang/IndexOutOfBoundsException") (text := "no such lot") (ik := 125) (is := 142) (ic := 129) hx hb hml hown hlocks hH hw hE hex (by decide +kernel) hts (by decide +kernel) (by decide +kernel) (by decide +kernel) (by decide +kernel) (by decide +kernel) vx_n125 vx_g125 hl.1 dX4_lot_7 dX4_lot_10 dX4_lot_11 dX4_lot_13 dX4_lot_16 ⟨Nat.le_of_ble_eq_true rfl, Nat.le_of_ble_eq_true rfl, Nat.le_of_ble_eq_true rfl, Nat.le_of_ble_eq_true rfl⟩ (Or.inl ⟨(by simp only [fLot, hj]), rfl⟩)

abbrev q_X4_reader (g : jG) (H0 : Heap) (A : Nat) (ac : Int32) (what : Int32) (tx : List Nat) (σ : Sg) (hi : List Sg) (sv : Nat → Option Sg) : Option Value → Heap → Prop := jN (fun r H1 => fReader σ ac what = (0, r) ∧ CD g H1 A tx σ hi sv ∧ jF A 223 H0 H1)
abbrev x_X4_reader (A : Nat) (ac : Int32) (what : Int32) (tx : List Nat) (σ : Sg) (hi : List Sg) (sv : Nat → Option Sg) : String → Prop := fun E => ((fReader σ ac what = (1, 0)) ∧ E = "java/lang/IndexOutOfBoundsException") ∨ ((fReader σ ac what = (2, 0)) ∧ E = "java/lang/IllegalArgumentException")
set_option maxHeartbeats 4000000 in
set_option maxRecDepth 100000 in
theorem c_X4_reader (l : Launch) (hl0 : l.stackTraces = false) (g : jG) (z : Nat) (H0 : Heap) (A : Nat) (ac : Int32) (what : Int32) (tx : List Nat) (σ : Sg) (hi : List Sg) (sv : Nat → Option Sg) (hz : z ≤ A) (hCD : CD g H0 A tx σ hi sv) : jMX l g z yX4_reader wsX4_reader 6 82 [.ref A, .int ac, .int what] H0 (q_X4_reader g H0 A ac what tx σ hi sv) (x_X4_reader A ac what tx σ hi sv) := by
  refine j_ofX (cc := cX4_reader) (n := 3) (ret := some .int) (by decide) rfl (Nat.le_of_ble_eq_true rfl) ?_
  intro p e s m below meth c hx hb hr hml hown hts hlocks hname hH hw hE hex ls hl
  have hl : lv_has ls 3 [(0, .ref A), (1, .int ac), (2, .int what)] := hl
  have hinX4 : ∀ w ∈ u_ws RX4 TX4 6, w ∈ wsX4_reader := by decide +kernel
  have hinX2 : ∀ w ∈ u_ws RX2 TX2 9, w ∈ wsX4_reader := by decide +kernel
  have hf : jF A 223 H0 H0 := jF.rf
  obtain ⟨τ, Rt, hO, hT, hS, hTr, hHi, hSl, hN⟩ := hCD
  obtain ⟨hs, hcalm, h20⟩ := id hN
  have hln := opnR_len (σ := σ)
  have hl21 := hs.2.2.1
  refine lv_iload_n hx hb dX4_reader_0 rfl (lv_at hl 1 rfl) ?_
  refine j_Sp (n := 1) (As := [.int ac]) hx hb hml hown hts hw (c_X4_isReader l g z H0 ac   ) gX4_reader_X4_isReader rfl (by decide +kernel) ⟨Nat.le_of_ble_eq_true rfl, Nat.le_of_ble_eq_true rfl⟩ rfl hl.1 (Nat.le_of_ble_eq_true rfl) ⟨Nat.zero_le _, Nat.zero_le _⟩ dX4_reader_1 (fun r1 locs hr1 hw => ?_) rfl
  rcases hr1 with ⟨rfl, j, hj, hja, hjn, rfl⟩ | ⟨rfl, hj⟩
  · refine jz_ne (tgt := 17) hx hb dX4_reader_4 (by decide) (by omega) (fun c4 => ?_) (fun c4 => absurd c4 (by omega))
    rcases hu : ix what 0 4 with _ | u
    · have hno := ix_no hu
      refine lv_iload_n hx hb dX4_reader_17 rfl (lv_at hl 2 rfl) ?_
      refine lv_tableOut (tgt := 88) hx hb dX4_reader_18 (by omega) (by decide) ?_
      exact j_throw hl0 (cls := "java/lang/IllegalArgumentException") (text := "what is 0 to 3") (ik := 41) (is := 157) (ic := 45) hx hb hml hown hlocks hH hw hE hex (by decide +kernel) hts (by decide +kernel) (by decide +kernel) (by decide +kernel) (by decide +kernel) (by decide +kernel) vx_n41 vx_g41 hl.1 dX4_reader_88 dX4_reader_91 dX4_reader_92 dX4_reader_94 dX4_reader_97 ⟨Nat.le_of_ble_eq_true rfl, Nat.le_of_ble_eq_true rfl, Nat.le_of_ble_eq_true rfl, Nat.le_of_ble_eq_true rfl⟩ (Or.inr ⟨(by simp only [fReader, hj, hu]), rfl⟩)
    · obtain ⟨-, hun, rfl⟩ := ix_some hu
      have hw9 : u = 0 ∨ u = 1 ∨ u = 2 ∨ u = 3 := by omega
      rcases hw9 with hw9 | hw9 | hw9 | hw9
      · subst hw9
        refine lv_iload_n hx hb dX4_reader_17 rfl (lv_at hl 2 rfl) ?_
        refine lv_tableIn (tgt := 48) hx hb dX4_reader_18 (by decide) (by decide) (off := 30) (by decide) (by decide) ?_
        refine lv_aload_n hx hb dX4_reader_48 rfl (lv_at hl 0 rfl) ?_
        refine j_get (T := TX4) (N := 6) (k := 1) hx hb hts hinX4 hown hw hO rfl (by decide) (hts (.fieldLink RX4 19 "NightTrains" "now" "LNightTrains$Store;") (by decide +kernel)) rfl dX4_reader_49 ?_
        obtain ⟨ses2, pus2, dts2, las2, frs2, tks2, cts2, hOs2, hses2, hpus2, hdts2, hlas2, hfrs2, htks2, hops2, hlts2, hcts2, hSs2⟩ := hS
        have hOs2 : jO g H0 (A + 3) 2 [.ref (A + 4), .ref (A + 5), .ref (A + 6), .ref (A + 7), .ref (A + 8), .ref (A + 9), .ref (A + 10), .ref (A + 12), .ref (A + 14)] := hOs2
        have hses2 : jI g H0 (A + 4) 5 ses2 := hses2
        have hpus2 : jI g H0 (A + 5) 4 pus2 := hpus2
        have hdts2 : jI g H0 (A + 6) 4 dts2 := hdts2
        have hlas2 : jI g H0 (A + 7) 4 las2 := hlas2
        have hfrs2 : jI g H0 (A + 8) 16 frs2 := hfrs2
        have htks2 : jI g H0 (A + 9) 16 tks2 := htks2
        have hcts2 : jI g H0 (A + 14) 11 cts2 := hcts2
        have hops2 : jOr g H0 (A + 10) (opnR σ) := hops2
        have hlts2 : jOr g H0 (A + 12) (latR σ) := hlts2
        refine j_get (T := TX2) (N := 9) (k := 1) hx hb hts hinX2 hown hw hOs2 rfl (by decide) (hts (.fieldLink RX4 164 "NightTrains$Store" "purse" "[I") (by decide +kernel)) rfl dX4_reader_52 ?_
        refine lv_iload_n hx hb dX4_reader_55 rfl (lv_at hl 1 rfl) ?_
        refine j_iald hx hb hw hpus2 (k := j) rfl (by omega) (by omega) dX4_reader_56 ?_
        refine j_eq (y := (σ.2.1 j)) (hSs2.rpu (k := j) (by omega)) ?_
        refine j_retX ?_
        refine j_iret hx hb hr hlocks hH hw dX4_reader_57 ?_
        have hS3 : jSo g H0 (A + 3) σ (opnR σ) := ⟨ses2, pus2, dts2, las2, frs2, tks2, cts2, hOs2, hses2, hpus2, hdts2, hlas2, hfrs2, htks2, hops2, hlts2, hcts2, hSs2⟩
        have e9 : fReader σ (nI (j)) (nI (0)) = (0, σ.2.1 j) := by simp only [fReader, hj, hu]
        exact ⟨_, rfl, e9, ⟨_, _, hO, hT, hS3, hTr, hHi, hSl, hN⟩, hf⟩
      · subst hw9
        refine lv_iload_n hx hb dX4_reader_17 rfl (lv_at hl 2 rfl) ?_
        refine lv_tableIn (tgt := 58) hx hb dX4_reader_18 (by decide) (by decide) (off := 40) (by decide) (by decide) ?_
        refine lv_aload_n hx hb dX4_reader_58 rfl (lv_at hl 0 rfl) ?_
        refine j_get (T := TX4) (N := 6) (k := 1) hx hb hts hinX4 hown hw hO rfl (by decide) (hts (.fieldLink RX4 19 "NightTrains" "now" "LNightTrains$Store;") (by decide +kernel)) rfl dX4_reader_59 ?_
        refine lv_iconst (v := (nI (0))) hx hb dX4_reader_62 (by decide) ?_
        refine lv_iload_n hx hb dX4_reader_63 rfl (lv_at hl 1 rfl) ?_
        refine j_Vp (n := 2) (As := [.int (nI (0)), .int (nI (j))]) hx hb hml hown hts hw (j_recv hw hS.obj rfl) (c_X2_openOf l g z H0 (A + 3) (0) (nI (j)) σ (opnR σ) (by omega) hS (by first | assumption | omega)) gX4_reader_X2_openOf rfl (by decide +kernel) ⟨Nat.le_of_ble_eq_true rfl, Nat.le_of_ble_eq_true rfl⟩ rfl hl.1 (Nat.le_of_ble_eq_true rfl) ⟨Nat.zero_le _, Nat.zero_le _⟩ dX4_reader_64 (fun r4 locs hr4 hw => ?_) rfl
        obtain rfl : r4 = (nI ((ocnt 0 j σ.2.2.1))) := hr4.trans (congrArg nI (cntR_o (by decide) (by omega) (fun x hx => Nat.lt_trans (hs.2.2.2.1 x hx).1 (by decide))))
        refine j_retX ?_
        refine j_iret hx hb hr hlocks hH hw dX4_reader_67 ?_
        have e9 : fReader σ (nI (j)) (nI (1)) = (0, nI (ocnt 0 j σ.2.2.1)) := by simp only [fReader, hj, hu]
        exact ⟨_, rfl, e9, ⟨_, _, hO, hT, hS, hTr, hHi, hSl, hN⟩, hf⟩
      · subst hw9
        refine lv_iload_n hx hb dX4_reader_17 rfl (lv_at hl 2 rfl) ?_
        refine lv_tableIn (tgt := 68) hx hb dX4_reader_18 (by decide) (by decide) (off := 50) (by decide) (by decide) ?_
        refine lv_aload_n hx hb dX4_reader_68 rfl (lv_at hl 0 rfl) ?_
        refine j_get (T := TX4) (N := 6) (k := 1) hx hb hts hinX4 hown hw hO rfl (by decide) (hts (.fieldLink RX4 19 "NightTrains" "now" "LNightTrains$Store;") (by decide +kernel)) rfl dX4_reader_69 ?_
        obtain ⟨ses5, pus5, dts5, las5, frs5, tks5, cts5, hOs5, hses5, hpus5, hdts5, hlas5, hfrs5, htks5, hops5, hlts5, hcts5, hSs5⟩ := hS
        have hOs5 : jO g H0 (A + 3) 2 [.ref (A + 4), .ref (A + 5), .ref (A + 6), .ref (A + 7), .ref (A + 8), .ref (A + 9), .ref (A + 10), .ref (A + 12), .ref (A + 14)] := hOs5
        have hses5 : jI g H0 (A + 4) 5 ses5 := hses5
        have hpus5 : jI g H0 (A + 5) 4 pus5 := hpus5
        have hdts5 : jI g H0 (A + 6) 4 dts5 := hdts5
        have hlas5 : jI g H0 (A + 7) 4 las5 := hlas5
        have hfrs5 : jI g H0 (A + 8) 16 frs5 := hfrs5
        have htks5 : jI g H0 (A + 9) 16 tks5 := htks5
        have hcts5 : jI g H0 (A + 14) 11 cts5 := hcts5
        have hops5 : jOr g H0 (A + 10) (opnR σ) := hops5
        have hlts5 : jOr g H0 (A + 12) (latR σ) := hlts5
        refine j_get (T := TX2) (N := 9) (k := 2) hx hb hts hinX2 hown hw hOs5 rfl (by decide) (hts (.fieldLink RX4 167 "NightTrains$Store" "deliveredTo" "[I") (by decide +kernel)) rfl dX4_reader_72 ?_
        refine lv_iload_n hx hb dX4_reader_75 rfl (lv_at hl 1 rfl) ?_
        refine j_iald hx hb hw hdts5 (k := j) rfl (by omega) (by omega) dX4_reader_76 ?_
        refine j_eq (y := nI (σ.1 (50 + j))) (hSs5.rdt (k := j) (by omega)) ?_
        refine j_retX ?_
        refine j_iret hx hb hr hlocks hH hw dX4_reader_77 ?_
        have hS6 : jSo g H0 (A + 3) σ (opnR σ) := ⟨ses5, pus5, dts5, las5, frs5, tks5, cts5, hOs5, hses5, hpus5, hdts5, hlas5, hfrs5, htks5, hops5, hlts5, hcts5, hSs5⟩
        have e9 : fReader σ (nI (j)) (nI (2)) = (0, nI (σ.1 (50 + j))) := by simp only [fReader, hj, hu]
        exact ⟨_, rfl, e9, ⟨_, _, hO, hT, hS6, hTr, hHi, hSl, hN⟩, hf⟩
      · subst hw9
        refine lv_iload_n hx hb dX4_reader_17 rfl (lv_at hl 2 rfl) ?_
        refine lv_tableIn (tgt := 78) hx hb dX4_reader_18 (by decide) (by decide) (off := 60) (by decide) (by decide) ?_
        refine lv_aload_n hx hb dX4_reader_78 rfl (lv_at hl 0 rfl) ?_
        refine j_get (T := TX4) (N := 6) (k := 1) hx hb hts hinX4 hown hw hO rfl (by decide) (hts (.fieldLink RX4 19 "NightTrains" "now" "LNightTrains$Store;") (by decide +kernel)) rfl dX4_reader_79 ?_
        obtain ⟨ses7, pus7, dts7, las7, frs7, tks7, cts7, hOs7, hses7, hpus7, hdts7, hlas7, hfrs7, htks7, hops7, hlts7, hcts7, hSs7⟩ := hS
        have hOs7 : jO g H0 (A + 3) 2 [.ref (A + 4), .ref (A + 5), .ref (A + 6), .ref (A + 7), .ref (A + 8), .ref (A + 9), .ref (A + 10), .ref (A + 12), .ref (A + 14)] := hOs7
        have hses7 : jI g H0 (A + 4) 5 ses7 := hses7
        have hpus7 : jI g H0 (A + 5) 4 pus7 := hpus7
        have hdts7 : jI g H0 (A + 6) 4 dts7 := hdts7
        have hlas7 : jI g H0 (A + 7) 4 las7 := hlas7
        have hfrs7 : jI g H0 (A + 8) 16 frs7 := hfrs7
        have htks7 : jI g H0 (A + 9) 16 tks7 := htks7
        have hcts7 : jI g H0 (A + 14) 11 cts7 := hcts7
        have hops7 : jOr g H0 (A + 10) (opnR σ) := hops7
        have hlts7 : jOr g H0 (A + 12) (latR σ) := hlts7
        refine j_get (T := TX2) (N := 9) (k := 3) hx hb hts hinX2 hown hw hOs7 rfl (by decide) (hts (.fieldLink RX4 170 "NightTrains$Store" "lapsedOf" "[I") (by decide +kernel)) rfl dX4_reader_82 ?_
        refine lv_iload_n hx hb dX4_reader_85 rfl (lv_at hl 1 rfl) ?_
        refine j_iald hx hb hw hlas7 (k := j) rfl (by omega) (by omega) dX4_reader_86 ?_
        refine j_eq (y := nI (σ.1 (54 + j))) (hSs7.rla (k := j) (by omega)) ?_
        refine j_retX ?_
        refine j_iret hx hb hr hlocks hH hw dX4_reader_87 ?_
        have hS8 : jSo g H0 (A + 3) σ (opnR σ) := ⟨ses7, pus7, dts7, las7, frs7, tks7, cts7, hOs7, hses7, hpus7, hdts7, hlas7, hfrs7, htks7, hops7, hlts7, hcts7, hSs7⟩
        have e9 : fReader σ (nI (j)) (nI (3)) = (0, nI (σ.1 (54 + j))) := by simp only [fReader, hj, hu]
        exact ⟨_, rfl, e9, ⟨_, _, hO, hT, hS8, hTr, hHi, hSl, hN⟩, hf⟩
  · refine jz_ne (tgt := 17) hx hb dX4_reader_4 (by decide) (by omega) (fun c4 => absurd c4 (by omega)) (fun c4 => ?_)
    exact j_throw hl0 (cls := "java/lang/IndexOutOfBoundsException") (text := "no such reader") (ik := 125) (is := 162) (ic := 129) hx hb hml hown hlocks hH hw hE hex (by decide +kernel) hts (by decide +kernel) (by decide +kernel) (by decide +kernel) (by decide +kernel) (by decide +kernel) vx_n125 vx_g125 hl.1 dX4_reader_7 dX4_reader_10 dX4_reader_11 dX4_reader_13 dX4_reader_16 ⟨Nat.le_of_ble_eq_true rfl, Nat.le_of_ble_eq_true rfl, Nat.le_of_ble_eq_true rfl, Nat.le_of_ble_eq_true rfl⟩ (Or.inl ⟨(by simp only [fReader, hj]), rfl⟩)

abbrev q_X4_deliveredNumber (g : jG) (H0 : Heap) (u : Nat) : Option Value → Heap → Prop := jN (fun r H1 => H1 = H0 ∧ (r = nI (lw u)))
set_option maxHeartbeats 4000000 in
set_option maxRecDepth 100000 in
theorem c_X4_deliveredNumber (l : Launch) (g : jG) (z : Nat) (H0 : Heap) (u : Nat) (hu5 : u < 5) : jM l g z yX4_deliveredNumber wsX4_deliveredNumber 0 0 [.int (nI (u))] H0 (q_X4_deliveredNumber g H0 u) := by
  refine j_of (cc := cX4_deliveredNumber) (n := 1) (ret := some .int) (by decide) rfl (Nat.le_of_ble_eq_true rfl) ?_
  intro p e s m below meth c hx hb hr hml hown hts hlocks hname hH hw ls hl
  have hl : lv_has ls 1 [(0, .int (nI (u)))] := hl
  have hw9 : u = 0 ∨ u = 1 ∨ u = 2 ∨ u = 3 ∨ u = 4 := by omega
  rcases hw9 with hw9 | hw9 | hw9 | hw9 | hw9
  · rw [hw9] at hl
    refine lv_iload_n hx hb dX4_deliveredNumber_0 rfl (lv_at hl 0 rfl) ?_
    refine lv_lookup (off := 31) (tgt := 32) hx hb dX4_deliveredNumber_1 (by decide +kernel) (by decide +kernel) (by decide) ?_
    refine lv_iload_n hx hb dX4_deliveredNumber_32 rfl (lv_at hl 0 rfl) ?_
    refine j_iret hx hb hr hlocks hH hw dX4_deliveredNumber_33 ?_
    exact ⟨_, rfl, rfl, by rw [hw9]; rfl⟩
  · rw [hw9] at hl
    refine lv_iload_n hx hb dX4_deliveredNumber_0 rfl (lv_at hl 0 rfl) ?_
    refine lv_lookup (off := 31) (tgt := 32) hx hb dX4_deliveredNumber_1 (by decide +kernel) (by decide +kernel) (by decide) ?_
    refine lv_iload_n hx hb dX4_deliveredNumber_32 rfl (lv_at hl 0 rfl) ?_
    refine j_iret hx hb hr hlocks hH hw dX4_deliveredNumber_33 ?_
    exact ⟨_, rfl, rfl, by rw [hw9]; rfl⟩
  · rw [hw9] at hl
    refine lv_iload_n hx hb dX4_deliveredNumber_0 rfl (lv_at hl 0 rfl) ?_
    refine lv_lookup (off := 31) (tgt := 32) hx hb dX4_deliveredNumber_1 (by decide +kernel) (by decide +kernel) (by decide) ?_
    refine lv_iload_n hx hb dX4_deliveredNumber_32 rfl (lv_at hl 0 rfl) ?_
    refine j_iret hx hb hr hlocks hH hw dX4_deliveredNumber_33 ?_
    exact ⟨_, rfl, rfl, by rw [hw9]; rfl⟩
  · rw [hw9] at hl
    refine lv_iload_n hx hb dX4_deliveredNumber_0 rfl (lv_at hl 0 rfl) ?_
    refine lv_lookup (off := 27) (tgt := 28) hx hb dX4_deliveredNumber_1 (by decide +kernel) (by decide +kernel) (by decide) ?_
    refine lv_iconst (v := (nI (4))) hx hb dX4_deliveredNumber_28 (by decide) ?_
    refine j_iret hx hb hr hlocks hH hw dX4_deliveredNumber_29 ?_
    exact ⟨_, rfl, rfl, by rw [hw9]; rfl⟩
  · rw [hw9] at hl
    refine lv_iload_n hx hb dX4_deliveredNumber_0 rfl (lv_at hl 0 rfl) ?_
    refine lv_lookup (off := 29) (tgt := 30) hx hb dX4_deliveredNumber_1 (by decide +kernel) (by decide +kernel) (by decide) ?_
    refine lv_iconst (v := (nI (3))) hx hb dX4_deliveredNumber_30 (by decide) ?_
    refine j_iret hx hb hr hlocks hH hw dX4_deliveredNumber_31 ?_
    exact ⟨_, rfl, rfl, by rw [hw9]; rfl⟩

abbrev q_X4_delivered (g : jG) (H0 : Heap) (A : Nat) (k : Int32) (what : Int32) (tx : List Nat) (σ : Sg) (hi : List Sg) (sv : Nat → Option Sg) : Option Value → Heap → Prop := jN (fun r H1 => fDel σ k what = (0, r) ∧ CD g H1 A tx σ hi sv ∧ jF A 223 H0 H1)
abbrev x_X4_delivered (A : Nat) (k : Int32) (what : Int32) (tx : List Nat) (σ : Sg) (hi : List Sg) (sv : Nat → Option Sg) : String → Prop := fun E => ((fDel σ k what = (1, 0)) ∧ E = "java/lang/IllegalArgumentException")
set_option maxHeartbeats 4000000 in
set_option maxRecDepth 100000 in
theorem c_X4_delivered (l : Launch) (hl0 : l.stackTraces = false) (g : jG) (z : Nat) (H0 : Heap) (A : Nat) (k : Int32) (what : Int32) (tx : List Nat) (σ : Sg) (hi : List Sg) (sv : Nat → Option Sg) (hz : z ≤ A) (hCD : CD g H0 A tx σ hi sv) : jMX l g z yX4_delivered wsX4_delivered 6 82 [.ref A, .int k, .int what] H0 (q_X4_delivered g H0 A k what tx σ hi sv) (x_X4_delivered A k what tx σ hi sv) := by
  refine j_ofX (cc := cX4_delivered) (n := 3) (ret := some .int) (by decide) rfl (Nat.le_of_ble_eq_true rfl) ?_
  intro p e s m below meth c hx hb hr hml hown hts hlocks hname hH hw hE hex ls hl
  have hl : lv_has ls 3 [(0, .ref A), (1, .int k), (2, .int what)] := hl
  have hinX4 : ∀ w ∈ u_ws RX4 TX4 6, w ∈ wsX4_delivered := by decide +kernel
  have hinX2 : ∀ w ∈ u_ws RX2 TX2 9, w ∈ wsX4_delivered := by decide +kernel
  have hf : jF A 223 H0 H0 := jF.rf
  obtain ⟨τ, Rt, hO, hT, hS, hTr, hHi, hSl, hN⟩ := hCD
  obtain ⟨hs, hcalm, h20⟩ := id hN
  have hln := opnR_len (σ := σ)
  have hl21 := hs.2.2.1
  refine lv_iload_n hx hb dX4_delivered_0 rfl (lv_at hl 1 rfl) ?_
  refine lv_if_lt (tgt := 10) hx hb dX4_delivered_1 (by decide) (fun c1 => ?_) (fun c1 => ?_)
  · exact j_throw hl0 (cls := "java/lang/IllegalArgumentException") (text := "k is 0 to 9") (ik := 41) (is := 173) (ic := 45) hx hb hml hown hlocks hH hw hE hex (by decide +kernel) hts (by decide +kernel) (by decide +kernel) (by decide +kernel) (by decide +kernel) (by decide +kernel) vx_n41 vx_g41 hl.1 dX4_delivered_10 dX4_delivered_13 dX4_delivered_14 dX4_delivered_16 dX4_delivered_19 ⟨Nat.le_of_ble_eq_true rfl, Nat.le_of_ble_eq_true rfl, Nat.le_of_ble_eq_true rfl, Nat.le_of_ble_eq_true rfl⟩ (⟨(by first | simp only [fDel, ix_lt0 (n := 10) c1] | simp only [fDel, ix_ge (x := k) (n := 10) (by decide) (by first | exact c7 | exact Int32.not_lt.mp c7)]), rfl⟩)
  · refine lv_iload_n hx hb dX4_delivered_4 rfl (lv_at hl 1 rfl) ?_
    refine lv_bipush (v := (nI (10))) hx hb dX4_delivered_5 (by decide) ?_
    refine lv_icmp_lt (tgt := 20) hx hb dX4_delivered_7 (by decide) (fun c7 => ?_) (fun c7 => ?_)
    · obtain ⟨q, hq, -, hqn, rfl⟩ := ix_both (x := k) (n := 10) (by decide) c1 (by first | exact Int32.not_le.mpr c7 | exact fun q => absurd c7 (Int32.not_lt.mpr q))
      refine lv_iload_n hx hb dX4_delivered_20 rfl (lv_at hl 2 rfl) ?_
      refine j_Sp (n := 1) (As := [.int what]) hx hb hml hown hts hw (c_X4_isOrderNumber l g z H0 what   ) gX4_delivered_X4_isOrderNumber rfl (by decide +kernel) ⟨Nat.le_of_ble_eq_true rfl, Nat.le_of_ble_eq_true rfl⟩ rfl hl.1 (Nat.le_of_ble_eq_true rfl) ⟨Nat.zero_le _, Nat.zero_le _⟩ dX4_delivered_21 (fun r1 locs hr1 hw => ?_) rfl
      rcases hr1 with ⟨rfl, u, hu, hua, hun, rfl⟩ | ⟨rfl, hu⟩
      · refine jz_ne (tgt := 37) hx hb dX4_delivered_24 (by decide) (by omega) (fun c24 => ?_) (fun c24 => absurd c24 (by omega))
        refine lv_aload_n hx hb dX4_delivered_37 rfl (lv_at hl 0 rfl) ?_
        refine j_get (T := TX4) (N := 6) (k := 1) hx hb hts hinX4 hown hw hO rfl (by decide) (hts (.fieldLink RX4 19 "NightTrains" "now" "LNightTrains$Store;") (by decide +kernel)) rfl dX4_delivered_38 ?_
        obtain ⟨ses2, pus2, dts2, las2, frs2, tks2, cts2, hOs2, hses2, hpus2, hdts2, hlas2, hfrs2, htks2, hops2, hlts2, hcts2, hSs2⟩ := hS
        have hOs2 : jO g H0 (A + 3) 2 [.ref (A + 4), .ref (A + 5), .ref (A + 6), .ref (A + 7), .ref (A + 8), .ref (A + 9), .ref (A + 10), .ref (A + 12), .ref (A + 14)] := hOs2
        have hses2 : jI g H0 (A + 4) 5 ses2 := hses2
        have hpus2 : jI g H0 (A + 5) 4 pus2 := hpus2
        have hdts2 : jI g H0 (A + 6) 4 dts2 := hdts2
        have hlas2 : jI g H0 (A + 7) 4 las2 := hlas2
        have hfrs2 : jI g H0 (A + 8) 16 frs2 := hfrs2
        have htks2 : jI g H0 (A + 9) 16 tks2 := htks2
        have hcts2 : jI g H0 (A + 14) 11 cts2 := hcts2
        have hops2 : jOr g H0 (A + 10) (opnR σ) := hops2
        have hlts2 : jOr g H0 (A + 12) (latR σ) := hlts2
        refine j_get (T := TX2) (N := 9) (k := 7) hx hb hts hinX2 hown hw hOs2 rfl (by decide) (hts (.fieldLink RX4 175 "NightTrains$Store" "lately" "LNightTrains$Orders;") (by decide +kernel)) rfl dX4_delivered_41 ?_
        refine lv_aload_n hx hb dX4_delivered_44 rfl (lv_at hl 0 rfl) ?_
        refine j_get (T := TX4) (N := 6) (k := 1) hx hb hts hinX4 hown hw hO rfl (by decide) (hts (.fieldLink RX4 19 "NightTrains" "now" "LNightTrains$Store;") (by decide +kernel)) rfl dX4_delivered_45 ?_
        refine j_get (T := TX2) (N := 9) (k := 7) hx hb hts hinX2 hown hw hOs2 rfl (by decide) (hts (.fieldLink RX4 175 "NightTrains$Store" "lately" "LNightTrains$Orders;") (by decide +kernel)) rfl dX4_delivered_48 ?_
        refine j_Vp (n := 0) (As := []) hx hb hml hown hts hw (j_recv hw hlts2.1 rfl) (c_X1_size l g z H0 (A + 12) (latR σ) (by omega) hlts2 ) gX4_delivered_X1_size rfl (by decide +kernel) ⟨Nat.le_of_ble_eq_true rfl, Nat.le_of_ble_eq_true rfl⟩ rfl hl.1 (Nat.le_of_ble_eq_true rfl) ⟨Nat.zero_le _, Nat.zero_le _⟩ dX4_delivered_51 (fun r3 locs hr3 hw => ?_) rfl
        obtain rfl : r3 = (nI ((latR σ).length)) := hr3
        refine lv_iconst (v := (nI (1))) hx hb dX4_delivered_54 (by decide) ?_
        refine lv_isub hx hb dX4_delivered_55 ?_
        refine lv_iload_n hx hb dX4_delivered_56 rfl (lv_at hl 1 rfl) ?_
        refine lv_isub hx hb dX4_delivered_57 ?_
        refine lv_iload_n hx hb dX4_delivered_58 rfl (lv_at hl 2 rfl) ?_
        refine j_Sp (n := 1) (As := [.int (nI (u))]) hx hb hml hown hts hw (c_X4_deliveredNumber l g z H0 (u)   (by first | assumption | omega)) gX4_delivered_X4_deliveredNumber rfl (by decide +kernel) ⟨Nat.le_of_ble_eq_true rfl, Nat.le_of_ble_eq_true rfl⟩ rfl hl.1 (Nat.le_of_ble_eq_true rfl) ⟨Nat.zero_le _, Nat.zero_le _⟩ dX4_delivered_59 (fun r4 locs hr4 hw => ?_) rfl
        obtain rfl : r4 = (nI ((lw (u)))) := hr4
        refine j_Vp (n := 2) (As := [.int (((nI ((latR σ).length)) - (nI (1))) - (nI (q))), .int (nI ((lw (u))))]) hx hb hml hown hts hw (j_recv hw hlts2.1 rfl) (c_X1_get l g z H0 (A + 12) (((nI ((latR σ).length)) - (nI (1))) - (nI (q))) (nI ((lw (u)))) (latR σ) (by omega) hlts2 ) gX4_delivered_X1_get rfl (by decide +kernel) ⟨Nat.le_of_ble_eq_true rfl, Nat.le_of_ble_eq_true rfl⟩ rfl hl.1 (Nat.le_of_ble_eq_true rfl) ⟨Nat.zero_le _, Nat.zero_le _⟩ dX4_delivered_62 (fun r5 locs hr5 hw => ?_) rfl
        obtain rfl : r5 = (match σ.2.2.2[q]? with | some o => nI (o (lw u)) | none => -1) := hr5.trans (lat_get hs hqn hun)
        refine j_retX ?_
        refine j_iret hx hb hr hlocks hH hw dX4_delivered_65 ?_
        have hS6 : jSo g H0 (A + 3) σ (opnR σ) := ⟨ses2, pus2, dts2, las2, frs2, tks2, cts2, hOs2, hses2, hpus2, hdts2, hlas2, hfrs2, htks2, hops2, hlts2, hcts2, hSs2⟩
        have e9 : fDel σ (nI (q)) (nI (u)) = (0, (match σ.2.2.2[q]? with | some o => nI (o (lw u)) | none => -1)) := by simp only [fDel, hq, hu]; cases σ.2.2.2[q]? <;> rfl
        exact ⟨_, rfl, e9, ⟨_, _, hO, hT, hS6, hTr, hHi, hSl, hN⟩, hf⟩
      · refine jz_ne (tgt := 37) hx hb dX4_delivered_24 (by decide) (by omega) (fun c24 => absurd c24 (by omega)) (fun c24 => ?_)
        exact j_throw hl0 (cls := "java/lang/IllegalArgumentException") (text := "what is 0 to 4") (ik := 41) (is := 133) (ic := 45) hx hb hml hown hlocks hH hw hE hex (by decide +kernel) hts (by decide +kernel) (by decide +kernel) (by decide +kernel) (by decide +kernel) (by decide +kernel) vx_n41 vx_g41 hl.1 dX4_delivered_27 dX4_delivered_30 dX4_delivered_31 dX4_delivered_33 dX4_delivered_36 ⟨Nat.le_of_ble_eq_true rfl, Nat.le_of_ble_eq_true rfl, Nat.le_of_ble_eq_true rfl, Nat.le_of_ble_eq_true rfl⟩ (⟨(by simp only [fDel, hq, hu]), rfl⟩)
    · exact j_throw hl0 (cls := "java/lang/IllegalArgumentException") (text := "k is 0 to 9") (ik := 41) (is := 173) (ic := 45) hx hb hml hown hlocks hH hw hE hex (by decide +kernel) hts (by decide +kernel) (by decide +kernel) (by decide +kernel) (by decide +kernel) (by decide +kernel) vx_n41 vx_g41 hl.1 dX4_delivered_10 dX4_delivered_13 dX4_delivered_14 dX4_delivered_16 dX4_delivered_19 ⟨Nat.le_of_ble_eq_true rfl, Nat.le_of_ble_eq_true rfl, Nat.le_of_ble_eq_true rfl, Nat.le_of_ble_eq_true rfl⟩ (⟨(by first | simp only [fDel, ix_lt0 (n := 10) c1] | simp only [fDel, ix_ge (x := k) (n := 10) (by decide) (by first | exact c7 | exact Int32.not_lt.mp c7)]), rfl⟩)

abbrev q_X4_about (g : jG) (H0 : Heap) (A : Nat) (what : Int32) (tx : List Nat) (σ : Sg) (hi : List Sg) (sv : Nat → Option Sg) : Option Value → Heap → Prop := jN (fun r H1 => fAbout σ what = (0, r) ∧ CD g H1 A tx σ hi sv ∧ jF A 223 H0 H1)
abbrev x_X4_about (A : Nat) (what : Int32) (tx : List Nat) (σ : Sg) (hi : List Sg) (sv : Nat → Option Sg) : String → Prop := fun E => ((fAbout σ what = (1, 0)) ∧ E = "java/lang/IllegalArgumentException")
set_option maxHeartbeats 4000000 in
set_option maxRecDepth 100000 in
theorem c_X4_about (l : Launch) (hl0 : l.stackTraces = false) (g : jG) (z : Nat) (H0 : Heap) (A : Nat) (what : Int32) (tx : List Nat) (σ : Sg) (hi : List Sg) (sv : Nat → Option Sg) (hz : z ≤ A) (hCD : CD g H0 A tx σ hi sv) : jMX l g z yX4_about wsX4_about 6 82 [.ref A, .int what] H0 (q_X4_about g H0 A what tx σ hi sv) (x_X4_about A what tx σ hi sv) := by
  refine j_ofX (cc := cX4_about) (n := 2) (ret := some .int) (by decide) rfl (Nat.le_of_ble_eq_true rfl) ?_
  intro p e s m below meth c hx hb hr hml hown hts hlocks hname hH hw hE hex ls hl
  have hl : lv_has ls 2 [(0, .ref A), (1, .int what)] := hl
  have hinX4 : ∀ w ∈ u_ws RX4 TX4 6, w ∈ wsX4_about := by decide +kernel
  have hf : jF A 223 H0 H0 := jF.rf
  obtain ⟨τ, Rt, hO, hT, hS, hTr, hHi, hSl, hN⟩ := hCD
  obtain ⟨hs, hcalm, h20⟩ := id hN
  have hln := opnR_len (σ := σ)
  have hl21 := hs.2.2.1
  refine lv_iload_n hx hb dX4_about_0 rfl (lv_at hl 1 rfl) ?_
  refine lv_if_lt (tgt := 10) hx hb dX4_about_1 (by decide) (fun c1 => ?_) (fun c1 => ?_)
  · exact j_throw hl0 (cls := "java/lang/IllegalArgumentException") (text := "what is 0 to 10") (ik := 41) (is := 111) (ic := 45) hx hb hml hown hlocks hH hw hE hex (by decide +kernel) hts (by decide +kernel) (by decide +kernel) (by decide +kernel) (by decide +kernel) (by decide +kernel) vx_n41 vx_g41 hl.1 dX4_about_10 dX4_about_13 dX4_about_14 dX4_about_16 dX4_about_19 ⟨Nat.le_of_ble_eq_true rfl, Nat.le_of_ble_eq_true rfl, Nat.le_of_ble_eq_true rfl, Nat.le_of_ble_eq_true rfl⟩ (⟨(by first | simp only [fAbout, ix_lt0 (n := 11) c1] | simp only [fAbout, ix_ge (x := what) (n := 11) (by decide) (by first | exact c7 | exact Int32.not_lt.mp c7)]), rfl⟩)
  · refine lv_iload_n hx hb dX4_about_4 rfl (lv_at hl 1 rfl) ?_
    refine lv_bipush (v := (nI (11))) hx hb dX4_about_5 (by decide) ?_
    refine lv_icmp_lt (tgt := 20) hx hb dX4_about_7 (by decide) (fun c7 => ?_) (fun c7 => ?_)
    · obtain ⟨u, hu, -, hun, rfl⟩ := ix_both (x := what) (n := 11) (by decide) c1 (by first | exact Int32.not_le.mpr c7 | exact fun q => absurd c7 (Int32.not_lt.mpr q))
      refine lv_aload_n hx hb dX4_about_20 rfl (lv_at hl 0 rfl) ?_
      refine j_get (T := TX4) (N := 6) (k := 1) hx hb hts hinX4 hown hw hO rfl (by decide) (hts (.fieldLink RX4 19 "NightTrains" "now" "LNightTrains$Store;") (by decide +kernel)) rfl dX4_about_21 ?_
      refine lv_iload_n hx hb dX4_about_24 rfl (lv_at hl 1 rfl) ?_
      refine j_Vp (n := 1) (As := [.int (nI (u))]) hx hb hml hown hts hw (j_recv hw hS.obj rfl) (c_X2_number l g z H0 (A + 3) (u) σ (by omega) hS (by first | assumption | omega) (by first | assumption | omega)) gX4_about_X2_number rfl (by decide +kernel) ⟨Nat.le_of_ble_eq_true rfl, Nat.le_of_ble_eq_true rfl⟩ rfl hl.1 (Nat.le_of_ble_eq_true rfl) ⟨Nat.zero_le _, Nat.zero_le _⟩ dX4_about_25 (fun r1 locs hr1 hw => ?_) rfl
      obtain rfl : r1 = (nI ((abN σ (u)))) := hr1
      refine j_retX ?_
      refine j_iret hx hb hr hlocks hH hw dX4_about_28 ?_
      have e9 : fAbout σ (nI (u)) = (0, nI (abN σ u)) := by simp only [fAbout, hu]
      exact ⟨_, rfl, e9, ⟨_, _, hO, hT, hS, hTr, hHi, hSl, hN⟩, hf⟩
    · exact j_throw hl0 (cls := "java/lang/IllegalArgumentException") (text := "what is 0 to 10") (ik := 41) (is := 111) (ic := 45) hx hb hml hown hlocks hH hw hE hex (by decide +kernel) hts (by decide +kernel) (by decide +kernel) (by decide +kernel) (by decide +kernel) (by decide +kernel) vx_n41 vx_g41 hl.1 dX4_about_10 dX4_about_13 dX4_about_14 dX4_about_16 dX4_about_19 ⟨Nat.le_of_ble_eq_true rfl, Nat.le_of_ble_eq_true rfl, Nat.le_of_ble_eq_true rfl, Nat.le_of_ble_eq_true rfl⟩ (⟨(by first | simp only [fAbout, ix_lt0 (n := 11) c1] | simp only [fAbout, ix_ge (x := what) (n := 11) (by decide) (by first | exact c7 | exact Int32.not_lt.mp c7)]), rfl⟩)

abbrev q_X4_append (g : jG) (H0 : Heap) (A : Nat) (ac : Int32) (tx : List Nat) (σ : Sg) (hi : List Sg) (sv : Nat → Option Sg) : Option Value → Heap → Prop := jN (fun r H1 => fAppend tx ac = (0, r, (fAppend tx ac).2.2) ∧ CD g H1 A (fAppend tx ac).2.2 σ hi sv ∧ jF A 223 H0 H1)
abbrev x_X4_append (A : Nat) (ac : Int32) (tx : List Nat) (σ : Sg) (hi : List Sg) (sv : Nat → Option Sg) : String → Prop := fun E => ((fAppend tx ac = (1, 0, tx)) ∧ E = "java/lang/IllegalArgumentException") ∨ ((fAppend tx ac = (2, 0, tx)) ∧ E = "java/lang/IllegalStateException")
set_option maxHeartbeats 4000000 in
set_option maxRecDepth 100000 in
theorem c_X4_append (l : Launch) (hl0 : l.stackTraces = false) (g : jG) (z : Nat) (H0 : Heap) (A : Nat) (ac : Int32) (tx : List Nat) (σ : Sg) (hi : List Sg) (sv : Nat → Option Sg) (hz : z ≤ A) (hCD : CD g H0 A tx σ hi sv) : jMX l g z yX4_append wsX4_append 6 82 [.ref A, .int ac] H0 (q_X4_append g H0 A ac tx σ hi sv) (x_X4_append A ac tx σ hi sv) := by
  refine j_ofX (cc := cX4_append) (n := 2) (ret := some .int) (by decide) rfl (Nat.le_of_ble_eq_true rfl) ?_
  intro p e s m below meth c hx hb hr hml hown hts hlocks hname hH hw hE hex ls hl
  have hl : lv_has ls 2 [(0, .ref A), (1, .int ac)] := hl
  have hinX4 : ∀ w ∈ u_ws RX4 TX4 6, w ∈ wsX4_append := by decide +kernel
  have hf : jF A 223 H0 H0 := jF.rf
  obtain ⟨τ, Rt, hO, hT, hS, hTr, hHi, hSl, hN⟩ := hCD
  obtain ⟨hs, hcalm, h20⟩ := id hN
  have hln := opnR_len (σ := σ)
  have hl21 := hs.2.2.1
  have h120 := hT.len
  refine lv_iload_n hx hb dX4_append_0 rfl (lv_at hl 1 rfl) ?_
  refine lv_if_lt (tgt := 11) hx hb dX4_append_1 (by decide) (fun c1 => ?_) (fun c1 => ?_)
  · exact j_throw hl0 (cls := "java/lang/IllegalArgumentException") (text := "a character code is 0 to 255") (ik := 41) (is := 43) (ic := 45) hx hb hml hown hlocks hH hw hE hex (by decide +kernel) hts (by decide +kernel) (by decide +kernel) (by decide +kernel) (by decide +kernel) (by decide +kernel) vx_n41 vx_g41 hl.1 dX4_append_11 dX4_append_14 dX4_append_15 dX4_append_17 dX4_append_20 ⟨Nat.le_of_ble_eq_true rfl, Nat.le_of_ble_eq_true rfl, Nat.le_of_ble_eq_true rfl, Nat.le_of_ble_eq_true rfl⟩ (Or.inl ⟨(by first | simp only [fAppend, ix_lt0 (n := 256) c1] | simp only [fAppend, ix_hi (x := ac) (a := 0) (n := 255) (by decide) (by first | exact c8 | exact Int32.not_le.mp c8)]), rfl⟩)
  · refine lv_iload_n hx hb dX4_append_4 rfl (lv_at hl 1 rfl) ?_
    refine lv_sipush (v := (nI (255))) hx hb dX4_append_5 (by decide) ?_
    refine lv_icmp_le (tgt := 21) hx hb dX4_append_8 (by decide) (fun c8 => ?_) (fun c8 => ?_)
    · obtain ⟨k, hk, -, hkn, rfl⟩ := ix_both2 (x := ac) (n := 255) (by decide) c1 (by first | exact Int32.not_lt.mpr c8 | exact c8)
      refine lv_aload_n hx hb dX4_append_21 rfl (lv_at hl 0 rfl) ?_
      refine j_get (T := TX4) (N := 6) (k := 0) hx hb hts hinX4 hown hw hO rfl (by decide) (hts (.fieldLink RX4 10 "NightTrains" "text" "LNightTrains$Text;") (by decide +kernel)) rfl dX4_append_22 ?_
      refine j_Vp (n := 0) (As := []) hx hb hml hown hts hw (j_recv hw hT.obj rfl) (c_X3_isFull l g z H0 (A + 1) tx (by omega) hT ) gX4_append_X3_isFull rfl (by decide +kernel) ⟨Nat.le_of_ble_eq_true rfl, Nat.le_of_ble_eq_true rfl⟩ rfl hl.1 (Nat.le_of_ble_eq_true rfl) ⟨Nat.zero_le _, Nat.zero_le _⟩ dX4_append_25 (fun r1 locs hr1 hw => ?_) rfl
      rcases hr1 with ⟨rfl, hr1⟩ | ⟨rfl, hr1⟩
      · refine jz_eq (tgt := 41) hx hb dX4_append_28 (by decide) (by omega) (fun c28 => absurd c28 (by omega)) (fun c28 => ?_)
        exact j_throw hl0 (cls := "java/lang/IllegalStateException") (text := "the text is full") (ik := 52) (is := 54) (ic := 56) hx hb hml hown hlocks hH hw hE hex (by decide +kernel) hts (by decide +kernel) (by decide +kernel) (by decide +kernel) (by decide +kernel) (by decide +kernel) vx_n52 vx_g52 hl.1 dX4_append_31 dX4_append_34 dX4_append_35 dX4_append_37 dX4_append_40 ⟨Nat.le_of_ble_eq_true rfl, Nat.le_of_ble_eq_true rfl, Nat.le_of_ble_eq_true rfl, Nat.le_of_ble_eq_true rfl⟩ (Or.inr ⟨(by simp only [fAppend, hk]; exact if_pos (by omega)), rfl⟩)
      · refine jz_eq (tgt := 41) hx hb dX4_append_28 (by decide) (by omega) (fun c28 => ?_) (fun c28 => absurd c28 (by omega))
        refine lv_aload_n hx hb dX4_append_41 rfl (lv_at hl 0 rfl) ?_
        refine j_get (T := TX4) (N := 6) (k := 0) hx hb hts hinX4 hown hw hO rfl (by decide) (hts (.fieldLink RX4 10 "NightTrains" "text" "LNightTrains$Text;") (by decide +kernel)) rfl dX4_append_42 ?_
        refine lv_iload_n hx hb dX4_append_45 rfl (lv_at hl 1 rfl) ?_
        refine lv_i2c (v := nI (k)) hx hb dX4_append_46 (i2c_c _ (by omega)) ?_
        refine j_Vi (n := 1) (As := [.int (nI (k))]) hx hb hml hown hts hw (j_recv hw hT.obj rfl) (c_X3_add l g z H0 (A + 1) (k) tx (by omega) hT hkn hr1) gX4_append_X3_add rfl (by decide +kernel) ⟨Nat.le_of_ble_eq_true rfl, Nat.le_of_ble_eq_true rfl⟩ rfl hl.1 (Nat.le_of_ble_eq_true rfl) ⟨Nat.zero_le _, Nat.zero_le _⟩ dX4_append_47 (fun r2 H locs hr2 hw hsz => ?_) rfl
        obtain ⟨rfl, hT, hf2⟩ := hr2
        have hO := hO.kept (hf2.2 _ (by omega))
        have hS := hS.kept (fun q _ _ => hf2.2 q (by omega))
        have hTr := hTr.kept (fun q _ _ => hf2.2 q (by omega))
        have hHi := hHi.kept (fun q _ _ => hf2.2 q (by omega))
        have hSl := hSl.kept (fun q _ _ => hf2.2 q (by omega))
        have hf := hf.step hf2 (by omega)
        refine j_retX ?_
        refine j_iret hx hb hr hlocks hH hw dX4_append_50 ?_
        have e9 : fAppend tx (nI k) = (0, nI (tx.length + 1), tx ++ [k]) := by simp only [fAppend, hk]; exact if_neg (by omega)
        exact ⟨_, rfl, by rw [e9], by rw [e9]; exact ⟨_, _, hO, hT, hS, hTr, hHi, hSl, hN⟩, hf⟩
    · exact j_throw hl0 (cls := "java/lang/IllegalArgumentException") (text := "a character code is 0 to 255") (ik := 41) (is := 43) (ic := 45) hx hb hml hown hlocks hH hw hE hex (by decide +kernel) hts (by decide +kernel) (by decide +kernel) (by decide +kernel) (by decide +kernel) (by decide +kernel) vx_n41 vx_g41 hl.1 dX4_append_11 dX4_append_14 dX4_append_15 dX4_append_17 dX4_append_20 ⟨Nat.le_of_ble_eq_true rfl, Nat.le_of_ble_eq_true rfl, Nat.le_of_ble_eq_true rfl, Nat.le_of_ble_eq_true rfl⟩ (Or.inl ⟨(by first | simp only [fAppend, ix_lt0 (n := 256) c1] | simp only [fAppend, ix_hi (x := ac) (a := 0) (n := 255) (by decide) (by first | exact c8 | exact Int32.not_le.mp c8)]), rfl⟩)

abbrev q_X4_clearText (g : jG) (H0 : Heap) (A : Nat) (tx : List Nat) (σ : Sg) (hi : List Sg) (sv : Nat → Option Sg) : Option Value → Heap → Prop := jN (fun r H1 => r = nI tx.length ∧ CD g H1 A [] σ hi sv ∧ jF A 223 H0 H1)
set_option maxHeartbeats 4000000 in
set_option maxRecDepth 100000 in
theorem c_X4_clearText (l : Launch) (g : jG) (z : Nat) (H0 : Heap) (A : Nat) (tx : List Nat) (σ : Sg) (hi : List Sg) (sv : Nat → Option Sg) (hz : z ≤ A) (hCD : CD g H0 A tx σ hi sv) : jM l g z yX4_clearText wsX4_clearText 1 21 [.ref A] H0 (q_X4_clearText g H0 A tx σ hi sv) := by
  refine j_of (cc := cX4_clearText) (n := 1) (ret := some .int) (by decide) rfl (Nat.le_of_ble_eq_true rfl) ?_
  intro p e s m below meth c hx hb hr hml hown hts hlocks hname hH hw ls hl
  have hl : lv_has ls 1 [(0, .ref A)] := hl
  have hinX4 : ∀ w ∈ u_ws RX4 TX4 6, w ∈ wsX4_clearText := by decide +kernel
  have hf : jF A 223 H0 H0 := jF.rf
  obtain ⟨τ, Rt, hO, hT, hS, hTr, hHi, hSl, hN⟩ := hCD
  obtain ⟨hs, hcalm, h20⟩ := id hN
  have hln := opnR_len (σ := σ)
  have hl21 := hs.2.2.1
  refine lv_aload_n hx hb dX4_clearText_0 rfl (lv_at hl 0 rfl) ?_
  refine j_get (T := TX4) (N := 6) (k := 0) hx hb hts hinX4 hown hw hO rfl (by decide) (hts (.fieldLink RX4 10 "NightTrains" "text" "LNightTrains$Text;") (by decide +kernel)) rfl dX4_clearText_1 ?_
  refine j_Vi (n := 0) (As := []) hx hb hml hown hts hw (j_recv hw hT.obj rfl) (c_X3_empty l g z H0 (A + 1) tx (by omega) hT ) gX4_clearText_X3_empty rfl (by decide +kernel) ⟨Nat.le_of_ble_eq_true rfl, Nat.le_of_ble_eq_true rfl⟩ rfl hl.1 (Nat.le_of_ble_eq_true rfl) ⟨Nat.zero_le _, Nat.zero_le _⟩ dX4_clearText_4 (fun r1 H locs hr1 hw hsz => ?_) rfl
  obtain ⟨rfl, hT, hf2⟩ := hr1
  have hO := hO.kept (hf2.2 _ (by omega))
  have hS := hS.kept (fun q _ _ => hf2.2 q (by omega))
  have hTr := hTr.kept (fun q _ _ => hf2.2 q (by omega))
  have hHi := hHi.kept (fun q _ _ => hf2.2 q (by omega))
  have hSl := hSl.kept (fun q _ _ => hf2.2 q (by omega))
  have hf := hf.step hf2 (by omega)
  refine j_iret hx hb hr hlocks hH hw dX4_clearText_7 ?_
  exact ⟨_, rfl, rfl, ⟨_, _, hO, hT, hS, hTr, hHi, hSl, hN⟩, hf⟩

abbrev q_X4_errorPosition (g : jG) (H0 : Heap) (A : Nat) (tx : List Nat) (σ : Sg) (hi : List Sg) (sv : Nat → Option Sg) : Option Value → Heap → Prop := jN (fun r H1 => r = fErr tx ∧ CD g H1 A tx σ hi sv ∧ jF A 223 H0 H1)
set_option maxHeartbeats 4000000 in
set_option maxRecDepth 100000 in
theorem c_X4_errorPosition (l : Launch) (g : jG) (z : Nat) (H0 : Heap) (A : Nat) (tx : List Nat) (σ : Sg) (hi : List Sg) (sv : Nat → Option Sg) (hz : z ≤ A) (hCD : CD g H0 A tx σ hi sv) : jM l g z yX4_errorPosition wsX4_errorPosition 6 134 [.ref A] H0 (q_X4_errorPosition g H0 A tx σ hi sv) := by
  refine j_of (cc := cX4_errorPosition) (n := 1) (ret := some .int) (by decide) rfl (Nat.le_of_ble_eq_true rfl) ?_
  intro p e s m below meth c hx hb hr hml hown hts hlocks hname hH hw ls hl
  have hl : lv_has ls 1 [(0, .ref A)] := hl
  have hinX4 : ∀ w ∈ u_ws RX4 TX4 6, w ∈ wsX4_errorPosition := by decide +kernel
  have hf : jF A 223 H0 H0 := jF.rf
  obtain ⟨τ, Rt, hO, hT, hS, hTr, hHi, hSl, hN⟩ := hCD
  obtain ⟨hs, hcalm, h20⟩ := id hN
  have hln := opnR_len (σ := σ)
  have hl21 := hs.2.2.1
  refine lv_aload_n hx hb dX4_errorPosition_0 rfl (lv_at hl 0 rfl) ?_
  refine j_get (T := TX4) (N := 6) (k := 0) hx hb hts hinX4 hown hw hO rfl (by decide) (hts (.fieldLink RX4 10 "NightTrains" "text" "LNightTrains$Text;") (by decide +kernel)) rfl dX4_errorPosition_1 ?_
  refine j_Vp (n := 0) (As := []) hx hb hml hown hts hw (j_recv hw hT.obj rfl) (c_X3_firstWrong l g z H0 (A + 1) tx (by omega) hT ) gX4_errorPosition_X3_firstWrong rfl (by decide +kernel) ⟨Nat.le_of_ble_eq_true rfl, Nat.le_of_ble_eq_true rfl⟩ rfl hl.1 (Nat.le_of_ble_eq_true rfl) ⟨Nat.zero_le _, Nat.zero_le _⟩ dX4_errorPosition_4 (fun r1 locs hr1 hw => ?_) rfl
  obtain rfl : r1 = (fErr tx) := hr1
  refine j_iret hx hb hr hlocks hH hw dX4_errorPosition_7 ?_
  exact ⟨_, rfl, rfl, ⟨_, _, hO, hT, hS, hTr, hHi, hSl, hN⟩, hf⟩
