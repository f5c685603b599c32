abbrev q_X4_cancel (g : jG) (H0 : Heap) (A : Nat) (i : Int32) (tx : List Nat) (σ : Sg) (hi : List Sg) (sv : Nat → Option Sg) : Option Value → Heap → Prop := jN (fun r H1 => fCancel σ i = (0, r, (fCancel σ i).2.2) ∧ CD g H1 A tx (fCancel σ i).2.2 (pushH hi σ) sv ∧ jF A 223 H0 H1)
abbrev x_X4_cancel (A : Nat) (i : Int32) (tx : List Nat) (σ : Sg) (hi : List Sg) (sv : Nat → Option Sg) : String → Prop := fun E => ((fCancel σ i = (1, 0, σ)) ∧ E = "java/lang/IndexOutOfBoundsException")
set_option maxHeartbeats 4000000 in
set_option maxRecDepth 100000 in
theorem c_X4_cancel (l : Launch) (hl0 : l.stackTraces = false) (g : jG) (z : Nat) (H0 : Heap) (A : Nat) (i : Int32) (tx : List Nat) (σ : Sg) (hi : List Sg) (sv : Nat → Option Sg) (hz : z ≤ A) (hCD : CD g H0 A tx σ hi sv) : jMX l g z yX4_cancel wsX4_cancel 6 144 [.ref A, .int i] H0 (q_X4_cancel g H0 A i tx σ hi sv) (x_X4_cancel A i tx σ hi sv) := by
  refine j_ofX (cc := cX4_cancel) (n := 2) (ret := some .int) (by decide) rfl (Nat.le_of_ble_eq_true rfl) ?_
  intro p e s m below meth c hx hb hr hml hown hts hlocks hname hH hw hE hex ls hl
  have hl : lv_has ls 2 [(0, .ref A), (1, .int i)] := hl
  have hinX4 : ∀ w ∈ u_ws RX4 TX4 6, w ∈ wsX4_cancel := by decide +kernel
  have hinX2 : ∀ w ∈ u_ws RX2 TX2 9, w ∈ wsX4_cancel := by decide +kernel
  have hf : jF A 223 H0 H0 := jF.rf
  obtain ⟨τ, Rt, hO, hT, hS, hTr, hHi, hSl, hN⟩ := hCD
  obtain ⟨hs, hcalm, h20⟩ := id hN
  have hln := opnR_len (σ := σ)
  have hl21 := hs.2.2.1
  refine lv_aload_n hx hb dX4_cancel_0 rfl (lv_at hl 0 rfl) ?_
  refine j_get (T := TX4) (N := 6) (k := 1) hx hb hts hinX4 hown hw hO rfl (by decide) (hts (.fieldLink RX4 19 "NightTrains" "now" "LNightTrains$Store;") (by decide +kernel)) rfl dX4_cancel_1 ?_
  obtain ⟨ses1, pus1, dts1, las1, frs1, tks1, cts1, hOs1, hses1, hpus1, hdts1, hlas1, hfrs1, htks1, hops1, hlts1, hcts1, hSs1⟩ := hS
  have hOs1 : jO g H0 (A + 3) 2 [.ref (A + 4), .ref (A + 5), .ref (A + 6), .ref (A + 7), .ref (A + 8), .ref (A + 9), .ref (A + 10), .ref (A + 12), .ref (A + 14)] := hOs1
  have hses1 : jI g H0 (A + 4) 5 ses1 := hses1
  have hpus1 : jI g H0 (A + 5) 4 pus1 := hpus1
  have hdts1 : jI g H0 (A + 6) 4 dts1 := hdts1
  have hlas1 : jI g H0 (A + 7) 4 las1 := hlas1
  have hfrs1 : jI g H0 (A + 8) 16 frs1 := hfrs1
  have htks1 : jI g H0 (A + 9) 16 tks1 := htks1
  have hcts1 : jI g H0 (A + 14) 11 cts1 := hcts1
  have hops1 : jOr g H0 (A + 10) (opnR σ) := hops1
  have hlts1 : jOr g H0 (A + 12) (latR σ) := hlts1
  refine j_get (T := TX2) (N := 9) (k := 6) hx hb hts hinX2 hown hw hOs1 rfl (by decide) (hts (.fieldLink RX4 116 "NightTrains$Store" "open" "LNightTrains$Orders;") (by decide +kernel)) rfl dX4_cancel_4 ?_
  refine lv_iload_n hx hb dX4_cancel_7 rfl (lv_at hl 1 rfl) ?_
  refine j_Vp (n := 1) (As := [.int i]) hx hb hml hown hts hw (j_recv hw hops1.1 rfl) (c_X1_has l g z H0 (A + 10) i (opnR σ) (by omega) hops1 ) gX4_cancel_X1_has rfl (by decide +kernel) ⟨Nat.le_of_ble_eq_true rfl, Nat.le_of_ble_eq_true rfl⟩ rfl hl.1 (Nat.le_of_ble_eq_true rfl) ⟨Nat.zero_le _, Nat.zero_le _⟩ dX4_cancel_8 (fun r2 locs hr2 hw => ?_) rfl
  rw [hln] at hr2
  rcases hr2 with ⟨rfl, q, hq, hqa, hqn, rfl⟩ | ⟨rfl, hq⟩
  · refine jz_ne (tgt := 24) hx hb dX4_cancel_11 (by decide) (by omega) (fun c11 => ?_) (fun c11 => absurd c11 (by omega))
    obtain ⟨o, ho⟩ := getO hqn
    refine lv_aload_n hx hb dX4_cancel_24 rfl (lv_at hl 0 rfl) ?_
    refine j_get (T := TX4) (N := 6) (k := 3) hx hb hts hinX4 hown hw hO rfl (by decide) (hts (.fieldLink RX4 29 "NightTrains" "history" "LNightTrains$History;") (by decide +kernel)) rfl dX4_cancel_25 ?_
    refine lv_aload_n hx hb dX4_cancel_28 rfl (lv_at hl 0 rfl) ?_
    refine j_get (T := TX4) (N := 6) (k := 1) hx hb hts hinX4 hown hw hO rfl (by decide) (hts (.fieldLink RX4 19 "NightTrains" "now" "LNightTrains$Store;") (by decide +kernel)) rfl dX4_cancel_29 ?_
    have hS3 : jSo g H0 (A + 3) σ (opnR σ) := ⟨ses1, pus1, dts1, las1, frs1, tks1, cts1, hOs1, hses1, hpus1, hdts1, hlas1, hfrs1, htks1, hops1, hlts1, hcts1, hSs1⟩
    refine j_Vv (n := 1) (As := [.ref (A + 3)]) hx hb hml hown hts hw (hHi.obj.elim (fun _ h9 => j_recv hw h9 rfl)) (c_X0_remember l g z H0 (A + 27) (A + 3) hi σ (by omega) hHi hS3 (by omega) hN) gX4_cancel_X0_remember rfl (by decide +kernel) ⟨Nat.le_of_ble_eq_true rfl, Nat.le_of_ble_eq_true rfl⟩ rfl hl.1 (Nat.le_of_ble_eq_true rfl) ⟨Nat.zero_le _, Nat.zero_le _⟩ dX4_cancel_32 (fun H locs hr4 hw hsz => ?_) rfl
    obtain ⟨hHi, hf2⟩ := hr4
    have hO := hO.kept (hf2.2 _ (by omega))
    have hT := hT.kept (fun q _ _ => hf2.2 q (by omega))
    have hTr := hTr.kept (fun q _ _ => hf2.2 q (by omega))
    have hSl := hSl.kept (fun q _ _ => hf2.2 q (by omega))
    have hS3 := hS3.kept (fun q _ _ => hf2.2 q (by omega))
    have hf := hf.step hf2 (by omega)
    refine lv_aload_n hx hb dX4_cancel_35 rfl (lv_at hl 0 rfl) ?_
    refine j_get (T := TX4) (N := 6) (k := 1) hx hb hts hinX4 hown hw hO rfl (by decide) (hts (.fieldLink RX4 19 "NightTrains" "now" "LNightTrains$Store;") (by decide +kernel)) rfl dX4_cancel_36 ?_
    refine lv_iload_n hx hb dX4_cancel_39 rfl (lv_at hl 1 rfl) ?_
    refine j_Vi (n := 1) (As := [.int (nI (q))]) hx hb hml hown hts hw (j_recv hw hS3.obj rfl) (c_X2_drop l g z H (A + 3) (q) σ o (by omega) hS3 (by first | assumption | omega) ho) gX4_cancel_X2_drop rfl (by decide +kernel) ⟨Nat.le_of_ble_eq_true rfl, Nat.le_of_ble_eq_true rfl⟩ rfl hl.1 (Nat.le_of_ble_eq_true rfl) ⟨Nat.zero_le _, Nat.zero_le _⟩ dX4_cancel_40 (fun r5 H locs hr5 hw hsz => ?_) rfl
    obtain ⟨rfl, hr5⟩ := hr5
    obtain ⟨hS3, hf2⟩ := hr5
    have hO := hO.kept (hf2.2 _ (by omega))
    have hT := hT.kept (fun q _ _ => hf2.2 q (by omega))
    have hTr := hTr.kept (fun q _ _ => hf2.2 q (by omega))
    have hHi := hHi.kept (fun q _ _ => hf2.2 q (by omega))
    have hSl := hSl.kept (fun q _ _ => hf2.2 q (by omega))
    have hf := hf.step hf2 (by omega)
    refine j_retX ?_
    refine j_iret hx hb hr hlocks hH hw dX4_cancel_43 ?_
    have e9 : fCancel σ (nI (q)) = (0, nI (o 3), cancelS σ q o) := by simp only [fCancel, hq, ho]
    have hN9 : okN (cancelS σ q o) := hN.cancel (j := q) (o := o)
    exact ⟨_, rfl, by rw [e9]; try rfl, by rw [e9]; exact ⟨_, _, hO, hT, hS3, hTr, hHi, hSl, hN9⟩, hf⟩
  · refine jz_ne (tgt := 24) hx hb dX4_cancel_11 (by decide) (by omega) (fun c11 => absurd c11 (by omega)) (fun c11 => ?_)
    exact j_throw hl0 (cls := "java/lang/IndexOutOfBoundsException") (text := "no such open order") (ik := 125) (is := 127) (ic := 129) hx hb hml hown hlocks hH hw hE hex (by decide +kernel) hts (by decide +kernel) (by decide +kernel) (by decide +kernel) (by decide +kernel) (by decide +kernel) vx_n125 vx_g125 hl.1 dX4_cancel_14 dX4_cancel_17 dX4_cancel_18 dX4_cancel_20 dX4_cancel_23 ⟨Nat.le_of_ble_eq_true rfl, Nat.le_of_ble_eq_true rfl, Nat.le_of_ble_eq_true rfl, Nat.le_of_ble_eq_true rfl⟩ (⟨(by simp only [fCancel, hq]), rfl⟩)

abbrev q_X4_raise (g : jG) (H0 : Heap) (A : Nat) (i : Int32) (y : Int32) (tx : List Nat) (σ : Sg) (hi : List Sg) (sv : Nat → Option Sg) : Option Value → Heap → Prop := jN (fun r H1 => fRaise σ i y = (0, r, (fRaise σ i y).2.2) ∧ CD g H1 A tx (fRaise σ i y).2.2 (pushH hi σ) sv ∧ jF A 223 H0 H1)
abbrev x_X4_raise (A : Nat) (i : Int32) (y : Int32) (tx : List Nat) (σ : Sg) (hi : List Sg) (sv : Nat → Option Sg) : String → Prop := fun E => ((fRaise σ i y = (1, 0, σ)) ∧ E = "java/lang/IndexOutOfBoundsException") ∨ ((fRaise σ i y = (2, 0, σ)) ∧ E = "java/lang/IllegalArgumentException") ∨ ((fRaise σ i y = (3, 0, σ)) ∧ E = "java/lang/IllegalStateException")
set_option maxHeartbeats 4000000 in
set_option maxRecDepth 100000 in
theorem c_X4_raise (l : Launch) (hl0 : l.stackTraces = false) (g : jG) (z : Nat) (H0 : Heap) (A : Nat) (i : Int32) (y : Int32) (tx : List Nat) (σ : Sg) (hi : List Sg) (sv : Nat → Option Sg) (hz : z ≤ A) (hCD : CD g H0 A tx σ hi sv) : jMX l g z yX4_raise wsX4_raise 6 144 [.ref A, .int i, .int y] H0 (q_X4_raise g H0 A i y tx σ hi sv) (x_X4_raise A i y tx σ hi sv) := by
  refine j_ofX (cc := cX4_raise) (n := 3) (ret := some .int) (by decide) rfl (Nat.le_of_ble_eq_true rfl) ?_
  intro p e s m below meth c hx hb hr hml hown hts hlocks hname hH hw hE hex ls hl
  have hl : lv_has ls 3 [(0, .ref A), (1, .int i), (2, .int y)] := hl
  have hinX4 : ∀ w ∈ u_ws RX4 TX4 6, w ∈ wsX4_raise := by decide +kernel
  have hinX2 : ∀ w ∈ u_ws RX2 TX2 9, w ∈ wsX4_raise := by decide +kernel
  have hf : jF A 223 H0 H0 := jF.rf
  obtain ⟨τ, Rt, hO, hT, hS, hTr, hHi, hSl, hN⟩ := hCD
  obtain ⟨hs, hcalm, h20⟩ := id hN
  have hln := opnR_len (σ := σ)
  have hl21 := hs.2.2.1
  refine lv_aload_n hx hb dX4_raise_0 rfl (lv_at hl 0 rfl) ?_
  refine j_get (T := TX4) (N := 6) (k := 1) hx hb hts hinX4 hown hw hO rfl (by decide) (hts (.fieldLink RX4 19 "NightTrains" "now" "LNightTrains$Store;") (by decide +kernel)) rfl dX4_raise_1 ?_
  obtain ⟨ses1, pus1, dts1, las1, frs1, tks1, cts1, hOs1, hses1, hpus1, hdts1, hlas1, hfrs1, htks1, hops1, hlts1, hcts1, hSs1⟩ := hS
  have hOs1 : jO g H0 (A + 3) 2 [.ref (A + 4), .ref (A + 5), .ref (A + 6), .ref (A + 7), .ref (A + 8), .ref (A + 9), .ref (A + 10), .ref (A + 12), .ref (A + 14)] := hOs1
  have hses1 : jI g H0 (A + 4) 5 ses1 := hses1
  have hpus1 : jI g H0 (A + 5) 4 pus1 := hpus1
  have hdts1 : jI g H0 (A + 6) 4 dts1 := hdts1
  have hlas1 : jI g H0 (A + 7) 4 las1 := hlas1
  have hfrs1 : jI g H0 (A + 8) 16 frs1 := hfrs1
  have htks1 : jI g H0 (A + 9) 16 tks1 := htks1
  have hcts1 : jI g H0 (A + 14) 11 cts1 := hcts1
  have hops1 : jOr g H0 (A + 10) (opnR σ) := hops1
  have hlts1 : jOr g H0 (A + 12) (latR σ) := hlts1
  refine j_get (T := TX2) (N := 9) (k := 6) hx hb hts hinX2 hown hw hOs1 rfl (by decide) (hts (.fieldLink RX4 116 "NightTrains$Store" "open" "LNightTrains$Orders;") (by decide +kernel)) rfl dX4_raise_4 ?_
  refine lv_iload_n hx hb dX4_raise_7 rfl (lv_at hl 1 rfl) ?_
  refine j_Vp (n := 1) (As := [.int i]) hx hb hml hown hts hw (j_recv hw hops1.1 rfl) (c_X1_has l g z H0 (A + 10) i (opnR σ) (by omega) hops1 ) gX4_raise_X1_has rfl (by decide +kernel) ⟨Nat.le_of_ble_eq_true rfl, Nat.le_of_ble_eq_true rfl⟩ rfl hl.1 (Nat.le_of_ble_eq_true rfl) ⟨Nat.zero_le _, Nat.zero_le _⟩ dX4_raise_8 (fun r2 locs hr2 hw => ?_) rfl
  rw [hln] at hr2
  rcases hr2 with ⟨rfl, q, hq, hqa, hqn, rfl⟩ | ⟨rfl, hq⟩
  · refine jz_ne (tgt := 24) hx hb dX4_raise_11 (by decide) (by omega) (fun c11 => ?_) (fun c11 => absurd c11 (by omega))
    refine lv_iload_n hx hb dX4_raise_24 rfl (lv_at hl 2 rfl) ?_
    refine j_Sp (n := 1) (As := [.int y]) hx hb hml hown hts hw (c_X4_isRaise l g z H0 y   ) gX4_raise_X4_isRaise rfl (by decide +kernel) ⟨Nat.le_of_ble_eq_true rfl, Nat.le_of_ble_eq_true rfl⟩ rfl hl.1 (Nat.le_of_ble_eq_true rfl) ⟨Nat.zero_le _, Nat.zero_le _⟩ dX4_raise_25 (fun r3 locs hr3 hw => ?_) rfl
    rcases hr3 with ⟨rfl, u, hu, hua, hun, rfl⟩ | ⟨rfl, hu⟩
    · refine jz_ne (tgt := 41) hx hb dX4_raise_28 (by decide) (by omega) (fun c28 => ?_) (fun c28 => absurd c28 (by omega))
      obtain ⟨o, ho⟩ := getO hqn
      refine lv_aload_n hx hb dX4_raise_41 rfl (lv_at hl 0 rfl) ?_
      refine j_get (T := TX4) (N := 6) (k := 1) hx hb hts hinX4 hown hw hO rfl (by decide) (hts (.fieldLink RX4 19 "NightTrains" "now" "LNightTrains$Store;") (by decide +kernel)) rfl dX4_raise_42 ?_
      refine lv_iload_n hx hb dX4_raise_45 rfl (lv_at hl 1 rfl) ?_
      refine lv_iload_n hx hb dX4_raise_46 rfl (lv_at hl 2 rfl) ?_
      have hS4 : jSo g H0 (A + 3) σ (opnR σ) := ⟨ses1, pus1, dts1, las1, frs1, tks1, cts1, hOs1, hses1, hpus1, hdts1, hlas1, hfrs1, htks1, hops1, hlts1, hcts1, hSs1⟩
      refine j_Vp (n := 2) (As := [.int (nI (q)), .int (nI (u))]) hx hb hml hown hts hw (j_recv hw hS4.obj rfl) (c_X2_takesRaise l g z H0 (A + 3) (q) (u) σ o (by omega) hS4 (by first | assumption | omega) ho (by omega)) gX4_raise_X2_takesRaise rfl (by decide +kernel) ⟨Nat.le_of_ble_eq_true rfl, Nat.le_of_ble_eq_true rfl⟩ rfl hl.1 (Nat.le_of_ble_eq_true rfl) ⟨Nat.zero_le _, Nat.zero_le _⟩ dX4_raise_47 (fun r5 locs hcr hw => ?_) rfl
      rcases hcr with ⟨rfl, hcr⟩ | ⟨rfl, hcr⟩
      · refine jz_ne (tgt := 63) hx hb dX4_raise_50 (by decide) (by omega) (fun c50 => ?_) (fun c50 => absurd c50 (by omega))
        have hcr1 := hcr.1
        refine lv_aload_n hx hb dX4_raise_63 rfl (lv_at hl 0 rfl) ?_
        refine j_get (T := TX4) (N := 6) (k := 3) hx hb hts hinX4 hown hw hO rfl (by decide) (hts (.fieldLink RX4 29 "NightTrains" "history" "LNightTrains$History;") (by decide +kernel)) rfl dX4_raise_64 ?_
        refine lv_aload_n hx hb dX4_raise_67 rfl (lv_at hl 0 rfl) ?_
        refine j_get (T := TX4) (N := 6) (k := 1) hx hb hts hinX4 hown hw hO rfl (by decide) (hts (.fieldLink RX4 19 "NightTrains" "now" "LNightTrains$Store;") (by decide +kernel)) rfl dX4_raise_68 ?_
        refine j_Vv (n := 1) (As := [.ref (A + 3)]) hx hb hml hown hts hw (hHi.obj.elim (fun _ h9 => j_recv hw h9 rfl)) (c_X0_remember l g z H0 (A + 27) (A + 3) hi σ (by omega) hHi hS4 (by omega) hN) gX4_raise_X0_remember rfl (by decide +kernel) ⟨Nat.le_of_ble_eq_true rfl, Nat.le_of_ble_eq_true rfl⟩ rfl hl.1 (Nat.le_of_ble_eq_true rfl) ⟨Nat.zero_le _, Nat.zero_le _⟩ dX4_raise_71 (fun H locs hr6 hw hsz => ?_) rfl
        obtain ⟨hHi, hf2⟩ := hr6
        have hO := hO.kept (hf2.2 _ (by omega))
        have hT := hT.kept (fun q _ _ => hf2.2 q (by omega))
        have hTr := hTr.kept (fun q _ _ => hf2.2 q (by omega))
        have hSl := hSl.kept (fun q _ _ => hf2.2 q (by omega))
        have hS4 := hS4.kept (fun q _ _ => hf2.2 q (by omega))
        have hf := hf.step hf2 (by omega)
        refine lv_aload_n hx hb dX4_raise_74 rfl (lv_at hl 0 rfl) ?_
        refine j_get (T := TX4) (N := 6) (k := 1) hx hb hts hinX4 hown hw hO rfl (by decide) (hts (.fieldLink RX4 19 "NightTrains" "now" "LNightTrains$Store;") (by decide +kernel)) rfl dX4_raise_75 ?_
        refine lv_iload_n hx hb dX4_raise_78 rfl (lv_at hl 1 rfl) ?_
        refine lv_iload_n hx hb dX4_raise_79 rfl (lv_at hl 2 rfl) ?_
        refine j_Vi (n := 2) (As := [.int (nI (q)), .int (nI (u))]) hx hb hml hown hts hw (j_recv hw hS4.obj rfl) (c_X2_lift l g z H (A + 3) (q) (u) σ o (by omega) hS4 (by first | assumption | omega) ho) gX4_raise_X2_lift rfl (by decide +kernel) ⟨Nat.le_of_ble_eq_true rfl, Nat.le_of_ble_eq_true rfl⟩ rfl hl.1 (Nat.le_of_ble_eq_true rfl) ⟨Nat.zero_le _, Nat.zero_le _⟩ dX4_raise_80 (fun r7 H locs hr7 hw hsz => ?_) rfl
        obtain ⟨rfl, hr7⟩ := hr7
        obtain ⟨hS4, hf2⟩ := hr7
        have hO := hO.kept (hf2.2 _ (by omega))
        have hT := hT.kept (fun q _ _ => hf2.2 q (by omega))
        have hTr := hTr.kept (fun q _ _ => hf2.2 q (by omega))
        have hHi := hHi.kept (fun q _ _ => hf2.2 q (by omega))
        have hSl := hSl.kept (fun q _ _ => hf2.2 q (by omega))
        have hf := hf.step hf2 (by omega)
        refine j_retX ?_
        refine j_iret hx hb hr hlocks hH hw dX4_raise_83 ?_
        have e9 : fRaise σ (nI (q)) (nI (u)) = (0, nI (o 3 + u), raiseS σ q o u) := by simp only [fRaise, hq, hu, ho]; exact if_pos hcr
        have hN9 : okN (raiseS σ q o u) := hN.raise ho hcr1
        exact ⟨_, rfl, by rw [e9]; try rfl, by rw [e9]; exact ⟨_, _, hO, hT, hS4, hTr, hHi, hSl, hN9⟩, hf⟩
      · refine jz_ne (tgt := 63) hx hb dX4_raise_50 (by decide) (by omega) (fun c50 => absurd c50 (by omega)) (fun c50 => ?_)
        exact j_throw hl0 (cls := "java/lang/IllegalStateException") (text := "the fee would be above 9, or too little is in the purse") (ik := 52) (is := 226) (ic := 56) hx hb hml hown hlocks hH hw hE hex (by decide +kernel) hts (by decide +kernel) (by decide +kernel) (by decide +kernel) (by decide +kernel) (by decide +kernel) vx_n52 vx_g52 hl.1 dX4_raise_53 dX4_raise_56 dX4_raise_57 dX4_raise_59 dX4_raise_62 ⟨Nat.le_of_ble_eq_true rfl, Nat.le_of_ble_eq_true rfl, Nat.le_of_ble_eq_true rfl, Nat.le_of_ble_eq_true rfl⟩ (Or.inr (Or.inr ⟨(by simp only [fRaise, hq, hu, ho]; exact if_neg hcr), rfl⟩))
    · refine jz_ne (tgt := 41) hx hb dX4_raise_28 (by decide) (by omega) (fun c28 => absurd c28 (by omega)) (fun c28 => ?_)
      exact j_throw hl0 (cls := "java/lang/IllegalArgumentException") (text := "by is 1 to 9") (ik := 41) (is := 220) (ic := 45) hx hb hml hown hlocks hH hw hE hex (by decide +kernel) hts (by decide +kernel) (by decide +kernel) (by decide +kernel) (by decide +kernel) (by decide +kernel) vx_n41 vx_g41 hl.1 dX4_raise_31 dX4_raise_34 dX4_raise_35 dX4_raise_37 dX4_raise_40 ⟨Nat.le_of_ble_eq_true rfl, Nat.le_of_ble_eq_true rfl, Nat.le_of_ble_eq_true rfl, Nat.le_of_ble_eq_true rfl⟩ (Or.inr (Or.inl ⟨(by simp only [fRaise, hq, hu]), rfl⟩))
  · refine jz_ne (tgt := 24) hx hb dX4_raise_11 (by decide) (by omega) (fun c11 => absurd c11 (by omega)) (fun c11 => ?_)
    exact j_throw hl0 (cls := "java/lang/IndexOutOfBoundsException") (text := "no such open order") (ik := 125) (is := 127) (ic := 129) hx hb hml hown hlocks hH hw hE hex (by decide +kernel) hts (by decide +kernel) (by decide +kernel) (by decide +kernel) (by decide +kernel) (by decide +kernel) vx_n125 vx_g125 hl.1 dX4_raise_14 dX4_raise_17 dX4_raise_18 dX4_raise_20 dX4_raise_23 ⟨Nat.le_of_ble_eq_true rfl, Nat.le_of_ble_eq_true rfl, Nat.le_of_ble_eq_true rfl, Nat.le_of_ble_eq_true rfl⟩ (Or.inl ⟨(by simp only [fRaise, hq]), rfl⟩)

abbrev q_X4_nights (g : jG) (H0 : Heap) (A : Nat) (n : Int32) (tx : List Nat) (σ : Sg) (hi : List Sg) (sv : Nat → Option Sg) (K : Nat) : Option Value → Heap → Prop := jN (fun r H1 => fNights σ n = (0, r, (fNights σ n).2.2) ∧ CD g H1 A tx (fNights σ n).2.2 (pushH hi σ) sv ∧ jF A 223 H0 H1)
abbrev x_X4_nights (A : Nat) (n : Int32) (tx : List Nat) (σ : Sg) (hi : List Sg) (sv : Nat → Option Sg) (K : Nat) : String → Prop := fun E => ((fNights σ n = (1, 0, σ)) ∧ E = "java/lang/IllegalArgumentException")
set_option maxHeartbeats 4000000 in
set_option maxRecDepth 100000 in
theorem c_X4_nights (l : Launch) (hl0 : l.stackTraces = false) (g : jG) (z : Nat) (H0 : Heap) (A : Nat) (n : Int32) (tx : List Nat) (σ : Sg) (hi : List Sg) (sv : Nat → Option Sg) (K : Nat) (hz : z ≤ A) (hCD : CD g H0 A tx σ hi sv) (hlim : lim K σ) (hK : K < 2 ^ 29) : jMX l g z yX4_nights wsX4_nights 7 174 [.ref A, .int n] H0 (q_X4_nights g H0 A n tx σ hi sv K) (x_X4_nights A n tx σ hi sv K) := by
  refine j_ofX (cc := cX4_nights) (n := 3) (ret := some .int) (by decide) rfl (Nat.le_of_ble_eq_true rfl) ?_
  intro p e s m below meth c hx hb hr hml hown hts hlocks hname hH hw hE hex ls hl
  have hl : lv_has ls 3 [(0, .ref A), (1, .int n)] := hl
  have hinX4 : ∀ w ∈ u_ws RX4 TX4 6, w ∈ wsX4_nights := by decide +kernel
  have hf : jF A 223 H0 H0 := jF.rf
  obtain ⟨τ, Rt, hO, hT, hS, hTr, hHi, hSl, hN⟩ := hCD
  obtain ⟨hs, hcalm, h20⟩ := id hN
  have hln := opnR_len (σ := σ)
  have hl21 := hs.2.2.1
  obtain ⟨hk7, hk10, hk12, hk30⟩ := id hlim
  refine lv_iload_n hx hb dX4_nights_0 rfl (lv_at hl 1 rfl) ?_
  refine j_Sp (n := 1) (As := [.int n]) hx hb hml hown hts hw (c_X4_isNights l g z H0 n   ) gX4_nights_X4_isNights rfl (by decide +kernel) ⟨Nat.le_of_ble_eq_true rfl, Nat.le_of_ble_eq_true rfl⟩ rfl hl.1 (Nat.le_of_ble_eq_true rfl) ⟨Nat.zero_le _, Nat.zero_le _⟩ dX4_nights_1 (fun r1 locs hr1 hw => ?_) rfl
  rcases hr1 with ⟨rfl, k, hk, hka, hkn, rfl⟩ | ⟨rfl, hk⟩
  · refine jz_ne (tgt := 17) hx hb dX4_nights_4 (by decide) (by omega) (fun c4 => ?_) (fun c4 => absurd c4 (by omega))
    refine lv_aload_n hx hb dX4_nights_17 rfl (lv_at hl 0 rfl) ?_
    refine j_get (T := TX4) (N := 6) (k := 3) hx hb hts hinX4 hown hw hO rfl (by decide) (hts (.fieldLink RX4 29 "NightTrains" "history" "LNightTrains$History;") (by decide +kernel)) rfl dX4_nights_18 ?_
    refine lv_aload_n hx hb dX4_nights_21 rfl (lv_at hl 0 rfl) ?_
    refine j_get (T := TX4) (N := 6) (k := 1) hx hb hts hinX4 hown hw hO rfl (by decide) (hts (.fieldLink RX4 19 "NightTrains" "now" "LNightTrains$Store;") (by decide +kernel)) rfl dX4_nights_22 ?_
    refine j_Vv (n := 1) (As := [.ref (A + 3)]) hx hb hml hown hts hw (hHi.obj.elim (fun _ h9 => j_recv hw h9 rfl)) (c_X0_remember l g z H0 (A + 27) (A + 3) hi σ (by omega) hHi hS (by omega) hN) gX4_nights_X0_remember rfl (by decide +kernel) ⟨Nat.le_of_ble_eq_true rfl, Nat.le_of_ble_eq_true rfl⟩ rfl hl.1 (Nat.le_of_ble_eq_true rfl) ⟨Nat.zero_le _, Nat.zero_le _⟩ dX4_nights_25 (fun H locs hr2 hw hsz => ?_) rfl
    obtain ⟨hHi, hf2⟩ := hr2
    have hO := hO.kept (hf2.2 _ (by omega))
    have hT := hT.kept (fun q _ _ => hf2.2 q (by omega))
    have hS := hS.kept (fun q _ _ => hf2.2 q (by omega))
    have hTr := hTr.kept (fun q _ _ => hf2.2 q (by omega))
    have hSl := hSl.kept (fun q _ _ => hf2.2 q (by omega))
    have hf := hf.step hf2 (by omega)
    refine lv_aload_n hx hb dX4_nights_28 rfl (lv_at hl 0 rfl) ?_
    refine j_get (T := TX4) (N := 6) (k := 1) hx hb hts hinX4 hown hw hO rfl (by decide) (hts (.fieldLink RX4 19 "NightTrains" "now" "LNightTrains$Store;") (by decide +kernel)) rfl dX4_nights_29 ?_
    refine lv_iconst (v := (nI (2))) hx hb dX4_nights_32 (by decide) ?_
    refine j_Vp (n := 1) (As := [.int (nI (2))]) hx hb hml hown hts hw (j_recv hw hS.obj rfl) (c_X2_number l g z H (A + 3) (2) σ (by omega) hS (by first | assumption | omega) (by first | assumption | omega)) gX4_nights_X2_number rfl (by decide +kernel) ⟨Nat.le_of_ble_eq_true rfl, Nat.le_of_ble_eq_true rfl⟩ rfl hl.1 (Nat.le_of_ble_eq_true rfl) ⟨Nat.zero_le _, Nat.zero_le _⟩ dX4_nights_33 (fun r3 locs hr3 hw => ?_) rfl
    obtain rfl : r3 = (nI ((σ.1 7))) := hr3.trans rfl
    refine lv_istore_n (lv' := [(2, .int _), (0, .ref _), (1, .int _)]) hx hb dX4_nights_36 rfl hl (by decide) rfl (fun ls hl => ?_)
    refine lv_aload_n hx hb dX4_nights_37 rfl (lv_at hl 1 rfl) ?_
    refine j_get (T := TX4) (N := 6) (k := 1) hx hb hts hinX4 hown hw hO rfl (by decide) (hts (.fieldLink RX4 19 "NightTrains" "now" "LNightTrains$Store;") (by decide +kernel)) rfl dX4_nights_38 ?_
    refine lv_iload_n hx hb dX4_nights_41 rfl (lv_at hl 2 rfl) ?_
    refine j_Vv (n := 1) (As := [.int (nI (k))]) hx hb hml hown hts hw (j_recv hw hS.obj rfl) (c_X2_passNights l g z H (A + 3) (k) σ (by omega) hS (by first | assumption | omega) hcalm (by omega) (by omega)) gX4_nights_X2_passNights rfl (by decide +kernel) ⟨Nat.le_of_ble_eq_true rfl, Nat.le_of_ble_eq_true rfl⟩ rfl hl.1 (Nat.le_of_ble_eq_true rfl) ⟨Nat.zero_le _, Nat.zero_le _⟩ dX4_nights_42 (fun H locs hr4 hw hsz => ?_) rfl
    obtain ⟨hS, hf2⟩ := hr4
    have hO := hO.kept (hf2.2 _ (by omega))
    have hT := hT.kept (fun q _ _ => hf2.2 q (by omega))
    have hTr := hTr.kept (fun q _ _ => hf2.2 q (by omega))
    have hHi := hHi.kept (fun q _ _ => hf2.2 q (by omega))
    have hSl := hSl.kept (fun q _ _ => hf2.2 q (by omega))
    have hf := hf.step hf2 (by omega)
    refine lv_aload_n hx hb dX4_nights_45 rfl (lv_at hl 1 rfl) ?_
    refine j_get (T := TX4) (N := 6) (k := 1) hx hb hts hinX4 hown hw hO rfl (by decide) (hts (.fieldLink RX4 19 "NightTrains" "now" "LNightTrains$Store;") (by decide +kernel)) rfl dX4_nights_46 ?_
    refine lv_iconst (v := (nI (2))) hx hb dX4_nights_49 (by decide) ?_
    refine j_Vp (n := 1) (As := [.int (nI (2))]) hx hb hml hown hts hw (j_recv hw hS.obj rfl) (c_X2_number l g z H (A + 3) (2) (nightsS (k) σ) (by omega) hS (okS_nights hs k) (by first | assumption | omega)) gX4_nights_X2_number rfl (by decide +kernel) ⟨Nat.le_of_ble_eq_true rfl, Nat.le_of_ble_eq_true rfl⟩ rfl hl.1 (Nat.le_of_ble_eq_true rfl) ⟨Nat.zero_le _, Nat.zero_le _⟩ dX4_nights_50 (fun r5 locs hr5 hw => ?_) rfl
    obtain rfl : r5 = (nI (((nightsS k σ).1 7))) := hr5.trans rfl
    refine lv_iload_n hx hb dX4_nights_53 rfl (lv_at hl 0 rfl) ?_
    refine lv_isub hx hb dX4_nights_54 ?_
    refine j_retX ?_
    refine j_iret hx hb hr hlocks hH hw dX4_nights_55 ?_
    have e9 : fNights σ (nI (k)) = (0, nI ((nightsS k σ).1 7) - nI (σ.1 7), nightsS k σ) := by simp only [fNights, hk]
    have hN9 : okN (nightsS k σ) := hN.nights k
    exact ⟨_, rfl, by rw [e9]; try rfl, by rw [e9]; exact ⟨_, _, hO, hT, hS, hTr, hHi, hSl, hN9⟩, hf⟩
  · refine jz_ne (tgt := 17) hx hb dX4_nights_4 (by decide) (by omega) (fun c4 => absurd c4 (by omega)) (fun c4 => ?_)
    exact j_throw hl0 (cls := "java/lang/IllegalArgumentException") (text := "n is 1 to 30") (ik := 41) (is := 234) (ic := 45) hx hb hml hown hlocks hH hw hE hex (by decide +kernel) hts (by decide +kernel) (by decide +kernel) (by decide +kernel) (by decide +kernel) (by decide +kernel) vx_n41 vx_g41 hl.1 dX4_nights_7 dX4_nights_10 dX4_nights_11 dX4_nights_13 dX4_nights_16 ⟨Nat.le_of_ble_eq_true rfl, Nat.le_of_ble_eq_true rfl, Nat.le_of_ble_eq_true rfl, Nat.le_of_ble_eq_true rfl⟩ (⟨(by simp only [fNights, hk]), rfl⟩)

abbrev q_X4_give (g : jG) (H0 : Heap) (A : Nat) (cu : Int32) (v : Int32) (tx : List Nat) (σ : Sg) (hi : List Sg) (sv : Nat → Option Sg) : Option Value → Heap → Prop := jN (fun r H1 => fGive σ cu v = (0, r, (fGive σ cu v).2.2) ∧ CD g H1 A tx (fGive σ cu v).2.2 (pushH hi σ) sv ∧ jF A 223 H0 H1)
abbrev x_X4_give (A : Nat) (cu : Int32) (v : Int32) (tx : List Nat) (σ : Sg) (hi : List Sg) (sv : Nat → Option Sg) : String → Prop := fun E => ((fGive σ cu v = (1, 0, σ)) ∧ E = "java/lang/IndexOutOfBoundsException") ∨ ((fGive σ cu v = (2, 0, σ)) ∧ E = "java/lang/IllegalArgumentException")
set_option maxHeartbeats 4000000 in
set_option maxRecDepth 100000 in
theorem c_X4_give (l : Launch) (hl0 : l.stackTraces = false) (g : jG) (z : Nat) (H0 : Heap) (A : Nat) (cu : Int32) (v : Int32) (tx : List Nat) (σ : Sg) (hi : List Sg) (sv : Nat → Option Sg) (hz : z ≤ A) (hCD : CD g H0 A tx σ hi sv) : jMX l g z yX4_give wsX4_give 6 144 [.ref A, .int cu, .int v] H0 (q_X4_give g H0 A cu v tx σ hi sv) (x_X4_give A cu v tx σ hi sv) := by
  refine j_ofX (cc := cX4_give) (n := 3) (ret := some .int) (by decide) rfl (Nat.le_of_ble_eq_true rfl) ?_
  intro p e s m below meth c hx hb hr hml hown hts hlocks hname hH hw hE hex ls hl
  have hl : lv_has ls 3 [(0, .ref A), (1, .int cu), (2, .int v)] := hl
  have hinX4 : ∀ w ∈ u_ws RX4 TX4 6, w ∈ wsX4_give := by decide +kernel
  have hinX2 : ∀ w ∈ u_ws RX2 TX2 9, w ∈ wsX4_give := by decide +kernel
  have hf : jF A 223 H0 H0 := jF.rf
  obtain ⟨τ, Rt, hO, hT, hS, hTr, hHi, hSl, hN⟩ := hCD
  obtain ⟨hs, hcalm, h20⟩ := id hN
  have hln := opnR_len (σ := σ)
  have hl21 := hs.2.2.1
  refine lv_iload_n hx hb dX4_give_0 rfl (lv_at hl 1 rfl) ?_
  refine j_Sp (n := 1) (As := [.int cu]) hx hb hml hown hts hw (c_X4_isReader l g z H0 cu   ) gX4_give_X4_isReader rfl (by decide +kernel) ⟨Nat.le_of_ble_eq_true rfl, Nat.le_of_ble_eq_true rfl⟩ rfl hl.1 (Nat.le_of_ble_eq_true rfl) ⟨Nat.zero_le _, Nat.zero_le _⟩ dX4_give_1 (fun r1 locs hr1 hw => ?_) rfl
  rcases hr1 with ⟨rfl, k, hk, hka, hkn, rfl⟩ | ⟨rfl, hk⟩
  · refine jz_ne (tgt := 17) hx hb dX4_give_4 (by decide) (by omega) (fun c4 => ?_) (fun c4 => absurd c4 (by omega))
    refine lv_iload_n hx hb dX4_give_17 rfl (lv_at hl 2 rfl) ?_
    refine lv_iconst (v := (nI (1))) hx hb dX4_give_18 (by decide) ?_
    refine lv_icmp_lt (tgt := 28) hx hb dX4_give_19 (by decide) (fun c19 => ?_) (fun c19 => ?_)
    · exact j_throw hl0 (cls := "java/lang/IllegalArgumentException") (text := "v is 1 to 100") (ik := 41) (is := 236) (ic := 45) hx hb hml hown hlocks hH hw hE hex (by decide +kernel) hts (by decide +kernel) (by decide +kernel) (by decide +kernel) (by decide +kernel) (by decide +kernel) vx_n41 vx_g41 hl.1 dX4_give_28 dX4_give_31 dX4_give_32 dX4_give_34 dX4_give_37 ⟨Nat.le_of_ble_eq_true rfl, Nat.le_of_ble_eq_true rfl, Nat.le_of_ble_eq_true rfl, Nat.le_of_ble_eq_true rfl⟩ (Or.inr ⟨(by first | simp only [fGive, hk, ix_lo (a := 1) (n := 101) (by decide) c19] | simp only [fGive, hk, ix_hi (x := v) (a := 1) (n := 100) (by decide) (Int32.not_le.mp c25)]), rfl⟩)
    · refine lv_iload_n hx hb dX4_give_22 rfl (lv_at hl 2 rfl) ?_
      refine lv_bipush (v := (nI (100))) hx hb dX4_give_23 (by decide) ?_
      refine lv_icmp_le (tgt := 38) hx hb dX4_give_25 (by decide) (fun c25 => ?_) (fun c25 => ?_)
      · obtain ⟨u, hu, hua, hun, rfl⟩ := ix_mid (x := v) (a := 1) (n := 100) (by decide) (by decide) c19 (Int32.not_lt.mpr c25)
        refine lv_aload_n hx hb dX4_give_38 rfl (lv_at hl 0 rfl) ?_
        refine j_get (T := TX4) (N := 6) (k := 3) hx hb hts hinX4 hown hw hO rfl (by decide) (hts (.fieldLink RX4 29 "NightTrains" "history" "LNightTrains$History;") (by decide +kernel)) rfl dX4_give_39 ?_
        refine lv_aload_n hx hb dX4_give_42 rfl (lv_at hl 0 rfl) ?_
        refine j_get (T := TX4) (N := 6) (k := 1) hx hb hts hinX4 hown hw hO rfl (by decide) (hts (.fieldLink RX4 19 "NightTrains" "now" "LNightTrains$Store;") (by decide +kernel)) rfl dX4_give_43 ?_
        refine j_Vv (n := 1) (As := [.ref (A + 3)]) hx hb hml hown hts hw (hHi.obj.elim (fun _ h9 => j_recv hw h9 rfl)) (c_X0_remember l g z H0 (A + 27) (A + 3) hi σ (by omega) hHi hS (by omega) hN) gX4_give_X0_remember rfl (by decide +kernel) ⟨Nat.le_of_ble_eq_true rfl, Nat.le_of_ble_eq_true rfl⟩ rfl hl.1 (Nat.le_of_ble_eq_true rfl) ⟨Nat.zero_le _, Nat.zero_le _⟩ dX4_give_46 (fun H locs hr2 hw hsz => ?_) rfl
        obtain ⟨hHi, hf2⟩ := hr2
        have hO := hO.kept (hf2.2 _ (by omega))
        have hT := hT.kept (fun q _ _ => hf2.2 q (by omega))
        have hS := hS.kept (fun q _ _ => hf2.2 q (by omega))
        have hTr := hTr.kept (fun q _ _ => hf2.2 q (by omega))
        have hSl := hSl.kept (fun q _ _ => hf2.2 q (by omega))
        have hf := hf.step hf2 (by omega)
        refine lv_aload_n hx hb dX4_give_49 rfl (lv_at hl 0 rfl) ?_
        refine j_get (T := TX4) (N := 6) (k := 1) hx hb hts hinX4 hown hw hO rfl (by decide) (hts (.fieldLink RX4 19 "NightTrains" "now" "LNightTrains$Store;") (by decide +kernel)) rfl dX4_give_50 ?_
        obtain ⟨ses3, pus3, dts3, las3, frs3, tks3, cts3, hOs3, hses3, hpus3, hdts3, hlas3, hfrs3, htks3, hops3, hlts3, hcts3, hSs3⟩ := hS
        have hOs3 : jO g H (A + 3) 2 [.ref (A + 4), .ref (A + 5), .ref (A + 6), .ref (A + 7), .ref (A + 8), .ref (A + 9), .ref (A + 10), .ref (A + 12), .ref (A + 14)] := hOs3
        have hses3 : jI g H (A + 4) 5 ses3 := hses3
        have hpus3 : jI g H (A + 5) 4 pus3 := hpus3
        have hdts3 : jI g H (A + 6) 4 dts3 := hdts3
        have hlas3 : jI g H (A + 7) 4 las3 := hlas3
        have hfrs3 : jI g H (A + 8) 16 frs3 := hfrs3
        have htks3 : jI g H (A + 9) 16 tks3 := htks3
        have hcts3 : jI g H (A + 14) 11 cts3 := hcts3
        have hops3 : jOr g H (A + 10) (opnR σ) := hops3
        have hlts3 : jOr g H (A + 12) (latR σ) := hlts3
        refine j_get (T := TX2) (N := 9) (k := 1) hx hb hts hinX2 hown hw hOs3 rfl (by decide) (hts (.fieldLink RX4 164 "NightTrains$Store" "purse" "[I") (by decide +kernel)) rfl dX4_give_53 ?_
        refine lv_iload_n hx hb dX4_give_56 rfl (lv_at hl 1 rfl) ?_
        refine lv_dup2_11 hx hb dX4_give_57 rfl rfl ?_
        refine j_iald hx hb hw hpus3 (k := k) rfl (by omega) (by omega) dX4_give_58 ?_
        refine j_eq (y := (σ.2.1 k)) (hSs3.rpu (k := k) (by omega)) ?_
        refine lv_iload_n hx hb dX4_give_59 rfl (lv_at hl 2 rfl) ?_
        refine lv_iadd hx hb dX4_give_60 ?_
        refine j_iast hx hb hw hpus3 (by omega) (k := k) rfl (by omega) (by omega) dX4_give_61 (fun H locs hw hpus3 oq hsz => ?_)
        obtain ⟨f4, ef4⟩ : ∃ y9, y9 = upd pus3 (k) ((σ.2.1 k) + (nI (u))) := ⟨_, rfl⟩
        rw [← ef4] at hpus3
        have hO := hO.kept (oq _ (by omega))
        have hT := hT.kept (fun q _ _ => oq q (by omega))
        have hTr := hTr.kept (fun q _ _ => oq q (by omega))
        have hHi := hHi.kept (fun q _ _ => oq q (by omega))
        have hSl := hSl.kept (fun q _ _ => oq q (by omega))
        have hOs3 := hOs3.kept (oq _ (by omega))
        have hses3 := hses3.kept (oq _ (by omega))
        have hdts3 := hdts3.kept (oq _ (by omega))
        have hlas3 := hlas3.kept (oq _ (by omega))
        have hfrs3 := hfrs3.kept (oq _ (by omega))
        have htks3 := htks3.kept (oq _ (by omega))
        have hcts3 := hcts3.kept (oq _ (by omega))
        have hops3 := hops3.kept (fun q _ _ => oq q (by omega))
        have hlts3 := hlts3.kept (fun q _ _ => oq q (by omega))
        have hf := hf.put oq hsz (by omega)
        have hSs3 := hSs3.wpu (k := k) (y := (σ.2.1 k + nI u)) (by omega) rfl
        rw [← ef4] at hSs3
        refine lv_aload_n hx hb dX4_give_62 rfl (lv_at hl 0 rfl) ?_
        refine j_get (T := TX4) (N := 6) (k := 1) hx hb hts hinX4 hown hw hO rfl (by decide) (hts (.fieldLink RX4 19 "NightTrains" "now" "LNightTrains$Store;") (by decide +kernel)) rfl dX4_give_63 ?_
        refine j_get (T := TX2) (N := 9) (k := 1) hx hb hts hinX2 hown hw hOs3 rfl (by decide) (hts (.fieldLink RX4 164 "NightTrains$Store" "purse" "[I") (by decide +kernel)) rfl dX4_give_66 ?_
        refine lv_iload_n hx hb dX4_give_69 rfl (lv_at hl 1 rfl) ?_
        refine j_iald hx hb hw hpus3 (k := k) rfl (by omega) (by omega) dX4_give_70 ?_
        refine j_eq (y := (σ.2.1 k + nI u)) ((hSs3.rpu (k := k) (by omega)).trans (if_pos rfl)) ?_
        refine j_retX ?_
        refine j_iret hx hb hr hlocks hH hw dX4_give_71 ?_
        have hS5 : jSo g H (A + 3) (upp σ (k) (σ.2.1 k + nI u)) (opnR σ) := ⟨ses3, f4, dts3, las3, frs3, tks3, cts3, hOs3, hses3, hpus3, hdts3, hlas3, hfrs3, htks3, hops3, hlts3, hcts3, hSs3⟩
        have e9 : fGive σ (nI (k)) (nI (u)) = (0, σ.2.1 k + nI u, upp σ k (σ.2.1 k + nI u)) := by simp only [fGive, hk, hu]
        have hN9 : okN (upp σ k (σ.2.1 k + nI u)) := hN.sp (c := k) (x := σ.2.1 k + nI u)
        exact ⟨_, rfl, by rw [e9]; try rfl, by rw [e9]; exact ⟨_, _, hO, hT, hS5, hTr, hHi, hSl, hN9⟩, hf⟩
      · exact j_throw hl0 (cls := "java/lang/IllegalArgumentException") (text := "v is 1 to 100") (ik := 41) (is := 236) (ic := 45) hx hb hml hown hlocks hH hw hE hex (by decide +kernel) hts (by decide +kernel) (by decide +kernel) (by decide +kernel) (by decide +kernel) (by decide +kernel) vx_n41 vx_g41 hl.1 dX4_give_28 dX4_give_31 dX4_give_32 dX4_give_34 dX4_give_37 ⟨Nat.le_of_ble_eq_true rfl, Nat.le_of_ble_eq_true rfl, Nat.le_of_ble_eq_true rfl, Nat.le_of_ble_eq_true rfl⟩ (Or.inr ⟨(by first | simp only [fGive, hk, ix_lo (a := 1) (n := 101) (by decide) c19] | simp only [fGive, hk, ix_hi (x := v) (a := 1) (n := 100) (by decide) (Int32.not_le.mp c25)]), rfl⟩)
  · refine jz_ne (tgt := 17) hx hb dX4_give_4 (by decide) (by omega) (fun c4 => absurd c4 (by omega)) (fun c4 => ?_)
    exact j_throw hl0 (cls := "java/lang/IndexOutOfBoundsException") (text := "no such reader") (ik := 125) (is := 162) (ic := 129) hx hb hml hown hlocks hH hw hE hex (by decide +kernel) hts (by decide +kernel) (by decide +kernel) (by decide +kernel) (by decide +kernel) (by decide +kernel) vx_n125 vx_g125 hl.1 dX4_give_7 dX4_give_10 dX4_give_11 dX4_give_13 dX4_give_16 ⟨Nat.le_of_ble_eq_true rfl, Nat.le_of_ble_eq_true rfl, Nat.le_of_ble_eq_true rfl, Nat.le_of_ble_eq_true rfl⟩ (Or.inl ⟨(by simp only [fGive, hk]), rfl⟩)

abbrev q_X4_set (g : jG) (H0 : Heap) (A : Nat) (what : Int32) (v : Int32) (tx : List Nat) (σ : Sg) (hi : List Sg) (sv : Nat → Option Sg) : Option Value → Heap → Prop := jN (fun r H1 => fSet σ what v = (0, r, (fSet σ what v).2.2) ∧ CD g H1 A tx (fSet σ what v).2.2 (pushH hi σ) sv ∧ jF A 223 H0 H1)
abbrev x_X4_set (A : Nat) (what : Int32) (v : Int32) (tx : List Nat) (σ : Sg) (hi : List Sg) (sv : Nat → Option Sg) : String → Prop := fun E => ((fSet σ what v = (1, 0, σ)) ∧ E = "java/lang/IllegalArgumentException")
set_option maxHeartbeats 4000000 in
set_option maxRecDepth 100000 in
theorem c_X4_set (l : Launch) (hl0 : l.stackTraces = false) (g : jG) (z : Nat) (H0 : Heap) (A : Nat) (what : Int32) (v : Int32) (tx : List Nat) (σ : Sg) (hi : List Sg) (sv : Nat → Option Sg) (hz : z ≤ A) (hCD : CD g H0 A tx σ hi sv) : jMX l g z yX4_set wsX4_set 6 144 [.ref A, .int what, .int v] H0 (q_X4_set g H0 A what v tx σ hi sv) (x_X4_set A what v tx σ hi sv) := by
  refine j_ofX (cc := cX4_set) (n := 4) (ret := some .int) (by decide) rfl (Nat.le_of_ble_eq_true rfl) ?_
  intro p e s m below meth c hx hb hr hml hown hts hlocks hname hH hw hE hex ls hl
  have hl : lv_has ls 4 [(0, .ref A), (1, .int what), (2, .int v)] := hl
  have hinX4 : ∀ w ∈ u_ws RX4 TX4 6, w ∈ wsX4_set := by decide +kernel
  have hinX2 : ∀ w ∈ u_ws RX2 TX2 9, w ∈ wsX4_set := by decide +kernel
  have hf : jF A 223 H0 H0 := jF.rf
  obtain ⟨τ, Rt, hO, hT, hS, hTr, hHi, hSl, hN⟩ := hCD
  obtain ⟨hs, hcalm, h20⟩ := id hN
  have hln := opnR_len (σ := σ)
  have hl21 := hs.2.2.1
  refine lv_iload_n hx hb dX4_set_0 rfl (lv_at hl 1 rfl) ?_
  refine j_Sp (n := 1) (As := [.int what]) hx hb hml hown hts hw (c_X4_isSetting l g z H0 what   ) gX4_set_X4_isSetting rfl (by decide +kernel) ⟨Nat.le_of_ble_eq_true rfl, Nat.le_of_ble_eq_true rfl⟩ rfl hl.1 (Nat.le_of_ble_eq_true rfl) ⟨Nat.zero_le _, Nat.zero_le _⟩ dX4_set_1 (fun r1 locs hr1 hw => ?_) rfl
  rcases hr1 with ⟨rfl, -⟩ | ⟨rfl, hj⟩
  · refine jz_eq (tgt := 15) hx hb dX4_set_4 (by decide) (by omega) (fun c4 => absurd c4 (by omega)) (fun c4 => ?_)
    refine lv_iload_n hx hb dX4_set_7 rfl (lv_at hl 1 rfl) ?_
    refine lv_iload_n hx hb dX4_set_8 rfl (lv_at hl 2 rfl) ?_
    refine j_Sp (n := 2) (As := [.int what, .int v]) hx hb hml hown hts hw (c_X4_isSettingValue l g z H0 what v   ) gX4_set_X4_isSettingValue rfl (by decide +kernel) ⟨Nat.le_of_ble_eq_true rfl, Nat.le_of_ble_eq_true rfl⟩ rfl hl.1 (Nat.le_of_ble_eq_true rfl) ⟨Nat.zero_le _, Nat.zero_le _⟩ dX4_set_9 (fun r2 locs hr2 hw => ?_) rfl
    rcases hr2 with ⟨rfl, k, u, hk, hkn, rfl, hu, hua, hun, rfl⟩ | ⟨rfl, hno⟩
    · refine jz_ne (tgt := 25) hx hb dX4_set_12 (by decide) (by omega) (fun c12 => ?_) (fun c12 => absurd c12 (by omega))
      refine lv_aload_n hx hb dX4_set_25 rfl (lv_at hl 0 rfl) ?_
      refine j_get (T := TX4) (N := 6) (k := 3) hx hb hts hinX4 hown hw hO rfl (by decide) (hts (.fieldLink RX4 29 "NightTrains" "history" "LNightTrains$History;") (by decide +kernel)) rfl dX4_set_26 ?_
      refine lv_aload_n hx hb dX4_set_29 rfl (lv_at hl 0 rfl) ?_
      refine j_get (T := TX4) (N := 6) (k := 1) hx hb hts hinX4 hown hw hO rfl (by decide) (hts (.fieldLink RX4 19 "NightTrains" "now" "LNightTrains$Store;") (by decide +kernel)) rfl dX4_set_30 ?_
      refine j_Vv (n := 1) (As := [.ref (A + 3)]) hx hb hml hown hts hw (hHi.obj.elim (fun _ h9 => j_recv hw h9 rfl)) (c_X0_remember l g z H0 (A + 27) (A + 3) hi σ (by omega) hHi hS (by omega) hN) gX4_set_X0_remember rfl (by decide +kernel) ⟨Nat.le_of_ble_eq_true rfl, Nat.le_of_ble_eq_true rfl⟩ rfl hl.1 (Nat.le_of_ble_eq_true rfl) ⟨Nat.zero_le _, Nat.zero_le _⟩ dX4_set_33 (fun H locs hr3 hw hsz => ?_) rfl
      obtain ⟨hHi, hf2⟩ := hr3
      have hO := hO.kept (hf2.2 _ (by omega))
      have hT := hT.kept (fun q _ _ => hf2.2 q (by omega))
      have hS := hS.kept (fun q _ _ => hf2.2 q (by omega))
      have hTr := hTr.kept (fun q _ _ => hf2.2 q (by omega))
      have hSl := hSl.kept (fun q _ _ => hf2.2 q (by omega))
      have hf := hf.step hf2 (by omega)
      refine lv_aload_n hx hb dX4_set_36 rfl (lv_at hl 0 rfl) ?_
      refine j_get (T := TX4) (N := 6) (k := 1) hx hb hts hinX4 hown hw hO rfl (by decide) (hts (.fieldLink RX4 19 "NightTrains" "now" "LNightTrains$Store;") (by decide +kernel)) rfl dX4_set_37 ?_
      obtain ⟨ses4, pus4, dts4, las4, frs4, tks4, cts4, hOs4, hses4, hpus4, hdts4, hlas4, hfrs4, htks4, hops4, hlts4, hcts4, hSs4⟩ := hS
      have hOs4 : jO g H (A + 3) 2 [.ref (A + 4), .ref (A + 5), .ref (A + 6), .ref (A + 7), .ref (A + 8), .ref (A + 9), .ref (A + 10), .ref (A + 12), .ref (A + 14)] := hOs4
      have hses4 : jI g H (A + 4) 5 ses4 := hses4
      have hpus4 : jI g H (A + 5) 4 pus4 := hpus4
      have hdts4 : jI g H (A + 6) 4 dts4 := hdts4
      have hlas4 : jI g H (A + 7) 4 las4 := hlas4
      have hfrs4 : jI g H (A + 8) 16 frs4 := hfrs4
      have htks4 : jI g H (A + 9) 16 tks4 := htks4
      have hcts4 : jI g H (A + 14) 11 cts4 := hcts4
      have hops4 : jOr g H (A + 10) (opnR σ) := hops4
      have hlts4 : jOr g H (A + 12) (latR σ) := hlts4
      refine j_get (T := TX2) (N := 9) (k := 0) hx hb hts hinX2 hown hw hOs4 rfl (by decide) (hts (.fieldLink RX4 187 "NightTrains$Store" "settings" "[I") (by decide +kernel)) rfl dX4_set_40 ?_
      refine lv_iload_n hx hb dX4_set_43 rfl (lv_at hl 1 rfl) ?_
      refine j_iald hx hb hw hses4 (k := k) rfl (by omega) (by omega) dX4_set_44 ?_
      refine j_eq (y := nI (σ.1 k)) (hSs4.rse (k := k) (by omega)) ?_
      refine lv_istore_n (lv' := [(3, .int _), (0, .ref _), (1, .int _), (2, .int _)]) hx hb dX4_set_45 rfl hl (by decide) rfl (fun ls hl => ?_)
      refine lv_aload_n hx hb dX4_set_46 rfl (lv_at hl 1 rfl) ?_
      refine j_get (T := TX4) (N := 6) (k := 1) hx hb hts hinX4 hown hw hO rfl (by decide) (hts (.fieldLink RX4 19 "NightTrains" "now" "LNightTrains$Store;") (by decide +kernel)) rfl dX4_set_47 ?_
      refine lv_iload_n hx hb dX4_set_50 rfl (lv_at hl 2 rfl) ?_
      refine lv_iload_n hx hb dX4_set_51 rfl (lv_at hl 3 rfl) ?_
      have hS5 : jSo g H (A + 3) σ (opnR σ) := ⟨ses4, pus4, dts4, las4, frs4, tks4, cts4, hOs4, hses4, hpus4, hdts4, hlas4, hfrs4, htks4, hops4, hlts4, hcts4, hSs4⟩
      refine j_Vv (n := 2) (As := [.int (nI (k)), .int (nI (u))]) hx hb hml hown hts hw (j_recv hw hS5.obj rfl) (c_X2_change l g z H (A + 3) (k) (u) σ (opnR σ) (by omega) hS5 (by first | assumption | omega)) gX4_set_X2_change rfl (by decide +kernel) ⟨Nat.le_of_ble_eq_true rfl, Nat.le_of_ble_eq_true rfl⟩ rfl hl.1 (Nat.le_of_ble_eq_true rfl) ⟨Nat.zero_le _, Nat.zero_le _⟩ dX4_set_52 (fun H locs hr6 hw hsz => ?_) rfl
      obtain ⟨hS5, hf2⟩ := hr6
      have hO := hO.kept (hf2.2 _ (by omega))
      have hT := hT.kept (fun q _ _ => hf2.2 q (by omega))
      have hTr := hTr.kept (fun q _ _ => hf2.2 q (by omega))
      have hHi := hHi.kept (fun q _ _ => hf2.2 q (by omega))
      have hSl := hSl.kept (fun q _ _ => hf2.2 q (by omega))
      have hf := hf.step hf2 (by omega)
      refine lv_iload_n hx hb dX4_set_55 rfl (lv_at hl 0 rfl) ?_
      refine j_retX ?_
      refine j_iret hx hb hr hlocks hH hw dX4_set_56 ?_
      have e9 : fSet σ (nI (k)) (nI (u)) = (0, nI (σ.1 k), upn σ k u) := by simp only [fSet, hk, hu]
      have hN9 : okN (upn σ k u) := hN.set hkn hua (Nat.lt_succ_iff.mp hun)
      exact ⟨_, rfl, by rw [e9]; try rfl, by rw [e9]; exact ⟨_, _, hO, hT, hS5, hTr, hHi, hSl, hN9⟩, hf⟩
    · refine jz_ne (tgt := 25) hx hb dX4_set_12 (by decide) (by omega) (fun c12 => absurd c12 (by omega)) (fun c12 => ?_)
      exact j_throw hl0 (cls := "java/lang/IllegalArgumentException") (text := "no such setting, or not a value of it") (ik := 41) (is := 241) (ic := 45) hx hb hml hown hlocks hH hw hE hex (by decide +kernel) hts (by decide +kernel) (by decide +kernel) (by decide +kernel) (by decide +kernel) (by decide +kernel) vx_n41 vx_g41 hl.1 dX4_set_15 dX4_set_18 dX4_set_19 dX4_set_21 dX4_set_24 ⟨Nat.le_of_ble_eq_true rfl, Nat.le_of_ble_eq_true rfl, Nat.le_of_ble_eq_true rfl, Nat.le_of_ble_eq_true rfl⟩ ⟨(by rcases hno with h | ⟨k, h1, h2⟩; simp only [fSet, h]; simp only [fSet, h1, h2]), rfl⟩
  · refine jz_eq (tgt := 15) hx hb dX4_set_4 (by decide) (by omega) (fun c4 => ?_) (fun c4 => absurd c4 (by omega))
    exact j_throw hl0 (cls := "java/lang/IllegalArgumentException") (text := "no such setting, or not a value of it") (ik := 41) (is := 241) (ic := 45) hx hb hml hown hlocks hH hw hE hex (by decide +kernel) hts (by decide +kernel) (by decide +kernel) (by decide +kernel) (by decide +kernel) (by decide +kernel) vx_n41 vx_g41 hl.1 dX4_set_15 dX4_set_18 dX4_set_19 dX4_set_21 dX4_set_24 ⟨Nat.le_of_ble_eq_true rfl, Nat.le_of_ble_eq_true rfl, Nat.le_of_ble_eq_true rfl, Nat.le_of_ble_eq_true rfl⟩ ⟨(by simp only [fSet, hj]), rfl⟩

abbrev q_X4_ask (g : jG) (H0 : Heap) (A : Nat) (ac : Int32) (al : Int32) (ai : Int32) (af : Int32) (tx : List Nat) (σ : Sg) (hi : List Sg) (sv : Nat → Option Sg) : Option Value → Heap → Prop := jN (fun r H1 => fAsk σ ac al ai af = (0, r, (fAsk σ ac al ai af).2.2) ∧ CD g H1 A tx (fAsk σ ac al ai af).2.2 (pushH hi σ) sv ∧ jF A 223 H0 H1)
abbrev x_X4_ask (A : Nat) (ac : Int32) (al : Int32) (ai : Int32) (af : Int32) (tx : List Nat) (σ : Sg) (hi : List Sg) (sv : Nat → Option Sg) : String → Prop := fun E => ((fAsk σ ac al ai af = (1, 0, σ)) ∧ E = "java/lang/IndexOutOfBoundsException") ∨ ((fAsk σ ac al ai af = (2, 0, σ)) ∧ E = "java/lang/IllegalArgumentException") ∨ ((fAsk σ ac al ai af = (3, 0, σ)) ∧ E = "java/lang/IllegalStateException")
set_option maxHeartbeats 4000000 in
set_option maxRecDepth 100000 in
theorem c_X4_ask (l : Launch) (hl0 : l.stackTraces = false) (g : jG) (z : Nat) (H0 : Heap) (A : Nat) (ac : Int32) (al : Int32) (ai : Int32) (af : Int32) (tx : List Nat) (σ : Sg) (hi : List Sg) (sv : Nat → Option Sg) (hz : z ≤ A) (hCD : CD g H0 A tx σ hi sv) : jMX l g z yX4_ask wsX4_ask 6 144 [.ref A, .int ac, .int al, .int ai, .int af] H0 (q_X4_ask g H0 A ac al ai af tx σ hi sv) (x_X4_ask A ac al ai af tx σ hi sv) := by
  refine j_ofX (cc := cX4_ask) (n := 5) (ret := some .int) (by decide) rfl (Nat.le_of_ble_eq_true rfl) ?_
  intro p e s m below meth c hx hb hr hml hown hts hlocks hname hH hw hE hex ls hl
  have hl : lv_has ls 5 [(0, .ref A), (1, .int ac), (2, .int al), (3, .int ai), (4, .int af)] := hl
  have hinX4 : ∀ w ∈ u_ws RX4 TX4 6, w ∈ wsX4_ask := by decide +kernel
  have hf : jF A 223 H0 H0 := jF.rf
  obtain ⟨τ, Rt, hO, hT, hS, hTr, hHi, hSl, hN⟩ := hCD
  obtain ⟨hs, hcalm, h20⟩ := id hN
  have hln := opnR_len (σ := σ)
  have hl21 := hs.2.2.1
  refine lv_iload_n hx hb dX4_ask_0 rfl (lv_at hl 1 rfl) ?_
  refine j_Sp (n := 1) (As := [.int ac]) hx hb hml hown hts hw (c_X4_isReader l g z H0 ac   ) gX4_ask_X4_isReader rfl (by decide +kernel) ⟨Nat.le_of_ble_eq_true rfl, Nat.le_of_ble_eq_true rfl⟩ rfl hl.1 (Nat.le_of_ble_eq_true rfl) ⟨Nat.zero_le _, Nat.zero_le _⟩ dX4_ask_1 (fun r1 locs hr1 hw => ?_) rfl
  rcases hr1 with ⟨rfl, cu, hcu, hcua, hcun, rfl⟩ | ⟨rfl, hcu⟩
  · refine jz_eq (tgt := 14) hx hb dX4_ask_4 (by decide) (by omega) (fun c4 => absurd c4 (by omega)) (fun c4 => ?_)
    refine lv_iload_n hx hb dX4_ask_7 rfl (lv_at hl 2 rfl) ?_
    refine j_Sp (n := 1) (As := [.int al]) hx hb hml hown hts hw (c_X4_isLot l g z H0 al   ) gX4_ask_X4_isLot rfl (by decide +kernel) ⟨Nat.le_of_ble_eq_true rfl, Nat.le_of_ble_eq_true rfl⟩ rfl hl.1 (Nat.le_of_ble_eq_true rfl) ⟨Nat.zero_le _, Nat.zero_le _⟩ dX4_ask_8 (fun r2 locs hr2 hw => ?_) rfl
    rcases hr2 with ⟨rfl, lt, hlt, hlta, hltn, rfl⟩ | ⟨rfl, hlt⟩
    · refine jz_ne (tgt := 24) hx hb dX4_ask_11 (by decide) (by omega) (fun c11 => ?_) (fun c11 => absurd c11 (by omega))
      refine lv_iload_n hx hb dX4_ask_24 rfl (lv_at hl 3 rfl) ?_
      refine j_Sp (n := 1) (As := [.int ai]) hx hb hml hown hts hw (c_X4_isItem l g z H0 ai   ) gX4_ask_X4_isItem rfl (by decide +kernel) ⟨Nat.le_of_ble_eq_true rfl, Nat.le_of_ble_eq_true rfl⟩ rfl hl.1 (Nat.le_of_ble_eq_true rfl) ⟨Nat.zero_le _, Nat.zero_le _⟩ dX4_ask_25 (fun r3 locs hr3 hw => ?_) rfl
      rcases hr3 with ⟨rfl, it, hit, hita, hitn, rfl⟩ | ⟨rfl, hit⟩
      · refine jz_eq (tgt := 39) hx hb dX4_ask_28 (by decide) (by omega) (fun c28 => absurd c28 (by omega)) (fun c28 => ?_)
        refine lv_iload hx hb dX4_ask_31 (lv_at hl 4 rfl) ?_
        refine j_Sp (n := 1) (As := [.int af]) hx hb hml hown hts hw (c_X4_isFee l g z H0 af   ) gX4_ask_X4_isFee rfl (by decide +kernel) ⟨Nat.le_of_ble_eq_true rfl, Nat.le_of_ble_eq_true rfl⟩ rfl hl.1 (Nat.le_of_ble_eq_true rfl) ⟨Nat.zero_le _, Nat.zero_le _⟩ dX4_ask_33 (fun r4 locs hr4 hw => ?_) rfl
        rcases hr4 with ⟨rfl, fe, hfe, hfea, hfen, rfl⟩ | ⟨rfl, hfe⟩
        · refine jz_ne (tgt := 49) hx hb dX4_ask_36 (by decide) (by omega) (fun c36 => ?_) (fun c36 => absurd c36 (by omega))
          refine lv_aload_n hx hb dX4_ask_49 rfl (lv_at hl 0 rfl) ?_
          refine j_get (T := TX4) (N := 6) (k := 1) hx hb hts hinX4 hown hw hO rfl (by decide) (hts (.fieldLink RX4 19 "NightTrains" "now" "LNightTrains$Store;") (by decide +kernel)) rfl dX4_ask_50 ?_
          refine lv_iload_n hx hb dX4_ask_53 rfl (lv_at hl 1 rfl) ?_
          refine lv_iload_n hx hb dX4_ask_54 rfl (lv_at hl 2 rfl) ?_
          refine lv_iload hx hb dX4_ask_55 (lv_at hl 4 rfl) ?_
          refine j_Vp (n := 3) (As := [.int (nI (cu)), .int (nI (lt)), .int (nI (fe))]) hx hb hml hown hts hw (j_recv hw hS.obj rfl) (c_X2_takesOrder l g z H0 (A + 3) (cu) (lt) (fe) σ (by omega) hS (by first | assumption | omega) (by first | assumption | omega) (by first | assumption | omega)) gX4_ask_X2_takesOrder rfl (by decide +kernel) ⟨Nat.le_of_ble_eq_true rfl, Nat.le_of_ble_eq_true rfl⟩ rfl hl.1 (Nat.le_of_ble_eq_true rfl) ⟨Nat.zero_le _, Nat.zero_le _⟩ dX4_ask_57 (fun r5 locs hca hw => ?_) rfl
          rcases hca with ⟨rfl, hca⟩ | ⟨rfl, hca⟩
          · refine jz_ne (tgt := 73) hx hb dX4_ask_60 (by decide) (by omega) (fun c60 => ?_) (fun c60 => absurd c60 (by omega))
            refine lv_aload_n hx hb dX4_ask_73 rfl (lv_at hl 0 rfl) ?_
            refine j_get (T := TX4) (N := 6) (k := 3) hx hb hts hinX4 hown hw hO rfl (by decide) (hts (.fieldLink RX4 29 "NightTrains" "history" "LNightTrains$History;") (by decide +kernel)) rfl dX4_ask_74 ?_
            refine lv_aload_n hx hb dX4_ask_77 rfl (lv_at hl 0 rfl) ?_
            refine j_get (T := TX4) (N := 6) (k := 1) hx hb hts hinX4 hown hw hO rfl (by decide) (hts (.fieldLink RX4 19 "NightTrains" "now" "LNightTrains$Store;") (by decide +kernel)) rfl dX4_ask_78 ?_
            refine j_Vv (n := 1) (As := [.ref (A + 3)]) hx hb hml hown hts hw (hHi.obj.elim (fun _ h9 => j_recv hw h9 rfl)) (c_X0_remember l g z H0 (A + 27) (A + 3) hi σ (by omega) hHi hS (by omega) hN) gX4_ask_X0_remember rfl (by decide +kernel) ⟨Nat.le_of_ble_eq_true rfl, Nat.le_of_ble_eq_true rfl⟩ rfl hl.1 (Nat.le_of_ble_eq_true rfl) ⟨Nat.zero_le _, Nat.zero_le _⟩ dX4_ask_81 (fun H locs hr6 hw hsz => ?_) rfl
            obtain ⟨hHi, hf2⟩ := hr6
            have hO := hO.kept (hf2.2 _ (by omega))
            have hT := hT.kept (fun q _ _ => hf2.2 q (by omega))
            have hS := hS.kept (fun q _ _ => hf2.2 q (by omega))
            have hTr := hTr.kept (fun q _ _ => hf2.2 q (by omega))
            have hSl := hSl.kept (fun q _ _ => hf2.2 q (by omega))
            have hf := hf.step hf2 (by omega)
            refine lv_aload_n hx hb dX4_ask_84 rfl (lv_at hl 0 rfl) ?_
            refine j_get (T := TX4) (N := 6) (k := 1) hx hb hts hinX4 hown hw hO rfl (by decide) (hts (.fieldLink RX4 19 "NightTrains" "now" "LNightTrains$Store;") (by decide +kernel)) rfl dX4_ask_85 ?_
            refine lv_iload_n hx hb dX4_ask_88 rfl (lv_at hl 1 rfl) ?_
            refine lv_iload_n hx hb dX4_ask_89 rfl (lv_at hl 2 rfl) ?_
            refine lv_iload_n hx hb dX4_ask_90 rfl (lv_at hl 3 rfl) ?_
            refine lv_iload hx hb dX4_ask_91 (lv_at hl 4 rfl) ?_
            refine j_Vi (n := 4) (As := [.int (nI (cu)), .int (nI (lt)), .int (nI (it)), .int (nI (fe))]) hx hb hml hown hts hw (j_recv hw hS.obj rfl) (c_X2_place l g z H (A + 3) (cu) (lt) (it) (fe) σ (by omega) hS (by first | assumption | omega) (by first | assumption | omega) (by first | assumption | omega) (hca.imp_right (fun q => by have := q.1; omega))) gX4_ask_X2_place rfl (by decide +kernel) ⟨Nat.le_of_ble_eq_true rfl, Nat.le_of_ble_eq_true rfl⟩ rfl hl.1 (Nat.le_of_ble_eq_true rfl) ⟨Nat.zero_le _, Nat.zero_le _⟩ dX4_ask_93 (fun r7 H locs hr7 hw hsz => ?_) rfl
            rcases hr7 with ⟨hfr, rfl, hr7⟩ | ⟨hfr, rfl, hr7⟩
            · obtain ⟨hS, hf2⟩ := hr7
              have hO := hO.kept (hf2.2 _ (by omega))
              have hT := hT.kept (fun q _ _ => hf2.2 q (by omega))
              have hTr := hTr.kept (fun q _ _ => hf2.2 q (by omega))
              have hHi := hHi.kept (fun q _ _ => hf2.2 q (by omega))
              have hSl := hSl.kept (fun q _ _ => hf2.2 q (by omega))
              have hf := hf.step hf2 (by omega)
              refine j_retX ?_
              refine j_iret hx hb hr hlocks hH hw dX4_ask_96 ?_
              have e9 : fAsk σ (nI (cu)) (nI (lt)) (nI (it)) (nI (fe)) = (0, -1, askF σ cu lt it) := by simp only [fAsk, hcu, hlt, hit, hfe]; exact (if_pos hca).trans (if_pos hfr)
              have hN9 : okN (askF σ cu lt it) := hN.askF hcun hltn hitn
              exact ⟨_, rfl, by rw [e9]; try rfl, by rw [e9]; exact ⟨_, _, hO, hT, hS, hTr, hHi, hSl, hN9⟩, hf⟩
            · obtain ⟨hS, hf2⟩ := hr7
              have hO := hO.kept (hf2.2 _ (by omega))
              have hT := hT.kept (fun q _ _ => hf2.2 q (by omega))
              have hTr := hTr.kept (fun q _ _ => hf2.2 q (by omega))
              have hHi := hHi.kept (fun q _ _ => hf2.2 q (by omega))
              have hSl := hSl.kept (fun q _ _ => hf2.2 q (by omega))
              have hf := hf.step hf2 (by omega)
              refine j_retX ?_
              refine j_iret hx hb hr hlocks hH hw dX4_ask_96 ?_
              have e9 : fAsk σ (nI (cu)) (nI (lt)) (nI (it)) (nI (fe)) = (0, nI σ.2.2.1.length, askO σ cu lt it fe) := by simp only [fAsk, hcu, hlt, hit, hfe]; exact (if_pos hca).trans (if_neg (by omega))
              have hN9 : okN (askO σ cu lt it fe) := hN.askO (by rcases hca with q | q; exact absurd q (by omega); exact q.1) ⟨hcun, hltn, hitn, hfen, Nat.zero_lt_succ _, Nat.zero_lt_succ _⟩
              exact ⟨_, rfl, by rw [e9]; try rfl, by rw [e9]; exact ⟨_, _, hO, hT, hS, hTr, hHi, hSl, hN9⟩, hf⟩
          · refine jz_ne (tgt := 73) hx hb dX4_ask_60 (by decide) (by omega) (fun c60 => absurd c60 (by omega)) (fun c60 => ?_)
            exact j_throw hl0 (cls := "java/lang/IllegalStateException") (text := "too many open orders, or too little in the purse") (ik := 52) (is := 204) (ic := 56) hx hb hml hown hlocks hH hw hE hex (by decide +kernel) hts (by decide +kernel) (by decide +kernel) (by decide +kernel) (by decide +kernel) (by decide +kernel) vx_n52 vx_g52 hl.1 dX4_ask_63 dX4_ask_66 dX4_ask_67 dX4_ask_69 dX4_ask_72 ⟨Nat.le_of_ble_eq_true rfl, Nat.le_of_ble_eq_true rfl, Nat.le_of_ble_eq_true rfl, Nat.le_of_ble_eq_true rfl⟩ (Or.inr (Or.inr ⟨(by simp only [fAsk, hcu, hlt, hit, hfe]; exact if_neg hca), rfl⟩))
        · refine jz_ne (tgt := 49) hx hb dX4_ask_36 (by decide) (by omega) (fun c36 => absurd c36 (by omega)) (fun c36 => ?_)
          exact j_throw hl0 (cls := "java/lang/IllegalArgumentException") (text := "an item is 0 to 7, a fee 0 to 9") (ik := 41) (is := 198) (ic := 45) hx hb hml hown hlocks hH hw hE hex (by decide +kernel) hts (by decide +kernel) (by decide +kernel) (by decide +kernel) (by decide +kernel) (by decide +kernel) vx_n41 vx_g41 hl.1 dX4_ask_39 dX4_ask_42 dX4_ask_43 dX4_ask_45 dX4_ask_48 ⟨Nat.le_of_ble_eq_true rfl, Nat.le_of_ble_eq_true rfl, Nat.le_of_ble_eq_true rfl, Nat.le_of_ble_eq_true rfl⟩ (Or.inr (Or.inl ⟨(by simp only [fAsk, hcu, hlt, hit, hfe]), rfl⟩))
      · refine jz_eq (tgt := 39) hx hb dX4_ask_28 (by decide) (by omega) (fun c28 => ?_) (fun c28 => absurd c28 (by omega))
        exact j_throw hl0 (cls := "java/lang/IllegalArgumentException") (text := "an item is 0 to 7, a fee 0 to 9") (ik := 41) (is := 198) (ic := 45) hx hb hml hown hlocks hH hw hE hex (by decide +kernel) hts (by decide +kernel) (by decide +kernel) (by decide +kernel) (by decide +kernel) (by decide +kernel) vx_n41 vx_g41 hl.1 dX4_ask_39 dX4_ask_42 dX4_ask_43 dX4_ask_45 dX4_ask_48 ⟨Nat.le_of_ble_eq_true rfl, Nat.le_of_ble_eq_true rfl, Nat.le_of_ble_eq_true rfl, Nat.le_of_ble_eq_true rfl⟩ (Or.inr (Or.inl ⟨(by simp only [fAsk, hcu, hlt, hit]), rfl⟩))
    · refine jz_ne (tgt := 24) hx hb dX4_ask_11 (by decide) (by omega) (fun c11 => absurd c11 (by omega)) (fun c11 => ?_)
      exact j_throw hl0 (cls := "java/lang/IndexOutOfBoundsException") (text := "no such reader or lot") (ik := 125) (is := 190) (ic := 129) hx hb hml hown hlocks hH hw hE hex (by decide +kernel) hts (by decide +kernel) (by decide +kernel) (by decide +kernel) (by decide +kernel) (by decide +kernel) vx_n125 vx_g125 hl.1 dX4_ask_14 dX4_ask_17 dX4_ask_18 dX4_ask_20 dX4_ask_23 ⟨Nat.le_of_ble_eq_true rfl, Nat.le_of_ble_eq_true rfl, Nat.le_of_ble_eq_true rfl, Nat.le_of_ble_eq_true rfl⟩ (Or.inl ⟨(by simp only [fAsk, hcu, hlt]), rfl⟩)
  · refine jz_eq (tgt := 14) hx hb dX4_ask_4 (by decide) (by omega) (fun c4 => ?_) (fun c4 => absurd c4 (by omega))
    exact j_throw hl0 (cls := "java/lang/IndexOutOfBoundsException") (text := "no such reader or lot") (ik := 125) (is := 190) (ic := 129) hx hb hml hown hlocks hH hw hE hex (by decide +kernel) hts (by decide +kernel) (by decide +kernel) (by decide +kernel) (by decide +kernel) (by decide +kernel) vx_n125 vx_g125 hl.1 dX4_ask_14 dX4_ask_17 dX4_ask_18 dX4_ask_20 dX4_ask_23 ⟨Nat.le_of_ble_eq_true rfl, Nat.le_of_ble_eq_true rfl, Nat.le_of_ble_eq_true rfl, Nat.le_of_ble_eq_true rfl⟩ (Or.inl ⟨(by simp only [fAsk, hcu]), rfl⟩)

abbrev q_X4_undo (g : jG) (H0 : Heap) (A : Nat) (tx : List Nat) (σ : Sg) (hi : List Sg) (sv : Nat → Option Sg) : Option Value → Heap → Prop := jN (fun r H1 => ∃ h s, hi = h ++ [s] ∧ r = nI h.length ∧ CD g H1 A tx s h sv ∧ jF A 223 H0 H1)
abbrev x_X4_undo (A : Nat) (tx : List Nat) (σ : Sg) (hi : List Sg) (sv : Nat → Option Sg) : String → Prop := fun E => ((hi = []) ∧ E = "java/lang/IllegalStateException")
set_option maxHeartbeats 4000000 in
set_option maxRecDepth 100000 in
theorem c_X4_undo (l : Launch) (hl0 : l.stackTraces = false) (g : jG) (z : Nat) (H0 : Heap) (A : Nat) (tx : List Nat) (σ : Sg) (hi : List Sg) (sv : Nat → Option Sg) (hz : z ≤ A) (hCD : CD g H0 A tx σ hi sv) : jMX l g z yX4_undo wsX4_undo 6 144 [.ref A] H0 (q_X4_undo g H0 A tx σ hi sv) (x_X4_undo A tx σ hi sv) := by
  refine j_ofX (cc := cX4_undo) (n := 1) (ret := some .int) (by decide) rfl (Nat.le_of_ble_eq_true rfl) ?_
  intro p e s m below meth c hx hb hr hml hown hts hlocks hname hH hw hE hex ls hl
  have hl : lv_has ls 1 [(0, .ref A)] := hl
  have hinX4 : ∀ w ∈ u_ws RX4 TX4 6, w ∈ wsX4_undo := by decide +kernel
  have hf : jF A 223 H0 H0 := jF.rf
  obtain ⟨τ, Rt, hO, hT, hS, hTr, hHi, hSl, hN⟩ := hCD
  obtain ⟨hs, hcalm, h20⟩ := id hN
  have hln := opnR_len (σ := σ)
  have hl21 := hs.2.2.1
  refine lv_aload_n hx hb dX4_undo_0 rfl (lv_at hl 0 rfl) ?_
  refine j_get (T := TX4) (N := 6) (k := 3) hx hb hts hinX4 hown hw hO rfl (by decide) (hts (.fieldLink RX4 29 "NightTrains" "history" "LNightTrains$History;") (by decide +kernel)) rfl dX4_undo_1 ?_
  refine j_Vp (n := 0) (As := []) hx hb hml hown hts hw (hHi.obj.elim (fun _ h9 => j_recv hw h9 rfl)) (c_X0_isEmpty l g z H0 (A + 27) hi (by omega) hHi ) gX4_undo_X0_isEmpty rfl (by decide +kernel) ⟨Nat.le_of_ble_eq_true rfl, Nat.le_of_ble_eq_true rfl⟩ rfl hl.1 (Nat.le_of_ble_eq_true rfl) ⟨Nat.zero_le _, Nat.zero_le _⟩ dX4_undo_4 (fun r1 locs hemp hw => ?_) rfl
  rcases hemp with ⟨rfl, hemp⟩ | ⟨rfl, hemp⟩
  · refine jz_eq (tgt := 20) hx hb dX4_undo_7 (by decide) (by omega) (fun c7 => absurd c7 (by omega)) (fun c7 => ?_)
    exact j_throw hl0 (cls := "java/lang/IllegalStateException") (text := "no state is remembered") (ik := 52) (is := 246) (ic := 56) hx hb hml hown hlocks hH hw hE hex (by decide +kernel) hts (by decide +kernel) (by decide +kernel) (by decide +kernel) (by decide +kernel) (by decide +kernel) vx_n52 vx_g52 hl.1 dX4_undo_10 dX4_undo_13 dX4_undo_14 dX4_undo_16 dX4_undo_19 ⟨Nat.le_of_ble_eq_true rfl, Nat.le_of_ble_eq_true rfl, Nat.le_of_ble_eq_true rfl, Nat.le_of_ble_eq_true rfl⟩ ⟨hemp, rfl⟩
  · refine jz_eq (tgt := 20) hx hb dX4_undo_7 (by decide) (by omega) (fun c7 => ?_) (fun c7 => absurd c7 (by omega))
    obtain ⟨h9, s9, rfl⟩ : ∃ h s, hi = h ++ [s] := ⟨hi.dropLast, hi.getLast hemp, (List.dropLast_concat_getLast hemp).symm⟩
    have hN9 : okN s9 := hHi.ok (List.mem_append_right _ List.mem_cons_self)
    refine lv_aload_n hx hb dX4_undo_20 rfl (lv_at hl 0 rfl) ?_
    refine j_get (T := TX4) (N := 6) (k := 3) hx hb hts hinX4 hown hw hO rfl (by decide) (hts (.fieldLink RX4 29 "NightTrains" "history" "LNightTrains$History;") (by decide +kernel)) rfl dX4_undo_21 ?_
    refine lv_aload_n hx hb dX4_undo_24 rfl (lv_at hl 0 rfl) ?_
    refine j_get (T := TX4) (N := 6) (k := 1) hx hb hts hinX4 hown hw hO rfl (by decide) (hts (.fieldLink RX4 19 "NightTrains" "now" "LNightTrains$Store;") (by decide +kernel)) rfl dX4_undo_25 ?_
    refine j_Vi (n := 1) (As := [.ref (A + 3)]) hx hb hml hown hts hw (hHi.obj.elim (fun _ h9 => j_recv hw h9 rfl)) (c_X0_takeBack l g z H0 (A + 27) (A + 3) h9 s9 σ (opnR σ) (by omega) (by omega) hHi hS (by first | assumption | omega)) gX4_undo_X0_takeBack rfl (by decide +kernel) ⟨Nat.le_of_ble_eq_true rfl, Nat.le_of_ble_eq_true rfl⟩ rfl hl.1 (Nat.le_of_ble_eq_true rfl) ⟨Nat.zero_le _, Nat.zero_le _⟩ dX4_undo_28 (fun r2 H locs hr2 hw hsz => ?_) rfl
    obtain ⟨rfl, hHi, hS, hf2⟩ := hr2
    have hO := hO.kept (hf2.2 _ (by omega) (by omega))
    have hT := hT.kept (fun q _ _ => hf2.2 q (by omega) (by omega))
    have hTr := hTr.kept (fun q _ _ => hf2.2 q (by omega) (by omega))
    have hSl := hSl.kept (fun q _ _ => hf2.2 q (by omega) (by omega))
    have hf := hf.two hf2 (by omega) (by omega)
    refine j_retX ?_
    refine j_iret hx hb hr hlocks hH hw dX4_undo_31 ?_
    exact ⟨_, rfl, h9, s9, rfl, rfl, ⟨_, _, hO, hT, hS, hTr, hHi, hSl, hN9⟩, hf⟩

abbrev q_X4_save (g : jG) (H0 : Heap) (A : Nat) (asl : Int32) (tx : List Nat) (σ : Sg) (hi : List Sg) (sv : Nat → Option Sg) : Option Value → Heap → Prop := jN (fun r H1 => ∃ k, ix asl 0 2 = some k ∧ r = nI (σ.1 5) ∧ CD g H1 A tx σ hi (fun j => if j = k then some σ else sv j) ∧ jF A 223 H0 H1)
abbrev x_X4_save (A : Nat) (asl : Int32) (tx : List Nat) (σ : Sg) (hi : List Sg) (sv : Nat → Option Sg) : String → Prop := fun E => ((ix asl 0 2 = none) ∧ E = "java/lang/IndexOutOfBoundsException")
set_option maxHeartbeats 4000000 in
set_option maxRecDepth 100000 in
theorem c_X4_save (l : Launch) (hl0 : l.stackTraces = false) (g : jG) (z : Nat) (H0 : Heap) (A : Nat) (asl : Int32) (tx : List Nat) (σ : Sg) (hi : List Sg) (sv : Nat → Option Sg) (hz : z ≤ A) (hCD : CD g H0 A tx σ hi sv) : jMX l g z yX4_save wsX4_save 6 123 [.ref A, .int asl] H0 (q_X4_save g H0 A asl tx σ hi sv) (x_X4_save A asl tx σ hi sv) := by
  refine j_ofX (cc := cX4_save) (n := 2) (ret := some .int) (by decide) rfl (Nat.le_of_ble_eq_true rfl) ?_
  intro p e s m below meth c hx hb hr hml hown hts hlocks hname hH hw hE hex ls hl
  have hl : lv_has ls 2 [(0, .ref A), (1, .int asl)] := hl
  have hinX4 : ∀ w ∈ u_ws RX4 TX4 6, w ∈ wsX4_save := by decide +kernel
  have hf : jF A 223 H0 H0 := jF.rf
  obtain ⟨τ, Rt, hO, hT, hS, hTr, hHi, hSl, hN⟩ := hCD
  obtain ⟨hs, hcalm, h20⟩ := id hN
  have hln := opnR_len (σ := σ)
  have hl21 := hs.2.2.1
  refine lv_iload_n hx hb dX4_save_0 rfl (lv_at hl 1 rfl) ?_
  refine j_Sp (n := 1) (As := [.int asl]) hx hb hml hown hts hw (c_X4_isSlot l g z H0 asl   ) gX4_save_X4_isSlot rfl (by decide +kernel) ⟨Nat.le_of_ble_eq_true rfl, Nat.le_of_ble_eq_true rfl⟩ rfl hl.1 (Nat.le_of_ble_eq_true rfl) ⟨Nat.zero_le _, Nat.zero_le _⟩ dX4_save_1 (fun r1 locs hr1 hw => ?_) rfl
  rcases hr1 with ⟨rfl, k, hk, hka, hkn, rfl⟩ | ⟨rfl, hk⟩
  · refine jz_ne (tgt := 18) hx hb dX4_save_4 (by decide) (by omega) (fun c4 => ?_) (fun c4 => absurd c4 (by omega))
    obtain ⟨hRs, ik, hIk, hsl⟩ := hSl
    have hIk : jZ g H0 (A + 198) 2 ik := hIk
    obtain ⟨τ0, R0, hS0, hv0⟩ := hsl 0 (by decide)
    have hS0 : jSo g H0 (A + 199) τ0 R0 := hS0
    obtain ⟨τ1, R1, hS1, hv1⟩ := hsl 1 (by decide)
    have hS1 : jSo g H0 (A + 211) τ1 R1 := hS1
    have hw9 : k = 0 ∨ k = 1 := by omega
    rcases hw9 with rfl | rfl
    · refine lv_aload_n hx hb dX4_save_18 rfl (lv_at hl 0 rfl) ?_
      refine j_get (T := TX4) (N := 6) (k := 4) hx hb hts hinX4 hown hw hO rfl (by decide) (hts (.fieldLink RX4 33 "NightTrains" "slots" "[LNightTrains$Store;") (by decide +kernel)) rfl dX4_save_19 ?_
      refine lv_iload_n hx hb dX4_save_22 rfl (lv_at hl 1 rfl) ?_
      refine j_aaldR hx hb hw hRs (k := 0) (b := (A + 199)) rfl (by omega) (by omega) rfl dX4_save_23 ?_
      refine lv_aload_n hx hb dX4_save_24 rfl (lv_at hl 0 rfl) ?_
      refine j_get (T := TX4) (N := 6) (k := 1) hx hb hts hinX4 hown hw hO rfl (by decide) (hts (.fieldLink RX4 19 "NightTrains" "now" "LNightTrains$Store;") (by decide +kernel)) rfl dX4_save_25 ?_
      refine j_Vv (n := 1) (As := [.ref (A + 3)]) hx hb hml hown hts hw (j_recv hw hS0.obj rfl) (c_X2_copyFrom l g z H0 (A + 199) (A + 3) τ0 R0 σ (opnR σ) (by omega) hS0 hS (by first | assumption | omega)) gX4_save_X2_copyFrom rfl (by decide +kernel) ⟨Nat.le_of_ble_eq_true rfl, Nat.le_of_ble_eq_true rfl⟩ rfl hl.1 (Nat.le_of_ble_eq_true rfl) ⟨Nat.zero_le _, Nat.zero_le _⟩ dX4_save_28 (fun H locs hr2 hw hsz => ?_) rfl
      obtain ⟨hS0, hf2⟩ := hr2
      have hO := hO.kept (hf2.2 _ (by omega))
      have hT := hT.kept (fun q _ _ => hf2.2 q (by omega))
      have hS := hS.kept (fun q _ _ => hf2.2 q (by omega))
      have hTr := hTr.kept (fun q _ _ => hf2.2 q (by omega))
      have hHi := hHi.kept (fun q _ _ => hf2.2 q (by omega))
      have hRs := hRs.kept (hf2.2 _ (by omega))
      have hIk := hIk.kept (hf2.2 _ (by omega))
      have hS1 := hS1.kept (fun q _ _ => hf2.2 q (by omega))
      have hf := hf.step hf2 (by omega)
      refine lv_aload_n hx hb dX4_save_31 rfl (lv_at hl 0 rfl) ?_
      refine j_get (T := TX4) (N := 6) (k := 5) hx hb hts hinX4 hown hw hO rfl (by decide) (hts (.fieldLink RX4 37 "NightTrains" "saved" "[Z") (by decide +kernel)) rfl dX4_save_32 ?_
      refine lv_iload_n hx hb dX4_save_35 rfl (lv_at hl 1 rfl) ?_
      refine lv_iconst (v := (nI (1))) hx hb dX4_save_36 (by decide) ?_
      refine j_zast hx hb hw hIk (by omega) (k := 0) rfl (by omega) (by omega) dX4_save_37 (fun H locs hw hIk oq hsz => ?_)
      obtain ⟨f3, ef3⟩ : ∃ y9, y9 = upd ik (0) (vp_nar .boolean (nI (1))) := ⟨_, rfl⟩
      rw [← ef3] at hIk
      have hO := hO.kept (oq _ (by omega))
      have hT := hT.kept (fun q _ _ => oq q (by omega))
      have hS := hS.kept (fun q _ _ => oq q (by omega))
      have hTr := hTr.kept (fun q _ _ => oq q (by omega))
      have hHi := hHi.kept (fun q _ _ => oq q (by omega))
      have hRs := hRs.kept (oq _ (by omega))
      have hS0 := hS0.kept (fun q _ _ => oq q (by omega))
      have hS1 := hS1.kept (fun q _ _ => oq q (by omega))
      have hf := hf.put oq hsz (by omega)
      refine lv_aload_n hx hb dX4_save_38 rfl (lv_at hl 0 rfl) ?_
      refine j_get (T := TX4) (N := 6) (k := 1) hx hb hts hinX4 hown hw hO rfl (by decide) (hts (.fieldLink RX4 19 "NightTrains" "now" "LNightTrains$Store;") (by decide +kernel)) rfl dX4_save_39 ?_
      refine lv_iconst (v := (nI (0))) hx hb dX4_save_42 (by decide) ?_
      refine j_Vp (n := 1) (As := [.int (nI (0))]) hx hb hml hown hts hw (j_recv hw hS.obj rfl) (c_X2_number l g z H (A + 3) (0) σ (by omega) hS (by first | assumption | omega) (by first | assumption | omega)) gX4_save_X2_number rfl (by decide +kernel) ⟨Nat.le_of_ble_eq_true rfl, Nat.le_of_ble_eq_true rfl⟩ rfl hl.1 (Nat.le_of_ble_eq_true rfl) ⟨Nat.zero_le _, Nat.zero_le _⟩ dX4_save_43 (fun r4 locs hr4 hw => ?_) rfl
      obtain rfl : r4 = (nI ((σ.1 5))) := hr4.trans rfl
      refine j_retX ?_
      refine j_iret hx hb hr hlocks hH hw dX4_save_46 ?_
      exact ⟨_, rfl, 0, hk, rfl, ⟨_, _, hO, hT, hS, hTr, hHi, (jSl.mk hRs hIk hS0 hS1 (Or.inr ⟨σ, if_pos rfl, by rw [ef3, pk_us]; rfl, rfl, rfl, hN⟩) (hv1.elim (fun q => Or.inl ⟨(if_neg (by decide)).trans q.1, by rw [ef3, pk_un (by decide)]; exact q.2⟩) (fun ⟨s, q1, q2, q3⟩ => Or.inr ⟨s, (if_neg (by decide)).trans q1, by rw [ef3, pk_un (by decide)]; exact q2, q3⟩))), hN⟩, hf⟩
    · refine lv_aload_n hx hb dX4_save_18 rfl (lv_at hl 0 rfl) ?_
      refine j_get (T := TX4) (N := 6) (k := 4) hx hb hts hinX4 hown hw hO rfl (by decide) (hts (.fieldLink RX4 33 "NightTrains" "slots" "[LNightTrains$Store;") (by decide +kernel)) rfl dX4_save_19 ?_
      refine lv_iload_n hx hb dX4_save_22 rfl (lv_at hl 1 rfl) ?_
      refine j_aaldR hx hb hw hRs (k := 1) (b := (A + 211)) rfl (by omega) (by omega) rfl dX4_save_23 ?_
      refine lv_aload_n hx hb dX4_save_24 rfl (lv_at hl 0 rfl) ?_
      refine j_get (T := TX4) (N := 6) (k := 1) hx hb hts hinX4 hown hw hO rfl (by decide) (hts (.fieldLink RX4 19 "NightTrains" "now" "LNightTrains$Store;") (by decide +kernel)) rfl dX4_save_25 ?_
      refine j_Vv (n := 1) (As := [.ref (A + 3)]) hx hb hml hown hts hw (j_recv hw hS1.obj rfl) (c_X2_copyFrom l g z H0 (A + 211) (A + 3) τ1 R1 σ (opnR σ) (by omega) hS1 hS (by first | assumption | omega)) gX4_save_X2_copyFrom rfl (by decide +kernel) ⟨Nat.le_of_ble_eq_true rfl, Nat.le_of_ble_eq_true rfl⟩ rfl hl.1 (Nat.le_of_ble_eq_true rfl) ⟨Nat.zero_le _, Nat.zero_le _⟩ dX4_save_28 (fun H locs hr5 hw hsz => ?_) rfl
      obtain ⟨hS1, hf2⟩ := hr5
      have hO := hO.kept (hf2.2 _ (by omega))
      have hT := hT.kept (fun q _ _ => hf2.2 q (by omega))
      have hS := hS.kept (fun q _ _ => hf2.2 q (by omega))
      have hTr := hTr.kept (fun q _ _ => hf2.2 q (by omega))
      have hHi := hHi.kept (fun q _ _ => hf2.2 q (by omega))
      have hRs := hRs.kept (hf2.2 _ (by omega))
      have hIk := hIk.kept (hf2.2 _ (by omega))
      have hS0 := hS0.kept (fun q _ _ => hf2.2 q (by omega))
      have hf := hf.step hf2 (by omega)
      refine lv_aload_n hx hb dX4_save_31 rfl (lv_at hl 0 rfl) ?_
      refine j_get (T := TX4) (N := 6) (k := 5) hx hb hts hinX4 hown hw hO rfl (by decide) (hts (.fieldLink RX4 37 "NightTrains" "saved" "[Z") (by decide +kernel)) rfl dX4_save_32 ?_
      refine lv_iload_n hx hb dX4_save_35 rfl (lv_at hl 1 rfl) ?_
      refine lv_iconst (v := (nI (1))) hx hb dX4_save_36 (by decide) ?_
      refine j_zast hx hb hw hIk (by omega) (k := 1) rfl (by omega) (by omega) dX4_save_37 (fun H locs hw hIk oq hsz => ?_)
      obtain ⟨f6, ef6⟩ : ∃ y9, y9 = upd ik (1) (vp_nar .boolean (nI (1))) := ⟨_, rfl⟩
      rw [← ef6] at hIk
      have hO := hO.kept (oq _ (by omega))
      have hT := hT.kept (fun q _ _ => oq q (by omega))
      have hS := hS.kept (fun q _ _ => oq q (by omega))
      have hTr := hTr.kept (fun q _ _ => oq q (by omega))
      have hHi := hHi.kept (fun q _ _ => oq q (by omega))
      have hRs := hRs.kept (oq _ (by omega))
      have hS0 := hS0.kept (fun q _ _ => oq q (by omega))
      have hS1 := hS1.kept (fun q _ _ => oq q (by omega))
      have hf := hf.put oq hsz (by omega)
      refine lv_aload_n hx hb dX4_save_38 rfl (lv_at hl 0 rfl) ?_
      refine j_get (T := TX4) (N := 6) (k := 1) hx hb hts hinX4 hown hw hO rfl (by decide) (hts (.fieldLink RX4 19 "NightTrains" "now" "LNightTrains$Store;") (by decide +kernel)) rfl dX4_save_39 ?_
      refine lv_iconst (v := (nI (0))) hx hb dX4_save_42 (by decide) ?_
      refine j_Vp (n := 1) (As := [.int (nI (0))]) hx hb hml hown hts hw (j_recv hw hS.obj rfl) (c_X2_number l g z H (A + 3) (0) σ (by omega) hS (by first | assumption | omega) (by first | assumption | omega)) gX4_save_X2_number rfl (by decide +kernel) ⟨Nat.le_of_ble_eq_true rfl, Nat.le_of_ble_eq_true rfl⟩ rfl hl.1 (Nat.le_of_ble_eq_true rfl) ⟨Nat.zero_le _, Nat.zero_le _⟩ dX4_save_43 (fun r7 locs hr7 hw => ?_) rfl
      obtain rfl : r7 = (nI ((σ.1 5))) := hr7.trans rfl
      refine j_retX ?_
      refine j_iret hx hb hr hlocks hH hw dX4_save_46 ?_
      exact ⟨_, rfl, 1, hk, rfl, ⟨_, _, hO, hT, hS, hTr, hHi, (jSl.mk hRs hIk hS0 hS1 (hv0.elim (fun q => Or.inl ⟨(if_neg (by decide)).trans q.1, by rw [ef6, pk_un (by decide)]; exact q.2⟩) (fun ⟨s, q1, q2, q3⟩ => Or.inr ⟨s, (if_neg (by decide)).trans q1, by rw [ef6, pk_un (by decide)]; exact q2, q3⟩)) (Or.inr ⟨σ, if_pos rfl, by rw [ef6, pk_us]; rfl, rfl, rfl, hN⟩)), hN⟩, hf⟩
  · refine jz_ne (tgt := 18) hx hb dX4_save_4 (by decide) (by omega) (fun c4 => absurd c4 (by omega)) (fun c4 => ?_)
    exact j_throwW hl0 (cls := "java/lang/IndexOutOfBoundsException") (text := "no such save slot") (ik := 125) (is := 322) (ic := 129) hx hb hml hown hlocks hH hw hE hex (by decide +kernel) hts (by decide +kernel) (by decide +kernel) (by decide +kernel) (by decide +kernel) (by decide +kernel) vx_n125 vx_g125 hl.1 dX4_save_7 dX4_save_10 dX4_save_11 dX4_save_14 dX4_save_17 ⟨Nat.le_of_ble_eq_true rfl, Nat.le_of_ble_eq_true rfl, Nat.le_of_ble_eq_true rfl, Nat.le_of_ble_eq_true rfl⟩ ⟨hk, rfl⟩

abbrev q_X4_restore (g : jG) (H0 : Heap) (A : Nat) (asl : Int32) (tx : List Nat) (σ : Sg) (hi : List Sg) (sv : Nat → Option Sg) : Option Value → Heap → Prop := jN (fun r H1 => ∃ k, ix asl 0 2 = some k ∧ ∃ s, sv k = some s ∧ r = nI (s.1 5) ∧ CD g H1 A tx s [] sv ∧ jF A 223 H0 H1)
abbrev x_X4_restore (A : Nat) (asl : Int32) (tx : List Nat) (σ : Sg) (hi : List Sg) (sv : Nat → Option Sg) : String → Prop := fun E => ((ix asl 0 2 = none) ∧ E = "java/lang/IndexOutOfBoundsException") ∨ ((∃ k, ix asl 0 2 = some k ∧ sv k = none) ∧ E = "java/lang/IllegalStateException")
set_option maxHeartbeats 4000000 in
set_option maxRecDepth 100000 in
theorem c_X4_restore (l : Launch) (hl0 : l.stackTraces = false) (g : jG) (z : Nat) (H0 : Heap) (A : Nat) (asl : Int32) (tx : List Nat) (σ : Sg) (hi : List Sg) (sv : Nat → Option Sg) (hz : z ≤ A) (hCD : CD g H0 A tx σ hi sv) : jMX l g z yX4_restore wsX4_restore 6 123 [.ref A, .int asl] H0 (q_X4_restore g H0 A asl tx σ hi sv) (x_X4_restore A asl tx σ hi sv) := by
  refine j_ofX (cc := cX4_restore) (n := 2) (ret := some .int) (by decide) rfl (Nat.le_of_ble_eq_true rfl) ?_
  intro p e s m below meth c hx hb hr hml hown hts hlocks hname hH hw hE hex ls hl
  have hl : lv_has ls 2 [(0, .ref A), (1, .int asl)] := hl
  have hinX4 : ∀ w ∈ u_ws RX4 TX4 6, w ∈ wsX4_restore := by decide +kernel
  have hf : jF A 223 H0 H0 := jF.rf
  obtain ⟨τ, Rt, hO, hT, hS, hTr, hHi, hSl, hN⟩ := hCD
  obtain ⟨hs, hcalm, h20⟩ := id hN
  have hln := opnR_len (σ := σ)
  have hl21 := hs.2.2.1
  refine lv_iload_n hx hb dX4_restore_0 rfl (lv_at hl 1 rfl) ?_
  refine j_Sp (n := 1) (As := [.int asl]) hx hb hml hown hts hw (c_X4_isSlot l g z H0 asl   ) gX4_restore_X4_isSlot rfl (by decide +kernel) ⟨Nat.le_of_ble_eq_true rfl, Nat.le_of_ble_eq_true rfl⟩ rfl hl.1 (Nat.le_of_ble_eq_true rfl) ⟨Nat.zero_le _, Nat.zero_le _⟩ dX4_restore_1 (fun r1 locs hr1 hw => ?_) rfl
  rcases hr1 with ⟨rfl, k, hk, hka, hkn, rfl⟩ | ⟨rfl, hk⟩
  · refine jz_ne (tgt := 18) hx hb dX4_restore_4 (by decide) (by omega) (fun c4 => ?_) (fun c4 => absurd c4 (by omega))
    obtain ⟨hRs, ik, hIk, hsl⟩ := hSl
    have hIk : jZ g H0 (A + 198) 2 ik := hIk
    obtain ⟨τ0, R0, hS0, hv0⟩ := hsl 0 (by decide)
    have hS0 : jSo g H0 (A + 199) τ0 R0 := hS0
    obtain ⟨τ1, R1, hS1, hv1⟩ := hsl 1 (by decide)
    have hS1 : jSo g H0 (A + 211) τ1 R1 := hS1
    have hw9 : k = 0 ∨ k = 1 := by omega
    rcases hw9 with rfl | rfl
    · rcases hv0 with ⟨hs0, hi0⟩ | ⟨s9, hs0, hi0, hτ, hR9, hN9⟩
      · refine lv_aload_n hx hb dX4_restore_18 rfl (lv_at hl 0 rfl) ?_
        refine j_get (T := TX4) (N := 6) (k := 5) hx hb hts hinX4 hown hw hO rfl (by decide) (hts (.fieldLink RX4 37 "NightTrains" "saved" "[Z") (by decide +kernel)) rfl dX4_restore_19 ?_
        refine lv_iload_n hx hb dX4_restore_22 rfl (lv_at hl 1 rfl) ?_
        refine j_zald hx hb hw hIk (k := 0) rfl (by omega) (by omega) dX4_restore_23 ?_
        refine j_eq (y := nI (0)) hi0 ?_
        refine jz_ne (tgt := 38) hx hb dX4_restore_24 (by decide) (by omega) (fun c24 => absurd c24 (by omega)) (fun c24 => ?_)
        exact j_throwW hl0 (cls := "java/lang/IllegalStateException") (text := "nothing has been saved in the slot") (ik := 52) (is := 324) (ic := 56) hx hb hml hown hlocks hH hw hE hex (by decide +kernel) hts (by decide +kernel) (by decide +kernel) (by decide +kernel) (by decide +kernel) (by decide +kernel) vx_n52 vx_g52 hl.1 dX4_restore_27 dX4_restore_30 dX4_restore_31 dX4_restore_34 dX4_restore_37 ⟨Nat.le_of_ble_eq_true rfl, Nat.le_of_ble_eq_true rfl, Nat.le_of_ble_eq_true rfl, Nat.le_of_ble_eq_true rfl⟩ (Or.inr ⟨⟨0, hk, hs0⟩, rfl⟩)
      · have hS0 : jSo g H0 (A + 199) s9 (opnR s9) := by rw [← hR9, ← hτ]; exact hS0
        refine lv_aload_n hx hb dX4_restore_18 rfl (lv_at hl 0 rfl) ?_
        refine j_get (T := TX4) (N := 6) (k := 5) hx hb hts hinX4 hown hw hO rfl (by decide) (hts (.fieldLink RX4 37 "NightTrains" "saved" "[Z") (by decide +kernel)) rfl dX4_restore_19 ?_
        refine lv_iload_n hx hb dX4_restore_22 rfl (lv_at hl 1 rfl) ?_
        refine j_zald hx hb hw hIk (k := 0) rfl (by omega) (by omega) dX4_restore_23 ?_
        refine j_eq (y := nI (1)) hi0 ?_
        refine jz_ne (tgt := 38) hx hb dX4_restore_24 (by decide) (by omega) (fun c24 => ?_) (fun c24 => absurd c24 (by omega))
        refine lv_aload_n hx hb dX4_restore_38 rfl (lv_at hl 0 rfl) ?_
        refine j_get (T := TX4) (N := 6) (k := 1) hx hb hts hinX4 hown hw hO rfl (by decide) (hts (.fieldLink RX4 19 "NightTrains" "now" "LNightTrains$Store;") (by decide +kernel)) rfl dX4_restore_39 ?_
        refine lv_aload_n hx hb dX4_restore_42 rfl (lv_at hl 0 rfl) ?_
        refine j_get (T := TX4) (N := 6) (k := 4) hx hb hts hinX4 hown hw hO rfl (by decide) (hts (.fieldLink RX4 33 "NightTrains" "slots" "[LNightTrains$Store;") (by decide +kernel)) rfl dX4_restore_43 ?_
        refine lv_iload_n hx hb dX4_restore_46 rfl (lv_at hl 1 rfl) ?_
        refine j_aaldR hx hb hw hRs (k := 0) (b := (A + 199)) rfl (by omega) (by omega) rfl dX4_restore_47 ?_
        refine j_Vv (n := 1) (As := [.ref (A + 199)]) hx hb hml hown hts hw (j_recv hw hS.obj rfl) (c_X2_copyFrom l g z H0 (A + 3) (A + 199) σ (opnR σ) s9 (opnR s9) (by omega) hS hS0 (by first | assumption | omega)) gX4_restore_X2_copyFrom rfl (by decide +kernel) ⟨Nat.le_of_ble_eq_true rfl, Nat.le_of_ble_eq_true rfl⟩ rfl hl.1 (Nat.le_of_ble_eq_true rfl) ⟨Nat.zero_le _, Nat.zero_le _⟩ dX4_restore_48 (fun H locs hr2 hw hsz => ?_) rfl
        obtain ⟨hS, hf2⟩ := hr2
        have hO := hO.kept (hf2.2 _ (by omega))
        have hT := hT.kept (fun q _ _ => hf2.2 q (by omega))
        have hTr := hTr.kept (fun q _ _ => hf2.2 q (by omega))
        have hHi := hHi.kept (fun q _ _ => hf2.2 q (by omega))
        have hRs := hRs.kept (hf2.2 _ (by omega))
        have hIk := hIk.kept (hf2.2 _ (by omega))
        have hS0 := hS0.kept (fun q _ _ => hf2.2 q (by omega))
        have hS1 := hS1.kept (fun q _ _ => hf2.2 q (by omega))
        have hf := hf.step hf2 (by omega)
        refine lv_aload_n hx hb dX4_restore_51 rfl (lv_at hl 0 rfl) ?_
        refine j_get (T := TX4) (N := 6) (k := 3) hx hb hts hinX4 hown hw hO rfl (by decide) (hts (.fieldLink RX4 29 "NightTrains" "history" "LNightTrains$History;") (by decide +kernel)) rfl dX4_restore_52 ?_
        refine j_Vv (n := 0) (As := []) hx hb hml hown hts hw (hHi.obj.elim (fun _ h9 => j_recv hw h9 rfl)) (c_X0_forget l g z H (A + 27) hi (by omega) hHi ) gX4_restore_X0_forget rfl (by decide +kernel) ⟨Nat.le_of_ble_eq_true rfl, Nat.le_of_ble_eq_true rfl⟩ rfl hl.1 (Nat.le_of_ble_eq_true rfl) ⟨Nat.zero_le _, Nat.zero_le _⟩ dX4_restore_55 (fun H locs hr3 hw hsz => ?_) rfl
        obtain ⟨hHi, hf2⟩ := hr3
        have hO := hO.kept (hf2.2 _ (by omega))
        have hT := hT.kept (fun q _ _ => hf2.2 q (by omega))
        have hS := hS.kept (fun q _ _ => hf2.2 q (by omega))
        have hTr := hTr.kept (fun q _ _ => hf2.2 q (by omega))
        have hRs := hRs.kept (hf2.2 _ (by omega))
        have hIk := hIk.kept (hf2.2 _ (by omega))
        have hS0 := hS0.kept (fun q _ _ => hf2.2 q (by omega))
        have hS1 := hS1.kept (fun q _ _ => hf2.2 q (by omega))
        have hf := hf.step hf2 (by omega)
        refine lv_aload_n hx hb dX4_restore_58 rfl (lv_at hl 0 rfl) ?_
        refine j_get (T := TX4) (N := 6) (k := 1) hx hb hts hinX4 hown hw hO rfl (by decide) (hts (.fieldLink RX4 19 "NightTrains" "now" "LNightTrains$Store;") (by decide +kernel)) rfl dX4_restore_59 ?_
        refine lv_iconst (v := (nI (0))) hx hb dX4_restore_62 (by decide) ?_
        refine j_Vp (n := 1) (As := [.int (nI (0))]) hx hb hml hown hts hw (j_recv hw hS.obj rfl) (c_X2_number l g z H (A + 3) (0) s9 (by omega) hS hN9.1 (by first | assumption | omega)) gX4_restore_X2_number rfl (by decide +kernel) ⟨Nat.le_of_ble_eq_true rfl, Nat.le_of_ble_eq_true rfl⟩ rfl hl.1 (Nat.le_of_ble_eq_true rfl) ⟨Nat.zero_le _, Nat.zero_le _⟩ dX4_restore_63 (fun r4 locs hr4 hw => ?_) rfl
        obtain rfl : r4 = (nI ((s9.1 5))) := hr4.trans rfl
        refine j_retX ?_
        refine j_iret hx hb hr hlocks hH hw dX4_restore_66 ?_
        exact ⟨_, rfl, 0, hk, s9, hs0, rfl, ⟨_, _, hO, hT, hS, hTr, hHi, (jSl.mk hRs hIk hS0 hS1 (Or.inr ⟨s9, hs0, hi0, rfl, rfl, hN9⟩) hv1), hN9⟩, hf⟩
    · rcases hv1 with ⟨hs0, hi0⟩ | ⟨s9, hs0, hi0, hτ, hR9, hN9⟩
      · refine lv_aload_n hx hb dX4_restore_18 rfl (lv_at hl 0 rfl) ?_
        refine j_get (T := TX4) (N := 6) (k := 5) hx hb hts hinX4 hown hw hO rfl (by decide) (hts (.fieldLink RX4 37 "NightTrains" "saved" "[Z") (by decide +kernel)) rfl dX4_restore_19 ?_
        refine lv_iload_n hx hb dX4_restore_22 rfl (lv_at hl 1 rfl) ?_
        refine j_zald hx hb hw hIk (k := 1) rfl (by omega) (by omega) dX4_restore_23 ?_
        refine j_eq (y := nI (0)) hi0 ?_
        refine jz_ne (tgt := 38) hx hb dX4_restore_24 (by decide) (by omega) (fun c24 => absurd c24 (by omega)) (fun c24 => ?_)
        exact j_throwW hl0 (cls := "java/lang/IllegalStateException") (text := "nothing has been saved in the slot") (ik := 52) (is := 324) (ic := 56) hx hb hml hown hlocks hH hw hE hex (by decide +kernel) hts (by decide +kernel) (by decide +kernel) (by decide +kernel) (by decide +kernel) (by decide +kernel) vx_n52 vx_g52 hl.1 dX4_restore_27 dX4_restore_30 dX4_restore_31 dX4_restore_34 dX4_restore_37 ⟨Nat.le_of_ble_eq_true rfl, Nat.le_of_ble_eq_true rfl, Nat.le_of_ble_eq_true rfl, Nat.le_of_ble_eq_true rfl⟩ (Or.inr ⟨⟨1, hk, hs0⟩, rfl⟩)
      · have hS1 : jSo g H0 (A + 211) s9 (opnR s9) := by rw [← hR9, ← hτ]; exact hS1
        refine lv_aload_n hx hb dX4_restore_18 rfl (lv_at hl 0 rfl) ?_
        refine j_get (T := TX4) (N := 6) (k := 5) hx hb hts hinX4 hown hw hO rfl (by decide) (hts (.fieldLink RX4 37 "NightTrains" "saved" "[Z") (by decide +kernel)) rfl dX4_restore_19 ?_
        refine lv_iload_n hx hb dX4_restore_22 rfl (lv_at hl 1 rfl) ?_
        refine j_zald hx hb hw hIk (k := 1) rfl (by omega) (by omega) dX4_restore_23 ?_
        refine j_eq (y := nI (1)) hi0 ?_
        refine jz_ne (tgt := 38) hx hb dX4_restore_24 (by decide) (by omega) (fun c24 => ?_) (fun c24 => absurd c24 (by omega))
        refine lv_aload_n hx hb dX4_restore_38 rfl (lv_at hl 0 rfl) ?_
        refine j_get (T := TX4) (N := 6) (k := 1) hx hb hts hinX4 hown hw hO rfl (by decide) (hts (.fieldLink RX4 19 "NightTrains" "now" "LNightTrains$Store;") (by decide +kernel)) rfl dX4_restore_39 ?_
        refine lv_aload_n hx hb dX4_restore_42 rfl (lv_at hl 0 rfl) ?_
        refine j_get (T := TX4) (N := 6) (k := 4) hx hb hts hinX4 hown hw hO rfl (by decide) (hts (.fieldLink RX4 33 "NightTrains" "slots" "[LNightTrains$Store;") (by decide +kernel)) rfl dX4_restore_43 ?_
        refine lv_iload_n hx hb dX4_restore_46 rfl (lv_at hl 1 rfl) ?_
        refine j_aaldR hx hb hw hRs (k := 1) (b := (A + 211)) rfl (by omega) (by omega) rfl dX4_restore_47 ?_
        refine j_Vv (n := 1) (As := [.ref (A + 211)]) hx hb hml hown hts hw (j_recv hw hS.obj rfl) (c_X2_copyFrom l g z H0 (A + 3) (A + 211) σ (opnR σ) s9 (opnR s9) (by omega) hS hS1 (by first | assumption | omega)) gX4_restore_X2_copyFrom rfl (by decide +kernel) ⟨Nat.le_of_ble_eq_true rfl, Nat.le_of_ble_eq_true rfl⟩ rfl hl.1 (Nat.le_of_ble_eq_true rfl) ⟨Nat.zero_le _, Nat.zero_le _⟩ dX4_restore_48 (fun H locs hr5 hw hsz => ?_) rfl
        obtain ⟨hS, hf2⟩ := hr5
        have hO := hO.kept (hf2.2 _ (by omega))
        have hT := hT.kept (fun q _ _ => hf2.2 q (by omega))
        have hTr := hTr.kept (fun q _ _ => hf2.2 q (by omega))
        have hHi := hHi.kept (fun q _ _ => hf2.2 q (by omega))
        have hRs := hRs.kept (hf2.2 _ (by omega))
        have hIk := hIk.kept (hf2.2 _ (by omega))
        have hS0 := hS0.kept (fun q _ _ => hf2.2 q (by omega))
        have hS1 := hS1.kept (fun q _ _ => hf2.2 q (by omega))
        have hf := hf.step hf2 (by omega)
        refine lv_aload_n hx hb dX4_restore_51 rfl (lv_at hl 0 rfl) ?_
        refine j_get (T := TX4) (N := 6) (k := 3) hx hb hts hinX4 hown hw hO rfl (by decide) (hts (.fieldLink RX4 29 "NightTrains" "history" "LNightTrains$History;") (by decide +kernel)) rfl dX4_restore_52 ?_
        refine j_Vv (n := 0) (As := []) hx hb hml hown hts hw (hHi.obj.elim (fun _ h9 => j_recv hw h9 rfl)) (c_X0_forget l g z H (A + 27) hi (by omega) hHi ) gX4_restore_X0_forget rfl (by decide +kernel) ⟨Nat.le_of_ble_eq_true rfl, Nat.le_of_ble_eq_true rfl⟩ rfl hl.1 (Nat.le_of_ble_eq_true rfl) ⟨Nat.zero_le _, Nat.zero_le _⟩ dX4_restore_55 (fun H locs hr6 hw hsz => ?_) rfl
        obtain ⟨hHi, hf2⟩ := hr6
        have hO := hO.kept (hf2.2 _ (by omega))
        have hT := hT.kept (fun q _ _ => hf2.2 q (by omega))
        have hS := hS.kept (fun q _ _ => hf2.2 q (by omega))
        have hTr := hTr.kept (fun q _ _ => hf2.2 q (by omega))
        have hRs := hRs.kept (hf2.2 _ (by omega))
        have hIk := hIk.kept (hf2.2 _ (by omega))
        have hS0 := hS0.kept (fun q _ _ => hf2.2 q (by omega))
        have hS1 := hS1.kept (fun q _ _ => hf2.2 q (by omega))
        have hf := hf.step hf2 (by omega)
        refine lv_aload_n hx hb dX4_restore_58 rfl (lv_at hl 0 rfl) ?_
        refine j_get (T := TX4) (N := 6) (k := 1) hx hb hts hinX4 hown hw hO rfl (by decide) (hts (.fieldLink RX4 19 "NightTrains" "now" "LNightTrains$Store;") (by decide +kernel)) rfl dX4_restore_59 ?_
        refine lv_iconst (v := (nI (0))) hx hb dX4_restore_62 (by decide) ?_
        refine j_Vp (n := 1) (As := [.int (nI (0))]) hx hb hml hown hts hw (j_recv hw hS.obj rfl) (c_X2_number l g z H (A + 3) (0) s9 (by omega) hS hN9.1 (by first | assumption | omega)) gX4_restore_X2_number rfl (by decide +kernel) ⟨Nat.le_of_ble_eq_true rfl, Nat.le_of_ble_eq_true rfl⟩ rfl hl.1 (Nat.le_of_ble_eq_true rfl) ⟨Nat.zero_le _, Nat.zero_le _⟩ dX4_restore_63 (fun r7 locs hr7 hw => ?_) rfl
        obtain rfl : r7 = (nI ((s9.1 5))) := hr7.trans rfl
        refine j_retX ?_
        refine j_iret hx hb hr hlocks hH hw dX4_restore_66 ?_
        exact ⟨_, rfl, 1, hk, s9, hs0, rfl, ⟨_, _, hO, hT, hS, hTr, hHi, (jSl.mk hRs hIk hS0 hS1 hv0 (Or.inr ⟨s9, hs0, hi0, rfl, rfl, hN9⟩)), hN9⟩, hf⟩
  · refine jz_ne (tgt := 18) hx hb dX4_restore_4 (by decide) (by omega) (fun c4 => absurd c4 (by omega)) (fun c4 => ?_)
    exact j_throwW hl0 (cls := "java/lang/IndexOutOfBoundsException") (text := "no such save slot") (ik := 125) (is := 322) (ic := 129) hx hb hml hown hlocks hH hw hE hex (by decide +kernel) hts (by decide +kernel) (by decide +kernel) (by decide +kernel) (by decide +kernel) (by decide +kernel) vx_n125 vx_g125 hl.1 dX4_restore_7 dX4_restore_10 dX4_restore_11 dX4_restore_14 dX4_restore_17 ⟨Nat.le_of_ble_eq_true rfl, Nat.le_of_ble_eq_true rfl, Nat.le_of_ble_eq_true rfl, Nat.le_of_ble_eq_true rfl⟩ (Or.inl ⟨hk, rfl⟩)
