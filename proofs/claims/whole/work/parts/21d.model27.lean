abbrev q_X4_wouldNumber (g : jG) (H0 : Heap) (wh : Int32) : Option Value → Heap → Prop := jN (fun r H1 => H1 = H0 ∧ ((∃ u, ix wh 0 4 = some u ∧ u < 4 ∧ r = nI (wn u)) ∨ (ix wh 0 4 = none ∧ r = -1)))
set_option maxHeartbeats 4000000 in
set_option maxRecDepth 100000 in
theorem c_X4_wouldNumber (l : Launch) (g : jG) (z : Nat) (H0 : Heap) (wh : Int32)  : jM l g z yX4_wouldNumber wsX4_wouldNumber 0 0 [.int wh] H0 (q_X4_wouldNumber g H0 wh) := by
  refine j_of (cc := cX4_wouldNumber) (n := 1) (ret := some .int) (by decide) rfl (Nat.le_of_ble_eq_true rfl) ?_
  intro p e s m below meth c hx hb hr hml hown hts hlocks hname hH hw ls hl
  have hl : lv_has ls 1 [(0, .int wh)] := hl
  rcases hu : ix wh 0 4 with _ | u
  · have hno := ix_no hu
    refine lv_iload_n hx hb dX4_wouldNumber_0 rfl (lv_at hl 0 rfl) ?_
    refine lv_tableOut (tgt := 41) hx hb dX4_wouldNumber_1 (by omega) (by decide) ?_
    refine lv_iconst (v := (-1)) hx hb dX4_wouldNumber_41 (by decide) ?_
    refine j_iret hx hb hr hlocks hH hw dX4_wouldNumber_42 ?_
    exact ⟨_, rfl, rfl, Or.inr ⟨hu, rfl⟩⟩
  · obtain ⟨-, hun, rfl⟩ := ix_some hu
    have hw9 : u = 0 ∨ u = 1 ∨ u = 2 ∨ u = 3 := by omega
    rcases hw9 with hw9 | hw9 | hw9 | hw9
    · subst hw9
      refine lv_iload_n hx hb dX4_wouldNumber_0 rfl (lv_at hl 0 rfl) ?_
      refine lv_tableIn (tgt := 32) hx hb dX4_wouldNumber_1 (by decide) (by decide) (off := 31) (by decide) (by decide) ?_
      refine lv_iconst (v := (nI (2))) hx hb dX4_wouldNumber_32 (by decide) ?_
      refine j_iret hx hb hr hlocks hH hw dX4_wouldNumber_33 ?_
      exact ⟨_, rfl, rfl, Or.inl ⟨_, hu, hun, rfl⟩⟩
    · subst hw9
      refine lv_iload_n hx hb dX4_wouldNumber_0 rfl (lv_at hl 0 rfl) ?_
      refine lv_tableIn (tgt := 34) hx hb dX4_wouldNumber_1 (by decide) (by decide) (off := 33) (by decide) (by decide) ?_
      refine lv_iconst (v := (nI (3))) hx hb dX4_wouldNumber_34 (by decide) ?_
      refine j_iret hx hb hr hlocks hH hw dX4_wouldNumber_35 ?_
      exact ⟨_, rfl, rfl, Or.inl ⟨_, hu, hun, rfl⟩⟩
    · subst hw9
      refine lv_iload_n hx hb dX4_wouldNumber_0 rfl (lv_at hl 0 rfl) ?_
      refine lv_tableIn (tgt := 36) hx hb dX4_wouldNumber_1 (by decide) (by decide) (off := 35) (by decide) (by decide) ?_
      refine lv_iconst (v := (nI (5))) hx hb dX4_wouldNumber_36 (by decide) ?_
      refine j_iret hx hb hr hlocks hH hw dX4_wouldNumber_37 ?_
      exact ⟨_, rfl, rfl, Or.inl ⟨_, hu, hun, rfl⟩⟩
    · subst hw9
      refine lv_iload_n hx hb dX4_wouldNumber_0 rfl (lv_at hl 0 rfl) ?_
      refine lv_tableIn (tgt := 38) hx hb dX4_wouldNumber_1 (by decide) (by decide) (off := 37) (by decide) (by decide) ?_
      refine lv_bipush (v := (nI (9))) hx hb dX4_wouldNumber_38 (by decide) ?_
      refine j_iret hx hb hr hlocks hH hw dX4_wouldNumber_40 ?_
      exact ⟨_, rfl, rfl, Or.inl ⟨_, hu, hun, rfl⟩⟩

abbrev q_X4_would (g : jG) (H0 : Heap) (A : Nat) (an : Int32) (what : Int32) (tx : List Nat) (σ : Sg) (hi : List Sg) (sv : Nat → Option Sg) (K : Nat) : Option Value → Heap → Prop := jN (fun r H1 => fWould σ an what = (0, r) ∧ CD g H1 A tx σ hi sv ∧ jF A 223 H0 H1)
abbrev x_X4_would (A : Nat) (an : Int32) (what : Int32) (tx : List Nat) (σ : Sg) (hi : List Sg) (sv : Nat → Option Sg) (K : Nat) : String → Prop := fun E => ((fWould σ an what = (1, 0)) ∧ E = "java/lang/IllegalArgumentException")
set_option maxHeartbeats 4000000 in
set_option maxRecDepth 100000 in
theorem c_X4_would (l : Launch) (hl0 : l.stackTraces = false) (g : jG) (z : Nat) (H0 : Heap) (A : Nat) (an : Int32) (what : Int32) (tx : List Nat) (σ : Sg) (hi : List Sg) (sv : Nat → Option Sg) (K : Nat) (hz : z ≤ A) (hCD : CD g H0 A tx σ hi sv) (hlim : lim K σ) (hK : K < 2 ^ 29) : jMX l g z yX4_would wsX4_would 7 174 [.ref A, .int an, .int what] H0 (q_X4_would g H0 A an what tx σ hi sv K) (x_X4_would A an what tx σ hi sv K) := by
  refine j_ofX (cc := cX4_would) (n := 4) (ret := some .int) (by decide) rfl (Nat.le_of_ble_eq_true rfl) ?_
  intro p e s m below meth c hx hb hr hml hown hts hlocks hname hH hw hE hex ls hl
  have hl : lv_has ls 4 [(0, .ref A), (1, .int an), (2, .int what)] := hl
  have hinX4 : ∀ w ∈ u_ws RX4 TX4 6, w ∈ wsX4_would := by decide +kernel
  have hf : jF A 223 H0 H0 := jF.rf
  obtain ⟨τ, Rt, hO, hT, hS, hTr, hHi, hSl, hN⟩ := hCD
  obtain ⟨hs, hcalm, h20⟩ := id hN
  have hln := opnR_len (σ := σ)
  have hl21 := hs.2.2.1
  obtain ⟨hk7, hk10, hk12, hk30⟩ := id hlim
  refine lv_iload_n hx hb dX4_would_0 rfl (lv_at hl 1 rfl) ?_
  refine lv_if_lt (tgt := 10) hx hb dX4_would_1 (by decide) (fun c1 => ?_) (fun c1 => ?_)
  · exact j_throwW hl0 (cls := "java/lang/IllegalArgumentException") (text := "n is 0 to 60") (ik := 41) (is := 278) (ic := 45) hx hb hml hown hlocks hH hw hE hex (by decide +kernel) hts (by decide +kernel) (by decide +kernel) (by decide +kernel) (by decide +kernel) (by decide +kernel) vx_n41 vx_g41 hl.1 dX4_would_10 dX4_would_13 dX4_would_14 dX4_would_17 dX4_would_20 ⟨Nat.le_of_ble_eq_true rfl, Nat.le_of_ble_eq_true rfl, Nat.le_of_ble_eq_true rfl, Nat.le_of_ble_eq_true rfl⟩ (⟨(by first | simp only [fWould, ix_lt0 (n := 61) c1] | simp only [fWould, ix_hi (x := an) (a := 0) (n := 60) (by decide) (by first | exact c7 | exact Int32.not_le.mp c7)]), rfl⟩)
  · refine lv_iload_n hx hb dX4_would_4 rfl (lv_at hl 1 rfl) ?_
    refine lv_bipush (v := (nI (60))) hx hb dX4_would_5 (by decide) ?_
    refine lv_icmp_le (tgt := 21) hx hb dX4_would_7 (by decide) (fun c7 => ?_) (fun c7 => ?_)
    · obtain ⟨k, hk, -, hkn, rfl⟩ := ix_both2 (x := an) (n := 60) (by decide) c1 (by first | exact Int32.not_lt.mpr c7 | exact c7)
      refine lv_iload_n hx hb dX4_would_21 rfl (lv_at hl 2 rfl) ?_
      refine j_Sp (n := 1) (As := [.int what]) hx hb hml hown hts hw (c_X4_wouldNumber l g z H0 what   ) gX4_would_X4_wouldNumber rfl (by decide +kernel) ⟨Nat.le_of_ble_eq_true rfl, Nat.le_of_ble_eq_true rfl⟩ rfl hl.1 (Nat.le_of_ble_eq_true rfl) ⟨Nat.zero_le _, Nat.zero_le _⟩ dX4_would_22 (fun r1 locs hr1 hw => ?_) rfl
      rcases hr1 with ⟨u, hu, hun, rfl⟩ | ⟨hu, rfl⟩
      · have hwn : wn u < 11 := by unfold wn; split <;> omega
        refine lv_istore_n (lv' := [(3, .int _), (0, .ref _), (1, .int _), (2, .int _)]) hx hb dX4_would_25 rfl hl (by decide) rfl (fun ls hl => ?_)
        refine lv_iload_n hx hb dX4_would_26 rfl (lv_at hl 0 rfl) ?_
        refine lv_iconst (v := (-1)) hx hb dX4_would_27 (by decide) ?_
        refine lv_icmp_ne (tgt := 41) hx hb dX4_would_28 (by decide) (fun _ => ?_) (fun q => absurd q (nI_ne_m1 (by omega)))
        refine lv_aload_n hx hb dX4_would_41 rfl (lv_at hl 1 rfl) ?_
        refine j_get (T := TX4) (N := 6) (k := 2) hx hb hts hinX4 hown hw hO rfl (by decide) (hts (.fieldLink RX4 23 "NightTrains" "trial" "LNightTrains$Store;") (by decide +kernel)) rfl dX4_would_42 ?_
        refine lv_aload_n hx hb dX4_would_45 rfl (lv_at hl 1 rfl) ?_
        refine j_get (T := TX4) (N := 6) (k := 1) hx hb hts hinX4 hown hw hO rfl (by decide) (hts (.fieldLink RX4 19 "NightTrains" "now" "LNightTrains$Store;") (by decide +kernel)) rfl dX4_would_46 ?_
        refine j_Vv (n := 1) (As := [.ref (A + 3)]) hx hb hml hown hts hw (j_recv hw hTr.obj rfl) (c_X2_copyFrom l g z H0 (A + 15) (A + 3) τ Rt σ (opnR σ) (by omega) hTr hS (by omega)) gX4_would_X2_copyFrom rfl (by decide +kernel) ⟨Nat.le_of_ble_eq_true rfl, Nat.le_of_ble_eq_true rfl⟩ rfl hl.1 (Nat.le_of_ble_eq_true rfl) ⟨Nat.zero_le _, Nat.zero_le _⟩ dX4_would_49 (fun H locs hr2 hw hsz => ?_) rfl
        obtain ⟨hTr, hf2⟩ := hr2
        have hO := hO.kept (hf2.2 _ (by omega))
        have hT := hT.kept (fun q _ _ => hf2.2 q (by omega))
        have hS := hS.kept (fun q _ _ => hf2.2 q (by omega))
        have hHi := hHi.kept (fun q _ _ => hf2.2 q (by omega))
        have hSl := hSl.kept (fun q _ _ => hf2.2 q (by omega))
        have hf := hf.step hf2 (by omega)
        refine lv_aload_n hx hb dX4_would_52 rfl (lv_at hl 1 rfl) ?_
        refine j_get (T := TX4) (N := 6) (k := 2) hx hb hts hinX4 hown hw hO rfl (by decide) (hts (.fieldLink RX4 23 "NightTrains" "trial" "LNightTrains$Store;") (by decide +kernel)) rfl dX4_would_53 ?_
        refine lv_iload_n hx hb dX4_would_56 rfl (lv_at hl 2 rfl) ?_
        refine j_Vv (n := 1) (As := [.int (nI (k))]) hx hb hml hown hts hw (j_recv hw hTr.obj rfl) (c_X2_passNights l g z H (A + 15) (k) σ (by omega) hTr hs hcalm (by omega) (by omega)) gX4_would_X2_passNights rfl (by decide +kernel) ⟨Nat.le_of_ble_eq_true rfl, Nat.le_of_ble_eq_true rfl⟩ rfl hl.1 (Nat.le_of_ble_eq_true rfl) ⟨Nat.zero_le _, Nat.zero_le _⟩ dX4_would_57 (fun H locs hr3 hw hsz => ?_) rfl
        obtain ⟨hTr, hf2⟩ := hr3
        have hO := hO.kept (hf2.2 _ (by omega))
        have hT := hT.kept (fun q _ _ => hf2.2 q (by omega))
        have hS := hS.kept (fun q _ _ => hf2.2 q (by omega))
        have hHi := hHi.kept (fun q _ _ => hf2.2 q (by omega))
        have hSl := hSl.kept (fun q _ _ => hf2.2 q (by omega))
        have hf := hf.step hf2 (by omega)
        refine lv_aload_n hx hb dX4_would_60 rfl (lv_at hl 1 rfl) ?_
        refine lv_iload_n hx hb dX4_would_61 rfl (lv_at hl 0 rfl) ?_
        refine j_Vp (n := 1) (As := [.int (nI (wn u))]) hx hb hml hown hts hw (j_recv hw hO rfl) (c_X4_more l g z H A (wn u) σ (nightsS (k) σ) hz hO hS hTr hs (okS_nights hs k) (by first | assumption | omega)) gX4_would_X4_more rfl (by decide +kernel) ⟨Nat.le_of_ble_eq_true rfl, Nat.le_of_ble_eq_true rfl⟩ rfl hl.1 (Nat.le_of_ble_eq_true rfl) ⟨Nat.zero_le _, Nat.zero_le _⟩ dX4_would_62 (fun r4 locs hr4 hw => ?_) rfl
        obtain rfl : r4 = nI ((nightsS k σ).1 (wc u)) - nI (σ.1 (wc u)) := hr4.trans (by rw [wn_ab hun, wn_ab hun])
        refine j_retX ?_
        refine j_iret hx hb hr hlocks hH hw dX4_would_65 ?_
        have e9 : fWould σ (nI (k)) what = (0, nI ((nightsS k σ).1 (wc u)) - nI (σ.1 (wc u))) := by simp only [fWould, hk, hu]
        exact ⟨_, rfl, e9, ⟨_, _, hO, hT, hS, hTr, hHi, hSl, hN⟩, hf⟩
      · refine lv_istore_n (lv' := [(3, .int _), (0, .ref _), (1, .int _), (2, .int _)]) hx hb dX4_would_25 rfl hl (by decide) rfl (fun ls hl => ?_)
        refine lv_iload_n hx hb dX4_would_26 rfl (lv_at hl 0 rfl) ?_
        refine lv_iconst (v := (-1)) hx hb dX4_would_27 (by decide) ?_
        refine lv_icmp_ne (tgt := 41) hx hb dX4_would_28 (by decide) (fun q => absurd rfl q) (fun _ => ?_)
        exact j_throw hl0 (cls := "java/lang/IllegalArgumentException") (text := "what is 0 to 3") (ik := 41) (is := 157) (ic := 45) hx hb hml hown hlocks hH hw hE hex (by decide +kernel) hts (by decide +kernel) (by decide +kernel) (by decide +kernel) (by decide +kernel) (by decide +kernel) vx_n41 vx_g41 hl.1 dX4_would_31 dX4_would_34 dX4_would_35 dX4_would_37 dX4_would_40 ⟨Nat.le_of_ble_eq_true rfl, Nat.le_of_ble_eq_true rfl, Nat.le_of_ble_eq_true rfl, Nat.le_of_ble_eq_true rfl⟩ (⟨(by simp only [fWould, hk, hu]), rfl⟩)
    · exact j_throwW hl0 (cls := "java/lang/IllegalArgumentException") (text := "n is 0 to 60") (ik := 41) (is := 278) (ic := 45) hx hb hml hown hlocks hH hw hE hex (by decide +kernel) hts (by decide +kernel) (by decide +kernel) (by decide +kernel) (by decide +kernel) (by decide +kernel) vx_n41 vx_g41 hl.1 dX4_would_10 dX4_would_13 dX4_would_14 dX4_would_17 dX4_would_20 ⟨Nat.le_of_ble_eq_true rfl, Nat.le_of_ble_eq_true rfl, Nat.le_of_ble_eq_true rfl, Nat.le_of_ble_eq_true rfl⟩ (⟨(by first | simp only [fWould, ix_lt0 (n := 61) c1] | simp only [fWould, ix_hi (x := an) (a := 0) (n := 60) (by decide) (by first | exact c7 | exact Int32.not_le.mp c7)]), rfl⟩)

abbrev q_X4_arrives (g : jG) (H0 : Heap) (A : Nat) (ai : Int32) (tx : List Nat) (σ : Sg) (hi : List Sg) (sv : Nat → Option Sg) (K : Nat) : Option Value → Heap → Prop := jN (fun r H1 => fArrives σ ai = (0, r) ∧ CD g H1 A tx σ hi sv ∧ jF A 223 H0 H1)
abbrev x_X4_arrives (A : Nat) (ai : Int32) (tx : List Nat) (σ : Sg) (hi : List Sg) (sv : Nat → Option Sg) (K : Nat) : String → Prop := fun E => ((fArrives σ ai = (1, 0)) ∧ E = "java/lang/IndexOutOfBoundsException")
set_option maxHeartbeats 4000000 in
set_option maxRecDepth 100000 in
theorem c_X4_arrives (l : Launch) (hl0 : l.stackTraces = false) (g : jG) (z : Nat) (H0 : Heap) (A : Nat) (ai : Int32) (tx : List Nat) (σ : Sg) (hi : List Sg) (sv : Nat → Option Sg) (K : Nat) (hz : z ≤ A) (hCD : CD g H0 A tx σ hi sv) (hlim : lim K σ) (hK : K < 2 ^ 29) (hflat : flat σ) : jMX l g z yX4_arrives wsX4_arrives 7 174 [.ref A, .int ai] H0 (q_X4_arrives g H0 A ai tx σ hi sv K) (x_X4_arrives A ai tx σ hi sv K) := by
  refine j_ofX (cc := cX4_arrives) (n := 5) (ret := some .int) (by decide) rfl (Nat.le_of_ble_eq_true rfl) ?_
  intro p e s m below meth c hx hb hr hml hown hts hlocks hname hH hw hE hex ls hl
  have hl : lv_has ls 5 [(0, .ref A), (1, .int ai)] := hl
  have hinX4 : ∀ w ∈ u_ws RX4 TX4 6, w ∈ wsX4_arrives := by decide +kernel
  have hinX2 : ∀ w ∈ u_ws RX2 TX2 9, w ∈ wsX4_arrives := by decide +kernel
  have hf : jF A 223 H0 H0 := jF.rf
  obtain ⟨τ, Rt, hO, hT, hS, hTr, hHi, hSl, hN⟩ := hCD
  obtain ⟨hs, hcalm, h20⟩ := id hN
  have hln := opnR_len (σ := σ)
  have hl21 := hs.2.2.1
  obtain ⟨hk7, hk10, hk12, hk30⟩ := id hlim
  refine lv_aload_n hx hb dX4_arrives_0 rfl (lv_at hl 0 rfl) ?_
  refine j_get (T := TX4) (N := 6) (k := 1) hx hb hts hinX4 hown hw hO rfl (by decide) (hts (.fieldLink RX4 19 "NightTrains" "now" "LNightTrains$Store;") (by decide +kernel)) rfl dX4_arrives_1 ?_
  obtain ⟨ses1, pus1, dts1, las1, frs1, tks1, cts1, hOs1, hses1, hpus1, hdts1, hlas1, hfrs1, htks1, hops1, hlts1, hcts1, hSs1⟩ := hS
  have hOs1 : jO g H0 (A + 3) 2 [.ref (A + 4), .ref (A + 5), .ref (A + 6), .ref (A + 7), .ref (A + 8), .ref (A + 9), .ref (A + 10), .ref (A + 12), .ref (A + 14)] := hOs1
  have hses1 : jI g H0 (A + 4) 5 ses1 := hses1
  have hpus1 : jI g H0 (A + 5) 4 pus1 := hpus1
  have hdts1 : jI g H0 (A + 6) 4 dts1 := hdts1
  have hlas1 : jI g H0 (A + 7) 4 las1 := hlas1
  have hfrs1 : jI g H0 (A + 8) 16 frs1 := hfrs1
  have htks1 : jI g H0 (A + 9) 16 tks1 := htks1
  have hcts1 : jI g H0 (A + 14) 11 cts1 := hcts1
  have hops1 : jOr g H0 (A + 10) (opnR σ) := hops1
  have hlts1 : jOr g H0 (A + 12) (latR σ) := hlts1
  refine j_get (T := TX2) (N := 9) (k := 6) hx hb hts hinX2 hown hw hOs1 rfl (by decide) (hts (.fieldLink RX4 116 "NightTrains$Store" "open" "LNightTrains$Orders;") (by decide +kernel)) rfl dX4_arrives_4 ?_
  refine lv_iload_n hx hb dX4_arrives_7 rfl (lv_at hl 1 rfl) ?_
  refine j_Vp (n := 1) (As := [.int ai]) hx hb hml hown hts hw (j_recv hw hops1.1 rfl) (c_X1_has l g z H0 (A + 10) ai (opnR σ) (by omega) hops1 ) gX4_arrives_X1_has rfl (by decide +kernel) ⟨Nat.le_of_ble_eq_true rfl, Nat.le_of_ble_eq_true rfl⟩ rfl hl.1 (Nat.le_of_ble_eq_true rfl) ⟨Nat.zero_le _, Nat.zero_le _⟩ dX4_arrives_8 (fun r2 locs hr2 hw => ?_) rfl
  rw [hln] at hr2
  rcases hr2 with ⟨rfl, q, hq, hqa, hqn, rfl⟩ | ⟨rfl, hq⟩
  · refine jz_ne (tgt := 24) hx hb dX4_arrives_11 (by decide) (by omega) (fun c11 => ?_) (fun c11 => absurd c11 (by omega))
    obtain ⟨o, ho⟩ := getO hqn
    have hoo := hs.2.2.2.1 o (memO ho)
    have ho4 := hcalm o (memO ho)
    obtain ⟨ho0, ho1, ho2, ho3, ho4b, ho5⟩ := hoo
    have hP := hs.1
    refine lv_aload_n hx hb dX4_arrives_24 rfl (lv_at hl 0 rfl) ?_
    refine j_get (T := TX4) (N := 6) (k := 1) hx hb hts hinX4 hown hw hO rfl (by decide) (hts (.fieldLink RX4 19 "NightTrains" "now" "LNightTrains$Store;") (by decide +kernel)) rfl dX4_arrives_25 ?_
    refine j_get (T := TX2) (N := 9) (k := 6) hx hb hts hinX2 hown hw hOs1 rfl (by decide) (hts (.fieldLink RX4 116 "NightTrains$Store" "open" "LNightTrains$Orders;") (by decide +kernel)) rfl dX4_arrives_28 ?_
    refine lv_iload_n hx hb dX4_arrives_31 rfl (lv_at hl 1 rfl) ?_
    refine lv_iconst (v := (nI (1))) hx hb dX4_arrives_32 (by decide) ?_
    refine j_Vp (n := 2) (As := [.int (nI (q)), .int (nI (1))]) hx hb hml hown hts hw (j_recv hw hops1.1 rfl) (c_X1_get l g z H0 (A + 10) (nI (q)) (nI (1)) (opnR σ) (by omega) hops1 ) gX4_arrives_X1_get rfl (by decide +kernel) ⟨Nat.le_of_ble_eq_true rfl, Nat.le_of_ble_eq_true rfl⟩ rfl hl.1 (Nat.le_of_ble_eq_true rfl) ⟨Nat.zero_le _, Nat.zero_le _⟩ dX4_arrives_33 (fun r3 locs hr3 hw => ?_) rfl
    obtain rfl : r3 = nI (o 1) := hr3.trans (gtR_o (opnR_get ho) (by decide) (by omega))
    refine lv_istore_n (lv' := [(2, .int _), (0, .ref _), (1, .int _)]) hx hb dX4_arrives_36 rfl hl (by decide) rfl (fun ls hl => ?_)
    refine lv_iconst (v := (nI (1))) hx hb dX4_arrives_37 (by decide) ?_
    refine lv_aload_n hx hb dX4_arrives_38 rfl (lv_at hl 1 rfl) ?_
    refine j_get (T := TX4) (N := 6) (k := 1) hx hb hts hinX4 hown hw hO rfl (by decide) (hts (.fieldLink RX4 19 "NightTrains" "now" "LNightTrains$Store;") (by decide +kernel)) rfl dX4_arrives_39 ?_
    refine j_get (T := TX2) (N := 9) (k := 0) hx hb hts hinX2 hown hw hOs1 rfl (by decide) (hts (.fieldLink RX4 187 "NightTrains$Store" "settings" "[I") (by decide +kernel)) rfl dX4_arrives_42 ?_
    refine lv_iconst (v := (nI (3))) hx hb dX4_arrives_45 (by decide) ?_
    refine j_iald hx hb hw hses1 (k := 3) rfl (by omega) (by omega) dX4_arrives_46 ?_
    refine j_eq (y := nI (σ.1 3)) (hSs1.rse (k := 3) (by omega)) ?_
    refine lv_aload_n hx hb dX4_arrives_47 rfl (lv_at hl 1 rfl) ?_
    refine j_get (T := TX4) (N := 6) (k := 1) hx hb hts hinX4 hown hw hO rfl (by decide) (hts (.fieldLink RX4 19 "NightTrains" "now" "LNightTrains$Store;") (by decide +kernel)) rfl dX4_arrives_48 ?_
    refine j_get (T := TX2) (N := 9) (k := 6) hx hb hts hinX2 hown hw hOs1 rfl (by decide) (hts (.fieldLink RX4 116 "NightTrains$Store" "open" "LNightTrains$Orders;") (by decide +kernel)) rfl dX4_arrives_51 ?_
    refine lv_iload_n hx hb dX4_arrives_54 rfl (lv_at hl 2 rfl) ?_
    refine lv_iconst (v := (nI (4))) hx hb dX4_arrives_55 (by decide) ?_
    refine j_Vp (n := 2) (As := [.int (nI (q)), .int (nI (4))]) hx hb hml hown hts hw (j_recv hw hops1.1 rfl) (c_X1_get l g z H0 (A + 10) (nI (q)) (nI (4)) (opnR σ) (by omega) hops1 ) gX4_arrives_X1_get rfl (by decide +kernel) ⟨Nat.le_of_ble_eq_true rfl, Nat.le_of_ble_eq_true rfl⟩ rfl hl.1 (Nat.le_of_ble_eq_true rfl) ⟨Nat.zero_le _, Nat.zero_le _⟩ dX4_arrives_56 (fun r4 locs hr4 hw => ?_) rfl
    obtain rfl : r4 = nI (o 4) := hr4.trans (gtR_o (opnR_get ho) (by decide) (by omega))
    refine lv_isub hx hb dX4_arrives_59 ?_
    refine j_max (own := RX4) hx hb hml hown hts (by decide +kernel) (by decide +kernel) (by decide +kernel) (by decide +kernel) (Nat.le_of_ble_eq_true rfl) (Nat.le_of_ble_eq_true rfl) ⟨Nat.zero_le _, Nat.zero_le _⟩ hl.1 dX4_arrives_60 ?_
    refine j_eq (y := nI (mxL (σ.1 3) (o 4))) (mxL_eq (by omega) (by omega)) ?_
    have hmx : mxL (σ.1 3) (o 4) ≤ 9 := mxL_le (by omega)
    refine lv_istore_n (lv' := [(3, .int _), (2, .int _), (0, .ref _), (1, .int _)]) hx hb dX4_arrives_63 rfl hl (by decide) rfl (fun ls hl => ?_)
    refine lv_aload_n hx hb dX4_arrives_64 rfl (lv_at hl 2 rfl) ?_
    refine j_get (T := TX4) (N := 6) (k := 2) hx hb hts hinX4 hown hw hO rfl (by decide) (hts (.fieldLink RX4 23 "NightTrains" "trial" "LNightTrains$Store;") (by decide +kernel)) rfl dX4_arrives_65 ?_
    refine lv_aload_n hx hb dX4_arrives_68 rfl (lv_at hl 2 rfl) ?_
    refine j_get (T := TX4) (N := 6) (k := 1) hx hb hts hinX4 hown hw hO rfl (by decide) (hts (.fieldLink RX4 19 "NightTrains" "now" "LNightTrains$Store;") (by decide +kernel)) rfl dX4_arrives_69 ?_
    have hS5 : jSo g H0 (A + 3) σ (opnR σ) := ⟨ses1, pus1, dts1, las1, frs1, tks1, cts1, hOs1, hses1, hpus1, hdts1, hlas1, hfrs1, htks1, hops1, hlts1, hcts1, hSs1⟩
    refine j_Vv (n := 1) (As := [.ref (A + 3)]) hx hb hml hown hts hw (j_recv hw hTr.obj rfl) (c_X2_copyFrom l g z H0 (A + 15) (A + 3) τ Rt σ (opnR σ) (by omega) hTr hS5 (by omega)) gX4_arrives_X2_copyFrom rfl (by decide +kernel) ⟨Nat.le_of_ble_eq_true rfl, Nat.le_of_ble_eq_true rfl⟩ rfl hl.1 (Nat.le_of_ble_eq_true rfl) ⟨Nat.zero_le _, Nat.zero_le _⟩ dX4_arrives_72 (fun H locs hr6 hw hsz => ?_) rfl
    obtain ⟨hTr, hf2⟩ := hr6
    have hO := hO.kept (hf2.2 _ (by omega))
    have hT := hT.kept (fun q _ _ => hf2.2 q (by omega))
    have hHi := hHi.kept (fun q _ _ => hf2.2 q (by omega))
    have hSl := hSl.kept (fun q _ _ => hf2.2 q (by omega))
    have hS5 := hS5.kept (fun q _ _ => hf2.2 q (by omega))
    have hf := hf.step hf2 (by omega)
    refine lv_iconst (v := (nI (1))) hx hb dX4_arrives_75 (by decide) ?_
    refine lv_istore (lv' := [(4, .int _), (3, .int _), (2, .int _), (0, .ref _), (1, .int _)]) hx hb dX4_arrives_76 hl (by decide) rfl (fun ls hl => ?_)
    have lp78 : ∀ (n78 : Nat) (k : Nat) (hk : k ≤ mxL (σ.1 3) (o 4)) (hAI : k < mxL (σ.1 3) (o 4) → AI σ q o k) (hkm : k = mxL (σ.1 3) (o 4) → arvR σ q o = -1) (hmu78 : 20 - k < n78) (H : Heap) (locs : List Loc) (hw : jW g z s H locs) (hf : jF A 223 H0 H) (hO : jO g H A 4 [.ref (A + 1), .ref (A + 3), .ref (A + 15), .ref (A + 27), .ref (A + 197), .ref (A + 198)]) (hT : jTe g H (A + 1) tx) (hS5 : jSo g H (A + 3) σ (opnR σ)) (hTr : jSo g H (A + 15) (nightsS k σ) (opnR (nightsS k σ))) (hHi : jHi g H (A + 27) hi) (hSl : jSl g H (A + 197) sv) (ls : Array Slot) (hl : lv_has ls 5 [(0, .ref A), (2, .int (nI ((o 1)))), (3, .int (nI (mxL (σ.1 3) (o 4)))), (4, .int (nI (k + 1)))]), jKX p l e 7 174 s m [.ref A, .int (nI (q))] below meth c z H0 (q_X4_arrives g H0 A (nI (q)) tx σ hi sv K) (x_X4_arrives A (nI (q)) tx σ hi sv K) H locs (F0 m 78 ls []) := by
      intro n78
      induction n78 with
      | zero => intros; omega
      | succ n78 ih78 =>
        intro k hk hAI hkm hmu78 H locs hw hf hO hT hS5 hTr hHi hSl ls hl
        refine lv_iload hx hb dX4_arrives_78 (lv_at hl 3 rfl) ?_
        refine lv_iload_n hx hb dX4_arrives_80 rfl (lv_at hl 2 rfl) ?_
        refine jn_gt (tgt := 116) hx hb dX4_arrives_81 (by decide) (by omega) (by omega) (fun c81 => ?_) (fun c81 => ?_)
        · refine lv_iconst (v := (-1)) hx hb dX4_arrives_116 (by decide) ?_
          refine j_retX ?_
          refine j_iret hx hb hr hlocks hH hw dX4_arrives_117 ?_
          have e9 : fArrives σ (nI q) = (0, -1) := by simp only [fArrives, hq, ho]; exact congrArg (fun x => (0, x)) (hkm (by omega))
          exact ⟨_, rfl, e9, ⟨_, _, hO, hT, hS5, hTr, hHi, hSl, hN⟩, hf⟩
        · have hAI := hAI (by omega)
          have hk9 : k < 9 := by omega
          have hlk0 := (lim_nights hs hlim k).2.2.1
          refine lv_aload_n hx hb dX4_arrives_84 rfl (lv_at hl 0 rfl) ?_
          refine j_get (T := TX4) (N := 6) (k := 2) hx hb hts hinX4 hown hw hO rfl (by decide) (hts (.fieldLink RX4 23 "NightTrains" "trial" "LNightTrains$Store;") (by decide +kernel)) rfl dX4_arrives_85 ?_
          refine lv_iconst (v := (nI (1))) hx hb dX4_arrives_88 (by decide) ?_
          refine j_Vv (n := 1) (As := [.int (nI (1))]) hx hb hml hown hts hw (j_recv hw hTr.obj rfl) (c_X2_passNights l g z H (A + 15) (1) (nightsS k σ) (by omega) hTr (okS_nights hs k) (nights_calm hs hcalm k) (by omega) (by omega)) gX4_arrives_X2_passNights rfl (by decide +kernel) ⟨Nat.le_of_ble_eq_true rfl, Nat.le_of_ble_eq_true rfl⟩ rfl hl.1 (Nat.le_of_ble_eq_true rfl) ⟨Nat.zero_le _, Nat.zero_le _⟩ dX4_arrives_89 (fun H locs hr7 hw hsz => ?_) rfl
          obtain ⟨hTr, hf2⟩ := hr7
          have hO := hO.kept (hf2.2 _ (by omega))
          have hT := hT.kept (fun q _ _ => hf2.2 q (by omega))
          have hHi := hHi.kept (fun q _ _ => hf2.2 q (by omega))
          have hSl := hSl.kept (fun q _ _ => hf2.2 q (by omega))
          have hS5 := hS5.kept (fun q _ _ => hf2.2 q (by omega))
          have hf := hf.step hf2 (by omega)
          have hTr : jSo g H (A + 15) (nightsS (k + 1) σ) (opnR (nightsS (k + 1) σ)) := hTr
          have hlk := (lim_nights hs hlim (k + 1)).2.2.2 (o 1) ho1
          have hl0 := hk30 (o 1) ho1
          obtain ⟨hA1, hA2⟩ := AI_step hs ho1 hk9 hAI
          refine lv_aload_n hx hb dX4_arrives_92 rfl (lv_at hl 0 rfl) ?_
          refine j_get (T := TX4) (N := 6) (k := 2) hx hb hts hinX4 hown hw hO rfl (by decide) (hts (.fieldLink RX4 23 "NightTrains" "trial" "LNightTrains$Store;") (by decide +kernel)) rfl dX4_arrives_93 ?_
          refine lv_aload_n hx hb dX4_arrives_96 rfl (lv_at hl 0 rfl) ?_
          refine j_get (T := TX4) (N := 6) (k := 1) hx hb hts hinX4 hown hw hO rfl (by decide) (hts (.fieldLink RX4 19 "NightTrains" "now" "LNightTrains$Store;") (by decide +kernel)) rfl dX4_arrives_97 ?_
          refine lv_iload_n hx hb dX4_arrives_100 rfl (lv_at hl 1 rfl) ?_
          refine j_Vp (n := 2) (As := [.ref (A + 3), .int (nI ((o 1)))]) hx hb hml hown hts hw (j_recv hw hTr.obj rfl) (c_X2_takenMoreThan l g z H (A + 15) (A + 3) ((o 1)) (nightsS (k + 1) σ) (opnR (nightsS (k + 1) σ)) σ (opnR σ) (by omega) hTr hS5 (by first | assumption | omega)) gX4_arrives_X2_takenMoreThan rfl (by decide +kernel) ⟨Nat.le_of_ble_eq_true rfl, Nat.le_of_ble_eq_true rfl⟩ rfl hl.1 (Nat.le_of_ble_eq_true rfl) ⟨Nat.zero_le _, Nat.zero_le _⟩ dX4_arrives_101 (fun r8 locs htm hw => ?_) rfl
          rcases htm with ⟨rfl, htm⟩ | ⟨rfl, htm⟩
          · refine jz_eq (tgt := 110) hx hb dX4_arrives_104 (by decide) (by omega) (fun c104 => absurd c104 (by omega)) (fun c104 => ?_)
            have htm := (nI_ltI (by omega) (by omega)).mp htm
            refine lv_iload hx hb dX4_arrives_107 (lv_at hl 3 rfl) ?_
            refine j_retX ?_
            refine j_iret hx hb hr hlocks hH hw dX4_arrives_109 ?_
            have e9 : fArrives σ (nI q) = (0, nI (k + 1)) := by simp only [fArrives, hq, ho]; exact congrArg (fun x => (0, x)) (hA1 htm)
            exact ⟨_, rfl, e9, ⟨_, _, hO, hT, hS5, hTr, hHi, hSl, hN⟩, hf⟩
          · refine jz_eq (tgt := 110) hx hb dX4_arrives_104 (by decide) (by omega) (fun c104 => ?_) (fun c104 => absurd c104 (by omega))
            have htm : ¬ σ.1 (30 + o 1) < (nightsS (k + 1) σ).1 (30 + o 1) := fun q => htm ((nI_ltI (by omega) (by omega)).mpr q)
            refine lv_iinc (v := nI (k + 1 + 1)) (lv' := [(4, .int _), (0, .ref _), (2, .int _), (3, .int _)]) hx hb dX4_arrives_110 hl (k := 3) rfl (nI_add _ 1) (by decide) rfl (fun ls hl => ?_)
            refine lv_goto (tgt := 78) hx hb dX4_arrives_113 (by decide) ?_
            exact ih78  (k + 1) (by first | assumption | omega) (fun h => (hA2 htm).2 (mxL_more h)) (fun h => (hA2 htm).1 (mxL_done h)) (by omega) H _ hw hf hO hT hS5 hTr hHi hSl _ (lv_sub hl [1, 2, 3, 0] rfl)
    exact lp78 (20 - 0 + 1) 0 (by first | assumption | omega) (fun _ => AI_0 hs hflat ho) (fun h => absurd h (by have := mxL_pos (P := σ.1 3) (w := o 4); omega)) (by omega) H _ hw hf hO hT hS5 hTr hHi hSl _ (lv_sub hl [3, 2, 1, 0] rfl)
  · refine jz_ne (tgt := 24) hx hb dX4_arrives_11 (by decide) (by omega) (fun c11 => absurd c11 (by omega)) (fun c11 => ?_)
    exact j_throw hl0 (cls := "java/lang/IndexOutOfBoundsException") (text := "no such open order") (ik := 125) (is := 127) (ic := 129) hx hb hml hown hlocks hH hw hE hex (by decide +kernel) hts (by decide +kernel) (by decide +kernel) (by decide +kernel) (by decide +kernel) (by decide +kernel) vx_n125 vx_g125 hl.1 dX4_arrives_14 dX4_arrives_17 dX4_arrives_18 dX4_arrives_20 dX4_arrives_23 ⟨Nat.le_of_ble_eq_true rfl, Nat.le_of_ble_eq_true rfl, Nat.le_of_ble_eq_true rfl, Nat.le_of_ble_eq_true rfl⟩ (⟨(by simp only [fArrives, hq]), rfl⟩)

abbrev q_X4_next (g : jG) (H0 : Heap) (A : Nat) (ak : Int32) (tx : List Nat) (σ : Sg) (hi : List Sg) (sv : Nat → Option Sg) : Option Value → Heap → Prop := jN (fun r H1 => fNext σ ak = (0, r) ∧ CD g H1 A tx σ hi sv ∧ jF A 223 H0 H1)
abbrev x_X4_next (A : Nat) (ak : Int32) (tx : List Nat) (σ : Sg) (hi : List Sg) (sv : Nat → Option Sg) : String → Prop := fun E => ((fNext σ ak = (1, 0)) ∧ E = "java/lang/IllegalArgumentException")
set_option maxHeartbeats 4000000 in
set_option maxRecDepth 100000 in
theorem c_X4_next (l : Launch) (hl0 : l.stackTraces = false) (g : jG) (z : Nat) (H0 : Heap) (A : Nat) (ak : Int32) (tx : List Nat) (σ : Sg) (hi : List Sg) (sv : Nat → Option Sg) (hz : z ≤ A) (hCD : CD g H0 A tx σ hi sv) : jMX l g z yX4_next wsX4_next 6 129 [.ref A, .int ak] H0 (q_X4_next g H0 A ak tx σ hi sv) (x_X4_next A ak tx σ hi sv) := by
  refine j_ofX (cc := cX4_next) (n := 4) (ret := some .int) (by decide) rfl (Nat.le_of_ble_eq_true rfl) ?_
  intro p e s m below meth c hx hb hr hml hown hts hlocks hname hH hw hE hex ls hl
  have hl : lv_has ls 4 [(0, .ref A), (1, .int ak)] := hl
  have hinX4 : ∀ w ∈ u_ws RX4 TX4 6, w ∈ wsX4_next := by decide +kernel
  have hinX2 : ∀ w ∈ u_ws RX2 TX2 9, w ∈ wsX4_next := by decide +kernel
  have hf : jF A 223 H0 H0 := jF.rf
  obtain ⟨τ, Rt, hO, hT, hS, hTr, hHi, hSl, hN⟩ := hCD
  obtain ⟨hs, hcalm, h20⟩ := id hN
  have hln := opnR_len (σ := σ)
  have hl21 := hs.2.2.1
  refine lv_iload_n hx hb dX4_next_0 rfl (lv_at hl 1 rfl) ?_
  refine lv_if_ge (tgt := 15) hx hb dX4_next_1 (by decide) (fun c1 => ?_) (fun c1 => ?_)
  · obtain ⟨j, hj31, rfl, hj⟩ := ix_pos c1
    refine lv_aload_n hx hb dX4_next_15 rfl (lv_at hl 0 rfl) ?_
    refine j_get (T := TX4) (N := 6) (k := 2) hx hb hts hinX4 hown hw hO rfl (by decide) (hts (.fieldLink RX4 23 "NightTrains" "trial" "LNightTrains$Store;") (by decide +kernel)) rfl dX4_next_16 ?_
    refine lv_aload_n hx hb dX4_next_19 rfl (lv_at hl 0 rfl) ?_
    refine j_get (T := TX4) (N := 6) (k := 1) hx hb hts hinX4 hown hw hO rfl (by decide) (hts (.fieldLink RX4 19 "NightTrains" "now" "LNightTrains$Store;") (by decide +kernel)) rfl dX4_next_20 ?_
    refine j_Vv (n := 1) (As := [.ref (A + 3)]) hx hb hml hown hts hw (j_recv hw hTr.obj rfl) (c_X2_copyFrom l g z H0 (A + 15) (A + 3) τ Rt σ (opnR σ) (by omega) hTr hS (by omega)) gX4_next_X2_copyFrom rfl (by decide +kernel) ⟨Nat.le_of_ble_eq_true rfl, Nat.le_of_ble_eq_true rfl⟩ rfl hl.1 (Nat.le_of_ble_eq_true rfl) ⟨Nat.zero_le _, Nat.zero_le _⟩ dX4_next_23 (fun H locs hr1 hw hsz => ?_) rfl
    obtain ⟨hTr, hf2⟩ := hr1
    have hO := hO.kept (hf2.2 _ (by omega))
    have hT := hT.kept (fun q _ _ => hf2.2 q (by omega))
    have hS := hS.kept (fun q _ _ => hf2.2 q (by omega))
    have hHi := hHi.kept (fun q _ _ => hf2.2 q (by omega))
    have hSl := hSl.kept (fun q _ _ => hf2.2 q (by omega))
    have hf := hf.step hf2 (by omega)
    refine lv_iconst (v := (nI (0))) hx hb dX4_next_26 (by decide) ?_
    refine lv_istore_n (lv' := [(2, .int _), (0, .ref _), (1, .int _)]) hx hb dX4_next_27 rfl hl (by decide) rfl (fun ls hl => ?_)
    have lp28 : ∀ (n28 : Nat) (t : Nat) (r : Nat) (σk : Sg) (htr : t + r = σ.1 0) (hG : (trl (σ.1 0) σ)[j]? = (trl r σk)[j - t]?) (htj : t ≤ j) (hsk : okS σk) (hlo : σk.1 0 = σ.1 0) (hmu28 : r < n28) (H : Heap) (locs : List Loc) (hw : jW g z s H locs) (hf : jF A 223 H0 H) (hO : jO g H A 4 [.ref (A + 1), .ref (A + 3), .ref (A + 15), .ref (A + 27), .ref (A + 197), .ref (A + 198)]) (hT : jTe g H (A + 1) tx) (hS : jSo g H (A + 3) σ (opnR σ)) (hTr : jSo g H (A + 15) σk (opnR σk)) (hHi : jHi g H (A + 27) hi) (hSl : jSl g H (A + 197) sv) (ls : Array Slot) (hl : lv_has ls 4 [(0, .ref A), (1, .int (nI (j))), (2, .int (nI (t)))]), jKX p l e 6 129 s m [.ref A, .int (nI (j))] below meth c z H0 (q_X4_next g H0 A (nI (j)) tx σ hi sv) (x_X4_next A (nI (j)) tx σ hi sv) H locs (F0 m 28 ls []) := by
      intro n28
      induction n28 with
      | zero => intros; omega
      | succ n28 ih28 =>
        intro t r σk htr hG htj hsk hlo hmu28 H locs hw hf hO hT hS hTr hHi hSl ls hl
        have h16 := hs.1.1
        refine lv_iload_n hx hb dX4_next_28 rfl (lv_at hl 2 rfl) ?_
        refine lv_aload_n hx hb dX4_next_29 rfl (lv_at hl 0 rfl) ?_
        refine j_get (T := TX4) (N := 6) (k := 2) hx hb hts hinX4 hown hw hO rfl (by decide) (hts (.fieldLink RX4 23 "NightTrains" "trial" "LNightTrains$Store;") (by decide +kernel)) rfl dX4_next_30 ?_
        obtain ⟨ses2, pus2, dts2, las2, frs2, tks2, cts2, hOs2, hses2, hpus2, hdts2, hlas2, hfrs2, htks2, hops2, hlts2, hcts2, hSs2⟩ := hTr
        have hOs2 : jO g H (A + 15) 2 [.ref (A + 16), .ref (A + 17), .ref (A + 18), .ref (A + 19), .ref (A + 20), .ref (A + 21), .ref (A + 22), .ref (A + 24), .ref (A + 26)] := hOs2
        have hses2 : jI g H (A + 16) 5 ses2 := hses2
        have hpus2 : jI g H (A + 17) 4 pus2 := hpus2
        have hdts2 : jI g H (A + 18) 4 dts2 := hdts2
        have hlas2 : jI g H (A + 19) 4 las2 := hlas2
        have hfrs2 : jI g H (A + 20) 16 frs2 := hfrs2
        have htks2 : jI g H (A + 21) 16 tks2 := htks2
        have hcts2 : jI g H (A + 26) 11 cts2 := hcts2
        have hops2 : jOr g H (A + 22) (opnR σk) := hops2
        have hlts2 : jOr g H (A + 24) (latR σk) := hlts2
        refine j_get (T := TX2) (N := 9) (k := 0) hx hb hts hinX2 hown hw hOs2 rfl (by decide) (hts (.fieldLink RX4 187 "NightTrains$Store" "settings" "[I") (by decide +kernel)) rfl dX4_next_33 ?_
        refine lv_iconst (v := (nI (0))) hx hb dX4_next_36 (by decide) ?_
        refine j_iald hx hb hw hses2 (k := 0) rfl (by omega) (by omega) dX4_next_37 ?_
        refine j_eq (y := nI (σk.1 0)) (hSs2.rse (k := 0) (by omega)) ?_
        refine jn_ge (tgt := 77) hx hb dX4_next_38 (by decide) (by omega) (by omega) (fun c38 => ?_) (fun c38 => ?_)
        · refine lv_iconst (v := (-1)) hx hb dX4_next_77 (by decide) ?_
          refine j_retX ?_
          refine j_iret hx hb hr hlocks hH hw dX4_next_78 ?_
          have hS3 : jSo g H (A + 15) σk (opnR σk) := ⟨ses2, pus2, dts2, las2, frs2, tks2, cts2, hOs2, hses2, hpus2, hdts2, hlas2, hfrs2, htks2, hops2, hlts2, hcts2, hSs2⟩
          have e9 : fNext σ (nI (j)) = (0, -1) := by simp only [fNext, hj]; rw [next_none (by first | exact Or.inl (by omega) | exact Or.inr hwo.symm) hG]; rfl
          exact ⟨_, rfl, e9, ⟨_, _, hO, hT, hS, hS3, hHi, hSl, hN⟩, hf⟩
        · obtain ⟨r, rfl⟩ : ∃ r1, r = r1 + 1 := ⟨r - 1, by omega⟩
          refine lv_aload_n hx hb dX4_next_41 rfl (lv_at hl 0 rfl) ?_
          refine j_get (T := TX4) (N := 6) (k := 2) hx hb hts hinX4 hown hw hO rfl (by decide) (hts (.fieldLink RX4 23 "NightTrains" "trial" "LNightTrains$Store;") (by decide +kernel)) rfl dX4_next_42 ?_
          have hS4 : jSo g H (A + 15) σk (opnR σk) := ⟨ses2, pus2, dts2, las2, frs2, tks2, cts2, hOs2, hses2, hpus2, hdts2, hlas2, hfrs2, htks2, hops2, hlts2, hcts2, hSs2⟩
          refine j_Vp (n := 0) (As := []) hx hb hml hown hts hw (j_recv hw hS4.obj rfl) (c_X2_wantedLot l g z H (A + 15) σk (by omega) hS4 hsk) gX4_next_X2_wantedLot rfl (by decide +kernel) ⟨Nat.le_of_ble_eq_true rfl, Nat.le_of_ble_eq_true rfl⟩ rfl hl.1 (Nat.le_of_ble_eq_true rfl) ⟨Nat.zero_le _, Nat.zero_le _⟩ dX4_next_45 (fun r5 locs hr5 hw => ?_) rfl
          obtain ⟨wo, hwo⟩ : ∃ x, x = wantS σk := ⟨_, rfl⟩
          rw [← hwo] at hr5
          rcases wo with _ | b
          · obtain rfl : r5 = -1 := hr5
            refine lv_istore_n (lv' := [(3, .int _), (0, .ref _), (1, .int _), (2, .int _)]) hx hb dX4_next_48 rfl hl (by decide) rfl (fun ls hl => ?_)
            refine lv_iload_n hx hb dX4_next_49 rfl (lv_at hl 0 rfl) ?_
            refine j_Sp (n := 1) (As := [.int (-1)]) hx hb hml hown hts hw (c_X4_isLot l g z H (-1)   ) gX4_next_X4_isLot rfl (by decide +kernel) ⟨Nat.le_of_ble_eq_true rfl, Nat.le_of_ble_eq_true rfl⟩ rfl hl.1 (Nat.le_of_ble_eq_true rfl) ⟨Nat.zero_le _, Nat.zero_le _⟩ dX4_next_50 (fun r6 locs hr6 hw => ?_) rfl
            obtain rfl : r6 = nI 0 := by rcases hr6 with ⟨-, q, h, -⟩ | ⟨h, -⟩; rw [ix_none (by decide)] at h; cases h; exact h
            refine jz_eq (tgt := 61) hx hb dX4_next_53 (by decide) (by omega) (fun c53 => ?_) (fun c53 => absurd c53 (by omega))
            refine lv_iload_n hx hb dX4_next_61 rfl (lv_at hl 0 rfl) ?_
            refine j_retX ?_
            refine j_iret hx hb hr hlocks hH hw dX4_next_62 ?_
            have e9 : fNext σ (nI (j)) = (0, -1) := by simp only [fNext, hj]; rw [next_none (by first | exact Or.inl (by omega) | exact Or.inr hwo.symm) hG]; rfl
            exact ⟨_, rfl, e9, ⟨_, _, hO, hT, hS, hS4, hHi, hSl, hN⟩, hf⟩
          · obtain rfl : r5 = nI b := hr5
            have hb16 := wantS_lt hsk hwo.symm
            refine lv_istore_n (lv' := [(3, .int _), (0, .ref _), (1, .int _), (2, .int _)]) hx hb dX4_next_48 rfl hl (by decide) rfl (fun ls hl => ?_)
            refine lv_iload_n hx hb dX4_next_49 rfl (lv_at hl 0 rfl) ?_
            refine j_Sp (n := 1) (As := [.int (nI (b))]) hx hb hml hown hts hw (c_X4_isLot l g z H (nI (b))   ) gX4_next_X4_isLot rfl (by decide +kernel) ⟨Nat.le_of_ble_eq_true rfl, Nat.le_of_ble_eq_true rfl⟩ rfl hl.1 (Nat.le_of_ble_eq_true rfl) ⟨Nat.zero_le _, Nat.zero_le _⟩ dX4_next_50 (fun r7 locs hr7 hw => ?_) rfl
            obtain rfl : r7 = nI 1 := ixY (by decide) (by omega) (by omega) hr7
            refine jz_eq (tgt := 61) hx hb dX4_next_53 (by decide) (by omega) (fun c53 => absurd c53 (by omega)) (fun c53 => ?_)
            refine lv_iload_n hx hb dX4_next_56 rfl (lv_at hl 3 rfl) ?_
            refine lv_iload_n hx hb dX4_next_57 rfl (lv_at hl 2 rfl) ?_
            refine jn_ne (tgt := 63) hx hb dX4_next_58 (by decide) (by omega) (by omega) (fun c58 => ?_) (fun c58 => ?_)
            · refine lv_aload_n hx hb dX4_next_63 rfl (lv_at hl 1 rfl) ?_
              refine j_get (T := TX4) (N := 6) (k := 2) hx hb hts hinX4 hown hw hO rfl (by decide) (hts (.fieldLink RX4 23 "NightTrains" "trial" "LNightTrains$Store;") (by decide +kernel)) rfl dX4_next_64 ?_
              refine lv_iload_n hx hb dX4_next_67 rfl (lv_at hl 0 rfl) ?_
              refine j_Vv (n := 1) (As := [.int (nI (b))]) hx hb hml hown hts hw (j_recv hw hS4.obj rfl) (c_X2_bring l g z H (A + 15) (b) σk (by omega) hS4 hsk (by first | assumption | omega)) gX4_next_X2_bring rfl (by decide +kernel) ⟨Nat.le_of_ble_eq_true rfl, Nat.le_of_ble_eq_true rfl⟩ rfl hl.1 (Nat.le_of_ble_eq_true rfl) ⟨Nat.zero_le _, Nat.zero_le _⟩ dX4_next_68 (fun H locs hr8 hw hsz => ?_) rfl
              obtain ⟨hS4, hf2⟩ := hr8
              have hO := hO.kept (hf2.2 _ (by omega))
              have hT := hT.kept (fun q _ _ => hf2.2 q (by omega))
              have hS := hS.kept (fun q _ _ => hf2.2 q (by omega))
              have hHi := hHi.kept (fun q _ _ => hf2.2 q (by omega))
              have hSl := hSl.kept (fun q _ _ => hf2.2 q (by omega))
              have hf := hf.step hf2 (by omega)
              refine lv_iinc (v := nI (t + 1)) (lv' := [(2, .int _), (3, .int _), (0, .ref _), (1, .int _)]) hx hb dX4_next_71 hl (k := 3) rfl (nI_add _ 1) (by decide) rfl (fun ls hl => ?_)
              refine lv_goto (tgt := 28) hx hb dX4_next_74 (by decide) ?_
              exact ih28  (t + 1) r (bringS σk (b)) (by first | assumption | omega) (next_step hwo.symm (by omega) hG) (by first | assumption | omega) (okS_bring hsk hb16) ((bring_low hsk (by omega)).trans hlo) (by omega) H _ hw hf hO hT hS hS4 hHi hSl _ (lv_sub hl [2, 3, 0] rfl)
            · refine lv_iload_n hx hb dX4_next_61 rfl (lv_at hl 0 rfl) ?_
              refine j_retX ?_
              refine j_iret hx hb hr hlocks hH hw dX4_next_62 ?_
              have e9 : fNext σ (nI (j)) = (0, nI b) := by simp only [fNext, hj]; rw [next_hit hwo.symm (by omega) hG]; rfl
              exact ⟨_, rfl, e9, ⟨_, _, hO, hT, hS, hS4, hHi, hSl, hN⟩, hf⟩
    exact lp28 ((σ.1 0) + 1) 0 (σ.1 0) σ (by first | assumption | omega) rfl (by first | assumption | omega) hs rfl (by omega) H _ hw hf hO hT hS hTr hHi hSl _ (lv_sub hl [1, 2, 0] rfl)
  · exact j_throwW hl0 (cls := "java/lang/IllegalArgumentException") (text := "k is not negative") (ik := 41) (is := 264) (ic := 45) hx hb hml hown hlocks hH hw hE hex (by decide +kernel) hts (by decide +kernel) (by decide +kernel) (by decide +kernel) (by decide +kernel) (by decide +kernel) vx_n41 vx_g41 hl.1 dX4_next_4 dX4_next_7 dX4_next_8 dX4_next_11 dX4_next_14 ⟨Nat.le_of_ble_eq_true rfl, Nat.le_of_ble_eq_true rfl, Nat.le_of_ble_eq_true rfl, Nat.le_of_ble_eq_true rfl⟩ (⟨(by simp only [fNext, ix_neg c1]), rfl⟩)

abbrev q_X4_feeFor (g : jG) (H0 : Heap) (A : Nat) (al : Int32) (tx : List Nat) (σ : Sg) (hi : List Sg) (sv : Nat → Option Sg) (K : Nat) : Option Value → Heap → Prop := jN (fun r H1 => fFee σ al = (0, r) ∧ CD g H1 A tx σ hi sv ∧ jF A 223 H0 H1)
abbrev x_X4_feeFor (A : Nat) (al : Int32) (tx : List Nat) (σ : Sg) (hi : List Sg) (sv : Nat → Option Sg) (K : Nat) : String → Prop := fun E => ((fFee σ al = (1, 0)) ∧ E = "java/lang/IndexOutOfBoundsException")
set_option maxHeartbeats 4000000 in
set_option maxRecDepth 100000 in
theorem c_X4_feeFor (l : Launch) (hl0 : l.stackTraces = false) (g : jG) (z : Nat) (H0 : Heap) (A : Nat) (al : Int32) (tx : List Nat) (σ : Sg) (hi : List Sg) (sv : Nat → Option Sg) (K : Nat) (hz : z ≤ A) (hCD : CD g H0 A tx σ hi sv) (hlim : lim K σ) (hK : K < 2 ^ 29) (hflat : flat σ) : jMX l g z yX4_feeFor wsX4_feeFor 7 174 [.ref A, .int al] H0 (q_X4_feeFor g H0 A al tx σ hi sv K) (x_X4_feeFor A al tx σ hi sv K) := by
  refine j_ofX (cc := cX4_feeFor) (n := 3) (ret := some .int) (by decide) rfl (Nat.le_of_ble_eq_true rfl) ?_
  intro p e s m below meth c hx hb hr hml hown hts hlocks hname hH hw hE hex ls hl
  have hl : lv_has ls 3 [(0, .ref A), (1, .int al)] := hl
  have hinX4 : ∀ w ∈ u_ws RX4 TX4 6, w ∈ wsX4_feeFor := by decide +kernel
  have hinX2 : ∀ w ∈ u_ws RX2 TX2 9, w ∈ wsX4_feeFor := by decide +kernel
  have hf : jF A 223 H0 H0 := jF.rf
  obtain ⟨τ, Rt, hO, hT, hS, hTr, hHi, hSl, hN⟩ := hCD
  obtain ⟨hs, hcalm, h20⟩ := id hN
  have hln := opnR_len (σ := σ)
  have hl21 := hs.2.2.1
  obtain ⟨hk7, hk10, hk12, hk30⟩ := id hlim
  refine lv_iload_n hx hb dX4_feeFor_0 rfl (lv_at hl 1 rfl) ?_
  refine j_Sp (n := 1) (As := [.int al]) hx hb hml hown hts hw (c_X4_isLot l g z H0 al   ) gX4_feeFor_X4_isLot rfl (by decide +kernel) ⟨Nat.le_of_ble_eq_true rfl, Nat.le_of_ble_eq_true rfl⟩ rfl hl.1 (Nat.le_of_ble_eq_true rfl) ⟨Nat.zero_le _, Nat.zero_le _⟩ dX4_feeFor_1 (fun r1 locs hr1 hw => ?_) rfl
  rcases hr1 with ⟨rfl, j, hj, hja, hjn, rfl⟩ | ⟨rfl, hj⟩
  · refine jz_ne (tgt := 17) hx hb dX4_feeFor_4 (by decide) (by omega) (fun c4 => ?_) (fun c4 => absurd c4 (by omega))
    refine lv_aload_n hx hb dX4_feeFor_17 rfl (lv_at hl 0 rfl) ?_
    refine j_get (T := TX4) (N := 6) (k := 1) hx hb hts hinX4 hown hw hO rfl (by decide) (hts (.fieldLink RX4 19 "NightTrains" "now" "LNightTrains$Store;") (by decide +kernel)) rfl dX4_feeFor_18 ?_
    refine lv_iload_n hx hb dX4_feeFor_21 rfl (lv_at hl 1 rfl) ?_
    refine j_Vp (n := 1) (As := [.int (nI (j))]) hx hb hml hown hts hw (j_recv hw hS.obj rfl) (c_X2_isInFront l g z H0 (A + 3) (j) σ (opnR σ) (by omega) hS (by first | assumption | omega) (by first | assumption | omega)) gX4_feeFor_X2_isInFront rfl (by decide +kernel) ⟨Nat.le_of_ble_eq_true rfl, Nat.le_of_ble_eq_true rfl⟩ rfl hl.1 (Nat.le_of_ble_eq_true rfl) ⟨Nat.zero_le _, Nat.zero_le _⟩ dX4_feeFor_22 (fun r2 locs hfr hw => ?_) rfl
    rcases hfr with ⟨rfl, hfr⟩ | ⟨rfl, hfr⟩
    · refine jz_eq (tgt := 30) hx hb dX4_feeFor_25 (by decide) (by omega) (fun c25 => absurd c25 (by omega)) (fun c25 => ?_)
      refine lv_iconst (v := (nI (0))) hx hb dX4_feeFor_28 (by decide) ?_
      refine j_retX ?_
      refine j_iret hx hb hr hlocks hH hw dX4_feeFor_29 ?_
      have e9 : fFee σ (nI (j)) = (0, nI 0) := by simp only [fFee, hj]; rw [fnd_hit (show fee1 σ j 0 = true by unfold fee1; rw [decide_eq_true hfr]; rfl)]; rfl
      exact ⟨_, rfl, e9, ⟨_, _, hO, hT, hS, hTr, hHi, hSl, hN⟩, hf⟩
    · refine jz_eq (tgt := 30) hx hb dX4_feeFor_25 (by decide) (by omega) (fun c25 => ?_) (fun c25 => absurd c25 (by omega))
      refine lv_iconst (v := (nI (0))) hx hb dX4_feeFor_30 (by decide) ?_
      refine lv_istore_n (lv' := [(2, .int _), (0, .ref _), (1, .int _)]) hx hb dX4_feeFor_31 rfl hl (by decide) rfl (fun ls hl => ?_)
      have lp32 : ∀ (n32 : Nat) (k : Nat) (d : Nat) (τk : Sg) (Rk : List OR) (hkd : k + d = 10) (hG : fnd (fee1 σ j) d k = fnd (fee1 σ j) 10 0) (hmu32 : d < n32) (H : Heap) (locs : List Loc) (hw : jW g z s H locs) (hf : jF A 223 H0 H) (hO : jO g H A 4 [.ref (A + 1), .ref (A + 3), .ref (A + 15), .ref (A + 27), .ref (A + 197), .ref (A + 198)]) (hT : jTe g H (A + 1) tx) (hS : jSo g H (A + 3) σ (opnR σ)) (hTr : jSo g H (A + 15) τk Rk) (hHi : jHi g H (A + 27) hi) (hSl : jSl g H (A + 197) sv) (ls : Array Slot) (hl : lv_has ls 3 [(0, .ref A), (1, .int (nI (j))), (2, .int (nI (k)))]), jKX p l e 7 174 s m [.ref A, .int (nI (j))] below meth c z H0 (q_X4_feeFor g H0 A (nI (j)) tx σ hi sv K) (x_X4_feeFor A (nI (j)) tx σ hi sv K) H locs (F0 m 32 ls []) := by
        intro n32
        induction n32 with
        | zero => intros; omega
        | succ n32 ih32 =>
          intro k d τk Rk hkd hG hmu32 H locs hw hf hO hT hS hTr hHi hSl ls hl
          refine lv_iload_n hx hb dX4_feeFor_32 rfl (lv_at hl 2 rfl) ?_
          refine lv_bipush (v := (nI (9))) hx hb dX4_feeFor_33 (by decide) ?_
          refine jn_gt (tgt := 96) hx hb dX4_feeFor_35 (by decide) (by omega) (by omega) (fun c35 => ?_) (fun c35 => ?_)
          · obtain rfl : d = 0 := (by omega)
            refine lv_iconst (v := (-1)) hx hb dX4_feeFor_96 (by decide) ?_
            refine j_retX ?_
            refine j_iret hx hb hr hlocks hH hw dX4_feeFor_97 ?_
            have e9 : fFee σ (nI (j)) = (0, -1) := by simp only [fFee, hj]; rw [← hG]; rfl
            exact ⟨_, rfl, e9, ⟨_, _, hO, hT, hS, hTr, hHi, hSl, hN⟩, hf⟩
          · obtain ⟨d, rfl⟩ : ∃ d1, d = d1 + 1 := ⟨d - 1, by omega⟩
            refine lv_aload_n hx hb dX4_feeFor_38 rfl (lv_at hl 0 rfl) ?_
            refine j_get (T := TX4) (N := 6) (k := 2) hx hb hts hinX4 hown hw hO rfl (by decide) (hts (.fieldLink RX4 23 "NightTrains" "trial" "LNightTrains$Store;") (by decide +kernel)) rfl dX4_feeFor_39 ?_
            refine lv_aload_n hx hb dX4_feeFor_42 rfl (lv_at hl 0 rfl) ?_
            refine j_get (T := TX4) (N := 6) (k := 1) hx hb hts hinX4 hown hw hO rfl (by decide) (hts (.fieldLink RX4 19 "NightTrains" "now" "LNightTrains$Store;") (by decide +kernel)) rfl dX4_feeFor_43 ?_
            refine j_Vv (n := 1) (As := [.ref (A + 3)]) hx hb hml hown hts hw (j_recv hw hTr.obj rfl) (c_X2_copyFrom l g z H (A + 15) (A + 3) τk Rk σ (opnR σ) (by omega) hTr hS (by omega)) gX4_feeFor_X2_copyFrom rfl (by decide +kernel) ⟨Nat.le_of_ble_eq_true rfl, Nat.le_of_ble_eq_true rfl⟩ rfl hl.1 (Nat.le_of_ble_eq_true rfl) ⟨Nat.zero_le _, Nat.zero_le _⟩ dX4_feeFor_46 (fun H locs hr3 hw hsz => ?_) rfl
            obtain ⟨hTr, hf2⟩ := hr3
            have hO := hO.kept (hf2.2 _ (by omega))
            have hT := hT.kept (fun q _ _ => hf2.2 q (by omega))
            have hS := hS.kept (fun q _ _ => hf2.2 q (by omega))
            have hHi := hHi.kept (fun q _ _ => hf2.2 q (by omega))
            have hSl := hSl.kept (fun q _ _ => hf2.2 q (by omega))
            have hf := hf.step hf2 (by omega)
            refine lv_aload_n hx hb dX4_feeFor_49 rfl (lv_at hl 0 rfl) ?_
            refine j_get (T := TX4) (N := 6) (k := 2) hx hb hts hinX4 hown hw hO rfl (by decide) (hts (.fieldLink RX4 23 "NightTrains" "trial" "LNightTrains$Store;") (by decide +kernel)) rfl dX4_feeFor_50 ?_
            obtain ⟨ses4, pus4, dts4, las4, frs4, tks4, cts4, hOs4, hses4, hpus4, hdts4, hlas4, hfrs4, htks4, hops4, hlts4, hcts4, hSs4⟩ := hTr
            have hOs4 : jO g H (A + 15) 2 [.ref (A + 16), .ref (A + 17), .ref (A + 18), .ref (A + 19), .ref (A + 20), .ref (A + 21), .ref (A + 22), .ref (A + 24), .ref (A + 26)] := hOs4
            have hses4 : jI g H (A + 16) 5 ses4 := hses4
            have hpus4 : jI g H (A + 17) 4 pus4 := hpus4
            have hdts4 : jI g H (A + 18) 4 dts4 := hdts4
            have hlas4 : jI g H (A + 19) 4 las4 := hlas4
            have hfrs4 : jI g H (A + 20) 16 frs4 := hfrs4
            have htks4 : jI g H (A + 21) 16 tks4 := htks4
            have hcts4 : jI g H (A + 26) 11 cts4 := hcts4
            have hops4 : jOr g H (A + 22) (opnR σ) := hops4
            have hlts4 : jOr g H (A + 24) (latR σ) := hlts4
            refine j_get (T := TX2) (N := 9) (k := 6) hx hb hts hinX2 hown hw hOs4 rfl (by decide) (hts (.fieldLink RX4 116 "NightTrains$Store" "open" "LNightTrains$Orders;") (by decide +kernel)) rfl dX4_feeFor_53 ?_
            refine lv_iconst (v := (nI (0))) hx hb dX4_feeFor_56 (by decide) ?_
            refine lv_iload_n hx hb dX4_feeFor_57 rfl (lv_at hl 1 rfl) ?_
            refine lv_iconst (v := (nI (0))) hx hb dX4_feeFor_58 (by decide) ?_
            refine lv_iload_n hx hb dX4_feeFor_59 rfl (lv_at hl 2 rfl) ?_
            refine lv_iconst (v := (nI (0))) hx hb dX4_feeFor_60 (by decide) ?_
            refine j_Vi (n := 5) (As := [.int (nI (0)), .int (nI (j)), .int (nI (0)), .int (nI (k)), .int (nI (0))]) hx hb hml hown hts hw (j_recv hw hops4.1 rfl) (c_X1_add l g z H (A + 22) (nI (0)) (nI (j)) (nI (0)) (nI (k)) (nI (0)) (opnR σ) (by omega) hops4 (by rw [hln]; omega)) gX4_feeFor_X1_add rfl (by decide +kernel) ⟨Nat.le_of_ble_eq_true rfl, Nat.le_of_ble_eq_true rfl⟩ rfl hl.1 (Nat.le_of_ble_eq_true rfl) ⟨Nat.zero_le _, Nat.zero_le _⟩ dX4_feeFor_61 (fun r5 H locs hr5 hw hsz => ?_) rfl
            obtain ⟨rfl, hr5⟩ := hr5
            obtain ⟨hops4, hf2⟩ := hr5
            have hO := hO.kept (hf2.2 _ (by omega))
            have hT := hT.kept (fun q _ _ => hf2.2 q (by omega))
            have hS := hS.kept (fun q _ _ => hf2.2 q (by omega))
            have hHi := hHi.kept (fun q _ _ => hf2.2 q (by omega))
            have hSl := hSl.kept (fun q _ _ => hf2.2 q (by omega))
            have hOs4 := hOs4.kept (hf2.2 _ (by omega))
            have hses4 := hses4.kept (hf2.2 _ (by omega))
            have hpus4 := hpus4.kept (hf2.2 _ (by omega))
            have hdts4 := hdts4.kept (hf2.2 _ (by omega))
            have hlas4 := hlas4.kept (hf2.2 _ (by omega))
            have hfrs4 := hfrs4.kept (hf2.2 _ (by omega))
            have htks4 := htks4.kept (hf2.2 _ (by omega))
            have hcts4 := hcts4.kept (hf2.2 _ (by omega))
            have hlts4 := hlts4.kept (fun q _ _ => hf2.2 q (by omega))
            have hf := hf.step hf2 (by omega)
            refine lv_pop hx hb dX4_feeFor_64 rfl ?_
            rw [mkR_o, ← opnR_add] at hops4
            have hsE : okS (upo σ (σ.2.2.1 ++ [mkO 0 j 0 k 0 0])) := okS_ent hs h20 hjn (by omega)
            have hcE : calm (upo σ (σ.2.2.1 ++ [mkO 0 j 0 k 0 0])) := calm_ent2 hcalm
            have hlE : lim K (upo σ (σ.2.2.1 ++ [mkO 0 j 0 k 0 0])) := hlim.cong (fun _ _ => rfl)
            have hl1 := (lim_night hsE hlE).2.2.2 j hjn
            have hl2 := hk30 j hjn
            have hl3 := hlE.2.2.1
            have hl1n : (nightsS 1 (upo σ (σ.2.2.1 ++ [mkO 0 j 0 k 0 0]))).1 (30 + j) < 2 ^ 31 := by show (nightS (upo σ (σ.2.2.1 ++ [mkO 0 j 0 k 0 0]))).1 (30 + j) < 2 ^ 31; omega
            have hfi := fee_iff hs h20 hflat hjn (show k < 10 by omega) (by omega)
            refine lv_aload_n hx hb dX4_feeFor_65 rfl (lv_at hl 0 rfl) ?_
            refine j_get (T := TX4) (N := 6) (k := 2) hx hb hts hinX4 hown hw hO rfl (by decide) (hts (.fieldLink RX4 23 "NightTrains" "trial" "LNightTrains$Store;") (by decide +kernel)) rfl dX4_feeFor_66 ?_
            refine lv_iconst (v := (nI (1))) hx hb dX4_feeFor_69 (by decide) ?_
            have hS6 : jSo g H (A + 15) (upo σ (σ.2.2.1 ++ [mkO 0 j 0 k 0 0])) (opnR (upo σ (σ.2.2.1 ++ [mkO 0 j 0 k 0 0]))) := ⟨ses4, pus4, dts4, las4, frs4, tks4, cts4, hOs4, hses4, hpus4, hdts4, hlas4, hfrs4, htks4, hops4, hlts4, hcts4, hSs4⟩
            refine j_Vv (n := 1) (As := [.int (nI (1))]) hx hb hml hown hts hw (j_recv hw hS6.obj rfl) (c_X2_passNights l g z H (A + 15) (1) (upo σ (σ.2.2.1 ++ [mkO 0 j 0 k 0 0])) (by omega) hS6 hsE hcE (by omega) (by omega)) gX4_feeFor_X2_passNights rfl (by decide +kernel) ⟨Nat.le_of_ble_eq_true rfl, Nat.le_of_ble_eq_true rfl⟩ rfl hl.1 (Nat.le_of_ble_eq_true rfl) ⟨Nat.zero_le _, Nat.zero_le _⟩ dX4_feeFor_70 (fun H locs hr7 hw hsz => ?_) rfl
            obtain ⟨hS6, hf2⟩ := hr7
            have hO := hO.kept (hf2.2 _ (by omega))
            have hT := hT.kept (fun q _ _ => hf2.2 q (by omega))
            have hS := hS.kept (fun q _ _ => hf2.2 q (by omega))
            have hHi := hHi.kept (fun q _ _ => hf2.2 q (by omega))
            have hSl := hSl.kept (fun q _ _ => hf2.2 q (by omega))
            have hf := hf.step hf2 (by omega)
            refine lv_aload_n hx hb dX4_feeFor_73 rfl (lv_at hl 0 rfl) ?_
            refine j_get (T := TX4) (N := 6) (k := 2) hx hb hts hinX4 hown hw hO rfl (by decide) (hts (.fieldLink RX4 23 "NightTrains" "trial" "LNightTrains$Store;") (by decide +kernel)) rfl dX4_feeFor_74 ?_
            refine lv_aload_n hx hb dX4_feeFor_77 rfl (lv_at hl 0 rfl) ?_
            refine j_get (T := TX4) (N := 6) (k := 1) hx hb hts hinX4 hown hw hO rfl (by decide) (hts (.fieldLink RX4 19 "NightTrains" "now" "LNightTrains$Store;") (by decide +kernel)) rfl dX4_feeFor_78 ?_
            refine lv_iload_n hx hb dX4_feeFor_81 rfl (lv_at hl 1 rfl) ?_
            refine j_Vp (n := 2) (As := [.ref (A + 3), .int (nI (j))]) hx hb hml hown hts hw (j_recv hw hS6.obj rfl) (c_X2_takenMoreThan l g z H (A + 15) (A + 3) (j) (nightsS (1) (upo σ (σ.2.2.1 ++ [mkO 0 j 0 k 0 0]))) (opnR (nightsS (1) (upo σ (σ.2.2.1 ++ [mkO 0 j 0 k 0 0])))) σ (opnR σ) (by omega) hS6 hS (by first | assumption | omega)) gX4_feeFor_X2_takenMoreThan rfl (by decide +kernel) ⟨Nat.le_of_ble_eq_true rfl, Nat.le_of_ble_eq_true rfl⟩ rfl hl.1 (Nat.le_of_ble_eq_true rfl) ⟨Nat.zero_le _, Nat.zero_le _⟩ dX4_feeFor_82 (fun r8 locs htm hw => ?_) rfl
            rcases htm with ⟨rfl, htm⟩ | ⟨rfl, htm⟩
            · refine jz_eq (tgt := 90) hx hb dX4_feeFor_85 (by decide) (by omega) (fun c85 => absurd c85 (by omega)) (fun c85 => ?_)
              have hy9 : fee1 σ j k = true := hfi.mpr ((nI_ltI (by omega) (by omega)).mp htm)
              refine lv_iload_n hx hb dX4_feeFor_88 rfl (lv_at hl 2 rfl) ?_
              refine j_retX ?_
              refine j_iret hx hb hr hlocks hH hw dX4_feeFor_89 ?_
              have e9 : fFee σ (nI (j)) = (0, nI k) := by simp only [fFee, hj]; rw [← hG, fnd_hit hy9]; rfl
              exact ⟨_, rfl, e9, ⟨_, _, hO, hT, hS, hS6, hHi, hSl, hN⟩, hf⟩
            · refine jz_eq (tgt := 90) hx hb dX4_feeFor_85 (by decide) (by omega) (fun c85 => ?_) (fun c85 => absurd c85 (by omega))
              have hy9 : fee1 σ j k = false := Bool.eq_false_iff.mpr (fun q => htm ((nI_ltI (by omega) (by omega)).mpr (hfi.mp q)))
              refine lv_iinc (v := nI (k + 1)) (lv' := [(2, .int _), (0, .ref _), (1, .int _)]) hx hb dX4_feeFor_90 hl (k := 2) rfl (nI_add _ 1) (by decide) rfl (fun ls hl => ?_)
              refine lv_goto (tgt := 32) hx hb dX4_feeFor_93 (by decide) ?_
              exact ih32  (k + 1) d (nightsS (1) (upo σ (σ.2.2.1 ++ [mkO 0 j 0 k 0 0]))) (opnR (nightsS (1) (upo σ (σ.2.2.1 ++ [mkO 0 j 0 k 0 0])))) (by first | assumption | omega) (by rw [← fnd_miss hy9]; exact hG) (by omega) H _ hw hf hO hT hS hS6 hHi hSl _ (lv_sub hl [1, 2, 0] rfl)
      exact lp32 (10 + 1) 0 10 τ Rt (by first | assumption | omega) rfl (by omega) H0 _ hw hf hO hT hS hTr hHi hSl _ (lv_sub hl [1, 2, 0] rfl)
  · refine jz_ne (tgt := 17) hx hb dX4_feeFor_4 (by decide) (by omega) (fun c4 => absurd c4 (by omega)) (fun c4 => ?_)
    exact j_throw hl0 (cls := "java/lang/IndexOutOfBoundsException") (text := "no such lot") (ik := 125) (is := 142) (ic := 129) hx hb hml hown hlocks hH hw hE hex (by decide +kernel) hts (by decide +kernel) (by decide +kernel) (by decide +kernel) (by decide +kernel) (by decide +kernel) vx_n125 vx_g125 hl.1 dX4_feeFor_7 dX4_feeFor_10 dX4_feeFor_11 dX4_feeFor_13 dX4_feeFor_16 ⟨Nat.le_of_ble_eq_true rfl, Nat.le_of_ble_eq_true rfl, Nat.le_of_ble_eq_true rfl, Nat.le_of_ble_eq_true rfl⟩ (⟨(by simp only [fFee, hj]), rfl⟩)

abbrev q_X4_bestRule (g : jG) (H0 : Heap) (A : Nat) (tx : List Nat) (σ : Sg) (hi : List Sg) (sv : Nat → Option Sg) (K : Nat) : Option Value → Heap → Prop := jN (fun r H1 => r = fBest σ ∧ CD g H1 A tx σ hi sv ∧ jF A 223 H0 H1)
set_option maxHeartbeats 4000000 in
set_option maxRecDepth 100000 in
theorem c_X4_bestRule (l : Launch) (g : jG) (z : Nat) (H0 : Heap) (A : Nat) (tx : List Nat) (σ : Sg) (hi : List Sg) (sv : Nat → Option Sg) (K : Nat) (hz : z ≤ A) (hCD : CD g H0 A tx σ hi sv) (hlim : lim K σ) (hK : K < 2 ^ 29) : jM l g z yX4_bestRule wsX4_bestRule 8 196 [.ref A] H0 (q_X4_bestRule g H0 A tx σ hi sv K) := by
  refine j_of (cc := cX4_bestRule) (n := 7) (ret := some .int) (by decide) rfl (Nat.le_of_ble_eq_true rfl) ?_
  intro p e s m below meth c hx hb hr hml hown hts hlocks hname hH hw ls hl
  have hl : lv_has ls 7 [(0, .ref A)] := hl
  have hf : jF A 223 H0 H0 := jF.rf
  obtain ⟨τ, Rt, hO, hT, hS, hTr, hHi, hSl, hN⟩ := hCD
  obtain ⟨hs, hcalm, h20⟩ := id hN
  have hln := opnR_len (σ := σ)
  have hl21 := hs.2.2.1
  obtain ⟨hk7, hk10, hk12, hk30⟩ := id hlim
  refine lv_iconst (v := (nI (0))) hx hb dX4_bestRule_0 (by decide) ?_
  refine lv_istore_n (lv' := [(1, .int _), (0, .ref _)]) hx hb dX4_bestRule_1 rfl hl (by decide) rfl (fun ls hl => ?_)
  refine lv_iconst (v := (-1)) hx hb dX4_bestRule_2 (by decide) ?_
  refine lv_istore_n (lv' := [(2, .int _), (1, .int _), (0, .ref _)]) hx hb dX4_bestRule_3 rfl hl (by decide) rfl (fun ls hl => ?_)
  refine lv_iconst (v := (-1)) hx hb dX4_bestRule_4 (by decide) ?_
  refine lv_istore_n (lv' := [(3, .int _), (2, .int _), (1, .int _), (0, .ref _)]) hx hb dX4_bestRule_5 rfl hl (by decide) rfl (fun ls hl => ?_)
  refine lv_iconst (v := (nI (0))) hx hb dX4_bestRule_6 (by decide) ?_
  refine lv_istore (lv' := [(4, .int _), (3, .int _), (2, .int _), (1, .int _), (0, .ref _)]) hx hb dX4_bestRule_7 hl (by decide) rfl (fun ls hl => ?_)
  have lp9 : ∀ (n9 : Nat) (k : Nat) (b9 : Int32) (m1 : Int32) (m2 : Int32) (τk : Sg) (Rk : List OR) (hk : k ≤ 3) (hB : bI2 σ k b9 m1 m2) (hmu9 : 3 - k < n9) (H : Heap) (locs : List Loc) (hw : jW g z s H locs) (hf : jF A 223 H0 H) (hO : jO g H A 4 [.ref (A + 1), .ref (A + 3), .ref (A + 15), .ref (A + 27), .ref (A + 197), .ref (A + 198)]) (hT : jTe g H (A + 1) tx) (hS : jSo g H (A + 3) σ (opnR σ)) (hTr : jSo g H (A + 15) τk Rk) (hHi : jHi g H (A + 27) hi) (hSl : jSl g H (A + 197) sv) (ls : Array Slot) (hl : lv_has ls 7 [(0, .ref A), (1, .int b9), (2, .int m1), (3, .int m2), (4, .int (nI (k)))]), jK p l e 8 196 s m [.ref A] below meth c z H0 (q_X4_bestRule g H0 A tx σ hi sv K) H locs (F0 m 9 ls []) := by
    intro n9
    induction n9 with
    | zero => intros; omega
    | succ n9 ih9 =>
      intro k b9 m1 m2 τk Rk hk hB hmu9 H locs hw hf hO hT hS hTr hHi hSl ls hl
      refine lv_iload hx hb dX4_bestRule_9 (lv_at hl 4 rfl) ?_
      refine lv_iconst (v := (nI (3))) hx hb dX4_bestRule_11 (by decide) ?_
      refine jn_ge (tgt := 69) hx hb dX4_bestRule_12 (by decide) (by omega) (by omega) (fun c12 => ?_) (fun c12 => ?_)
      · obtain rfl : k = 3 := by omega
        refine lv_iload_n hx hb dX4_bestRule_69 rfl (lv_at hl 1 rfl) ?_
        refine j_iret hx hb hr hlocks hH hw dX4_bestRule_70 ?_
        exact ⟨_, rfl, best_end hB, ⟨_, _, hO, hT, hS, hTr, hHi, hSl, hN⟩, hf⟩
      · have hsk : okS (upn σ 4 k) := okS_set hs (by omega) (Nat.zero_le _) (Or.inl (show k ≤ 2 by omega))
        refine lv_aload_n hx hb dX4_bestRule_15 rfl (lv_at hl 0 rfl) ?_
        refine lv_iconst (v := (nI (4))) hx hb dX4_bestRule_16 (by decide) ?_
        refine lv_iload hx hb dX4_bestRule_17 (lv_at hl 4 rfl) ?_
        refine j_Vv (n := 2) (As := [.int (nI (4)), .int (nI (k))]) hx hb hml hown hts hw (j_recv hw hO rfl) (c_X4_tryToTheEnd l g z H A (4) (k) σ τk Rk hz hO hS hTr (by first | assumption | omega) hsk hcalm (by first | assumption | omega)) gX4_bestRule_X4_tryToTheEnd rfl (by decide +kernel) ⟨Nat.le_of_ble_eq_true rfl, Nat.le_of_ble_eq_true rfl⟩ rfl hl.1 (Nat.le_of_ble_eq_true rfl) ⟨Nat.zero_le _, Nat.zero_le _⟩ dX4_bestRule_19 (fun H locs hr1 hw hsz => ?_) rfl
        obtain ⟨hTr, hf2⟩ := hr1
        have hO := hO.kept (hf2.2 _ (by omega))
        have hT := hT.kept (fun q _ _ => hf2.2 q (by omega))
        have hS := hS.kept (fun q _ _ => hf2.2 q (by omega))
        have hHi := hHi.kept (fun q _ _ => hf2.2 q (by omega))
        have hSl := hSl.kept (fun q _ _ => hf2.2 q (by omega))
        have hf := hf.step hf2 (by omega)
        obtain ⟨D, hD⟩ : ∃ x, x = (nightsS 9 (upn σ 4 k)).1 7 := ⟨_, rfl⟩
        obtain ⟨C, hC⟩ : ∃ x, x = (nightsS 9 (upn σ 4 k)).1 10 := ⟨_, rfl⟩
        have eD : (goS 10 (upn σ 4 k)).1 7 = D := (go_9 (by omega) hsk hcalm).symm.trans hD.symm
        have eC : (goS 10 (upn σ 4 k)).1 10 = C := (go_9 (by omega) hsk hcalm).symm.trans hC.symm
        have hm7 := nights_mono (j := 7) (by omega) hsk 9
        have hm10 := nights_mono (j := 10) (by omega) hsk 9
        rw [← hD, upn_n (by omega)] at hm7
        rw [← hC, upn_n (by omega)] at hm10
        have hl9 := lim_nights hsk (set_lim hlim (show 4 < 5 by omega)) 9
        have hl97 := hl9.1
        have hl910 := hl9.2.1
        rw [← hD] at hl97
        rw [← hC] at hl910
        obtain ⟨hst1, hst2⟩ := best_step hB eD eC ⟨hm7, by omega⟩ ⟨hm10, by omega⟩
        refine lv_aload_n hx hb dX4_bestRule_22 rfl (lv_at hl 0 rfl) ?_
        refine lv_iconst (v := (nI (2))) hx hb dX4_bestRule_23 (by decide) ?_
        refine j_Vp (n := 1) (As := [.int (nI (2))]) hx hb hml hown hts hw (j_recv hw hO rfl) (c_X4_more l g z H A (2) σ (nightsS 9 (upn σ (4) (k))) hz hO hS hTr hs (okS_nights hsk 9) (by first | assumption | omega)) gX4_bestRule_X4_more rfl (by decide +kernel) ⟨Nat.le_of_ble_eq_true rfl, Nat.le_of_ble_eq_true rfl⟩ rfl hl.1 (Nat.le_of_ble_eq_true rfl) ⟨Nat.zero_le _, Nat.zero_le _⟩ dX4_bestRule_24 (fun r2 locs hr2 hw => ?_) rfl
        obtain rfl : r2 = (nI D - nI (σ.1 7)) := hr2.trans (by rw [hD]; rfl)
        refine lv_istore (lv' := [(5, .int _), (0, .ref _), (1, .int _), (2, .int _), (3, .int _), (4, .int _)]) hx hb dX4_bestRule_27 hl (by decide) rfl (fun ls hl => ?_)
        refine lv_aload_n hx hb dX4_bestRule_29 rfl (lv_at hl 1 rfl) ?_
        refine lv_iconst (v := (nI (5))) hx hb dX4_bestRule_30 (by decide) ?_
        refine j_Vp (n := 1) (As := [.int (nI (5))]) hx hb hml hown hts hw (j_recv hw hO rfl) (c_X4_more l g z H A (5) σ (nightsS 9 (upn σ (4) (k))) hz hO hS hTr hs (okS_nights hsk 9) (by first | assumption | omega)) gX4_bestRule_X4_more rfl (by decide +kernel) ⟨Nat.le_of_ble_eq_true rfl, Nat.le_of_ble_eq_true rfl⟩ rfl hl.1 (Nat.le_of_ble_eq_true rfl) ⟨Nat.zero_le _, Nat.zero_le _⟩ dX4_bestRule_31 (fun r3 locs hr3 hw => ?_) rfl
        obtain rfl : r3 = (nI C - nI (σ.1 10)) := hr3.trans (by rw [hC]; rfl)
        refine lv_istore (lv' := [(6, .int _), (5, .int _), (0, .ref _), (1, .int _), (2, .int _), (3, .int _), (4, .int _)]) hx hb dX4_bestRule_34 hl (by decide) rfl (fun ls hl => ?_)
        refine lv_iload hx hb dX4_bestRule_36 (lv_at hl 1 rfl) ?_
        refine lv_iload_n hx hb dX4_bestRule_38 rfl (lv_at hl 4 rfl) ?_
        refine lv_icmp_gt (tgt := 54) hx hb dX4_bestRule_39 (by decide) (fun c39 => ?_) (fun c39 => ?_)
        · refine lv_iload hx hb dX4_bestRule_54 (lv_at hl 6 rfl) ?_
          refine lv_istore_n (lv' := [(1, .int _), (6, .int _), (5, .int _), (0, .ref _), (2, .int _), (3, .int _), (4, .int _)]) hx hb dX4_bestRule_56 rfl hl (by decide) rfl (fun ls hl => ?_)
          refine lv_iload hx hb dX4_bestRule_57 (lv_at hl 2 rfl) ?_
          refine lv_istore_n (lv' := [(2, .int _), (1, .int _), (6, .int _), (5, .int _), (0, .ref _), (3, .int _), (4, .int _)]) hx hb dX4_bestRule_59 rfl hl (by decide) rfl (fun ls hl => ?_)
          refine lv_iload hx hb dX4_bestRule_60 (lv_at hl 2 rfl) ?_
          refine lv_istore_n (lv' := [(3, .int _), (2, .int _), (1, .int _), (6, .int _), (5, .int _), (0, .ref _), (4, .int _)]) hx hb dX4_bestRule_62 rfl hl (by decide) rfl (fun ls hl => ?_)
          refine lv_iinc (v := nI (k + 1)) (lv' := [(4, .int _), (3, .int _), (2, .int _), (1, .int _), (6, .int _), (5, .int _), (0, .ref _)]) hx hb dX4_bestRule_63 hl (k := 6) rfl (nI_add _ 1) (by decide) rfl (fun ls hl => ?_)
          refine lv_goto (tgt := 9) hx hb dX4_bestRule_66 (by decide) ?_
          exact ih9  (k + 1) _ _ _ (nightsS 9 (upn σ (4) (k))) (opnR (nightsS 9 (upn σ (4) (k)))) (by first | assumption | omega) (hst1 (by first | exact Or.inl c39 | exact Or.inr ⟨c45, Int32.not_le.mp c51⟩)) (by omega) H _ hw hf hO hT hS hTr hHi hSl _ (lv_sub hl [6, 3, 2, 1, 0] rfl)
        · refine lv_iload hx hb dX4_bestRule_42 (lv_at hl 1 rfl) ?_
          refine lv_iload_n hx hb dX4_bestRule_44 rfl (lv_at hl 4 rfl) ?_
          refine lv_icmp_ne (tgt := 63) hx hb dX4_bestRule_45 (by decide) (fun c45 => ?_) (fun c45 => ?_)
          · refine lv_iinc (v := nI (k + 1)) (lv' := [(4, .int _), (6, .int _), (5, .int _), (0, .ref _), (1, .int _), (2, .int _), (3, .int _)]) hx hb dX4_bestRule_63 hl (k := 6) rfl (nI_add _ 1) (by decide) rfl (fun ls hl => ?_)
            refine lv_goto (tgt := 9) hx hb dX4_bestRule_66 (by decide) ?_
            exact ih9  (k + 1) _ _ _ (nightsS 9 (upn σ (4) (k))) (opnR (nightsS 9 (upn σ (4) (k)))) (by first | assumption | omega) (hst2 (fun q => by rcases q with q | ⟨q1, q2⟩; exact c39 q; first | exact c45 q1 | exact absurd c51 (Int32.not_le.mpr q2))) (by omega) H _ hw hf hO hT hS hTr hHi hSl _ (lv_sub hl [3, 4, 5, 6, 0] rfl)
          · refine lv_iload hx hb dX4_bestRule_48 (lv_at hl 0 rfl) ?_
            refine lv_iload_n hx hb dX4_bestRule_50 rfl (lv_at hl 5 rfl) ?_
            refine lv_icmp_le (tgt := 63) hx hb dX4_bestRule_51 (by decide) (fun c51 => ?_) (fun c51 => ?_)
            · refine lv_iinc (v := nI (k + 1)) (lv' := [(4, .int _), (6, .int _), (5, .int _), (0, .ref _), (1, .int _), (2, .int _), (3, .int _)]) hx hb dX4_bestRule_63 hl (k := 6) rfl (nI_add _ 1) (by decide) rfl (fun ls hl => ?_)
              refine lv_goto (tgt := 9) hx hb dX4_bestRule_66 (by decide) ?_
              exact ih9  (k + 1) _ _ _ (nightsS 9 (upn σ (4) (k))) (opnR (nightsS 9 (upn σ (4) (k)))) (by first | assumption | omega) (hst2 (fun q => by rcases q with q | ⟨q1, q2⟩; exact c39 q; first | exact c45 q1 | exact absurd c51 (Int32.not_le.mpr q2))) (by omega) H _ hw hf hO hT hS hTr hHi hSl _ (lv_sub hl [3, 4, 5, 6, 0] rfl)
            · refine lv_iload hx hb dX4_bestRule_54 (lv_at hl 6 rfl) ?_
              refine lv_istore_n (lv' := [(1, .int _), (6, .int _), (5, .int _), (0, .ref _), (2, .int _), (3, .int _), (4, .int _)]) hx hb dX4_bestRule_56 rfl hl (by decide) rfl (fun ls hl => ?_)
              refine lv_iload hx hb dX4_bestRule_57 (lv_at hl 2 rfl) ?_
              refine lv_istore_n (lv' := [(2, .int _), (1, .int _), (6, .int _), (5, .int _), (0, .ref _), (3, .int _), (4, .int _)]) hx hb dX4_bestRule_59 rfl hl (by decide) rfl (fun ls hl => ?_)
              refine lv_iload hx hb dX4_bestRule_60 (lv_at hl 2 rfl) ?_
              refine lv_istore_n (lv' := [(3, .int _), (2, .int _), (1, .int _), (6, .int _), (5, .int _), (0, .ref _), (4, .int _)]) hx hb dX4_bestRule_62 rfl hl (by decide) rfl (fun ls hl => ?_)
              refine lv_iinc (v := nI (k + 1)) (lv' := [(4, .int _), (3, .int _), (2, .int _), (1, .int _), (6, .int _), (5, .int _), (0, .ref _)]) hx hb dX4_bestRule_63 hl (k := 6) rfl (nI_add _ 1) (by decide) rfl (fun ls hl => ?_)
              refine lv_goto (tgt := 9) hx hb dX4_bestRule_66 (by decide) ?_
              exact ih9  (k + 1) _ _ _ (nightsS 9 (upn σ (4) (k))) (opnR (nightsS 9 (upn σ (4) (k)))) (by first | assumption | omega) (hst1 (by first | exact Or.inl c39 | exact Or.inr ⟨c45, Int32.not_le.mp c51⟩)) (by omega) H _ hw hf hO hT hS hTr hHi hSl _ (lv_sub hl [6, 3, 2, 1, 0] rfl)
  exact lp9 (3 - 0 + 1) 0 _ _ _ τ Rt (by first | assumption | omega) (Or.inl ⟨rfl, rfl, rfl, rfl⟩) (by omega) H0 _ hw hf hO hT hS hTr hHi hSl _ (lv_sub hl [4, 3, 2, 1, 0] rfl)

abbrev q_X4_leastRoom (g : jG) (H0 : Heap) (A : Nat) (tx : List Nat) (σ : Sg) (hi : List Sg) (sv : Nat → Option Sg) (K : Nat) : Option Value → Heap → Prop := jN (fun r H1 => r = fRoom σ ∧ CD g H1 A tx σ hi sv ∧ jF A 223 H0 H1)
set_option maxHeartbeats 4000000 in
set_option maxRecDepth 100000 in
theorem c_X4_leastRoom (l : Launch) (g : jG) (z : Nat) (H0 : Heap) (A : Nat) (tx : List Nat) (σ : Sg) (hi : List Sg) (sv : Nat → Option Sg) (K : Nat) (hz : z ≤ A) (hCD : CD g H0 A tx σ hi sv) (hlim : lim K σ) (hK : K < 2 ^ 29) : jM l g z yX4_leastRoom wsX4_leastRoom 8 196 [.ref A] H0 (q_X4_leastRoom g H0 A tx σ hi sv K) := by
  refine j_of (cc := cX4_leastRoom) (n := 2) (ret := some .int) (by decide) rfl (Nat.le_of_ble_eq_true rfl) ?_
  intro p e s m below meth c hx hb hr hml hown hts hlocks hname hH hw ls hl
  have hl : lv_has ls 2 [(0, .ref A)] := hl
  have hf : jF A 223 H0 H0 := jF.rf
  obtain ⟨τ, Rt, hO, hT, hS, hTr, hHi, hSl, hN⟩ := hCD
  obtain ⟨hs, hcalm, h20⟩ := id hN
  have hln := opnR_len (σ := σ)
  have hl21 := hs.2.2.1
  obtain ⟨hk7, hk10, hk12, hk30⟩ := id hlim
  refine lv_iconst (v := (nI (0))) hx hb dX4_leastRoom_0 (by decide) ?_
  refine lv_istore_n (lv' := [(1, .int _), (0, .ref _)]) hx hb dX4_leastRoom_1 rfl hl (by decide) rfl (fun ls hl => ?_)
  have lp2 : ∀ (n2 : Nat) (k : Nat) (d : Nat) (τk : Sg) (Rk : List OR) (hkd : k + d = 17) (hG : fnd (rmOk σ) d k = fnd (rmOk σ) 17 0) (hmu2 : d < n2) (H : Heap) (locs : List Loc) (hw : jW g z s H locs) (hf : jF A 223 H0 H) (hO : jO g H A 4 [.ref (A + 1), .ref (A + 3), .ref (A + 15), .ref (A + 27), .ref (A + 197), .ref (A + 198)]) (hT : jTe g H (A + 1) tx) (hS : jSo g H (A + 3) σ (opnR σ)) (hTr : jSo g H (A + 15) τk Rk) (hHi : jHi g H (A + 27) hi) (hSl : jSl g H (A + 197) sv) (ls : Array Slot) (hl : lv_has ls 2 [(0, .ref A), (1, .int (nI (k)))]), jK p l e 8 196 s m [.ref A] below meth c z H0 (q_X4_leastRoom g H0 A tx σ hi sv K) H locs (F0 m 2 ls []) := by
    intro n2
    induction n2 with
    | zero => intros; omega
    | succ n2 ih2 =>
      intro k d τk Rk hkd hG hmu2 H locs hw hf hO hT hS hTr hHi hSl ls hl
      refine lv_iload_n hx hb dX4_leastRoom_2 rfl (lv_at hl 1 rfl) ?_
      refine lv_bipush (v := (nI (16))) hx hb dX4_leastRoom_3 (by decide) ?_
      refine jn_gt (tgt := 30) hx hb dX4_leastRoom_5 (by decide) (by omega) (by omega) (fun c5 => ?_) (fun c5 => ?_)
      · obtain rfl : d = 0 := (by omega)
        refine lv_iconst (v := (-1)) hx hb dX4_leastRoom_30 (by decide) ?_
        refine j_iret hx hb hr hlocks hH hw dX4_leastRoom_31 ?_
        have e9 : -1 = fRoom σ := by unfold fRoom; rw [← hG]; rfl
        exact ⟨_, rfl, e9, ⟨_, _, hO, hT, hS, hTr, hHi, hSl, hN⟩, hf⟩
      · obtain ⟨d, rfl⟩ : ∃ d1, d = d1 + 1 := ⟨d - 1, by omega⟩
        have hsk : okS (upn σ 0 k) := okS_set hs (by omega) (Nat.zero_le _) (Or.inr ⟨rfl, by omega⟩)
        refine lv_aload_n hx hb dX4_leastRoom_8 rfl (lv_at hl 0 rfl) ?_
        refine lv_iconst (v := (nI (0))) hx hb dX4_leastRoom_9 (by decide) ?_
        refine lv_iload_n hx hb dX4_leastRoom_10 rfl (lv_at hl 1 rfl) ?_
        refine j_Vv (n := 2) (As := [.int (nI (0)), .int (nI (k))]) hx hb hml hown hts hw (j_recv hw hO rfl) (c_X4_tryToTheEnd l g z H A (0) (k) σ τk Rk hz hO hS hTr (by first | assumption | omega) hsk hcalm (by first | assumption | omega)) gX4_leastRoom_X4_tryToTheEnd rfl (by decide +kernel) ⟨Nat.le_of_ble_eq_true rfl, Nat.le_of_ble_eq_true rfl⟩ rfl hl.1 (Nat.le_of_ble_eq_true rfl) ⟨Nat.zero_le _, Nat.zero_le _⟩ dX4_leastRoom_11 (fun H locs hr1 hw hsz => ?_) rfl
        obtain ⟨hTr, hf2⟩ := hr1
        have hO := hO.kept (hf2.2 _ (by omega))
        have hT := hT.kept (fun q _ _ => hf2.2 q (by omega))
        have hS := hS.kept (fun q _ _ => hf2.2 q (by omega))
        have hHi := hHi.kept (fun q _ _ => hf2.2 q (by omega))
        have hSl := hSl.kept (fun q _ _ => hf2.2 q (by omega))
        have hf := hf.step hf2 (by omega)
        refine lv_aload_n hx hb dX4_leastRoom_14 rfl (lv_at hl 0 rfl) ?_
        refine lv_iconst (v := (nI (3))) hx hb dX4_leastRoom_15 (by decide) ?_
        refine j_Vp (n := 1) (As := [.int (nI (3))]) hx hb hml hown hts hw (j_recv hw hO rfl) (c_X4_more l g z H A (3) σ (nightsS 9 (upn σ (0) (k))) hz hO hS hTr hs (okS_nights hsk 9) (by first | assumption | omega)) gX4_leastRoom_X4_more rfl (by decide +kernel) ⟨Nat.le_of_ble_eq_true rfl, Nat.le_of_ble_eq_true rfl⟩ rfl hl.1 (Nat.le_of_ble_eq_true rfl) ⟨Nat.zero_le _, Nat.zero_le _⟩ dX4_leastRoom_16 (fun r2 locs hr2 hw => ?_) rfl
        obtain rfl : r2 = (nI ((nightsS 9 (upn σ 0 k)).1 8) - nI (σ.1 8)) := hr2.trans rfl
        refine lv_if_ne (tgt := 24) hx hb dX4_leastRoom_19 (by decide) (fun c19 => ?_) (fun c19 => ?_)
        · have hy9 : rmOk σ k = false := decide_eq_false (by rw [← go_9 (by omega) hsk hcalm]; exact fun q => c19 (sub_0.mpr q))
          refine lv_iinc (v := nI (k + 1)) (lv' := [(1, .int _), (0, .ref _)]) hx hb dX4_leastRoom_24 hl (k := 1) rfl (nI_add _ 1) (by decide) rfl (fun ls hl => ?_)
          refine lv_goto (tgt := 2) hx hb dX4_leastRoom_27 (by decide) ?_
          exact ih2  (k + 1) d (nightsS 9 (upn σ (0) (k))) (opnR (nightsS 9 (upn σ (0) (k)))) (by first | assumption | omega) (by rw [← fnd_miss hy9]; exact hG) (by omega) H _ hw hf hO hT hS hTr hHi hSl _ (lv_sub hl [1, 0] rfl)
        · have hy9 : rmOk σ k = true := decide_eq_true (by rw [← go_9 (by omega) hsk hcalm]; exact sub_0.mp c19)
          refine lv_iload_n hx hb dX4_leastRoom_22 rfl (lv_at hl 1 rfl) ?_
          refine j_iret hx hb hr hlocks hH hw dX4_leastRoom_23 ?_
          have e9 : nI k = fRoom σ := by unfold fRoom; rw [← hG, fnd_hit hy9]; rfl
          exact ⟨_, rfl, e9, ⟨_, _, hO, hT, hS, hTr, hHi, hSl, hN⟩, hf⟩
  exact lp2 (17 + 1) 0 17 τ Rt (by first | assumption | omega) rfl (by omega) H0 _ hw hf hO hT hS hTr hHi hSl _ (lv_sub hl [1, 0] rfl)
