abbrev q_X5_cancel (g : jG) (H0 : Heap) (M : Nat) (i : Int32) (x0 : Int32) (tx : List Nat) (σ : Sg) (hi : List Sg) (sv : Nat → Option Sg) : Option Value → Heap → Prop := jN (fun r H1 => ((fCancel σ i).1 = 0 → r = (fCancel σ i).2.1) ∧ MD g H1 M (nI (fCancel σ i).1) tx (fCancel σ i).2.2 (if (fCancel σ i).1 = 0 then pushH hi σ else hi) sv ∧ jF M 9 H0 H1)
set_option maxHeartbeats 4000000 in
set_option maxRecDepth 100000 in
theorem c_X5_cancel (l : Launch) (g : jG) (z : Nat) (H0 : Heap) (M : Nat) (i : Int32) (x0 : Int32) (tx : List Nat) (σ : Sg) (hi : List Sg) (sv : Nat → Option Sg) (hzM : z ≤ M) (hMD : MD g H0 M x0 tx σ hi sv) : jM l g z yX5_cancel wsX5_cancel 4 90 [.ref M, .int i] H0 (q_X5_cancel g H0 M i x0 tx σ hi sv) := by
  refine j_of (cc := cX5_cancel) (n := 2) (ret := some .int) (by decide) rfl (Nat.le_of_ble_eq_true rfl) ?_
  intro p e s m below meth c hx hb hr hml hown hts hlocks hname hH hw ls hl
  have hl : lv_has ls 2 [(0, .ref M), (1, .int i)] := hl
  have hinX5 : ∀ w ∈ u_ws RX5 TX5 16, w ∈ wsX5_cancel := by decide +kernel
  have hf : jF M 9 H0 H0 := jF.rf
  obtain ⟨x3, x4, x5, x14, sn, sc, rd, nw, tr, dy, kp, ik, tk, hO, hSc, hRd, hA, hTr, hDy, hKp, hIk, hT8, hMI⟩ := hMD
  obtain ⟨htx, hsc, hR, hN, hhi, hdy, hkp⟩ := id hMI
  obtain ⟨hs, hcalm, h20⟩ := id hN
  refine lv_aload_n hx hb dX5_cancel_0 rfl (lv_at hl 0 rfl) ?_
  refine lv_aload_n hx hb dX5_cancel_1 rfl (lv_at hl 0 rfl) ?_
  refine lv_iload_n hx hb dX5_cancel_2 rfl (lv_at hl 1 rfl) ?_
  refine j_Vp (n := 1) (As := [.int i]) hx hb hml hown hts hw (j_recv hw hO rfl) (c_X5_isOrder l g z H0 M i (σ) nw x0 (nI (tx.length)) x3 x4 x5 (nI (hi.length)) x14 _ hzM hO hA hR hs) gX5_cancel_X5_isOrder rfl (by decide +kernel) ⟨Nat.le_of_ble_eq_true rfl, Nat.le_of_ble_eq_true rfl⟩ rfl hl.1 (Nat.le_of_ble_eq_true rfl) ⟨Nat.zero_le _, Nat.zero_le _⟩ dX5_cancel_3 (fun r1 locs hr1 hw => ?_) rfl
  rcases hr1 with ⟨rfl, q, hq, hqa, hqn, rfl⟩ | ⟨rfl, hq⟩
  · refine jz_eq (tgt := 13) hx hb dX5_cancel_6 (by decide) (by omega) (fun c6 => absurd c6 (by omega)) (fun c6 => ?_)
    refine lv_iconst (v := (nI (0))) hx hb dX5_cancel_9 (by decide) ?_
    refine lv_goto (tgt := 14) hx hb dX5_cancel_10 (by decide) ?_
    refine j_Vi (n := 1) (As := [.int (nI (0))]) hx hb hml hown hts hw (j_recv hw hO rfl) (c_X5_refused l g z H0 M (0) x0 (nI (tx.length)) x3 x4 x5 (nI (hi.length)) x14 _ hzM hO (by first | assumption | omega)) gX5_cancel_X5_refused rfl (by decide +kernel) ⟨Nat.le_of_ble_eq_true rfl, Nat.le_of_ble_eq_true rfl⟩ rfl hl.1 (Nat.le_of_ble_eq_true rfl) ⟨Nat.zero_le _, Nat.zero_le _⟩ dX5_cancel_14 (fun r2 H locs hr2 hw hsz => ?_) rfl
    obtain ⟨hr2, hO, hf2⟩ := hr2
    obtain rfl : r2 = nI 0 := hr2
    have hO : jO g H M 5 [.int (nI (0)), .ref (M + 1), .int (nI (tx.length)), .int x3, .int x4, .int x5, .ref (M + 2), .ref (M + 3), .ref (M + 4), .ref (M + 5), .int (nI (hi.length)), .ref (M + 6), .ref (M + 7), .ref (M + 8), .int x14, .int (bI sn)] := hO
    have hSc := hSc.kept (hf2.2 _ (by omega))
    have hRd := hRd.kept (hf2.2 _ (by omega))
    have hA := hA.kept (hf2.2 _ (by omega))
    have hTr := hTr.kept (hf2.2 _ (by omega))
    have hDy := hDy.kept (hf2.2 _ (by omega))
    have hKp := hKp.kept (hf2.2 _ (by omega))
    have hIk := hIk.kept (hf2.2 _ (by omega))
    have hT8 := hT8.kept (hf2.2 _ (by omega))
    have hf := hf.step hf2 (by omega)
    refine jz_eq (tgt := 22) hx hb dX5_cancel_17 (by decide) (by omega) (fun c17 => ?_) (fun c17 => absurd c17 (by omega))
    refine lv_aload_n hx hb dX5_cancel_22 rfl (lv_at hl 0 rfl) ?_
    refine j_Vv (n := 0) (As := []) hx hb hml hown hts hw (j_recv hw hO rfl) (c_X5_remember l g z H M σ nw (nI (0)) (nI (tx.length)) x3 x4 x5 x14 _ _ dy hzM hO hA hDy hR hN hhi hdy) gX5_cancel_X5_remember rfl (by decide +kernel) ⟨Nat.le_of_ble_eq_true rfl, Nat.le_of_ble_eq_true rfl⟩ rfl hl.1 (Nat.le_of_ble_eq_true rfl) ⟨Nat.zero_le _, Nat.zero_le _⟩ dX5_cancel_23 (fun H locs hr3 hw hsz => ?_) rfl
    obtain ⟨hO, f4, hDy, hdy9, hf2⟩ := hr3
    have hSc := hSc.kept (hf2.2 _ (by omega) (by omega) (by omega))
    have hRd := hRd.kept (hf2.2 _ (by omega) (by omega) (by omega))
    have hA := hA.kept (hf2.2 _ (by omega) (by omega) (by omega))
    have hTr := hTr.kept (hf2.2 _ (by omega) (by omega) (by omega))
    have hKp := hKp.kept (hf2.2 _ (by omega) (by omega) (by omega))
    have hIk := hIk.kept (hf2.2 _ (by omega) (by omega) (by omega))
    have hT8 := hT8.kept (hf2.2 _ (by omega) (by omega) (by omega))
    have hf := hf.three hf2 (by omega) (by omega) (by omega)
    have hlen9 := (pushH_len (σ := σ) hhi).1
    obtain ⟨o, ho⟩ := getO hqn
    refine lv_aload_n hx hb dX5_cancel_26 rfl (lv_at hl 0 rfl) ?_
    refine j_get (T := TX5) (N := 16) (k := 7) hx hb hts hinX5 hown hw hO rfl (by decide) (hts (.fieldLink RX5 16 "NightTrainsModel" "now" "[I") (by decide +kernel)) rfl dX5_cancel_27 ?_
    refine lv_iload_n hx hb dX5_cancel_30 rfl (lv_at hl 1 rfl) ?_
    refine j_Si (n := 2) (As := [.ref (M + 3), .int (nI (q))]) hx hb hml hown hts hw (c_X5_cancelIn l g z H (M + 3) (q) (σ) nw o (by omega) hA hR hs ho) gX5_cancel_X5_cancelIn rfl (by decide +kernel) ⟨Nat.le_of_ble_eq_true rfl, Nat.le_of_ble_eq_true rfl⟩ rfl hl.1 (Nat.le_of_ble_eq_true rfl) ⟨Nat.zero_le _, Nat.zero_le _⟩ dX5_cancel_31 (fun r5 H locs hr5 hw hsz => ?_) rfl
    obtain ⟨rfl, hr5⟩ := hr5
    obtain ⟨⟨f6, hA, hR⟩, hs, hf2⟩ := hr5
    have hO := hO.kept (hf2.2 _ (by omega))
    have hSc := hSc.kept (hf2.2 _ (by omega))
    have hRd := hRd.kept (hf2.2 _ (by omega))
    have hTr := hTr.kept (hf2.2 _ (by omega))
    have hDy := hDy.kept (hf2.2 _ (by omega))
    have hKp := hKp.kept (hf2.2 _ (by omega))
    have hIk := hIk.kept (hf2.2 _ (by omega))
    have hT8 := hT8.kept (hf2.2 _ (by omega))
    have hf := hf.step hf2 (by omega)
    refine j_iret hx hb hr hlocks hH hw dX5_cancel_34 ?_
    have e9 : fCancel σ (nI (q)) = (0, nI (o 3), cancelS σ q o) := by simp only [fCancel, hq, ho]
    have hN9 := (hN.cancel (j := q) (o := o))
    exact ⟨_, rfl, by rw [e9]; exact ⟨fun _ => rfl, by rw [if_pos rfl]; exact ⟨x3, x4, x5, x14, sn, sc, rd, f6, tr, f4, kp, ik, tk, hO, hSc, hRd, hA, hTr, hDy, hKp, hIk, hT8, (hMI.acts hR hN9 hlen9 hdy9)⟩, hf⟩⟩
  · refine jz_eq (tgt := 13) hx hb dX5_cancel_6 (by decide) (by omega) (fun c6 => ?_) (fun c6 => absurd c6 (by omega))
    refine lv_iconst (v := (nI (1))) hx hb dX5_cancel_13 (by decide) ?_
    refine j_Vi (n := 1) (As := [.int (nI (1))]) hx hb hml hown hts hw (j_recv hw hO rfl) (c_X5_refused l g z H0 M (1) x0 (nI (tx.length)) x3 x4 x5 (nI (hi.length)) x14 _ hzM hO (by first | assumption | omega)) gX5_cancel_X5_refused rfl (by decide +kernel) ⟨Nat.le_of_ble_eq_true rfl, Nat.le_of_ble_eq_true rfl⟩ rfl hl.1 (Nat.le_of_ble_eq_true rfl) ⟨Nat.zero_le _, Nat.zero_le _⟩ dX5_cancel_14 (fun r7 H locs hr7 hw hsz => ?_) rfl
    obtain ⟨hr7, hO, hf2⟩ := hr7
    obtain rfl : r7 = nI 1 := hr7
    have hO : jO g H M 5 [.int (nI (1)), .ref (M + 1), .int (nI (tx.length)), .int x3, .int x4, .int x5, .ref (M + 2), .ref (M + 3), .ref (M + 4), .ref (M + 5), .int (nI (hi.length)), .ref (M + 6), .ref (M + 7), .ref (M + 8), .int x14, .int (bI sn)] := hO
    have hSc := hSc.kept (hf2.2 _ (by omega))
    have hRd := hRd.kept (hf2.2 _ (by omega))
    have hA := hA.kept (hf2.2 _ (by omega))
    have hTr := hTr.kept (hf2.2 _ (by omega))
    have hDy := hDy.kept (hf2.2 _ (by omega))
    have hKp := hKp.kept (hf2.2 _ (by omega))
    have hIk := hIk.kept (hf2.2 _ (by omega))
    have hT8 := hT8.kept (hf2.2 _ (by omega))
    have hf := hf.step hf2 (by omega)
    refine jz_eq (tgt := 22) hx hb dX5_cancel_17 (by decide) (by omega) (fun c17 => absurd c17 (by omega)) (fun c17 => ?_)
    refine lv_iconst (v := (nI (0))) hx hb dX5_cancel_20 (by decide) ?_
    refine j_iret hx hb hr hlocks hH hw dX5_cancel_21 ?_
    have e9 : fCancel σ i = (1, 0, σ) := by simp only [fCancel, hq]
    exact ⟨_, rfl, by rw [e9]; exact ⟨fun h9 => absurd h9 (Nat.succ_ne_zero _), by rw [if_neg (Nat.succ_ne_zero _)]; exact ⟨x3, x4, x5, x14, sn, sc, rd, nw, tr, dy, kp, ik, tk, hO, hSc, hRd, hA, hTr, hDy, hKp, hIk, hT8, hMI⟩, hf⟩⟩

abbrev q_X5_raise (g : jG) (H0 : Heap) (M : Nat) (i : Int32) (y : Int32) (x0 : Int32) (tx : List Nat) (σ : Sg) (hi : List Sg) (sv : Nat → Option Sg) : Option Value → Heap → Prop := jN (fun r H1 => ((fRaise σ i y).1 = 0 → r = (fRaise σ i y).2.1) ∧ MD g H1 M (nI (fRaise σ i y).1) tx (fRaise σ i y).2.2 (if (fRaise σ i y).1 = 0 then pushH hi σ else hi) sv ∧ jF M 9 H0 H1)
set_option maxHeartbeats 4000000 in
set_option maxRecDepth 100000 in
theorem c_X5_raise (l : Launch) (g : jG) (z : Nat) (H0 : Heap) (M : Nat) (i : Int32) (y : Int32) (x0 : Int32) (tx : List Nat) (σ : Sg) (hi : List Sg) (sv : Nat → Option Sg) (hzM : z ≤ M) (hMD : MD g H0 M x0 tx σ hi sv) : jM l g z yX5_raise wsX5_raise 2 46 [.ref M, .int i, .int y] H0 (q_X5_raise g H0 M i y x0 tx σ hi sv) := by
  refine j_of (cc := cX5_raise) (n := 3) (ret := some .int) (by decide) rfl (Nat.le_of_ble_eq_true rfl) ?_
  intro p e s m below meth c hx hb hr hml hown hts hlocks hname hH hw ls hl
  have hl : lv_has ls 3 [(0, .ref M), (1, .int i), (2, .int y)] := hl
  have hinX5 : ∀ w ∈ u_ws RX5 TX5 16, w ∈ wsX5_raise := by decide +kernel
  have hf : jF M 9 H0 H0 := jF.rf
  obtain ⟨x3, x4, x5, x14, sn, sc, rd, nw, tr, dy, kp, ik, tk, hO, hSc, hRd, hA, hTr, hDy, hKp, hIk, hT8, hMI⟩ := hMD
  obtain ⟨htx, hsc, hR, hN, hhi, hdy, hkp⟩ := id hMI
  obtain ⟨hs, hcalm, h20⟩ := id hN
  refine lv_aload_n hx hb dX5_raise_0 rfl (lv_at hl 0 rfl) ?_
  refine lv_aload_n hx hb dX5_raise_1 rfl (lv_at hl 0 rfl) ?_
  refine lv_iload_n hx hb dX5_raise_2 rfl (lv_at hl 1 rfl) ?_
  refine j_Vp (n := 1) (As := [.int i]) hx hb hml hown hts hw (j_recv hw hO rfl) (c_X5_isOrder l g z H0 M i (σ) nw x0 (nI (tx.length)) x3 x4 x5 (nI (hi.length)) x14 _ hzM hO hA hR hs) gX5_raise_X5_isOrder rfl (by decide +kernel) ⟨Nat.le_of_ble_eq_true rfl, Nat.le_of_ble_eq_true rfl⟩ rfl hl.1 (Nat.le_of_ble_eq_true rfl) ⟨Nat.zero_le _, Nat.zero_le _⟩ dX5_raise_3 (fun r1 locs hr1 hw => ?_) rfl
  rcases hr1 with ⟨rfl, q, hq, hqa, hqn, rfl⟩ | ⟨rfl, hq⟩
  · refine jz_ne (tgt := 13) hx hb dX5_raise_6 (by decide) (by omega) (fun c6 => ?_) (fun c6 => absurd c6 (by omega))
    refine lv_iload_n hx hb dX5_raise_13 rfl (lv_at hl 2 rfl) ?_
    refine j_Sp (n := 1) (As := [.int y]) hx hb hml hown hts hw (c_X5_isRaise l g z H0 y   ) gX5_raise_X5_isRaise rfl (by decide +kernel) ⟨Nat.le_of_ble_eq_true rfl, Nat.le_of_ble_eq_true rfl⟩ rfl hl.1 (Nat.le_of_ble_eq_true rfl) ⟨Nat.zero_le _, Nat.zero_le _⟩ dX5_raise_14 (fun r2 locs hr2 hw => ?_) rfl
    rcases hr2 with ⟨rfl, u, hu, hua, hun, rfl⟩ | ⟨rfl, hu⟩
    · refine jz_ne (tgt := 24) hx hb dX5_raise_17 (by decide) (by omega) (fun c17 => ?_) (fun c17 => absurd c17 (by omega))
      obtain ⟨o, ho⟩ := getO hqn
      refine lv_aload_n hx hb dX5_raise_24 rfl (lv_at hl 0 rfl) ?_
      refine j_get (T := TX5) (N := 16) (k := 7) hx hb hts hinX5 hown hw hO rfl (by decide) (hts (.fieldLink RX5 16 "NightTrainsModel" "now" "[I") (by decide +kernel)) rfl dX5_raise_25 ?_
      refine lv_iload_n hx hb dX5_raise_28 rfl (lv_at hl 1 rfl) ?_
      refine lv_iload_n hx hb dX5_raise_29 rfl (lv_at hl 2 rfl) ?_
      refine j_Sp (n := 3) (As := [.ref (M + 3), .int (nI (q)), .int (nI (u))]) hx hb hml hown hts hw (c_X5_canRaise l g z H0 (M + 3) (q) (u) (σ) nw o  hA hR hs ho (by first | assumption | omega)) gX5_raise_X5_canRaise rfl (by decide +kernel) ⟨Nat.le_of_ble_eq_true rfl, Nat.le_of_ble_eq_true rfl⟩ rfl hl.1 (Nat.le_of_ble_eq_true rfl) ⟨Nat.zero_le _, Nat.zero_le _⟩ dX5_raise_30 (fun r3 locs hcr hw => ?_) rfl
      rcases hcr with ⟨rfl, hcr⟩ | ⟨rfl, hcr⟩
      · refine jz_eq (tgt := 40) hx hb dX5_raise_33 (by decide) (by omega) (fun c33 => absurd c33 (by omega)) (fun c33 => ?_)
        refine lv_iconst (v := (nI (0))) hx hb dX5_raise_36 (by decide) ?_
        refine lv_goto (tgt := 41) hx hb dX5_raise_37 (by decide) ?_
        refine j_Vi (n := 1) (As := [.int (nI (0))]) hx hb hml hown hts hw (j_recv hw hO rfl) (c_X5_refused l g z H0 M (0) x0 (nI (tx.length)) x3 x4 x5 (nI (hi.length)) x14 _ hzM hO (by first | assumption | omega)) gX5_raise_X5_refused rfl (by decide +kernel) ⟨Nat.le_of_ble_eq_true rfl, Nat.le_of_ble_eq_true rfl⟩ rfl hl.1 (Nat.le_of_ble_eq_true rfl) ⟨Nat.zero_le _, Nat.zero_le _⟩ dX5_raise_41 (fun r4 H locs hr4 hw hsz => ?_) rfl
        obtain ⟨hr4, hO, hf2⟩ := hr4
        obtain rfl : r4 = nI 0 := hr4
        have hO : jO g H M 5 [.int (nI (0)), .ref (M + 1), .int (nI (tx.length)), .int x3, .int x4, .int x5, .ref (M + 2), .ref (M + 3), .ref (M + 4), .ref (M + 5), .int (nI (hi.length)), .ref (M + 6), .ref (M + 7), .ref (M + 8), .int x14, .int (bI sn)] := hO
        have hSc := hSc.kept (hf2.2 _ (by omega))
        have hRd := hRd.kept (hf2.2 _ (by omega))
        have hA := hA.kept (hf2.2 _ (by omega))
        have hTr := hTr.kept (hf2.2 _ (by omega))
        have hDy := hDy.kept (hf2.2 _ (by omega))
        have hKp := hKp.kept (hf2.2 _ (by omega))
        have hIk := hIk.kept (hf2.2 _ (by omega))
        have hT8 := hT8.kept (hf2.2 _ (by omega))
        have hf := hf.step hf2 (by omega)
        refine jz_eq (tgt := 49) hx hb dX5_raise_44 (by decide) (by omega) (fun c44 => ?_) (fun c44 => absurd c44 (by omega))
        refine lv_aload_n hx hb dX5_raise_49 rfl (lv_at hl 0 rfl) ?_
        refine j_Vv (n := 0) (As := []) hx hb hml hown hts hw (j_recv hw hO rfl) (c_X5_remember l g z H M σ nw (nI (0)) (nI (tx.length)) x3 x4 x5 x14 _ _ dy hzM hO hA hDy hR hN hhi hdy) gX5_raise_X5_remember rfl (by decide +kernel) ⟨Nat.le_of_ble_eq_true rfl, Nat.le_of_ble_eq_true rfl⟩ rfl hl.1 (Nat.le_of_ble_eq_true rfl) ⟨Nat.zero_le _, Nat.zero_le _⟩ dX5_raise_50 (fun H locs hr5 hw hsz => ?_) rfl
        obtain ⟨hO, f6, hDy, hdy9, hf2⟩ := hr5
        have hSc := hSc.kept (hf2.2 _ (by omega) (by omega) (by omega))
        have hRd := hRd.kept (hf2.2 _ (by omega) (by omega) (by omega))
        have hA := hA.kept (hf2.2 _ (by omega) (by omega) (by omega))
        have hTr := hTr.kept (hf2.2 _ (by omega) (by omega) (by omega))
        have hKp := hKp.kept (hf2.2 _ (by omega) (by omega) (by omega))
        have hIk := hIk.kept (hf2.2 _ (by omega) (by omega) (by omega))
        have hT8 := hT8.kept (hf2.2 _ (by omega) (by omega) (by omega))
        have hf := hf.three hf2 (by omega) (by omega) (by omega)
        have hlen9 := (pushH_len (σ := σ) hhi).1
        have hcr1 := hcr.1
        refine lv_aload_n hx hb dX5_raise_53 rfl (lv_at hl 0 rfl) ?_
        refine j_get (T := TX5) (N := 16) (k := 7) hx hb hts hinX5 hown hw hO rfl (by decide) (hts (.fieldLink RX5 16 "NightTrainsModel" "now" "[I") (by decide +kernel)) rfl dX5_raise_54 ?_
        refine lv_iload_n hx hb dX5_raise_57 rfl (lv_at hl 1 rfl) ?_
        refine lv_iload_n hx hb dX5_raise_58 rfl (lv_at hl 2 rfl) ?_
        refine j_Si (n := 3) (As := [.ref (M + 3), .int (nI (q)), .int (nI (u))]) hx hb hml hown hts hw (c_X5_raiseIn l g z H (M + 3) (q) (u) (σ) nw o (by omega) hA hR hs ho hcr1) gX5_raise_X5_raiseIn rfl (by decide +kernel) ⟨Nat.le_of_ble_eq_true rfl, Nat.le_of_ble_eq_true rfl⟩ rfl hl.1 (Nat.le_of_ble_eq_true rfl) ⟨Nat.zero_le _, Nat.zero_le _⟩ dX5_raise_59 (fun r7 H locs hr7 hw hsz => ?_) rfl
        obtain ⟨rfl, hr7⟩ := hr7
        obtain ⟨⟨f8, hA, hR⟩, hs, hf2⟩ := hr7
        have hO := hO.kept (hf2.2 _ (by omega))
        have hSc := hSc.kept (hf2.2 _ (by omega))
        have hRd := hRd.kept (hf2.2 _ (by omega))
        have hTr := hTr.kept (hf2.2 _ (by omega))
        have hDy := hDy.kept (hf2.2 _ (by omega))
        have hKp := hKp.kept (hf2.2 _ (by omega))
        have hIk := hIk.kept (hf2.2 _ (by omega))
        have hT8 := hT8.kept (hf2.2 _ (by omega))
        have hf := hf.step hf2 (by omega)
        refine j_iret hx hb hr hlocks hH hw dX5_raise_62 ?_
        have e9 : fRaise σ (nI (q)) (nI (u)) = (0, nI (o 3 + u), raiseS σ q o u) := by simp only [fRaise, hq, hu, ho]; exact if_pos hcr
        have hN9 := (hN.raise ho hcr1)
        exact ⟨_, rfl, by rw [e9]; exact ⟨fun _ => rfl, by rw [if_pos rfl]; exact ⟨x3, x4, x5, x14, sn, sc, rd, f8, tr, f6, kp, ik, tk, hO, hSc, hRd, hA, hTr, hDy, hKp, hIk, hT8, (hMI.acts hR hN9 hlen9 hdy9)⟩, hf⟩⟩
      · refine jz_eq (tgt := 40) hx hb dX5_raise_33 (by decide) (by omega) (fun c33 => ?_) (fun c33 => absurd c33 (by omega))
        refine lv_iconst (v := (nI (3))) hx hb dX5_raise_40 (by decide) ?_
        refine j_Vi (n := 1) (As := [.int (nI (3))]) hx hb hml hown hts hw (j_recv hw hO rfl) (c_X5_refused l g z H0 M (3) x0 (nI (tx.length)) x3 x4 x5 (nI (hi.length)) x14 _ hzM hO (by first | assumption | omega)) gX5_raise_X5_refused rfl (by decide +kernel) ⟨Nat.le_of_ble_eq_true rfl, Nat.le_of_ble_eq_true rfl⟩ rfl hl.1 (Nat.le_of_ble_eq_true rfl) ⟨Nat.zero_le _, Nat.zero_le _⟩ dX5_raise_41 (fun r9 H locs hr9 hw hsz => ?_) rfl
        obtain ⟨hr9, hO, hf2⟩ := hr9
        obtain rfl : r9 = nI 1 := hr9
        have hO : jO g H M 5 [.int (nI (3)), .ref (M + 1), .int (nI (tx.length)), .int x3, .int x4, .int x5, .ref (M + 2), .ref (M + 3), .ref (M + 4), .ref (M + 5), .int (nI (hi.length)), .ref (M + 6), .ref (M + 7), .ref (M + 8), .int x14, .int (bI sn)] := hO
        have hSc := hSc.kept (hf2.2 _ (by omega))
        have hRd := hRd.kept (hf2.2 _ (by omega))
        have hA := hA.kept (hf2.2 _ (by omega))
        have hTr := hTr.kept (hf2.2 _ (by omega))
        have hDy := hDy.kept (hf2.2 _ (by omega))
        have hKp := hKp.kept (hf2.2 _ (by omega))
        have hIk := hIk.kept (hf2.2 _ (by omega))
        have hT8 := hT8.kept (hf2.2 _ (by omega))
        have hf := hf.step hf2 (by omega)
        refine jz_eq (tgt := 49) hx hb dX5_raise_44 (by decide) (by omega) (fun c44 => absurd c44 (by omega)) (fun c44 => ?_)
        refine lv_iconst (v := (nI (0))) hx hb dX5_raise_47 (by decide) ?_
        refine j_iret hx hb hr hlocks hH hw dX5_raise_48 ?_
        have e9 : fRaise σ (nI (q)) (nI (u)) = (3, 0, σ) := by simp only [fRaise, hq, hu, ho]; exact if_neg hcr
        exact ⟨_, rfl, by rw [e9]; exact ⟨fun h9 => absurd h9 (Nat.succ_ne_zero _), by rw [if_neg (Nat.succ_ne_zero _)]; exact ⟨x3, x4, x5, x14, sn, sc, rd, nw, tr, dy, kp, ik, tk, hO, hSc, hRd, hA, hTr, hDy, hKp, hIk, hT8, hMI⟩, hf⟩⟩
    · refine jz_ne (tgt := 24) hx hb dX5_raise_17 (by decide) (by omega) (fun c17 => absurd c17 (by omega)) (fun c17 => ?_)
      refine lv_iconst (v := (nI (2))) hx hb dX5_raise_20 (by decide) ?_
      refine lv_goto (tgt := 41) hx hb dX5_raise_21 (by decide) ?_
      refine j_Vi (n := 1) (As := [.int (nI (2))]) hx hb hml hown hts hw (j_recv hw hO rfl) (c_X5_refused l g z H0 M (2) x0 (nI (tx.length)) x3 x4 x5 (nI (hi.length)) x14 _ hzM hO (by first | assumption | omega)) gX5_raise_X5_refused rfl (by decide +kernel) ⟨Nat.le_of_ble_eq_true rfl, Nat.le_of_ble_eq_true rfl⟩ rfl hl.1 (Nat.le_of_ble_eq_true rfl) ⟨Nat.zero_le _, Nat.zero_le _⟩ dX5_raise_41 (fun r10 H locs hr10 hw hsz => ?_) rfl
      obtain ⟨hr10, hO, hf2⟩ := hr10
      obtain rfl : r10 = nI 1 := hr10
      have hO : jO g H M 5 [.int (nI (2)), .ref (M + 1), .int (nI (tx.length)), .int x3, .int x4, .int x5, .ref (M + 2), .ref (M + 3), .ref (M + 4), .ref (M + 5), .int (nI (hi.length)), .ref (M + 6), .ref (M + 7), .ref (M + 8), .int x14, .int (bI sn)] := hO
      have hSc := hSc.kept (hf2.2 _ (by omega))
      have hRd := hRd.kept (hf2.2 _ (by omega))
      have hA := hA.kept (hf2.2 _ (by omega))
      have hTr := hTr.kept (hf2.2 _ (by omega))
      have hDy := hDy.kept (hf2.2 _ (by omega))
      have hKp := hKp.kept (hf2.2 _ (by omega))
      have hIk := hIk.kept (hf2.2 _ (by omega))
      have hT8 := hT8.kept (hf2.2 _ (by omega))
      have hf := hf.step hf2 (by omega)
      refine jz_eq (tgt := 49) hx hb dX5_raise_44 (by decide) (by omega) (fun c44 => absurd c44 (by omega)) (fun c44 => ?_)
      refine lv_iconst (v := (nI (0))) hx hb dX5_raise_47 (by decide) ?_
      refine j_iret hx hb hr hlocks hH hw dX5_raise_48 ?_
      have e9 : fRaise σ (nI (q)) y = (2, 0, σ) := by simp only [fRaise, hq, hu]
      exact ⟨_, rfl, by rw [e9]; exact ⟨fun h9 => absurd h9 (Nat.succ_ne_zero _), by rw [if_neg (Nat.succ_ne_zero _)]; exact ⟨x3, x4, x5, x14, sn, sc, rd, nw, tr, dy, kp, ik, tk, hO, hSc, hRd, hA, hTr, hDy, hKp, hIk, hT8, hMI⟩, hf⟩⟩
  · refine jz_ne (tgt := 13) hx hb dX5_raise_6 (by decide) (by omega) (fun c6 => absurd c6 (by omega)) (fun c6 => ?_)
    refine lv_iconst (v := (nI (1))) hx hb dX5_raise_9 (by decide) ?_
    refine lv_goto (tgt := 41) hx hb dX5_raise_10 (by decide) ?_
    refine j_Vi (n := 1) (As := [.int (nI (1))]) hx hb hml hown hts hw (j_recv hw hO rfl) (c_X5_refused l g z H0 M (1) x0 (nI (tx.length)) x3 x4 x5 (nI (hi.length)) x14 _ hzM hO (by first | assumption | omega)) gX5_raise_X5_refused rfl (by decide +kernel) ⟨Nat.le_of_ble_eq_true rfl, Nat.le_of_ble_eq_true rfl⟩ rfl hl.1 (Nat.le_of_ble_eq_true rfl) ⟨Nat.zero_le _, Nat.zero_le _⟩ dX5_raise_41 (fun r11 H locs hr11 hw hsz => ?_) rfl
    obtain ⟨hr11, hO, hf2⟩ := hr11
    obtain rfl : r11 = nI 1 := hr11
    have hO : jO g H M 5 [.int (nI (1)), .ref (M + 1), .int (nI (tx.length)), .int x3, .int x4, .int x5, .ref (M + 2), .ref (M + 3), .ref (M + 4), .ref (M + 5), .int (nI (hi.length)), .ref (M + 6), .ref (M + 7), .ref (M + 8), .int x14, .int (bI sn)] := hO
    have hSc := hSc.kept (hf2.2 _ (by omega))
    have hRd := hRd.kept (hf2.2 _ (by omega))
    have hA := hA.kept (hf2.2 _ (by omega))
    have hTr := hTr.kept (hf2.2 _ (by omega))
    have hDy := hDy.kept (hf2.2 _ (by omega))
    have hKp := hKp.kept (hf2.2 _ (by omega))
    have hIk := hIk.kept (hf2.2 _ (by omega))
    have hT8 := hT8.kept (hf2.2 _ (by omega))
    have hf := hf.step hf2 (by omega)
    refine jz_eq (tgt := 49) hx hb dX5_raise_44 (by decide) (by omega) (fun c44 => absurd c44 (by omega)) (fun c44 => ?_)
    refine lv_iconst (v := (nI (0))) hx hb dX5_raise_47 (by decide) ?_
    refine j_iret hx hb hr hlocks hH hw dX5_raise_48 ?_
    have e9 : fRaise σ i y = (1, 0, σ) := by simp only [fRaise, hq]
    exact ⟨_, rfl, by rw [e9]; exact ⟨fun h9 => absurd h9 (Nat.succ_ne_zero _), by rw [if_neg (Nat.succ_ne_zero _)]; exact ⟨x3, x4, x5, x14, sn, sc, rd, nw, tr, dy, kp, ik, tk, hO, hSc, hRd, hA, hTr, hDy, hKp, hIk, hT8, hMI⟩, hf⟩⟩

abbrev q_X5_nights (g : jG) (H0 : Heap) (M : Nat) (n : Int32) (x0 : Int32) (tx : List Nat) (σ : Sg) (hi : List Sg) (sv : Nat → Option Sg) : Option Value → Heap → Prop := jN (fun r H1 => ((fNights σ n).1 = 0 → r = (fNights σ n).2.1) ∧ MD g H1 M (nI (fNights σ n).1) tx (fNights σ n).2.2 (if (fNights σ n).1 = 0 then pushH hi σ else hi) sv ∧ jF M 9 H0 H1)
set_option maxHeartbeats 4000000 in
set_option maxRecDepth 100000 in
theorem c_X5_nights (l : Launch) (g : jG) (z : Nat) (H0 : Heap) (M : Nat) (n : Int32) (x0 : Int32) (tx : List Nat) (σ : Sg) (hi : List Sg) (sv : Nat → Option Sg) (hzM : z ≤ M) (hMD : MD g H0 M x0 tx σ hi sv) : jM l g z yX5_nights wsX5_nights 5 119 [.ref M, .int n] H0 (q_X5_nights g H0 M n x0 tx σ hi sv) := by
  refine j_of (cc := cX5_nights) (n := 2) (ret := some .int) (by decide) rfl (Nat.le_of_ble_eq_true rfl) ?_
  intro p e s m below meth c hx hb hr hml hown hts hlocks hname hH hw ls hl
  have hl : lv_has ls 2 [(0, .ref M), (1, .int n)] := hl
  have hinX5 : ∀ w ∈ u_ws RX5 TX5 16, w ∈ wsX5_nights := by decide +kernel
  have hf : jF M 9 H0 H0 := jF.rf
  obtain ⟨x3, x4, x5, x14, sn, sc, rd, nw, tr, dy, kp, ik, tk, hO, hSc, hRd, hA, hTr, hDy, hKp, hIk, hT8, hMI⟩ := hMD
  obtain ⟨htx, hsc, hR, hN, hhi, hdy, hkp⟩ := id hMI
  obtain ⟨hs, hcalm, h20⟩ := id hN
  refine lv_aload_n hx hb dX5_nights_0 rfl (lv_at hl 0 rfl) ?_
  refine lv_iload_n hx hb dX5_nights_1 rfl (lv_at hl 1 rfl) ?_
  refine j_Sp (n := 1) (As := [.int n]) hx hb hml hown hts hw (c_X5_isNights l g z H0 n   ) gX5_nights_X5_isNights rfl (by decide +kernel) ⟨Nat.le_of_ble_eq_true rfl, Nat.le_of_ble_eq_true rfl⟩ rfl hl.1 (Nat.le_of_ble_eq_true rfl) ⟨Nat.zero_le _, Nat.zero_le _⟩ dX5_nights_2 (fun r1 locs hr1 hw => ?_) rfl
  rcases hr1 with ⟨rfl, k, hk, hka, hkn, rfl⟩ | ⟨rfl, hk⟩
  · refine jz_eq (tgt := 12) hx hb dX5_nights_5 (by decide) (by omega) (fun c5 => absurd c5 (by omega)) (fun c5 => ?_)
    refine lv_iconst (v := (nI (0))) hx hb dX5_nights_8 (by decide) ?_
    refine lv_goto (tgt := 13) hx hb dX5_nights_9 (by decide) ?_
    refine j_Vi (n := 1) (As := [.int (nI (0))]) hx hb hml hown hts hw (j_recv hw hO rfl) (c_X5_refused l g z H0 M (0) x0 (nI (tx.length)) x3 x4 x5 (nI (hi.length)) x14 _ hzM hO (by first | assumption | omega)) gX5_nights_X5_refused rfl (by decide +kernel) ⟨Nat.le_of_ble_eq_true rfl, Nat.le_of_ble_eq_true rfl⟩ rfl hl.1 (Nat.le_of_ble_eq_true rfl) ⟨Nat.zero_le _, Nat.zero_le _⟩ dX5_nights_13 (fun r2 H locs hr2 hw hsz => ?_) rfl
    obtain ⟨hr2, hO, hf2⟩ := hr2
    obtain rfl : r2 = nI 0 := hr2
    have hO : jO g H M 5 [.int (nI (0)), .ref (M + 1), .int (nI (tx.length)), .int x3, .int x4, .int x5, .ref (M + 2), .ref (M + 3), .ref (M + 4), .ref (M + 5), .int (nI (hi.length)), .ref (M + 6), .ref (M + 7), .ref (M + 8), .int x14, .int (bI sn)] := hO
    have hSc := hSc.kept (hf2.2 _ (by omega))
    have hRd := hRd.kept (hf2.2 _ (by omega))
    have hA := hA.kept (hf2.2 _ (by omega))
    have hTr := hTr.kept (hf2.2 _ (by omega))
    have hDy := hDy.kept (hf2.2 _ (by omega))
    have hKp := hKp.kept (hf2.2 _ (by omega))
    have hIk := hIk.kept (hf2.2 _ (by omega))
    have hT8 := hT8.kept (hf2.2 _ (by omega))
    have hf := hf.step hf2 (by omega)
    refine jz_eq (tgt := 21) hx hb dX5_nights_16 (by decide) (by omega) (fun c16 => ?_) (fun c16 => absurd c16 (by omega))
    refine lv_aload_n hx hb dX5_nights_21 rfl (lv_at hl 0 rfl) ?_
    refine j_Vv (n := 0) (As := []) hx hb hml hown hts hw (j_recv hw hO rfl) (c_X5_remember l g z H M σ nw (nI (0)) (nI (tx.length)) x3 x4 x5 x14 _ _ dy hzM hO hA hDy hR hN hhi hdy) gX5_nights_X5_remember rfl (by decide +kernel) ⟨Nat.le_of_ble_eq_true rfl, Nat.le_of_ble_eq_true rfl⟩ rfl hl.1 (Nat.le_of_ble_eq_true rfl) ⟨Nat.zero_le _, Nat.zero_le _⟩ dX5_nights_22 (fun H locs hr3 hw hsz => ?_) rfl
    obtain ⟨hO, f4, hDy, hdy9, hf2⟩ := hr3
    have hSc := hSc.kept (hf2.2 _ (by omega) (by omega) (by omega))
    have hRd := hRd.kept (hf2.2 _ (by omega) (by omega) (by omega))
    have hA := hA.kept (hf2.2 _ (by omega) (by omega) (by omega))
    have hTr := hTr.kept (hf2.2 _ (by omega) (by omega) (by omega))
    have hKp := hKp.kept (hf2.2 _ (by omega) (by omega) (by omega))
    have hIk := hIk.kept (hf2.2 _ (by omega) (by omega) (by omega))
    have hT8 := hT8.kept (hf2.2 _ (by omega) (by omega) (by omega))
    have hf := hf.three hf2 (by omega) (by omega) (by omega)
    have hlen9 := (pushH_len (σ := σ) hhi).1
    refine lv_aload_n hx hb dX5_nights_25 rfl (lv_at hl 0 rfl) ?_
    refine lv_aload_n hx hb dX5_nights_26 rfl (lv_at hl 0 rfl) ?_
    refine j_get (T := TX5) (N := 16) (k := 7) hx hb hts hinX5 hown hw hO rfl (by decide) (hts (.fieldLink RX5 16 "NightTrainsModel" "now" "[I") (by decide +kernel)) rfl dX5_nights_27 ?_
    refine lv_iload_n hx hb dX5_nights_30 rfl (lv_at hl 1 rfl) ?_
    refine j_Vi (n := 2) (As := [.ref (M + 3), .int (nI (k))]) hx hb hml hown hts hw (j_recv hw hO rfl) (c_X5_nightsIn l g z H M (M + 3) (k) (σ) nw (nI (0)) (nI (tx.length)) x3 x4 x5 (nI ((pushH hi σ).length)) x14 _ tk hzM (by omega) (by omega) hO hA hT8 hR hs hcalm (by omega)) gX5_nights_X5_nightsIn rfl (by decide +kernel) ⟨Nat.le_of_ble_eq_true rfl, Nat.le_of_ble_eq_true rfl⟩ rfl hl.1 (Nat.le_of_ble_eq_true rfl) ⟨Nat.zero_le _, Nat.zero_le _⟩ dX5_nights_31 (fun r5 H locs hr5 hw hsz => ?_) rfl
    obtain ⟨hr5, ⟨⟨f6, hA, hR⟩, hs, hf2⟩, y8, b9, tk7, hO, hT8⟩ := hr5
    have hSc := hSc.kept (hf2.2 _ (by omega) (by omega) (by omega))
    have hRd := hRd.kept (hf2.2 _ (by omega) (by omega) (by omega))
    have hTr := hTr.kept (hf2.2 _ (by omega) (by omega) (by omega))
    have hDy := hDy.kept (hf2.2 _ (by omega) (by omega) (by omega))
    have hKp := hKp.kept (hf2.2 _ (by omega) (by omega) (by omega))
    have hIk := hIk.kept (hf2.2 _ (by omega) (by omega) (by omega))
    have hf := hf.three hf2 (by omega) (by omega) (by omega)
    obtain rfl := hr5
    refine j_iret hx hb hr hlocks hH hw dX5_nights_34 ?_
    have e9 : fNights σ (nI (k)) = (0, nI ((nightsS k σ).1 7) - nI (σ.1 7), nightsS k σ) := by simp only [fNights, hk]
    have hN9 := (hN.nights k)
    exact ⟨_, rfl, by rw [e9]; exact ⟨fun _ => rfl, by rw [if_pos rfl]; exact ⟨x3, x4, x5, y8, b9, sc, rd, f6, tr, f4, kp, ik, tk7, hO, hSc, hRd, hA, hTr, hDy, hKp, hIk, hT8, (hMI.acts hR hN9 hlen9 hdy9)⟩, hf⟩⟩
  · refine jz_eq (tgt := 12) hx hb dX5_nights_5 (by decide) (by omega) (fun c5 => ?_) (fun c5 => absurd c5 (by omega))
    refine lv_iconst (v := (nI (1))) hx hb dX5_nights_12 (by decide) ?_
    refine j_Vi (n := 1) (As := [.int (nI (1))]) hx hb hml hown hts hw (j_recv hw hO rfl) (c_X5_refused l g z H0 M (1) x0 (nI (tx.length)) x3 x4 x5 (nI (hi.length)) x14 _ hzM hO (by first | assumption | omega)) gX5_nights_X5_refused rfl (by decide +kernel) ⟨Nat.le_of_ble_eq_true rfl, Nat.le_of_ble_eq_true rfl⟩ rfl hl.1 (Nat.le_of_ble_eq_true rfl) ⟨Nat.zero_le _, Nat.zero_le _⟩ dX5_nights_13 (fun r10 H locs hr10 hw hsz => ?_) rfl
    obtain ⟨hr10, hO, hf2⟩ := hr10
    obtain rfl : r10 = nI 1 := hr10
    have hO : jO g H M 5 [.int (nI (1)), .ref (M + 1), .int (nI (tx.length)), .int x3, .int x4, .int x5, .ref (M + 2), .ref (M + 3), .ref (M + 4), .ref (M + 5), .int (nI (hi.length)), .ref (M + 6), .ref (M + 7), .ref (M + 8), .int x14, .int (bI sn)] := hO
    have hSc := hSc.kept (hf2.2 _ (by omega))
    have hRd := hRd.kept (hf2.2 _ (by omega))
    have hA := hA.kept (hf2.2 _ (by omega))
    have hTr := hTr.kept (hf2.2 _ (by omega))
    have hDy := hDy.kept (hf2.2 _ (by omega))
    have hKp := hKp.kept (hf2.2 _ (by omega))
    have hIk := hIk.kept (hf2.2 _ (by omega))
    have hT8 := hT8.kept (hf2.2 _ (by omega))
    have hf := hf.step hf2 (by omega)
    refine jz_eq (tgt := 21) hx hb dX5_nights_16 (by decide) (by omega) (fun c16 => absurd c16 (by omega)) (fun c16 => ?_)
    refine lv_iconst (v := (nI (0))) hx hb dX5_nights_19 (by decide) ?_
    refine j_iret hx hb hr hlocks hH hw dX5_nights_20 ?_
    have e9 : fNights σ n = (1, 0, σ) := by simp only [fNights, hk]
    exact ⟨_, rfl, by rw [e9]; exact ⟨fun h9 => absurd h9 (Nat.succ_ne_zero _), by rw [if_neg (Nat.succ_ne_zero _)]; exact ⟨x3, x4, x5, x14, sn, sc, rd, nw, tr, dy, kp, ik, tk, hO, hSc, hRd, hA, hTr, hDy, hKp, hIk, hT8, hMI⟩, hf⟩⟩

abbrev q_X5_give (g : jG) (H0 : Heap) (M : Nat) (cu : Int32) (v : Int32) (x0 : Int32) (tx : List Nat) (σ : Sg) (hi : List Sg) (sv : Nat → Option Sg) : Option Value → Heap → Prop := jN (fun r H1 => ((fGive σ cu v).1 = 0 → r = (fGive σ cu v).2.1) ∧ MD g H1 M (nI (fGive σ cu v).1) tx (fGive σ cu v).2.2 (if (fGive σ cu v).1 = 0 then pushH hi σ else hi) sv ∧ jF M 9 H0 H1)
set_option maxHeartbeats 4000000 in
set_option maxRecDepth 100000 in
theorem c_X5_give (l : Launch) (g : jG) (z : Nat) (H0 : Heap) (M : Nat) (cu : Int32) (v : Int32) (x0 : Int32) (tx : List Nat) (σ : Sg) (hi : List Sg) (sv : Nat → Option Sg) (hzM : z ≤ M) (hMD : MD g H0 M x0 tx σ hi sv) : jM l g z yX5_give wsX5_give 2 45 [.ref M, .int cu, .int v] H0 (q_X5_give g H0 M cu v x0 tx σ hi sv) := by
  refine j_of (cc := cX5_give) (n := 3) (ret := some .int) (by decide) rfl (Nat.le_of_ble_eq_true rfl) ?_
  intro p e s m below meth c hx hb hr hml hown hts hlocks hname hH hw ls hl
  have hl : lv_has ls 3 [(0, .ref M), (1, .int cu), (2, .int v)] := hl
  have hinX5 : ∀ w ∈ u_ws RX5 TX5 16, w ∈ wsX5_give := by decide +kernel
  have hf : jF M 9 H0 H0 := jF.rf
  obtain ⟨x3, x4, x5, x14, sn, sc, rd, nw, tr, dy, kp, ik, tk, hO, hSc, hRd, hA, hTr, hDy, hKp, hIk, hT8, hMI⟩ := hMD
  obtain ⟨htx, hsc, hR, hN, hhi, hdy, hkp⟩ := id hMI
  obtain ⟨hs, hcalm, h20⟩ := id hN
  refine lv_aload_n hx hb dX5_give_0 rfl (lv_at hl 0 rfl) ?_
  refine lv_iload_n hx hb dX5_give_1 rfl (lv_at hl 1 rfl) ?_
  refine j_Sp (n := 1) (As := [.int cu]) hx hb hml hown hts hw (c_X5_isReader l g z H0 cu   ) gX5_give_X5_isReader rfl (by decide +kernel) ⟨Nat.le_of_ble_eq_true rfl, Nat.le_of_ble_eq_true rfl⟩ rfl hl.1 (Nat.le_of_ble_eq_true rfl) ⟨Nat.zero_le _, Nat.zero_le _⟩ dX5_give_2 (fun r1 locs hr1 hw => ?_) rfl
  rcases hr1 with ⟨rfl, k, hk, hka, hkn, rfl⟩ | ⟨rfl, hk⟩
  · refine jz_ne (tgt := 12) hx hb dX5_give_5 (by decide) (by omega) (fun c5 => ?_) (fun c5 => absurd c5 (by omega))
    refine lv_iload_n hx hb dX5_give_12 rfl (lv_at hl 2 rfl) ?_
    refine lv_i2l (v := v.toInt64) hx hb dX5_give_13 rfl ?_
    refine lv_lconst (v := 1) hx hb dX5_give_14 (by decide) ?_
    refine lv_ldc2 (v := 100) hx hb hown (hts (.constantLong RX5 222 (100)) (by decide +kernel)) dX5_give_15 ?_
    refine j_Sp (n := 3) (As := [.long v.toInt64, .long 1, .long 100]) hx hb hml hown hts hw (c_X5_in l g z H0 v.toInt64 1 100   ) gX5_give_X5_in rfl (by decide +kernel) ⟨Nat.le_of_ble_eq_true rfl, Nat.le_of_ble_eq_true rfl⟩ rfl hl.1 (Nat.le_of_ble_eq_true rfl) ⟨Nat.zero_le _, Nat.zero_le _⟩ dX5_give_18 (fun r2 locs hr2 hw => ?_) rfl
    rcases in_ix (x := v) (a := 1) (n := 101) (by decide) (by decide) hr2 with ⟨rfl, u, hu, hua, hun, rfl⟩ | ⟨rfl, hu⟩
    · refine jz_eq (tgt := 28) hx hb dX5_give_21 (by decide) (by omega) (fun c21 => absurd c21 (by omega)) (fun c21 => ?_)
      refine lv_iconst (v := (nI (0))) hx hb dX5_give_24 (by decide) ?_
      refine lv_goto (tgt := 29) hx hb dX5_give_25 (by decide) ?_
      refine j_Vi (n := 1) (As := [.int (nI (0))]) hx hb hml hown hts hw (j_recv hw hO rfl) (c_X5_refused l g z H0 M (0) x0 (nI (tx.length)) x3 x4 x5 (nI (hi.length)) x14 _ hzM hO (by first | assumption | omega)) gX5_give_X5_refused rfl (by decide +kernel) ⟨Nat.le_of_ble_eq_true rfl, Nat.le_of_ble_eq_true rfl⟩ rfl hl.1 (Nat.le_of_ble_eq_true rfl) ⟨Nat.zero_le _, Nat.zero_le _⟩ dX5_give_29 (fun r3 H locs hr3 hw hsz => ?_) rfl
      obtain ⟨hr3, hO, hf2⟩ := hr3
      obtain rfl : r3 = nI 0 := hr3
      have hO : jO g H M 5 [.int (nI (0)), .ref (M + 1), .int (nI (tx.length)), .int x3, .int x4, .int x5, .ref (M + 2), .ref (M + 3), .ref (M + 4), .ref (M + 5), .int (nI (hi.length)), .ref (M + 6), .ref (M + 7), .ref (M + 8), .int x14, .int (bI sn)] := hO
      have hSc := hSc.kept (hf2.2 _ (by omega))
      have hRd := hRd.kept (hf2.2 _ (by omega))
      have hA := hA.kept (hf2.2 _ (by omega))
      have hTr := hTr.kept (hf2.2 _ (by omega))
      have hDy := hDy.kept (hf2.2 _ (by omega))
      have hKp := hKp.kept (hf2.2 _ (by omega))
      have hIk := hIk.kept (hf2.2 _ (by omega))
      have hT8 := hT8.kept (hf2.2 _ (by omega))
      have hf := hf.step hf2 (by omega)
      refine jz_eq (tgt := 37) hx hb dX5_give_32 (by decide) (by omega) (fun c32 => ?_) (fun c32 => absurd c32 (by omega))
      refine lv_aload_n hx hb dX5_give_37 rfl (lv_at hl 0 rfl) ?_
      refine j_Vv (n := 0) (As := []) hx hb hml hown hts hw (j_recv hw hO rfl) (c_X5_remember l g z H M σ nw (nI (0)) (nI (tx.length)) x3 x4 x5 x14 _ _ dy hzM hO hA hDy hR hN hhi hdy) gX5_give_X5_remember rfl (by decide +kernel) ⟨Nat.le_of_ble_eq_true rfl, Nat.le_of_ble_eq_true rfl⟩ rfl hl.1 (Nat.le_of_ble_eq_true rfl) ⟨Nat.zero_le _, Nat.zero_le _⟩ dX5_give_38 (fun H locs hr4 hw hsz => ?_) rfl
      obtain ⟨hO, f5, hDy, hdy9, hf2⟩ := hr4
      have hSc := hSc.kept (hf2.2 _ (by omega) (by omega) (by omega))
      have hRd := hRd.kept (hf2.2 _ (by omega) (by omega) (by omega))
      have hA := hA.kept (hf2.2 _ (by omega) (by omega) (by omega))
      have hTr := hTr.kept (hf2.2 _ (by omega) (by omega) (by omega))
      have hKp := hKp.kept (hf2.2 _ (by omega) (by omega) (by omega))
      have hIk := hIk.kept (hf2.2 _ (by omega) (by omega) (by omega))
      have hT8 := hT8.kept (hf2.2 _ (by omega) (by omega) (by omega))
      have hf := hf.three hf2 (by omega) (by omega) (by omega)
      have hlen9 := (pushH_len (σ := σ) hhi).1
      refine lv_aload_n hx hb dX5_give_41 rfl (lv_at hl 0 rfl) ?_
      refine j_get (T := TX5) (N := 16) (k := 7) hx hb hts hinX5 hown hw hO rfl (by decide) (hts (.fieldLink RX5 16 "NightTrainsModel" "now" "[I") (by decide +kernel)) rfl dX5_give_42 ?_
      refine lv_bipush (v := (nI (46))) hx hb dX5_give_45 (by decide) ?_
      refine lv_iload_n hx hb dX5_give_47 rfl (lv_at hl 1 rfl) ?_
      refine j_addN hx hb dX5_give_48 ?_
      refine lv_dup2_11 hx hb dX5_give_49 rfl rfl ?_
      refine j_iald hx hb hw hA (k := (46 + k)) rfl (by omega) (by omega) dX5_give_50 ?_
      refine j_eq (y := (σ.2.1 k)) (hR.p k hkn rfl) ?_
      refine lv_iload_n hx hb dX5_give_51 rfl (lv_at hl 2 rfl) ?_
      refine lv_iadd hx hb dX5_give_52 ?_
      refine j_iast hx hb hw hA (by omega) (k := (46 + k)) rfl (by omega) (by omega) dX5_give_53 (fun H locs hw hA oq hsz => ?_)
      obtain ⟨f6, ef6⟩ : ∃ y9, y9 = upd nw ((46 + k)) ((σ.2.1 k) + (nI (u))) := ⟨_, rfl⟩
      rw [← ef6] at hA
      have hO := hO.kept (oq _ (by omega))
      have hSc := hSc.kept (oq _ (by omega))
      have hRd := hRd.kept (oq _ (by omega))
      have hTr := hTr.kept (oq _ (by omega))
      have hDy := hDy.kept (oq _ (by omega))
      have hKp := hKp.kept (oq _ (by omega))
      have hIk := hIk.kept (oq _ (by omega))
      have hT8 := hT8.kept (oq _ (by omega))
      have hf := hf.put oq hsz (by omega)
      have hR := hR.sp (c := k) (y := (σ.2.1 k + nI u)) hkn rfl rfl
      rw [← ef6] at hR
      have hs := hs.sp (c := k) (x := (σ.2.1 k + nI u))
      refine lv_aload_n hx hb dX5_give_54 rfl (lv_at hl 0 rfl) ?_
      refine j_get (T := TX5) (N := 16) (k := 7) hx hb hts hinX5 hown hw hO rfl (by decide) (hts (.fieldLink RX5 16 "NightTrainsModel" "now" "[I") (by decide +kernel)) rfl dX5_give_55 ?_
      refine lv_bipush (v := (nI (46))) hx hb dX5_give_58 (by decide) ?_
      refine lv_iload_n hx hb dX5_give_60 rfl (lv_at hl 1 rfl) ?_
      refine j_addN hx hb dX5_give_61 ?_
      refine j_iald hx hb hw hA (k := (46 + k)) rfl (by omega) (by omega) dX5_give_62 ?_
      refine j_eq (y := (σ.2.1 k + nI u)) ((hR.p k hkn rfl).trans (if_pos rfl)) ?_
      refine j_iret hx hb hr hlocks hH hw dX5_give_63 ?_
      have e9 : fGive σ (nI (k)) (nI (u)) = (0, σ.2.1 k + nI u, upp σ k (σ.2.1 k + nI u)) := by simp only [fGive, hk, hu]
      have hN9 := (hN.sp (c := k) (x := σ.2.1 k + nI u))
      exact ⟨_, rfl, by rw [e9]; exact ⟨fun _ => rfl, by rw [if_pos rfl]; exact ⟨x3, x4, x5, x14, sn, sc, rd, f6, tr, f5, kp, ik, tk, hO, hSc, hRd, hA, hTr, hDy, hKp, hIk, hT8, (hMI.acts hR hN9 hlen9 hdy9)⟩, hf⟩⟩
    · refine jz_eq (tgt := 28) hx hb dX5_give_21 (by decide) (by omega) (fun c21 => ?_) (fun c21 => absurd c21 (by omega))
      refine lv_iconst (v := (nI (2))) hx hb dX5_give_28 (by decide) ?_
      refine j_Vi (n := 1) (As := [.int (nI (2))]) hx hb hml hown hts hw (j_recv hw hO rfl) (c_X5_refused l g z H0 M (2) x0 (nI (tx.length)) x3 x4 x5 (nI (hi.length)) x14 _ hzM hO (by first | assumption | omega)) gX5_give_X5_refused rfl (by decide +kernel) ⟨Nat.le_of_ble_eq_true rfl, Nat.le_of_ble_eq_true rfl⟩ rfl hl.1 (Nat.le_of_ble_eq_true rfl) ⟨Nat.zero_le _, Nat.zero_le _⟩ dX5_give_29 (fun r7 H locs hr7 hw hsz => ?_) rfl
      obtain ⟨hr7, hO, hf2⟩ := hr7
      obtain rfl : r7 = nI 1 := hr7
      have hO : jO g H M 5 [.int (nI (2)), .ref (M + 1), .int (nI (tx.length)), .int x3, .int x4, .int x5, .ref (M + 2), .ref (M + 3), .ref (M + 4), .ref (M + 5), .int (nI (hi.length)), .ref (M + 6), .ref (M + 7), .ref (M + 8), .int x14, .int (bI sn)] := hO
      have hSc := hSc.kept (hf2.2 _ (by omega))
      have hRd := hRd.kept (hf2.2 _ (by omega))
      have hA := hA.kept (hf2.2 _ (by omega))
      have hTr := hTr.kept (hf2.2 _ (by omega))
      have hDy := hDy.kept (hf2.2 _ (by omega))
      have hKp := hKp.kept (hf2.2 _ (by omega))
      have hIk := hIk.kept (hf2.2 _ (by omega))
      have hT8 := hT8.kept (hf2.2 _ (by omega))
      have hf := hf.step hf2 (by omega)
      refine jz_eq (tgt := 37) hx hb dX5_give_32 (by decide) (by omega) (fun c32 => absurd c32 (by omega)) (fun c32 => ?_)
      refine lv_iconst (v := (nI (0))) hx hb dX5_give_35 (by decide) ?_
      refine j_iret hx hb hr hlocks hH hw dX5_give_36 ?_
      have e9 : fGive σ (nI (k)) v = (2, 0, σ) := by simp only [fGive, hk, hu]
      exact ⟨_, rfl, by rw [e9]; exact ⟨fun h9 => absurd h9 (Nat.succ_ne_zero _), by rw [if_neg (Nat.succ_ne_zero _)]; exact ⟨x3, x4, x5, x14, sn, sc, rd, nw, tr, dy, kp, ik, tk, hO, hSc, hRd, hA, hTr, hDy, hKp, hIk, hT8, hMI⟩, hf⟩⟩
  · refine jz_ne (tgt := 12) hx hb dX5_give_5 (by decide) (by omega) (fun c5 => absurd c5 (by omega)) (fun c5 => ?_)
    refine lv_iconst (v := (nI (1))) hx hb dX5_give_8 (by decide) ?_
    refine lv_goto (tgt := 29) hx hb dX5_give_9 (by decide) ?_
    refine j_Vi (n := 1) (As := [.int (nI (1))]) hx hb hml hown hts hw (j_recv hw hO rfl) (c_X5_refused l g z H0 M (1) x0 (nI (tx.length)) x3 x4 x5 (nI (hi.length)) x14 _ hzM hO (by first | assumption | omega)) gX5_give_X5_refused rfl (by decide +kernel) ⟨Nat.le_of_ble_eq_true rfl, Nat.le_of_ble_eq_true rfl⟩ rfl hl.1 (Nat.le_of_ble_eq_true rfl) ⟨Nat.zero_le _, Nat.zero_le _⟩ dX5_give_29 (fun r8 H locs hr8 hw hsz => ?_) rfl
    obtain ⟨hr8, hO, hf2⟩ := hr8
    obtain rfl : r8 = nI 1 := hr8
    have hO : jO g H M 5 [.int (nI (1)), .ref (M + 1), .int (nI (tx.length)), .int x3, .int x4, .int x5, .ref (M + 2), .ref (M + 3), .ref (M + 4), .ref (M + 5), .int (nI (hi.length)), .ref (M + 6), .ref (M + 7), .ref (M + 8), .int x14, .int (bI sn)] := hO
    have hSc := hSc.kept (hf2.2 _ (by omega))
    have hRd := hRd.kept (hf2.2 _ (by omega))
    have hA := hA.kept (hf2.2 _ (by omega))
    have hTr := hTr.kept (hf2.2 _ (by omega))
    have hDy := hDy.kept (hf2.2 _ (by omega))
    have hKp := hKp.kept (hf2.2 _ (by omega))
    have hIk := hIk.kept (hf2.2 _ (by omega))
    have hT8 := hT8.kept (hf2.2 _ (by omega))
    have hf := hf.step hf2 (by omega)
    refine jz_eq (tgt := 37) hx hb dX5_give_32 (by decide) (by omega) (fun c32 => absurd c32 (by omega)) (fun c32 => ?_)
    refine lv_iconst (v := (nI (0))) hx hb dX5_give_35 (by decide) ?_
    refine j_iret hx hb hr hlocks hH hw dX5_give_36 ?_
    have e9 : fGive σ cu v = (1, 0, σ) := by simp only [fGive, hk]
    exact ⟨_, rfl, by rw [e9]; exact ⟨fun h9 => absurd h9 (Nat.succ_ne_zero _), by rw [if_neg (Nat.succ_ne_zero _)]; exact ⟨x3, x4, x5, x14, sn, sc, rd, nw, tr, dy, kp, ik, tk, hO, hSc, hRd, hA, hTr, hDy, hKp, hIk, hT8, hMI⟩, hf⟩⟩

abbrev q_X5_set (g : jG) (H0 : Heap) (M : Nat) (what : Int32) (v : Int32) (x0 : Int32) (tx : List Nat) (σ : Sg) (hi : List Sg) (sv : Nat → Option Sg) : Option Value → Heap → Prop := jN (fun r H1 => ((fSet σ what v).1 = 0 → r = (fSet σ what v).2.1) ∧ MD g H1 M (nI (fSet σ what v).1) tx (fSet σ what v).2.2 (if (fSet σ what v).1 = 0 then pushH hi σ else hi) sv ∧ jF M 9 H0 H1)
set_option maxHeartbeats 4000000 in
set_option maxRecDepth 100000 in
theorem c_X5_set (l : Launch) (g : jG) (z : Nat) (H0 : Heap) (M : Nat) (what : Int32) (v : Int32) (x0 : Int32) (tx : List Nat) (σ : Sg) (hi : List Sg) (sv : Nat → Option Sg) (hzM : z ≤ M) (hMD : MD g H0 M x0 tx σ hi sv) : jM l g z yX5_set wsX5_set 2 46 [.ref M, .int what, .int v] H0 (q_X5_set g H0 M what v x0 tx σ hi sv) := by
  refine j_of (cc := cX5_set) (n := 4) (ret := some .int) (by decide) rfl (Nat.le_of_ble_eq_true rfl) ?_
  intro p e s m below meth c hx hb hr hml hown hts hlocks hname hH hw ls hl
  have hl : lv_has ls 4 [(0, .ref M), (1, .int what), (2, .int v)] := hl
  have hinX5 : ∀ w ∈ u_ws RX5 TX5 16, w ∈ wsX5_set := by decide +kernel
  have hf : jF M 9 H0 H0 := jF.rf
  obtain ⟨x3, x4, x5, x14, sn, sc, rd, nw, tr, dy, kp, ik, tk, hO, hSc, hRd, hA, hTr, hDy, hKp, hIk, hT8, hMI⟩ := hMD
  obtain ⟨htx, hsc, hR, hN, hhi, hdy, hkp⟩ := id hMI
  obtain ⟨hs, hcalm, h20⟩ := id hN
  refine lv_aload_n hx hb dX5_set_0 rfl (lv_at hl 0 rfl) ?_
  refine lv_iload_n hx hb dX5_set_1 rfl (lv_at hl 1 rfl) ?_
  refine lv_iload_n hx hb dX5_set_2 rfl (lv_at hl 2 rfl) ?_
  refine j_Sp (n := 2) (As := [.int what, .int v]) hx hb hml hown hts hw (c_X5_isSetting l g z H0 what v   ) gX5_set_X5_isSetting rfl (by decide +kernel) ⟨Nat.le_of_ble_eq_true rfl, Nat.le_of_ble_eq_true rfl⟩ rfl hl.1 (Nat.le_of_ble_eq_true rfl) ⟨Nat.zero_le _, Nat.zero_le _⟩ dX5_set_3 (fun r1 locs hr1 hw => ?_) rfl
  rcases hr1 with ⟨rfl, k, u, hk, hkn, rfl, hu, hua, hun, rfl⟩ | ⟨rfl, hno⟩
  · refine jz_eq (tgt := 13) hx hb dX5_set_6 (by decide) (by omega) (fun c6 => absurd c6 (by omega)) (fun c6 => ?_)
    refine lv_iconst (v := (nI (0))) hx hb dX5_set_9 (by decide) ?_
    refine lv_goto (tgt := 14) hx hb dX5_set_10 (by decide) ?_
    refine j_Vi (n := 1) (As := [.int (nI (0))]) hx hb hml hown hts hw (j_recv hw hO rfl) (c_X5_refused l g z H0 M (0) x0 (nI (tx.length)) x3 x4 x5 (nI (hi.length)) x14 _ hzM hO (by first | assumption | omega)) gX5_set_X5_refused rfl (by decide +kernel) ⟨Nat.le_of_ble_eq_true rfl, Nat.le_of_ble_eq_true rfl⟩ rfl hl.1 (Nat.le_of_ble_eq_true rfl) ⟨Nat.zero_le _, Nat.zero_le _⟩ dX5_set_14 (fun r2 H locs hr2 hw hsz => ?_) rfl
    obtain ⟨hr2, hO, hf2⟩ := hr2
    obtain rfl : r2 = nI 0 := hr2
    have hO : jO g H M 5 [.int (nI (0)), .ref (M + 1), .int (nI (tx.length)), .int x3, .int x4, .int x5, .ref (M + 2), .ref (M + 3), .ref (M + 4), .ref (M + 5), .int (nI (hi.length)), .ref (M + 6), .ref (M + 7), .ref (M + 8), .int x14, .int (bI sn)] := hO
    have hSc := hSc.kept (hf2.2 _ (by omega))
    have hRd := hRd.kept (hf2.2 _ (by omega))
    have hA := hA.kept (hf2.2 _ (by omega))
    have hTr := hTr.kept (hf2.2 _ (by omega))
    have hDy := hDy.kept (hf2.2 _ (by omega))
    have hKp := hKp.kept (hf2.2 _ (by omega))
    have hIk := hIk.kept (hf2.2 _ (by omega))
    have hT8 := hT8.kept (hf2.2 _ (by omega))
    have hf := hf.step hf2 (by omega)
    refine jz_eq (tgt := 22) hx hb dX5_set_17 (by decide) (by omega) (fun c17 => ?_) (fun c17 => absurd c17 (by omega))
    refine lv_aload_n hx hb dX5_set_22 rfl (lv_at hl 0 rfl) ?_
    refine j_Vv (n := 0) (As := []) hx hb hml hown hts hw (j_recv hw hO rfl) (c_X5_remember l g z H M σ nw (nI (0)) (nI (tx.length)) x3 x4 x5 x14 _ _ dy hzM hO hA hDy hR hN hhi hdy) gX5_set_X5_remember rfl (by decide +kernel) ⟨Nat.le_of_ble_eq_true rfl, Nat.le_of_ble_eq_true rfl⟩ rfl hl.1 (Nat.le_of_ble_eq_true rfl) ⟨Nat.zero_le _, Nat.zero_le _⟩ dX5_set_23 (fun H locs hr3 hw hsz => ?_) rfl
    obtain ⟨hO, f4, hDy, hdy9, hf2⟩ := hr3
    have hSc := hSc.kept (hf2.2 _ (by omega) (by omega) (by omega))
    have hRd := hRd.kept (hf2.2 _ (by omega) (by omega) (by omega))
    have hA := hA.kept (hf2.2 _ (by omega) (by omega) (by omega))
    have hTr := hTr.kept (hf2.2 _ (by omega) (by omega) (by omega))
    have hKp := hKp.kept (hf2.2 _ (by omega) (by omega) (by omega))
    have hIk := hIk.kept (hf2.2 _ (by omega) (by omega) (by omega))
    have hT8 := hT8.kept (hf2.2 _ (by omega) (by omega) (by omega))
    have hf := hf.three hf2 (by omega) (by omega) (by omega)
    have hlen9 := (pushH_len (σ := σ) hhi).1
    refine lv_aload_n hx hb dX5_set_26 rfl (lv_at hl 0 rfl) ?_
    refine j_get (T := TX5) (N := 16) (k := 7) hx hb hts hinX5 hown hw hO rfl (by decide) (hts (.fieldLink RX5 16 "NightTrainsModel" "now" "[I") (by decide +kernel)) rfl dX5_set_27 ?_
    refine lv_iload_n hx hb dX5_set_30 rfl (lv_at hl 1 rfl) ?_
    refine j_iald hx hb hw hA (k := k) rfl (by omega) (by omega) dX5_set_31 ?_
    refine j_eq (y := nI (σ.1 k)) (hR.n k (by omega)) ?_
    refine lv_istore_n (lv' := [(3, .int _), (0, .ref _), (1, .int _), (2, .int _)]) hx hb dX5_set_32 rfl hl (by decide) rfl (fun ls hl => ?_)
    refine lv_aload_n hx hb dX5_set_33 rfl (lv_at hl 1 rfl) ?_
    refine j_get (T := TX5) (N := 16) (k := 7) hx hb hts hinX5 hown hw hO rfl (by decide) (hts (.fieldLink RX5 16 "NightTrainsModel" "now" "[I") (by decide +kernel)) rfl dX5_set_34 ?_
    refine lv_iload_n hx hb dX5_set_37 rfl (lv_at hl 2 rfl) ?_
    refine lv_iload_n hx hb dX5_set_38 rfl (lv_at hl 3 rfl) ?_
    refine j_iast hx hb hw hA (by omega) (k := k) rfl (by omega) (by omega) dX5_set_39 (fun H locs hw hA oq hsz => ?_)
    obtain ⟨f5, ef5⟩ : ∃ y9, y9 = upd nw (k) (nI (u)) := ⟨_, rfl⟩
    rw [← ef5] at hA
    have hO := hO.kept (oq _ (by omega))
    have hSc := hSc.kept (oq _ (by omega))
    have hRd := hRd.kept (oq _ (by omega))
    have hTr := hTr.kept (oq _ (by omega))
    have hDy := hDy.kept (oq _ (by omega))
    have hKp := hKp.kept (oq _ (by omega))
    have hIk := hIk.kept (oq _ (by omega))
    have hT8 := hT8.kept (oq _ (by omega))
    have hf := hf.put oq hsz (by omega)
    have hR := hR.sn (k := k) (v := u) (by omega) rfl
    rw [← ef5] at hR
    refine lv_iload_n hx hb dX5_set_40 rfl (lv_at hl 0 rfl) ?_
    refine j_iret hx hb hr hlocks hH hw dX5_set_41 ?_
    have e9 : fSet σ (nI (k)) (nI (u)) = (0, nI (σ.1 k), upn σ k u) := by simp only [fSet, hk, hu]
    have hN9 := (hN.set hkn hua (Nat.lt_succ_iff.mp hun))
    exact ⟨_, rfl, by rw [e9]; exact ⟨fun _ => rfl, by rw [if_pos rfl]; exact ⟨x3, x4, x5, x14, sn, sc, rd, f5, tr, f4, kp, ik, tk, hO, hSc, hRd, hA, hTr, hDy, hKp, hIk, hT8, (hMI.acts hR hN9 hlen9 hdy9)⟩, hf⟩⟩
  · refine jz_eq (tgt := 13) hx hb dX5_set_6 (by decide) (by omega) (fun c6 => ?_) (fun c6 => absurd c6 (by omega))
    refine lv_iconst (v := (nI (1))) hx hb dX5_set_13 (by decide) ?_
    refine j_Vi (n := 1) (As := [.int (nI (1))]) hx hb hml hown hts hw (j_recv hw hO rfl) (c_X5_refused l g z H0 M (1) x0 (nI (tx.length)) x3 x4 x5 (nI (hi.length)) x14 _ hzM hO (by first | assumption | omega)) gX5_set_X5_refused rfl (by decide +kernel) ⟨Nat.le_of_ble_eq_true rfl, Nat.le_of_ble_eq_true rfl⟩ rfl hl.1 (Nat.le_of_ble_eq_true rfl) ⟨Nat.zero_le _, Nat.zero_le _⟩ dX5_set_14 (fun r6 H locs hr6 hw hsz => ?_) rfl
    obtain ⟨hr6, hO, hf2⟩ := hr6
    obtain rfl : r6 = nI 1 := hr6
    have hO : jO g H M 5 [.int (nI (1)), .ref (M + 1), .int (nI (tx.length)), .int x3, .int x4, .int x5, .ref (M + 2), .ref (M + 3), .ref (M + 4), .ref (M + 5), .int (nI (hi.length)), .ref (M + 6), .ref (M + 7), .ref (M + 8), .int x14, .int (bI sn)] := hO
    have hSc := hSc.kept (hf2.2 _ (by omega))
    have hRd := hRd.kept (hf2.2 _ (by omega))
    have hA := hA.kept (hf2.2 _ (by omega))
    have hTr := hTr.kept (hf2.2 _ (by omega))
    have hDy := hDy.kept (hf2.2 _ (by omega))
    have hKp := hKp.kept (hf2.2 _ (by omega))
    have hIk := hIk.kept (hf2.2 _ (by omega))
    have hT8 := hT8.kept (hf2.2 _ (by omega))
    have hf := hf.step hf2 (by omega)
    refine jz_eq (tgt := 22) hx hb dX5_set_17 (by decide) (by omega) (fun c17 => absurd c17 (by omega)) (fun c17 => ?_)
    refine lv_iconst (v := (nI (0))) hx hb dX5_set_20 (by decide) ?_
    refine j_iret hx hb hr hlocks hH hw dX5_set_21 ?_
    have e9 : fSet σ what v = (1, 0, σ) := by rcases hno with h | ⟨k, h1, h2⟩; simp only [fSet, h]; simp only [fSet, h1, h2]
    exact ⟨_, rfl, by rw [e9]; exact ⟨fun h9 => absurd h9 (Nat.succ_ne_zero _), by rw [if_neg (Nat.succ_ne_zero _)]; exact ⟨x3, x4, x5, x14, sn, sc, rd, nw, tr, dy, kp, ik, tk, hO, hSc, hRd, hA, hTr, hDy, hKp, hIk, hT8, hMI⟩, hf⟩⟩

abbrev q_X5_ask (g : jG) (H0 : Heap) (M : Nat) (ac : Int32) (al : Int32) (ai : Int32) (af : Int32) (x0 : Int32) (tx : List Nat) (σ : Sg) (hi : List Sg) (sv : Nat → Option Sg) : Option Value → Heap → Prop := jN (fun r H1 => ((fAsk σ ac al ai af).1 = 0 → r = (fAsk σ ac al ai af).2.1) ∧ MD g H1 M (nI (fAsk σ ac al ai af).1) tx (fAsk σ ac al ai af).2.2 (if (fAsk σ ac al ai af).1 = 0 then pushH hi σ else hi) sv ∧ jF M 9 H0 H1)
set_option maxHeartbeats 4000000 in
set_option maxRecDepth 100000 in
theorem c_X5_ask (l : Launch) (g : jG) (z : Nat) (H0 : Heap) (M : Nat) (ac : Int32) (al : Int32) (ai : Int32) (af : Int32) (x0 : Int32) (tx : List Nat) (σ : Sg) (hi : List Sg) (sv : Nat → Option Sg) (hzM : z ≤ M) (hMD : MD g H0 M x0 tx σ hi sv) : jM l g z yX5_ask wsX5_ask 3 73 [.ref M, .int ac, .int al, .int ai, .int af] H0 (q_X5_ask g H0 M ac al ai af x0 tx σ hi sv) := by
  refine j_of (cc := cX5_ask) (n := 7) (ret := some .int) (by decide) rfl (Nat.le_of_ble_eq_true rfl) ?_
  intro p e s m below meth c hx hb hr hml hown hts hlocks hname hH hw ls hl
  have hl : lv_has ls 7 [(0, .ref M), (1, .int ac), (2, .int al), (3, .int ai), (4, .int af)] := hl
  have hinX5 : ∀ w ∈ u_ws RX5 TX5 16, w ∈ wsX5_ask := by decide +kernel
  have hf : jF M 9 H0 H0 := jF.rf
  obtain ⟨x3, x4, x5, x14, sn, sc, rd, nw, tr, dy, kp, ik, tk, hO, hSc, hRd, hA, hTr, hDy, hKp, hIk, hT8, hMI⟩ := hMD
  obtain ⟨htx, hsc, hR, hN, hhi, hdy, hkp⟩ := id hMI
  obtain ⟨hs, hcalm, h20⟩ := id hN
  refine lv_iload_n hx hb dX5_ask_0 rfl (lv_at hl 1 rfl) ?_
  refine j_Sp (n := 1) (As := [.int ac]) hx hb hml hown hts hw (c_X5_isReader l g z H0 ac   ) gX5_ask_X5_isReader rfl (by decide +kernel) ⟨Nat.le_of_ble_eq_true rfl, Nat.le_of_ble_eq_true rfl⟩ rfl hl.1 (Nat.le_of_ble_eq_true rfl) ⟨Nat.zero_le _, Nat.zero_le _⟩ dX5_ask_1 (fun r1 locs hr1 hw => ?_) rfl
  rcases hr1 with ⟨rfl, cu, hcu, hcua, hcun, rfl⟩ | ⟨rfl, hcu⟩
  · refine jz_eq (tgt := 18) hx hb dX5_ask_4 (by decide) (by omega) (fun c4 => absurd c4 (by omega)) (fun c4 => ?_)
    refine lv_iload_n hx hb dX5_ask_7 rfl (lv_at hl 2 rfl) ?_
    refine j_Sp (n := 1) (As := [.int al]) hx hb hml hown hts hw (c_X5_isLot l g z H0 al   ) gX5_ask_X5_isLot rfl (by decide +kernel) ⟨Nat.le_of_ble_eq_true rfl, Nat.le_of_ble_eq_true rfl⟩ rfl hl.1 (Nat.le_of_ble_eq_true rfl) ⟨Nat.zero_le _, Nat.zero_le _⟩ dX5_ask_8 (fun r2 locs hr2 hw => ?_) rfl
    rcases hr2 with ⟨rfl, lt, hlt, hlta, hltn, rfl⟩ | ⟨rfl, hlt⟩
    · refine jz_eq (tgt := 18) hx hb dX5_ask_11 (by decide) (by omega) (fun c11 => absurd c11 (by omega)) (fun c11 => ?_)
      refine lv_iconst (v := (nI (1))) hx hb dX5_ask_14 (by decide) ?_
      refine lv_goto (tgt := 19) hx hb dX5_ask_15 (by decide) ?_
      refine lv_istore (lv' := [(5, .int _), (0, .ref _), (1, .int _), (2, .int _), (3, .int _), (4, .int _)]) hx hb dX5_ask_19 hl (by decide) rfl (fun ls hl => ?_)
      refine lv_iload_n hx hb dX5_ask_21 rfl (lv_at hl 4 rfl) ?_
      refine lv_i2l (v := ai.toInt64) hx hb dX5_ask_22 rfl ?_
      refine lv_lconst (v := 0) hx hb dX5_ask_23 (by decide) ?_
      refine lv_ldc2 (v := 7) hx hb hown (hts (.constantLong RX5 198 (7)) (by decide +kernel)) dX5_ask_24 ?_
      refine j_Sp (n := 3) (As := [.long ai.toInt64, .long 0, .long 7]) hx hb hml hown hts hw (c_X5_in l g z H0 ai.toInt64 0 7   ) gX5_ask_X5_in rfl (by decide +kernel) ⟨Nat.le_of_ble_eq_true rfl, Nat.le_of_ble_eq_true rfl⟩ rfl hl.1 (Nat.le_of_ble_eq_true rfl) ⟨Nat.zero_le _, Nat.zero_le _⟩ dX5_ask_27 (fun r3 locs hr3 hw => ?_) rfl
      rcases in_ix (x := ai) (a := 0) (n := 8) (by decide) (by decide) hr3 with ⟨rfl, it, hit, hita, hitn, rfl⟩ | ⟨rfl, hit⟩
      · refine jz_eq (tgt := 45) hx hb dX5_ask_30 (by decide) (by omega) (fun c30 => absurd c30 (by omega)) (fun c30 => ?_)
        refine lv_iload hx hb dX5_ask_33 (lv_at hl 5 rfl) ?_
        refine j_Sp (n := 1) (As := [.int af]) hx hb hml hown hts hw (c_X5_isFee l g z H0 af   ) gX5_ask_X5_isFee rfl (by decide +kernel) ⟨Nat.le_of_ble_eq_true rfl, Nat.le_of_ble_eq_true rfl⟩ rfl hl.1 (Nat.le_of_ble_eq_true rfl) ⟨Nat.zero_le _, Nat.zero_le _⟩ dX5_ask_35 (fun r4 locs hr4 hw => ?_) rfl
        rcases hr4 with ⟨rfl, fe, hfe, hfea, hfen, rfl⟩ | ⟨rfl, hfe⟩
        · refine jz_eq (tgt := 45) hx hb dX5_ask_38 (by decide) (by omega) (fun c38 => absurd c38 (by omega)) (fun c38 => ?_)
          refine lv_iconst (v := (nI (1))) hx hb dX5_ask_41 (by decide) ?_
          refine lv_goto (tgt := 46) hx hb dX5_ask_42 (by decide) ?_
          refine lv_istore (lv' := [(6, .int _), (5, .int _), (0, .ref _), (1, .int _), (2, .int _), (3, .int _), (4, .int _)]) hx hb dX5_ask_46 hl (by decide) rfl (fun ls hl => ?_)
          refine lv_aload_n hx hb dX5_ask_48 rfl (lv_at hl 2 rfl) ?_
          refine lv_iload hx hb dX5_ask_49 (lv_at hl 1 rfl) ?_
          refine jz_ne (tgt := 58) hx hb dX5_ask_51 (by decide) (by omega) (fun c51 => ?_) (fun c51 => absurd c51 (by omega))
          refine lv_iload hx hb dX5_ask_58 (lv_at hl 0 rfl) ?_
          refine jz_ne (tgt := 67) hx hb dX5_ask_60 (by decide) (by omega) (fun c60 => ?_) (fun c60 => absurd c60 (by omega))
          refine lv_aload_n hx hb dX5_ask_67 rfl (lv_at hl 2 rfl) ?_
          refine j_get (T := TX5) (N := 16) (k := 7) hx hb hts hinX5 hown hw hO rfl (by decide) (hts (.fieldLink RX5 16 "NightTrainsModel" "now" "[I") (by decide +kernel)) rfl dX5_ask_68 ?_
          refine lv_iload_n hx hb dX5_ask_71 rfl (lv_at hl 3 rfl) ?_
          refine lv_iload_n hx hb dX5_ask_72 rfl (lv_at hl 4 rfl) ?_
          refine lv_iload hx hb dX5_ask_73 (lv_at hl 6 rfl) ?_
          refine j_Sp (n := 4) (As := [.ref (M + 3), .int (nI (cu)), .int (nI (lt)), .int (nI (fe))]) hx hb hml hown hts hw (c_X5_canAsk l g z H0 (M + 3) (cu) (lt) (fe) (σ) nw  hA hR hs (by first | assumption | omega) (by first | assumption | omega)) gX5_ask_X5_canAsk rfl (by decide +kernel) ⟨Nat.le_of_ble_eq_true rfl, Nat.le_of_ble_eq_true rfl⟩ rfl hl.1 (Nat.le_of_ble_eq_true rfl) ⟨Nat.zero_le _, Nat.zero_le _⟩ dX5_ask_75 (fun r5 locs hca hw => ?_) rfl
          rcases hca with ⟨rfl, hca⟩ | ⟨rfl, hca⟩
          · refine jz_eq (tgt := 85) hx hb dX5_ask_78 (by decide) (by omega) (fun c78 => absurd c78 (by omega)) (fun c78 => ?_)
            refine lv_iconst (v := (nI (0))) hx hb dX5_ask_81 (by decide) ?_
            refine lv_goto (tgt := 86) hx hb dX5_ask_82 (by decide) ?_
            refine j_Vi (n := 1) (As := [.int (nI (0))]) hx hb hml hown hts hw (j_recv hw hO rfl) (c_X5_refused l g z H0 M (0) x0 (nI (tx.length)) x3 x4 x5 (nI (hi.length)) x14 _ hzM hO (by first | assumption | omega)) gX5_ask_X5_refused rfl (by decide +kernel) ⟨Nat.le_of_ble_eq_true rfl, Nat.le_of_ble_eq_true rfl⟩ rfl hl.1 (Nat.le_of_ble_eq_true rfl) ⟨Nat.zero_le _, Nat.zero_le _⟩ dX5_ask_86 (fun r6 H locs hr6 hw hsz => ?_) rfl
            obtain ⟨hr6, hO, hf2⟩ := hr6
            obtain rfl : r6 = nI 0 := hr6
            have hO : jO g H M 5 [.int (nI (0)), .ref (M + 1), .int (nI (tx.length)), .int x3, .int x4, .int x5, .ref (M + 2), .ref (M + 3), .ref (M + 4), .ref (M + 5), .int (nI (hi.length)), .ref (M + 6), .ref (M + 7), .ref (M + 8), .int x14, .int (bI sn)] := hO
            have hSc := hSc.kept (hf2.2 _ (by omega))
            have hRd := hRd.kept (hf2.2 _ (by omega))
            have hA := hA.kept (hf2.2 _ (by omega))
            have hTr := hTr.kept (hf2.2 _ (by omega))
            have hDy := hDy.kept (hf2.2 _ (by omega))
            have hKp := hKp.kept (hf2.2 _ (by omega))
            have hIk := hIk.kept (hf2.2 _ (by omega))
            have hT8 := hT8.kept (hf2.2 _ (by omega))
            have hf := hf.step hf2 (by omega)
            refine jz_eq (tgt := 94) hx hb dX5_ask_89 (by decide) (by omega) (fun c89 => ?_) (fun c89 => absurd c89 (by omega))
            refine lv_aload_n hx hb dX5_ask_94 rfl (lv_at hl 2 rfl) ?_
            refine j_Vv (n := 0) (As := []) hx hb hml hown hts hw (j_recv hw hO rfl) (c_X5_remember l g z H M σ nw (nI (0)) (nI (tx.length)) x3 x4 x5 x14 _ _ dy hzM hO hA hDy hR hN hhi hdy) gX5_ask_X5_remember rfl (by decide +kernel) ⟨Nat.le_of_ble_eq_true rfl, Nat.le_of_ble_eq_true rfl⟩ rfl hl.1 (Nat.le_of_ble_eq_true rfl) ⟨Nat.zero_le _, Nat.zero_le _⟩ dX5_ask_95 (fun H locs hr7 hw hsz => ?_) rfl
            obtain ⟨hO, f8, hDy, hdy9, hf2⟩ := hr7
            have hSc := hSc.kept (hf2.2 _ (by omega) (by omega) (by omega))
            have hRd := hRd.kept (hf2.2 _ (by omega) (by omega) (by omega))
            have hA := hA.kept (hf2.2 _ (by omega) (by omega) (by omega))
            have hTr := hTr.kept (hf2.2 _ (by omega) (by omega) (by omega))
            have hKp := hKp.kept (hf2.2 _ (by omega) (by omega) (by omega))
            have hIk := hIk.kept (hf2.2 _ (by omega) (by omega) (by omega))
            have hT8 := hT8.kept (hf2.2 _ (by omega) (by omega) (by omega))
            have hf := hf.three hf2 (by omega) (by omega) (by omega)
            have hlen9 := (pushH_len (σ := σ) hhi).1
            refine lv_aload_n hx hb dX5_ask_98 rfl (lv_at hl 2 rfl) ?_
            refine j_get (T := TX5) (N := 16) (k := 7) hx hb hts hinX5 hown hw hO rfl (by decide) (hts (.fieldLink RX5 16 "NightTrainsModel" "now" "[I") (by decide +kernel)) rfl dX5_ask_99 ?_
            refine lv_iload_n hx hb dX5_ask_102 rfl (lv_at hl 3 rfl) ?_
            refine lv_iload_n hx hb dX5_ask_103 rfl (lv_at hl 4 rfl) ?_
            refine lv_iload_n hx hb dX5_ask_104 rfl (lv_at hl 5 rfl) ?_
            refine lv_iload hx hb dX5_ask_105 (lv_at hl 6 rfl) ?_
            refine j_Si (n := 5) (As := [.ref (M + 3), .int (nI (cu)), .int (nI (lt)), .int (nI (it)), .int (nI (fe))]) hx hb hml hown hts hw (c_X5_askIn l g z H (M + 3) (cu) (lt) (it) (fe) (σ) nw (by omega) hA hR hs ⟨hcun, hltn, hitn, hfen, Nat.zero_lt_succ _, Nat.zero_lt_succ _⟩ (hca.imp_right (fun q => by have := q.1; omega))) gX5_ask_X5_askIn rfl (by decide +kernel) ⟨Nat.le_of_ble_eq_true rfl, Nat.le_of_ble_eq_true rfl⟩ rfl hl.1 (Nat.le_of_ble_eq_true rfl) ⟨Nat.zero_le _, Nat.zero_le _⟩ dX5_ask_107 (fun r9 H locs hr9 hw hsz => ?_) rfl
            rcases hr9 with ⟨hfr, rfl, hr9⟩ | ⟨hfr, rfl, hr9⟩
            · obtain ⟨⟨f10, hA, hR⟩, hs, hf2⟩ := hr9
              have hO := hO.kept (hf2.2 _ (by omega))
              have hSc := hSc.kept (hf2.2 _ (by omega))
              have hRd := hRd.kept (hf2.2 _ (by omega))
              have hTr := hTr.kept (hf2.2 _ (by omega))
              have hDy := hDy.kept (hf2.2 _ (by omega))
              have hKp := hKp.kept (hf2.2 _ (by omega))
              have hIk := hIk.kept (hf2.2 _ (by omega))
              have hT8 := hT8.kept (hf2.2 _ (by omega))
              have hf := hf.step hf2 (by omega)
              refine j_iret hx hb hr hlocks hH hw dX5_ask_110 ?_
              have e9 : fAsk σ (nI (cu)) (nI (lt)) (nI (it)) (nI (fe)) = (0, -1, askF σ cu lt it) := by simp only [fAsk, hcu, hlt, hit, hfe]; exact (if_pos hca).trans (if_pos hfr)
              have hN9 := (hN.askF hcun hltn hitn)
              exact ⟨_, rfl, by rw [e9]; exact ⟨fun _ => rfl, by rw [if_pos rfl]; exact ⟨x3, x4, x5, x14, sn, sc, rd, f10, tr, f8, kp, ik, tk, hO, hSc, hRd, hA, hTr, hDy, hKp, hIk, hT8, (hMI.acts hR hN9 hlen9 hdy9)⟩, hf⟩⟩
            · obtain ⟨⟨f11, hA, hR⟩, hs, hf2⟩ := hr9
              have hO := hO.kept (hf2.2 _ (by omega))
              have hSc := hSc.kept (hf2.2 _ (by omega))
              have hRd := hRd.kept (hf2.2 _ (by omega))
              have hTr := hTr.kept (hf2.2 _ (by omega))
              have hDy := hDy.kept (hf2.2 _ (by omega))
              have hKp := hKp.kept (hf2.2 _ (by omega))
              have hIk := hIk.kept (hf2.2 _ (by omega))
              have hT8 := hT8.kept (hf2.2 _ (by omega))
              have hf := hf.step hf2 (by omega)
              refine j_iret hx hb hr hlocks hH hw dX5_ask_110 ?_
              have e9 : fAsk σ (nI (cu)) (nI (lt)) (nI (it)) (nI (fe)) = (0, nI σ.2.2.1.length, askO σ cu lt it fe) := by simp only [fAsk, hcu, hlt, hit, hfe]; exact (if_pos hca).trans (if_neg (by omega))
              have hN9 := (hN.askO (by rcases hca with q | q; exact absurd q (by omega); exact q.1) ⟨hcun, hltn, hitn, hfen, Nat.zero_lt_succ _, Nat.zero_lt_succ _⟩)
              exact ⟨_, rfl, by rw [e9]; exact ⟨fun _ => rfl, by rw [if_pos rfl]; exact ⟨x3, x4, x5, x14, sn, sc, rd, f11, tr, f8, kp, ik, tk, hO, hSc, hRd, hA, hTr, hDy, hKp, hIk, hT8, (hMI.acts hR hN9 hlen9 hdy9)⟩, hf⟩⟩
          · refine jz_eq (tgt := 85) hx hb dX5_ask_78 (by decide) (by omega) (fun c78 => ?_) (fun c78 => absurd c78 (by omega))
            refine lv_iconst (v := (nI (3))) hx hb dX5_ask_85 (by decide) ?_
            refine j_Vi (n := 1) (As := [.int (nI (3))]) hx hb hml hown hts hw (j_recv hw hO rfl) (c_X5_refused l g z H0 M (3) x0 (nI (tx.length)) x3 x4 x5 (nI (hi.length)) x14 _ hzM hO (by first | assumption | omega)) gX5_ask_X5_refused rfl (by decide +kernel) ⟨Nat.le_of_ble_eq_true rfl, Nat.le_of_ble_eq_true rfl⟩ rfl hl.1 (Nat.le_of_ble_eq_true rfl) ⟨Nat.zero_le _, Nat.zero_le _⟩ dX5_ask_86 (fun r12 H locs hr12 hw hsz => ?_) rfl
            obtain ⟨hr12, hO, hf2⟩ := hr12
            obtain rfl : r12 = nI 1 := hr12
            have hO : jO g H M 5 [.int (nI (3)), .ref (M + 1), .int (nI (tx.length)), .int x3, .int x4, .int x5, .ref (M + 2), .ref (M + 3), .ref (M + 4), .ref (M + 5), .int (nI (hi.length)), .ref (M + 6), .ref (M + 7), .ref (M + 8), .int x14, .int (bI sn)] := hO
            have hSc := hSc.kept (hf2.2 _ (by omega))
            have hRd := hRd.kept (hf2.2 _ (by omega))
            have hA := hA.kept (hf2.2 _ (by omega))
            have hTr := hTr.kept (hf2.2 _ (by omega))
            have hDy := hDy.kept (hf2.2 _ (by omega))
            have hKp := hKp.kept (hf2.2 _ (by omega))
            have hIk := hIk.kept (hf2.2 _ (by omega))
            have hT8 := hT8.kept (hf2.2 _ (by omega))
            have hf := hf.step hf2 (by omega)
            refine jz_eq (tgt := 94) hx hb dX5_ask_89 (by decide) (by omega) (fun c89 => absurd c89 (by omega)) (fun c89 => ?_)
            refine lv_iconst (v := (nI (0))) hx hb dX5_ask_92 (by decide) ?_
            refine j_iret hx hb hr hlocks hH hw dX5_ask_93 ?_
            have e9 : fAsk σ (nI (cu)) (nI (lt)) (nI (it)) (nI (fe)) = (3, 0, σ) := by simp only [fAsk, hcu, hlt, hit, hfe]; exact if_neg hca
            exact ⟨_, rfl, by rw [e9]; exact ⟨fun h9 => absurd h9 (Nat.succ_ne_zero _), by rw [if_neg (Nat.succ_ne_zero _)]; exact ⟨x3, x4, x5, x14, sn, sc, rd, nw, tr, dy, kp, ik, tk, hO, hSc, hRd, hA, hTr, hDy, hKp, hIk, hT8, hMI⟩, hf⟩⟩
        · refine jz_eq (tgt := 45) hx hb dX5_ask_38 (by decide) (by omega) (fun c38 => ?_) (fun c38 => absurd c38 (by omega))
          refine lv_iconst (v := (nI (0))) hx hb dX5_ask_45 (by decide) ?_
          refine lv_istore (lv' := [(6, .int _), (5, .int _), (0, .ref _), (1, .int _), (2, .int _), (3, .int _), (4, .int _)]) hx hb dX5_ask_46 hl (by decide) rfl (fun ls hl => ?_)
          refine lv_aload_n hx hb dX5_ask_48 rfl (lv_at hl 2 rfl) ?_
          refine lv_iload hx hb dX5_ask_49 (lv_at hl 1 rfl) ?_
          refine jz_ne (tgt := 58) hx hb dX5_ask_51 (by decide) (by omega) (fun c51 => ?_) (fun c51 => absurd c51 (by omega))
          refine lv_iload hx hb dX5_ask_58 (lv_at hl 0 rfl) ?_
          refine jz_ne (tgt := 67) hx hb dX5_ask_60 (by decide) (by omega) (fun c60 => absurd c60 (by omega)) (fun c60 => ?_)
          refine lv_iconst (v := (nI (2))) hx hb dX5_ask_63 (by decide) ?_
          refine lv_goto (tgt := 86) hx hb dX5_ask_64 (by decide) ?_
          refine j_Vi (n := 1) (As := [.int (nI (2))]) hx hb hml hown hts hw (j_recv hw hO rfl) (c_X5_refused l g z H0 M (2) x0 (nI (tx.length)) x3 x4 x5 (nI (hi.length)) x14 _ hzM hO (by first | assumption | omega)) gX5_ask_X5_refused rfl (by decide +kernel) ⟨Nat.le_of_ble_eq_true rfl, Nat.le_of_ble_eq_true rfl⟩ rfl hl.1 (Nat.le_of_ble_eq_true rfl) ⟨Nat.zero_le _, Nat.zero_le _⟩ dX5_ask_86 (fun r13 H locs hr13 hw hsz => ?_) rfl
          obtain ⟨hr13, hO, hf2⟩ := hr13
          obtain rfl : r13 = nI 1 := hr13
          have hO : jO g H M 5 [.int (nI (2)), .ref (M + 1), .int (nI (tx.length)), .int x3, .int x4, .int x5, .ref (M + 2), .ref (M + 3), .ref (M + 4), .ref (M + 5), .int (nI (hi.length)), .ref (M + 6), .ref (M + 7), .ref (M + 8), .int x14, .int (bI sn)] := hO
          have hSc := hSc.kept (hf2.2 _ (by omega))
          have hRd := hRd.kept (hf2.2 _ (by omega))
          have hA := hA.kept (hf2.2 _ (by omega))
          have hTr := hTr.kept (hf2.2 _ (by omega))
          have hDy := hDy.kept (hf2.2 _ (by omega))
          have hKp := hKp.kept (hf2.2 _ (by omega))
          have hIk := hIk.kept (hf2.2 _ (by omega))
          have hT8 := hT8.kept (hf2.2 _ (by omega))
          have hf := hf.step hf2 (by omega)
          refine jz_eq (tgt := 94) hx hb dX5_ask_89 (by decide) (by omega) (fun c89 => absurd c89 (by omega)) (fun c89 => ?_)
          refine lv_iconst (v := (nI (0))) hx hb dX5_ask_92 (by decide) ?_
          refine j_iret hx hb hr hlocks hH hw dX5_ask_93 ?_
          have e9 : fAsk σ (nI (cu)) (nI (lt)) (nI (it)) af = (2, 0, σ) := by simp only [fAsk, hcu, hlt, hit, hfe]
          exact ⟨_, rfl, by rw [e9]; exact ⟨fun h9 => absurd h9 (Nat.succ_ne_zero _), by rw [if_neg (Nat.succ_ne_zero _)]; exact ⟨x3, x4, x5, x14, sn, sc, rd, nw, tr, dy, kp, ik, tk, hO, hSc, hRd, hA, hTr, hDy, hKp, hIk, hT8, hMI⟩, hf⟩⟩
      · refine jz_eq (tgt := 45) hx hb dX5_ask_30 (by decide) (by omega) (fun c30 => ?_) (fun c30 => absurd c30 (by omega))
        refine lv_iconst (v := (nI (0))) hx hb dX5_ask_45 (by decide) ?_
        refine lv_istore (lv' := [(6, .int _), (5, .int _), (0, .ref _), (1, .int _), (2, .int _), (3, .int _), (4, .int _)]) hx hb dX5_ask_46 hl (by decide) rfl (fun ls hl => ?_)
        refine lv_aload_n hx hb dX5_ask_48 rfl (lv_at hl 2 rfl) ?_
        refine lv_iload hx hb dX5_ask_49 (lv_at hl 1 rfl) ?_
        refine jz_ne (tgt := 58) hx hb dX5_ask_51 (by decide) (by omega) (fun c51 => ?_) (fun c51 => absurd c51 (by omega))
        refine lv_iload hx hb dX5_ask_58 (lv_at hl 0 rfl) ?_
        refine jz_ne (tgt := 67) hx hb dX5_ask_60 (by decide) (by omega) (fun c60 => absurd c60 (by omega)) (fun c60 => ?_)
        refine lv_iconst (v := (nI (2))) hx hb dX5_ask_63 (by decide) ?_
        refine lv_goto (tgt := 86) hx hb dX5_ask_64 (by decide) ?_
        refine j_Vi (n := 1) (As := [.int (nI (2))]) hx hb hml hown hts hw (j_recv hw hO rfl) (c_X5_refused l g z H0 M (2) x0 (nI (tx.length)) x3 x4 x5 (nI (hi.length)) x14 _ hzM hO (by first | assumption | omega)) gX5_ask_X5_refused rfl (by decide +kernel) ⟨Nat.le_of_ble_eq_true rfl, Nat.le_of_ble_eq_true rfl⟩ rfl hl.1 (Nat.le_of_ble_eq_true rfl) ⟨Nat.zero_le _, Nat.zero_le _⟩ dX5_ask_86 (fun r14 H locs hr14 hw hsz => ?_) rfl
        obtain ⟨hr14, hO, hf2⟩ := hr14
        obtain rfl : r14 = nI 1 := hr14
        have hO : jO g H M 5 [.int (nI (2)), .ref (M + 1), .int (nI (tx.length)), .int x3, .int x4, .int x5, .ref (M + 2), .ref (M + 3), .ref (M + 4), .ref (M + 5), .int (nI (hi.length)), .ref (M + 6), .ref (M + 7), .ref (M + 8), .int x14, .int (bI sn)] := hO
        have hSc := hSc.kept (hf2.2 _ (by omega))
        have hRd := hRd.kept (hf2.2 _ (by omega))
        have hA := hA.kept (hf2.2 _ (by omega))
        have hTr := hTr.kept (hf2.2 _ (by omega))
        have hDy := hDy.kept (hf2.2 _ (by omega))
        have hKp := hKp.kept (hf2.2 _ (by omega))
        have hIk := hIk.kept (hf2.2 _ (by omega))
        have hT8 := hT8.kept (hf2.2 _ (by omega))
        have hf := hf.step hf2 (by omega)
        refine jz_eq (tgt := 94) hx hb dX5_ask_89 (by decide) (by omega) (fun c89 => absurd c89 (by omega)) (fun c89 => ?_)
        refine lv_iconst (v := (nI (0))) hx hb dX5_ask_92 (by decide) ?_
        refine j_iret hx hb hr hlocks hH hw dX5_ask_93 ?_
        have e9 : fAsk σ (nI (cu)) (nI (lt)) ai af = (2, 0, σ) := by simp only [fAsk, hcu, hlt, hit]
        exact ⟨_, rfl, by rw [e9]; exact ⟨fun h9 => absurd h9 (Nat.succ_ne_zero _), by rw [if_neg (Nat.succ_ne_zero _)]; exact ⟨x3, x4, x5, x14, sn, sc, rd, nw, tr, dy, kp, ik, tk, hO, hSc, hRd, hA, hTr, hDy, hKp, hIk, hT8, hMI⟩, hf⟩⟩
    · refine jz_eq (tgt := 18) hx hb dX5_ask_11 (by decide) (by omega) (fun c11 => ?_) (fun c11 => absurd c11 (by omega))
      refine lv_iconst (v := (nI (0))) hx hb dX5_ask_18 (by decide) ?_
      refine lv_istore (lv' := [(5, .int _), (0, .ref _), (1, .int _), (2, .int _), (3, .int _), (4, .int _)]) hx hb dX5_ask_19 hl (by decide) rfl (fun ls hl => ?_)
      refine lv_iload_n hx hb dX5_ask_21 rfl (lv_at hl 4 rfl) ?_
      refine lv_i2l (v := ai.toInt64) hx hb dX5_ask_22 rfl ?_
      refine lv_lconst (v := 0) hx hb dX5_ask_23 (by decide) ?_
      refine lv_ldc2 (v := 7) hx hb hown (hts (.constantLong RX5 198 (7)) (by decide +kernel)) dX5_ask_24 ?_
      refine j_Sp (n := 3) (As := [.long ai.toInt64, .long 0, .long 7]) hx hb hml hown hts hw (c_X5_in l g z H0 ai.toInt64 0 7   ) gX5_ask_X5_in rfl (by decide +kernel) ⟨Nat.le_of_ble_eq_true rfl, Nat.le_of_ble_eq_true rfl⟩ rfl hl.1 (Nat.le_of_ble_eq_true rfl) ⟨Nat.zero_le _, Nat.zero_le _⟩ dX5_ask_27 (fun r15 locs hr15 hw => ?_) rfl
      rcases in_ix (x := ai) (a := 0) (n := 8) (by decide) (by decide) hr15 with ⟨rfl, it, hit, hita, hitn, rfl⟩ | ⟨rfl, hit⟩
      · refine jz_eq (tgt := 45) hx hb dX5_ask_30 (by decide) (by omega) (fun c30 => absurd c30 (by omega)) (fun c30 => ?_)
        refine lv_iload hx hb dX5_ask_33 (lv_at hl 5 rfl) ?_
        refine j_Sp (n := 1) (As := [.int af]) hx hb hml hown hts hw (c_X5_isFee l g z H0 af   ) gX5_ask_X5_isFee rfl (by decide +kernel) ⟨Nat.le_of_ble_eq_true rfl, Nat.le_of_ble_eq_true rfl⟩ rfl hl.1 (Nat.le_of_ble_eq_true rfl) ⟨Nat.zero_le _, Nat.zero_le _⟩ dX5_ask_35 (fun r16 locs hr16 hw => ?_) rfl
        rcases hr16 with ⟨rfl, fe, hfe, hfea, hfen, rfl⟩ | ⟨rfl, hfe⟩
        · refine jz_eq (tgt := 45) hx hb dX5_ask_38 (by decide) (by omega) (fun c38 => absurd c38 (by omega)) (fun c38 => ?_)
          refine lv_iconst (v := (nI (1))) hx hb dX5_ask_41 (by decide) ?_
          refine lv_goto (tgt := 46) hx hb dX5_ask_42 (by decide) ?_
          refine lv_istore (lv' := [(6, .int _), (5, .int _), (0, .ref _), (1, .int _), (2, .int _), (3, .int _), (4, .int _)]) hx hb dX5_ask_46 hl (by decide) rfl (fun ls hl => ?_)
          refine lv_aload_n hx hb dX5_ask_48 rfl (lv_at hl 2 rfl) ?_
          refine lv_iload hx hb dX5_ask_49 (lv_at hl 1 rfl) ?_
          refine jz_ne (tgt := 58) hx hb dX5_ask_51 (by decide) (by omega) (fun c51 => absurd c51 (by omega)) (fun c51 => ?_)
          refine lv_iconst (v := (nI (1))) hx hb dX5_ask_54 (by decide) ?_
          refine lv_goto (tgt := 86) hx hb dX5_ask_55 (by decide) ?_
          refine j_Vi (n := 1) (As := [.int (nI (1))]) hx hb hml hown hts hw (j_recv hw hO rfl) (c_X5_refused l g z H0 M (1) x0 (nI (tx.length)) x3 x4 x5 (nI (hi.length)) x14 _ hzM hO (by first | assumption | omega)) gX5_ask_X5_refused rfl (by decide +kernel) ⟨Nat.le_of_ble_eq_true rfl, Nat.le_of_ble_eq_true rfl⟩ rfl hl.1 (Nat.le_of_ble_eq_true rfl) ⟨Nat.zero_le _, Nat.zero_le _⟩ dX5_ask_86 (fun r17 H locs hr17 hw hsz => ?_) rfl
          obtain ⟨hr17, hO, hf2⟩ := hr17
          obtain rfl : r17 = nI 1 := hr17
          have hO : jO g H M 5 [.int (nI (1)), .ref (M + 1), .int (nI (tx.length)), .int x3, .int x4, .int x5, .ref (M + 2), .ref (M + 3), .ref (M + 4), .ref (M + 5), .int (nI (hi.length)), .ref (M + 6), .ref (M + 7), .ref (M + 8), .int x14, .int (bI sn)] := hO
          have hSc := hSc.kept (hf2.2 _ (by omega))
          have hRd := hRd.kept (hf2.2 _ (by omega))
          have hA := hA.kept (hf2.2 _ (by omega))
          have hTr := hTr.kept (hf2.2 _ (by omega))
          have hDy := hDy.kept (hf2.2 _ (by omega))
          have hKp := hKp.kept (hf2.2 _ (by omega))
          have hIk := hIk.kept (hf2.2 _ (by omega))
          have hT8 := hT8.kept (hf2.2 _ (by omega))
          have hf := hf.step hf2 (by omega)
          refine jz_eq (tgt := 94) hx hb dX5_ask_89 (by decide) (by omega) (fun c89 => absurd c89 (by omega)) (fun c89 => ?_)
          refine lv_iconst (v := (nI (0))) hx hb dX5_ask_92 (by decide) ?_
          refine j_iret hx hb hr hlocks hH hw dX5_ask_93 ?_
          have e9 : fAsk σ (nI (cu)) al (nI (it)) (nI (fe)) = (1, 0, σ) := by simp only [fAsk, hcu, hlt]
          exact ⟨_, rfl, by rw [e9]; exact ⟨fun h9 => absurd h9 (Nat.succ_ne_zero _), by rw [if_neg (Nat.succ_ne_zero _)]; exact ⟨x3, x4, x5, x14, sn, sc, rd, nw, tr, dy, kp, ik, tk, hO, hSc, hRd, hA, hTr, hDy, hKp, hIk, hT8, hMI⟩, hf⟩⟩
        · refine jz_eq (tgt := 45) hx hb dX5_ask_38 (by decide) (by omega) (fun c38 => ?_) (fun c38 => absurd c38 (by omega))
          refine lv_iconst (v := (nI (0))) hx hb dX5_ask_45 (by decide) ?_
          refine lv_istore (lv' := [(6, .int _), (5, .int _), (0, .ref _), (1, .int _), (2, .int _), (3, .int _), (4, .int _)]) hx hb dX5_ask_46 hl (by decide) rfl (fun ls hl => ?_)
          refine lv_aload_n hx hb dX5_ask_48 rfl (lv_at hl 2 rfl) ?_
          refine lv_iload hx hb dX5_ask_49 (lv_at hl 1 rfl) ?_
          refine jz_ne (tgt := 58) hx hb dX5_ask_51 (by decide) (by omega) (fun c51 => absurd c51 (by omega)) (fun c51 => ?_)
          refine lv_iconst (v := (nI (1))) hx hb dX5_ask_54 (by decide) ?_
          refine lv_goto (tgt := 86) hx hb dX5_ask_55 (by decide) ?_
          refine j_Vi (n := 1) (As := [.int (nI (1))]) hx hb hml hown hts hw (j_recv hw hO rfl) (c_X5_refused l g z H0 M (1) x0 (nI (tx.length)) x3 x4 x5 (nI (hi.length)) x14 _ hzM hO (by first | assumption | omega)) gX5_ask_X5_refused rfl (by decide +kernel) ⟨Nat.le_of_ble_eq_true rfl, Nat.le_of_ble_eq_true rfl⟩ rfl hl.1 (Nat.le_of_ble_eq_true rfl) ⟨Nat.zero_le _, Nat.zero_le _⟩ dX5_ask_86 (fun r18 H locs hr18 hw hsz => ?_) rfl
          obtain ⟨hr18, hO, hf2⟩ := hr18
          obtain rfl : r18 = nI 1 := hr18
          have hO : jO g H M 5 [.int (nI (1)), .ref (M + 1), .int (nI (tx.length)), .int x3, .int x4, .int x5, .ref (M + 2), .ref (M + 3), .ref (M + 4), .ref (M + 5), .int (nI (hi.length)), .ref (M + 6), .ref (M + 7), .ref (M + 8), .int x14, .int (bI sn)] := hO
          have hSc := hSc.kept (hf2.2 _ (by omega))
          have hRd := hRd.kept (hf2.2 _ (by omega))
          have hA := hA.kept (hf2.2 _ (by omega))
          have hTr := hTr.kept (hf2.2 _ (by omega))
          have hDy := hDy.kept (hf2.2 _ (by omega))
          have hKp := hKp.kept (hf2.2 _ (by omega))
          have hIk := hIk.kept (hf2.2 _ (by omega))
          have hT8 := hT8.kept (hf2.2 _ (by omega))
          have hf := hf.step hf2 (by omega)
          refine jz_eq (tgt := 94) hx hb dX5_ask_89 (by decide) (by omega) (fun c89 => absurd c89 (by omega)) (fun c89 => ?_)
          refine lv_iconst (v := (nI (0))) hx hb dX5_ask_92 (by decide) ?_
          refine j_iret hx hb hr hlocks hH hw dX5_ask_93 ?_
          have e9 : fAsk σ (nI (cu)) al (nI (it)) af = (1, 0, σ) := by simp only [fAsk, hcu, hlt]
          exact ⟨_, rfl, by rw [e9]; exact ⟨fun h9 => absurd h9 (Nat.succ_ne_zero _), by rw [if_neg (Nat.succ_ne_zero _)]; exact ⟨x3, x4, x5, x14, sn, sc, rd, nw, tr, dy, kp, ik, tk, hO, hSc, hRd, hA, hTr, hDy, hKp, hIk, hT8, hMI⟩, hf⟩⟩
      · refine jz_eq (tgt := 45) hx hb dX5_ask_30 (by decide) (by omega) (fun c30 => ?_) (fun c30 => absurd c30 (by omega))
        refine lv_iconst (v := (nI (0))) hx hb dX5_ask_45 (by decide) ?_
        refine lv_istore (lv' := [(6, .int _), (5, .int _), (0, .ref _), (1, .int _), (2, .int _), (3, .int _), (4, .int _)]) hx hb dX5_ask_46 hl (by decide) rfl (fun ls hl => ?_)
        refine lv_aload_n hx hb dX5_ask_48 rfl (lv_at hl 2 rfl) ?_
        refine lv_iload hx hb dX5_ask_49 (lv_at hl 1 rfl) ?_
        refine jz_ne (tgt := 58) hx hb dX5_ask_51 (by decide) (by omega) (fun c51 => absurd c51 (by omega)) (fun c51 => ?_)
        refine lv_iconst (v := (nI (1))) hx hb dX5_ask_54 (by decide) ?_
        refine lv_goto (tgt := 86) hx hb dX5_ask_55 (by decide) ?_
        refine j_Vi (n := 1) (As := [.int (nI (1))]) hx hb hml hown hts hw (j_recv hw hO rfl) (c_X5_refused l g z H0 M (1) x0 (nI (tx.length)) x3 x4 x5 (nI (hi.length)) x14 _ hzM hO (by first | assumption | omega)) gX5_ask_X5_refused rfl (by decide +kernel) ⟨Nat.le_of_ble_eq_true rfl, Nat.le_of_ble_eq_true rfl⟩ rfl hl.1 (Nat.le_of_ble_eq_true rfl) ⟨Nat.zero_le _, Nat.zero_le _⟩ dX5_ask_86 (fun r19 H locs hr19 hw hsz => ?_) rfl
        obtain ⟨hr19, hO, hf2⟩ := hr19
        obtain rfl : r19 = nI 1 := hr19
        have hO : jO g H M 5 [.int (nI (1)), .ref (M + 1), .int (nI (tx.length)), .int x3, .int x4, .int x5, .ref (M + 2), .ref (M + 3), .ref (M + 4), .ref (M + 5), .int (nI (hi.length)), .ref (M + 6), .ref (M + 7), .ref (M + 8), .int x14, .int (bI sn)] := hO
        have hSc := hSc.kept (hf2.2 _ (by omega))
        have hRd := hRd.kept (hf2.2 _ (by omega))
        have hA := hA.kept (hf2.2 _ (by omega))
        have hTr := hTr.kept (hf2.2 _ (by omega))
        have hDy := hDy.kept (hf2.2 _ (by omega))
        have hKp := hKp.kept (hf2.2 _ (by omega))
        have hIk := hIk.kept (hf2.2 _ (by omega))
        have hT8 := hT8.kept (hf2.2 _ (by omega))
        have hf := hf.step hf2 (by omega)
        refine jz_eq (tgt := 94) hx hb dX5_ask_89 (by decide) (by omega) (fun c89 => absurd c89 (by omega)) (fun c89 => ?_)
        refine lv_iconst (v := (nI (0))) hx hb dX5_ask_92 (by decide) ?_
        refine j_iret hx hb hr hlocks hH hw dX5_ask_93 ?_
        have e9 : fAsk σ (nI (cu)) al ai af = (1, 0, σ) := by simp only [fAsk, hcu, hlt]
        exact ⟨_, rfl, by rw [e9]; exact ⟨fun h9 => absurd h9 (Nat.succ_ne_zero _), by rw [if_neg (Nat.succ_ne_zero _)]; exact ⟨x3, x4, x5, x14, sn, sc, rd, nw, tr, dy, kp, ik, tk, hO, hSc, hRd, hA, hTr, hDy, hKp, hIk, hT8, hMI⟩, hf⟩⟩
  · refine jz_eq (tgt := 18) hx hb dX5_ask_4 (by decide) (by omega) (fun c4 => ?_) (fun c4 => absurd c4 (by omega))
    refine lv_iconst (v := (nI (0))) hx hb dX5_ask_18 (by decide) ?_
    refine lv_istore (lv' := [(5, .int _), (0, .ref _), (1, .int _), (2, .int _), (3, .int _), (4, .int _)]) hx hb dX5_ask_19 hl (by decide) rfl (fun ls hl => ?_)
    refine lv_iload_n hx hb dX5_ask_21 rfl (lv_at hl 4 rfl) ?_
    refine lv_i2l (v := ai.toInt64) hx hb dX5_ask_22 rfl ?_
    refine lv_lconst (v := 0) hx hb dX5_ask_23 (by decide) ?_
    refine lv_ldc2 (v := 7) hx hb hown (hts (.constantLong RX5 198 (7)) (by decide +kernel)) dX5_ask_24 ?_
    refine j_Sp (n := 3) (As := [.long ai.toInt64, .long 0, .long 7]) hx hb hml hown hts hw (c_X5_in l g z H0 ai.toInt64 0 7   ) gX5_ask_X5_in rfl (by decide +kernel) ⟨Nat.le_of_ble_eq_true rfl, Nat.le_of_ble_eq_true rfl⟩ rfl hl.1 (Nat.le_of_ble_eq_true rfl) ⟨Nat.zero_le _, Nat.zero_le _⟩ dX5_ask_27 (fun r20 locs hr20 hw => ?_) rfl
    rcases in_ix (x := ai) (a := 0) (n := 8) (by decide) (by decide) hr20 with ⟨rfl, it, hit, hita, hitn, rfl⟩ | ⟨rfl, hit⟩
    · refine jz_eq (tgt := 45) hx hb dX5_ask_30 (by decide) (by omega) (fun c30 => absurd c30 (by omega)) (fun c30 => ?_)
      refine lv_iload hx hb dX5_ask_33 (lv_at hl 5 rfl) ?_
      refine j_Sp (n := 1) (As := [.int af]) hx hb hml hown hts hw (c_X5_isFee l g z H0 af   ) gX5_ask_X5_isFee rfl (by decide +kernel) ⟨Nat.le_of_ble_eq_true rfl, Nat.le_of_ble_eq_true rfl⟩ rfl hl.1 (Nat.le_of_ble_eq_true rfl) ⟨Nat.zero_le _, Nat.zero_le _⟩ dX5_ask_35 (fun r21 locs hr21 hw => ?_) rfl
      rcases hr21 with ⟨rfl, fe, hfe, hfea, hfen, rfl⟩ | ⟨rfl, hfe⟩
      · refine jz_eq (tgt := 45) hx hb dX5_ask_38 (by decide) (by omega) (fun c38 => absurd c38 (by omega)) (fun c38 => ?_)
        refine lv_iconst (v := (nI (1))) hx hb dX5_ask_41 (by decide) ?_
        refine lv_goto (tgt := 46) hx hb dX5_ask_42 (by decide) ?_
        refine lv_istore (lv' := [(6, .int _), (5, .int _), (0, .ref _), (1, .int _), (2, .int _), (3, .int _), (4, .int _)]) hx hb dX5_ask_46 hl (by decide) rfl (fun ls hl => ?_)
        refine lv_aload_n hx hb dX5_ask_48 rfl (lv_at hl 2 rfl) ?_
        refine lv_iload hx hb dX5_ask_49 (lv_at hl 1 rfl) ?_
        refine jz_ne (tgt := 58) hx hb dX5_ask_51 (by decide) (by omega) (fun c51 => absurd c51 (by omega)) (fun c51 => ?_)
        refine lv_iconst (v := (nI (1))) hx hb dX5_ask_54 (by decide) ?_
        refine lv_goto (tgt := 86) hx hb dX5_ask_55 (by decide) ?_
        refine j_Vi (n := 1) (As := [.int (nI (1))]) hx hb hml hown hts hw (j_recv hw hO rfl) (c_X5_refused l g z H0 M (1) x0 (nI (tx.length)) x3 x4 x5 (nI (hi.length)) x14 _ hzM hO (by first | assumption | omega)) gX5_ask_X5_refused rfl (by decide +kernel) ⟨Nat.le_of_ble_eq_true rfl, Nat.le_of_ble_eq_true rfl⟩ rfl hl.1 (Nat.le_of_ble_eq_true rfl) ⟨Nat.zero_le _, Nat.zero_le _⟩ dX5_ask_86 (fun r22 H locs hr22 hw hsz => ?_) rfl
        obtain ⟨hr22, hO, hf2⟩ := hr22
        obtain rfl : r22 = nI 1 := hr22
        have hO : jO g H M 5 [.int (nI (1)), .ref (M + 1), .int (nI (tx.length)), .int x3, .int x4, .int x5, .ref (M + 2), .ref (M + 3), .ref (M + 4), .ref (M + 5), .int (nI (hi.length)), .ref (M + 6), .ref (M + 7), .ref (M + 8), .int x14, .int (bI sn)] := hO
        have hSc := hSc.kept (hf2.2 _ (by omega))
        have hRd := hRd.kept (hf2.2 _ (by omega))
        have hA := hA.kept (hf2.2 _ (by omega))
        have hTr := hTr.kept (hf2.2 _ (by omega))
        have hDy := hDy.kept (hf2.2 _ (by omega))
        have hKp := hKp.kept (hf2.2 _ (by omega))
        have hIk := hIk.kept (hf2.2 _ (by omega))
        have hT8 := hT8.kept (hf2.2 _ (by omega))
        have hf := hf.step hf2 (by omega)
        refine jz_eq (tgt := 94) hx hb dX5_ask_89 (by decide) (by omega) (fun c89 => absurd c89 (by omega)) (fun c89 => ?_)
        refine lv_iconst (v := (nI (0))) hx hb dX5_ask_92 (by decide) ?_
        refine j_iret hx hb hr hlocks hH hw dX5_ask_93 ?_
        have e9 : fAsk σ ac al (nI (it)) (nI (fe)) = (1, 0, σ) := by simp only [fAsk, hcu]
        exact ⟨_, rfl, by rw [e9]; exact ⟨fun h9 => absurd h9 (Nat.succ_ne_zero _), by rw [if_neg (Nat.succ_ne_zero _)]; exact ⟨x3, x4, x5, x14, sn, sc, rd, nw, tr, dy, kp, ik, tk, hO, hSc, hRd, hA, hTr, hDy, hKp, hIk, hT8, hMI⟩, hf⟩⟩
      · refine jz_eq (tgt := 45) hx hb dX5_ask_38 (by decide) (by omega) (fun c38 => ?_) (fun c38 => absurd c38 (by omega))
        refine lv_iconst (v := (nI (0))) hx hb dX5_ask_45 (by decide) ?_
        refine lv_istore (lv' := [(6, .int _), (5, .int _), (0, .ref _), (1, .int _), (2, .int _), (3, .int _), (4, .int _)]) hx hb dX5_ask_46 hl (by decide) rfl (fun ls hl => ?_)
        refine lv_aload_n hx hb dX5_ask_48 rfl (lv_at hl 2 rfl) ?_
        refine lv_iload hx hb dX5_ask_49 (lv_at hl 1 rfl) ?_
        refine jz_ne (tgt := 58) hx hb dX5_ask_51 (by decide) (by omega) (fun c51 => absurd c51 (by omega)) (fun c51 => ?_)
        refine lv_iconst (v := (nI (1))) hx hb dX5_ask_54 (by decide) ?_
        refine lv_goto (tgt := 86) hx hb dX5_ask_55 (by decide) ?_
        refine j_Vi (n := 1) (As := [.int (nI (1))]) hx hb hml hown hts hw (j_recv hw hO rfl) (c_X5_refused l g z H0 M (1) x0 (nI (tx.length)) x3 x4 x5 (nI (hi.length)) x14 _ hzM hO (by first | assumption | omega)) gX5_ask_X5_refused rfl (by decide +kernel) ⟨Nat.le_of_ble_eq_true rfl, Nat.le_of_ble_eq_true rfl⟩ rfl hl.1 (Nat.le_of_ble_eq_true rfl) ⟨Nat.zero_le _, Nat.zero_le _⟩ dX5_ask_86 (fun r23 H locs hr23 hw hsz => ?_) rfl
        obtain ⟨hr23, hO, hf2⟩ := hr23
        obtain rfl : r23 = nI 1 := hr23
        have hO : jO g H M 5 [.int (nI (1)), .ref (M + 1), .int (nI (tx.length)), .int x3, .int x4, .int x5, .ref (M + 2), .ref (M + 3), .ref (M + 4), .ref (M + 5), .int (nI (hi.length)), .ref (M + 6), .ref (M + 7), .ref (M + 8), .int x14, .int (bI sn)] := hO
        have hSc := hSc.kept (hf2.2 _ (by omega))
        have hRd := hRd.kept (hf2.2 _ (by omega))
        have hA := hA.kept (hf2.2 _ (by omega))
        have hTr := hTr.kept (hf2.2 _ (by omega))
        have hDy := hDy.kept (hf2.2 _ (by omega))
        have hKp := hKp.kept (hf2.2 _ (by omega))
        have hIk := hIk.kept (hf2.2 _ (by omega))
        have hT8 := hT8.kept (hf2.2 _ (by omega))
        have hf := hf.step hf2 (by omega)
        refine jz_eq (tgt := 94) hx hb dX5_ask_89 (by decide) (by omega) (fun c89 => absurd c89 (by omega)) (fun c89 => ?_)
        refine lv_iconst (v := (nI (0))) hx hb dX5_ask_92 (by decide) ?_
        refine j_iret hx hb hr hlocks hH hw dX5_ask_93 ?_
        have e9 : fAsk σ ac al (nI (it)) af = (1, 0, σ) := by simp only [fAsk, hcu]
        exact ⟨_, rfl, by rw [e9]; exact ⟨fun h9 => absurd h9 (Nat.succ_ne_zero _), by rw [if_neg (Nat.succ_ne_zero _)]; exact ⟨x3, x4, x5, x14, sn, sc, rd, nw, tr, dy, kp, ik, tk, hO, hSc, hRd, hA, hTr, hDy, hKp, hIk, hT8, hMI⟩, hf⟩⟩
    · refine jz_eq (tgt := 45) hx hb dX5_ask_30 (by decide) (by omega) (fun c30 => ?_) (fun c30 => absurd c30 (by omega))
      refine lv_iconst (v := (nI (0))) hx hb dX5_ask_45 (by decide) ?_
      refine lv_istore (lv' := [(6, .int _), (5, .int _), (0, .ref _), (1, .int _), (2, .int _), (3, .int _), (4, .int _)]) hx hb dX5_ask_46 hl (by decide) rfl (fun ls hl => ?_)
      refine lv_aload_n hx hb dX5_ask_48 rfl (lv_at hl 2 rfl) ?_
      refine lv_iload hx hb dX5_ask_49 (lv_at hl 1 rfl) ?_
      refine jz_ne (tgt := 58) hx hb dX5_ask_51 (by decide) (by omega) (fun c51 => absurd c51 (by omega)) (fun c51 => ?_)
      refine lv_iconst (v := (nI (1))) hx hb dX5_ask_54 (by decide) ?_
      refine lv_goto (tgt := 86) hx hb dX5_ask_55 (by decide) ?_
      refine j_Vi (n := 1) (As := [.int (nI (1))]) hx hb hml hown hts hw (j_recv hw hO rfl) (c_X5_refused l g z H0 M (1) x0 (nI (tx.length)) x3 x4 x5 (nI (hi.length)) x14 _ hzM hO (by first | assumption | omega)) gX5_ask_X5_refused rfl (by decide +kernel) ⟨Nat.le_of_ble_eq_true rfl, Nat.le_of_ble_eq_true rfl⟩ rfl hl.1 (Nat.le_of_ble_eq_true rfl) ⟨Nat.zero_le _, Nat.zero_le _⟩ dX5_ask_86 (fun r24 H locs hr24 hw hsz => ?_) rfl
      obtain ⟨hr24, hO, hf2⟩ := hr24
      obtain rfl : r24 = nI 1 := hr24
      have hO : jO g H M 5 [.int (nI (1)), .ref (M + 1), .int (nI (tx.length)), .int x3, .int x4, .int x5, .ref (M + 2), .ref (M + 3), .ref (M + 4), .ref (M + 5), .int (nI (hi.length)), .ref (M + 6), .ref (M + 7), .ref (M + 8), .int x14, .int (bI sn)] := hO
      have hSc := hSc.kept (hf2.2 _ (by omega))
      have hRd := hRd.kept (hf2.2 _ (by omega))
      have hA := hA.kept (hf2.2 _ (by omega))
      have hTr := hTr.kept (hf2.2 _ (by omega))
      have hDy := hDy.kept (hf2.2 _ (by omega))
      have hKp := hKp.kept (hf2.2 _ (by omega))
      have hIk := hIk.kept (hf2.2 _ (by omega))
      have hT8 := hT8.kept (hf2.2 _ (by omega))
      have hf := hf.step hf2 (by omega)
      refine jz_eq (tgt := 94) hx hb dX5_ask_89 (by decide) (by omega) (fun c89 => absurd c89 (by omega)) (fun c89 => ?_)
      refine lv_iconst (v := (nI (0))) hx hb dX5_ask_92 (by decide) ?_
      refine j_iret hx hb hr hlocks hH hw dX5_ask_93 ?_
      have e9 : fAsk σ ac al ai af = (1, 0, σ) := by simp only [fAsk, hcu]
      exact ⟨_, rfl, by rw [e9]; exact ⟨fun h9 => absurd h9 (Nat.succ_ne_zero _), by rw [if_neg (Nat.succ_ne_zero _)]; exact ⟨x3, x4, x5, x14, sn, sc, rd, nw, tr, dy, kp, ik, tk, hO, hSc, hRd, hA, hTr, hDy, hKp, hIk, hT8, hMI⟩, hf⟩⟩
