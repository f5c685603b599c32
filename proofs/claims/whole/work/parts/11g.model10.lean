abbrev q_X5_lot (g : jG) (H0 : Heap) (M : Nat) (al : Int32) (what : Int32) (x0 : Int32) (tx : List Nat) (σ : Sg) (hi : List Sg) (sv : Nat → Option Sg) : Option Value → Heap → Prop := jN (fun r H1 => ((fLot σ al what).1 = 0 → r = (fLot σ al what).2) ∧ MD g H1 M (nI (fLot σ al what).1) tx σ hi sv ∧ jF M 9 H0 H1)
set_option maxHeartbeats 4000000 in
set_option maxRecDepth 100000 in
theorem c_X5_lot (l : Launch) (g : jG) (z : Nat) (H0 : Heap) (M : Nat) (al : Int32) (what : Int32) (x0 : Int32) (tx : List Nat) (σ : Sg) (hi : List Sg) (sv : Nat → Option Sg) (hzM : z ≤ M) (hMD : MD g H0 M x0 tx σ hi sv) : jM l g z yX5_lot wsX5_lot 2 45 [.ref M, .int al, .int what] H0 (q_X5_lot g H0 M al what x0 tx σ hi sv) := by
  refine j_of (cc := cX5_lot) (n := 3) (ret := some .int) (by decide) rfl (Nat.le_of_ble_eq_true rfl) ?_
  intro p e s m below meth c hx hb hr hml hown hts hlocks hname hH hw ls hl
  have hl : lv_has ls 3 [(0, .ref M), (1, .int al), (2, .int what)] := hl
  have hinX5 : ∀ w ∈ u_ws RX5 TX5 16, w ∈ wsX5_lot := by decide +kernel
  have hf : jF M 9 H0 H0 := jF.rf
  obtain ⟨x3, x4, x5, x14, sn, sc, rd, nw, tr, dy, kp, ik, tk, hO, hSc, hRd, hA, hTr, hDy, hKp, hIk, hT8, hMI⟩ := hMD
  obtain ⟨htx, hsc, hR, hN, hhi, hdy, hkp⟩ := id hMI
  obtain ⟨hs, hcalm, h20⟩ := id hN
  refine lv_aload_n hx hb dX5_lot_0 rfl (lv_at hl 0 rfl) ?_
  refine lv_iload_n hx hb dX5_lot_1 rfl (lv_at hl 1 rfl) ?_
  refine j_Sp (n := 1) (As := [.int al]) hx hb hml hown hts hw (c_X5_isLot l g z H0 al   ) gX5_lot_X5_isLot rfl (by decide +kernel) ⟨Nat.le_of_ble_eq_true rfl, Nat.le_of_ble_eq_true rfl⟩ rfl hl.1 (Nat.le_of_ble_eq_true rfl) ⟨Nat.zero_le _, Nat.zero_le _⟩ dX5_lot_2 (fun r1 locs hr1 hw => ?_) rfl
  rcases hr1 with ⟨rfl, q, hq, hqa, hqn, rfl⟩ | ⟨rfl, hq⟩
  · refine jz_ne (tgt := 12) hx hb dX5_lot_5 (by decide) (by omega) (fun c5 => ?_) (fun c5 => absurd c5 (by omega))
    refine lv_iload_n hx hb dX5_lot_12 rfl (lv_at hl 2 rfl) ?_
    refine lv_i2l (v := what.toInt64) hx hb dX5_lot_13 rfl ?_
    refine lv_lconst (v := 0) hx hb dX5_lot_14 (by decide) ?_
    refine lv_ldc2 (v := 3) hx hb hown (hts (.constantLong RX5 190 (3)) (by decide +kernel)) dX5_lot_15 ?_
    refine j_Sp (n := 3) (As := [.long what.toInt64, .long 0, .long 3]) hx hb hml hown hts hw (c_X5_in l g z H0 what.toInt64 0 3   ) gX5_lot_X5_in rfl (by decide +kernel) ⟨Nat.le_of_ble_eq_true rfl, Nat.le_of_ble_eq_true rfl⟩ rfl hl.1 (Nat.le_of_ble_eq_true rfl) ⟨Nat.zero_le _, Nat.zero_le _⟩ dX5_lot_18 (fun r2 locs hr2 hw => ?_) rfl
    rcases in_ix (x := what) (a := 0) (n := 4) (by decide) (by decide) hr2 with ⟨rfl, u, hu, hua, hun, rfl⟩ | ⟨rfl, hu⟩
    · refine jz_eq (tgt := 28) hx hb dX5_lot_21 (by decide) (by omega) (fun c21 => absurd c21 (by omega)) (fun c21 => ?_)
      refine lv_iconst (v := (nI (0))) hx hb dX5_lot_24 (by decide) ?_
      refine lv_goto (tgt := 29) hx hb dX5_lot_25 (by decide) ?_
      refine j_Vi (n := 1) (As := [.int (nI (0))]) hx hb hml hown hts hw (j_recv hw hO rfl) (c_X5_refused l g z H0 M (0) x0 (nI (tx.length)) x3 x4 x5 (nI (hi.length)) x14 _ hzM hO (by first | assumption | omega)) gX5_lot_X5_refused rfl (by decide +kernel) ⟨Nat.le_of_ble_eq_true rfl, Nat.le_of_ble_eq_true rfl⟩ rfl hl.1 (Nat.le_of_ble_eq_true rfl) ⟨Nat.zero_le _, Nat.zero_le _⟩ dX5_lot_29 (fun r3 H locs hr3 hw hsz => ?_) rfl
      obtain ⟨hr3, hO, hf2⟩ := hr3
      obtain rfl : r3 = nI 0 := hr3
      have hO : jO g H M 5 [.int (nI (0)), .ref (M + 1), .int (nI (tx.length)), .int x3, .int x4, .int x5, .ref (M + 2), .ref (M + 3), .ref (M + 4), .ref (M + 5), .int (nI (hi.length)), .ref (M + 6), .ref (M + 7), .ref (M + 8), .int x14, .int (bI sn)] := hO
      have hSc := hSc.kept (hf2.2 _ (by omega))
      have hRd := hRd.kept (hf2.2 _ (by omega))
      have hA := hA.kept (hf2.2 _ (by omega))
      have hTr := hTr.kept (hf2.2 _ (by omega))
      have hDy := hDy.kept (hf2.2 _ (by omega))
      have hKp := hKp.kept (hf2.2 _ (by omega))
      have hIk := hIk.kept (hf2.2 _ (by omega))
      have hT8 := hT8.kept (hf2.2 _ (by omega))
      have hf := hf.step hf2 (by omega)
      refine jz_eq (tgt := 37) hx hb dX5_lot_32 (by decide) (by omega) (fun c32 => ?_) (fun c32 => absurd c32 (by omega))
      have hfq := hs.2.1 q hqn
      refine lv_iload_n hx hb dX5_lot_37 rfl (lv_at hl 2 rfl) ?_
      refine jz_ne (tgt := 55) hx hb dX5_lot_38 (by decide) (by omega) (fun c38 => ?_) (fun c38 => ?_)
      · refine lv_iload_n hx hb dX5_lot_55 rfl (lv_at hl 2 rfl) ?_
        refine lv_iconst (v := (nI (1))) hx hb dX5_lot_56 (by decide) ?_
        refine jn_ne (tgt := 71) hx hb dX5_lot_57 (by decide) (by omega) (by omega) (fun c57 => ?_) (fun c57 => ?_)
        · refine lv_iload_n hx hb dX5_lot_71 rfl (lv_at hl 2 rfl) ?_
          refine lv_iconst (v := (nI (2))) hx hb dX5_lot_72 (by decide) ?_
          refine jn_ne (tgt := 87) hx hb dX5_lot_73 (by decide) (by omega) (by omega) (fun c73 => ?_) (fun c73 => ?_)
          · refine lv_aload_n hx hb dX5_lot_87 rfl (lv_at hl 0 rfl) ?_
            refine j_get (T := TX5) (N := 16) (k := 7) hx hb hts hinX5 hown hw hO rfl (by decide) (hts (.fieldLink RX5 16 "NightTrainsModel" "now" "[I") (by decide +kernel)) rfl dX5_lot_88 ?_
            refine lv_bipush (v := (nI (30))) hx hb dX5_lot_91 (by decide) ?_
            refine lv_iload_n hx hb dX5_lot_93 rfl (lv_at hl 1 rfl) ?_
            refine j_addN hx hb dX5_lot_94 ?_
            refine j_iald hx hb hw hA (k := (30 + q)) rfl (by omega) (by omega) dX5_lot_95 ?_
            refine j_eq (y := nI (σ.1 (30 + q))) (hR.n _ (by omega)) ?_
            refine j_iret hx hb hr hlocks hH hw dX5_lot_96 ?_
            have e9 : fLot σ (nI (q)) (nI (u)) = (0, nI (σ.1 (30 + q))) := by simp only [fLot, hq, hu]
            exact ⟨_, rfl, by rw [e9]; exact ⟨fun _ => rfl, ⟨x3, x4, x5, x14, sn, sc, rd, nw, tr, dy, kp, ik, tk, hO, hSc, hRd, hA, hTr, hDy, hKp, hIk, hT8, hMI⟩, hf⟩⟩
          · refine lv_aload_n hx hb dX5_lot_76 rfl (lv_at hl 0 rfl) ?_
            refine j_get (T := TX5) (N := 16) (k := 7) hx hb hts hinX5 hown hw hO rfl (by decide) (hts (.fieldLink RX5 16 "NightTrainsModel" "now" "[I") (by decide +kernel)) rfl dX5_lot_77 ?_
            refine lv_iload_n hx hb dX5_lot_80 rfl (lv_at hl 1 rfl) ?_
            refine j_Sp (n := 2) (As := [.ref (M + 3), .int (nI (q))]) hx hb hml hown hts hw (c_X5_feesOf l g z H (M + 3) (q) (σ) nw  hA hR hs (by first | assumption | omega)) gX5_lot_X5_feesOf rfl (by decide +kernel) ⟨Nat.le_of_ble_eq_true rfl, Nat.le_of_ble_eq_true rfl⟩ rfl hl.1 (Nat.le_of_ble_eq_true rfl) ⟨Nat.zero_le _, Nat.zero_le _⟩ dX5_lot_81 (fun r4 locs hr4 hw => ?_) rfl
            obtain rfl : r4 = (nI (fsum (q) (σ).2.2.1)) := hr4
            refine lv_goto (tgt := 96) hx hb dX5_lot_84 (by decide) ?_
            refine j_iret hx hb hr hlocks hH hw dX5_lot_96 ?_
            have e9 : fLot σ (nI (q)) (nI (u)) = (0, nI (fsum (q) (σ).2.2.1)) := by simp only [fLot, hq, hu]; obtain rfl : u = 2 := (by omega); rfl
            exact ⟨_, rfl, by rw [e9]; exact ⟨fun _ => rfl, ⟨x3, x4, x5, x14, sn, sc, rd, nw, tr, dy, kp, ik, tk, hO, hSc, hRd, hA, hTr, hDy, hKp, hIk, hT8, hMI⟩, hf⟩⟩
        · refine lv_aload_n hx hb dX5_lot_60 rfl (lv_at hl 0 rfl) ?_
          refine j_get (T := TX5) (N := 16) (k := 7) hx hb hts hinX5 hown hw hO rfl (by decide) (hts (.fieldLink RX5 16 "NightTrainsModel" "now" "[I") (by decide +kernel)) rfl dX5_lot_61 ?_
          refine lv_iload_n hx hb dX5_lot_64 rfl (lv_at hl 1 rfl) ?_
          refine j_Sp (n := 2) (As := [.ref (M + 3), .int (nI (q))]) hx hb hml hown hts hw (c_X5_ordersOf l g z H (M + 3) (q) (σ) nw  hA hR hs (by first | assumption | omega)) gX5_lot_X5_ordersOf rfl (by decide +kernel) ⟨Nat.le_of_ble_eq_true rfl, Nat.le_of_ble_eq_true rfl⟩ rfl hl.1 (Nat.le_of_ble_eq_true rfl) ⟨Nat.zero_le _, Nat.zero_le _⟩ dX5_lot_65 (fun r5 locs hr5 hw => ?_) rfl
          obtain rfl : r5 = (nI (ocnt 1 (q) (σ).2.2.1)) := hr5
          refine lv_goto (tgt := 96) hx hb dX5_lot_68 (by decide) ?_
          refine j_iret hx hb hr hlocks hH hw dX5_lot_96 ?_
          have e9 : fLot σ (nI (q)) (nI (u)) = (0, nI (ocnt 1 (q) (σ).2.2.1)) := by simp only [fLot, hq, hu]; obtain rfl : u = 1 := (by omega); rfl
          exact ⟨_, rfl, by rw [e9]; exact ⟨fun _ => rfl, ⟨x3, x4, x5, x14, sn, sc, rd, nw, tr, dy, kp, ik, tk, hO, hSc, hRd, hA, hTr, hDy, hKp, hIk, hT8, hMI⟩, hf⟩⟩
      · refine lv_aload_n hx hb dX5_lot_41 rfl (lv_at hl 0 rfl) ?_
        refine j_get (T := TX5) (N := 16) (k := 7) hx hb hts hinX5 hown hw hO rfl (by decide) (hts (.fieldLink RX5 16 "NightTrainsModel" "now" "[I") (by decide +kernel)) rfl dX5_lot_42 ?_
        refine lv_bipush (v := (nI (14))) hx hb dX5_lot_45 (by decide) ?_
        refine lv_iload_n hx hb dX5_lot_47 rfl (lv_at hl 1 rfl) ?_
        refine j_addN hx hb dX5_lot_48 ?_
        refine j_iald hx hb hw hA (k := (14 + q)) rfl (by omega) (by omega) dX5_lot_49 ?_
        refine j_eq (y := (nI (σ.1 (14 + q)))) (hR.n _ (by omega)) ?_
        refine lv_iconst (v := (nI (1))) hx hb dX5_lot_50 (by decide) ?_
        refine lv_isub hx hb dX5_lot_51 ?_
        refine lv_goto (tgt := 96) hx hb dX5_lot_52 (by decide) ?_
        refine j_iret hx hb hr hlocks hH hw dX5_lot_96 ?_
        have e9 : fLot σ (nI (q)) (nI (u)) = (0, nI (σ.1 (14 + q)) - nI 1) := by simp only [fLot, hq, hu]; obtain rfl : u = 0 := (by omega); rfl
        exact ⟨_, rfl, by rw [e9]; exact ⟨fun _ => rfl, ⟨x3, x4, x5, x14, sn, sc, rd, nw, tr, dy, kp, ik, tk, hO, hSc, hRd, hA, hTr, hDy, hKp, hIk, hT8, hMI⟩, hf⟩⟩
    · refine jz_eq (tgt := 28) hx hb dX5_lot_21 (by decide) (by omega) (fun c21 => ?_) (fun c21 => absurd c21 (by omega))
      refine lv_iconst (v := (nI (2))) hx hb dX5_lot_28 (by decide) ?_
      refine j_Vi (n := 1) (As := [.int (nI (2))]) hx hb hml hown hts hw (j_recv hw hO rfl) (c_X5_refused l g z H0 M (2) x0 (nI (tx.length)) x3 x4 x5 (nI (hi.length)) x14 _ hzM hO (by first | assumption | omega)) gX5_lot_X5_refused rfl (by decide +kernel) ⟨Nat.le_of_ble_eq_true rfl, Nat.le_of_ble_eq_true rfl⟩ rfl hl.1 (Nat.le_of_ble_eq_true rfl) ⟨Nat.zero_le _, Nat.zero_le _⟩ dX5_lot_29 (fun r6 H locs hr6 hw hsz => ?_) rfl
      obtain ⟨hr6, hO, hf2⟩ := hr6
      obtain rfl : r6 = nI 1 := hr6
      have hO : jO g H M 5 [.int (nI (2)), .ref (M + 1), .int (nI (tx.length)), .int x3, .int x4, .int x5, .ref (M + 2), .ref (M + 3), .ref (M + 4), .ref (M + 5), .int (nI (hi.length)), .ref (M + 6), .ref (M + 7), .ref (M + 8), .int x14, .int (bI sn)] := hO
      have hSc := hSc.kept (hf2.2 _ (by omega))
      have hRd := hRd.kept (hf2.2 _ (by omega))
      have hA := hA.kept (hf2.2 _ (by omega))
      have hTr := hTr.kept (hf2.2 _ (by omega))
      have hDy := hDy.kept (hf2.2 _ (by omega))
      have hKp := hKp.kept (hf2.2 _ (by omega))
      have hIk := hIk.kept (hf2.2 _ (by omega))
      have hT8 := hT8.kept (hf2.2 _ (by omega))
      have hf := hf.step hf2 (by omega)
      refine jz_eq (tgt := 37) hx hb dX5_lot_32 (by decide) (by omega) (fun c32 => absurd c32 (by omega)) (fun c32 => ?_)
      refine lv_iconst (v := (nI (0))) hx hb dX5_lot_35 (by decide) ?_
      refine j_iret hx hb hr hlocks hH hw dX5_lot_36 ?_
      have e9 : fLot σ (nI (q)) what = (2, 0) := by simp only [fLot, hq, hu]
      exact ⟨_, rfl, by rw [e9]; exact ⟨fun h9 => absurd h9 (Nat.succ_ne_zero _), ⟨x3, x4, x5, x14, sn, sc, rd, nw, tr, dy, kp, ik, tk, hO, hSc, hRd, hA, hTr, hDy, hKp, hIk, hT8, hMI⟩, hf⟩⟩
  · refine jz_ne (tgt := 12) hx hb dX5_lot_5 (by decide) (by omega) (fun c5 => absurd c5 (by omega)) (fun c5 => ?_)
    refine lv_iconst (v := (nI (1))) hx hb dX5_lot_8 (by decide) ?_
    refine lv_goto (tgt := 29) hx hb dX5_lot_9 (by decide) ?_
    refine j_Vi (n := 1) (As := [.int (nI (1))]) hx hb hml hown hts hw (j_recv hw hO rfl) (c_X5_refused l g z H0 M (1) x0 (nI (tx.length)) x3 x4 x5 (nI (hi.length)) x14 _ hzM hO (by first | assumption | omega)) gX5_lot_X5_refused rfl (by decide +kernel) ⟨Nat.le_of_ble_eq_true rfl, Nat.le_of_ble_eq_true rfl⟩ rfl hl.1 (Nat.le_of_ble_eq_true rfl) ⟨Nat.zero_le _, Nat.zero_le _⟩ dX5_lot_29 (fun r7 H locs hr7 hw hsz => ?_) rfl
    obtain ⟨hr7, hO, hf2⟩ := hr7
    obtain rfl : r7 = nI 1 := hr7
    have hO : jO g H M 5 [.int (nI (1)), .ref (M + 1), .int (nI (tx.length)), .int x3, .int x4, .int x5, .ref (M + 2), .ref (M + 3), .ref (M + 4), .ref (M + 5), .int (nI (hi.length)), .ref (M + 6), .ref (M + 7), .ref (M + 8), .int x14, .int (bI sn)] := hO
    have hSc := hSc.kept (hf2.2 _ (by omega))
    have hRd := hRd.kept (hf2.2 _ (by omega))
    have hA := hA.kept (hf2.2 _ (by omega))
    have hTr := hTr.kept (hf2.2 _ (by omega))
    have hDy := hDy.kept (hf2.2 _ (by omega))
    have hKp := hKp.kept (hf2.2 _ (by omega))
    have hIk := hIk.kept (hf2.2 _ (by omega))
    have hT8 := hT8.kept (hf2.2 _ (by omega))
    have hf := hf.step hf2 (by omega)
    refine jz_eq (tgt := 37) hx hb dX5_lot_32 (by decide) (by omega) (fun c32 => absurd c32 (by omega)) (fun c32 => ?_)
    refine lv_iconst (v := (nI (0))) hx hb dX5_lot_35 (by decide) ?_
    refine j_iret hx hb hr hlocks hH hw dX5_lot_36 ?_
    have e9 : fLot σ al what = (1, 0) := by simp only [fLot, hq]
    exact ⟨_, rfl, by rw [e9]; exact ⟨fun h9 => absurd h9 (Nat.succ_ne_zero _), ⟨x3, x4, x5, x14, sn, sc, rd, nw, tr, dy, kp, ik, tk, hO, hSc, hRd, hA, hTr, hDy, hKp, hIk, hT8, hMI⟩, hf⟩⟩

abbrev q_X5_reader (g : jG) (H0 : Heap) (M : Nat) (ac : Int32) (what : Int32) (x0 : Int32) (tx : List Nat) (σ : Sg) (hi : List Sg) (sv : Nat → Option Sg) : Option Value → Heap → Prop := jN (fun r H1 => ((fReader σ ac what).1 = 0 → r = (fReader σ ac what).2) ∧ MD g H1 M (nI (fReader σ ac what).1) tx σ hi sv ∧ jF M 9 H0 H1)
set_option maxHeartbeats 4000000 in
set_option maxRecDepth 100000 in
theorem c_X5_reader (l : Launch) (g : jG) (z : Nat) (H0 : Heap) (M : Nat) (ac : Int32) (what : Int32) (x0 : Int32) (tx : List Nat) (σ : Sg) (hi : List Sg) (sv : Nat → Option Sg) (hzM : z ≤ M) (hMD : MD g H0 M x0 tx σ hi sv) : jM l g z yX5_reader wsX5_reader 2 45 [.ref M, .int ac, .int what] H0 (q_X5_reader g H0 M ac what x0 tx σ hi sv) := by
  refine j_of (cc := cX5_reader) (n := 3) (ret := some .int) (by decide) rfl (Nat.le_of_ble_eq_true rfl) ?_
  intro p e s m below meth c hx hb hr hml hown hts hlocks hname hH hw ls hl
  have hl : lv_has ls 3 [(0, .ref M), (1, .int ac), (2, .int what)] := hl
  have hinX5 : ∀ w ∈ u_ws RX5 TX5 16, w ∈ wsX5_reader := by decide +kernel
  have hf : jF M 9 H0 H0 := jF.rf
  obtain ⟨x3, x4, x5, x14, sn, sc, rd, nw, tr, dy, kp, ik, tk, hO, hSc, hRd, hA, hTr, hDy, hKp, hIk, hT8, hMI⟩ := hMD
  obtain ⟨htx, hsc, hR, hN, hhi, hdy, hkp⟩ := id hMI
  obtain ⟨hs, hcalm, h20⟩ := id hN
  refine lv_aload_n hx hb dX5_reader_0 rfl (lv_at hl 0 rfl) ?_
  refine lv_iload_n hx hb dX5_reader_1 rfl (lv_at hl 1 rfl) ?_
  refine j_Sp (n := 1) (As := [.int ac]) hx hb hml hown hts hw (c_X5_isReader l g z H0 ac   ) gX5_reader_X5_isReader rfl (by decide +kernel) ⟨Nat.le_of_ble_eq_true rfl, Nat.le_of_ble_eq_true rfl⟩ rfl hl.1 (Nat.le_of_ble_eq_true rfl) ⟨Nat.zero_le _, Nat.zero_le _⟩ dX5_reader_2 (fun r1 locs hr1 hw => ?_) rfl
  rcases hr1 with ⟨rfl, q, hq, hqa, hqn, rfl⟩ | ⟨rfl, hq⟩
  · refine jz_ne (tgt := 12) hx hb dX5_reader_5 (by decide) (by omega) (fun c5 => ?_) (fun c5 => absurd c5 (by omega))
    refine lv_iload_n hx hb dX5_reader_12 rfl (lv_at hl 2 rfl) ?_
    refine lv_i2l (v := what.toInt64) hx hb dX5_reader_13 rfl ?_
    refine lv_lconst (v := 0) hx hb dX5_reader_14 (by decide) ?_
    refine lv_ldc2 (v := 3) hx hb hown (hts (.constantLong RX5 190 (3)) (by decide +kernel)) dX5_reader_15 ?_
    refine j_Sp (n := 3) (As := [.long what.toInt64, .long 0, .long 3]) hx hb hml hown hts hw (c_X5_in l g z H0 what.toInt64 0 3   ) gX5_reader_X5_in rfl (by decide +kernel) ⟨Nat.le_of_ble_eq_true rfl, Nat.le_of_ble_eq_true rfl⟩ rfl hl.1 (Nat.le_of_ble_eq_true rfl) ⟨Nat.zero_le _, Nat.zero_le _⟩ dX5_reader_18 (fun r2 locs hr2 hw => ?_) rfl
    rcases in_ix (x := what) (a := 0) (n := 4) (by decide) (by decide) hr2 with ⟨rfl, u, hu, hua, hun, rfl⟩ | ⟨rfl, hu⟩
    · refine jz_eq (tgt := 28) hx hb dX5_reader_21 (by decide) (by omega) (fun c21 => absurd c21 (by omega)) (fun c21 => ?_)
      refine lv_iconst (v := (nI (0))) hx hb dX5_reader_24 (by decide) ?_
      refine lv_goto (tgt := 29) hx hb dX5_reader_25 (by decide) ?_
      refine j_Vi (n := 1) (As := [.int (nI (0))]) hx hb hml hown hts hw (j_recv hw hO rfl) (c_X5_refused l g z H0 M (0) x0 (nI (tx.length)) x3 x4 x5 (nI (hi.length)) x14 _ hzM hO (by first | assumption | omega)) gX5_reader_X5_refused rfl (by decide +kernel) ⟨Nat.le_of_ble_eq_true rfl, Nat.le_of_ble_eq_true rfl⟩ rfl hl.1 (Nat.le_of_ble_eq_true rfl) ⟨Nat.zero_le _, Nat.zero_le _⟩ dX5_reader_29 (fun r3 H locs hr3 hw hsz => ?_) rfl
      obtain ⟨hr3, hO, hf2⟩ := hr3
      obtain rfl : r3 = nI 0 := hr3
      have hO : jO g H M 5 [.int (nI (0)), .ref (M + 1), .int (nI (tx.length)), .int x3, .int x4, .int x5, .ref (M + 2), .ref (M + 3), .ref (M + 4), .ref (M + 5), .int (nI (hi.length)), .ref (M + 6), .ref (M + 7), .ref (M + 8), .int x14, .int (bI sn)] := hO
      have hSc := hSc.kept (hf2.2 _ (by omega))
      have hRd := hRd.kept (hf2.2 _ (by omega))
      have hA := hA.kept (hf2.2 _ (by omega))
      have hTr := hTr.kept (hf2.2 _ (by omega))
      have hDy := hDy.kept (hf2.2 _ (by omega))
      have hKp := hKp.kept (hf2.2 _ (by omega))
      have hIk := hIk.kept (hf2.2 _ (by omega))
      have hT8 := hT8.kept (hf2.2 _ (by omega))
      have hf := hf.step hf2 (by omega)
      refine jz_eq (tgt := 37) hx hb dX5_reader_32 (by decide) (by omega) (fun c32 => ?_) (fun c32 => absurd c32 (by omega))
      refine lv_iload_n hx hb dX5_reader_37 rfl (lv_at hl 2 rfl) ?_
      refine jz_ne (tgt := 53) hx hb dX5_reader_38 (by decide) (by omega) (fun c38 => ?_) (fun c38 => ?_)
      · refine lv_iload_n hx hb dX5_reader_53 rfl (lv_at hl 2 rfl) ?_
        refine lv_iconst (v := (nI (1))) hx hb dX5_reader_54 (by decide) ?_
        refine jn_ne (tgt := 66) hx hb dX5_reader_55 (by decide) (by omega) (by omega) (fun c55 => ?_) (fun c55 => ?_)
        · refine lv_iload_n hx hb dX5_reader_66 rfl (lv_at hl 2 rfl) ?_
          refine lv_iconst (v := (nI (2))) hx hb dX5_reader_67 (by decide) ?_
          refine jn_ne (tgt := 83) hx hb dX5_reader_68 (by decide) (by omega) (by omega) (fun c68 => ?_) (fun c68 => ?_)
          · refine lv_aload_n hx hb dX5_reader_83 rfl (lv_at hl 0 rfl) ?_
            refine j_get (T := TX5) (N := 16) (k := 7) hx hb hts hinX5 hown hw hO rfl (by decide) (hts (.fieldLink RX5 16 "NightTrainsModel" "now" "[I") (by decide +kernel)) rfl dX5_reader_84 ?_
            refine lv_bipush (v := (nI (54))) hx hb dX5_reader_87 (by decide) ?_
            refine lv_iload_n hx hb dX5_reader_89 rfl (lv_at hl 1 rfl) ?_
            refine j_addN hx hb dX5_reader_90 ?_
            refine j_iald hx hb hw hA (k := (54 + q)) rfl (by omega) (by omega) dX5_reader_91 ?_
            refine j_eq (y := nI (σ.1 (54 + q))) (hR.n _ (by omega)) ?_
            refine j_iret hx hb hr hlocks hH hw dX5_reader_92 ?_
            have e9 : fReader σ (nI (q)) (nI (u)) = (0, nI (σ.1 (54 + q))) := by simp only [fReader, hq, hu]
            exact ⟨_, rfl, by rw [e9]; exact ⟨fun _ => rfl, ⟨x3, x4, x5, x14, sn, sc, rd, nw, tr, dy, kp, ik, tk, hO, hSc, hRd, hA, hTr, hDy, hKp, hIk, hT8, hMI⟩, hf⟩⟩
          · refine lv_aload_n hx hb dX5_reader_71 rfl (lv_at hl 0 rfl) ?_
            refine j_get (T := TX5) (N := 16) (k := 7) hx hb hts hinX5 hown hw hO rfl (by decide) (hts (.fieldLink RX5 16 "NightTrainsModel" "now" "[I") (by decide +kernel)) rfl dX5_reader_72 ?_
            refine lv_bipush (v := (nI (50))) hx hb dX5_reader_75 (by decide) ?_
            refine lv_iload_n hx hb dX5_reader_77 rfl (lv_at hl 1 rfl) ?_
            refine j_addN hx hb dX5_reader_78 ?_
            refine j_iald hx hb hw hA (k := (50 + q)) rfl (by omega) (by omega) dX5_reader_79 ?_
            refine j_eq (y := nI (σ.1 (50 + q))) (hR.n _ (by omega)) ?_
            refine lv_goto (tgt := 92) hx hb dX5_reader_80 (by decide) ?_
            refine j_iret hx hb hr hlocks hH hw dX5_reader_92 ?_
            have e9 : fReader σ (nI (q)) (nI (u)) = (0, nI (σ.1 (50 + q))) := by simp only [fReader, hq, hu]; obtain rfl : u = 2 := (by omega); rfl
            exact ⟨_, rfl, by rw [e9]; exact ⟨fun _ => rfl, ⟨x3, x4, x5, x14, sn, sc, rd, nw, tr, dy, kp, ik, tk, hO, hSc, hRd, hA, hTr, hDy, hKp, hIk, hT8, hMI⟩, hf⟩⟩
        · refine lv_aload_n hx hb dX5_reader_58 rfl (lv_at hl 0 rfl) ?_
          refine lv_iload_n hx hb dX5_reader_59 rfl (lv_at hl 1 rfl) ?_
          refine j_Vp (n := 1) (As := [.int (nI (q))]) hx hb hml hown hts hw (j_recv hw hO rfl) (c_X5_openOf l g z H M (q) (σ) nw (nI (0)) (nI (tx.length)) x3 x4 x5 (nI (hi.length)) x14 _  hO hA hR hs (by first | assumption | omega)) gX5_reader_X5_openOf rfl (by decide +kernel) ⟨Nat.le_of_ble_eq_true rfl, Nat.le_of_ble_eq_true rfl⟩ rfl hl.1 (Nat.le_of_ble_eq_true rfl) ⟨Nat.zero_le _, Nat.zero_le _⟩ dX5_reader_60 (fun r4 locs hr4 hw => ?_) rfl
          obtain rfl : r4 = (nI (ocnt 0 (q) (σ).2.2.1)) := hr4
          refine lv_goto (tgt := 92) hx hb dX5_reader_63 (by decide) ?_
          refine j_iret hx hb hr hlocks hH hw dX5_reader_92 ?_
          have e9 : fReader σ (nI (q)) (nI (u)) = (0, nI (ocnt 0 (q) (σ).2.2.1)) := by simp only [fReader, hq, hu]; obtain rfl : u = 1 := (by omega); rfl
          exact ⟨_, rfl, by rw [e9]; exact ⟨fun _ => rfl, ⟨x3, x4, x5, x14, sn, sc, rd, nw, tr, dy, kp, ik, tk, hO, hSc, hRd, hA, hTr, hDy, hKp, hIk, hT8, hMI⟩, hf⟩⟩
      · refine lv_aload_n hx hb dX5_reader_41 rfl (lv_at hl 0 rfl) ?_
        refine j_get (T := TX5) (N := 16) (k := 7) hx hb hts hinX5 hown hw hO rfl (by decide) (hts (.fieldLink RX5 16 "NightTrainsModel" "now" "[I") (by decide +kernel)) rfl dX5_reader_42 ?_
        refine lv_bipush (v := (nI (46))) hx hb dX5_reader_45 (by decide) ?_
        refine lv_iload_n hx hb dX5_reader_47 rfl (lv_at hl 1 rfl) ?_
        refine j_addN hx hb dX5_reader_48 ?_
        refine j_iald hx hb hw hA (k := (46 + q)) rfl (by omega) (by omega) dX5_reader_49 ?_
        refine j_eq (y := (σ.2.1 q)) (hR.p q hqn rfl) ?_
        refine lv_goto (tgt := 92) hx hb dX5_reader_50 (by decide) ?_
        refine j_iret hx hb hr hlocks hH hw dX5_reader_92 ?_
        have e9 : fReader σ (nI (q)) (nI (u)) = (0, σ.2.1 q) := by simp only [fReader, hq, hu]; obtain rfl : u = 0 := (by omega); rfl
        exact ⟨_, rfl, by rw [e9]; exact ⟨fun _ => rfl, ⟨x3, x4, x5, x14, sn, sc, rd, nw, tr, dy, kp, ik, tk, hO, hSc, hRd, hA, hTr, hDy, hKp, hIk, hT8, hMI⟩, hf⟩⟩
    · refine jz_eq (tgt := 28) hx hb dX5_reader_21 (by decide) (by omega) (fun c21 => ?_) (fun c21 => absurd c21 (by omega))
      refine lv_iconst (v := (nI (2))) hx hb dX5_reader_28 (by decide) ?_
      refine j_Vi (n := 1) (As := [.int (nI (2))]) hx hb hml hown hts hw (j_recv hw hO rfl) (c_X5_refused l g z H0 M (2) x0 (nI (tx.length)) x3 x4 x5 (nI (hi.length)) x14 _ hzM hO (by first | assumption | omega)) gX5_reader_X5_refused rfl (by decide +kernel) ⟨Nat.le_of_ble_eq_true rfl, Nat.le_of_ble_eq_true rfl⟩ rfl hl.1 (Nat.le_of_ble_eq_true rfl) ⟨Nat.zero_le _, Nat.zero_le _⟩ dX5_reader_29 (fun r5 H locs hr5 hw hsz => ?_) rfl
      obtain ⟨hr5, hO, hf2⟩ := hr5
      obtain rfl : r5 = nI 1 := hr5
      have hO : jO g H M 5 [.int (nI (2)), .ref (M + 1), .int (nI (tx.length)), .int x3, .int x4, .int x5, .ref (M + 2), .ref (M + 3), .ref (M + 4), .ref (M + 5), .int (nI (hi.length)), .ref (M + 6), .ref (M + 7), .ref (M + 8), .int x14, .int (bI sn)] := hO
      have hSc := hSc.kept (hf2.2 _ (by omega))
      have hRd := hRd.kept (hf2.2 _ (by omega))
      have hA := hA.kept (hf2.2 _ (by omega))
      have hTr := hTr.kept (hf2.2 _ (by omega))
      have hDy := hDy.kept (hf2.2 _ (by omega))
      have hKp := hKp.kept (hf2.2 _ (by omega))
      have hIk := hIk.kept (hf2.2 _ (by omega))
      have hT8 := hT8.kept (hf2.2 _ (by omega))
      have hf := hf.step hf2 (by omega)
      refine jz_eq (tgt := 37) hx hb dX5_reader_32 (by decide) (by omega) (fun c32 => absurd c32 (by omega)) (fun c32 => ?_)
      refine lv_iconst (v := (nI (0))) hx hb dX5_reader_35 (by decide) ?_
      refine j_iret hx hb hr hlocks hH hw dX5_reader_36 ?_
      have e9 : fReader σ (nI (q)) what = (2, 0) := by simp only [fReader, hq, hu]
      exact ⟨_, rfl, by rw [e9]; exact ⟨fun h9 => absurd h9 (Nat.succ_ne_zero _), ⟨x3, x4, x5, x14, sn, sc, rd, nw, tr, dy, kp, ik, tk, hO, hSc, hRd, hA, hTr, hDy, hKp, hIk, hT8, hMI⟩, hf⟩⟩
  · refine jz_ne (tgt := 12) hx hb dX5_reader_5 (by decide) (by omega) (fun c5 => absurd c5 (by omega)) (fun c5 => ?_)
    refine lv_iconst (v := (nI (1))) hx hb dX5_reader_8 (by decide) ?_
    refine lv_goto (tgt := 29) hx hb dX5_reader_9 (by decide) ?_
    refine j_Vi (n := 1) (As := [.int (nI (1))]) hx hb hml hown hts hw (j_recv hw hO rfl) (c_X5_refused l g z H0 M (1) x0 (nI (tx.length)) x3 x4 x5 (nI (hi.length)) x14 _ hzM hO (by first | assumption | omega)) gX5_reader_X5_refused rfl (by decide +kernel) ⟨Nat.le_of_ble_eq_true rfl, Nat.le_of_ble_eq_true rfl⟩ rfl hl.1 (Nat.le_of_ble_eq_true rfl) ⟨Nat.zero_le _, Nat.zero_le _⟩ dX5_reader_29 (fun r6 H locs hr6 hw hsz => ?_) rfl
    obtain ⟨hr6, hO, hf2⟩ := hr6
    obtain rfl : r6 = nI 1 := hr6
    have hO : jO g H M 5 [.int (nI (1)), .ref (M + 1), .int (nI (tx.length)), .int x3, .int x4, .int x5, .ref (M + 2), .ref (M + 3), .ref (M + 4), .ref (M + 5), .int (nI (hi.length)), .ref (M + 6), .ref (M + 7), .ref (M + 8), .int x14, .int (bI sn)] := hO
    have hSc := hSc.kept (hf2.2 _ (by omega))
    have hRd := hRd.kept (hf2.2 _ (by omega))
    have hA := hA.kept (hf2.2 _ (by omega))
    have hTr := hTr.kept (hf2.2 _ (by omega))
    have hDy := hDy.kept (hf2.2 _ (by omega))
    have hKp := hKp.kept (hf2.2 _ (by omega))
    have hIk := hIk.kept (hf2.2 _ (by omega))
    have hT8 := hT8.kept (hf2.2 _ (by omega))
    have hf := hf.step hf2 (by omega)
    refine jz_eq (tgt := 37) hx hb dX5_reader_32 (by decide) (by omega) (fun c32 => absurd c32 (by omega)) (fun c32 => ?_)
    refine lv_iconst (v := (nI (0))) hx hb dX5_reader_35 (by decide) ?_
    refine j_iret hx hb hr hlocks hH hw dX5_reader_36 ?_
    have e9 : fReader σ ac what = (1, 0) := by simp only [fReader, hq]
    exact ⟨_, rfl, by rw [e9]; exact ⟨fun h9 => absurd h9 (Nat.succ_ne_zero _), ⟨x3, x4, x5, x14, sn, sc, rd, nw, tr, dy, kp, ik, tk, hO, hSc, hRd, hA, hTr, hDy, hKp, hIk, hT8, hMI⟩, hf⟩⟩

abbrev q_X5_about (g : jG) (H0 : Heap) (M : Nat) (what : Int32) (x0 : Int32) (tx : List Nat) (σ : Sg) (hi : List Sg) (sv : Nat → Option Sg) : Option Value → Heap → Prop := jN (fun r H1 => ((fAbout σ what).1 = 0 → r = (fAbout σ what).2) ∧ MD g H1 M (nI (fAbout σ what).1) tx σ hi sv ∧ jF M 9 H0 H1)
set_option maxHeartbeats 4000000 in
set_option maxRecDepth 100000 in
theorem c_X5_about (l : Launch) (g : jG) (z : Nat) (H0 : Heap) (M : Nat) (what : Int32) (x0 : Int32) (tx : List Nat) (σ : Sg) (hi : List Sg) (sv : Nat → Option Sg) (hzM : z ≤ M) (hMD : MD g H0 M x0 tx σ hi sv) : jM l g z yX5_about wsX5_about 3 66 [.ref M, .int what] H0 (q_X5_about g H0 M what x0 tx σ hi sv) := by
  refine j_of (cc := cX5_about) (n := 2) (ret := some .int) (by decide) rfl (Nat.le_of_ble_eq_true rfl) ?_
  intro p e s m below meth c hx hb hr hml hown hts hlocks hname hH hw ls hl
  have hl : lv_has ls 2 [(0, .ref M), (1, .int what)] := hl
  have hinX5 : ∀ w ∈ u_ws RX5 TX5 16, w ∈ wsX5_about := by decide +kernel
  have hf : jF M 9 H0 H0 := jF.rf
  obtain ⟨x3, x4, x5, x14, sn, sc, rd, nw, tr, dy, kp, ik, tk, hO, hSc, hRd, hA, hTr, hDy, hKp, hIk, hT8, hMI⟩ := hMD
  obtain ⟨htx, hsc, hR, hN, hhi, hdy, hkp⟩ := id hMI
  obtain ⟨hs, hcalm, h20⟩ := id hN
  refine lv_aload_n hx hb dX5_about_0 rfl (lv_at hl 0 rfl) ?_
  refine lv_iload_n hx hb dX5_about_1 rfl (lv_at hl 1 rfl) ?_
  refine lv_i2l (v := what.toInt64) hx hb dX5_about_2 rfl ?_
  refine lv_lconst (v := 0) hx hb dX5_about_3 (by decide) ?_
  refine lv_ldc2 (v := 10) hx hb hown (hts (.constantLong RX5 43 (10)) (by decide +kernel)) dX5_about_4 ?_
  refine j_Sp (n := 3) (As := [.long what.toInt64, .long 0, .long 10]) hx hb hml hown hts hw (c_X5_in l g z H0 what.toInt64 0 10   ) gX5_about_X5_in rfl (by decide +kernel) ⟨Nat.le_of_ble_eq_true rfl, Nat.le_of_ble_eq_true rfl⟩ rfl hl.1 (Nat.le_of_ble_eq_true rfl) ⟨Nat.zero_le _, Nat.zero_le _⟩ dX5_about_7 (fun r1 locs hr1 hw => ?_) rfl
  rcases in_ix (x := what) (a := 0) (n := 11) (by decide) (by decide) hr1 with ⟨rfl, u, hu, hua, hun, rfl⟩ | ⟨rfl, hu⟩
  · refine jz_eq (tgt := 17) hx hb dX5_about_10 (by decide) (by omega) (fun c10 => absurd c10 (by omega)) (fun c10 => ?_)
    refine lv_iconst (v := (nI (0))) hx hb dX5_about_13 (by decide) ?_
    refine lv_goto (tgt := 18) hx hb dX5_about_14 (by decide) ?_
    refine j_Vi (n := 1) (As := [.int (nI (0))]) hx hb hml hown hts hw (j_recv hw hO rfl) (c_X5_refused l g z H0 M (0) x0 (nI (tx.length)) x3 x4 x5 (nI (hi.length)) x14 _ hzM hO (by first | assumption | omega)) gX5_about_X5_refused rfl (by decide +kernel) ⟨Nat.le_of_ble_eq_true rfl, Nat.le_of_ble_eq_true rfl⟩ rfl hl.1 (Nat.le_of_ble_eq_true rfl) ⟨Nat.zero_le _, Nat.zero_le _⟩ dX5_about_18 (fun r2 H locs hr2 hw hsz => ?_) rfl
    obtain ⟨hr2, hO, hf2⟩ := hr2
    obtain rfl : r2 = nI 0 := hr2
    have hO : jO g H M 5 [.int (nI (0)), .ref (M + 1), .int (nI (tx.length)), .int x3, .int x4, .int x5, .ref (M + 2), .ref (M + 3), .ref (M + 4), .ref (M + 5), .int (nI (hi.length)), .ref (M + 6), .ref (M + 7), .ref (M + 8), .int x14, .int (bI sn)] := hO
    have hSc := hSc.kept (hf2.2 _ (by omega))
    have hRd := hRd.kept (hf2.2 _ (by omega))
    have hA := hA.kept (hf2.2 _ (by omega))
    have hTr := hTr.kept (hf2.2 _ (by omega))
    have hDy := hDy.kept (hf2.2 _ (by omega))
    have hKp := hKp.kept (hf2.2 _ (by omega))
    have hIk := hIk.kept (hf2.2 _ (by omega))
    have hT8 := hT8.kept (hf2.2 _ (by omega))
    have hf := hf.step hf2 (by omega)
    refine jz_eq (tgt := 26) hx hb dX5_about_21 (by decide) (by omega) (fun c21 => ?_) (fun c21 => absurd c21 (by omega))
    refine lv_iload_n hx hb dX5_about_26 rfl (lv_at hl 1 rfl) ?_
    refine lv_bipush (v := (nI (6))) hx hb dX5_about_27 (by decide) ?_
    refine jn_ne (tgt := 37) hx hb dX5_about_29 (by decide) (by omega) (by omega) (fun c29 => ?_) (fun c29 => ?_)
    · refine lv_iload_n hx hb dX5_about_37 rfl (lv_at hl 1 rfl) ?_
      refine lv_bipush (v := (nI (8))) hx hb dX5_about_38 (by decide) ?_
      refine jn_ne (tgt := 51) hx hb dX5_about_40 (by decide) (by omega) (by omega) (fun c40 => ?_) (fun c40 => ?_)
      · refine lv_iload_n hx hb dX5_about_51 rfl (lv_at hl 1 rfl) ?_
        refine lv_bipush (v := (nI (6))) hx hb dX5_about_52 (by decide) ?_
        refine jn_ge (tgt := 68) hx hb dX5_about_54 (by decide) (by omega) (by omega) (fun c54 => ?_) (fun c54 => ?_)
        · refine lv_iload_n hx hb dX5_about_68 rfl (lv_at hl 1 rfl) ?_
          refine lv_bipush (v := (nI (7))) hx hb dX5_about_69 (by decide) ?_
          refine jn_ne (tgt := 84) hx hb dX5_about_71 (by decide) (by omega) (by omega) (fun c71 => ?_) (fun c71 => ?_)
          · refine lv_aload_n hx hb dX5_about_84 rfl (lv_at hl 0 rfl) ?_
            refine j_get (T := TX5) (N := 16) (k := 7) hx hb hts hinX5 hown hw hO rfl (by decide) (hts (.fieldLink RX5 16 "NightTrainsModel" "now" "[I") (by decide +kernel)) rfl dX5_about_85 ?_
            refine lv_bipush (v := (nI (12))) hx hb dX5_about_88 (by decide) ?_
            refine lv_iload_n hx hb dX5_about_90 rfl (lv_at hl 1 rfl) ?_
            refine j_addN hx hb dX5_about_91 ?_
            refine lv_bipush (v := (nI (9))) hx hb dX5_about_92 (by decide) ?_
            refine j_subN hx hb (by omega) dX5_about_94 ?_
            refine j_iald hx hb hw hA (k := ((12 + u) - 9)) rfl (by omega) (by omega) dX5_about_95 ?_
            refine j_eq (y := nI (σ.1 (12 + u - 9))) (hR.n _ (by omega)) ?_
            refine j_iret hx hb hr hlocks hH hw dX5_about_96 ?_
            have e9 : fAbout σ (nI (u)) = (0, nI (σ.1 (12 + u - 9))) := by simp only [fAbout, hu]; unfold abN; rw [if_neg c29, if_neg c40, if_neg (by omega), if_neg (by omega), if_neg c71]
            exact ⟨_, rfl, by rw [e9]; exact ⟨fun _ => rfl, ⟨x3, x4, x5, x14, sn, sc, rd, nw, tr, dy, kp, ik, tk, hO, hSc, hRd, hA, hTr, hDy, hKp, hIk, hT8, hMI⟩, hf⟩⟩
          · refine lv_aload_n hx hb dX5_about_74 rfl (lv_at hl 0 rfl) ?_
            refine j_get (T := TX5) (N := 16) (k := 7) hx hb hts hinX5 hown hw hO rfl (by decide) (hts (.fieldLink RX5 16 "NightTrainsModel" "now" "[I") (by decide +kernel)) rfl dX5_about_75 ?_
            refine lv_bipush (v := (nI (11))) hx hb dX5_about_78 (by decide) ?_
            refine j_iald hx hb hw hA (k := 11) rfl (by omega) (by omega) dX5_about_80 ?_
            refine j_eq (y := nI (σ.1 11)) (hR.n _ (by omega)) ?_
            refine lv_goto (tgt := 96) hx hb dX5_about_81 (by decide) ?_
            refine j_iret hx hb hr hlocks hH hw dX5_about_96 ?_
            have e9 : fAbout σ (nI (u)) = (0, nI (σ.1 11)) := by simp only [fAbout, hu]; unfold abN; rw [if_neg c29, if_neg c40, if_neg (by omega), if_neg (by omega), if_pos c71]
            exact ⟨_, rfl, by rw [e9]; exact ⟨fun _ => rfl, ⟨x3, x4, x5, x14, sn, sc, rd, nw, tr, dy, kp, ik, tk, hO, hSc, hRd, hA, hTr, hDy, hKp, hIk, hT8, hMI⟩, hf⟩⟩
        · refine lv_aload_n hx hb dX5_about_57 rfl (lv_at hl 0 rfl) ?_
          refine j_get (T := TX5) (N := 16) (k := 7) hx hb hts hinX5 hown hw hO rfl (by decide) (hts (.fieldLink RX5 16 "NightTrainsModel" "now" "[I") (by decide +kernel)) rfl dX5_about_58 ?_
          refine lv_iconst (v := (nI (5))) hx hb dX5_about_61 (by decide) ?_
          refine lv_iload_n hx hb dX5_about_62 rfl (lv_at hl 1 rfl) ?_
          refine j_addN hx hb dX5_about_63 ?_
          refine j_iald hx hb hw hA (k := (5 + u)) rfl (by omega) (by omega) dX5_about_64 ?_
          refine j_eq (y := nI (abN σ u)) (hR.ab (by omega)) ?_
          refine lv_goto (tgt := 96) hx hb dX5_about_65 (by decide) ?_
          refine j_iret hx hb hr hlocks hH hw dX5_about_96 ?_
          have e9 : fAbout σ (nI (u)) = (0, nI (abN σ u)) := by simp only [fAbout, hu]
          exact ⟨_, rfl, by rw [e9]; exact ⟨fun _ => rfl, ⟨x3, x4, x5, x14, sn, sc, rd, nw, tr, dy, kp, ik, tk, hO, hSc, hRd, hA, hTr, hDy, hKp, hIk, hT8, hMI⟩, hf⟩⟩
      · refine lv_aload_n hx hb dX5_about_43 rfl (lv_at hl 0 rfl) ?_
        refine j_get (T := TX5) (N := 16) (k := 7) hx hb hts hinX5 hown hw hO rfl (by decide) (hts (.fieldLink RX5 16 "NightTrainsModel" "now" "[I") (by decide +kernel)) rfl dX5_about_44 ?_
        refine j_Sp (n := 1) (As := [.ref (M + 3)]) hx hb hml hown hts hw (c_X5_fronts l g z H (M + 3) (σ) nw  hA hR hs) gX5_about_X5_fronts rfl (by decide +kernel) ⟨Nat.le_of_ble_eq_true rfl, Nat.le_of_ble_eq_true rfl⟩ rfl hl.1 (Nat.le_of_ble_eq_true rfl) ⟨Nat.zero_le _, Nat.zero_le _⟩ dX5_about_47 (fun r3 locs hr3 hw => ?_) rfl
        obtain rfl : r3 = (nI (fcnt (σ).1 16)) := hr3
        refine j_iret hx hb hr hlocks hH hw dX5_about_50 ?_
        have e9 : fAbout σ (nI (u)) = (0, nI (fcnt (σ).1 16)) := by simp only [fAbout, hu]; unfold abN; rw [if_neg c29, if_pos c40]
        exact ⟨_, rfl, by rw [e9]; exact ⟨fun _ => rfl, ⟨x3, x4, x5, x14, sn, sc, rd, nw, tr, dy, kp, ik, tk, hO, hSc, hRd, hA, hTr, hDy, hKp, hIk, hT8, hMI⟩, hf⟩⟩
    · refine lv_aload_n hx hb dX5_about_32 rfl (lv_at hl 0 rfl) ?_
      refine j_Vp (n := 0) (As := []) hx hb hml hown hts hw (j_recv hw hO rfl) (c_X5_held l g z H M (σ) nw (nI (0)) (nI (tx.length)) x3 x4 x5 (nI (hi.length)) x14 _  hO hA hR hs) gX5_about_X5_held rfl (by decide +kernel) ⟨Nat.le_of_ble_eq_true rfl, Nat.le_of_ble_eq_true rfl⟩ rfl hl.1 (Nat.le_of_ble_eq_true rfl) ⟨Nat.zero_le _, Nat.zero_le _⟩ dX5_about_33 (fun r4 locs hr4 hw => ?_) rfl
      obtain rfl : r4 = (nI (hsum (σ).2.2.1 16)) := hr4
      refine j_iret hx hb hr hlocks hH hw dX5_about_36 ?_
      have e9 : fAbout σ (nI (u)) = (0, nI (hsum (σ).2.2.1 16)) := by simp only [fAbout, hu]; unfold abN; rw [if_pos c29]
      exact ⟨_, rfl, by rw [e9]; exact ⟨fun _ => rfl, ⟨x3, x4, x5, x14, sn, sc, rd, nw, tr, dy, kp, ik, tk, hO, hSc, hRd, hA, hTr, hDy, hKp, hIk, hT8, hMI⟩, hf⟩⟩
  · refine jz_eq (tgt := 17) hx hb dX5_about_10 (by decide) (by omega) (fun c10 => ?_) (fun c10 => absurd c10 (by omega))
    refine lv_iconst (v := (nI (1))) hx hb dX5_about_17 (by decide) ?_
    refine j_Vi (n := 1) (As := [.int (nI (1))]) hx hb hml hown hts hw (j_recv hw hO rfl) (c_X5_refused l g z H0 M (1) x0 (nI (tx.length)) x3 x4 x5 (nI (hi.length)) x14 _ hzM hO (by first | assumption | omega)) gX5_about_X5_refused rfl (by decide +kernel) ⟨Nat.le_of_ble_eq_true rfl, Nat.le_of_ble_eq_true rfl⟩ rfl hl.1 (Nat.le_of_ble_eq_true rfl) ⟨Nat.zero_le _, Nat.zero_le _⟩ dX5_about_18 (fun r5 H locs hr5 hw hsz => ?_) rfl
    obtain ⟨hr5, hO, hf2⟩ := hr5
    obtain rfl : r5 = nI 1 := hr5
    have hO : jO g H M 5 [.int (nI (1)), .ref (M + 1), .int (nI (tx.length)), .int x3, .int x4, .int x5, .ref (M + 2), .ref (M + 3), .ref (M + 4), .ref (M + 5), .int (nI (hi.length)), .ref (M + 6), .ref (M + 7), .ref (M + 8), .int x14, .int (bI sn)] := hO
    have hSc := hSc.kept (hf2.2 _ (by omega))
    have hRd := hRd.kept (hf2.2 _ (by omega))
    have hA := hA.kept (hf2.2 _ (by omega))
    have hTr := hTr.kept (hf2.2 _ (by omega))
    have hDy := hDy.kept (hf2.2 _ (by omega))
    have hKp := hKp.kept (hf2.2 _ (by omega))
    have hIk := hIk.kept (hf2.2 _ (by omega))
    have hT8 := hT8.kept (hf2.2 _ (by omega))
    have hf := hf.step hf2 (by omega)
    refine jz_eq (tgt := 26) hx hb dX5_about_21 (by decide) (by omega) (fun c21 => absurd c21 (by omega)) (fun c21 => ?_)
    refine lv_iconst (v := (nI (0))) hx hb dX5_about_24 (by decide) ?_
    refine j_iret hx hb hr hlocks hH hw dX5_about_25 ?_
    have e9 : fAbout σ what = (1, 0) := by simp only [fAbout, hu]
    exact ⟨_, rfl, by rw [e9]; exact ⟨fun h9 => absurd h9 (Nat.succ_ne_zero _), ⟨x3, x4, x5, x14, sn, sc, rd, nw, tr, dy, kp, ik, tk, hO, hSc, hRd, hA, hTr, hDy, hKp, hIk, hT8, hMI⟩, hf⟩⟩

abbrev q_X5_clearText (g : jG) (H0 : Heap) (M : Nat) (x0 : Int32) (tx : List Nat) (σ : Sg) (hi : List Sg) (sv : Nat → Option Sg) : Option Value → Heap → Prop := jN (fun r H1 => r = nI tx.length ∧ MD g H1 M (nI 0) [] σ hi sv ∧ jF M 9 H0 H1)
set_option maxHeartbeats 4000000 in
set_option maxRecDepth 100000 in
theorem c_X5_clearText (l : Launch) (g : jG) (z : Nat) (H0 : Heap) (M : Nat) (x0 : Int32) (tx : List Nat) (σ : Sg) (hi : List Sg) (sv : Nat → Option Sg) (hzM : z ≤ M) (hMD : MD g H0 M x0 tx σ hi sv) : jM l g z yX5_clearText wsX5_clearText 0 0 [.ref M] H0 (q_X5_clearText g H0 M x0 tx σ hi sv) := by
  refine j_of (cc := cX5_clearText) (n := 2) (ret := some .int) (by decide) rfl (Nat.le_of_ble_eq_true rfl) ?_
  intro p e s m below meth c hx hb hr hml hown hts hlocks hname hH hw ls hl
  have hl : lv_has ls 2 [(0, .ref M)] := hl
  have hinX5 : ∀ w ∈ u_ws RX5 TX5 16, w ∈ wsX5_clearText := by decide +kernel
  have hf : jF M 9 H0 H0 := jF.rf
  obtain ⟨x3, x4, x5, x14, sn, sc, rd, nw, tr, dy, kp, ik, tk, hO, hSc, hRd, hA, hTr, hDy, hKp, hIk, hT8, hMI⟩ := hMD
  obtain ⟨htx, hsc, hR, hN, hhi, hdy, hkp⟩ := id hMI
  obtain ⟨hs, hcalm, h20⟩ := id hN
  refine lv_aload_n hx hb dX5_clearText_0 rfl (lv_at hl 0 rfl) ?_
  refine lv_iconst (v := (nI (0))) hx hb dX5_clearText_1 (by decide) ?_
  refine j_put (T := TX5) (N := 16) (k := 0) (ty := .int) hx hb hts hinX5 tyX5 tyX5_ok nmX5 hown hw hO hzM rfl (by decide) (hts (.fieldLink RX5 39 "NightTrainsModel" "refusal" "I") (by decide +kernel)) rfl (by decide +kernel) rfl rfl (Nat.le_of_ble_eq_true rfl) dX5_clearText_2 (fun H locs hw hO oq hsz => ?_)
  have hO : jO g H M 5 [.int _, .ref _, .int _, .int _, .int _, .int _, .ref _, .ref _, .ref _, .ref _, .int _, .ref _, .ref _, .ref _, .int _, .int _] := hO
  have hSc := hSc.kept (oq _ (by omega))
  have hRd := hRd.kept (oq _ (by omega))
  have hA := hA.kept (oq _ (by omega))
  have hTr := hTr.kept (oq _ (by omega))
  have hDy := hDy.kept (oq _ (by omega))
  have hKp := hKp.kept (oq _ (by omega))
  have hIk := hIk.kept (oq _ (by omega))
  have hT8 := hT8.kept (oq _ (by omega))
  have hf := hf.put oq hsz (by omega)
  refine lv_aload_n hx hb dX5_clearText_5 rfl (lv_at hl 0 rfl) ?_
  refine j_get (T := TX5) (N := 16) (k := 2) hx hb hts hinX5 hown hw hO rfl (by decide) (hts (.fieldLink RX5 115 "NightTrainsModel" "scriptSize" "I") (by decide +kernel)) rfl dX5_clearText_6 ?_
  refine lv_istore_n (lv' := [(1, .int _), (0, .ref _)]) hx hb dX5_clearText_9 rfl hl (by decide) rfl (fun ls hl => ?_)
  refine lv_aload_n hx hb dX5_clearText_10 rfl (lv_at hl 1 rfl) ?_
  refine lv_iconst (v := (nI (0))) hx hb dX5_clearText_11 (by decide) ?_
  refine j_put (T := TX5) (N := 16) (k := 2) (ty := .int) hx hb hts hinX5 tyX5 tyX5_ok nmX5 hown hw hO hzM rfl (by decide) (hts (.fieldLink RX5 115 "NightTrainsModel" "scriptSize" "I") (by decide +kernel)) rfl (by decide +kernel) rfl rfl (Nat.le_of_ble_eq_true rfl) dX5_clearText_12 (fun H locs hw hO oq hsz => ?_)
  have hO : jO g H M 5 [.int _, .ref _, .int _, .int _, .int _, .int _, .ref _, .ref _, .ref _, .ref _, .int _, .ref _, .ref _, .ref _, .int _, .int _] := hO
  have hSc := hSc.kept (oq _ (by omega))
  have hRd := hRd.kept (oq _ (by omega))
  have hA := hA.kept (oq _ (by omega))
  have hTr := hTr.kept (oq _ (by omega))
  have hDy := hDy.kept (oq _ (by omega))
  have hKp := hKp.kept (oq _ (by omega))
  have hIk := hIk.kept (oq _ (by omega))
  have hT8 := hT8.kept (oq _ (by omega))
  have hf := hf.put oq hsz (by omega)
  refine lv_iload_n hx hb dX5_clearText_15 rfl (lv_at hl 0 rfl) ?_
  refine j_iret hx hb hr hlocks hH hw dX5_clearText_16 ?_
  have hMI9 := hMI.text (tx' := []) (sc' := sc) (Nat.zero_le _) (fun i c h => by cases i <;> cases h)
  exact ⟨_, rfl, rfl, ⟨x3, x4, x5, x14, sn, sc, rd, nw, tr, dy, kp, ik, tk, hO, hSc, hRd, hA, hTr, hDy, hKp, hIk, hT8, hMI9⟩, hf⟩

abbrev q_X5_append (g : jG) (H0 : Heap) (M : Nat) (ac : Int32) (x0 : Int32) (tx : List Nat) (σ : Sg) (hi : List Sg) (sv : Nat → Option Sg) : Option Value → Heap → Prop := jN (fun r H1 => ((fAppend tx ac).1 = 0 → r = (fAppend tx ac).2.1) ∧ MD g H1 M (nI (fAppend tx ac).1) (fAppend tx ac).2.2 σ hi sv ∧ jF M 9 H0 H1)
set_option maxHeartbeats 4000000 in
set_option maxRecDepth 100000 in
theorem c_X5_append (l : Launch) (g : jG) (z : Nat) (H0 : Heap) (M : Nat) (ac : Int32) (x0 : Int32) (tx : List Nat) (σ : Sg) (hi : List Sg) (sv : Nat → Option Sg) (hzM : z ≤ M) (hMD : MD g H0 M x0 tx σ hi sv) : jM l g z yX5_append wsX5_append 1 25 [.ref M, .int ac] H0 (q_X5_append g H0 M ac x0 tx σ hi sv) := by
  refine j_of (cc := cX5_append) (n := 2) (ret := some .int) (by decide) rfl (Nat.le_of_ble_eq_true rfl) ?_
  intro p e s m below meth c hx hb hr hml hown hts hlocks hname hH hw ls hl
  have hl : lv_has ls 2 [(0, .ref M), (1, .int ac)] := hl
  have hinX5 : ∀ w ∈ u_ws RX5 TX5 16, w ∈ wsX5_append := by decide +kernel
  have hf : jF M 9 H0 H0 := jF.rf
  obtain ⟨x3, x4, x5, x14, sn, sc, rd, nw, tr, dy, kp, ik, tk, hO, hSc, hRd, hA, hTr, hDy, hKp, hIk, hT8, hMI⟩ := hMD
  obtain ⟨htx, hsc, hR, hN, hhi, hdy, hkp⟩ := id hMI
  obtain ⟨hs, hcalm, h20⟩ := id hN
  refine lv_aload_n hx hb dX5_append_0 rfl (lv_at hl 0 rfl) ?_
  refine lv_iload_n hx hb dX5_append_1 rfl (lv_at hl 1 rfl) ?_
  refine lv_i2l (v := ac.toInt64) hx hb dX5_append_2 rfl ?_
  refine lv_lconst (v := 0) hx hb dX5_append_3 (by decide) ?_
  refine lv_ldc2 (v := 255) hx hb hown (hts (.constantLong RX5 109 (255)) (by decide +kernel)) dX5_append_4 ?_
  refine j_Sp (n := 3) (As := [.long ac.toInt64, .long 0, .long 255]) hx hb hml hown hts hw (c_X5_in l g z H0 ac.toInt64 0 255   ) gX5_append_X5_in rfl (by decide +kernel) ⟨Nat.le_of_ble_eq_true rfl, Nat.le_of_ble_eq_true rfl⟩ rfl hl.1 (Nat.le_of_ble_eq_true rfl) ⟨Nat.zero_le _, Nat.zero_le _⟩ dX5_append_7 (fun r1 locs hr1 hw => ?_) rfl
  rcases in_ix (x := ac) (a := 0) (n := 256) (by decide) (by decide) hr1 with ⟨rfl, k, hk, hka, hkn, rfl⟩ | ⟨rfl, hk⟩
  · refine jz_ne (tgt := 17) hx hb dX5_append_10 (by decide) (by omega) (fun c10 => ?_) (fun c10 => absurd c10 (by omega))
    refine lv_aload_n hx hb dX5_append_17 rfl (lv_at hl 0 rfl) ?_
    refine j_get (T := TX5) (N := 16) (k := 2) hx hb hts hinX5 hown hw hO rfl (by decide) (hts (.fieldLink RX5 115 "NightTrainsModel" "scriptSize" "I") (by decide +kernel)) rfl dX5_append_18 ?_
    refine lv_bipush (v := (nI (120))) hx hb dX5_append_21 (by decide) ?_
    refine jn_ne (tgt := 30) hx hb dX5_append_23 (by decide) (by omega) (by omega) (fun c23 => ?_) (fun c23 => ?_)
    · refine lv_iconst (v := (nI (0))) hx hb dX5_append_30 (by decide) ?_
      refine j_Vi (n := 1) (As := [.int (nI (0))]) hx hb hml hown hts hw (j_recv hw hO rfl) (c_X5_refused l g z H0 M (0) x0 (nI (tx.length)) x3 x4 x5 (nI (hi.length)) x14 _ hzM hO (by first | assumption | omega)) gX5_append_X5_refused rfl (by decide +kernel) ⟨Nat.le_of_ble_eq_true rfl, Nat.le_of_ble_eq_true rfl⟩ rfl hl.1 (Nat.le_of_ble_eq_true rfl) ⟨Nat.zero_le _, Nat.zero_le _⟩ dX5_append_31 (fun r2 H locs hr2 hw hsz => ?_) rfl
      obtain ⟨hr2, hO, hf2⟩ := hr2
      obtain rfl : r2 = nI 0 := hr2
      have hO : jO g H M 5 [.int (nI (0)), .ref (M + 1), .int (nI (tx.length)), .int x3, .int x4, .int x5, .ref (M + 2), .ref (M + 3), .ref (M + 4), .ref (M + 5), .int (nI (hi.length)), .ref (M + 6), .ref (M + 7), .ref (M + 8), .int x14, .int (bI sn)] := hO
      have hSc := hSc.kept (hf2.2 _ (by omega))
      have hRd := hRd.kept (hf2.2 _ (by omega))
      have hA := hA.kept (hf2.2 _ (by omega))
      have hTr := hTr.kept (hf2.2 _ (by omega))
      have hDy := hDy.kept (hf2.2 _ (by omega))
      have hKp := hKp.kept (hf2.2 _ (by omega))
      have hIk := hIk.kept (hf2.2 _ (by omega))
      have hT8 := hT8.kept (hf2.2 _ (by omega))
      have hf := hf.step hf2 (by omega)
      refine jz_eq (tgt := 39) hx hb dX5_append_34 (by decide) (by omega) (fun c34 => ?_) (fun c34 => absurd c34 (by omega))
      refine lv_aload_n hx hb dX5_append_39 rfl (lv_at hl 0 rfl) ?_
      refine j_get (T := TX5) (N := 16) (k := 1) hx hb hts hinX5 hown hw hO rfl (by decide) (hts (.fieldLink RX5 7 "NightTrainsModel" "script" "[I") (by decide +kernel)) rfl dX5_append_40 ?_
      refine lv_aload_n hx hb dX5_append_43 rfl (lv_at hl 0 rfl) ?_
      refine j_get (T := TX5) (N := 16) (k := 2) hx hb hts hinX5 hown hw hO rfl (by decide) (hts (.fieldLink RX5 115 "NightTrainsModel" "scriptSize" "I") (by decide +kernel)) rfl dX5_append_44 ?_
      refine lv_iload_n hx hb dX5_append_47 rfl (lv_at hl 1 rfl) ?_
      refine j_iast hx hb hw hSc (by omega) (k := tx.length) rfl (by omega) (by omega) dX5_append_48 (fun H locs hw hSc oq hsz => ?_)
      obtain ⟨f3, ef3⟩ : ∃ y9, y9 = upd sc (tx.length) (nI (k)) := ⟨_, rfl⟩
      rw [← ef3] at hSc
      have hO := hO.kept (oq _ (by omega))
      have hRd := hRd.kept (oq _ (by omega))
      have hA := hA.kept (oq _ (by omega))
      have hTr := hTr.kept (oq _ (by omega))
      have hDy := hDy.kept (oq _ (by omega))
      have hKp := hKp.kept (oq _ (by omega))
      have hIk := hIk.kept (oq _ (by omega))
      have hT8 := hT8.kept (oq _ (by omega))
      have hf := hf.put oq hsz (by omega)
      refine lv_aload_n hx hb dX5_append_49 rfl (lv_at hl 0 rfl) ?_
      refine lv_dup hx hb dX5_append_50 rfl ?_
      refine j_get (T := TX5) (N := 16) (k := 2) hx hb hts hinX5 hown hw hO rfl (by decide) (hts (.fieldLink RX5 115 "NightTrainsModel" "scriptSize" "I") (by decide +kernel)) rfl dX5_append_51 ?_
      refine lv_iconst (v := (nI (1))) hx hb dX5_append_54 (by decide) ?_
      refine j_addN hx hb dX5_append_55 ?_
      refine j_put (T := TX5) (N := 16) (k := 2) (ty := .int) hx hb hts hinX5 tyX5 tyX5_ok nmX5 hown hw hO hzM rfl (by decide) (hts (.fieldLink RX5 115 "NightTrainsModel" "scriptSize" "I") (by decide +kernel)) rfl (by decide +kernel) rfl rfl (Nat.le_of_ble_eq_true rfl) dX5_append_56 (fun H locs hw hO oq hsz => ?_)
      have hO : jO g H M 5 [.int _, .ref _, .int _, .int _, .int _, .int _, .ref _, .ref _, .ref _, .ref _, .int _, .ref _, .ref _, .ref _, .int _, .int _] := hO
      have hSc := hSc.kept (oq _ (by omega))
      have hRd := hRd.kept (oq _ (by omega))
      have hA := hA.kept (oq _ (by omega))
      have hTr := hTr.kept (oq _ (by omega))
      have hDy := hDy.kept (oq _ (by omega))
      have hKp := hKp.kept (oq _ (by omega))
      have hIk := hIk.kept (oq _ (by omega))
      have hT8 := hT8.kept (oq _ (by omega))
      have hf := hf.put oq hsz (by omega)
      refine lv_aload_n hx hb dX5_append_59 rfl (lv_at hl 0 rfl) ?_
      refine j_get (T := TX5) (N := 16) (k := 2) hx hb hts hinX5 hown hw hO rfl (by decide) (hts (.fieldLink RX5 115 "NightTrainsModel" "scriptSize" "I") (by decide +kernel)) rfl dX5_append_60 ?_
      refine j_iret hx hb hr hlocks hH hw dX5_append_63 ?_
      have e9 : fAppend tx (nI k) = (0, nI (tx.length + 1), tx ++ [k]) := by simp only [fAppend, hk]; exact if_neg c23
      have hMI9 := hMI.text (tx' := tx ++ [k]) (sc' := f3) (by rw [List.length_append]; show tx.length + 1 ≤ 120; omega) (by rw [ef3]; exact tIs_add hsc hkn)
      have hO := (show jO g H M 5 [.int (nI (0)), .ref (M + 1), .int (nI (tx ++ [k]).length), .int x3, .int x4, .int x5, .ref (M + 2), .ref (M + 3), .ref (M + 4), .ref (M + 5), .int (nI (hi.length)), .ref (M + 6), .ref (M + 7), .ref (M + 8), .int x14, .int (bI sn)] from (by rw [List.length_append]; exact hO))
      exact ⟨_, rfl, by rw [e9]; exact ⟨fun _ => rfl, ⟨x3, x4, x5, x14, sn, f3, rd, nw, tr, dy, kp, ik, tk, hO, hSc, hRd, hA, hTr, hDy, hKp, hIk, hT8, hMI9⟩, hf⟩⟩
    · refine lv_iconst (v := (nI (2))) hx hb dX5_append_26 (by decide) ?_
      refine lv_goto (tgt := 31) hx hb dX5_append_27 (by decide) ?_
      refine j_Vi (n := 1) (As := [.int (nI (2))]) hx hb hml hown hts hw (j_recv hw hO rfl) (c_X5_refused l g z H0 M (2) x0 (nI (tx.length)) x3 x4 x5 (nI (hi.length)) x14 _ hzM hO (by first | assumption | omega)) gX5_append_X5_refused rfl (by decide +kernel) ⟨Nat.le_of_ble_eq_true rfl, Nat.le_of_ble_eq_true rfl⟩ rfl hl.1 (Nat.le_of_ble_eq_true rfl) ⟨Nat.zero_le _, Nat.zero_le _⟩ dX5_append_31 (fun r4 H locs hr4 hw hsz => ?_) rfl
      obtain ⟨hr4, hO, hf2⟩ := hr4
      obtain rfl : r4 = nI 1 := hr4
      have hO : jO g H M 5 [.int (nI (2)), .ref (M + 1), .int (nI (tx.length)), .int x3, .int x4, .int x5, .ref (M + 2), .ref (M + 3), .ref (M + 4), .ref (M + 5), .int (nI (hi.length)), .ref (M + 6), .ref (M + 7), .ref (M + 8), .int x14, .int (bI sn)] := hO
      have hSc := hSc.kept (hf2.2 _ (by omega))
      have hRd := hRd.kept (hf2.2 _ (by omega))
      have hA := hA.kept (hf2.2 _ (by omega))
      have hTr := hTr.kept (hf2.2 _ (by omega))
      have hDy := hDy.kept (hf2.2 _ (by omega))
      have hKp := hKp.kept (hf2.2 _ (by omega))
      have hIk := hIk.kept (hf2.2 _ (by omega))
      have hT8 := hT8.kept (hf2.2 _ (by omega))
      have hf := hf.step hf2 (by omega)
      refine jz_eq (tgt := 39) hx hb dX5_append_34 (by decide) (by omega) (fun c34 => absurd c34 (by omega)) (fun c34 => ?_)
      refine lv_iconst (v := (nI (0))) hx hb dX5_append_37 (by decide) ?_
      refine j_iret hx hb hr hlocks hH hw dX5_append_38 ?_
      have e9 : fAppend tx (nI k) = (2, 0, tx) := by simp only [fAppend, hk]; exact if_pos c23
      exact ⟨_, rfl, by rw [e9]; exact ⟨fun h9 => absurd h9 (Nat.succ_ne_zero _), ⟨x3, x4, x5, x14, sn, sc, rd, nw, tr, dy, kp, ik, tk, hO, hSc, hRd, hA, hTr, hDy, hKp, hIk, hT8, hMI⟩, hf⟩⟩
  · refine jz_ne (tgt := 17) hx hb dX5_append_10 (by decide) (by omega) (fun c10 => absurd c10 (by omega)) (fun c10 => ?_)
    refine lv_iconst (v := (nI (1))) hx hb dX5_append_13 (by decide) ?_
    refine lv_goto (tgt := 31) hx hb dX5_append_14 (by decide) ?_
    refine j_Vi (n := 1) (As := [.int (nI (1))]) hx hb hml hown hts hw (j_recv hw hO rfl) (c_X5_refused l g z H0 M (1) x0 (nI (tx.length)) x3 x4 x5 (nI (hi.length)) x14 _ hzM hO (by first | assumption | omega)) gX5_append_X5_refused rfl (by decide +kernel) ⟨Nat.le_of_ble_eq_true rfl, Nat.le_of_ble_eq_true rfl⟩ rfl hl.1 (Nat.le_of_ble_eq_true rfl) ⟨Nat.zero_le _, Nat.zero_le _⟩ dX5_append_31 (fun r5 H locs hr5 hw hsz => ?_) rfl
    obtain ⟨hr5, hO, hf2⟩ := hr5
    obtain rfl : r5 = nI 1 := hr5
    have hO : jO g H M 5 [.int (nI (1)), .ref (M + 1), .int (nI (tx.length)), .int x3, .int x4, .int x5, .ref (M + 2), .ref (M + 3), .ref (M + 4), .ref (M + 5), .int (nI (hi.length)), .ref (M + 6), .ref (M + 7), .ref (M + 8), .int x14, .int (bI sn)] := hO
    have hSc := hSc.kept (hf2.2 _ (by omega))
    have hRd := hRd.kept (hf2.2 _ (by omega))
    have hA := hA.kept (hf2.2 _ (by omega))
    have hTr := hTr.kept (hf2.2 _ (by omega))
    have hDy := hDy.kept (hf2.2 _ (by omega))
    have hKp := hKp.kept (hf2.2 _ (by omega))
    have hIk := hIk.kept (hf2.2 _ (by omega))
    have hT8 := hT8.kept (hf2.2 _ (by omega))
    have hf := hf.step hf2 (by omega)
    refine jz_eq (tgt := 39) hx hb dX5_append_34 (by decide) (by omega) (fun c34 => absurd c34 (by omega)) (fun c34 => ?_)
    refine lv_iconst (v := (nI (0))) hx hb dX5_append_37 (by decide) ?_
    refine j_iret hx hb hr hlocks hH hw dX5_append_38 ?_
    have e9 : fAppend tx ac = (1, 0, tx) := by simp only [fAppend, hk]
    exact ⟨_, rfl, by rw [e9]; exact ⟨fun h9 => absurd h9 (Nat.succ_ne_zero _), ⟨x3, x4, x5, x14, sn, sc, rd, nw, tr, dy, kp, ik, tk, hO, hSc, hRd, hA, hTr, hDy, hKp, hIk, hT8, hMI⟩, hf⟩⟩

abbrev q_X5_would (g : jG) (H0 : Heap) (M : Nat) (an : Int32) (what : Int32) (x0 : Int32) (tx : List Nat) (σ : Sg) (hi : List Sg) (sv : Nat → Option Sg) : Option Value → Heap → Prop := jN (fun r H1 => ((fWould σ an what).1 = 0 → r = (fWould σ an what).2) ∧ MD g H1 M (nI (fWould σ an what).1) tx σ hi sv ∧ jF M 9 H0 H1)
set_option maxHeartbeats 4000000 in
set_option maxRecDepth 100000 in
theorem c_X5_would (l : Launch) (g : jG) (z : Nat) (H0 : Heap) (M : Nat) (an : Int32) (what : Int32) (x0 : Int32) (tx : List Nat) (σ : Sg) (hi : List Sg) (sv : Nat → Option Sg) (hzM : z ≤ M) (hMD : MD g H0 M x0 tx σ hi sv) : jM l g z yX5_would wsX5_would 5 119 [.ref M, .int an, .int what] H0 (q_X5_would g H0 M an what x0 tx σ hi sv) := by
  refine j_of (cc := cX5_would) (n := 4) (ret := some .int) (by decide) rfl (Nat.le_of_ble_eq_true rfl) ?_
  intro p e s m below meth c hx hb hr hml hown hts hlocks hname hH hw ls hl
  have hl : lv_has ls 4 [(0, .ref M), (1, .int an), (2, .int what)] := hl
  have hinX5 : ∀ w ∈ u_ws RX5 TX5 16, w ∈ wsX5_would := by decide +kernel
  have hf : jF M 9 H0 H0 := jF.rf
  obtain ⟨x3, x4, x5, x14, sn, sc, rd, nw, tr, dy, kp, ik, tk, hO, hSc, hRd, hA, hTr, hDy, hKp, hIk, hT8, hMI⟩ := hMD
  obtain ⟨htx, hsc, hR, hN, hhi, hdy, hkp⟩ := id hMI
  obtain ⟨hs, hcalm, h20⟩ := id hN
  refine lv_aload_n hx hb dX5_would_0 rfl (lv_at hl 0 rfl) ?_
  refine lv_iload_n hx hb dX5_would_1 rfl (lv_at hl 1 rfl) ?_
  refine lv_i2l (v := an.toInt64) hx hb dX5_would_2 rfl ?_
  refine lv_lconst (v := 0) hx hb dX5_would_3 (by decide) ?_
  refine lv_ldc2 (v := 60) hx hb hown (hts (.constantLong RX5 235 (60)) (by decide +kernel)) dX5_would_4 ?_
  refine j_Sp (n := 3) (As := [.long an.toInt64, .long 0, .long 60]) hx hb hml hown hts hw (c_X5_in l g z H0 an.toInt64 0 60   ) gX5_would_X5_in rfl (by decide +kernel) ⟨Nat.le_of_ble_eq_true rfl, Nat.le_of_ble_eq_true rfl⟩ rfl hl.1 (Nat.le_of_ble_eq_true rfl) ⟨Nat.zero_le _, Nat.zero_le _⟩ dX5_would_7 (fun r1 locs hr1 hw => ?_) rfl
  rcases in_ix (x := an) (a := 0) (n := 61) (by decide) (by decide) hr1 with ⟨rfl, k, hk, hka, hkn, rfl⟩ | ⟨rfl, hk⟩
  · refine jz_eq (tgt := 29) hx hb dX5_would_10 (by decide) (by omega) (fun c10 => absurd c10 (by omega)) (fun c10 => ?_)
    refine lv_iload_n hx hb dX5_would_13 rfl (lv_at hl 2 rfl) ?_
    refine lv_i2l (v := what.toInt64) hx hb dX5_would_14 rfl ?_
    refine lv_lconst (v := 0) hx hb dX5_would_15 (by decide) ?_
    refine lv_ldc2 (v := 3) hx hb hown (hts (.constantLong RX5 190 (3)) (by decide +kernel)) dX5_would_16 ?_
    refine j_Sp (n := 3) (As := [.long what.toInt64, .long 0, .long 3]) hx hb hml hown hts hw (c_X5_in l g z H0 what.toInt64 0 3   ) gX5_would_X5_in rfl (by decide +kernel) ⟨Nat.le_of_ble_eq_true rfl, Nat.le_of_ble_eq_true rfl⟩ rfl hl.1 (Nat.le_of_ble_eq_true rfl) ⟨Nat.zero_le _, Nat.zero_le _⟩ dX5_would_19 (fun r2 locs hr2 hw => ?_) rfl
    rcases in_ix (x := what) (a := 0) (n := 4) (by decide) (by decide) hr2 with ⟨rfl, u, hu, hua, hun, rfl⟩ | ⟨rfl, hu⟩
    · refine jz_eq (tgt := 29) hx hb dX5_would_22 (by decide) (by omega) (fun c22 => absurd c22 (by omega)) (fun c22 => ?_)
      refine lv_iconst (v := (nI (0))) hx hb dX5_would_25 (by decide) ?_
      refine lv_goto (tgt := 30) hx hb dX5_would_26 (by decide) ?_
      refine j_Vi (n := 1) (As := [.int (nI (0))]) hx hb hml hown hts hw (j_recv hw hO rfl) (c_X5_refused l g z H0 M (0) x0 (nI (tx.length)) x3 x4 x5 (nI (hi.length)) x14 _ hzM hO (by first | assumption | omega)) gX5_would_X5_refused rfl (by decide +kernel) ⟨Nat.le_of_ble_eq_true rfl, Nat.le_of_ble_eq_true rfl⟩ rfl hl.1 (Nat.le_of_ble_eq_true rfl) ⟨Nat.zero_le _, Nat.zero_le _⟩ dX5_would_30 (fun r3 H locs hr3 hw hsz => ?_) rfl
      obtain ⟨hr3, hO, hf2⟩ := hr3
      obtain rfl : r3 = nI 0 := hr3
      have hO : jO g H M 5 [.int (nI (0)), .ref (M + 1), .int (nI (tx.length)), .int x3, .int x4, .int x5, .ref (M + 2), .ref (M + 3), .ref (M + 4), .ref (M + 5), .int (nI (hi.length)), .ref (M + 6), .ref (M + 7), .ref (M + 8), .int x14, .int (bI sn)] := hO
      have hSc := hSc.kept (hf2.2 _ (by omega))
      have hRd := hRd.kept (hf2.2 _ (by omega))
      have hA := hA.kept (hf2.2 _ (by omega))
      have hTr := hTr.kept (hf2.2 _ (by omega))
      have hDy := hDy.kept (hf2.2 _ (by omega))
      have hKp := hKp.kept (hf2.2 _ (by omega))
      have hIk := hIk.kept (hf2.2 _ (by omega))
      have hT8 := hT8.kept (hf2.2 _ (by omega))
      have hf := hf.step hf2 (by omega)
      refine jz_eq (tgt := 38) hx hb dX5_would_33 (by decide) (by omega) (fun c33 => ?_) (fun c33 => absurd c33 (by omega))
      refine lv_aload_n hx hb dX5_would_38 rfl (lv_at hl 0 rfl) ?_
      refine j_Vv (n := 0) (As := []) hx hb hml hown hts hw (j_recv hw hO rfl) (c_X5_tryIt l g z H M (σ) nw tr (nI (0)) (nI (tx.length)) x3 x4 x5 (nI (hi.length)) x14 _ hzM hTr hO hA hR hs) gX5_would_X5_tryIt rfl (by decide +kernel) ⟨Nat.le_of_ble_eq_true rfl, Nat.le_of_ble_eq_true rfl⟩ rfl hl.1 (Nat.le_of_ble_eq_true rfl) ⟨Nat.zero_le _, Nat.zero_le _⟩ dX5_would_39 (fun H locs hr4 hw hsz => ?_) rfl
      obtain ⟨⟨f5, hTr, hRt⟩, hst, hf2⟩ := hr4
      have hO := hO.kept (hf2.2 _ (by omega))
      have hSc := hSc.kept (hf2.2 _ (by omega))
      have hRd := hRd.kept (hf2.2 _ (by omega))
      have hA := hA.kept (hf2.2 _ (by omega))
      have hDy := hDy.kept (hf2.2 _ (by omega))
      have hKp := hKp.kept (hf2.2 _ (by omega))
      have hIk := hIk.kept (hf2.2 _ (by omega))
      have hT8 := hT8.kept (hf2.2 _ (by omega))
      have hf := hf.step hf2 (by omega)
      refine lv_aload_n hx hb dX5_would_42 rfl (lv_at hl 0 rfl) ?_
      refine lv_aload_n hx hb dX5_would_43 rfl (lv_at hl 0 rfl) ?_
      refine j_get (T := TX5) (N := 16) (k := 8) hx hb hts hinX5 hown hw hO rfl (by decide) (hts (.fieldLink RX5 19 "NightTrainsModel" "trial" "[I") (by decide +kernel)) rfl dX5_would_44 ?_
      refine lv_iload_n hx hb dX5_would_47 rfl (lv_at hl 1 rfl) ?_
      refine j_Vi (n := 2) (As := [.ref (M + 4), .int (nI (k))]) hx hb hml hown hts hw (j_recv hw hO rfl) (c_X5_nightsIn l g z H M (M + 4) (k) (((σ))) f5 (nI (0)) (nI (tx.length)) x3 x4 x5 (nI (hi.length)) x14 _ tk hzM (by omega) (by omega) hO hTr hT8 hRt hst hcalm (by omega)) gX5_would_X5_nightsIn rfl (by decide +kernel) ⟨Nat.le_of_ble_eq_true rfl, Nat.le_of_ble_eq_true rfl⟩ rfl hl.1 (Nat.le_of_ble_eq_true rfl) ⟨Nat.zero_le _, Nat.zero_le _⟩ dX5_would_48 (fun r6 H locs hr6 hw hsz => ?_) rfl
      obtain ⟨hr6, ⟨⟨f7, hTr, hRt⟩, hst, hf2⟩, y9, b10, tk8, hO, hT8⟩ := hr6
      have hSc := hSc.kept (hf2.2 _ (by omega) (by omega) (by omega))
      have hRd := hRd.kept (hf2.2 _ (by omega) (by omega) (by omega))
      have hA := hA.kept (hf2.2 _ (by omega) (by omega) (by omega))
      have hDy := hDy.kept (hf2.2 _ (by omega) (by omega) (by omega))
      have hKp := hKp.kept (hf2.2 _ (by omega) (by omega) (by omega))
      have hIk := hIk.kept (hf2.2 _ (by omega) (by omega) (by omega))
      have hf := hf.three hf2 (by omega) (by omega) (by omega)
      refine lv_pop hx hb dX5_would_51 rfl ?_
      refine lv_iload_n hx hb dX5_would_52 rfl (lv_at hl 2 rfl) ?_
      refine jz_ne (tgt := 61) hx hb dX5_would_53 (by decide) (by omega) (fun c53 => ?_) (fun c53 => ?_)
      · refine lv_iload_n hx hb dX5_would_61 rfl (lv_at hl 2 rfl) ?_
        refine lv_iconst (v := (nI (1))) hx hb dX5_would_62 (by decide) ?_
        refine jn_ne (tgt := 71) hx hb dX5_would_63 (by decide) (by omega) (by omega) (fun c63 => ?_) (fun c63 => ?_)
        · refine lv_iload_n hx hb dX5_would_71 rfl (lv_at hl 2 rfl) ?_
          refine lv_iconst (v := (nI (2))) hx hb dX5_would_72 (by decide) ?_
          refine jn_ne (tgt := 81) hx hb dX5_would_73 (by decide) (by omega) (by omega) (fun c73 => ?_) (fun c73 => ?_)
          · refine lv_bipush (v := (nI (12))) hx hb dX5_would_81 (by decide) ?_
            refine lv_istore_n (lv' := [(3, .int _), (0, .ref _), (1, .int _), (2, .int _)]) hx hb dX5_would_83 rfl hl (by decide) rfl (fun ls hl => ?_)
            refine lv_aload_n hx hb dX5_would_84 rfl (lv_at hl 1 rfl) ?_
            refine j_get (T := TX5) (N := 16) (k := 8) hx hb hts hinX5 hown hw hO rfl (by decide) (hts (.fieldLink RX5 19 "NightTrainsModel" "trial" "[I") (by decide +kernel)) rfl dX5_would_85 ?_
            refine lv_iload_n hx hb dX5_would_88 rfl (lv_at hl 0 rfl) ?_
            refine j_iald hx hb hw hTr (k := 12) rfl (by omega) (by omega) dX5_would_89 ?_
            refine j_eq (y := (nI ((nightsS k σ).1 12))) (hRt.n 12 (by omega)) ?_
            refine lv_aload_n hx hb dX5_would_90 rfl (lv_at hl 1 rfl) ?_
            refine j_get (T := TX5) (N := 16) (k := 7) hx hb hts hinX5 hown hw hO rfl (by decide) (hts (.fieldLink RX5 16 "NightTrainsModel" "now" "[I") (by decide +kernel)) rfl dX5_would_91 ?_
            refine lv_iload_n hx hb dX5_would_94 rfl (lv_at hl 0 rfl) ?_
            refine j_iald hx hb hw hA (k := 12) rfl (by omega) (by omega) dX5_would_95 ?_
            refine j_eq (y := (nI (σ.1 12))) (hR.n 12 (by omega)) ?_
            refine lv_isub hx hb dX5_would_96 ?_
            refine j_iret hx hb hr hlocks hH hw dX5_would_97 ?_
            have e9 : fWould σ (nI (k)) (nI (u)) = (0, nI ((nightsS k σ).1 12) - nI (σ.1 12)) := by simp only [fWould, hk, hu]; obtain rfl : u = 3 := (by omega); rfl
            exact ⟨_, rfl, by rw [e9]; exact ⟨fun _ => rfl, ⟨x3, x4, x5, y9, b10, sc, rd, nw, f7, dy, kp, ik, tk8, hO, hSc, hRd, hA, hTr, hDy, hKp, hIk, hT8, hMI⟩, hf⟩⟩
          · refine lv_bipush (v := (nI (10))) hx hb dX5_would_76 (by decide) ?_
            refine lv_goto (tgt := 83) hx hb dX5_would_78 (by decide) ?_
            refine lv_istore_n (lv' := [(3, .int _), (0, .ref _), (1, .int _), (2, .int _)]) hx hb dX5_would_83 rfl hl (by decide) rfl (fun ls hl => ?_)
            refine lv_aload_n hx hb dX5_would_84 rfl (lv_at hl 1 rfl) ?_
            refine j_get (T := TX5) (N := 16) (k := 8) hx hb hts hinX5 hown hw hO rfl (by decide) (hts (.fieldLink RX5 19 "NightTrainsModel" "trial" "[I") (by decide +kernel)) rfl dX5_would_85 ?_
            refine lv_iload_n hx hb dX5_would_88 rfl (lv_at hl 0 rfl) ?_
            refine j_iald hx hb hw hTr (k := 10) rfl (by omega) (by omega) dX5_would_89 ?_
            refine j_eq (y := (nI ((nightsS k σ).1 10))) (hRt.n 10 (by omega)) ?_
            refine lv_aload_n hx hb dX5_would_90 rfl (lv_at hl 1 rfl) ?_
            refine j_get (T := TX5) (N := 16) (k := 7) hx hb hts hinX5 hown hw hO rfl (by decide) (hts (.fieldLink RX5 16 "NightTrainsModel" "now" "[I") (by decide +kernel)) rfl dX5_would_91 ?_
            refine lv_iload_n hx hb dX5_would_94 rfl (lv_at hl 0 rfl) ?_
            refine j_iald hx hb hw hA (k := 10) rfl (by omega) (by omega) dX5_would_95 ?_
            refine j_eq (y := (nI (σ.1 10))) (hR.n 10 (by omega)) ?_
            refine lv_isub hx hb dX5_would_96 ?_
            refine j_iret hx hb hr hlocks hH hw dX5_would_97 ?_
            have e9 : fWould σ (nI (k)) (nI (u)) = (0, nI ((nightsS k σ).1 10) - nI (σ.1 10)) := by simp only [fWould, hk, hu]; obtain rfl : u = 2 := (by omega); rfl
            exact ⟨_, rfl, by rw [e9]; exact ⟨fun _ => rfl, ⟨x3, x4, x5, y9, b10, sc, rd, nw, f7, dy, kp, ik, tk8, hO, hSc, hRd, hA, hTr, hDy, hKp, hIk, hT8, hMI⟩, hf⟩⟩
        · refine lv_bipush (v := (nI (8))) hx hb dX5_would_66 (by decide) ?_
          refine lv_goto (tgt := 83) hx hb dX5_would_68 (by decide) ?_
          refine lv_istore_n (lv' := [(3, .int _), (0, .ref _), (1, .int _), (2, .int _)]) hx hb dX5_would_83 rfl hl (by decide) rfl (fun ls hl => ?_)
          refine lv_aload_n hx hb dX5_would_84 rfl (lv_at hl 1 rfl) ?_
          refine j_get (T := TX5) (N := 16) (k := 8) hx hb hts hinX5 hown hw hO rfl (by decide) (hts (.fieldLink RX5 19 "NightTrainsModel" "trial" "[I") (by decide +kernel)) rfl dX5_would_85 ?_
          refine lv_iload_n hx hb dX5_would_88 rfl (lv_at hl 0 rfl) ?_
          refine j_iald hx hb hw hTr (k := 8) rfl (by omega) (by omega) dX5_would_89 ?_
          refine j_eq (y := (nI ((nightsS k σ).1 8))) (hRt.n 8 (by omega)) ?_
          refine lv_aload_n hx hb dX5_would_90 rfl (lv_at hl 1 rfl) ?_
          refine j_get (T := TX5) (N := 16) (k := 7) hx hb hts hinX5 hown hw hO rfl (by decide) (hts (.fieldLink RX5 16 "NightTrainsModel" "now" "[I") (by decide +kernel)) rfl dX5_would_91 ?_
          refine lv_iload_n hx hb dX5_would_94 rfl (lv_at hl 0 rfl) ?_
          refine j_iald hx hb hw hA (k := 8) rfl (by omega) (by omega) dX5_would_95 ?_
          refine j_eq (y := (nI (σ.1 8))) (hR.n 8 (by omega)) ?_
          refine lv_isub hx hb dX5_would_96 ?_
          refine j_iret hx hb hr hlocks hH hw dX5_would_97 ?_
          have e9 : fWould σ (nI (k)) (nI (u)) = (0, nI ((nightsS k σ).1 8) - nI (σ.1 8)) := by simp only [fWould, hk, hu]; obtain rfl : u = 1 := (by omega); rfl
          exact ⟨_, rfl, by rw [e9]; exact ⟨fun _ => rfl, ⟨x3, x4, x5, y9, b10, sc, rd, nw, f7, dy, kp, ik, tk8, hO, hSc, hRd, hA, hTr, hDy, hKp, hIk, hT8, hMI⟩, hf⟩⟩
      · refine lv_bipush (v := (nI (7))) hx hb dX5_would_56 (by decide) ?_
        refine lv_goto (tgt := 83) hx hb dX5_would_58 (by decide) ?_
        refine lv_istore_n (lv' := [(3, .int _), (0, .ref _), (1, .int _), (2, .int _)]) hx hb dX5_would_83 rfl hl (by decide) rfl (fun ls hl => ?_)
        refine lv_aload_n hx hb dX5_would_84 rfl (lv_at hl 1 rfl) ?_
        refine j_get (T := TX5) (N := 16) (k := 8) hx hb hts hinX5 hown hw hO rfl (by decide) (hts (.fieldLink RX5 19 "NightTrainsModel" "trial" "[I") (by decide +kernel)) rfl dX5_would_85 ?_
        refine lv_iload_n hx hb dX5_would_88 rfl (lv_at hl 0 rfl) ?_
        refine j_iald hx hb hw hTr (k := 7) rfl (by omega) (by omega) dX5_would_89 ?_
        refine j_eq (y := (nI ((nightsS k σ).1 7))) (hRt.n 7 (by omega)) ?_
        refine lv_aload_n hx hb dX5_would_90 rfl (lv_at hl 1 rfl) ?_
        refine j_get (T := TX5) (N := 16) (k := 7) hx hb hts hinX5 hown hw hO rfl (by decide) (hts (.fieldLink RX5 16 "NightTrainsModel" "now" "[I") (by decide +kernel)) rfl dX5_would_91 ?_
        refine lv_iload_n hx hb dX5_would_94 rfl (lv_at hl 0 rfl) ?_
        refine j_iald hx hb hw hA (k := 7) rfl (by omega) (by omega) dX5_would_95 ?_
        refine j_eq (y := (nI (σ.1 7))) (hR.n 7 (by omega)) ?_
        refine lv_isub hx hb dX5_would_96 ?_
        refine j_iret hx hb hr hlocks hH hw dX5_would_97 ?_
        have e9 : fWould σ (nI (k)) (nI (u)) = (0, nI ((nightsS k σ).1 7) - nI (σ.1 7)) := by simp only [fWould, hk, hu]; obtain rfl : u = 0 := (by omega); rfl
        exact ⟨_, rfl, by rw [e9]; exact ⟨fun _ => rfl, ⟨x3, x4, x5, y9, b10, sc, rd, nw, f7, dy, kp, ik, tk8, hO, hSc, hRd, hA, hTr, hDy, hKp, hIk, hT8, hMI⟩, hf⟩⟩
    · refine jz_eq (tgt := 29) hx hb dX5_would_22 (by decide) (by omega) (fun c22 => ?_) (fun c22 => absurd c22 (by omega))
      refine lv_iconst (v := (nI (1))) hx hb dX5_would_29 (by decide) ?_
      refine j_Vi (n := 1) (As := [.int (nI (1))]) hx hb hml hown hts hw (j_recv hw hO rfl) (c_X5_refused l g z H0 M (1) x0 (nI (tx.length)) x3 x4 x5 (nI (hi.length)) x14 _ hzM hO (by first | assumption | omega)) gX5_would_X5_refused rfl (by decide +kernel) ⟨Nat.le_of_ble_eq_true rfl, Nat.le_of_ble_eq_true rfl⟩ rfl hl.1 (Nat.le_of_ble_eq_true rfl) ⟨Nat.zero_le _, Nat.zero_le _⟩ dX5_would_30 (fun r11 H locs hr11 hw hsz => ?_) rfl
      obtain ⟨hr11, hO, hf2⟩ := hr11
      obtain rfl : r11 = nI 1 := hr11
      have hO : jO g H M 5 [.int (nI (1)), .ref (M + 1), .int (nI (tx.length)), .int x3, .int x4, .int x5, .ref (M + 2), .ref (M + 3), .ref (M + 4), .ref (M + 5), .int (nI (hi.length)), .ref (M + 6), .ref (M + 7), .ref (M + 8), .int x14, .int (bI sn)] := hO
      have hSc := hSc.kept (hf2.2 _ (by omega))
      have hRd := hRd.kept (hf2.2 _ (by omega))
      have hA := hA.kept (hf2.2 _ (by omega))
      have hTr := hTr.kept (hf2.2 _ (by omega))
      have hDy := hDy.kept (hf2.2 _ (by omega))
      have hKp := hKp.kept (hf2.2 _ (by omega))
      have hIk := hIk.kept (hf2.2 _ (by omega))
      have hT8 := hT8.kept (hf2.2 _ (by omega))
      have hf := hf.step hf2 (by omega)
      refine jz_eq (tgt := 38) hx hb dX5_would_33 (by decide) (by omega) (fun c33 => absurd c33 (by omega)) (fun c33 => ?_)
      refine lv_iconst (v := (nI (0))) hx hb dX5_would_36 (by decide) ?_
      refine j_iret hx hb hr hlocks hH hw dX5_would_37 ?_
      have e9 : fWould σ (nI (k)) what = (1, 0) := by simp only [fWould, hk, hu]
      exact ⟨_, rfl, by rw [e9]; exact ⟨fun h9 => absurd h9 (Nat.succ_ne_zero _), ⟨x3, x4, x5, x14, sn, sc, rd, nw, tr, dy, kp, ik, tk, hO, hSc, hRd, hA, hTr, hDy, hKp, hIk, hT8, hMI⟩, hf⟩⟩
  · refine jz_eq (tgt := 29) hx hb dX5_would_10 (by decide) (by omega) (fun c10 => ?_) (fun c10 => absurd c10 (by omega))
    refine lv_iconst (v := (nI (1))) hx hb dX5_would_29 (by decide) ?_
    refine j_Vi (n := 1) (As := [.int (nI (1))]) hx hb hml hown hts hw (j_recv hw hO rfl) (c_X5_refused l g z H0 M (1) x0 (nI (tx.length)) x3 x4 x5 (nI (hi.length)) x14 _ hzM hO (by first | assumption | omega)) gX5_would_X5_refused rfl (by decide +kernel) ⟨Nat.le_of_ble_eq_true rfl, Nat.le_of_ble_eq_true rfl⟩ rfl hl.1 (Nat.le_of_ble_eq_true rfl) ⟨Nat.zero_le _, Nat.zero_le _⟩ dX5_would_30 (fun r12 H locs hr12 hw hsz => ?_) rfl
    obtain ⟨hr12, hO, hf2⟩ := hr12
    obtain rfl : r12 = nI 1 := hr12
    have hO : jO g H M 5 [.int (nI (1)), .ref (M + 1), .int (nI (tx.length)), .int x3, .int x4, .int x5, .ref (M + 2), .ref (M + 3), .ref (M + 4), .ref (M + 5), .int (nI (hi.length)), .ref (M + 6), .ref (M + 7), .ref (M + 8), .int x14, .int (bI sn)] := hO
    have hSc := hSc.kept (hf2.2 _ (by omega))
    have hRd := hRd.kept (hf2.2 _ (by omega))
    have hA := hA.kept (hf2.2 _ (by omega))
    have hTr := hTr.kept (hf2.2 _ (by omega))
    have hDy := hDy.kept (hf2.2 _ (by omega))
    have hKp := hKp.kept (hf2.2 _ (by omega))
    have hIk := hIk.kept (hf2.2 _ (by omega))
    have hT8 := hT8.kept (hf2.2 _ (by omega))
    have hf := hf.step hf2 (by omega)
    refine jz_eq (tgt := 38) hx hb dX5_would_33 (by decide) (by omega) (fun c33 => absurd c33 (by omega)) (fun c33 => ?_)
    refine lv_iconst (v := (nI (0))) hx hb dX5_would_36 (by decide) ?_
    refine j_iret hx hb hr hlocks hH hw dX5_would_37 ?_
    have e9 : fWould σ an what = (1, 0) := by simp only [fWould, hk]
    exact ⟨_, rfl, by rw [e9]; exact ⟨fun h9 => absurd h9 (Nat.succ_ne_zero _), ⟨x3, x4, x5, x14, sn, sc, rd, nw, tr, dy, kp, ik, tk, hO, hSc, hRd, hA, hTr, hDy, hKp, hIk, hT8, hMI⟩, hf⟩⟩

abbrev q_X5_next (g : jG) (H0 : Heap) (M : Nat) (ak : Int32) (x0 : Int32) (tx : List Nat) (σ : Sg) (hi : List Sg) (sv : Nat → Option Sg) : Option Value → Heap → Prop := jN (fun r H1 => ((fNext σ ak).1 = 0 → r = (fNext σ ak).2) ∧ MD g H1 M (nI (fNext σ ak).1) tx σ hi sv ∧ jF M 9 H0 H1)
set_option maxHeartbeats 4000000 in
set_option maxRecDepth 100000 in
theorem c_X5_next (l : Launch) (g : jG) (z : Nat) (H0 : Heap) (M : Nat) (ak : Int32) (x0 : Int32) (tx : List Nat) (σ : Sg) (hi : List Sg) (sv : Nat → Option Sg) (hzM : z ≤ M) (hMD : MD g H0 M x0 tx σ hi sv) : jM l g z yX5_next wsX5_next 4 95 [.ref M, .int ak] H0 (q_X5_next g H0 M ak x0 tx σ hi sv) := by
  refine j_of (cc := cX5_next) (n := 2) (ret := some .int) (by decide) rfl (Nat.le_of_ble_eq_true rfl) ?_
  intro p e s m below meth c hx hb hr hml hown hts hlocks hname hH hw ls hl
  have hl : lv_has ls 2 [(0, .ref M), (1, .int ak)] := hl
  have hinX5 : ∀ w ∈ u_ws RX5 TX5 16, w ∈ wsX5_next := by decide +kernel
  have hf : jF M 9 H0 H0 := jF.rf
  obtain ⟨x3, x4, x5, x14, sn, sc, rd, nw, tr, dy, kp, ik, tk, hO, hSc, hRd, hA, hTr, hDy, hKp, hIk, hT8, hMI⟩ := hMD
  obtain ⟨htx, hsc, hR, hN, hhi, hdy, hkp⟩ := id hMI
  obtain ⟨hs, hcalm, h20⟩ := id hN
  refine lv_aload_n hx hb dX5_next_0 rfl (lv_at hl 0 rfl) ?_
  refine lv_iload_n hx hb dX5_next_1 rfl (lv_at hl 1 rfl) ?_
  refine lv_if_ge (tgt := 9) hx hb dX5_next_2 (by decide) (fun c2 => ?_) (fun c2 => ?_)
  · refine lv_iconst (v := (nI (0))) hx hb dX5_next_9 (by decide) ?_
    refine j_Vi (n := 1) (As := [.int (nI (0))]) hx hb hml hown hts hw (j_recv hw hO rfl) (c_X5_refused l g z H0 M (0) x0 (nI (tx.length)) x3 x4 x5 (nI (hi.length)) x14 _ hzM hO (by first | assumption | omega)) gX5_next_X5_refused rfl (by decide +kernel) ⟨Nat.le_of_ble_eq_true rfl, Nat.le_of_ble_eq_true rfl⟩ rfl hl.1 (Nat.le_of_ble_eq_true rfl) ⟨Nat.zero_le _, Nat.zero_le _⟩ dX5_next_10 (fun r1 H locs hr1 hw hsz => ?_) rfl
    obtain ⟨hr1, hO, hf2⟩ := hr1
    obtain rfl : r1 = nI 0 := hr1
    have hO : jO g H M 5 [.int (nI (0)), .ref (M + 1), .int (nI (tx.length)), .int x3, .int x4, .int x5, .ref (M + 2), .ref (M + 3), .ref (M + 4), .ref (M + 5), .int (nI (hi.length)), .ref (M + 6), .ref (M + 7), .ref (M + 8), .int x14, .int (bI sn)] := hO
    have hSc := hSc.kept (hf2.2 _ (by omega))
    have hRd := hRd.kept (hf2.2 _ (by omega))
    have hA := hA.kept (hf2.2 _ (by omega))
    have hTr := hTr.kept (hf2.2 _ (by omega))
    have hDy := hDy.kept (hf2.2 _ (by omega))
    have hKp := hKp.kept (hf2.2 _ (by omega))
    have hIk := hIk.kept (hf2.2 _ (by omega))
    have hT8 := hT8.kept (hf2.2 _ (by omega))
    have hf := hf.step hf2 (by omega)
    refine jz_eq (tgt := 18) hx hb dX5_next_13 (by decide) (by omega) (fun c13 => ?_) (fun c13 => absurd c13 (by omega))
    obtain ⟨j, hj31, rfl, hj⟩ := ix_pos c2
    refine lv_aload_n hx hb dX5_next_18 rfl (lv_at hl 0 rfl) ?_
    refine j_Vv (n := 0) (As := []) hx hb hml hown hts hw (j_recv hw hO rfl) (c_X5_tryIt l g z H M (σ) nw tr (nI (0)) (nI (tx.length)) x3 x4 x5 (nI (hi.length)) x14 _ hzM hTr hO hA hR hs) gX5_next_X5_tryIt rfl (by decide +kernel) ⟨Nat.le_of_ble_eq_true rfl, Nat.le_of_ble_eq_true rfl⟩ rfl hl.1 (Nat.le_of_ble_eq_true rfl) ⟨Nat.zero_le _, Nat.zero_le _⟩ dX5_next_19 (fun H locs hr2 hw hsz => ?_) rfl
    obtain ⟨⟨f3, hTr, hRt⟩, hst, hf2⟩ := hr2
    have hO := hO.kept (hf2.2 _ (by omega))
    have hSc := hSc.kept (hf2.2 _ (by omega))
    have hRd := hRd.kept (hf2.2 _ (by omega))
    have hA := hA.kept (hf2.2 _ (by omega))
    have hDy := hDy.kept (hf2.2 _ (by omega))
    have hKp := hKp.kept (hf2.2 _ (by omega))
    have hIk := hIk.kept (hf2.2 _ (by omega))
    have hT8 := hT8.kept (hf2.2 _ (by omega))
    have hf := hf.step hf2 (by omega)
    refine lv_aload_n hx hb dX5_next_22 rfl (lv_at hl 0 rfl) ?_
    refine lv_aload_n hx hb dX5_next_23 rfl (lv_at hl 0 rfl) ?_
    refine j_get (T := TX5) (N := 16) (k := 8) hx hb hts hinX5 hown hw hO rfl (by decide) (hts (.fieldLink RX5 19 "NightTrainsModel" "trial" "[I") (by decide +kernel)) rfl dX5_next_24 ?_
    refine j_Vv (n := 1) (As := [.ref (M + 4)]) hx hb hml hown hts hw (j_recv hw hO rfl) (c_X5_night l g z H M (M + 4) (((σ))) f3 (nI (0)) (nI (tx.length)) x3 x4 x5 (nI (hi.length)) x14 _ tk hzM (by omega) (by omega) hO hTr hT8 hRt hst hcalm) gX5_next_X5_night rfl (by decide +kernel) ⟨Nat.le_of_ble_eq_true rfl, Nat.le_of_ble_eq_true rfl⟩ rfl hl.1 (Nat.le_of_ble_eq_true rfl) ⟨Nat.zero_le _, Nat.zero_le _⟩ dX5_next_27 (fun H locs hr4 hw hsz => ?_) rfl
    obtain ⟨⟨⟨f5, hTr, hRt⟩, hst, hf2⟩, hO, tk6, hT8, htk6⟩ := hr4
    have hSc := hSc.kept (hf2.2 _ (by omega) (by omega) (by omega))
    have hRd := hRd.kept (hf2.2 _ (by omega) (by omega) (by omega))
    have hA := hA.kept (hf2.2 _ (by omega) (by omega) (by omega))
    have hDy := hDy.kept (hf2.2 _ (by omega) (by omega) (by omega))
    have hKp := hKp.kept (hf2.2 _ (by omega) (by omega) (by omega))
    have hIk := hIk.kept (hf2.2 _ (by omega) (by omega) (by omega))
    have hf := hf.three hf2 (by omega) (by omega) (by omega)
    have hl16 := trl_len (σ.1 0) σ
    have hr16 := hs.1.1
    refine lv_iload_n hx hb dX5_next_30 rfl (lv_at hl 1 rfl) ?_
    refine lv_aload_n hx hb dX5_next_31 rfl (lv_at hl 0 rfl) ?_
    refine j_get (T := TX5) (N := 16) (k := 14) hx hb hts hinX5 hown hw hO rfl (by decide) (hts (.fieldLink RX5 97 "NightTrainsModel" "tookMany" "I") (by decide +kernel)) rfl dX5_next_32 ?_
    refine jn_ge (tgt := 47) hx hb dX5_next_35 (by decide) (by omega) (by omega) (fun c35 => ?_) (fun c35 => ?_)
    · refine lv_iconst (v := (-1)) hx hb dX5_next_47 (by decide) ?_
      refine j_iret hx hb hr hlocks hH hw dX5_next_48 ?_
      have e9 : fNext σ (nI (j)) = (0, -1) := by simp only [fNext, hj, List.getElem?_eq_none c35]; rfl
      exact ⟨_, rfl, by rw [e9]; exact ⟨fun _ => rfl, ⟨x3, x4, x5, (nI ((trl ((((σ))).1 0) (((σ)))).length)), (sn || trw ((((σ))).1 0) (((σ)))), sc, rd, nw, f5, dy, kp, ik, tk6, hO, hSc, hRd, hA, hTr, hDy, hKp, hIk, hT8, hMI⟩, hf⟩⟩
    · obtain ⟨b, hb9⟩ : ∃ b, (trl (σ.1 0) σ)[j]? = some b := ⟨_, List.getElem?_eq_getElem (by omega)⟩
      refine lv_aload_n hx hb dX5_next_38 rfl (lv_at hl 0 rfl) ?_
      refine j_get (T := TX5) (N := 16) (k := 13) hx hb hts hinX5 hown hw hO rfl (by decide) (hts (.fieldLink RX5 32 "NightTrainsModel" "took" "[I") (by decide +kernel)) rfl dX5_next_39 ?_
      refine lv_iload_n hx hb dX5_next_42 rfl (lv_at hl 1 rfl) ?_
      refine j_iald hx hb hw hT8 (k := j) rfl (by omega) (by omega) dX5_next_43 ?_
      refine j_eq (y := nI (b)) (htk6 _ _ hb9) ?_
      refine lv_goto (tgt := 48) hx hb dX5_next_44 (by decide) ?_
      refine j_iret hx hb hr hlocks hH hw dX5_next_48 ?_
      have e9 : fNext σ (nI (j)) = (0, nI b) := by simp only [fNext, hj, hb9]; rfl
      exact ⟨_, rfl, by rw [e9]; exact ⟨fun _ => rfl, ⟨x3, x4, x5, (nI ((trl ((((σ))).1 0) (((σ)))).length)), (sn || trw ((((σ))).1 0) (((σ)))), sc, rd, nw, f5, dy, kp, ik, tk6, hO, hSc, hRd, hA, hTr, hDy, hKp, hIk, hT8, hMI⟩, hf⟩⟩
  · refine lv_iconst (v := (nI (1))) hx hb dX5_next_5 (by decide) ?_
    refine lv_goto (tgt := 10) hx hb dX5_next_6 (by decide) ?_
    refine j_Vi (n := 1) (As := [.int (nI (1))]) hx hb hml hown hts hw (j_recv hw hO rfl) (c_X5_refused l g z H0 M (1) x0 (nI (tx.length)) x3 x4 x5 (nI (hi.length)) x14 _ hzM hO (by first | assumption | omega)) gX5_next_X5_refused rfl (by decide +kernel) ⟨Nat.le_of_ble_eq_true rfl, Nat.le_of_ble_eq_true rfl⟩ rfl hl.1 (Nat.le_of_ble_eq_true rfl) ⟨Nat.zero_le _, Nat.zero_le _⟩ dX5_next_10 (fun r7 H locs hr7 hw hsz => ?_) rfl
    obtain ⟨hr7, hO, hf2⟩ := hr7
    obtain rfl : r7 = nI 1 := hr7
    have hO : jO g H M 5 [.int (nI (1)), .ref (M + 1), .int (nI (tx.length)), .int x3, .int x4, .int x5, .ref (M + 2), .ref (M + 3), .ref (M + 4), .ref (M + 5), .int (nI (hi.length)), .ref (M + 6), .ref (M + 7), .ref (M + 8), .int x14, .int (bI sn)] := hO
    have hSc := hSc.kept (hf2.2 _ (by omega))
    have hRd := hRd.kept (hf2.2 _ (by omega))
    have hA := hA.kept (hf2.2 _ (by omega))
    have hTr := hTr.kept (hf2.2 _ (by omega))
    have hDy := hDy.kept (hf2.2 _ (by omega))
    have hKp := hKp.kept (hf2.2 _ (by omega))
    have hIk := hIk.kept (hf2.2 _ (by omega))
    have hT8 := hT8.kept (hf2.2 _ (by omega))
    have hf := hf.step hf2 (by omega)
    refine jz_eq (tgt := 18) hx hb dX5_next_13 (by decide) (by omega) (fun c13 => absurd c13 (by omega)) (fun c13 => ?_)
    refine lv_iconst (v := (nI (0))) hx hb dX5_next_16 (by decide) ?_
    refine j_iret hx hb hr hlocks hH hw dX5_next_17 ?_
    have e9 : fNext σ ak = (1, 0) := by simp only [fNext, ix_neg c2]
    exact ⟨_, rfl, by rw [e9]; exact ⟨fun h9 => absurd h9 (Nat.succ_ne_zero _), ⟨x3, x4, x5, x14, sn, sc, rd, nw, tr, dy, kp, ik, tk, hO, hSc, hRd, hA, hTr, hDy, hKp, hIk, hT8, hMI⟩, hf⟩⟩

abbrev q_X5_undo (g : jG) (H0 : Heap) (M : Nat) (x0 : Int32) (tx : List Nat) (σ : Sg) (hi : List Sg) (sv : Nat → Option Sg) : Option Value → Heap → Prop := jN (fun r H1 => ((hi = [] ∧ MD g H1 M (nI 1) tx σ hi sv) ∨ (∃ h s, hi = h ++ [s] ∧ r = nI h.length ∧ MD g H1 M (nI 0) tx s h sv)) ∧ jF M 9 H0 H1)
set_option maxHeartbeats 4000000 in
set_option maxRecDepth 100000 in
theorem c_X5_undo (l : Launch) (g : jG) (z : Nat) (H0 : Heap) (M : Nat) (x0 : Int32) (tx : List Nat) (σ : Sg) (hi : List Sg) (sv : Nat → Option Sg) (hzM : z ≤ M) (hMD : MD g H0 M x0 tx σ hi sv) : jM l g z yX5_undo wsX5_undo 1 25 [.ref M] H0 (q_X5_undo g H0 M x0 tx σ hi sv) := by
  refine j_of (cc := cX5_undo) (n := 1) (ret := some .int) (by decide) rfl (Nat.le_of_ble_eq_true rfl) ?_
  intro p e s m below meth c hx hb hr hml hown hts hlocks hname hH hw ls hl
  have hl : lv_has ls 1 [(0, .ref M)] := hl
  have hinX5 : ∀ w ∈ u_ws RX5 TX5 16, w ∈ wsX5_undo := by decide +kernel
  have hf : jF M 9 H0 H0 := jF.rf
  obtain ⟨x3, x4, x5, x14, sn, sc, rd, nw, tr, dy, kp, ik, tk, hO, hSc, hRd, hA, hTr, hDy, hKp, hIk, hT8, hMI⟩ := hMD
  obtain ⟨htx, hsc, hR, hN, hhi, hdy, hkp⟩ := id hMI
  obtain ⟨hs, hcalm, h20⟩ := id hN
  refine lv_aload_n hx hb dX5_undo_0 rfl (lv_at hl 0 rfl) ?_
  refine lv_aload_n hx hb dX5_undo_1 rfl (lv_at hl 0 rfl) ?_
  refine j_get (T := TX5) (N := 16) (k := 10) hx hb hts hinX5 hown hw hO rfl (by decide) (hts (.fieldLink RX5 45 "NightTrainsModel" "acts" "I") (by decide +kernel)) rfl dX5_undo_2 ?_
  refine jz_ne (tgt := 12) hx hb dX5_undo_5 (by decide) (by omega) (fun c5 => ?_) (fun c5 => ?_)
  · refine lv_iconst (v := (nI (0))) hx hb dX5_undo_12 (by decide) ?_
    refine j_Vi (n := 1) (As := [.int (nI (0))]) hx hb hml hown hts hw (j_recv hw hO rfl) (c_X5_refused l g z H0 M (0) x0 (nI (tx.length)) x3 x4 x5 (nI (hi.length)) x14 _ hzM hO (by first | assumption | omega)) gX5_undo_X5_refused rfl (by decide +kernel) ⟨Nat.le_of_ble_eq_true rfl, Nat.le_of_ble_eq_true rfl⟩ rfl hl.1 (Nat.le_of_ble_eq_true rfl) ⟨Nat.zero_le _, Nat.zero_le _⟩ dX5_undo_13 (fun r1 H locs hr1 hw hsz => ?_) rfl
    obtain ⟨hr1, hO, hf2⟩ := hr1
    obtain rfl : r1 = nI 0 := hr1
    have hO : jO g H M 5 [.int (nI (0)), .ref (M + 1), .int (nI (tx.length)), .int x3, .int x4, .int x5, .ref (M + 2), .ref (M + 3), .ref (M + 4), .ref (M + 5), .int (nI (hi.length)), .ref (M + 6), .ref (M + 7), .ref (M + 8), .int x14, .int (bI sn)] := hO
    have hSc := hSc.kept (hf2.2 _ (by omega))
    have hRd := hRd.kept (hf2.2 _ (by omega))
    have hA := hA.kept (hf2.2 _ (by omega))
    have hTr := hTr.kept (hf2.2 _ (by omega))
    have hDy := hDy.kept (hf2.2 _ (by omega))
    have hKp := hKp.kept (hf2.2 _ (by omega))
    have hIk := hIk.kept (hf2.2 _ (by omega))
    have hT8 := hT8.kept (hf2.2 _ (by omega))
    have hf := hf.step hf2 (by omega)
    refine jz_eq (tgt := 21) hx hb dX5_undo_16 (by decide) (by omega) (fun c16 => ?_) (fun c16 => absurd c16 (by omega))
    obtain ⟨h, s9, hhs⟩ : ∃ h s9, hi = h ++ [s9] := ⟨hi.dropLast, hi.getLast (fun q => c5 (by rw [q]; rfl)), (List.dropLast_concat_getLast _).symm⟩
    have hlh : hi.length = h.length + 1 := by rw [hhs, List.length_append]; rfl
    refine lv_aload_n hx hb dX5_undo_21 rfl (lv_at hl 0 rfl) ?_
    refine lv_dup hx hb dX5_undo_22 rfl ?_
    refine j_get (T := TX5) (N := 16) (k := 10) hx hb hts hinX5 hown hw hO rfl (by decide) (hts (.fieldLink RX5 45 "NightTrainsModel" "acts" "I") (by decide +kernel)) rfl dX5_undo_23 ?_
    refine lv_iconst (v := (nI (1))) hx hb dX5_undo_26 (by decide) ?_
    refine j_subN hx hb (by omega) dX5_undo_27 ?_
    refine j_put (T := TX5) (N := 16) (k := 10) (ty := .int) hx hb hts hinX5 tyX5 tyX5_ok nmX5 hown hw hO hzM rfl (by decide) (hts (.fieldLink RX5 45 "NightTrainsModel" "acts" "I") (by decide +kernel)) rfl (by decide +kernel) rfl rfl (Nat.le_of_ble_eq_true rfl) dX5_undo_28 (fun H locs hw hO oq hsz => ?_)
    have hO : jO g H M 5 [.int _, .ref _, .int _, .int _, .int _, .int _, .ref _, .ref _, .ref _, .ref _, .int _, .ref _, .ref _, .ref _, .int _, .int _] := hO
    have hSc := hSc.kept (oq _ (by omega))
    have hRd := hRd.kept (oq _ (by omega))
    have hA := hA.kept (oq _ (by omega))
    have hTr := hTr.kept (oq _ (by omega))
    have hDy := hDy.kept (oq _ (by omega))
    have hKp := hKp.kept (oq _ (by omega))
    have hIk := hIk.kept (oq _ (by omega))
    have hT8 := hT8.kept (oq _ (by omega))
    have hf := hf.put oq hsz (by omega)
    refine lv_aload_n hx hb dX5_undo_31 rfl (lv_at hl 0 rfl) ?_
    refine j_get (T := TX5) (N := 16) (k := 9) hx hb hts hinX5 hown hw hO rfl (by decide) (hts (.fieldLink RX5 22 "NightTrainsModel" "diary" "[I") (by decide +kernel)) rfl dX5_undo_32 ?_
    refine lv_sipush (v := (nI (235))) hx hb dX5_undo_35 (by decide) ?_
    refine lv_aload_n hx hb dX5_undo_38 rfl (lv_at hl 0 rfl) ?_
    refine j_get (T := TX5) (N := 16) (k := 10) hx hb hts hinX5 hown hw hO rfl (by decide) (hts (.fieldLink RX5 45 "NightTrainsModel" "acts" "I") (by decide +kernel)) rfl dX5_undo_39 ?_
    refine j_mulN hx hb dX5_undo_42 ?_
    refine lv_aload_n hx hb dX5_undo_43 rfl (lv_at hl 0 rfl) ?_
    refine j_get (T := TX5) (N := 16) (k := 7) hx hb hts hinX5 hown hw hO rfl (by decide) (hts (.fieldLink RX5 16 "NightTrainsModel" "now" "[I") (by decide +kernel)) rfl dX5_undo_44 ?_
    refine lv_iconst (v := (nI (0))) hx hb dX5_undo_47 (by decide) ?_
    refine lv_sipush (v := (nI (235))) hx hb dX5_undo_48 (by decide) ?_
    refine j_Sv (n := 5) (As := [.ref (M + 5), .int (nI ((235 * (hi.length - 1)))), .ref (M + 3), .int (nI (0)), .int (nI (235))]) hx hb hml hown hts hw (c_X5_copyD l g z H (M + 5) ((235 * (hi.length - 1))) (M + 3) (0) (235) 235 nw 3290 dy (by omega) (by omega) hA hDy (by first | assumption | omega) (by first | assumption | omega) (by first | assumption | omega) (by first | assumption | omega)) gX5_undo_X5_copy rfl (by decide +kernel) ⟨Nat.le_of_ble_eq_true rfl, Nat.le_of_ble_eq_true rfl⟩ rfl hl.1 (Nat.le_of_ble_eq_true rfl) ⟨Nat.zero_le _, Nat.zero_le _⟩ dX5_undo_51 (fun H locs hr2 hw hsz => ?_) rfl
    obtain ⟨hA, hf2⟩ := hr2
    obtain ⟨f3, ef3⟩ : ∃ y9, y9 = va_cpy dy nw ((235 * (hi.length - 1))) (0) (235) := ⟨_, rfl⟩
    rw [← ef3] at hA
    have hO := hO.kept (hf2.2 _ (by omega))
    have hSc := hSc.kept (hf2.2 _ (by omega))
    have hRd := hRd.kept (hf2.2 _ (by omega))
    have hTr := hTr.kept (hf2.2 _ (by omega))
    have hDy := hDy.kept (hf2.2 _ (by omega))
    have hKp := hKp.kept (hf2.2 _ (by omega))
    have hIk := hIk.kept (hf2.2 _ (by omega))
    have hT8 := hT8.kept (hf2.2 _ (by omega))
    have hf := hf.step hf2 (by omega)
    refine lv_aload_n hx hb dX5_undo_54 rfl (lv_at hl 0 rfl) ?_
    refine j_get (T := TX5) (N := 16) (k := 10) hx hb hts hinX5 hown hw hO rfl (by decide) (hts (.fieldLink RX5 45 "NightTrainsModel" "acts" "I") (by decide +kernel)) rfl dX5_undo_55 ?_
    refine j_iret hx hb hr hlocks hH hw dX5_undo_58 ?_
    obtain ⟨hr9, hN9⟩ := hdy h.length s9 (by rw [hhs, List.getElem?_append_right (Nat.le_refl _), Nat.sub_self]; rfl)
    have hR9 : Row f3 s9 := by
      rw [ef3]
      refine hr9.cong hN9.1 (fun j hj => ?_)
      simp only [va_cpy]
      rw [if_pos (by omega)]
      congr 1
      all_goals omega
    have hD9 : Dia dy h := fun i s q => hdy i s (by rw [hhs, List.getElem?_append_left (List.getElem?_eq_some_iff.mp q).1]; exact q)
    rw [show hi.length - 1 = h.length by omega] at hO
    exact ⟨_, rfl, Or.inr ⟨h, s9, hhs, by rw [show hi.length - 1 = h.length by omega], ⟨x3, x4, x5, x14, sn, sc, rd, f3, tr, dy, kp, ik, tk, hO, hSc, hRd, hA, hTr, hDy, hKp, hIk, hT8, (hMI.acts hR9 hN9 (by omega) hD9)⟩⟩, hf⟩
  · refine lv_iconst (v := (nI (1))) hx hb dX5_undo_8 (by decide) ?_
    refine lv_goto (tgt := 13) hx hb dX5_undo_9 (by decide) ?_
    refine j_Vi (n := 1) (As := [.int (nI (1))]) hx hb hml hown hts hw (j_recv hw hO rfl) (c_X5_refused l g z H0 M (1) x0 (nI (tx.length)) x3 x4 x5 (nI (hi.length)) x14 _ hzM hO (by first | assumption | omega)) gX5_undo_X5_refused rfl (by decide +kernel) ⟨Nat.le_of_ble_eq_true rfl, Nat.le_of_ble_eq_true rfl⟩ rfl hl.1 (Nat.le_of_ble_eq_true rfl) ⟨Nat.zero_le _, Nat.zero_le _⟩ dX5_undo_13 (fun r4 H locs hr4 hw hsz => ?_) rfl
    obtain ⟨hr4, hO, hf2⟩ := hr4
    obtain rfl : r4 = nI 1 := hr4
    have hO : jO g H M 5 [.int (nI (1)), .ref (M + 1), .int (nI (tx.length)), .int x3, .int x4, .int x5, .ref (M + 2), .ref (M + 3), .ref (M + 4), .ref (M + 5), .int (nI (hi.length)), .ref (M + 6), .ref (M + 7), .ref (M + 8), .int x14, .int (bI sn)] := hO
    have hSc := hSc.kept (hf2.2 _ (by omega))
    have hRd := hRd.kept (hf2.2 _ (by omega))
    have hA := hA.kept (hf2.2 _ (by omega))
    have hTr := hTr.kept (hf2.2 _ (by omega))
    have hDy := hDy.kept (hf2.2 _ (by omega))
    have hKp := hKp.kept (hf2.2 _ (by omega))
    have hIk := hIk.kept (hf2.2 _ (by omega))
    have hT8 := hT8.kept (hf2.2 _ (by omega))
    have hf := hf.step hf2 (by omega)
    refine jz_eq (tgt := 21) hx hb dX5_undo_16 (by decide) (by omega) (fun c16 => absurd c16 (by omega)) (fun c16 => ?_)
    refine lv_iconst (v := (nI (0))) hx hb dX5_undo_19 (by decide) ?_
    refine j_iret hx hb hr hlocks hH hw dX5_undo_20 ?_
    exact ⟨_, rfl, Or.inl ⟨List.length_eq_zero_iff.mp c5, ⟨x3, x4, x5, x14, sn, sc, rd, nw, tr, dy, kp, ik, tk, hO, hSc, hRd, hA, hTr, hDy, hKp, hIk, hT8, hMI⟩⟩, hf⟩

abbrev q_X5_save (g : jG) (H0 : Heap) (M : Nat) (asl : Int32) (x0 : Int32) (tx : List Nat) (σ : Sg) (hi : List Sg) (sv : Nat → Option Sg) : Option Value → Heap → Prop := jN (fun r H1 => ((ix asl 0 2 = none ∧ MD g H1 M (nI 1) tx σ hi sv) ∨ (∃ k, ix asl 0 2 = some k ∧ r = nI (σ.1 5) ∧ MD g H1 M (nI 0) tx σ hi (fun j => if j = k then some σ else sv j))) ∧ jF M 9 H0 H1)
set_option maxHeartbeats 4000000 in
set_option maxRecDepth 100000 in
theorem c_X5_save (l : Launch) (g : jG) (z : Nat) (H0 : Heap) (M : Nat) (asl : Int32) (x0 : Int32) (tx : List Nat) (σ : Sg) (hi : List Sg) (sv : Nat → Option Sg) (hzM : z ≤ M) (hMD : MD g H0 M x0 tx σ hi sv) : jM l g z yX5_save wsX5_save 1 25 [.ref M, .int asl] H0 (q_X5_save g H0 M asl x0 tx σ hi sv) := by
  refine j_of (cc := cX5_save) (n := 2) (ret := some .int) (by decide) rfl (Nat.le_of_ble_eq_true rfl) ?_
  intro p e s m below meth c hx hb hr hml hown hts hlocks hname hH hw ls hl
  have hl : lv_has ls 2 [(0, .ref M), (1, .int asl)] := hl
  have hinX5 : ∀ w ∈ u_ws RX5 TX5 16, w ∈ wsX5_save := by decide +kernel
  have hf : jF M 9 H0 H0 := jF.rf
  obtain ⟨x3, x4, x5, x14, sn, sc, rd, nw, tr, dy, kp, ik, tk, hO, hSc, hRd, hA, hTr, hDy, hKp, hIk, hT8, hMI⟩ := hMD
  obtain ⟨htx, hsc, hR, hN, hhi, hdy, hkp⟩ := id hMI
  obtain ⟨hs, hcalm, h20⟩ := id hN
  refine lv_aload_n hx hb dX5_save_0 rfl (lv_at hl 0 rfl) ?_
  refine lv_iload_n hx hb dX5_save_1 rfl (lv_at hl 1 rfl) ?_
  refine lv_i2l (v := asl.toInt64) hx hb dX5_save_2 rfl ?_
  refine lv_lconst (v := 0) hx hb dX5_save_3 (by decide) ?_
  refine lv_lconst (v := 1) hx hb dX5_save_4 (by decide) ?_
  refine j_Sp (n := 3) (As := [.long asl.toInt64, .long 0, .long 1]) hx hb hml hown hts hw (c_X5_in l g z H0 asl.toInt64 0 1   ) gX5_save_X5_in rfl (by decide +kernel) ⟨Nat.le_of_ble_eq_true rfl, Nat.le_of_ble_eq_true rfl⟩ rfl hl.1 (Nat.le_of_ble_eq_true rfl) ⟨Nat.zero_le _, Nat.zero_le _⟩ dX5_save_5 (fun r1 locs hr1 hw => ?_) rfl
  rcases in_ix (x := asl) (a := 0) (n := 2) (by decide) (by decide) hr1 with ⟨rfl, k, hk, hka, hkn, rfl⟩ | ⟨rfl, hk⟩
  · refine jz_eq (tgt := 15) hx hb dX5_save_8 (by decide) (by omega) (fun c8 => absurd c8 (by omega)) (fun c8 => ?_)
    refine lv_iconst (v := (nI (0))) hx hb dX5_save_11 (by decide) ?_
    refine lv_goto (tgt := 16) hx hb dX5_save_12 (by decide) ?_
    refine j_Vi (n := 1) (As := [.int (nI (0))]) hx hb hml hown hts hw (j_recv hw hO rfl) (c_X5_refused l g z H0 M (0) x0 (nI (tx.length)) x3 x4 x5 (nI (hi.length)) x14 _ hzM hO (by first | assumption | omega)) gX5_save_X5_refused rfl (by decide +kernel) ⟨Nat.le_of_ble_eq_true rfl, Nat.le_of_ble_eq_true rfl⟩ rfl hl.1 (Nat.le_of_ble_eq_true rfl) ⟨Nat.zero_le _, Nat.zero_le _⟩ dX5_save_16 (fun r2 H locs hr2 hw hsz => ?_) rfl
    obtain ⟨hr2, hO, hf2⟩ := hr2
    obtain rfl : r2 = nI 0 := hr2
    have hO : jO g H M 5 [.int (nI (0)), .ref (M + 1), .int (nI (tx.length)), .int x3, .int x4, .int x5, .ref (M + 2), .ref (M + 3), .ref (M + 4), .ref (M + 5), .int (nI (hi.length)), .ref (M + 6), .ref (M + 7), .ref (M + 8), .int x14, .int (bI sn)] := hO
    have hSc := hSc.kept (hf2.2 _ (by omega))
    have hRd := hRd.kept (hf2.2 _ (by omega))
    have hA := hA.kept (hf2.2 _ (by omega))
    have hTr := hTr.kept (hf2.2 _ (by omega))
    have hDy := hDy.kept (hf2.2 _ (by omega))
    have hKp := hKp.kept (hf2.2 _ (by omega))
    have hIk := hIk.kept (hf2.2 _ (by omega))
    have hT8 := hT8.kept (hf2.2 _ (by omega))
    have hf := hf.step hf2 (by omega)
    refine jz_eq (tgt := 24) hx hb dX5_save_19 (by decide) (by omega) (fun c19 => ?_) (fun c19 => absurd c19 (by omega))
    refine lv_aload_n hx hb dX5_save_24 rfl (lv_at hl 0 rfl) ?_
    refine j_get (T := TX5) (N := 16) (k := 7) hx hb hts hinX5 hown hw hO rfl (by decide) (hts (.fieldLink RX5 16 "NightTrainsModel" "now" "[I") (by decide +kernel)) rfl dX5_save_25 ?_
    refine lv_iconst (v := (nI (0))) hx hb dX5_save_28 (by decide) ?_
    refine lv_aload_n hx hb dX5_save_29 rfl (lv_at hl 0 rfl) ?_
    refine j_get (T := TX5) (N := 16) (k := 11) hx hb hts hinX5 hown hw hO rfl (by decide) (hts (.fieldLink RX5 25 "NightTrainsModel" "kept" "[I") (by decide +kernel)) rfl dX5_save_30 ?_
    refine lv_sipush (v := (nI (235))) hx hb dX5_save_33 (by decide) ?_
    refine lv_iload_n hx hb dX5_save_36 rfl (lv_at hl 1 rfl) ?_
    refine j_mulN hx hb dX5_save_37 ?_
    refine lv_sipush (v := (nI (235))) hx hb dX5_save_38 (by decide) ?_
    refine j_Sv (n := 5) (As := [.ref (M + 3), .int (nI (0)), .ref (M + 6), .int (nI ((235 * k))), .int (nI (235))]) hx hb hml hown hts hw (c_X5_copyD l g z H (M + 3) (0) (M + 6) ((235 * k)) (235) 470 kp 235 nw (by omega) (by omega) hKp hA (by first | assumption | omega) (by first | assumption | omega) (by first | assumption | omega) (by first | assumption | omega)) gX5_save_X5_copy rfl (by decide +kernel) ⟨Nat.le_of_ble_eq_true rfl, Nat.le_of_ble_eq_true rfl⟩ rfl hl.1 (Nat.le_of_ble_eq_true rfl) ⟨Nat.zero_le _, Nat.zero_le _⟩ dX5_save_41 (fun H locs hr3 hw hsz => ?_) rfl
    obtain ⟨hKp, hf2⟩ := hr3
    obtain ⟨f4, ef4⟩ : ∃ y9, y9 = va_cpy nw kp (0) ((235 * k)) (235) := ⟨_, rfl⟩
    rw [← ef4] at hKp
    have hO := hO.kept (hf2.2 _ (by omega))
    have hSc := hSc.kept (hf2.2 _ (by omega))
    have hRd := hRd.kept (hf2.2 _ (by omega))
    have hA := hA.kept (hf2.2 _ (by omega))
    have hTr := hTr.kept (hf2.2 _ (by omega))
    have hDy := hDy.kept (hf2.2 _ (by omega))
    have hIk := hIk.kept (hf2.2 _ (by omega))
    have hT8 := hT8.kept (hf2.2 _ (by omega))
    have hf := hf.step hf2 (by omega)
    refine lv_aload_n hx hb dX5_save_44 rfl (lv_at hl 0 rfl) ?_
    refine j_get (T := TX5) (N := 16) (k := 12) hx hb hts hinX5 hown hw hO rfl (by decide) (hts (.fieldLink RX5 28 "NightTrainsModel" "isKept" "[Z") (by decide +kernel)) rfl dX5_save_45 ?_
    refine lv_iload_n hx hb dX5_save_48 rfl (lv_at hl 1 rfl) ?_
    refine lv_iconst (v := (nI (1))) hx hb dX5_save_49 (by decide) ?_
    refine j_zast hx hb hw hIk (by omega) (k := k) rfl (by omega) (by omega) dX5_save_50 (fun H locs hw hIk oq hsz => ?_)
    obtain ⟨f5, ef5⟩ : ∃ y9, y9 = upd ik (k) (vp_nar .boolean (nI (1))) := ⟨_, rfl⟩
    rw [← ef5] at hIk
    have hO := hO.kept (oq _ (by omega))
    have hSc := hSc.kept (oq _ (by omega))
    have hRd := hRd.kept (oq _ (by omega))
    have hA := hA.kept (oq _ (by omega))
    have hTr := hTr.kept (oq _ (by omega))
    have hDy := hDy.kept (oq _ (by omega))
    have hKp := hKp.kept (oq _ (by omega))
    have hT8 := hT8.kept (oq _ (by omega))
    have hf := hf.put oq hsz (by omega)
    refine lv_aload_n hx hb dX5_save_51 rfl (lv_at hl 0 rfl) ?_
    refine j_get (T := TX5) (N := 16) (k := 7) hx hb hts hinX5 hown hw hO rfl (by decide) (hts (.fieldLink RX5 16 "NightTrainsModel" "now" "[I") (by decide +kernel)) rfl dX5_save_52 ?_
    refine lv_iconst (v := (nI (5))) hx hb dX5_save_55 (by decide) ?_
    refine j_iald hx hb hw hA (k := 5) rfl (by omega) (by omega) dX5_save_56 ?_
    refine j_eq (y := nI (σ.1 5)) (hR.n 5 (by omega)) ?_
    refine j_iret hx hb hr hlocks hH hw dX5_save_57 ?_
    have hK9 : Kep f4 f5 (fun j => if j = k then some σ else sv j) := by
      rw [ef5, ef4]
      exact Kep_save hkp hkn hR hN
    exact ⟨_, rfl, Or.inr ⟨k, hk, rfl, ⟨x3, x4, x5, x14, sn, sc, rd, nw, tr, dy, f4, f5, tk, hO, hSc, hRd, hA, hTr, hDy, hKp, hIk, hT8, ⟨hMI.1, hMI.2.1, hMI.2.2.1, hMI.2.2.2.1, hMI.2.2.2.2.1, hMI.2.2.2.2.2.1, hK9⟩⟩⟩, hf⟩
  · refine jz_eq (tgt := 15) hx hb dX5_save_8 (by decide) (by omega) (fun c8 => ?_) (fun c8 => absurd c8 (by omega))
    refine lv_iconst (v := (nI (1))) hx hb dX5_save_15 (by decide) ?_
    refine j_Vi (n := 1) (As := [.int (nI (1))]) hx hb hml hown hts hw (j_recv hw hO rfl) (c_X5_refused l g z H0 M (1) x0 (nI (tx.length)) x3 x4 x5 (nI (hi.length)) x14 _ hzM hO (by first | assumption | omega)) gX5_save_X5_refused rfl (by decide +kernel) ⟨Nat.le_of_ble_eq_true rfl, Nat.le_of_ble_eq_true rfl⟩ rfl hl.1 (Nat.le_of_ble_eq_true rfl) ⟨Nat.zero_le _, Nat.zero_le _⟩ dX5_save_16 (fun r6 H locs hr6 hw hsz => ?_) rfl
    obtain ⟨hr6, hO, hf2⟩ := hr6
    obtain rfl : r6 = nI 1 := hr6
    have hO : jO g H M 5 [.int (nI (1)), .ref (M + 1), .int (nI (tx.length)), .int x3, .int x4, .int x5, .ref (M + 2), .ref (M + 3), .ref (M + 4), .ref (M + 5), .int (nI (hi.length)), .ref (M + 6), .ref (M + 7), .ref (M + 8), .int x14, .int (bI sn)] := hO
    have hSc := hSc.kept (hf2.2 _ (by omega))
    have hRd := hRd.kept (hf2.2 _ (by omega))
    have hA := hA.kept (hf2.2 _ (by omega))
    have hTr := hTr.kept (hf2.2 _ (by omega))
    have hDy := hDy.kept (hf2.2 _ (by omega))
    have hKp := hKp.kept (hf2.2 _ (by omega))
    have hIk := hIk.kept (hf2.2 _ (by omega))
    have hT8 := hT8.kept (hf2.2 _ (by omega))
    have hf := hf.step hf2 (by omega)
    refine jz_eq (tgt := 24) hx hb dX5_save_19 (by decide) (by omega) (fun c19 => absurd c19 (by omega)) (fun c19 => ?_)
    refine lv_iconst (v := (nI (0))) hx hb dX5_save_22 (by decide) ?_
    refine j_iret hx hb hr hlocks hH hw dX5_save_23 ?_
    exact ⟨_, rfl, Or.inl ⟨hk, ⟨x3, x4, x5, x14, sn, sc, rd, nw, tr, dy, kp, ik, tk, hO, hSc, hRd, hA, hTr, hDy, hKp, hIk, hT8, hMI⟩⟩, hf⟩

abbrev q_X5_restore (g : jG) (H0 : Heap) (M : Nat) (asl : Int32) (x0 : Int32) (tx : List Nat) (σ : Sg) (hi : List Sg) (sv : Nat → Option Sg) : Option Value → Heap → Prop := jN (fun r H1 => ((ix asl 0 2 = none ∧ MD g H1 M (nI 1) tx σ hi sv) ∨ (∃ k, ix asl 0 2 = some k ∧ ((sv k = none ∧ MD g H1 M (nI 2) tx σ hi sv) ∨ (∃ s, sv k = some s ∧ r = nI (s.1 5) ∧ MD g H1 M (nI 0) tx s [] sv)))) ∧ jF M 9 H0 H1)
set_option maxHeartbeats 4000000 in
set_option maxRecDepth 100000 in
theorem c_X5_restore (l : Launch) (g : jG) (z : Nat) (H0 : Heap) (M : Nat) (asl : Int32) (x0 : Int32) (tx : List Nat) (σ : Sg) (hi : List Sg) (sv : Nat → Option Sg) (hzM : z ≤ M) (hMD : MD g H0 M x0 tx σ hi sv) : jM l g z yX5_restore wsX5_restore 1 25 [.ref M, .int asl] H0 (q_X5_restore g H0 M asl x0 tx σ hi sv) := by
  refine j_of (cc := cX5_restore) (n := 2) (ret := some .int) (by decide) rfl (Nat.le_of_ble_eq_true rfl) ?_
  intro p e s m below meth c hx hb hr hml hown hts hlocks hname hH hw ls hl
  have hl : lv_has ls 2 [(0, .ref M), (1, .int asl)] := hl
  have hinX5 : ∀ w ∈ u_ws RX5 TX5 16, w ∈ wsX5_restore := by decide +kernel
  have hf : jF M 9 H0 H0 := jF.rf
  obtain ⟨x3, x4, x5, x14, sn, sc, rd, nw, tr, dy, kp, ik, tk, hO, hSc, hRd, hA, hTr, hDy, hKp, hIk, hT8, hMI⟩ := hMD
  obtain ⟨htx, hsc, hR, hN, hhi, hdy, hkp⟩ := id hMI
  obtain ⟨hs, hcalm, h20⟩ := id hN
  refine lv_aload_n hx hb dX5_restore_0 rfl (lv_at hl 0 rfl) ?_
  refine lv_iload_n hx hb dX5_restore_1 rfl (lv_at hl 1 rfl) ?_
  refine lv_i2l (v := asl.toInt64) hx hb dX5_restore_2 rfl ?_
  refine lv_lconst (v := 0) hx hb dX5_restore_3 (by decide) ?_
  refine lv_lconst (v := 1) hx hb dX5_restore_4 (by decide) ?_
  refine j_Sp (n := 3) (As := [.long asl.toInt64, .long 0, .long 1]) hx hb hml hown hts hw (c_X5_in l g z H0 asl.toInt64 0 1   ) gX5_restore_X5_in rfl (by decide +kernel) ⟨Nat.le_of_ble_eq_true rfl, Nat.le_of_ble_eq_true rfl⟩ rfl hl.1 (Nat.le_of_ble_eq_true rfl) ⟨Nat.zero_le _, Nat.zero_le _⟩ dX5_restore_5 (fun r1 locs hr1 hw => ?_) rfl
  rcases in_ix (x := asl) (a := 0) (n := 2) (by decide) (by decide) hr1 with ⟨rfl, k, hk, hka, hkn, rfl⟩ | ⟨rfl, hk⟩
  · refine jz_ne (tgt := 15) hx hb dX5_restore_8 (by decide) (by omega) (fun c8 => ?_) (fun c8 => absurd c8 (by omega))
    rcases hkp k hkn with ⟨hsv, hik⟩ | ⟨s9, hsv, hik, hr9, hN9⟩
    · refine lv_aload_n hx hb dX5_restore_15 rfl (lv_at hl 0 rfl) ?_
      refine j_get (T := TX5) (N := 16) (k := 12) hx hb hts hinX5 hown hw hO rfl (by decide) (hts (.fieldLink RX5 28 "NightTrainsModel" "isKept" "[Z") (by decide +kernel)) rfl dX5_restore_16 ?_
      refine lv_iload_n hx hb dX5_restore_19 rfl (lv_at hl 1 rfl) ?_
      refine j_zald hx hb hw hIk (k := k) rfl (by omega) (by omega) dX5_restore_20 ?_
      refine j_eq (y := nI (0)) hik ?_
      refine jz_eq (tgt := 28) hx hb dX5_restore_21 (by decide) (by omega) (fun c21 => ?_) (fun c21 => absurd c21 (by omega))
      refine lv_iconst (v := (nI (2))) hx hb dX5_restore_28 (by decide) ?_
      refine j_Vi (n := 1) (As := [.int (nI (2))]) hx hb hml hown hts hw (j_recv hw hO rfl) (c_X5_refused l g z H0 M (2) x0 (nI (tx.length)) x3 x4 x5 (nI (hi.length)) x14 _ hzM hO (by first | assumption | omega)) gX5_restore_X5_refused rfl (by decide +kernel) ⟨Nat.le_of_ble_eq_true rfl, Nat.le_of_ble_eq_true rfl⟩ rfl hl.1 (Nat.le_of_ble_eq_true rfl) ⟨Nat.zero_le _, Nat.zero_le _⟩ dX5_restore_29 (fun r2 H locs hr2 hw hsz => ?_) rfl
      obtain ⟨hr2, hO, hf2⟩ := hr2
      obtain rfl : r2 = nI 1 := hr2
      have hO : jO g H M 5 [.int (nI (2)), .ref (M + 1), .int (nI (tx.length)), .int x3, .int x4, .int x5, .ref (M + 2), .ref (M + 3), .ref (M + 4), .ref (M + 5), .int (nI (hi.length)), .ref (M + 6), .ref (M + 7), .ref (M + 8), .int x14, .int (bI sn)] := hO
      have hSc := hSc.kept (hf2.2 _ (by omega))
      have hRd := hRd.kept (hf2.2 _ (by omega))
      have hA := hA.kept (hf2.2 _ (by omega))
      have hTr := hTr.kept (hf2.2 _ (by omega))
      have hDy := hDy.kept (hf2.2 _ (by omega))
      have hKp := hKp.kept (hf2.2 _ (by omega))
      have hIk := hIk.kept (hf2.2 _ (by omega))
      have hT8 := hT8.kept (hf2.2 _ (by omega))
      have hf := hf.step hf2 (by omega)
      refine jz_eq (tgt := 37) hx hb dX5_restore_32 (by decide) (by omega) (fun c32 => absurd c32 (by omega)) (fun c32 => ?_)
      refine lv_iconst (v := (nI (0))) hx hb dX5_restore_35 (by decide) ?_
      refine j_iret hx hb hr hlocks hH hw dX5_restore_36 ?_
      exact ⟨_, rfl, Or.inr ⟨k, hk, Or.inl ⟨hsv, ⟨x3, x4, x5, x14, sn, sc, rd, nw, tr, dy, kp, ik, tk, hO, hSc, hRd, hA, hTr, hDy, hKp, hIk, hT8, hMI⟩⟩⟩, hf⟩
    · refine lv_aload_n hx hb dX5_restore_15 rfl (lv_at hl 0 rfl) ?_
      refine j_get (T := TX5) (N := 16) (k := 12) hx hb hts hinX5 hown hw hO rfl (by decide) (hts (.fieldLink RX5 28 "NightTrainsModel" "isKept" "[Z") (by decide +kernel)) rfl dX5_restore_16 ?_
      refine lv_iload_n hx hb dX5_restore_19 rfl (lv_at hl 1 rfl) ?_
      refine j_zald hx hb hw hIk (k := k) rfl (by omega) (by omega) dX5_restore_20 ?_
      refine j_eq (y := nI (1)) hik ?_
      refine jz_eq (tgt := 28) hx hb dX5_restore_21 (by decide) (by omega) (fun c21 => absurd c21 (by omega)) (fun c21 => ?_)
      refine lv_iconst (v := (nI (0))) hx hb dX5_restore_24 (by decide) ?_
      refine lv_goto (tgt := 29) hx hb dX5_restore_25 (by decide) ?_
      refine j_Vi (n := 1) (As := [.int (nI (0))]) hx hb hml hown hts hw (j_recv hw hO rfl) (c_X5_refused l g z H0 M (0) x0 (nI (tx.length)) x3 x4 x5 (nI (hi.length)) x14 _ hzM hO (by first | assumption | omega)) gX5_restore_X5_refused rfl (by decide +kernel) ⟨Nat.le_of_ble_eq_true rfl, Nat.le_of_ble_eq_true rfl⟩ rfl hl.1 (Nat.le_of_ble_eq_true rfl) ⟨Nat.zero_le _, Nat.zero_le _⟩ dX5_restore_29 (fun r3 H locs hr3 hw hsz => ?_) rfl
      obtain ⟨hr3, hO, hf2⟩ := hr3
      obtain rfl : r3 = nI 0 := hr3
      have hO : jO g H M 5 [.int (nI (0)), .ref (M + 1), .int (nI (tx.length)), .int x3, .int x4, .int x5, .ref (M + 2), .ref (M + 3), .ref (M + 4), .ref (M + 5), .int (nI (hi.length)), .ref (M + 6), .ref (M + 7), .ref (M + 8), .int x14, .int (bI sn)] := hO
      have hSc := hSc.kept (hf2.2 _ (by omega))
      have hRd := hRd.kept (hf2.2 _ (by omega))
      have hA := hA.kept (hf2.2 _ (by omega))
      have hTr := hTr.kept (hf2.2 _ (by omega))
      have hDy := hDy.kept (hf2.2 _ (by omega))
      have hKp := hKp.kept (hf2.2 _ (by omega))
      have hIk := hIk.kept (hf2.2 _ (by omega))
      have hT8 := hT8.kept (hf2.2 _ (by omega))
      have hf := hf.step hf2 (by omega)
      refine jz_eq (tgt := 37) hx hb dX5_restore_32 (by decide) (by omega) (fun c32 => ?_) (fun c32 => absurd c32 (by omega))
      refine lv_aload_n hx hb dX5_restore_37 rfl (lv_at hl 0 rfl) ?_
      refine j_get (T := TX5) (N := 16) (k := 11) hx hb hts hinX5 hown hw hO rfl (by decide) (hts (.fieldLink RX5 25 "NightTrainsModel" "kept" "[I") (by decide +kernel)) rfl dX5_restore_38 ?_
      refine lv_sipush (v := (nI (235))) hx hb dX5_restore_41 (by decide) ?_
      refine lv_iload_n hx hb dX5_restore_44 rfl (lv_at hl 1 rfl) ?_
      refine j_mulN hx hb dX5_restore_45 ?_
      refine lv_aload_n hx hb dX5_restore_46 rfl (lv_at hl 0 rfl) ?_
      refine j_get (T := TX5) (N := 16) (k := 7) hx hb hts hinX5 hown hw hO rfl (by decide) (hts (.fieldLink RX5 16 "NightTrainsModel" "now" "[I") (by decide +kernel)) rfl dX5_restore_47 ?_
      refine lv_iconst (v := (nI (0))) hx hb dX5_restore_50 (by decide) ?_
      refine lv_sipush (v := (nI (235))) hx hb dX5_restore_51 (by decide) ?_
      refine j_Sv (n := 5) (As := [.ref (M + 6), .int (nI ((235 * k))), .ref (M + 3), .int (nI (0)), .int (nI (235))]) hx hb hml hown hts hw (c_X5_copyD l g z H (M + 6) ((235 * k)) (M + 3) (0) (235) 235 nw 470 kp (by omega) (by omega) hA hKp (by first | assumption | omega) (by first | assumption | omega) (by first | assumption | omega) (by first | assumption | omega)) gX5_restore_X5_copy rfl (by decide +kernel) ⟨Nat.le_of_ble_eq_true rfl, Nat.le_of_ble_eq_true rfl⟩ rfl hl.1 (Nat.le_of_ble_eq_true rfl) ⟨Nat.zero_le _, Nat.zero_le _⟩ dX5_restore_54 (fun H locs hr4 hw hsz => ?_) rfl
      obtain ⟨hA, hf2⟩ := hr4
      obtain ⟨f5, ef5⟩ : ∃ y9, y9 = va_cpy kp nw ((235 * k)) (0) (235) := ⟨_, rfl⟩
      rw [← ef5] at hA
      have hO := hO.kept (hf2.2 _ (by omega))
      have hSc := hSc.kept (hf2.2 _ (by omega))
      have hRd := hRd.kept (hf2.2 _ (by omega))
      have hTr := hTr.kept (hf2.2 _ (by omega))
      have hDy := hDy.kept (hf2.2 _ (by omega))
      have hKp := hKp.kept (hf2.2 _ (by omega))
      have hIk := hIk.kept (hf2.2 _ (by omega))
      have hT8 := hT8.kept (hf2.2 _ (by omega))
      have hf := hf.step hf2 (by omega)
      have hR9 : Row f5 s9 := by
        rw [ef5]
        refine hr9.cong hN9.1 (fun j hj => ?_)
        simp only [va_cpy]
        rw [if_pos (by omega)]
        congr 1
        all_goals omega
      refine lv_aload_n hx hb dX5_restore_57 rfl (lv_at hl 0 rfl) ?_
      refine lv_iconst (v := (nI (0))) hx hb dX5_restore_58 (by decide) ?_
      refine j_put (T := TX5) (N := 16) (k := 10) (ty := .int) hx hb hts hinX5 tyX5 tyX5_ok nmX5 hown hw hO hzM rfl (by decide) (hts (.fieldLink RX5 45 "NightTrainsModel" "acts" "I") (by decide +kernel)) rfl (by decide +kernel) rfl rfl (Nat.le_of_ble_eq_true rfl) dX5_restore_59 (fun H locs hw hO oq hsz => ?_)
      have hO : jO g H M 5 [.int _, .ref _, .int _, .int _, .int _, .int _, .ref _, .ref _, .ref _, .ref _, .int _, .ref _, .ref _, .ref _, .int _, .int _] := hO
      have hSc := hSc.kept (oq _ (by omega))
      have hRd := hRd.kept (oq _ (by omega))
      have hA := hA.kept (oq _ (by omega))
      have hTr := hTr.kept (oq _ (by omega))
      have hDy := hDy.kept (oq _ (by omega))
      have hKp := hKp.kept (oq _ (by omega))
      have hIk := hIk.kept (oq _ (by omega))
      have hT8 := hT8.kept (oq _ (by omega))
      have hf := hf.put oq hsz (by omega)
      refine lv_aload_n hx hb dX5_restore_62 rfl (lv_at hl 0 rfl) ?_
      refine j_get (T := TX5) (N := 16) (k := 7) hx hb hts hinX5 hown hw hO rfl (by decide) (hts (.fieldLink RX5 16 "NightTrainsModel" "now" "[I") (by decide +kernel)) rfl dX5_restore_63 ?_
      refine lv_iconst (v := (nI (5))) hx hb dX5_restore_66 (by decide) ?_
      refine j_iald hx hb hw hA (k := 5) rfl (by omega) (by omega) dX5_restore_67 ?_
      refine j_eq (y := nI (s9.1 5)) (hR9.n 5 (by omega)) ?_
      refine j_iret hx hb hr hlocks hH hw dX5_restore_68 ?_
      exact ⟨_, rfl, Or.inr ⟨k, hk, Or.inr ⟨s9, hsv, rfl, ⟨x3, x4, x5, x14, sn, sc, rd, f5, tr, dy, kp, ik, tk, hO, hSc, hRd, hA, hTr, hDy, hKp, hIk, hT8, (hMI.acts hR9 hN9 (hi' := []) (Nat.zero_le _) (fun i s h => by cases i <;> cases h))⟩⟩⟩, hf⟩
  · refine jz_ne (tgt := 15) hx hb dX5_restore_8 (by decide) (by omega) (fun c8 => absurd c8 (by omega)) (fun c8 => ?_)
    refine lv_iconst (v := (nI (1))) hx hb dX5_restore_11 (by decide) ?_
    refine lv_goto (tgt := 29) hx hb dX5_restore_12 (by decide) ?_
    refine j_Vi (n := 1) (As := [.int (nI (1))]) hx hb hml hown hts hw (j_recv hw hO rfl) (c_X5_refused l g z H0 M (1) x0 (nI (tx.length)) x3 x4 x5 (nI (hi.length)) x14 _ hzM hO (by first | assumption | omega)) gX5_restore_X5_refused rfl (by decide +kernel) ⟨Nat.le_of_ble_eq_true rfl, Nat.le_of_ble_eq_true rfl⟩ rfl hl.1 (Nat.le_of_ble_eq_true rfl) ⟨Nat.zero_le _, Nat.zero_le _⟩ dX5_restore_29 (fun r6 H locs hr6 hw hsz => ?_) rfl
    obtain ⟨hr6, hO, hf2⟩ := hr6
    obtain rfl : r6 = nI 1 := hr6
    have hO : jO g H M 5 [.int (nI (1)), .ref (M + 1), .int (nI (tx.length)), .int x3, .int x4, .int x5, .ref (M + 2), .ref (M + 3), .ref (M + 4), .ref (M + 5), .int (nI (hi.length)), .ref (M + 6), .ref (M + 7), .ref (M + 8), .int x14, .int (bI sn)] := hO
    have hSc := hSc.kept (hf2.2 _ (by omega))
    have hRd := hRd.kept (hf2.2 _ (by omega))
    have hA := hA.kept (hf2.2 _ (by omega))
    have hTr := hTr.kept (hf2.2 _ (by omega))
    have hDy := hDy.kept (hf2.2 _ (by omega))
    have hKp := hKp.kept (hf2.2 _ (by omega))
    have hIk := hIk.kept (hf2.2 _ (by omega))
    have hT8 := hT8.kept (hf2.2 _ (by omega))
    have hf := hf.step hf2 (by omega)
    refine jz_eq (tgt := 37) hx hb dX5_restore_32 (by decide) (by omega) (fun c32 => absurd c32 (by omega)) (fun c32 => ?_)
    refine lv_iconst (v := (nI (0))) hx hb dX5_restore_35 (by decide) ?_
    refine j_iret hx hb hr hlocks hH hw dX5_restore_36 ?_
    exact ⟨_, rfl, Or.inl ⟨hk, ⟨x3, x4, x5, x14, sn, sc, rd, nw, tr, dy, kp, ik, tk, hO, hSc, hRd, hA, hTr, hDy, hKp, hIk, hT8, hMI⟩⟩, hf⟩
