abbrev q_X5_simulate (g : jG) (H0 : Heap) (M : Nat) (seed : Int64) (am : Int32) (x0 : Int32) (tx : List Nat) (σ : Sg) (hi : List Sg) (sv : Nat → Option Sg) : Option Value → Heap → Prop := jN (fun r H1 => ((fSim σ seed am).1 = 0 → r = (fSim σ seed am).2) ∧ MD g H1 M (nI (fSim σ seed am).1) tx σ hi sv ∧ jF M 9 H0 H1)
set_option maxHeartbeats 4000000 in
set_option maxRecDepth 100000 in
theorem c_X5_simulate (l : Launch) (g : jG) (z : Nat) (H0 : Heap) (M : Nat) (seed : Int64) (am : Int32) (x0 : Int32) (tx : List Nat) (σ : Sg) (hi : List Sg) (sv : Nat → Option Sg) (hzM : z ≤ M) (hMD : MD g H0 M x0 tx σ hi sv) : jM l g z yX5_simulate wsX5_simulate 5 111 [.ref M, .long seed, .int am] H0 (q_X5_simulate g H0 M seed am x0 tx σ hi sv) := by
  refine j_of (cc := cX5_simulate) (n := 8) (ret := some .int) (by decide) rfl (Nat.le_of_ble_eq_true rfl) ?_
  intro p e s m below meth c hx hb hr hml hown hts hlocks hname hH hw ls hl
  have hl : lv_has ls 8 [(0, .ref M), (1, .long seed), (3, .int am)] := hl
  have hinX5 : ∀ w ∈ u_ws RX5 TX5 16, w ∈ wsX5_simulate := by decide +kernel
  have hf : jF M 9 H0 H0 := jF.rf
  obtain ⟨x3, x4, x5, x14, sn, sc, rd, nw, tr, dy, kp, ik, tk, hO, hSc, hRd, hA, hTr, hDy, hKp, hIk, hT8, hMI⟩ := hMD
  obtain ⟨htx, hsc, hR, hN, hhi, hdy, hkp⟩ := id hMI
  obtain ⟨hs, hcalm, h20⟩ := id hN
  refine lv_aload_n hx hb dX5_simulate_0 rfl (lv_at hl 0 rfl) ?_
  refine lv_iload_n hx hb dX5_simulate_1 rfl (lv_at hl 2 rfl) ?_
  refine lv_i2l (v := am.toInt64) hx hb dX5_simulate_2 rfl ?_
  refine lv_lconst (v := 1) hx hb dX5_simulate_3 (by decide) ?_
  refine lv_ldc2 (v := 99) hx hb hown (hts (.constantLong RX5 265 (99)) (by decide +kernel)) dX5_simulate_4 ?_
  refine j_Sp (n := 3) (As := [.long am.toInt64, .long 1, .long 99]) hx hb hml hown hts hw (c_X5_in l g z H0 am.toInt64 1 99   ) gX5_simulate_X5_in rfl (by decide +kernel) ⟨Nat.le_of_ble_eq_true rfl, Nat.le_of_ble_eq_true rfl⟩ rfl hl.1 (Nat.le_of_ble_eq_true rfl) ⟨Nat.zero_le _, Nat.zero_le _⟩ dX5_simulate_7 (fun r1 locs hr1 hw => ?_) rfl
  rcases in_ix (x := am) (a := 1) (n := 100) (by decide) (by decide) hr1 with ⟨rfl, k, hk, hka, hkn, rfl⟩ | ⟨rfl, hk⟩
  · refine jz_eq (tgt := 17) hx hb dX5_simulate_10 (by decide) (by omega) (fun c10 => absurd c10 (by omega)) (fun c10 => ?_)
    refine lv_iconst (v := (nI (0))) hx hb dX5_simulate_13 (by decide) ?_
    refine lv_goto (tgt := 18) hx hb dX5_simulate_14 (by decide) ?_
    refine j_Vi (n := 1) (As := [.int (nI (0))]) hx hb hml hown hts hw (j_recv hw hO rfl) (c_X5_refused l g z H0 M (0) x0 (nI (tx.length)) x3 x4 x5 (nI (hi.length)) x14 _ hzM hO (by first | assumption | omega)) gX5_simulate_X5_refused rfl (by decide +kernel) ⟨Nat.le_of_ble_eq_true rfl, Nat.le_of_ble_eq_true rfl⟩ rfl hl.1 (Nat.le_of_ble_eq_true rfl) ⟨Nat.zero_le _, Nat.zero_le _⟩ dX5_simulate_18 (fun r2 H locs hr2 hw hsz => ?_) rfl
    obtain ⟨hr2, hO, hf2⟩ := hr2
    obtain rfl : r2 = nI 0 := hr2
    have hO : jO g H M 5 [.int (nI (0)), .ref (M + 1), .int (nI (tx.length)), .int x3, .int x4, .int x5, .ref (M + 2), .ref (M + 3), .ref (M + 4), .ref (M + 5), .int (nI (hi.length)), .ref (M + 6), .ref (M + 7), .ref (M + 8), .int x14, .int (bI sn)] := hO
    have hSc := hSc.kept (hf2.2 _ (by omega))
    have hRd := hRd.kept (hf2.2 _ (by omega))
    have hA := hA.kept (hf2.2 _ (by omega))
    have hTr := hTr.kept (hf2.2 _ (by omega))
    have hDy := hDy.kept (hf2.2 _ (by omega))
    have hKp := hKp.kept (hf2.2 _ (by omega))
    have hIk := hIk.kept (hf2.2 _ (by omega))
    have hT8 := hT8.kept (hf2.2 _ (by omega))
    have hf := hf.step hf2 (by omega)
    refine jz_eq (tgt := 26) hx hb dX5_simulate_21 (by decide) (by omega) (fun c21 => ?_) (fun c21 => absurd c21 (by omega))
    refine lv_aload_n hx hb dX5_simulate_26 rfl (lv_at hl 0 rfl) ?_
    refine j_Vv (n := 0) (As := []) hx hb hml hown hts hw (j_recv hw hO rfl) (c_X5_tryIt l g z H M (σ) nw tr (nI (0)) (nI (tx.length)) x3 x4 x5 (nI (hi.length)) x14 _ hzM hTr hO hA hR hs) gX5_simulate_X5_tryIt rfl (by decide +kernel) ⟨Nat.le_of_ble_eq_true rfl, Nat.le_of_ble_eq_true rfl⟩ rfl hl.1 (Nat.le_of_ble_eq_true rfl) ⟨Nat.zero_le _, Nat.zero_le _⟩ dX5_simulate_27 (fun H locs hr3 hw hsz => ?_) rfl
    obtain ⟨⟨f4, hTr, hRt⟩, hst, hf2⟩ := hr3
    have hO := hO.kept (hf2.2 _ (by omega))
    have hSc := hSc.kept (hf2.2 _ (by omega))
    have hRd := hRd.kept (hf2.2 _ (by omega))
    have hA := hA.kept (hf2.2 _ (by omega))
    have hDy := hDy.kept (hf2.2 _ (by omega))
    have hKp := hKp.kept (hf2.2 _ (by omega))
    have hIk := hIk.kept (hf2.2 _ (by omega))
    have hT8 := hT8.kept (hf2.2 _ (by omega))
    have hf := hf.step hf2 (by omega)
    refine lv_lload_n hx hb dX5_simulate_30 rfl (lv_at hl 1 rfl) ?_
    refine lv_lstore (lv' := [(4, .long _), (0, .ref _), (1, .long _), (3, .int _)]) hx hb dX5_simulate_31 hl (by decide) rfl (fun ls hl => ?_)
    refine lv_iconst (v := (nI (0))) hx hb dX5_simulate_33 (by decide) ?_
    refine lv_istore (lv' := [(6, .int _), (4, .long _), (0, .ref _), (1, .long _), (3, .int _)]) hx hb dX5_simulate_34 hl (by decide) rfl (fun ls hl => ?_)
    have lp36 : ∀ (n36 : Nat) (j : Nat) (d : Nat) (x : Int64) (σk : Sg) (ft : Nat → Int32) (y14 : Int32) (b : Bool) (tk : Nat → Int32) (hjd : j + d = k) (hG : sim d x σk = sim k seed σ) (hcm : ∀ o ∈ σk.2.2.1, o 4 < 9) (hRt : Row ft σk) (hst : okS σk) (hmu36 : d < n36) (H : Heap) (locs : List Loc) (hw : jW g z s H locs) (hf : jF M 9 H0 H) (hSc : jI g H (M + 1) 120 sc) (hRd : jI g H (M + 2) 235 rd) (hA : jI g H (M + 3) 235 nw) (hDy : jI g H (M + 5) 3290 dy) (hKp : jI g H (M + 6) 470 kp) (hIk : jZ g H (M + 7) 2 ik) (hTr : jI g H (M + 4) 235 ft) (hO : jO g H M 5 [.int (nI (0)), .ref (M + 1), .int (nI (tx.length)), .int x3, .int x4, .int x5, .ref (M + 2), .ref (M + 3), .ref (M + 4), .ref (M + 5), .int (nI (hi.length)), .ref (M + 6), .ref (M + 7), .ref (M + 8), .int y14, .int (bI b)]) (hT8 : jI g H (M + 8) 16 tk) (ls : Array Slot) (hl : lv_has ls 8 [(0, .ref M), (3, .int (nI (k))), (4, .long x), (6, .int (nI (j)))]), jK p l e 5 111 s m [.ref M, .long seed, .int (nI (k))] below meth c z H0 (q_X5_simulate g H0 M seed (nI (k)) x0 tx σ hi sv) H locs (F0 m 36 ls []) := by
      intro n36
      induction n36 with
      | zero => intros; omega
      | succ n36 ih36 =>
        intro j d x σk ft y14 b tk hjd hG hcm hRt hst hmu36 H locs hw hf hSc hRd hA hDy hKp hIk hTr hO hT8 ls hl
        have hs9 := hst
        refine lv_iload hx hb dX5_simulate_36 (lv_at hl 3 rfl) ?_
        refine lv_iload_n hx hb dX5_simulate_38 rfl (lv_at hl 1 rfl) ?_
        refine jn_ge (tgt := 145) hx hb dX5_simulate_39 (by decide) (by omega) (by omega) (fun c39 => ?_) (fun c39 => ?_)
        · obtain rfl : d = 0 := (by omega)
          have hG : σk = sim k seed σ := (sim_0 x σk).symm.trans hG
          subst hG
          have hn21 := hst.2.2.1
          refine lv_sipush (v := (nI (10000))) hx hb dX5_simulate_145 (by decide) ?_
          refine lv_aload_n hx hb dX5_simulate_148 rfl (lv_at hl 0 rfl) ?_
          refine j_get (T := TX5) (N := 16) (k := 8) hx hb hts hinX5 hown hw hO rfl (by decide) (hts (.fieldLink RX5 19 "NightTrainsModel" "trial" "[I") (by decide +kernel)) rfl dX5_simulate_149 ?_
          refine lv_bipush (v := (nI (7))) hx hb dX5_simulate_152 (by decide) ?_
          refine j_iald hx hb hw hTr (k := 7) rfl (by omega) (by omega) dX5_simulate_154 ?_
          refine j_eq (y := (nI ((sim k seed σ).1 7))) (hRt.n 7 (by omega)) ?_
          refine lv_aload_n hx hb dX5_simulate_155 rfl (lv_at hl 0 rfl) ?_
          refine j_get (T := TX5) (N := 16) (k := 7) hx hb hts hinX5 hown hw hO rfl (by decide) (hts (.fieldLink RX5 16 "NightTrainsModel" "now" "[I") (by decide +kernel)) rfl dX5_simulate_156 ?_
          refine lv_bipush (v := (nI (7))) hx hb dX5_simulate_159 (by decide) ?_
          refine j_iald hx hb hw hA (k := 7) rfl (by omega) (by omega) dX5_simulate_161 ?_
          refine j_eq (y := (nI (σ.1 7))) (hR.n 7 (by omega)) ?_
          refine lv_isub hx hb dX5_simulate_162 ?_
          refine lv_imul hx hb dX5_simulate_163 ?_
          refine lv_bipush (v := (nI (100))) hx hb dX5_simulate_164 (by decide) ?_
          refine lv_aload_n hx hb dX5_simulate_166 rfl (lv_at hl 0 rfl) ?_
          refine j_get (T := TX5) (N := 16) (k := 8) hx hb hts hinX5 hown hw hO rfl (by decide) (hts (.fieldLink RX5 19 "NightTrainsModel" "trial" "[I") (by decide +kernel)) rfl dX5_simulate_167 ?_
          refine lv_bipush (v := (nI (8))) hx hb dX5_simulate_170 (by decide) ?_
          refine j_iald hx hb hw hTr (k := 8) rfl (by omega) (by omega) dX5_simulate_172 ?_
          refine j_eq (y := (nI ((sim k seed σ).1 8))) (hRt.n 8 (by omega)) ?_
          refine lv_aload_n hx hb dX5_simulate_173 rfl (lv_at hl 0 rfl) ?_
          refine j_get (T := TX5) (N := 16) (k := 7) hx hb hts hinX5 hown hw hO rfl (by decide) (hts (.fieldLink RX5 16 "NightTrainsModel" "now" "[I") (by decide +kernel)) rfl dX5_simulate_174 ?_
          refine lv_bipush (v := (nI (8))) hx hb dX5_simulate_177 (by decide) ?_
          refine j_iald hx hb hw hA (k := 8) rfl (by omega) (by omega) dX5_simulate_179 ?_
          refine j_eq (y := (nI (σ.1 8))) (hR.n 8 (by omega)) ?_
          refine lv_isub hx hb dX5_simulate_180 ?_
          refine lv_imul hx hb dX5_simulate_181 ?_
          refine lv_iadd hx hb dX5_simulate_182 ?_
          refine lv_aload_n hx hb dX5_simulate_183 rfl (lv_at hl 0 rfl) ?_
          refine j_get (T := TX5) (N := 16) (k := 8) hx hb hts hinX5 hown hw hO rfl (by decide) (hts (.fieldLink RX5 19 "NightTrainsModel" "trial" "[I") (by decide +kernel)) rfl dX5_simulate_184 ?_
          refine lv_bipush (v := (nI (6))) hx hb dX5_simulate_187 (by decide) ?_
          refine j_iald hx hb hw hTr (k := 6) rfl (by omega) (by omega) dX5_simulate_189 ?_
          refine j_eq (y := (nI (sim k seed σ).2.2.1.length)) hRt.2.2.1 ?_
          refine lv_iadd hx hb dX5_simulate_190 ?_
          refine j_iret hx hb hr hlocks hH hw dX5_simulate_191 ?_
          have e9 : fSim σ seed (nI (k)) = (0, nI 10000 * (nI ((sim k seed σ).1 7) - nI (σ.1 7)) + nI 100 * (nI ((sim k seed σ).1 8) - nI (σ.1 8)) + nI (sim k seed σ).2.2.1.length) := by simp only [fSim, hk]
          exact ⟨_, rfl, by rw [e9]; exact ⟨fun _ => rfl, ⟨x3, x4, x5, y14, b, sc, rd, nw, ft, dy, kp, ik, tk, hO, hSc, hRd, hA, hTr, hDy, hKp, hIk, hT8, hMI⟩, hf⟩⟩
        · obtain ⟨d, rfl⟩ : ∃ d1, d = d1 + 1 := ⟨d - 1, by omega⟩
          refine lv_lload hx hb dX5_simulate_42 (lv_at hl 2 rfl) ?_
          refine lv_ldc2 (v := 6364136223846793005) hx hb hown (hts (.constantLong RX5 267 (6364136223846793005)) (by decide +kernel)) dX5_simulate_44 ?_
          refine lv_lmul hx hb dX5_simulate_47 ?_
          refine lv_ldc2 (v := 1442695040888963407) hx hb hown (hts (.constantLong RX5 269 (1442695040888963407)) (by decide +kernel)) dX5_simulate_48 ?_
          refine lv_ladd hx hb dX5_simulate_51 ?_
          refine j_gl (fun y hy => ?_)
          have hr31 := rOf_lt y
          refine lv_lstore (lv' := [(4, .long _), (0, .ref _), (3, .int _), (6, .int _)]) hx hb dX5_simulate_52 hl (by decide) rfl (fun ls hl => ?_)
          refine lv_lload hx hb dX5_simulate_54 (lv_at hl 0 rfl) ?_
          refine lv_bipush (v := (nI (33))) hx hb dX5_simulate_56 (by decide) ?_
          refine lv_lushr (v := ((y).toUInt64 >>> (((nI (33))).toInt64.toUInt64 &&& Int64.toUInt64 63)).toInt64) hx hb dX5_simulate_58 rfl ?_
          refine lv_l2i (v := nI (rOf y)) hx hb dX5_simulate_59 (rOf_eq _) ?_
          refine lv_istore (lv' := [(7, .int _), (4, .long _), (0, .ref _), (3, .int _), (6, .int _)]) hx hb dX5_simulate_60 hl (by decide) rfl (fun ls hl => ?_)
          refine lv_aload_n hx hb dX5_simulate_62 rfl (lv_at hl 2 rfl) ?_
          refine lv_iload hx hb dX5_simulate_63 (lv_at hl 0 rfl) ?_
          refine lv_iconst (v := (nI (4))) hx hb dX5_simulate_65 (by decide) ?_
          refine j_remN hx hb (by omega) (by omega) (by omega) dX5_simulate_66 ?_
          refine lv_iload hx hb dX5_simulate_67 (lv_at hl 0 rfl) ?_
          refine lv_iconst (v := (nI (4))) hx hb dX5_simulate_69 (by decide) ?_
          refine j_divN hx hb (by omega) (by omega) (by omega) dX5_simulate_70 ?_
          refine lv_bipush (v := (nI (16))) hx hb dX5_simulate_71 (by decide) ?_
          refine j_remN hx hb (by omega) (by omega) (by omega) dX5_simulate_73 ?_
          refine lv_iload hx hb dX5_simulate_74 (lv_at hl 0 rfl) ?_
          refine lv_bipush (v := (nI (64))) hx hb dX5_simulate_76 (by decide) ?_
          refine j_divN hx hb (by omega) (by omega) (by omega) dX5_simulate_78 ?_
          refine lv_bipush (v := (nI (8))) hx hb dX5_simulate_79 (by decide) ?_
          refine j_remN hx hb (by omega) (by omega) (by omega) dX5_simulate_81 ?_
          refine lv_iload hx hb dX5_simulate_82 (lv_at hl 0 rfl) ?_
          refine lv_sipush (v := (nI (512))) hx hb dX5_simulate_84 (by decide) ?_
          refine j_divN hx hb (by omega) (by omega) (by omega) dX5_simulate_87 ?_
          refine lv_bipush (v := (nI (10))) hx hb dX5_simulate_88 (by decide) ?_
          refine j_remN hx hb (by omega) (by omega) (by omega) dX5_simulate_90 ?_
          refine j_Vi (n := 4) (As := [.int (nI ((rOf y % 4))), .int (nI (((rOf y / 4) % 16))), .int (nI (((rOf y / 64) % 8))), .int (nI (((rOf y / 512) % 10)))]) hx hb hml hown hts hw (j_recv hw hO rfl) (c_X5_asks l g z H M ((rOf y % 4)) (((rOf y / 4) % 16)) (((rOf y / 64) % 8)) (((rOf y / 512) % 10)) (σk) ft (nI (0)) (nI (tx.length)) x3 x4 x5 (nI (hi.length)) y14 b hzM hO hTr hRt hst (by omega) (by omega) (by omega) (by omega)) gX5_simulate_X5_asks rfl (by decide +kernel) ⟨Nat.le_of_ble_eq_true rfl, Nat.le_of_ble_eq_true rfl⟩ rfl hl.1 (Nat.le_of_ble_eq_true rfl) ⟨Nat.zero_le _, Nat.zero_le _⟩ dX5_simulate_91 (fun r5 H locs hr5 hw hsz => ?_) rfl
          obtain ⟨-, hto⟩ := hr5
          obtain ⟨⟨f6, hTr, hRt⟩, hst, hf2⟩ := hto
          have hO := hO.kept (hf2.2 _ (by omega))
          have hSc := hSc.kept (hf2.2 _ (by omega))
          have hRd := hRd.kept (hf2.2 _ (by omega))
          have hA := hA.kept (hf2.2 _ (by omega))
          have hDy := hDy.kept (hf2.2 _ (by omega))
          have hKp := hKp.kept (hf2.2 _ (by omega))
          have hIk := hIk.kept (hf2.2 _ (by omega))
          have hT8 := hT8.kept (hf2.2 _ (by omega))
          have hf := hf.step hf2 (by omega)
          have hRt : Row f6 (day1 σk (rOf y)) := hRt
          have hst : okS (day1 σk (rOf y)) := hst
          have hc1 := okC_day1 (show okC σk from ⟨hs9, hcm⟩) (rOf y)
          refine lv_pop hx hb dX5_simulate_94 rfl ?_
          refine lv_iload hx hb dX5_simulate_95 (lv_at hl 0 rfl) ?_
          refine lv_sipush (v := (nI (8192))) hx hb dX5_simulate_97 (by decide) ?_
          refine j_divN hx hb (by omega) (by omega) (by omega) dX5_simulate_100 ?_
          refine lv_iconst (v := (nI (4))) hx hb dX5_simulate_101 (by decide) ?_
          refine j_remN hx hb (by omega) (by omega) (by omega) dX5_simulate_102 ?_
          refine jz_ne (tgt := 120) hx hb dX5_simulate_103 (by decide) (by omega) (fun c103 => ?_) (fun c103 => ?_)
          · have hd2 : day2 σk (rOf y) = (day1 σk (rOf y)) := by unfold day2; exact if_neg c103
            have hRt : Row f6 (day2 σk (rOf y)) := by rw [hd2]; exact hRt
            have hst : okS (day2 σk (rOf y)) := by rw [hd2]; exact hst
            have hc2 := okC_day2 (show okC σk from ⟨hs9, hcm⟩) (rOf y)
            refine lv_iload hx hb dX5_simulate_120 (lv_at hl 0 rfl) ?_
            refine lv_ldcw (v := 1048576) hx hb hown (hts (.constant RX5 272 (1048576)) (by decide +kernel)) dX5_simulate_122 ?_
            refine j_eq (y := nI 1048576) (by decide) ?_
            refine j_divN hx hb (by omega) (by omega) (by omega) dX5_simulate_125 ?_
            refine lv_iconst (v := (nI (2))) hx hb dX5_simulate_126 (by decide) ?_
            refine j_remN hx hb (by omega) (by omega) (by omega) dX5_simulate_127 ?_
            refine jz_ne (tgt := 139) hx hb dX5_simulate_128 (by decide) (by omega) (fun c128 => ?_) (fun c128 => ?_)
            · have hd3 : day σk (rOf y) = (day2 σk (rOf y)) := by unfold day; exact if_neg c128
              have hRt : Row f6 (day σk (rOf y)) := by rw [hd3]; exact hRt
              have hst : okS (day σk (rOf y)) := by rw [hd3]; exact hst
              have hc3 := okC_day (show okC σk from ⟨hs9, hcm⟩) (rOf y)
              refine lv_iinc (v := nI (j + 1)) (lv' := [(6, .int _), (7, .int _), (4, .long _), (0, .ref _), (3, .int _)]) hx hb dX5_simulate_139 hl (k := 4) rfl (nI_add _ 1) (by decide) rfl (fun ls hl => ?_)
              refine lv_goto (tgt := 36) hx hb dX5_simulate_142 (by decide) ?_
              exact ih36  (j + 1) d y (day σk (rOf y)) f6 y14 b tk (by first | assumption | omega) (sim_st hy hG) hc3.2 hRt hst (by omega) H _ hw hf hSc hRd hA hDy hKp hIk hTr hO hT8 _ (lv_sub hl [3, 4, 2, 0] rfl)
            · refine lv_aload_n hx hb dX5_simulate_131 rfl (lv_at hl 2 rfl) ?_
              refine lv_aload_n hx hb dX5_simulate_132 rfl (lv_at hl 2 rfl) ?_
              refine j_get (T := TX5) (N := 16) (k := 8) hx hb hts hinX5 hown hw hO rfl (by decide) (hts (.fieldLink RX5 19 "NightTrainsModel" "trial" "[I") (by decide +kernel)) rfl dX5_simulate_133 ?_
              refine j_Vv (n := 1) (As := [.ref (M + 4)]) hx hb hml hown hts hw (j_recv hw hO rfl) (c_X5_night l g z H M (M + 4) ((day2 σk (rOf y))) f6 (nI (0)) (nI (tx.length)) x3 x4 x5 (nI (hi.length)) y14 b tk hzM (by omega) (by omega) hO hTr hT8 hRt hst hc2.2) gX5_simulate_X5_night rfl (by decide +kernel) ⟨Nat.le_of_ble_eq_true rfl, Nat.le_of_ble_eq_true rfl⟩ rfl hl.1 (Nat.le_of_ble_eq_true rfl) ⟨Nat.zero_le _, Nat.zero_le _⟩ dX5_simulate_136 (fun H locs hr7 hw hsz => ?_) rfl
              obtain ⟨⟨⟨f8, hTr, hRt⟩, hst, hf2⟩, hO, tk9, hT8, htk9⟩ := hr7
              have hSc := hSc.kept (hf2.2 _ (by omega) (by omega) (by omega))
              have hRd := hRd.kept (hf2.2 _ (by omega) (by omega) (by omega))
              have hA := hA.kept (hf2.2 _ (by omega) (by omega) (by omega))
              have hDy := hDy.kept (hf2.2 _ (by omega) (by omega) (by omega))
              have hKp := hKp.kept (hf2.2 _ (by omega) (by omega) (by omega))
              have hIk := hIk.kept (hf2.2 _ (by omega) (by omega) (by omega))
              have hf := hf.three hf2 (by omega) (by omega) (by omega)
              have hd3 : day σk (rOf y) = (nightS ((day2 σk (rOf y)))) := by unfold day; exact if_pos c128
              have hRt : Row f8 (day σk (rOf y)) := by rw [hd3]; exact hRt
              have hst : okS (day σk (rOf y)) := by rw [hd3]; exact hst
              have hc3 := okC_day (show okC σk from ⟨hs9, hcm⟩) (rOf y)
              refine lv_iinc (v := nI (j + 1)) (lv' := [(6, .int _), (7, .int _), (4, .long _), (0, .ref _), (3, .int _)]) hx hb dX5_simulate_139 hl (k := 4) rfl (nI_add _ 1) (by decide) rfl (fun ls hl => ?_)
              refine lv_goto (tgt := 36) hx hb dX5_simulate_142 (by decide) ?_
              exact ih36  (j + 1) d y (day σk (rOf y)) f8 (nI ((trl (((day2 σk (rOf y))).1 0) ((day2 σk (rOf y)))).length)) (b || trw (((day2 σk (rOf y))).1 0) ((day2 σk (rOf y)))) tk9 (by first | assumption | omega) (sim_st hy hG) hc3.2 hRt hst (by omega) H _ hw hf hSc hRd hA hDy hKp hIk hTr hO hT8 _ (lv_sub hl [3, 4, 2, 0] rfl)
          · refine lv_aload_n hx hb dX5_simulate_106 rfl (lv_at hl 2 rfl) ?_
            refine lv_iload hx hb dX5_simulate_107 (lv_at hl 0 rfl) ?_
            refine lv_ldcw (v := 32768) hx hb hown (hts (.constant RX5 271 (32768)) (by decide +kernel)) dX5_simulate_109 ?_
            refine j_eq (y := nI 32768) (by decide) ?_
            refine j_divN hx hb (by omega) (by omega) (by omega) dX5_simulate_112 ?_
            refine lv_bipush (v := (nI (20))) hx hb dX5_simulate_113 (by decide) ?_
            refine j_remN hx hb (by omega) (by omega) (by omega) dX5_simulate_115 ?_
            refine j_Vi (n := 1) (As := [.int (nI (((rOf y / 32768) % 20)))]) hx hb hml hown hts hw (j_recv hw hO rfl) (c_X5_cancels l g z H M (((rOf y / 32768) % 20)) ((day1 σk (rOf y))) f6 (nI (0)) (nI (tx.length)) x3 x4 x5 (nI (hi.length)) y14 b hzM hO hTr hRt hst (by omega)) gX5_simulate_X5_cancels rfl (by decide +kernel) ⟨Nat.le_of_ble_eq_true rfl, Nat.le_of_ble_eq_true rfl⟩ rfl hl.1 (Nat.le_of_ble_eq_true rfl) ⟨Nat.zero_le _, Nat.zero_le _⟩ dX5_simulate_116 (fun r10 H locs hr10 hw hsz => ?_) rfl
            obtain ⟨-, hto⟩ := hr10
            obtain ⟨⟨f11, hTr, hRt⟩, hst, hf2⟩ := hto
            have hO := hO.kept (hf2.2 _ (by omega))
            have hSc := hSc.kept (hf2.2 _ (by omega))
            have hRd := hRd.kept (hf2.2 _ (by omega))
            have hA := hA.kept (hf2.2 _ (by omega))
            have hDy := hDy.kept (hf2.2 _ (by omega))
            have hKp := hKp.kept (hf2.2 _ (by omega))
            have hIk := hIk.kept (hf2.2 _ (by omega))
            have hT8 := hT8.kept (hf2.2 _ (by omega))
            have hf := hf.step hf2 (by omega)
            refine lv_pop hx hb dX5_simulate_119 rfl ?_
            have hd2 : day2 σk (rOf y) = (((tCancel (day1 σk (rOf y)) (rOf y / 32768 % 20)).getD (day1 σk (rOf y)))) := by unfold day2; exact if_pos c103
            have hRt : Row f11 (day2 σk (rOf y)) := by rw [hd2]; exact hRt
            have hst : okS (day2 σk (rOf y)) := by rw [hd2]; exact hst
            have hc2 := okC_day2 (show okC σk from ⟨hs9, hcm⟩) (rOf y)
            refine lv_iload hx hb dX5_simulate_120 (lv_at hl 0 rfl) ?_
            refine lv_ldcw (v := 1048576) hx hb hown (hts (.constant RX5 272 (1048576)) (by decide +kernel)) dX5_simulate_122 ?_
            refine j_eq (y := nI 1048576) (by decide) ?_
            refine j_divN hx hb (by omega) (by omega) (by omega) dX5_simulate_125 ?_
            refine lv_iconst (v := (nI (2))) hx hb dX5_simulate_126 (by decide) ?_
            refine j_remN hx hb (by omega) (by omega) (by omega) dX5_simulate_127 ?_
            refine jz_ne (tgt := 139) hx hb dX5_simulate_128 (by decide) (by omega) (fun c128 => ?_) (fun c128 => ?_)
            · have hd3 : day σk (rOf y) = (day2 σk (rOf y)) := by unfold day; exact if_neg c128
              have hRt : Row f11 (day σk (rOf y)) := by rw [hd3]; exact hRt
              have hst : okS (day σk (rOf y)) := by rw [hd3]; exact hst
              have hc3 := okC_day (show okC σk from ⟨hs9, hcm⟩) (rOf y)
              refine lv_iinc (v := nI (j + 1)) (lv' := [(6, .int _), (7, .int _), (4, .long _), (0, .ref _), (3, .int _)]) hx hb dX5_simulate_139 hl (k := 4) rfl (nI_add _ 1) (by decide) rfl (fun ls hl => ?_)
              refine lv_goto (tgt := 36) hx hb dX5_simulate_142 (by decide) ?_
              exact ih36  (j + 1) d y (day σk (rOf y)) f11 y14 b tk (by first | assumption | omega) (sim_st hy hG) hc3.2 hRt hst (by omega) H _ hw hf hSc hRd hA hDy hKp hIk hTr hO hT8 _ (lv_sub hl [3, 4, 2, 0] rfl)
            · refine lv_aload_n hx hb dX5_simulate_131 rfl (lv_at hl 2 rfl) ?_
              refine lv_aload_n hx hb dX5_simulate_132 rfl (lv_at hl 2 rfl) ?_
              refine j_get (T := TX5) (N := 16) (k := 8) hx hb hts hinX5 hown hw hO rfl (by decide) (hts (.fieldLink RX5 19 "NightTrainsModel" "trial" "[I") (by decide +kernel)) rfl dX5_simulate_133 ?_
              refine j_Vv (n := 1) (As := [.ref (M + 4)]) hx hb hml hown hts hw (j_recv hw hO rfl) (c_X5_night l g z H M (M + 4) ((day2 σk (rOf y))) f11 (nI (0)) (nI (tx.length)) x3 x4 x5 (nI (hi.length)) y14 b tk hzM (by omega) (by omega) hO hTr hT8 hRt hst hc2.2) gX5_simulate_X5_night rfl (by decide +kernel) ⟨Nat.le_of_ble_eq_true rfl, Nat.le_of_ble_eq_true rfl⟩ rfl hl.1 (Nat.le_of_ble_eq_true rfl) ⟨Nat.zero_le _, Nat.zero_le _⟩ dX5_simulate_136 (fun H locs hr12 hw hsz => ?_) rfl
              obtain ⟨⟨⟨f13, hTr, hRt⟩, hst, hf2⟩, hO, tk14, hT8, htk14⟩ := hr12
              have hSc := hSc.kept (hf2.2 _ (by omega) (by omega) (by omega))
              have hRd := hRd.kept (hf2.2 _ (by omega) (by omega) (by omega))
              have hA := hA.kept (hf2.2 _ (by omega) (by omega) (by omega))
              have hDy := hDy.kept (hf2.2 _ (by omega) (by omega) (by omega))
              have hKp := hKp.kept (hf2.2 _ (by omega) (by omega) (by omega))
              have hIk := hIk.kept (hf2.2 _ (by omega) (by omega) (by omega))
              have hf := hf.three hf2 (by omega) (by omega) (by omega)
              have hd3 : day σk (rOf y) = (nightS ((day2 σk (rOf y)))) := by unfold day; exact if_pos c128
              have hRt : Row f13 (day σk (rOf y)) := by rw [hd3]; exact hRt
              have hst : okS (day σk (rOf y)) := by rw [hd3]; exact hst
              have hc3 := okC_day (show okC σk from ⟨hs9, hcm⟩) (rOf y)
              refine lv_iinc (v := nI (j + 1)) (lv' := [(6, .int _), (7, .int _), (4, .long _), (0, .ref _), (3, .int _)]) hx hb dX5_simulate_139 hl (k := 4) rfl (nI_add _ 1) (by decide) rfl (fun ls hl => ?_)
              refine lv_goto (tgt := 36) hx hb dX5_simulate_142 (by decide) ?_
              exact ih36  (j + 1) d y (day σk (rOf y)) f13 (nI ((trl (((day2 σk (rOf y))).1 0) ((day2 σk (rOf y)))).length)) (b || trw (((day2 σk (rOf y))).1 0) ((day2 σk (rOf y)))) tk14 (by first | assumption | omega) (sim_st hy hG) hc3.2 hRt hst (by omega) H _ hw hf hSc hRd hA hDy hKp hIk hTr hO hT8 _ (lv_sub hl [3, 4, 2, 0] rfl)
    exact lp36 (k + 1) 0 k seed ((σ)) f4 x14 sn tk (by first | assumption | omega) rfl hcalm hRt hst (by omega) H _ hw hf hSc hRd hA hDy hKp hIk hTr hO hT8 _ (lv_sub hl [2, 4, 1, 0] rfl)
  · refine jz_eq (tgt := 17) hx hb dX5_simulate_10 (by decide) (by omega) (fun c10 => ?_) (fun c10 => absurd c10 (by omega))
    refine lv_iconst (v := (nI (1))) hx hb dX5_simulate_17 (by decide) ?_
    refine j_Vi (n := 1) (As := [.int (nI (1))]) hx hb hml hown hts hw (j_recv hw hO rfl) (c_X5_refused l g z H0 M (1) x0 (nI (tx.length)) x3 x4 x5 (nI (hi.length)) x14 _ hzM hO (by first | assumption | omega)) gX5_simulate_X5_refused rfl (by decide +kernel) ⟨Nat.le_of_ble_eq_true rfl, Nat.le_of_ble_eq_true rfl⟩ rfl hl.1 (Nat.le_of_ble_eq_true rfl) ⟨Nat.zero_le _, Nat.zero_le _⟩ dX5_simulate_18 (fun r15 H locs hr15 hw hsz => ?_) rfl
    obtain ⟨hr15, hO, hf2⟩ := hr15
    obtain rfl : r15 = nI 1 := hr15
    have hO : jO g H M 5 [.int (nI (1)), .ref (M + 1), .int (nI (tx.length)), .int x3, .int x4, .int x5, .ref (M + 2), .ref (M + 3), .ref (M + 4), .ref (M + 5), .int (nI (hi.length)), .ref (M + 6), .ref (M + 7), .ref (M + 8), .int x14, .int (bI sn)] := hO
    have hSc := hSc.kept (hf2.2 _ (by omega))
    have hRd := hRd.kept (hf2.2 _ (by omega))
    have hA := hA.kept (hf2.2 _ (by omega))
    have hTr := hTr.kept (hf2.2 _ (by omega))
    have hDy := hDy.kept (hf2.2 _ (by omega))
    have hKp := hKp.kept (hf2.2 _ (by omega))
    have hIk := hIk.kept (hf2.2 _ (by omega))
    have hT8 := hT8.kept (hf2.2 _ (by omega))
    have hf := hf.step hf2 (by omega)
    refine jz_eq (tgt := 26) hx hb dX5_simulate_21 (by decide) (by omega) (fun c21 => absurd c21 (by omega)) (fun c21 => ?_)
    refine lv_iconst (v := (nI (0))) hx hb dX5_simulate_24 (by decide) ?_
    refine j_iret hx hb hr hlocks hH hw dX5_simulate_25 ?_
    have e9 : fSim σ seed am = (1, 0) := by simp only [fSim, hk]
    exact ⟨_, rfl, by rw [e9]; exact ⟨fun h9 => absurd h9 (Nat.succ_ne_zero _), ⟨x3, x4, x5, x14, sn, sc, rd, nw, tr, dy, kp, ik, tk, hO, hSc, hRd, hA, hTr, hDy, hKp, hIk, hT8, hMI⟩, hf⟩⟩
