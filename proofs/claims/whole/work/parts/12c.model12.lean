abbrev q_X5_feeFor (g : jG) (H0 : Heap) (M : Nat) (al : Int32) (x0 : Int32) (tx : List Nat) (σ : Sg) (hi : List Sg) (sv : Nat → Option Sg) : Option Value → Heap → Prop := jN (fun r H1 => ((fFee σ al).1 = 0 → r = (fFee σ al).2) ∧ MD g H1 M (nI (fFee σ al).1) tx σ hi sv ∧ jF M 9 H0 H1)
set_option maxHeartbeats 4000000 in
set_option maxRecDepth 100000 in
theorem c_X5_feeFor (l : Launch) (g : jG) (z : Nat) (H0 : Heap) (M : Nat) (al : Int32) (x0 : Int32) (tx : List Nat) (σ : Sg) (hi : List Sg) (sv : Nat → Option Sg) (hzM : z ≤ M) (hMD : MD g H0 M x0 tx σ hi sv) : jM l g z yX5_feeFor wsX5_feeFor 4 95 [.ref M, .int al] H0 (q_X5_feeFor g H0 M al x0 tx σ hi sv) := by
  refine j_of (cc := cX5_feeFor) (n := 3) (ret := some .int) (by decide) rfl (Nat.le_of_ble_eq_true rfl) ?_
  intro p e s m below meth c hx hb hr hml hown hts hlocks hname hH hw ls hl
  have hl : lv_has ls 3 [(0, .ref M), (1, .int al)] := hl
  have hinX5 : ∀ w ∈ u_ws RX5 TX5 16, w ∈ wsX5_feeFor := by decide +kernel
  have hf : jF M 9 H0 H0 := jF.rf
  obtain ⟨x3, x4, x5, x14, sn, sc, rd, nw, tr, dy, kp, ik, tk, hO, hSc, hRd, hA, hTr, hDy, hKp, hIk, hT8, hMI⟩ := hMD
  obtain ⟨htx, hsc, hR, hN, hhi, hdy, hkp⟩ := id hMI
  obtain ⟨hs, hcalm, h20⟩ := id hN
  refine lv_aload_n hx hb dX5_feeFor_0 rfl (lv_at hl 0 rfl) ?_
  refine lv_iload_n hx hb dX5_feeFor_1 rfl (lv_at hl 1 rfl) ?_
  refine j_Sp (n := 1) (As := [.int al]) hx hb hml hown hts hw (c_X5_isLot l g z H0 al   ) gX5_feeFor_X5_isLot rfl (by decide +kernel) ⟨Nat.le_of_ble_eq_true rfl, Nat.le_of_ble_eq_true rfl⟩ rfl hl.1 (Nat.le_of_ble_eq_true rfl) ⟨Nat.zero_le _, Nat.zero_le _⟩ dX5_feeFor_2 (fun r1 locs hr1 hw => ?_) rfl
  rcases hr1 with ⟨rfl, j, hj, hja, hjn, rfl⟩ | ⟨rfl, hj⟩
  · refine jz_eq (tgt := 12) hx hb dX5_feeFor_5 (by decide) (by omega) (fun c5 => absurd c5 (by omega)) (fun c5 => ?_)
    refine lv_iconst (v := (nI (0))) hx hb dX5_feeFor_8 (by decide) ?_
    refine lv_goto (tgt := 13) hx hb dX5_feeFor_9 (by decide) ?_
    refine j_Vi (n := 1) (As := [.int (nI (0))]) hx hb hml hown hts hw (j_recv hw hO rfl) (c_X5_refused l g z H0 M (0) x0 (nI (tx.length)) x3 x4 x5 (nI (hi.length)) x14 _ hzM hO (by first | assumption | omega)) gX5_feeFor_X5_refused rfl (by decide +kernel) ⟨Nat.le_of_ble_eq_true rfl, Nat.le_of_ble_eq_true rfl⟩ rfl hl.1 (Nat.le_of_ble_eq_true rfl) ⟨Nat.zero_le _, Nat.zero_le _⟩ dX5_feeFor_13 (fun r2 H locs hr2 hw hsz => ?_) rfl
    obtain ⟨hr2, hO, hf2⟩ := hr2
    obtain rfl : r2 = nI 0 := hr2
    have hO : jO g H M 5 [.int (nI (0)), .ref (M + 1), .int (nI (tx.length)), .int x3, .int x4, .int x5, .ref (M + 2), .ref (M + 3), .ref (M + 4), .ref (M + 5), .int (nI (hi.length)), .ref (M + 6), .ref (M + 7), .ref (M + 8), .int x14, .int (bI sn)] := hO
    have hSc := hSc.kept (hf2.2 _ (by omega))
    have hRd := hRd.kept (hf2.2 _ (by omega))
    have hA := hA.kept (hf2.2 _ (by omega))
    have hTr := hTr.kept (hf2.2 _ (by omega))
    have hDy := hDy.kept (hf2.2 _ (by omega))
    have hKp := hKp.kept (hf2.2 _ (by omega))
    have hIk := hIk.kept (hf2.2 _ (by omega))
    have hT8 := hT8.kept (hf2.2 _ (by omega))
    have hf := hf.step hf2 (by omega)
    refine jz_eq (tgt := 21) hx hb dX5_feeFor_16 (by decide) (by omega) (fun c16 => ?_) (fun c16 => absurd c16 (by omega))
    refine lv_iconst (v := (nI (0))) hx hb dX5_feeFor_21 (by decide) ?_
    refine lv_istore_n (lv' := [(2, .int _), (0, .ref _), (1, .int _)]) hx hb dX5_feeFor_22 rfl hl (by decide) rfl (fun ls hl => ?_)
    have lp23 : ∀ (n23 : Nat) (k : Nat) (d : Nat) (ft : Nat → Int32) (y14 : Int32) (b : Bool) (tk : Nat → Int32) (hkd : k + d = 10) (hG : fnd (fee1 σ j) d k = fnd (fee1 σ j) 10 0) (hmu23 : d < n23) (H : Heap) (locs : List Loc) (hw : jW g z s H locs) (hf : jF M 9 H0 H) (hSc : jI g H (M + 1) 120 sc) (hRd : jI g H (M + 2) 235 rd) (hA : jI g H (M + 3) 235 nw) (hDy : jI g H (M + 5) 3290 dy) (hKp : jI g H (M + 6) 470 kp) (hIk : jZ g H (M + 7) 2 ik) (hTr : jI g H (M + 4) 235 ft) (hO : jO g H M 5 [.int (nI (0)), .ref (M + 1), .int (nI (tx.length)), .int x3, .int x4, .int x5, .ref (M + 2), .ref (M + 3), .ref (M + 4), .ref (M + 5), .int (nI (hi.length)), .ref (M + 6), .ref (M + 7), .ref (M + 8), .int y14, .int (bI b)]) (hT8 : jI g H (M + 8) 16 tk) (ls : Array Slot) (hl : lv_has ls 3 [(0, .ref M), (1, .int (nI (j))), (2, .int (nI (k)))]), jK p l e 4 95 s m [.ref M, .int (nI (j))] below meth c z H0 (q_X5_feeFor g H0 M (nI (j)) x0 tx σ hi sv) H locs (F0 m 23 ls []) := by
      intro n23
      induction n23 with
      | zero => intros; omega
      | succ n23 ih23 =>
        intro k d ft y14 b tk hkd hG hmu23 H locs hw hf hSc hRd hA hDy hKp hIk hTr hO hT8 ls hl
        refine lv_iload_n hx hb dX5_feeFor_23 rfl (lv_at hl 2 rfl) ?_
        refine lv_bipush (v := (nI (9))) hx hb dX5_feeFor_24 (by decide) ?_
        refine jn_gt (tgt := 105) hx hb dX5_feeFor_26 (by decide) (by omega) (by omega) (fun c26 => ?_) (fun c26 => ?_)
        · obtain rfl : d = 0 := (by omega)
          refine lv_iconst (v := (-1)) hx hb dX5_feeFor_105 (by decide) ?_
          refine j_iret hx hb hr hlocks hH hw dX5_feeFor_106 ?_
          have e9 : fFee σ (nI (j)) = (0, -1) := by simp only [fFee, hj]; rw [← hG]; rfl
          exact ⟨_, rfl, by rw [e9]; exact ⟨fun _ => rfl, ⟨x3, x4, x5, y14, b, sc, rd, nw, ft, dy, kp, ik, tk, hO, hSc, hRd, hA, hTr, hDy, hKp, hIk, hT8, hMI⟩, hf⟩⟩
        · obtain ⟨d, rfl⟩ : ∃ d1, d = d1 + 1 := ⟨d - 1, by omega⟩
          have hok9 : okO (mkO 0 j 0 k 0 0) := ⟨Nat.zero_lt_succ _, hjn, Nat.zero_lt_succ _, (by omega : k < 10), Nat.zero_lt_succ _, Nat.zero_lt_succ _⟩
          refine lv_aload_n hx hb dX5_feeFor_29 rfl (lv_at hl 0 rfl) ?_
          refine j_Vv (n := 0) (As := []) hx hb hml hown hts hw (j_recv hw hO rfl) (c_X5_tryIt l g z H M (σ) nw ft (nI (0)) (nI (tx.length)) x3 x4 x5 (nI (hi.length)) y14 _ hzM hTr hO hA hR hs) gX5_feeFor_X5_tryIt rfl (by decide +kernel) ⟨Nat.le_of_ble_eq_true rfl, Nat.le_of_ble_eq_true rfl⟩ rfl hl.1 (Nat.le_of_ble_eq_true rfl) ⟨Nat.zero_le _, Nat.zero_le _⟩ dX5_feeFor_30 (fun H locs hr3 hw hsz => ?_) rfl
          obtain ⟨⟨f4, hTr, hRt⟩, hst, hf2⟩ := hr3
          have hO := hO.kept (hf2.2 _ (by omega))
          have hSc := hSc.kept (hf2.2 _ (by omega))
          have hRd := hRd.kept (hf2.2 _ (by omega))
          have hA := hA.kept (hf2.2 _ (by omega))
          have hDy := hDy.kept (hf2.2 _ (by omega))
          have hKp := hKp.kept (hf2.2 _ (by omega))
          have hIk := hIk.kept (hf2.2 _ (by omega))
          have hT8 := hT8.kept (hf2.2 _ (by omega))
          have hf := hf.step hf2 (by omega)
          refine lv_aload_n hx hb dX5_feeFor_33 rfl (lv_at hl 0 rfl) ?_
          refine lv_aload_n hx hb dX5_feeFor_34 rfl (lv_at hl 0 rfl) ?_
          refine j_get (T := TX5) (N := 16) (k := 8) hx hb hts hinX5 hown hw hO rfl (by decide) (hts (.fieldLink RX5 19 "NightTrainsModel" "trial" "[I") (by decide +kernel)) rfl dX5_feeFor_35 ?_
          refine lv_iload_n hx hb dX5_feeFor_38 rfl (lv_at hl 1 rfl) ?_
          refine j_Sp (n := 2) (As := [.ref (M + 4), .int (nI (j))]) hx hb hml hown hts hw (c_X5_isFront l g z H (M + 4) (j) (((σ))) f4  hTr hRt hst (by first | assumption | omega)) gX5_feeFor_X5_isFront rfl (by decide +kernel) ⟨Nat.le_of_ble_eq_true rfl, Nat.le_of_ble_eq_true rfl⟩ rfl hl.1 (Nat.le_of_ble_eq_true rfl) ⟨Nat.zero_le _, Nat.zero_le _⟩ dX5_feeFor_39 (fun r5 locs hfr hw => ?_) rfl
          rcases hfr with ⟨rfl, hfr⟩ | ⟨rfl, hfr⟩
          · refine j_put (T := TX5) (N := 16) (k := 15) (ty := .boolean) hx hb hts hinX5 tyX5 tyX5_ok nmX5 hown hw hO hzM rfl (by decide) (hts (.fieldLink RX5 93 "NightTrainsModel" "isSeen" "Z") (by decide +kernel)) rfl (by decide +kernel) rfl rfl (Nat.le_of_ble_eq_true rfl) dX5_feeFor_42 (fun H locs hw hO oq hsz => ?_)
            have hO : jO g H M 5 [.int _, .ref _, .int _, .int _, .int _, .int _, .ref _, .ref _, .ref _, .ref _, .int _, .ref _, .ref _, .ref _, .int _, .int _] := hO
            have hSc := hSc.kept (oq _ (by omega))
            have hRd := hRd.kept (oq _ (by omega))
            have hA := hA.kept (oq _ (by omega))
            have hTr := hTr.kept (oq _ (by omega))
            have hDy := hDy.kept (oq _ (by omega))
            have hKp := hKp.kept (oq _ (by omega))
            have hIk := hIk.kept (oq _ (by omega))
            have hT8 := hT8.kept (oq _ (by omega))
            have hf := hf.put oq hsz (by omega)
            refine lv_aload_n hx hb dX5_feeFor_45 rfl (lv_at hl 0 rfl) ?_
            refine j_get (T := TX5) (N := 16) (k := 8) hx hb hts hinX5 hown hw hO rfl (by decide) (hts (.fieldLink RX5 19 "NightTrainsModel" "trial" "[I") (by decide +kernel)) rfl dX5_feeFor_46 ?_
            refine lv_iconst (v := (nI (0))) hx hb dX5_feeFor_49 (by decide) ?_
            refine lv_iload_n hx hb dX5_feeFor_50 rfl (lv_at hl 1 rfl) ?_
            refine lv_iconst (v := (nI (0))) hx hb dX5_feeFor_51 (by decide) ?_
            refine lv_iload_n hx hb dX5_feeFor_52 rfl (lv_at hl 2 rfl) ?_
            refine j_Sv (n := 5) (As := [.ref (M + 4), .int (nI (0)), .int (nI (j)), .int (nI (0)), .int (nI (k))]) hx hb hml hown hts hw (c_X5_enter l g z H (M + 4) (0) (j) (0) (k) (((σ))) f4 (by omega) hTr hRt hst (by omega) hok9) gX5_feeFor_X5_enter rfl (by decide +kernel) ⟨Nat.le_of_ble_eq_true rfl, Nat.le_of_ble_eq_true rfl⟩ rfl hl.1 (Nat.le_of_ble_eq_true rfl) ⟨Nat.zero_le _, Nat.zero_le _⟩ dX5_feeFor_53 (fun H locs hr6 hw hsz => ?_) rfl
            obtain ⟨⟨f7, hTr, hRt⟩, hst, hf2⟩ := hr6
            have hO := hO.kept (hf2.2 _ (by omega))
            have hSc := hSc.kept (hf2.2 _ (by omega))
            have hRd := hRd.kept (hf2.2 _ (by omega))
            have hA := hA.kept (hf2.2 _ (by omega))
            have hDy := hDy.kept (hf2.2 _ (by omega))
            have hKp := hKp.kept (hf2.2 _ (by omega))
            have hIk := hIk.kept (hf2.2 _ (by omega))
            have hT8 := hT8.kept (hf2.2 _ (by omega))
            have hf := hf.step hf2 (by omega)
            refine lv_aload_n hx hb dX5_feeFor_56 rfl (lv_at hl 0 rfl) ?_
            refine j_get (T := TX5) (N := 16) (k := 8) hx hb hts hinX5 hown hw hO rfl (by decide) (hts (.fieldLink RX5 19 "NightTrainsModel" "trial" "[I") (by decide +kernel)) rfl dX5_feeFor_57 ?_
            refine lv_aload_n hx hb dX5_feeFor_60 rfl (lv_at hl 0 rfl) ?_
            refine j_get (T := TX5) (N := 16) (k := 8) hx hb hts hinX5 hown hw hO rfl (by decide) (hts (.fieldLink RX5 19 "NightTrainsModel" "trial" "[I") (by decide +kernel)) rfl dX5_feeFor_61 ?_
            refine lv_bipush (v := (nI (6))) hx hb dX5_feeFor_64 (by decide) ?_
            refine j_iald hx hb hw hTr (k := 6) rfl (by omega) (by omega) dX5_feeFor_66 ?_
            refine j_eq (y := nI (σ.2.2.1.length + 1)) (hRt.2.2.1.trans (congrArg nI List.length_append)) ?_
            refine lv_iconst (v := (nI (1))) hx hb dX5_feeFor_67 (by decide) ?_
            refine j_subN hx hb (by omega) dX5_feeFor_68 ?_
            refine lv_iconst (v := (nI (5))) hx hb dX5_feeFor_69 (by decide) ?_
            refine j_Sp (n := 2) (As := [.int (nI ((σ.2.2.1.length + 1 - 1))), .int (nI (5))]) hx hb hml hown hts hw (c_X5_at l g z H ((σ.2.2.1.length + 1 - 1)) (5)   ) gX5_feeFor_X5_at rfl (by decide +kernel) ⟨Nat.le_of_ble_eq_true rfl, Nat.le_of_ble_eq_true rfl⟩ rfl hl.1 (Nat.le_of_ble_eq_true rfl) ⟨Nat.zero_le _, Nat.zero_le _⟩ dX5_feeFor_70 (fun r8 locs hr8 hw => ?_) rfl
            obtain rfl : r8 = (nI (109 + 6 * ((σ.2.2.1.length + 1 - 1)) + (5))) := hr8
            refine lv_iconst (v := (nI (1))) hx hb dX5_feeFor_73 (by decide) ?_
            refine j_iast hx hb hw hTr (by omega) (k := 109 + 6 * ((σ.2.2.1.length + 1 - 1)) + (5)) rfl (by omega) (by omega) dX5_feeFor_74 (fun H locs hw hTr oq hsz => ?_)
            obtain ⟨f9, ef9⟩ : ∃ y9, y9 = upd f7 (109 + 6 * ((σ.2.2.1.length + 1 - 1)) + (5)) (nI (1)) := ⟨_, rfl⟩
            rw [← ef9] at hTr
            have hO := hO.kept (oq _ (by omega))
            have hSc := hSc.kept (oq _ (by omega))
            have hRd := hRd.kept (oq _ (by omega))
            have hA := hA.kept (oq _ (by omega))
            have hDy := hDy.kept (oq _ (by omega))
            have hKp := hKp.kept (oq _ (by omega))
            have hIk := hIk.kept (oq _ (by omega))
            have hT8 := hT8.kept (oq _ (by omega))
            have hf := hf.put oq hsz (by omega)
            have ho9 : (upo σ (σ.2.2.1 ++ [mkO 0 j 0 k 0 0])).2.2.1[σ.2.2.1.length + 1 - 1]? = some (mkO 0 j 0 k 0 0) := by
              show (σ.2.2.1 ++ [mkO 0 j 0 k 0 0])[σ.2.2.1.length]? = _
              rw [List.getElem?_append_right (Nat.le_refl _), Nat.sub_self]; rfl
            have hRt := hRt.so hst (i := σ.2.2.1.length + 1 - 1) (w := 5) (v := 1) ho9 (by omega) rfl rfl
            rw [← ef9] at hRt
            have hst := hst.set σ.2.2.1.length (o := nSet (mkO 0 j 0 k 0 0) 5 1) (hok9.watch (by omega))
            have hRt : Row _ (entS σ j k) := hRt
            have hst : okS (entS σ j k) := hst
            refine lv_aload_n hx hb dX5_feeFor_75 rfl (lv_at hl 0 rfl) ?_
            refine j_get (T := TX5) (N := 16) (k := 15) hx hb hts hinX5 hown hw hO rfl (by decide) (hts (.fieldLink RX5 93 "NightTrainsModel" "isSeen" "Z") (by decide +kernel)) rfl dX5_feeFor_76 ?_
            refine jz_ne (tgt := 90) hx hb dX5_feeFor_79 (by decide) (by omega) (fun c79 => ?_) (fun c79 => absurd c79 (by omega))
            refine lv_aload_n hx hb dX5_feeFor_90 rfl (lv_at hl 0 rfl) ?_
            refine j_get (T := TX5) (N := 16) (k := 15) hx hb hts hinX5 hown hw hO rfl (by decide) (hts (.fieldLink RX5 93 "NightTrainsModel" "isSeen" "Z") (by decide +kernel)) rfl dX5_feeFor_91 ?_
            refine jz_eq (tgt := 99) hx hb dX5_feeFor_94 (by decide) (by omega) (fun c94 => absurd c94 (by omega)) (fun c94 => ?_)
            have hy9 : fee1 σ j k = true := by unfold fee1; rw [decide_eq_true hfr]; rfl
            refine lv_iload_n hx hb dX5_feeFor_97 rfl (lv_at hl 2 rfl) ?_
            refine j_iret hx hb hr hlocks hH hw dX5_feeFor_98 ?_
            have e9 : fFee σ (nI (j)) = (0, nI k) := by simp only [fFee, hj]; rw [← hG, fnd_hit hy9]; rfl
            exact ⟨_, rfl, by rw [e9]; exact ⟨fun _ => rfl, ⟨x3, x4, x5, y14, true, sc, rd, nw, f9, dy, kp, ik, tk, hO, hSc, hRd, hA, hTr, hDy, hKp, hIk, hT8, hMI⟩, hf⟩⟩
          · refine j_put (T := TX5) (N := 16) (k := 15) (ty := .boolean) hx hb hts hinX5 tyX5 tyX5_ok nmX5 hown hw hO hzM rfl (by decide) (hts (.fieldLink RX5 93 "NightTrainsModel" "isSeen" "Z") (by decide +kernel)) rfl (by decide +kernel) rfl rfl (Nat.le_of_ble_eq_true rfl) dX5_feeFor_42 (fun H locs hw hO oq hsz => ?_)
            have hO : jO g H M 5 [.int _, .ref _, .int _, .int _, .int _, .int _, .ref _, .ref _, .ref _, .ref _, .int _, .ref _, .ref _, .ref _, .int _, .int _] := hO
            have hSc := hSc.kept (oq _ (by omega))
            have hRd := hRd.kept (oq _ (by omega))
            have hA := hA.kept (oq _ (by omega))
            have hTr := hTr.kept (oq _ (by omega))
            have hDy := hDy.kept (oq _ (by omega))
            have hKp := hKp.kept (oq _ (by omega))
            have hIk := hIk.kept (oq _ (by omega))
            have hT8 := hT8.kept (oq _ (by omega))
            have hf := hf.put oq hsz (by omega)
            refine lv_aload_n hx hb dX5_feeFor_45 rfl (lv_at hl 0 rfl) ?_
            refine j_get (T := TX5) (N := 16) (k := 8) hx hb hts hinX5 hown hw hO rfl (by decide) (hts (.fieldLink RX5 19 "NightTrainsModel" "trial" "[I") (by decide +kernel)) rfl dX5_feeFor_46 ?_
            refine lv_iconst (v := (nI (0))) hx hb dX5_feeFor_49 (by decide) ?_
            refine lv_iload_n hx hb dX5_feeFor_50 rfl (lv_at hl 1 rfl) ?_
            refine lv_iconst (v := (nI (0))) hx hb dX5_feeFor_51 (by decide) ?_
            refine lv_iload_n hx hb dX5_feeFor_52 rfl (lv_at hl 2 rfl) ?_
            refine j_Sv (n := 5) (As := [.ref (M + 4), .int (nI (0)), .int (nI (j)), .int (nI (0)), .int (nI (k))]) hx hb hml hown hts hw (c_X5_enter l g z H (M + 4) (0) (j) (0) (k) (((σ))) f4 (by omega) hTr hRt hst (by omega) hok9) gX5_feeFor_X5_enter rfl (by decide +kernel) ⟨Nat.le_of_ble_eq_true rfl, Nat.le_of_ble_eq_true rfl⟩ rfl hl.1 (Nat.le_of_ble_eq_true rfl) ⟨Nat.zero_le _, Nat.zero_le _⟩ dX5_feeFor_53 (fun H locs hr10 hw hsz => ?_) rfl
            obtain ⟨⟨f11, hTr, hRt⟩, hst, hf2⟩ := hr10
            have hO := hO.kept (hf2.2 _ (by omega))
            have hSc := hSc.kept (hf2.2 _ (by omega))
            have hRd := hRd.kept (hf2.2 _ (by omega))
            have hA := hA.kept (hf2.2 _ (by omega))
            have hDy := hDy.kept (hf2.2 _ (by omega))
            have hKp := hKp.kept (hf2.2 _ (by omega))
            have hIk := hIk.kept (hf2.2 _ (by omega))
            have hT8 := hT8.kept (hf2.2 _ (by omega))
            have hf := hf.step hf2 (by omega)
            refine lv_aload_n hx hb dX5_feeFor_56 rfl (lv_at hl 0 rfl) ?_
            refine j_get (T := TX5) (N := 16) (k := 8) hx hb hts hinX5 hown hw hO rfl (by decide) (hts (.fieldLink RX5 19 "NightTrainsModel" "trial" "[I") (by decide +kernel)) rfl dX5_feeFor_57 ?_
            refine lv_aload_n hx hb dX5_feeFor_60 rfl (lv_at hl 0 rfl) ?_
            refine j_get (T := TX5) (N := 16) (k := 8) hx hb hts hinX5 hown hw hO rfl (by decide) (hts (.fieldLink RX5 19 "NightTrainsModel" "trial" "[I") (by decide +kernel)) rfl dX5_feeFor_61 ?_
            refine lv_bipush (v := (nI (6))) hx hb dX5_feeFor_64 (by decide) ?_
            refine j_iald hx hb hw hTr (k := 6) rfl (by omega) (by omega) dX5_feeFor_66 ?_
            refine j_eq (y := nI (σ.2.2.1.length + 1)) (hRt.2.2.1.trans (congrArg nI List.length_append)) ?_
            refine lv_iconst (v := (nI (1))) hx hb dX5_feeFor_67 (by decide) ?_
            refine j_subN hx hb (by omega) dX5_feeFor_68 ?_
            refine lv_iconst (v := (nI (5))) hx hb dX5_feeFor_69 (by decide) ?_
            refine j_Sp (n := 2) (As := [.int (nI ((σ.2.2.1.length + 1 - 1))), .int (nI (5))]) hx hb hml hown hts hw (c_X5_at l g z H ((σ.2.2.1.length + 1 - 1)) (5)   ) gX5_feeFor_X5_at rfl (by decide +kernel) ⟨Nat.le_of_ble_eq_true rfl, Nat.le_of_ble_eq_true rfl⟩ rfl hl.1 (Nat.le_of_ble_eq_true rfl) ⟨Nat.zero_le _, Nat.zero_le _⟩ dX5_feeFor_70 (fun r12 locs hr12 hw => ?_) rfl
            obtain rfl : r12 = (nI (109 + 6 * ((σ.2.2.1.length + 1 - 1)) + (5))) := hr12
            refine lv_iconst (v := (nI (1))) hx hb dX5_feeFor_73 (by decide) ?_
            refine j_iast hx hb hw hTr (by omega) (k := 109 + 6 * ((σ.2.2.1.length + 1 - 1)) + (5)) rfl (by omega) (by omega) dX5_feeFor_74 (fun H locs hw hTr oq hsz => ?_)
            obtain ⟨f13, ef13⟩ : ∃ y9, y9 = upd f11 (109 + 6 * ((σ.2.2.1.length + 1 - 1)) + (5)) (nI (1)) := ⟨_, rfl⟩
            rw [← ef13] at hTr
            have hO := hO.kept (oq _ (by omega))
            have hSc := hSc.kept (oq _ (by omega))
            have hRd := hRd.kept (oq _ (by omega))
            have hA := hA.kept (oq _ (by omega))
            have hDy := hDy.kept (oq _ (by omega))
            have hKp := hKp.kept (oq _ (by omega))
            have hIk := hIk.kept (oq _ (by omega))
            have hT8 := hT8.kept (oq _ (by omega))
            have hf := hf.put oq hsz (by omega)
            have ho9 : (upo σ (σ.2.2.1 ++ [mkO 0 j 0 k 0 0])).2.2.1[σ.2.2.1.length + 1 - 1]? = some (mkO 0 j 0 k 0 0) := by
              show (σ.2.2.1 ++ [mkO 0 j 0 k 0 0])[σ.2.2.1.length]? = _
              rw [List.getElem?_append_right (Nat.le_refl _), Nat.sub_self]; rfl
            have hRt := hRt.so hst (i := σ.2.2.1.length + 1 - 1) (w := 5) (v := 1) ho9 (by omega) rfl rfl
            rw [← ef13] at hRt
            have hst := hst.set σ.2.2.1.length (o := nSet (mkO 0 j 0 k 0 0) 5 1) (hok9.watch (by omega))
            have hRt : Row _ (entS σ j k) := hRt
            have hst : okS (entS σ j k) := hst
            refine lv_aload_n hx hb dX5_feeFor_75 rfl (lv_at hl 0 rfl) ?_
            refine j_get (T := TX5) (N := 16) (k := 15) hx hb hts hinX5 hown hw hO rfl (by decide) (hts (.fieldLink RX5 93 "NightTrainsModel" "isSeen" "Z") (by decide +kernel)) rfl dX5_feeFor_76 ?_
            refine jz_ne (tgt := 90) hx hb dX5_feeFor_79 (by decide) (by omega) (fun c79 => absurd c79 (by omega)) (fun c79 => ?_)
            refine lv_aload_n hx hb dX5_feeFor_82 rfl (lv_at hl 0 rfl) ?_
            refine lv_aload_n hx hb dX5_feeFor_83 rfl (lv_at hl 0 rfl) ?_
            refine j_get (T := TX5) (N := 16) (k := 8) hx hb hts hinX5 hown hw hO rfl (by decide) (hts (.fieldLink RX5 19 "NightTrainsModel" "trial" "[I") (by decide +kernel)) rfl dX5_feeFor_84 ?_
            refine j_Vv (n := 1) (As := [.ref (M + 4)]) hx hb hml hown hts hw (j_recv hw hO rfl) (c_X5_night l g z H M (M + 4) ((entS σ j k)) f13 (nI (0)) (nI (tx.length)) x3 x4 x5 (nI (hi.length)) y14 false tk hzM (by omega) (by omega) hO hTr hT8 hRt hst (calm_ent hcalm _ _)) gX5_feeFor_X5_night rfl (by decide +kernel) ⟨Nat.le_of_ble_eq_true rfl, Nat.le_of_ble_eq_true rfl⟩ rfl hl.1 (Nat.le_of_ble_eq_true rfl) ⟨Nat.zero_le _, Nat.zero_le _⟩ dX5_feeFor_87 (fun H locs hr14 hw hsz => ?_) rfl
            obtain ⟨⟨⟨f15, hTr, hRt⟩, hst, hf2⟩, hO, tk16, hT8, htk16⟩ := hr14
            have hSc := hSc.kept (hf2.2 _ (by omega) (by omega) (by omega))
            have hRd := hRd.kept (hf2.2 _ (by omega) (by omega) (by omega))
            have hA := hA.kept (hf2.2 _ (by omega) (by omega) (by omega))
            have hDy := hDy.kept (hf2.2 _ (by omega) (by omega) (by omega))
            have hKp := hKp.kept (hf2.2 _ (by omega) (by omega) (by omega))
            have hIk := hIk.kept (hf2.2 _ (by omega) (by omega) (by omega))
            have hf := hf.three hf2 (by omega) (by omega) (by omega)
            refine lv_aload_n hx hb dX5_feeFor_90 rfl (lv_at hl 0 rfl) ?_
            refine j_get (T := TX5) (N := 16) (k := 15) hx hb hts hinX5 hown hw hO rfl (by decide) (hts (.fieldLink RX5 93 "NightTrainsModel" "isSeen" "Z") (by decide +kernel)) rfl dX5_feeFor_91 ?_
            refine lv_if_eq (tgt := 99) hx hb dX5_feeFor_94 (by decide) (fun c94 => ?_) (fun c94 => ?_)
            · have hy9 : fee1 σ j k = false := by unfold fee1; rw [decide_eq_false (by omega)]; exact bI_eq c94
              refine lv_iinc (v := nI (k + 1)) (lv' := [(2, .int _), (0, .ref _), (1, .int _)]) hx hb dX5_feeFor_99 hl (k := 2) rfl (nI_add _ 1) (by decide) rfl (fun ls hl => ?_)
              refine lv_goto (tgt := 23) hx hb dX5_feeFor_102 (by decide) ?_
              exact ih23  (k + 1) d f15 (nI ((trl (((entS σ j k)).1 0) ((entS σ j k))).length)) (false || trw (((entS σ j k)).1 0) ((entS σ j k))) tk16 (by first | assumption | omega) (by rw [← fnd_miss hy9]; exact hG) (by omega) H _ hw hf hSc hRd hA hDy hKp hIk hTr hO hT8 _ (lv_sub hl [1, 2, 0] rfl)
            · have hy9 : fee1 σ j k = true := by unfold fee1; rw [decide_eq_false (by omega)]; exact bI_ne c94
              refine lv_iload_n hx hb dX5_feeFor_97 rfl (lv_at hl 2 rfl) ?_
              refine j_iret hx hb hr hlocks hH hw dX5_feeFor_98 ?_
              have e9 : fFee σ (nI (j)) = (0, nI k) := by simp only [fFee, hj]; rw [← hG, fnd_hit hy9]; rfl
              exact ⟨_, rfl, by rw [e9]; exact ⟨fun _ => rfl, ⟨x3, x4, x5, (nI ((trl (((entS σ j k)).1 0) ((entS σ j k))).length)), (false || trw (((entS σ j k)).1 0) ((entS σ j k))), sc, rd, nw, f15, dy, kp, ik, tk16, hO, hSc, hRd, hA, hTr, hDy, hKp, hIk, hT8, hMI⟩, hf⟩⟩
    exact lp23 (10 + 1) 0 10 tr x14 sn tk (by first | assumption | omega) rfl (by omega) H _ hw hf hSc hRd hA hDy hKp hIk hTr hO hT8 _ (lv_sub hl [1, 2, 0] rfl)
  · refine jz_eq (tgt := 12) hx hb dX5_feeFor_5 (by decide) (by omega) (fun c5 => ?_) (fun c5 => absurd c5 (by omega))
    refine lv_iconst (v := (nI (1))) hx hb dX5_feeFor_12 (by decide) ?_
    refine j_Vi (n := 1) (As := [.int (nI (1))]) hx hb hml hown hts hw (j_recv hw hO rfl) (c_X5_refused l g z H0 M (1) x0 (nI (tx.length)) x3 x4 x5 (nI (hi.length)) x14 _ hzM hO (by first | assumption | omega)) gX5_feeFor_X5_refused rfl (by decide +kernel) ⟨Nat.le_of_ble_eq_true rfl, Nat.le_of_ble_eq_true rfl⟩ rfl hl.1 (Nat.le_of_ble_eq_true rfl) ⟨Nat.zero_le _, Nat.zero_le _⟩ dX5_feeFor_13 (fun r17 H locs hr17 hw hsz => ?_) rfl
    obtain ⟨hr17, hO, hf2⟩ := hr17
    obtain rfl : r17 = nI 1 := hr17
    have hO : jO g H M 5 [.int (nI (1)), .ref (M + 1), .int (nI (tx.length)), .int x3, .int x4, .int x5, .ref (M + 2), .ref (M + 3), .ref (M + 4), .ref (M + 5), .int (nI (hi.length)), .ref (M + 6), .ref (M + 7), .ref (M + 8), .int x14, .int (bI sn)] := hO
    have hSc := hSc.kept (hf2.2 _ (by omega))
    have hRd := hRd.kept (hf2.2 _ (by omega))
    have hA := hA.kept (hf2.2 _ (by omega))
    have hTr := hTr.kept (hf2.2 _ (by omega))
    have hDy := hDy.kept (hf2.2 _ (by omega))
    have hKp := hKp.kept (hf2.2 _ (by omega))
    have hIk := hIk.kept (hf2.2 _ (by omega))
    have hT8 := hT8.kept (hf2.2 _ (by omega))
    have hf := hf.step hf2 (by omega)
    refine jz_eq (tgt := 21) hx hb dX5_feeFor_16 (by decide) (by omega) (fun c16 => absurd c16 (by omega)) (fun c16 => ?_)
    refine lv_iconst (v := (nI (0))) hx hb dX5_feeFor_19 (by decide) ?_
    refine j_iret hx hb hr hlocks hH hw dX5_feeFor_20 ?_
    have e9 : fFee σ al = (1, 0) := by simp only [fFee, hj]
    exact ⟨_, rfl, by rw [e9]; exact ⟨fun h9 => absurd h9 (Nat.succ_ne_zero _), ⟨x3, x4, x5, x14, sn, sc, rd, nw, tr, dy, kp, ik, tk, hO, hSc, hRd, hA, hTr, hDy, hKp, hIk, hT8, hMI⟩, hf⟩⟩

abbrev q_X5_leastRoom (g : jG) (H0 : Heap) (M : Nat) (x0 : Int32) (tx : List Nat) (σ : Sg) (hi : List Sg) (sv : Nat → Option Sg) : Option Value → Heap → Prop := jN (fun r H1 => r = fRoom σ ∧ MD g H1 M (nI 0) tx σ hi sv ∧ jF M 9 H0 H1)
set_option maxHeartbeats 4000000 in
set_option maxRecDepth 100000 in
theorem c_X5_leastRoom (l : Launch) (g : jG) (z : Nat) (H0 : Heap) (M : Nat) (x0 : Int32) (tx : List Nat) (σ : Sg) (hi : List Sg) (sv : Nat → Option Sg) (hzM : z ≤ M) (hMD : MD g H0 M x0 tx σ hi sv) : jM l g z yX5_leastRoom wsX5_leastRoom 5 115 [.ref M] H0 (q_X5_leastRoom g H0 M x0 tx σ hi sv) := by
  refine j_of (cc := cX5_leastRoom) (n := 2) (ret := some .int) (by decide) rfl (Nat.le_of_ble_eq_true rfl) ?_
  intro p e s m below meth c hx hb hr hml hown hts hlocks hname hH hw ls hl
  have hl : lv_has ls 2 [(0, .ref M)] := hl
  have hinX5 : ∀ w ∈ u_ws RX5 TX5 16, w ∈ wsX5_leastRoom := by decide +kernel
  have hf : jF M 9 H0 H0 := jF.rf
  obtain ⟨x3, x4, x5, x14, sn, sc, rd, nw, tr, dy, kp, ik, tk, hO, hSc, hRd, hA, hTr, hDy, hKp, hIk, hT8, hMI⟩ := hMD
  obtain ⟨htx, hsc, hR, hN, hhi, hdy, hkp⟩ := id hMI
  obtain ⟨hs, hcalm, h20⟩ := id hN
  refine lv_aload_n hx hb dX5_leastRoom_0 rfl (lv_at hl 0 rfl) ?_
  refine lv_iconst (v := (nI (0))) hx hb dX5_leastRoom_1 (by decide) ?_
  refine j_put (T := TX5) (N := 16) (k := 0) (ty := .int) hx hb hts hinX5 tyX5 tyX5_ok nmX5 hown hw hO hzM rfl (by decide) (hts (.fieldLink RX5 39 "NightTrainsModel" "refusal" "I") (by decide +kernel)) rfl (by decide +kernel) rfl rfl (Nat.le_of_ble_eq_true rfl) dX5_leastRoom_2 (fun H locs hw hO oq hsz => ?_)
  have hO : jO g H M 5 [.int _, .ref _, .int _, .int _, .int _, .int _, .ref _, .ref _, .ref _, .ref _, .int _, .ref _, .ref _, .ref _, .int _, .int _] := hO
  have hSc := hSc.kept (oq _ (by omega))
  have hRd := hRd.kept (oq _ (by omega))
  have hA := hA.kept (oq _ (by omega))
  have hTr := hTr.kept (oq _ (by omega))
  have hDy := hDy.kept (oq _ (by omega))
  have hKp := hKp.kept (oq _ (by omega))
  have hIk := hIk.kept (oq _ (by omega))
  have hT8 := hT8.kept (oq _ (by omega))
  have hf := hf.put oq hsz (by omega)
  refine lv_iconst (v := (nI (0))) hx hb dX5_leastRoom_5 (by decide) ?_
  refine lv_istore_n (lv' := [(1, .int _), (0, .ref _)]) hx hb dX5_leastRoom_6 rfl hl (by decide) rfl (fun ls hl => ?_)
  have lp7 : ∀ (n7 : Nat) (k : Nat) (d : Nat) (ft : Nat → Int32) (y14 : Int32) (b : Bool) (tk : Nat → Int32) (hkd : k + d = 17) (hG : fnd (rmOk σ) d k = fnd (rmOk σ) 17 0) (hmu7 : d < n7) (H : Heap) (locs : List Loc) (hw : jW g z s H locs) (hf : jF M 9 H0 H) (hSc : jI g H (M + 1) 120 sc) (hRd : jI g H (M + 2) 235 rd) (hA : jI g H (M + 3) 235 nw) (hDy : jI g H (M + 5) 3290 dy) (hKp : jI g H (M + 6) 470 kp) (hIk : jZ g H (M + 7) 2 ik) (hTr : jI g H (M + 4) 235 ft) (hO : jO g H M 5 [.int (nI (0)), .ref (M + 1), .int (nI (tx.length)), .int x3, .int x4, .int x5, .ref (M + 2), .ref (M + 3), .ref (M + 4), .ref (M + 5), .int (nI (hi.length)), .ref (M + 6), .ref (M + 7), .ref (M + 8), .int y14, .int (bI b)]) (hT8 : jI g H (M + 8) 16 tk) (ls : Array Slot) (hl : lv_has ls 2 [(0, .ref M), (1, .int (nI (k)))]), jK p l e 5 115 s m [.ref M] below meth c z H0 (q_X5_leastRoom g H0 M x0 tx σ hi sv) H locs (F0 m 7 ls []) := by
    intro n7
    induction n7 with
    | zero => intros; omega
    | succ n7 ih7 =>
      intro k d ft y14 b tk hkd hG hmu7 H locs hw hf hSc hRd hA hDy hKp hIk hTr hO hT8 ls hl
      refine lv_iload_n hx hb dX5_leastRoom_7 rfl (lv_at hl 1 rfl) ?_
      refine lv_bipush (v := (nI (16))) hx hb dX5_leastRoom_8 (by decide) ?_
      refine jn_gt (tgt := 53) hx hb dX5_leastRoom_10 (by decide) (by omega) (by omega) (fun c10 => ?_) (fun c10 => ?_)
      · obtain rfl : d = 0 := (by omega)
        refine lv_iconst (v := (-1)) hx hb dX5_leastRoom_53 (by decide) ?_
        refine j_iret hx hb hr hlocks hH hw dX5_leastRoom_54 ?_
        have e9 : -1 = fRoom σ := by unfold fRoom; rw [← hG]; rfl
        exact ⟨_, rfl, e9, ⟨x3, x4, x5, y14, b, sc, rd, nw, ft, dy, kp, ik, tk, hO, hSc, hRd, hA, hTr, hDy, hKp, hIk, hT8, hMI⟩, hf⟩
      · obtain ⟨d, rfl⟩ : ∃ d1, d = d1 + 1 := ⟨d - 1, by omega⟩
        refine lv_aload_n hx hb dX5_leastRoom_13 rfl (lv_at hl 0 rfl) ?_
        refine j_Vv (n := 0) (As := []) hx hb hml hown hts hw (j_recv hw hO rfl) (c_X5_tryIt l g z H M (σ) nw ft (nI (0)) (nI (tx.length)) x3 x4 x5 (nI (hi.length)) y14 _ hzM hTr hO hA hR hs) gX5_leastRoom_X5_tryIt rfl (by decide +kernel) ⟨Nat.le_of_ble_eq_true rfl, Nat.le_of_ble_eq_true rfl⟩ rfl hl.1 (Nat.le_of_ble_eq_true rfl) ⟨Nat.zero_le _, Nat.zero_le _⟩ dX5_leastRoom_14 (fun H locs hr1 hw hsz => ?_) rfl
        obtain ⟨⟨f2, hTr, hRt⟩, hst, hf2⟩ := hr1
        have hO := hO.kept (hf2.2 _ (by omega))
        have hSc := hSc.kept (hf2.2 _ (by omega))
        have hRd := hRd.kept (hf2.2 _ (by omega))
        have hA := hA.kept (hf2.2 _ (by omega))
        have hDy := hDy.kept (hf2.2 _ (by omega))
        have hKp := hKp.kept (hf2.2 _ (by omega))
        have hIk := hIk.kept (hf2.2 _ (by omega))
        have hT8 := hT8.kept (hf2.2 _ (by omega))
        have hf := hf.step hf2 (by omega)
        refine lv_aload_n hx hb dX5_leastRoom_17 rfl (lv_at hl 0 rfl) ?_
        refine j_get (T := TX5) (N := 16) (k := 8) hx hb hts hinX5 hown hw hO rfl (by decide) (hts (.fieldLink RX5 19 "NightTrainsModel" "trial" "[I") (by decide +kernel)) rfl dX5_leastRoom_18 ?_
        refine lv_iconst (v := (nI (0))) hx hb dX5_leastRoom_21 (by decide) ?_
        refine lv_iload_n hx hb dX5_leastRoom_22 rfl (lv_at hl 1 rfl) ?_
        refine j_iast hx hb hw hTr (by omega) (k := 0) rfl (by omega) (by omega) dX5_leastRoom_23 (fun H locs hw hTr oq hsz => ?_)
        obtain ⟨f3, ef3⟩ : ∃ y9, y9 = upd f2 (0) (nI (k)) := ⟨_, rfl⟩
        rw [← ef3] at hTr
        have hO := hO.kept (oq _ (by omega))
        have hSc := hSc.kept (oq _ (by omega))
        have hRd := hRd.kept (oq _ (by omega))
        have hA := hA.kept (oq _ (by omega))
        have hDy := hDy.kept (oq _ (by omega))
        have hKp := hKp.kept (oq _ (by omega))
        have hIk := hIk.kept (oq _ (by omega))
        have hT8 := hT8.kept (oq _ (by omega))
        have hf := hf.put oq hsz (by omega)
        have hRt := hRt.sn (k := 0) (v := k) (by omega) rfl
        rw [← ef3] at hRt
        have hst : okS (upn σ 0 k) := okS_set hs (by omega) (Nat.zero_le _) (Or.inr ⟨rfl, by omega⟩)
        refine lv_aload_n hx hb dX5_leastRoom_24 rfl (lv_at hl 0 rfl) ?_
        refine j_Vv (n := 0) (As := []) hx hb hml hown hts hw (j_recv hw hO rfl) (c_X5_goOn l g z H M ((upn σ 0 k)) f3 (nI (0)) (nI (tx.length)) x3 x4 x5 (nI (hi.length)) y14 b tk hzM hO hTr hT8 hRt hst hcalm) gX5_leastRoom_X5_goOn rfl (by decide +kernel) ⟨Nat.le_of_ble_eq_true rfl, Nat.le_of_ble_eq_true rfl⟩ rfl hl.1 (Nat.le_of_ble_eq_true rfl) ⟨Nat.zero_le _, Nat.zero_le _⟩ dX5_leastRoom_25 (fun H locs hr4 hw hsz => ?_) rfl
        obtain ⟨⟨⟨f5, hTr, hRt⟩, hst, hf2⟩, y7, b8, tk6, hO, hT8⟩ := hr4
        have hSc := hSc.kept (hf2.2 _ (by omega) (by omega) (by omega))
        have hRd := hRd.kept (hf2.2 _ (by omega) (by omega) (by omega))
        have hA := hA.kept (hf2.2 _ (by omega) (by omega) (by omega))
        have hDy := hDy.kept (hf2.2 _ (by omega) (by omega) (by omega))
        have hKp := hKp.kept (hf2.2 _ (by omega) (by omega) (by omega))
        have hIk := hIk.kept (hf2.2 _ (by omega) (by omega) (by omega))
        have hf := hf.three hf2 (by omega) (by omega) (by omega)
        refine lv_aload_n hx hb dX5_leastRoom_28 rfl (lv_at hl 0 rfl) ?_
        refine j_get (T := TX5) (N := 16) (k := 8) hx hb hts hinX5 hown hw hO rfl (by decide) (hts (.fieldLink RX5 19 "NightTrainsModel" "trial" "[I") (by decide +kernel)) rfl dX5_leastRoom_29 ?_
        refine lv_bipush (v := (nI (8))) hx hb dX5_leastRoom_32 (by decide) ?_
        refine j_iald hx hb hw hTr (k := 8) rfl (by omega) (by omega) dX5_leastRoom_34 ?_
        refine j_eq (y := (nI ((goS 10 (upn σ 0 k)).1 8))) (hRt.n 8 (by omega)) ?_
        refine lv_aload_n hx hb dX5_leastRoom_35 rfl (lv_at hl 0 rfl) ?_
        refine j_get (T := TX5) (N := 16) (k := 7) hx hb hts hinX5 hown hw hO rfl (by decide) (hts (.fieldLink RX5 16 "NightTrainsModel" "now" "[I") (by decide +kernel)) rfl dX5_leastRoom_36 ?_
        refine lv_bipush (v := (nI (8))) hx hb dX5_leastRoom_39 (by decide) ?_
        refine j_iald hx hb hw hA (k := 8) rfl (by omega) (by omega) dX5_leastRoom_41 ?_
        refine j_eq (y := (nI (σ.1 8))) (hR.n 8 (by omega)) ?_
        refine lv_icmp_ne (tgt := 47) hx hb dX5_leastRoom_42 (by decide) (fun c42 => ?_) (fun c42 => ?_)
        · refine lv_iinc (v := nI (k + 1)) (lv' := [(1, .int _), (0, .ref _)]) hx hb dX5_leastRoom_47 hl (k := 1) rfl (nI_add _ 1) (by decide) rfl (fun ls hl => ?_)
          refine lv_goto (tgt := 7) hx hb dX5_leastRoom_50 (by decide) ?_
          exact ih7  (k + 1) d f5 y7 b8 tk6 (by first | assumption | omega) (by rw [← fnd_miss (show rmOk σ k = false from decide_eq_false c42)]; exact hG) (by omega) H _ hw hf hSc hRd hA hDy hKp hIk hTr hO hT8 _ (lv_sub hl [1, 0] rfl)
        · refine lv_iload_n hx hb dX5_leastRoom_45 rfl (lv_at hl 1 rfl) ?_
          refine j_iret hx hb hr hlocks hH hw dX5_leastRoom_46 ?_
          have e9 : nI k = fRoom σ := by unfold fRoom; rw [← hG, fnd_hit (show rmOk σ k = true from decide_eq_true c42)]; rfl
          exact ⟨_, rfl, e9, ⟨x3, x4, x5, y7, b8, sc, rd, nw, f5, dy, kp, ik, tk6, hO, hSc, hRd, hA, hTr, hDy, hKp, hIk, hT8, hMI⟩, hf⟩
  exact lp7 (17 + 1) 0 17 tr x14 sn tk (by first | assumption | omega) rfl (by omega) H _ hw hf hSc hRd hA hDy hKp hIk hTr hO hT8 _ (lv_sub hl [1, 0] rfl)

abbrev q_X5_bestRule (g : jG) (H0 : Heap) (M : Nat) (x0 : Int32) (tx : List Nat) (σ : Sg) (hi : List Sg) (sv : Nat → Option Sg) : Option Value → Heap → Prop := jN (fun r H1 => r = fBest σ ∧ MD g H1 M (nI 0) tx σ hi sv ∧ jF M 9 H0 H1)
set_option maxHeartbeats 4000000 in
set_option maxRecDepth 100000 in
theorem c_X5_bestRule (l : Launch) (g : jG) (z : Nat) (H0 : Heap) (M : Nat) (x0 : Int32) (tx : List Nat) (σ : Sg) (hi : List Sg) (sv : Nat → Option Sg) (hzM : z ≤ M) (hMD : MD g H0 M x0 tx σ hi sv) : jM l g z yX5_bestRule wsX5_bestRule 5 115 [.ref M] H0 (q_X5_bestRule g H0 M x0 tx σ hi sv) := by
  refine j_of (cc := cX5_bestRule) (n := 6) (ret := some .int) (by decide) rfl (Nat.le_of_ble_eq_true rfl) ?_
  intro p e s m below meth c hx hb hr hml hown hts hlocks hname hH hw ls hl
  have hl : lv_has ls 6 [(0, .ref M)] := hl
  have hinX5 : ∀ w ∈ u_ws RX5 TX5 16, w ∈ wsX5_bestRule := by decide +kernel
  have hf : jF M 9 H0 H0 := jF.rf
  obtain ⟨x3, x4, x5, x14, sn, sc, rd, nw, tr, dy, kp, ik, tk, hO, hSc, hRd, hA, hTr, hDy, hKp, hIk, hT8, hMI⟩ := hMD
  obtain ⟨htx, hsc, hR, hN, hhi, hdy, hkp⟩ := id hMI
  obtain ⟨hs, hcalm, h20⟩ := id hN
  refine lv_aload_n hx hb dX5_bestRule_0 rfl (lv_at hl 0 rfl) ?_
  refine lv_iconst (v := (nI (0))) hx hb dX5_bestRule_1 (by decide) ?_
  refine j_put (T := TX5) (N := 16) (k := 0) (ty := .int) hx hb hts hinX5 tyX5 tyX5_ok nmX5 hown hw hO hzM rfl (by decide) (hts (.fieldLink RX5 39 "NightTrainsModel" "refusal" "I") (by decide +kernel)) rfl (by decide +kernel) rfl rfl (Nat.le_of_ble_eq_true rfl) dX5_bestRule_2 (fun H locs hw hO oq hsz => ?_)
  have hO : jO g H M 5 [.int _, .ref _, .int _, .int _, .int _, .int _, .ref _, .ref _, .ref _, .ref _, .int _, .ref _, .ref _, .ref _, .int _, .int _] := hO
  have hSc := hSc.kept (oq _ (by omega))
  have hRd := hRd.kept (oq _ (by omega))
  have hA := hA.kept (oq _ (by omega))
  have hTr := hTr.kept (oq _ (by omega))
  have hDy := hDy.kept (oq _ (by omega))
  have hKp := hKp.kept (oq _ (by omega))
  have hIk := hIk.kept (oq _ (by omega))
  have hT8 := hT8.kept (oq _ (by omega))
  have hf := hf.put oq hsz (by omega)
  refine lv_iconst (v := (-1)) hx hb dX5_bestRule_5 (by decide) ?_
  refine lv_istore_n (lv' := [(1, .int _), (0, .ref _)]) hx hb dX5_bestRule_6 rfl hl (by decide) rfl (fun ls hl => ?_)
  refine lv_iconst (v := (nI (0))) hx hb dX5_bestRule_7 (by decide) ?_
  refine lv_istore_n (lv' := [(2, .int _), (1, .int _), (0, .ref _)]) hx hb dX5_bestRule_8 rfl hl (by decide) rfl (fun ls hl => ?_)
  refine lv_iconst (v := (nI (0))) hx hb dX5_bestRule_9 (by decide) ?_
  refine lv_istore_n (lv' := [(3, .int _), (2, .int _), (1, .int _), (0, .ref _)]) hx hb dX5_bestRule_10 rfl hl (by decide) rfl (fun ls hl => ?_)
  refine lv_iconst (v := (nI (0))) hx hb dX5_bestRule_11 (by decide) ?_
  refine lv_istore (lv' := [(4, .int _), (3, .int _), (2, .int _), (1, .int _), (0, .ref _)]) hx hb dX5_bestRule_12 hl (by decide) rfl (fun ls hl => ?_)
  have lp14 : ∀ (n14 : Nat) (k : Nat) (u1 : Int32) (u2 : Int32) (u3 : Int32) (ft : Nat → Int32) (y14 : Int32) (b : Bool) (tk : Nat → Int32) (hk3 : k ≤ 3) (hu1 : u1 = oI (bst σ k).1) (hu2 : u2 = (bst σ k).2.1) (hu3 : u3 = (bst σ k).2.2) (hmu14 : 3 - k < n14) (H : Heap) (locs : List Loc) (hw : jW g z s H locs) (hf : jF M 9 H0 H) (hSc : jI g H (M + 1) 120 sc) (hRd : jI g H (M + 2) 235 rd) (hA : jI g H (M + 3) 235 nw) (hDy : jI g H (M + 5) 3290 dy) (hKp : jI g H (M + 6) 470 kp) (hIk : jZ g H (M + 7) 2 ik) (hTr : jI g H (M + 4) 235 ft) (hO : jO g H M 5 [.int (nI (0)), .ref (M + 1), .int (nI (tx.length)), .int x3, .int x4, .int x5, .ref (M + 2), .ref (M + 3), .ref (M + 4), .ref (M + 5), .int (nI (hi.length)), .ref (M + 6), .ref (M + 7), .ref (M + 8), .int y14, .int (bI b)]) (hT8 : jI g H (M + 8) 16 tk) (ls : Array Slot) (hl : lv_has ls 6 [(0, .ref M), (1, .int u1), (2, .int u2), (3, .int u3), (4, .int (nI (k)))]), jK p l e 5 115 s m [.ref M] below meth c z H0 (q_X5_bestRule g H0 M x0 tx σ hi sv) H locs (F0 m 14 ls []) := by
    intro n14
    induction n14 with
    | zero => intros; omega
    | succ n14 ih14 =>
      intro k u1 u2 u3 ft y14 b tk hk3 hu1 hu2 hu3 hmu14 H locs hw hf hSc hRd hA hDy hKp hIk hTr hO hT8 ls hl
      refine lv_iload hx hb dX5_bestRule_14 (lv_at hl 4 rfl) ?_
      refine lv_iconst (v := (nI (3))) hx hb dX5_bestRule_16 (by decide) ?_
      refine jn_ge (tgt := 133) hx hb dX5_bestRule_17 (by decide) (by omega) (by omega) (fun c17 => ?_) (fun c17 => ?_)
      · obtain rfl : k = 3 := (by omega)
        refine lv_iload_n hx hb dX5_bestRule_133 rfl (lv_at hl 1 rfl) ?_
        refine j_iret hx hb hr hlocks hH hw dX5_bestRule_134 ?_
        exact ⟨_, rfl, hu1, ⟨x3, x4, x5, y14, b, sc, rd, nw, ft, dy, kp, ik, tk, hO, hSc, hRd, hA, hTr, hDy, hKp, hIk, hT8, hMI⟩, hf⟩
      · refine lv_aload_n hx hb dX5_bestRule_20 rfl (lv_at hl 0 rfl) ?_
        refine j_Vv (n := 0) (As := []) hx hb hml hown hts hw (j_recv hw hO rfl) (c_X5_tryIt l g z H M (σ) nw ft (nI (0)) (nI (tx.length)) x3 x4 x5 (nI (hi.length)) y14 _ hzM hTr hO hA hR hs) gX5_bestRule_X5_tryIt rfl (by decide +kernel) ⟨Nat.le_of_ble_eq_true rfl, Nat.le_of_ble_eq_true rfl⟩ rfl hl.1 (Nat.le_of_ble_eq_true rfl) ⟨Nat.zero_le _, Nat.zero_le _⟩ dX5_bestRule_21 (fun H locs hr1 hw hsz => ?_) rfl
        obtain ⟨⟨f2, hTr, hRt⟩, hst, hf2⟩ := hr1
        have hO := hO.kept (hf2.2 _ (by omega))
        have hSc := hSc.kept (hf2.2 _ (by omega))
        have hRd := hRd.kept (hf2.2 _ (by omega))
        have hA := hA.kept (hf2.2 _ (by omega))
        have hDy := hDy.kept (hf2.2 _ (by omega))
        have hKp := hKp.kept (hf2.2 _ (by omega))
        have hIk := hIk.kept (hf2.2 _ (by omega))
        have hT8 := hT8.kept (hf2.2 _ (by omega))
        have hf := hf.step hf2 (by omega)
        refine lv_aload_n hx hb dX5_bestRule_24 rfl (lv_at hl 0 rfl) ?_
        refine j_get (T := TX5) (N := 16) (k := 8) hx hb hts hinX5 hown hw hO rfl (by decide) (hts (.fieldLink RX5 19 "NightTrainsModel" "trial" "[I") (by decide +kernel)) rfl dX5_bestRule_25 ?_
        refine lv_iconst (v := (nI (4))) hx hb dX5_bestRule_28 (by decide) ?_
        refine lv_iload hx hb dX5_bestRule_29 (lv_at hl 4 rfl) ?_
        refine j_iast hx hb hw hTr (by omega) (k := 4) rfl (by omega) (by omega) dX5_bestRule_31 (fun H locs hw hTr oq hsz => ?_)
        obtain ⟨f3, ef3⟩ : ∃ y9, y9 = upd f2 (4) (nI (k)) := ⟨_, rfl⟩
        rw [← ef3] at hTr
        have hO := hO.kept (oq _ (by omega))
        have hSc := hSc.kept (oq _ (by omega))
        have hRd := hRd.kept (oq _ (by omega))
        have hA := hA.kept (oq _ (by omega))
        have hDy := hDy.kept (oq _ (by omega))
        have hKp := hKp.kept (oq _ (by omega))
        have hIk := hIk.kept (oq _ (by omega))
        have hT8 := hT8.kept (oq _ (by omega))
        have hf := hf.put oq hsz (by omega)
        have hRt := hRt.sn (k := 4) (v := k) (by omega) rfl
        rw [← ef3] at hRt
        have hst : okS (upn σ 4 k) := okS_set hs (by omega) (Nat.zero_le _) (Or.inl (show k ≤ 2 by omega))
        refine lv_aload_n hx hb dX5_bestRule_32 rfl (lv_at hl 0 rfl) ?_
        refine j_Vv (n := 0) (As := []) hx hb hml hown hts hw (j_recv hw hO rfl) (c_X5_goOn l g z H M ((upn σ 4 k)) f3 (nI (0)) (nI (tx.length)) x3 x4 x5 (nI (hi.length)) y14 b tk hzM hO hTr hT8 hRt hst hcalm) gX5_bestRule_X5_goOn rfl (by decide +kernel) ⟨Nat.le_of_ble_eq_true rfl, Nat.le_of_ble_eq_true rfl⟩ rfl hl.1 (Nat.le_of_ble_eq_true rfl) ⟨Nat.zero_le _, Nat.zero_le _⟩ dX5_bestRule_33 (fun H locs hr4 hw hsz => ?_) rfl
        obtain ⟨⟨⟨f5, hTr, hRt⟩, hst, hf2⟩, y7, b8, tk6, hO, hT8⟩ := hr4
        have hSc := hSc.kept (hf2.2 _ (by omega) (by omega) (by omega))
        have hRd := hRd.kept (hf2.2 _ (by omega) (by omega) (by omega))
        have hA := hA.kept (hf2.2 _ (by omega) (by omega) (by omega))
        have hDy := hDy.kept (hf2.2 _ (by omega) (by omega) (by omega))
        have hKp := hKp.kept (hf2.2 _ (by omega) (by omega) (by omega))
        have hIk := hIk.kept (hf2.2 _ (by omega) (by omega) (by omega))
        have hf := hf.three hf2 (by omega) (by omega) (by omega)
        rcases hwk : (bst σ k).1 with _ | b9
        · rw [hwk] at hu1
          have hu1 : u1 = -1 := hu1
          subst hu1
          refine lv_iload_n hx hb dX5_bestRule_36 rfl (lv_at hl 1 rfl) ?_
          refine lv_iconst (v := (-1)) hx hb dX5_bestRule_37 (by decide) ?_
          refine lv_icmp_eq (tgt := 74) hx hb dX5_bestRule_38 (by decide) (fun c38 => ?_) (fun c38 => absurd c38 (by decide))
          refine lv_iconst (v := (nI (1))) hx hb dX5_bestRule_74 (by decide) ?_
          refine lv_goto (tgt := 79) hx hb dX5_bestRule_75 (by decide) ?_
          refine lv_istore (lv' := [(5, .int _), (0, .ref _), (1, .int _), (2, .int _), (3, .int _), (4, .int _)]) hx hb dX5_bestRule_79 hl (by decide) rfl (fun ls hl => ?_)
          refine lv_iload hx hb dX5_bestRule_81 (lv_at hl 0 rfl) ?_
          refine jz_eq (tgt := 91) hx hb dX5_bestRule_83 (by decide) (by omega) (fun c83 => absurd c83 (by omega)) (fun c83 => ?_)
          refine lv_iload hx hb dX5_bestRule_86 (lv_at hl 5 rfl) ?_
          refine lv_goto (tgt := 92) hx hb dX5_bestRule_88 (by decide) ?_
          refine lv_istore_n (lv' := [(1, .int _), (5, .int _), (0, .ref _), (2, .int _), (3, .int _), (4, .int _)]) hx hb dX5_bestRule_92 rfl hl (by decide) rfl (fun ls hl => ?_)
          refine lv_iload hx hb dX5_bestRule_93 (lv_at hl 1 rfl) ?_
          refine jz_eq (tgt := 108) hx hb dX5_bestRule_95 (by decide) (by omega) (fun c95 => absurd c95 (by omega)) (fun c95 => ?_)
          refine lv_aload_n hx hb dX5_bestRule_98 rfl (lv_at hl 2 rfl) ?_
          refine j_get (T := TX5) (N := 16) (k := 8) hx hb hts hinX5 hown hw hO rfl (by decide) (hts (.fieldLink RX5 19 "NightTrainsModel" "trial" "[I") (by decide +kernel)) rfl dX5_bestRule_99 ?_
          refine lv_bipush (v := (nI (7))) hx hb dX5_bestRule_102 (by decide) ?_
          refine j_iald hx hb hw hTr (k := 7) rfl (by omega) (by omega) dX5_bestRule_104 ?_
          refine j_eq (y := (nI ((goS 10 (upn σ 4 k)).1 7))) (hRt.n 7 (by omega)) ?_
          refine lv_goto (tgt := 109) hx hb dX5_bestRule_105 (by decide) ?_
          refine lv_istore_n (lv' := [(2, .int _), (1, .int _), (5, .int _), (0, .ref _), (3, .int _), (4, .int _)]) hx hb dX5_bestRule_109 rfl hl (by decide) rfl (fun ls hl => ?_)
          refine lv_iload hx hb dX5_bestRule_110 (lv_at hl 2 rfl) ?_
          refine jz_eq (tgt := 125) hx hb dX5_bestRule_112 (by decide) (by omega) (fun c112 => absurd c112 (by omega)) (fun c112 => ?_)
          refine lv_aload_n hx hb dX5_bestRule_115 rfl (lv_at hl 3 rfl) ?_
          refine j_get (T := TX5) (N := 16) (k := 8) hx hb hts hinX5 hown hw hO rfl (by decide) (hts (.fieldLink RX5 19 "NightTrainsModel" "trial" "[I") (by decide +kernel)) rfl dX5_bestRule_116 ?_
          refine lv_bipush (v := (nI (10))) hx hb dX5_bestRule_119 (by decide) ?_
          refine j_iald hx hb hw hTr (k := 10) rfl (by omega) (by omega) dX5_bestRule_121 ?_
          refine j_eq (y := (nI ((goS 10 (upn σ 4 k)).1 10))) (hRt.n 10 (by omega)) ?_
          refine lv_goto (tgt := 126) hx hb dX5_bestRule_122 (by decide) ?_
          refine lv_istore_n (lv' := [(3, .int _), (2, .int _), (1, .int _), (5, .int _), (0, .ref _), (4, .int _)]) hx hb dX5_bestRule_126 rfl hl (by decide) rfl (fun ls hl => ?_)
          have hb9 := bst_y (σ := σ) (k := k) (by first | exact Or.inl hwk | exact Or.inr (Or.inl (by rw [← hu2]; exact c49)) | exact Or.inr (Or.inr ⟨c60.trans hu2, by rw [← hu3]; exact Int32.not_le.mp c71⟩))
          refine lv_iinc (v := nI (k + 1)) (lv' := [(4, .int _), (3, .int _), (2, .int _), (1, .int _), (5, .int _), (0, .ref _)]) hx hb dX5_bestRule_127 hl (k := 5) rfl (nI_add _ 1) (by decide) rfl (fun ls hl => ?_)
          refine lv_goto (tgt := 14) hx hb dX5_bestRule_130 (by decide) ?_
          exact ih14  (k + 1) (nI (k)) (nI ((goS 10 (upn σ 4 k)).1 7)) (nI ((goS 10 (upn σ 4 k)).1 10)) f5 y7 b8 tk6 (by first | assumption | omega) (by rw [hb9]; try rfl) (by rw [hb9]; try rfl) (by rw [hb9]; try rfl) (by omega) H _ hw hf hSc hRd hA hDy hKp hIk hTr hO hT8 _ (lv_sub hl [5, 3, 2, 1, 0] rfl)
        · rw [hwk] at hu1
          have hu1 : u1 = nI b9 := hu1
          subst hu1
          have hb9 := bst_lt hwk
          refine lv_iload_n hx hb dX5_bestRule_36 rfl (lv_at hl 1 rfl) ?_
          refine lv_iconst (v := (-1)) hx hb dX5_bestRule_37 (by decide) ?_
          refine lv_icmp_eq (tgt := 74) hx hb dX5_bestRule_38 (by decide) (fun c38 => absurd c38 (nI_ne_m1 (by omega))) (fun c38 => ?_)
          refine lv_aload_n hx hb dX5_bestRule_41 rfl (lv_at hl 0 rfl) ?_
          refine j_get (T := TX5) (N := 16) (k := 8) hx hb hts hinX5 hown hw hO rfl (by decide) (hts (.fieldLink RX5 19 "NightTrainsModel" "trial" "[I") (by decide +kernel)) rfl dX5_bestRule_42 ?_
          refine lv_bipush (v := (nI (7))) hx hb dX5_bestRule_45 (by decide) ?_
          refine j_iald hx hb hw hTr (k := 7) rfl (by omega) (by omega) dX5_bestRule_47 ?_
          refine j_eq (y := (nI ((goS 10 (upn σ 4 k)).1 7))) (hRt.n 7 (by omega)) ?_
          refine lv_iload_n hx hb dX5_bestRule_48 rfl (lv_at hl 2 rfl) ?_
          refine lv_icmp_gt (tgt := 74) hx hb dX5_bestRule_49 (by decide) (fun c49 => ?_) (fun c49 => ?_)
          · refine lv_iconst (v := (nI (1))) hx hb dX5_bestRule_74 (by decide) ?_
            refine lv_goto (tgt := 79) hx hb dX5_bestRule_75 (by decide) ?_
            refine lv_istore (lv' := [(5, .int _), (0, .ref _), (1, .int _), (2, .int _), (3, .int _), (4, .int _)]) hx hb dX5_bestRule_79 hl (by decide) rfl (fun ls hl => ?_)
            refine lv_iload hx hb dX5_bestRule_81 (lv_at hl 0 rfl) ?_
            refine jz_eq (tgt := 91) hx hb dX5_bestRule_83 (by decide) (by omega) (fun c83 => absurd c83 (by omega)) (fun c83 => ?_)
            refine lv_iload hx hb dX5_bestRule_86 (lv_at hl 5 rfl) ?_
            refine lv_goto (tgt := 92) hx hb dX5_bestRule_88 (by decide) ?_
            refine lv_istore_n (lv' := [(1, .int _), (5, .int _), (0, .ref _), (2, .int _), (3, .int _), (4, .int _)]) hx hb dX5_bestRule_92 rfl hl (by decide) rfl (fun ls hl => ?_)
            refine lv_iload hx hb dX5_bestRule_93 (lv_at hl 1 rfl) ?_
            refine jz_eq (tgt := 108) hx hb dX5_bestRule_95 (by decide) (by omega) (fun c95 => absurd c95 (by omega)) (fun c95 => ?_)
            refine lv_aload_n hx hb dX5_bestRule_98 rfl (lv_at hl 2 rfl) ?_
            refine j_get (T := TX5) (N := 16) (k := 8) hx hb hts hinX5 hown hw hO rfl (by decide) (hts (.fieldLink RX5 19 "NightTrainsModel" "trial" "[I") (by decide +kernel)) rfl dX5_bestRule_99 ?_
            refine lv_bipush (v := (nI (7))) hx hb dX5_bestRule_102 (by decide) ?_
            refine j_iald hx hb hw hTr (k := 7) rfl (by omega) (by omega) dX5_bestRule_104 ?_
            refine j_eq (y := (nI ((goS 10 (upn σ 4 k)).1 7))) (hRt.n 7 (by omega)) ?_
            refine lv_goto (tgt := 109) hx hb dX5_bestRule_105 (by decide) ?_
            refine lv_istore_n (lv' := [(2, .int _), (1, .int _), (5, .int _), (0, .ref _), (3, .int _), (4, .int _)]) hx hb dX5_bestRule_109 rfl hl (by decide) rfl (fun ls hl => ?_)
            refine lv_iload hx hb dX5_bestRule_110 (lv_at hl 2 rfl) ?_
            refine jz_eq (tgt := 125) hx hb dX5_bestRule_112 (by decide) (by omega) (fun c112 => absurd c112 (by omega)) (fun c112 => ?_)
            refine lv_aload_n hx hb dX5_bestRule_115 rfl (lv_at hl 3 rfl) ?_
            refine j_get (T := TX5) (N := 16) (k := 8) hx hb hts hinX5 hown hw hO rfl (by decide) (hts (.fieldLink RX5 19 "NightTrainsModel" "trial" "[I") (by decide +kernel)) rfl dX5_bestRule_116 ?_
            refine lv_bipush (v := (nI (10))) hx hb dX5_bestRule_119 (by decide) ?_
            refine j_iald hx hb hw hTr (k := 10) rfl (by omega) (by omega) dX5_bestRule_121 ?_
            refine j_eq (y := (nI ((goS 10 (upn σ 4 k)).1 10))) (hRt.n 10 (by omega)) ?_
            refine lv_goto (tgt := 126) hx hb dX5_bestRule_122 (by decide) ?_
            refine lv_istore_n (lv' := [(3, .int _), (2, .int _), (1, .int _), (5, .int _), (0, .ref _), (4, .int _)]) hx hb dX5_bestRule_126 rfl hl (by decide) rfl (fun ls hl => ?_)
            have hb9 := bst_y (σ := σ) (k := k) (by first | exact Or.inl hwk | exact Or.inr (Or.inl (by rw [← hu2]; exact c49)) | exact Or.inr (Or.inr ⟨c60.trans hu2, by rw [← hu3]; exact Int32.not_le.mp c71⟩))
            refine lv_iinc (v := nI (k + 1)) (lv' := [(4, .int _), (3, .int _), (2, .int _), (1, .int _), (5, .int _), (0, .ref _)]) hx hb dX5_bestRule_127 hl (k := 5) rfl (nI_add _ 1) (by decide) rfl (fun ls hl => ?_)
            refine lv_goto (tgt := 14) hx hb dX5_bestRule_130 (by decide) ?_
            exact ih14  (k + 1) (nI (k)) (nI ((goS 10 (upn σ 4 k)).1 7)) (nI ((goS 10 (upn σ 4 k)).1 10)) f5 y7 b8 tk6 (by first | assumption | omega) (by rw [hb9]; try rfl) (by rw [hb9]; try rfl) (by rw [hb9]; try rfl) (by omega) H _ hw hf hSc hRd hA hDy hKp hIk hTr hO hT8 _ (lv_sub hl [5, 3, 2, 1, 0] rfl)
          · refine lv_aload_n hx hb dX5_bestRule_52 rfl (lv_at hl 0 rfl) ?_
            refine j_get (T := TX5) (N := 16) (k := 8) hx hb hts hinX5 hown hw hO rfl (by decide) (hts (.fieldLink RX5 19 "NightTrainsModel" "trial" "[I") (by decide +kernel)) rfl dX5_bestRule_53 ?_
            refine lv_bipush (v := (nI (7))) hx hb dX5_bestRule_56 (by decide) ?_
            refine j_iald hx hb hw hTr (k := 7) rfl (by omega) (by omega) dX5_bestRule_58 ?_
            refine j_eq (y := (nI ((goS 10 (upn σ 4 k)).1 7))) (hRt.n 7 (by omega)) ?_
            refine lv_iload_n hx hb dX5_bestRule_59 rfl (lv_at hl 2 rfl) ?_
            refine lv_icmp_ne (tgt := 78) hx hb dX5_bestRule_60 (by decide) (fun c60 => ?_) (fun c60 => ?_)
            · refine lv_iconst (v := (nI (0))) hx hb dX5_bestRule_78 (by decide) ?_
              refine lv_istore (lv' := [(5, .int _), (0, .ref _), (1, .int _), (2, .int _), (3, .int _), (4, .int _)]) hx hb dX5_bestRule_79 hl (by decide) rfl (fun ls hl => ?_)
              refine lv_iload hx hb dX5_bestRule_81 (lv_at hl 0 rfl) ?_
              refine jz_eq (tgt := 91) hx hb dX5_bestRule_83 (by decide) (by omega) (fun c83 => ?_) (fun c83 => absurd c83 (by omega))
              refine lv_iload_n hx hb dX5_bestRule_91 rfl (lv_at hl 2 rfl) ?_
              refine lv_istore_n (lv' := [(1, .int _), (5, .int _), (0, .ref _), (2, .int _), (3, .int _), (4, .int _)]) hx hb dX5_bestRule_92 rfl hl (by decide) rfl (fun ls hl => ?_)
              refine lv_iload hx hb dX5_bestRule_93 (lv_at hl 1 rfl) ?_
              refine jz_eq (tgt := 108) hx hb dX5_bestRule_95 (by decide) (by omega) (fun c95 => ?_) (fun c95 => absurd c95 (by omega))
              refine lv_iload_n hx hb dX5_bestRule_108 rfl (lv_at hl 3 rfl) ?_
              refine lv_istore_n (lv' := [(2, .int _), (1, .int _), (5, .int _), (0, .ref _), (3, .int _), (4, .int _)]) hx hb dX5_bestRule_109 rfl hl (by decide) rfl (fun ls hl => ?_)
              refine lv_iload hx hb dX5_bestRule_110 (lv_at hl 2 rfl) ?_
              refine jz_eq (tgt := 125) hx hb dX5_bestRule_112 (by decide) (by omega) (fun c112 => ?_) (fun c112 => absurd c112 (by omega))
              refine lv_iload_n hx hb dX5_bestRule_125 rfl (lv_at hl 4 rfl) ?_
              refine lv_istore_n (lv' := [(3, .int _), (2, .int _), (1, .int _), (5, .int _), (0, .ref _), (4, .int _)]) hx hb dX5_bestRule_126 rfl hl (by decide) rfl (fun ls hl => ?_)
              have hb9 := bst_n (σ := σ) (k := k) (fun q => q.elim (fun q => by rw [hwk] at q; cases q) (fun q => q.elim (fun q => c49 (by rw [hu2]; exact q)) (fun q => by first | exact c60 (q.1.trans hu2.symm) | exact absurd q.2 (by rw [← hu3]; exact Int32.not_lt.mpr c71))))
              refine lv_iinc (v := nI (k + 1)) (lv' := [(4, .int _), (3, .int _), (2, .int _), (1, .int _), (5, .int _), (0, .ref _)]) hx hb dX5_bestRule_127 hl (k := 5) rfl (nI_add _ 1) (by decide) rfl (fun ls hl => ?_)
              refine lv_goto (tgt := 14) hx hb dX5_bestRule_130 (by decide) ?_
              exact ih14  (k + 1) (nI (b9)) u2 u3 f5 y7 b8 tk6 (by first | assumption | omega) (by rw [hb9, hwk]; try rfl) (by rw [hb9]; exact hu2) (by rw [hb9]; exact hu3) (by omega) H _ hw hf hSc hRd hA hDy hKp hIk hTr hO hT8 _ (lv_sub hl [5, 3, 2, 1, 0] rfl)
            · refine lv_aload_n hx hb dX5_bestRule_63 rfl (lv_at hl 0 rfl) ?_
              refine j_get (T := TX5) (N := 16) (k := 8) hx hb hts hinX5 hown hw hO rfl (by decide) (hts (.fieldLink RX5 19 "NightTrainsModel" "trial" "[I") (by decide +kernel)) rfl dX5_bestRule_64 ?_
              refine lv_bipush (v := (nI (10))) hx hb dX5_bestRule_67 (by decide) ?_
              refine j_iald hx hb hw hTr (k := 10) rfl (by omega) (by omega) dX5_bestRule_69 ?_
              refine j_eq (y := (nI ((goS 10 (upn σ 4 k)).1 10))) (hRt.n 10 (by omega)) ?_
              refine lv_iload_n hx hb dX5_bestRule_70 rfl (lv_at hl 3 rfl) ?_
              refine lv_icmp_le (tgt := 78) hx hb dX5_bestRule_71 (by decide) (fun c71 => ?_) (fun c71 => ?_)
              · refine lv_iconst (v := (nI (0))) hx hb dX5_bestRule_78 (by decide) ?_
                refine lv_istore (lv' := [(5, .int _), (0, .ref _), (1, .int _), (2, .int _), (3, .int _), (4, .int _)]) hx hb dX5_bestRule_79 hl (by decide) rfl (fun ls hl => ?_)
                refine lv_iload hx hb dX5_bestRule_81 (lv_at hl 0 rfl) ?_
                refine jz_eq (tgt := 91) hx hb dX5_bestRule_83 (by decide) (by omega) (fun c83 => ?_) (fun c83 => absurd c83 (by omega))
                refine lv_iload_n hx hb dX5_bestRule_91 rfl (lv_at hl 2 rfl) ?_
                refine lv_istore_n (lv' := [(1, .int _), (5, .int _), (0, .ref _), (2, .int _), (3, .int _), (4, .int _)]) hx hb dX5_bestRule_92 rfl hl (by decide) rfl (fun ls hl => ?_)
                refine lv_iload hx hb dX5_bestRule_93 (lv_at hl 1 rfl) ?_
                refine jz_eq (tgt := 108) hx hb dX5_bestRule_95 (by decide) (by omega) (fun c95 => ?_) (fun c95 => absurd c95 (by omega))
                refine lv_iload_n hx hb dX5_bestRule_108 rfl (lv_at hl 3 rfl) ?_
                refine lv_istore_n (lv' := [(2, .int _), (1, .int _), (5, .int _), (0, .ref _), (3, .int _), (4, .int _)]) hx hb dX5_bestRule_109 rfl hl (by decide) rfl (fun ls hl => ?_)
                refine lv_iload hx hb dX5_bestRule_110 (lv_at hl 2 rfl) ?_
                refine jz_eq (tgt := 125) hx hb dX5_bestRule_112 (by decide) (by omega) (fun c112 => ?_) (fun c112 => absurd c112 (by omega))
                refine lv_iload_n hx hb dX5_bestRule_125 rfl (lv_at hl 4 rfl) ?_
                refine lv_istore_n (lv' := [(3, .int _), (2, .int _), (1, .int _), (5, .int _), (0, .ref _), (4, .int _)]) hx hb dX5_bestRule_126 rfl hl (by decide) rfl (fun ls hl => ?_)
                have hb9 := bst_n (σ := σ) (k := k) (fun q => q.elim (fun q => by rw [hwk] at q; cases q) (fun q => q.elim (fun q => c49 (by rw [hu2]; exact q)) (fun q => by first | exact c60 (q.1.trans hu2.symm) | exact absurd q.2 (by rw [← hu3]; exact Int32.not_lt.mpr c71))))
                refine lv_iinc (v := nI (k + 1)) (lv' := [(4, .int _), (3, .int _), (2, .int _), (1, .int _), (5, .int _), (0, .ref _)]) hx hb dX5_bestRule_127 hl (k := 5) rfl (nI_add _ 1) (by decide) rfl (fun ls hl => ?_)
                refine lv_goto (tgt := 14) hx hb dX5_bestRule_130 (by decide) ?_
                exact ih14  (k + 1) (nI (b9)) u2 u3 f5 y7 b8 tk6 (by first | assumption | omega) (by rw [hb9, hwk]; try rfl) (by rw [hb9]; exact hu2) (by rw [hb9]; exact hu3) (by omega) H _ hw hf hSc hRd hA hDy hKp hIk hTr hO hT8 _ (lv_sub hl [5, 3, 2, 1, 0] rfl)
              · refine lv_iconst (v := (nI (1))) hx hb dX5_bestRule_74 (by decide) ?_
                refine lv_goto (tgt := 79) hx hb dX5_bestRule_75 (by decide) ?_
                refine lv_istore (lv' := [(5, .int _), (0, .ref _), (1, .int _), (2, .int _), (3, .int _), (4, .int _)]) hx hb dX5_bestRule_79 hl (by decide) rfl (fun ls hl => ?_)
                refine lv_iload hx hb dX5_bestRule_81 (lv_at hl 0 rfl) ?_
                refine jz_eq (tgt := 91) hx hb dX5_bestRule_83 (by decide) (by omega) (fun c83 => absurd c83 (by omega)) (fun c83 => ?_)
                refine lv_iload hx hb dX5_bestRule_86 (lv_at hl 5 rfl) ?_
                refine lv_goto (tgt := 92) hx hb dX5_bestRule_88 (by decide) ?_
                refine lv_istore_n (lv' := [(1, .int _), (5, .int _), (0, .ref _), (2, .int _), (3, .int _), (4, .int _)]) hx hb dX5_bestRule_92 rfl hl (by decide) rfl (fun ls hl => ?_)
                refine lv_iload hx hb dX5_bestRule_93 (lv_at hl 1 rfl) ?_
                refine jz_eq (tgt := 108) hx hb dX5_bestRule_95 (by decide) (by omega) (fun c95 => absurd c95 (by omega)) (fun c95 => ?_)
                refine lv_aload_n hx hb dX5_bestRule_98 rfl (lv_at hl 2 rfl) ?_
                refine j_get (T := TX5) (N := 16) (k := 8) hx hb hts hinX5 hown hw hO rfl (by decide) (hts (.fieldLink RX5 19 "NightTrainsModel" "trial" "[I") (by decide +kernel)) rfl dX5_bestRule_99 ?_
                refine lv_bipush (v := (nI (7))) hx hb dX5_bestRule_102 (by decide) ?_
                refine j_iald hx hb hw hTr (k := 7) rfl (by omega) (by omega) dX5_bestRule_104 ?_
                refine j_eq (y := (nI ((goS 10 (upn σ 4 k)).1 7))) (hRt.n 7 (by omega)) ?_
                refine lv_goto (tgt := 109) hx hb dX5_bestRule_105 (by decide) ?_
                refine lv_istore_n (lv' := [(2, .int _), (1, .int _), (5, .int _), (0, .ref _), (3, .int _), (4, .int _)]) hx hb dX5_bestRule_109 rfl hl (by decide) rfl (fun ls hl => ?_)
                refine lv_iload hx hb dX5_bestRule_110 (lv_at hl 2 rfl) ?_
                refine jz_eq (tgt := 125) hx hb dX5_bestRule_112 (by decide) (by omega) (fun c112 => absurd c112 (by omega)) (fun c112 => ?_)
                refine lv_aload_n hx hb dX5_bestRule_115 rfl (lv_at hl 3 rfl) ?_
                refine j_get (T := TX5) (N := 16) (k := 8) hx hb hts hinX5 hown hw hO rfl (by decide) (hts (.fieldLink RX5 19 "NightTrainsModel" "trial" "[I") (by decide +kernel)) rfl dX5_bestRule_116 ?_
                refine lv_bipush (v := (nI (10))) hx hb dX5_bestRule_119 (by decide) ?_
                refine j_iald hx hb hw hTr (k := 10) rfl (by omega) (by omega) dX5_bestRule_121 ?_
                refine j_eq (y := (nI ((goS 10 (upn σ 4 k)).1 10))) (hRt.n 10 (by omega)) ?_
                refine lv_goto (tgt := 126) hx hb dX5_bestRule_122 (by decide) ?_
                refine lv_istore_n (lv' := [(3, .int _), (2, .int _), (1, .int _), (5, .int _), (0, .ref _), (4, .int _)]) hx hb dX5_bestRule_126 rfl hl (by decide) rfl (fun ls hl => ?_)
                have hb9 := bst_y (σ := σ) (k := k) (by first | exact Or.inl hwk | exact Or.inr (Or.inl (by rw [← hu2]; exact c49)) | exact Or.inr (Or.inr ⟨c60.trans hu2, by rw [← hu3]; exact Int32.not_le.mp c71⟩))
                refine lv_iinc (v := nI (k + 1)) (lv' := [(4, .int _), (3, .int _), (2, .int _), (1, .int _), (5, .int _), (0, .ref _)]) hx hb dX5_bestRule_127 hl (k := 5) rfl (nI_add _ 1) (by decide) rfl (fun ls hl => ?_)
                refine lv_goto (tgt := 14) hx hb dX5_bestRule_130 (by decide) ?_
                exact ih14  (k + 1) (nI (k)) (nI ((goS 10 (upn σ 4 k)).1 7)) (nI ((goS 10 (upn σ 4 k)).1 10)) f5 y7 b8 tk6 (by first | assumption | omega) (by rw [hb9]; try rfl) (by rw [hb9]; try rfl) (by rw [hb9]; try rfl) (by omega) H _ hw hf hSc hRd hA hDy hKp hIk hTr hO hT8 _ (lv_sub hl [5, 3, 2, 1, 0] rfl)
  exact lp14 (3 - 0 + 1) 0 (-1) (nI (0)) (nI (0)) tr x14 sn tk (by first | assumption | omega) rfl rfl rfl (by omega) H _ hw hf hSc hRd hA hDy hKp hIk hTr hO hT8 _ (lv_sub hl [4, 3, 2, 1, 0] rfl)
