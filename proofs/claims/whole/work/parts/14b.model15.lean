abbrev q_X5_tenTo (g : jG) (H0 : Heap) (k : Nat) : Option Value → Heap → Prop := jN64 (fun r H1 => H1 = H0 ∧ (r = p10 k))
set_option maxHeartbeats 4000000 in
set_option maxRecDepth 100000 in
theorem c_X5_tenTo (l : Launch) (g : jG) (z : Nat) (H0 : Heap) (k : Nat) (hk : k < 16) : jM l g z yX5_tenTo wsX5_tenTo 0 0 [.int (nI (k))] H0 (q_X5_tenTo g H0 k) := by
  refine j_of (cc := cX5_tenTo) (n := 4) (ret := some .long) (by decide) rfl (Nat.le_of_ble_eq_true rfl) ?_
  intro p e s m below meth c hx hb hr hml hown hts hlocks hname hH hw ls hl
  have hl : lv_has ls 4 [(0, .int (nI (k)))] := hl
  refine lv_lconst (v := 1) hx hb dX5_tenTo_0 (by decide) ?_
  refine lv_lstore_n (lv' := [(1, .long _), (0, .int _)]) hx hb dX5_tenTo_1 rfl hl (by decide) rfl (fun ls hl => ?_)
  refine lv_iconst (v := (nI (0))) hx hb dX5_tenTo_2 (by decide) ?_
  refine lv_istore_n (lv' := [(3, .int _), (1, .long _), (0, .int _)]) hx hb dX5_tenTo_3 rfl hl (by decide) rfl (fun ls hl => ?_)
  have lp4 : ∀ (n4 : Nat) (j : Nat) (hj : j ≤ k) (hmu4 : k - j < n4) (locs : List Loc) (hw : jW g z s H0 locs) (ls : Array Slot) (hl : lv_has ls 4 [(0, .int (nI (k))), (1, .long (p10 j)), (3, .int (nI (j)))]), jK p l e 0 0 s m [.int (nI (k))] below meth c z H0 (q_X5_tenTo g H0 k) H0 locs (F0 m 4 ls []) := by
    intro n4
    induction n4 with
    | zero => intros; omega
    | succ n4 ih4 =>
      intro j hj hmu4 locs hw  ls hl
      refine lv_iload_n hx hb dX5_tenTo_4 rfl (lv_at hl 2 rfl) ?_
      refine lv_iload_n hx hb dX5_tenTo_5 rfl (lv_at hl 0 rfl) ?_
      refine jn_ge (tgt := 21) hx hb dX5_tenTo_6 (by decide) (by omega) (by omega) (fun c6 => ?_) (fun c6 => ?_)
      · obtain rfl : j = k := (by omega)
        refine lv_lload_n hx hb dX5_tenTo_21 rfl (lv_at hl 1 rfl) ?_
        refine j_lret hx hb hr hlocks hH hw dX5_tenTo_22 ?_
        exact ⟨_, rfl, rfl, rfl⟩
      · refine lv_lload_n hx hb dX5_tenTo_9 rfl (lv_at hl 1 rfl) ?_
        refine lv_ldc2 (v := 10) hx hb hown (hts (.constantLong RX5 43 (10)) (by decide +kernel)) dX5_tenTo_10 ?_
        refine lv_lmul hx hb dX5_tenTo_13 ?_
        refine lv_lstore_n (lv' := [(1, .long _), (0, .int _), (3, .int _)]) hx hb dX5_tenTo_14 rfl hl (by decide) rfl (fun ls hl => ?_)
        refine lv_iinc (v := nI (j + 1)) (lv' := [(3, .int _), (1, .long _), (0, .int _)]) hx hb dX5_tenTo_15 hl (k := 2) rfl (nI_add _ 1) (by decide) rfl (fun ls hl => ?_)
        refine lv_goto (tgt := 4) hx hb dX5_tenTo_18 (by decide) ?_
        exact ih4  (j + 1) (by first | assumption | omega) (by omega) _ hw _ (lv_sub hl [2, 1, 0] rfl)
  exact lp4 (k - (0) + 1) (0) (by first | assumption | omega) (by omega) _ hw _ (lv_sub hl [2, 1, 0] rfl)

abbrev q_X5_runScript (g : jG) (H0 : Heap) (M : Nat) (an : Int32) (told : Int64) (x0 : Int32) (tx : List Nat) (σ : Sg) (hi : List Sg) (sv : Nat → Option Sg) : Option Value → Heap → Prop := jN (fun r H1 => ((fScript σ an told).1 = 0 → r = (fScript σ an told).2) ∧ MD g H1 M (nI (fScript σ an told).1) tx σ hi sv ∧ jF M 9 H0 H1)
set_option maxHeartbeats 4000000 in
set_option maxRecDepth 100000 in
theorem c_X5_runScript (l : Launch) (g : jG) (z : Nat) (H0 : Heap) (M : Nat) (an : Int32) (told : Int64) (x0 : Int32) (tx : List Nat) (σ : Sg) (hi : List Sg) (sv : Nat → Option Sg) (hzM : z ≤ M) (hMD : MD g H0 M x0 tx σ hi sv) : jM l g z yX5_runScript wsX5_runScript 7 165 [.ref M, .int an, .long told] H0 (q_X5_runScript g H0 M an told x0 tx σ hi sv) := by
  refine j_of (cc := cX5_runScript) (n := 6) (ret := some .int) (by decide) rfl (Nat.le_of_ble_eq_true rfl) ?_
  intro p e s m below meth c hx hb hr hml hown hts hlocks hname hH hw ls hl
  have hl : lv_has ls 6 [(0, .ref M), (1, .int an), (2, .long told)] := hl
  have hf : jF M 9 H0 H0 := jF.rf
  obtain ⟨x3, x4, x5, x14, sn, sc, rd, nw, tr, dy, kp, ik, tk, hO, hSc, hRd, hA, hTr, hDy, hKp, hIk, hT8, hMI⟩ := hMD
  obtain ⟨htx, hsc, hR, hN, hhi, hdy, hkp⟩ := id hMI
  obtain ⟨hs, hcalm, h20⟩ := id hN
  refine lv_iload_n hx hb dX5_runScript_0 rfl (lv_at hl 1 rfl) ?_
  refine lv_i2l (v := an.toInt64) hx hb dX5_runScript_1 rfl ?_
  refine lv_lconst (v := 1) hx hb dX5_runScript_2 (by decide) ?_
  refine lv_ldc2 (v := 3) hx hb hown (hts (.constantLong RX5 190 (3)) (by decide +kernel)) dX5_runScript_3 ?_
  refine j_Sp (n := 3) (As := [.long an.toInt64, .long 1, .long 3]) hx hb hml hown hts hw (c_X5_in l g z H0 an.toInt64 1 3   ) gX5_runScript_X5_in rfl (by decide +kernel) ⟨Nat.le_of_ble_eq_true rfl, Nat.le_of_ble_eq_true rfl⟩ rfl hl.1 (Nat.le_of_ble_eq_true rfl) ⟨Nat.zero_le _, Nat.zero_le _⟩ dX5_runScript_6 (fun r1 locs hr1 hw => ?_) rfl
  rcases in_ix (x := an) (a := 1) (n := 4) (by decide) (by decide) hr1 with ⟨rfl, k, hk, hka, hkn, rfl⟩ | ⟨rfl, hk⟩
  · refine lv_istore (lv' := [(4, .int _), (0, .ref _), (1, .int _), (2, .long _)]) hx hb dX5_runScript_9 hl (by decide) rfl (fun ls hl => ?_)
    refine lv_aload_n hx hb dX5_runScript_11 rfl (lv_at hl 1 rfl) ?_
    refine lv_iload hx hb dX5_runScript_12 (lv_at hl 0 rfl) ?_
    refine jz_eq (tgt := 46) hx hb dX5_runScript_14 (by decide) (by omega) (fun c14 => absurd c14 (by omega)) (fun c14 => ?_)
    refine lv_lload_n hx hb dX5_runScript_17 rfl (lv_at hl 3 rfl) ?_
    refine lv_lconst (v := 0) hx hb dX5_runScript_18 (by decide) ?_
    refine lv_iload hx hb dX5_runScript_19 (lv_at hl 0 rfl) ?_
    refine jz_eq (tgt := 30) hx hb dX5_runScript_21 (by decide) (by omega) (fun c21 => absurd c21 (by omega)) (fun c21 => ?_)
    refine lv_iconst (v := (nI (5))) hx hb dX5_runScript_24 (by decide) ?_
    refine lv_iload_n hx hb dX5_runScript_25 rfl (lv_at hl 2 rfl) ?_
    refine j_mulN hx hb dX5_runScript_26 ?_
    refine lv_goto (tgt := 31) hx hb dX5_runScript_27 (by decide) ?_
    refine j_Sl (n := 1) (As := [.int (nI ((5 * k)))]) hx hb hml hown hts hw (c_X5_tenTo l g z H0 ((5 * k))   (by omega)) gX5_runScript_X5_tenTo rfl (by decide +kernel) ⟨Nat.le_of_ble_eq_true rfl, Nat.le_of_ble_eq_true rfl⟩ rfl hl.1 (Nat.le_of_ble_eq_true rfl) ⟨Nat.zero_le _, Nat.zero_le _⟩ dX5_runScript_31 (fun r2 locs hr2 hw => ?_) rfl
    obtain rfl : r2 = (p10 ((5 * k))) := hr2
    refine lv_lconst (v := 1) hx hb dX5_runScript_34 (by decide) ?_
    refine lv_lsub hx hb dX5_runScript_35 ?_
    refine j_Sp (n := 3) (As := [.long told, .long 0, .long ((p10 ((5 * k))) - 1)]) hx hb hml hown hts hw (c_X5_in l g z H0 told 0 ((p10 ((5 * k))) - 1)   ) gX5_runScript_X5_in rfl (by decide +kernel) ⟨Nat.le_of_ble_eq_true rfl, Nat.le_of_ble_eq_true rfl⟩ rfl hl.1 (Nat.le_of_ble_eq_true rfl) ⟨Nat.zero_le _, Nat.zero_le _⟩ dX5_runScript_36 (fun r3 locs hin9 hw => ?_) rfl
    rcases hin9 with ⟨rfl, hin9⟩ | ⟨rfl, hin9⟩
    · refine jz_eq (tgt := 46) hx hb dX5_runScript_39 (by decide) (by omega) (fun c39 => absurd c39 (by omega)) (fun c39 => ?_)
      refine lv_iconst (v := (nI (0))) hx hb dX5_runScript_42 (by decide) ?_
      refine lv_goto (tgt := 47) hx hb dX5_runScript_43 (by decide) ?_
      refine j_Vi (n := 1) (As := [.int (nI (0))]) hx hb hml hown hts hw (j_recv hw hO rfl) (c_X5_refused l g z H0 M (0) x0 (nI (tx.length)) x3 x4 x5 (nI (hi.length)) x14 _ hzM hO (by first | assumption | omega)) gX5_runScript_X5_refused rfl (by decide +kernel) ⟨Nat.le_of_ble_eq_true rfl, Nat.le_of_ble_eq_true rfl⟩ rfl hl.1 (Nat.le_of_ble_eq_true rfl) ⟨Nat.zero_le _, Nat.zero_le _⟩ dX5_runScript_47 (fun r4 H locs hr4 hw hsz => ?_) rfl
      obtain ⟨hr4, hO, hf2⟩ := hr4
      obtain rfl : r4 = nI 0 := hr4
      have hO : jO g H M 5 [.int (nI (0)), .ref (M + 1), .int (nI (tx.length)), .int x3, .int x4, .int x5, .ref (M + 2), .ref (M + 3), .ref (M + 4), .ref (M + 5), .int (nI (hi.length)), .ref (M + 6), .ref (M + 7), .ref (M + 8), .int x14, .int (bI sn)] := hO
      have hSc := hSc.kept (hf2.2 _ (by omega))
      have hRd := hRd.kept (hf2.2 _ (by omega))
      have hA := hA.kept (hf2.2 _ (by omega))
      have hTr := hTr.kept (hf2.2 _ (by omega))
      have hDy := hDy.kept (hf2.2 _ (by omega))
      have hKp := hKp.kept (hf2.2 _ (by omega))
      have hIk := hIk.kept (hf2.2 _ (by omega))
      have hT8 := hT8.kept (hf2.2 _ (by omega))
      have hf := hf.step hf2 (by omega)
      refine jz_eq (tgt := 55) hx hb dX5_runScript_50 (by decide) (by omega) (fun c50 => ?_) (fun c50 => absurd c50 (by omega))
      have hsc9 := hin9
      obtain ⟨T, hT63, hTe⟩ := pk_lOf (x := told) (fun q => absurd q (Int64.not_lt.mpr hsc9.1))
      have hTT : told.toInt.toNat = T := by rw [hTe, pk_lT hT63]; rfl
      refine lv_aload_n hx hb dX5_runScript_55 rfl (lv_at hl 1 rfl) ?_
      refine j_Vv (n := 0) (As := []) hx hb hml hown hts hw (j_recv hw hO rfl) (c_X5_tryIt l g z H M (σ) nw tr (nI (0)) (nI (tx.length)) x3 x4 x5 (nI (hi.length)) x14 _ hzM hTr hO hA hR hs) gX5_runScript_X5_tryIt rfl (by decide +kernel) ⟨Nat.le_of_ble_eq_true rfl, Nat.le_of_ble_eq_true rfl⟩ rfl hl.1 (Nat.le_of_ble_eq_true rfl) ⟨Nat.zero_le _, Nat.zero_le _⟩ dX5_runScript_56 (fun H locs hr5 hw hsz => ?_) rfl
      obtain ⟨⟨f6, hTr, hRt⟩, hst, hf2⟩ := hr5
      have hO := hO.kept (hf2.2 _ (by omega))
      have hSc := hSc.kept (hf2.2 _ (by omega))
      have hRd := hRd.kept (hf2.2 _ (by omega))
      have hA := hA.kept (hf2.2 _ (by omega))
      have hDy := hDy.kept (hf2.2 _ (by omega))
      have hKp := hKp.kept (hf2.2 _ (by omega))
      have hIk := hIk.kept (hf2.2 _ (by omega))
      have hT8 := hT8.kept (hf2.2 _ (by omega))
      have hf := hf.step hf2 (by omega)
      refine lv_iconst (v := (nI (0))) hx hb dX5_runScript_59 (by decide) ?_
      refine lv_istore (lv' := [(5, .int _), (4, .int _), (0, .ref _), (1, .int _), (2, .long _)]) hx hb dX5_runScript_60 hl (by decide) rfl (fun ls hl => ?_)
      have lp62 : ∀ (n62 : Nat) (i : Nat) (d : Nat) (σk : Sg) (ft : Nat → Int32) (y14 : Int32) (b : Bool) (tk : Nat → Int32) (hid : i + d = k) (hG : scl T k d i σk = scl T k k 0 σ) (hcm : ∀ o ∈ σk.2.2.1, o 4 < 9) (hRt : Row ft σk) (hst : okS σk) (hmu62 : d < n62) (H : Heap) (locs : List Loc) (hw : jW g z s H locs) (hf : jF M 9 H0 H) (hSc : jI g H (M + 1) 120 sc) (hRd : jI g H (M + 2) 235 rd) (hA : jI g H (M + 3) 235 nw) (hDy : jI g H (M + 5) 3290 dy) (hKp : jI g H (M + 6) 470 kp) (hIk : jZ g H (M + 7) 2 ik) (hTr : jI g H (M + 4) 235 ft) (hO : jO g H M 5 [.int (nI (0)), .ref (M + 1), .int (nI (tx.length)), .int x3, .int x4, .int x5, .ref (M + 2), .ref (M + 3), .ref (M + 4), .ref (M + 5), .int (nI (hi.length)), .ref (M + 6), .ref (M + 7), .ref (M + 8), .int y14, .int (bI b)]) (hT8 : jI g H (M + 8) 16 tk) (ls : Array Slot) (hl : lv_has ls 6 [(0, .ref M), (1, .int (nI (k))), (2, .long told), (5, .int (nI (i)))]), jK p l e 7 165 s m [.ref M, .int (nI (k)), .long told] below meth c z H0 (q_X5_runScript g H0 M (nI (k)) told x0 tx σ hi sv) H locs (F0 m 62 ls []) := by
        intro n62
        induction n62 with
        | zero => intros; omega
        | succ n62 ih62 =>
          intro i d σk ft y14 b tk hid hG hcm hRt hst hmu62 H locs hw hf hSc hRd hA hDy hKp hIk hTr hO hT8 ls hl
          have hs9 := hst
          refine lv_iload hx hb dX5_runScript_62 (lv_at hl 3 rfl) ?_
          refine lv_iload_n hx hb dX5_runScript_64 rfl (lv_at hl 1 rfl) ?_
          refine jn_ge (tgt := 102) hx hb dX5_runScript_65 (by decide) (by omega) (by omega) (fun c65 => ?_) (fun c65 => ?_)
          · obtain rfl : d = 0 := (by omega)
            refine lv_iconst (v := (-1)) hx hb dX5_runScript_102 (by decide) ?_
            refine j_iret hx hb hr hlocks hH hw dX5_runScript_103 ?_
            have e9 : fScript σ (nI (k)) told = (0, -1) := by simp only [fScript, hk]; rw [if_pos hsc9, hTT, ← hG]; rfl
            exact ⟨_, rfl, by rw [e9]; exact ⟨fun _ => rfl, ⟨x3, x4, x5, y14, b, sc, rd, nw, ft, dy, kp, ik, tk, hO, hSc, hRd, hA, hTr, hDy, hKp, hIk, hT8, hMI⟩, hf⟩⟩
          · obtain ⟨d, rfl⟩ : ∃ d1, d = d1 + 1 := ⟨d - 1, by omega⟩
            refine lv_aload_n hx hb dX5_runScript_68 rfl (lv_at hl 0 rfl) ?_
            refine lv_lload_n hx hb dX5_runScript_69 rfl (lv_at hl 2 rfl) ?_
            refine lv_iconst (v := (nI (5))) hx hb dX5_runScript_70 (by decide) ?_
            refine lv_iload_n hx hb dX5_runScript_71 rfl (lv_at hl 1 rfl) ?_
            refine lv_iconst (v := (nI (1))) hx hb dX5_runScript_72 (by decide) ?_
            refine j_subN hx hb (by omega) dX5_runScript_73 ?_
            refine lv_iload hx hb dX5_runScript_74 (lv_at hl 3 rfl) ?_
            refine j_subN hx hb (by omega) dX5_runScript_76 ?_
            refine j_mulN hx hb dX5_runScript_77 ?_
            refine j_Sl (n := 1) (As := [.int (nI ((5 * ((k - 1) - i))))]) hx hb hml hown hts hw (c_X5_tenTo l g z H ((5 * ((k - 1) - i)))   (by omega)) gX5_runScript_X5_tenTo rfl (by decide +kernel) ⟨Nat.le_of_ble_eq_true rfl, Nat.le_of_ble_eq_true rfl⟩ rfl hl.1 (Nat.le_of_ble_eq_true rfl) ⟨Nat.zero_le _, Nat.zero_le _⟩ dX5_runScript_78 (fun r7 locs hr7 hw => ?_) rfl
            obtain rfl : r7 = (p10 ((5 * ((k - 1) - i)))) := hr7
            refine lv_ldiv hx hb dX5_runScript_81 (p10_ne (by omega)) ?_
            refine lv_ldc2 (v := 100000) hx hb hown (hts (.constantLong RX5 260 (100000)) (by decide +kernel)) dX5_runScript_82 ?_
            refine lv_lrem hx hb dX5_runScript_85 (by decide) ?_
            refine lv_l2i (v := nI (T / 10 ^ (5 * (k - 1 - i)) % 100000)) hx hb dX5_runScript_86 (grp_eq hT63 hTe (by omega)) ?_
            refine j_Vi (n := 1) (As := [.int (nI (T / 10 ^ (5 * (k - 1 - i)) % 100000))]) hx hb hml hown hts hw (j_recv hw hO rfl) (c_X5_does l g z H M (T / 10 ^ (5 * (k - 1 - i)) % 100000) (σk) ft (nI (0)) (nI (tx.length)) x3 x4 x5 (nI (hi.length)) y14 b tk hzM hO hTr hT8 hRt hst hcm (Nat.mod_lt _ (by decide))) gX5_runScript_X5_does rfl (by decide +kernel) ⟨Nat.le_of_ble_eq_true rfl, Nat.le_of_ble_eq_true rfl⟩ rfl hl.1 (Nat.le_of_ble_eq_true rfl) ⟨Nat.zero_le _, Nat.zero_le _⟩ dX5_runScript_87 (fun r8 H locs hr8 hw hsz => ?_) rfl
            obtain ⟨hr8, hto, y14g, sng, tkg, hOg, hTg⟩ := hr8
            obtain ⟨tc9, htc⟩ : ∃ x, x = (doG (σk) (T / 10 ^ (5 * (k - 1 - i)) % 100000)) := ⟨_, rfl⟩
            rw [← htc] at hr8 hto
            rcases tc9 with _ | σ9
            · obtain rfl : r8 = nI 0 := hr8
              obtain ⟨⟨f9, hTr, hRt⟩, hst, hf2⟩ := hto
              have hO := hOg
              have hT8 := hTg
              have hSc := hSc.kept (hf2.2 _ (by omega) (by omega) (by omega))
              have hRd := hRd.kept (hf2.2 _ (by omega) (by omega) (by omega))
              have hA := hA.kept (hf2.2 _ (by omega) (by omega) (by omega))
              have hDy := hDy.kept (hf2.2 _ (by omega) (by omega) (by omega))
              have hKp := hKp.kept (hf2.2 _ (by omega) (by omega) (by omega))
              have hIk := hIk.kept (hf2.2 _ (by omega) (by omega) (by omega))
              have hf := hf.three hf2 (by omega) (by omega) (by omega)
              refine jz_ne (tgt := 96) hx hb dX5_runScript_90 (by decide) (by omega) (fun c90 => absurd c90 (by omega)) (fun c90 => ?_)
              refine lv_iload hx hb dX5_runScript_93 (lv_at hl 3 rfl) ?_
              refine j_iret hx hb hr hlocks hH hw dX5_runScript_95 ?_
              have e9 : fScript σ (nI (k)) told = (0, nI i) := by simp only [fScript, hk]; rw [if_pos hsc9, hTT, ← hG, scl_no (show doG σk (grp T k i) = none from htc.symm)]; rfl
              exact ⟨_, rfl, by rw [e9]; exact ⟨fun _ => rfl, ⟨x3, x4, x5, y14g, sng, sc, rd, nw, f9, dy, kp, ik, tkg, hO, hSc, hRd, hA, hTr, hDy, hKp, hIk, hT8, hMI⟩, hf⟩⟩
            · obtain rfl : r8 = nI 1 := hr8
              obtain ⟨⟨f10, hTr, hRt⟩, hst, hf2⟩ := hto
              have hO := hOg
              have hT8 := hTg
              have hSc := hSc.kept (hf2.2 _ (by omega) (by omega) (by omega))
              have hRd := hRd.kept (hf2.2 _ (by omega) (by omega) (by omega))
              have hA := hA.kept (hf2.2 _ (by omega) (by omega) (by omega))
              have hDy := hDy.kept (hf2.2 _ (by omega) (by omega) (by omega))
              have hKp := hKp.kept (hf2.2 _ (by omega) (by omega) (by omega))
              have hIk := hIk.kept (hf2.2 _ (by omega) (by omega) (by omega))
              have hf := hf.three hf2 (by omega) (by omega) (by omega)
              refine jz_ne (tgt := 96) hx hb dX5_runScript_90 (by decide) (by omega) (fun c90 => ?_) (fun c90 => absurd c90 (by omega))
              have hco9 := okC_do ⟨hs9, hcm⟩ htc.symm
              refine lv_iinc (v := nI (i + 1)) (lv' := [(5, .int _), (0, .ref _), (1, .int _), (2, .long _)]) hx hb dX5_runScript_96 hl (k := 3) rfl (nI_add _ 1) (by decide) rfl (fun ls hl => ?_)
              refine lv_goto (tgt := 62) hx hb dX5_runScript_99 (by decide) ?_
              exact ih62  (i + 1) d σ9 f10 y14g sng tkg (by first | assumption | omega) (by rw [← scl_yes (show doG σk (grp T k i) = some σ9 from htc.symm)]; exact hG) hco9.2 hRt hst (by omega) H _ hw hf hSc hRd hA hDy hKp hIk hTr hO hT8 _ (lv_sub hl [1, 2, 3, 0] rfl)
      exact lp62 (k + 1) 0 k ((σ)) f6 x14 sn tk (by first | assumption | omega) rfl hcalm hRt hst (by omega) H _ hw hf hSc hRd hA hDy hKp hIk hTr hO hT8 _ (lv_sub hl [2, 3, 4, 0] rfl)
    · refine jz_eq (tgt := 46) hx hb dX5_runScript_39 (by decide) (by omega) (fun c39 => ?_) (fun c39 => absurd c39 (by omega))
      refine lv_iconst (v := (nI (1))) hx hb dX5_runScript_46 (by decide) ?_
      refine j_Vi (n := 1) (As := [.int (nI (1))]) hx hb hml hown hts hw (j_recv hw hO rfl) (c_X5_refused l g z H0 M (1) x0 (nI (tx.length)) x3 x4 x5 (nI (hi.length)) x14 _ hzM hO (by first | assumption | omega)) gX5_runScript_X5_refused rfl (by decide +kernel) ⟨Nat.le_of_ble_eq_true rfl, Nat.le_of_ble_eq_true rfl⟩ rfl hl.1 (Nat.le_of_ble_eq_true rfl) ⟨Nat.zero_le _, Nat.zero_le _⟩ dX5_runScript_47 (fun r11 H locs hr11 hw hsz => ?_) rfl
      obtain ⟨hr11, hO, hf2⟩ := hr11
      obtain rfl : r11 = nI 1 := hr11
      have hO : jO g H M 5 [.int (nI (1)), .ref (M + 1), .int (nI (tx.length)), .int x3, .int x4, .int x5, .ref (M + 2), .ref (M + 3), .ref (M + 4), .ref (M + 5), .int (nI (hi.length)), .ref (M + 6), .ref (M + 7), .ref (M + 8), .int x14, .int (bI sn)] := hO
      have hSc := hSc.kept (hf2.2 _ (by omega))
      have hRd := hRd.kept (hf2.2 _ (by omega))
      have hA := hA.kept (hf2.2 _ (by omega))
      have hTr := hTr.kept (hf2.2 _ (by omega))
      have hDy := hDy.kept (hf2.2 _ (by omega))
      have hKp := hKp.kept (hf2.2 _ (by omega))
      have hIk := hIk.kept (hf2.2 _ (by omega))
      have hT8 := hT8.kept (hf2.2 _ (by omega))
      have hf := hf.step hf2 (by omega)
      refine jz_eq (tgt := 55) hx hb dX5_runScript_50 (by decide) (by omega) (fun c50 => absurd c50 (by omega)) (fun c50 => ?_)
      refine lv_iconst (v := (nI (0))) hx hb dX5_runScript_53 (by decide) ?_
      refine j_iret hx hb hr hlocks hH hw dX5_runScript_54 ?_
      have e9 : fScript σ (nI (k)) told = (1, 0) := by simp only [fScript, hk]; exact if_neg hin9
      exact ⟨_, rfl, by rw [e9]; exact ⟨fun h9 => absurd h9 (Nat.succ_ne_zero _), ⟨x3, x4, x5, x14, sn, sc, rd, nw, tr, dy, kp, ik, tk, hO, hSc, hRd, hA, hTr, hDy, hKp, hIk, hT8, hMI⟩, hf⟩⟩
  · refine lv_istore (lv' := [(4, .int _), (0, .ref _), (1, .int _), (2, .long _)]) hx hb dX5_runScript_9 hl (by decide) rfl (fun ls hl => ?_)
    refine lv_aload_n hx hb dX5_runScript_11 rfl (lv_at hl 1 rfl) ?_
    refine lv_iload hx hb dX5_runScript_12 (lv_at hl 0 rfl) ?_
    refine jz_eq (tgt := 46) hx hb dX5_runScript_14 (by decide) (by omega) (fun c14 => ?_) (fun c14 => absurd c14 (by omega))
    refine lv_iconst (v := (nI (1))) hx hb dX5_runScript_46 (by decide) ?_
    refine j_Vi (n := 1) (As := [.int (nI (1))]) hx hb hml hown hts hw (j_recv hw hO rfl) (c_X5_refused l g z H0 M (1) x0 (nI (tx.length)) x3 x4 x5 (nI (hi.length)) x14 _ hzM hO (by first | assumption | omega)) gX5_runScript_X5_refused rfl (by decide +kernel) ⟨Nat.le_of_ble_eq_true rfl, Nat.le_of_ble_eq_true rfl⟩ rfl hl.1 (Nat.le_of_ble_eq_true rfl) ⟨Nat.zero_le _, Nat.zero_le _⟩ dX5_runScript_47 (fun r12 H locs hr12 hw hsz => ?_) rfl
    obtain ⟨hr12, hO, hf2⟩ := hr12
    obtain rfl : r12 = nI 1 := hr12
    have hO : jO g H M 5 [.int (nI (1)), .ref (M + 1), .int (nI (tx.length)), .int x3, .int x4, .int x5, .ref (M + 2), .ref (M + 3), .ref (M + 4), .ref (M + 5), .int (nI (hi.length)), .ref (M + 6), .ref (M + 7), .ref (M + 8), .int x14, .int (bI sn)] := hO
    have hSc := hSc.kept (hf2.2 _ (by omega))
    have hRd := hRd.kept (hf2.2 _ (by omega))
    have hA := hA.kept (hf2.2 _ (by omega))
    have hTr := hTr.kept (hf2.2 _ (by omega))
    have hDy := hDy.kept (hf2.2 _ (by omega))
    have hKp := hKp.kept (hf2.2 _ (by omega))
    have hIk := hIk.kept (hf2.2 _ (by omega))
    have hT8 := hT8.kept (hf2.2 _ (by omega))
    have hf := hf.step hf2 (by omega)
    refine jz_eq (tgt := 55) hx hb dX5_runScript_50 (by decide) (by omega) (fun c50 => absurd c50 (by omega)) (fun c50 => ?_)
    refine lv_iconst (v := (nI (0))) hx hb dX5_runScript_53 (by decide) ?_
    refine j_iret hx hb hr hlocks hH hw dX5_runScript_54 ?_
    have e9 : fScript σ an told = (1, 0) := by simp only [fScript, hk]
    exact ⟨_, rfl, by rw [e9]; exact ⟨fun h9 => absurd h9 (Nat.succ_ne_zero _), ⟨x3, x4, x5, x14, sn, sc, rd, nw, tr, dy, kp, ik, tk, hO, hSc, hRd, hA, hTr, hDy, hKp, hIk, hT8, hMI⟩, hf⟩⟩
