abbrev q_X4_runScript (g : jG) (H0 : Heap) (A : Nat) (an : Int32) (told : Int64) (tx : List Nat) (σ : Sg) (hi : List Sg) (sv : Nat → Option Sg) (K : Nat) : Option Value → Heap → Prop := jN (fun r H1 => fScript σ an told = (0, r) ∧ CD g H1 A tx σ hi sv ∧ jF A 223 H0 H1)
abbrev x_X4_runScript (A : Nat) (an : Int32) (told : Int64) (tx : List Nat) (σ : Sg) (hi : List Sg) (sv : Nat → Option Sg) (K : Nat) : String → Prop := fun E => ((fScript σ an told = (1, 0)) ∧ E = "java/lang/IllegalArgumentException")
set_option maxHeartbeats 4000000 in
set_option maxRecDepth 100000 in
theorem c_X4_runScript (l : Launch) (hl0 : l.stackTraces = false) (g : jG) (z : Nat) (H0 : Heap) (A : Nat) (an : Int32) (told : Int64) (tx : List Nat) (σ : Sg) (hi : List Sg) (sv : Nat → Option Sg) (K : Nat) (hz : z ≤ A) (hCD : CD g H0 A tx σ hi sv) (hlim : lim K σ) (hK : K < 2 ^ 29) : jMX l g z yX4_runScript wsX4_runScript 8 199 [.ref A, .int an, .long told] H0 (q_X4_runScript g H0 A an told tx σ hi sv K) (x_X4_runScript A an told tx σ hi sv K) := by
  refine j_ofX (cc := cX4_runScript) (n := 5) (ret := some .int) (by decide) rfl (Nat.le_of_ble_eq_true rfl) ?_
  intro p e s m below meth c hx hb hr hml hown hts hlocks hname hH hw hE hex ls hl
  have hl : lv_has ls 5 [(0, .ref A), (1, .int an), (2, .long told)] := hl
  have hinX4 : ∀ w ∈ u_ws RX4 TX4 6, w ∈ wsX4_runScript := by decide +kernel
  have hf : jF A 223 H0 H0 := jF.rf
  obtain ⟨τ, Rt, hO, hT, hS, hTr, hHi, hSl, hN⟩ := hCD
  obtain ⟨hs, hcalm, h20⟩ := id hN
  have hln := opnR_len (σ := σ)
  have hl21 := hs.2.2.1
  obtain ⟨hk7, hk10, hk12, hk30⟩ := id hlim
  refine lv_iload_n hx hb dX4_runScript_0 rfl (lv_at hl 1 rfl) ?_
  refine lv_iconst (v := (nI (1))) hx hb dX4_runScript_1 (by decide) ?_
  refine lv_icmp_lt (tgt := 10) hx hb dX4_runScript_2 (by decide) (fun c2 => ?_) (fun c2 => ?_)
  · exact j_throwW hl0 (cls := "java/lang/IllegalArgumentException") (text := "n is 1 to 3") (ik := 41) (is := 289) (ic := 45) hx hb hml hown hlocks hH hw hE hex (by decide +kernel) hts (by decide +kernel) (by decide +kernel) (by decide +kernel) (by decide +kernel) (by decide +kernel) vx_n41 vx_g41 hl.1 dX4_runScript_10 dX4_runScript_13 dX4_runScript_14 dX4_runScript_17 dX4_runScript_20 ⟨Nat.le_of_ble_eq_true rfl, Nat.le_of_ble_eq_true rfl, Nat.le_of_ble_eq_true rfl, Nat.le_of_ble_eq_true rfl⟩ (⟨(by first | simp only [fScript, ix_lo (a := 1) (n := 4) (by decide) c2] | simp only [fScript, ix_hi (x := an) (a := 1) (n := 3) (by decide) (Int32.not_le.mp c7)]), rfl⟩)
  · refine lv_iload_n hx hb dX4_runScript_5 rfl (lv_at hl 1 rfl) ?_
    refine lv_iconst (v := (nI (3))) hx hb dX4_runScript_6 (by decide) ?_
    refine lv_icmp_le (tgt := 21) hx hb dX4_runScript_7 (by decide) (fun c7 => ?_) (fun c7 => ?_)
    · obtain ⟨k, hk, hka, hkn, rfl⟩ := ix_mid (x := an) (a := 1) (n := 3) (by decide) (by decide) c2 (Int32.not_lt.mpr c7)
      refine lv_lload_n hx hb dX4_runScript_21 rfl (lv_at hl 2 rfl) ?_
      refine lv_lconst (v := 0) hx hb dX4_runScript_22 (by decide) ?_
      refine W.lcmp hx hb dX4_runScript_23 ?_
      refine jl_lt (tgt := 37) hx hb dX4_runScript_24 (by decide) (fun c24 => ?_) (fun c24 => ?_)
      · exact j_throwW hl0 (cls := "java/lang/IllegalArgumentException") (text := "a script has at most 5 * n digits") (ik := 41) (is := 295) (ic := 45) hx hb hml hown hlocks hH hw hE hex (by decide +kernel) hts (by decide +kernel) (by decide +kernel) (by decide +kernel) (by decide +kernel) (by decide +kernel) vx_n41 vx_g41 hl.1 dX4_runScript_37 dX4_runScript_40 dX4_runScript_41 dX4_runScript_44 dX4_runScript_47 ⟨Nat.le_of_ble_eq_true rfl, Nat.le_of_ble_eq_true rfl, Nat.le_of_ble_eq_true rfl, Nat.le_of_ble_eq_true rfl⟩ ⟨(by simp only [fScript, hk]; first | exact if_neg (fun q => absurd c24 (Int64.not_lt.mpr q.1)) | exact if_neg (fun q => c34 ((wg_0 hT63 (by omega)).mpr ((sc_ok hT63 hTe (by omega)).mp q)))), rfl⟩
      · obtain ⟨T, hT63, hTe⟩ := pk_lOf (x := told) c24
        have hTT : told.toInt.toNat = T := by rw [hTe, pk_lT hT63]; rfl
        refine lv_lload_n hx hb dX4_runScript_27 rfl (lv_at hl 2 rfl) ?_
        refine lv_iload_n hx hb dX4_runScript_28 rfl (lv_at hl 1 rfl) ?_
        refine j_Sl (n := 2) (As := [.long told, .int (nI (k))]) hx hb hml hown hts hw (c_X4_withoutGroups l g z H0 told (k) T   hTe hT63 (by omega)) gX4_runScript_X4_withoutGroups rfl (by decide +kernel) ⟨Nat.le_of_ble_eq_true rfl, Nat.le_of_ble_eq_true rfl⟩ rfl hl.1 (Nat.le_of_ble_eq_true rfl) ⟨Nat.zero_le _, Nat.zero_le _⟩ dX4_runScript_29 (fun r1 locs hr1 hw => ?_) rfl
        obtain rfl : r1 = (lN (T / 100000 ^ (k))) := hr1
        refine lv_lconst (v := 0) hx hb dX4_runScript_32 (by decide) ?_
        refine W.lcmp hx hb dX4_runScript_33 ?_
        refine jl_eq (tgt := 48) hx hb dX4_runScript_34 (by decide) (fun c34 => ?_) (fun c34 => ?_)
        · have hsc9 := (sc_ok hT63 hTe (show k < 4 by omega)).mpr ((wg_0 hT63 (by omega)).mp c34)
          refine lv_aload_n hx hb dX4_runScript_48 rfl (lv_at hl 0 rfl) ?_
          refine j_get (T := TX4) (N := 6) (k := 2) hx hb hts hinX4 hown hw hO rfl (by decide) (hts (.fieldLink RX4 23 "NightTrains" "trial" "LNightTrains$Store;") (by decide +kernel)) rfl dX4_runScript_49 ?_
          refine lv_aload_n hx hb dX4_runScript_52 rfl (lv_at hl 0 rfl) ?_
          refine j_get (T := TX4) (N := 6) (k := 1) hx hb hts hinX4 hown hw hO rfl (by decide) (hts (.fieldLink RX4 19 "NightTrains" "now" "LNightTrains$Store;") (by decide +kernel)) rfl dX4_runScript_53 ?_
          refine j_Vv (n := 1) (As := [.ref (A + 3)]) hx hb hml hown hts hw (j_recv hw hTr.obj rfl) (c_X2_copyFrom l g z H0 (A + 15) (A + 3) τ Rt σ (opnR σ) (by omega) hTr hS (by omega)) gX4_runScript_X2_copyFrom rfl (by decide +kernel) ⟨Nat.le_of_ble_eq_true rfl, Nat.le_of_ble_eq_true rfl⟩ rfl hl.1 (Nat.le_of_ble_eq_true rfl) ⟨Nat.zero_le _, Nat.zero_le _⟩ dX4_runScript_56 (fun H locs hr2 hw hsz => ?_) rfl
          obtain ⟨hTr, hf2⟩ := hr2
          have hO := hO.kept (hf2.2 _ (by omega))
          have hT := hT.kept (fun q _ _ => hf2.2 q (by omega))
          have hS := hS.kept (fun q _ _ => hf2.2 q (by omega))
          have hHi := hHi.kept (fun q _ _ => hf2.2 q (by omega))
          have hSl := hSl.kept (fun q _ _ => hf2.2 q (by omega))
          have hf := hf.step hf2 (by omega)
          refine lv_iconst (v := (nI (0))) hx hb dX4_runScript_59 (by decide) ?_
          refine lv_istore (lv' := [(4, .int _), (0, .ref _), (1, .int _), (2, .long _)]) hx hb dX4_runScript_60 hl (by decide) rfl (fun ls hl => ?_)
          have lp62 : ∀ (n62 : Nat) (i : Nat) (d : Nat) (σk : Sg) (hid : i + d = k) (hG : scl T k d i σk = scl T k k 0 σ) (hsk : okS σk) (hcm : ∀ o ∈ σk.2.2.1, o 4 < 9) (hLk : lim (K + 92000 * i) σk) (hmu62 : d < n62) (H : Heap) (locs : List Loc) (hw : jW g z s H locs) (hf : jF A 223 H0 H) (hO : jO g H A 4 [.ref (A + 1), .ref (A + 3), .ref (A + 15), .ref (A + 27), .ref (A + 197), .ref (A + 198)]) (hT : jTe g H (A + 1) tx) (hS : jSo g H (A + 3) σ (opnR σ)) (hTr : jSo g H (A + 15) σk (opnR σk)) (hHi : jHi g H (A + 27) hi) (hSl : jSl g H (A + 197) sv) (ls : Array Slot) (hl : lv_has ls 5 [(0, .ref A), (1, .int (nI (k))), (2, .long told), (4, .int (nI (i)))]), jKX p l e 8 199 s m [.ref A, .int (nI (k)), .long told] below meth c z H0 (q_X4_runScript g H0 A (nI (k)) told tx σ hi sv K) (x_X4_runScript A (nI (k)) told tx σ hi sv K) H locs (F0 m 62 ls []) := by
            intro n62
            induction n62 with
            | zero => intros; omega
            | succ n62 ih62 =>
              intro i d σk hid hG hsk hcm hLk hmu62 H locs hw hf hO hT hS hTr hHi hSl ls hl
              refine lv_iload hx hb dX4_runScript_62 (lv_at hl 3 rfl) ?_
              refine lv_iload_n hx hb dX4_runScript_64 rfl (lv_at hl 1 rfl) ?_
              refine jn_ge (tgt := 99) hx hb dX4_runScript_65 (by decide) (by omega) (by omega) (fun c65 => ?_) (fun c65 => ?_)
              · obtain rfl : d = 0 := (by omega)
                refine lv_iconst (v := (-1)) hx hb dX4_runScript_99 (by decide) ?_
                refine j_retX ?_
                refine j_iret hx hb hr hlocks hH hw dX4_runScript_100 ?_
                have e9 : fScript σ (nI (k)) told = (0, -1) := by simp only [fScript, hk]; rw [if_pos hsc9, hTT, ← hG]; rfl
                exact ⟨_, rfl, e9, ⟨_, _, hO, hT, hS, hTr, hHi, hSl, hN⟩, hf⟩
              · obtain ⟨d, rfl⟩ : ∃ d1, d = d1 + 1 := ⟨d - 1, by omega⟩
                refine lv_aload_n hx hb dX4_runScript_68 rfl (lv_at hl 0 rfl) ?_
                refine lv_lload_n hx hb dX4_runScript_69 rfl (lv_at hl 2 rfl) ?_
                refine lv_iload_n hx hb dX4_runScript_70 rfl (lv_at hl 1 rfl) ?_
                refine lv_iconst (v := (nI (1))) hx hb dX4_runScript_71 (by decide) ?_
                refine j_subN hx hb (by omega) dX4_runScript_72 ?_
                refine lv_iload hx hb dX4_runScript_73 (lv_at hl 3 rfl) ?_
                refine j_subN hx hb (by omega) dX4_runScript_75 ?_
                refine j_Sl (n := 2) (As := [.long told, .int (nI (((k - 1) - i)))]) hx hb hml hown hts hw (c_X4_withoutGroups l g z H told (((k - 1) - i)) T   hTe hT63 (by omega)) gX4_runScript_X4_withoutGroups rfl (by decide +kernel) ⟨Nat.le_of_ble_eq_true rfl, Nat.le_of_ble_eq_true rfl⟩ rfl hl.1 (Nat.le_of_ble_eq_true rfl) ⟨Nat.zero_le _, Nat.zero_le _⟩ dX4_runScript_76 (fun r3 locs hr3 hw => ?_) rfl
                obtain rfl : r3 = (lN (T / 100000 ^ (((k - 1) - i)))) := hr3
                refine lv_ldc2 (v := 100000) hx hb hown (hts (.constantLong RX4 297 (100000)) (by decide +kernel)) dX4_runScript_79 ?_
                refine lv_lrem hx hb dX4_runScript_82 (by decide) ?_
                refine lv_l2i (v := nI (grp T k i)) hx hb dX4_runScript_83 (grp_l hT63) ?_
                refine j_Vi (n := 1) (As := [.int (nI (grp T k i))]) hx hb hml hown hts hw (j_recv hw hO rfl) (c_X4_runGroup l g z H A (grp T k i) σk hz hO hTr hsk hcm (Nat.mod_lt _ (by decide)) (by have := hLk.2.2.1; omega)) gX4_runScript_X4_runGroup rfl (by decide +kernel) ⟨Nat.le_of_ble_eq_true rfl, Nat.le_of_ble_eq_true rfl⟩ rfl hl.1 (Nat.le_of_ble_eq_true rfl) ⟨Nat.zero_le _, Nat.zero_le _⟩ dX4_runScript_84 (fun r4 H locs hr4 hw hsz => ?_) rfl
                obtain ⟨hr4, hto⟩ := hr4
                obtain ⟨tc1, htc1⟩ : ∃ x, x = (doG σk (grp T k i)) := ⟨_, rfl⟩
                rw [← htc1] at hr4 hto
                rcases tc1 with _ | σ9
                · obtain rfl : r4 = nI 0 := hr4
                  obtain ⟨hTr, hf2⟩ := hto
                  have hO := hO.kept (hf2.2 _ (by omega))
                  have hT := hT.kept (fun q _ _ => hf2.2 q (by omega))
                  have hS := hS.kept (fun q _ _ => hf2.2 q (by omega))
                  have hHi := hHi.kept (fun q _ _ => hf2.2 q (by omega))
                  have hSl := hSl.kept (fun q _ _ => hf2.2 q (by omega))
                  have hf := hf.step hf2 (by omega)
                  refine jz_ne (tgt := 93) hx hb dX4_runScript_87 (by decide) (by omega) (fun c87 => absurd c87 (by omega)) (fun c87 => ?_)
                  refine lv_iload hx hb dX4_runScript_90 (lv_at hl 3 rfl) ?_
                  refine j_retX ?_
                  refine j_iret hx hb hr hlocks hH hw dX4_runScript_92 ?_
                  have e9 : fScript σ (nI (k)) told = (0, nI i) := by simp only [fScript, hk]; rw [if_pos hsc9, hTT, ← hG, scl_no (show doG σk (grp T k i) = none from htc1.symm)]; rfl
                  exact ⟨_, rfl, e9, ⟨_, _, hO, hT, hS, hTr, hHi, hSl, hN⟩, hf⟩
                · obtain rfl : r4 = nI 1 := hr4
                  obtain ⟨hTr, hf2⟩ := hto
                  have hO := hO.kept (hf2.2 _ (by omega))
                  have hT := hT.kept (fun q _ _ => hf2.2 q (by omega))
                  have hS := hS.kept (fun q _ _ => hf2.2 q (by omega))
                  have hHi := hHi.kept (fun q _ _ => hf2.2 q (by omega))
                  have hSl := hSl.kept (fun q _ _ => hf2.2 q (by omega))
                  have hf := hf.step hf2 (by omega)
                  refine jz_ne (tgt := 93) hx hb dX4_runScript_87 (by decide) (by omega) (fun c87 => ?_) (fun c87 => absurd c87 (by omega))
                  have hco9 := okC_do ⟨hsk, hcm⟩ htc1.symm
                  refine lv_iinc (v := nI (i + 1)) (lv' := [(4, .int _), (0, .ref _), (1, .int _), (2, .long _)]) hx hb dX4_runScript_93 hl (k := 3) rfl (nI_add _ 1) (by decide) rfl (fun ls hl => ?_)
                  refine lv_goto (tgt := 62) hx hb dX4_runScript_96 (by decide) ?_
                  exact ih62  (i + 1) d σ9 (by first | assumption | omega) (by rw [← scl_yes (show doG σk (grp T k i) = some σ9 from htc1.symm)]; exact hG) hco9.1 hco9.2 ((doG_lim hsk hLk (show doG σk (grp T k i) = some σ9 from htc1.symm)).mono (by omega)) (by omega) H _ hw hf hO hT hS hTr hHi hSl _ (lv_sub hl [1, 2, 3, 0] rfl)
          exact lp62 (k + 1) 0 k σ (by first | assumption | omega) rfl hs hcalm (hlim.mono (by omega)) (by omega) H _ hw hf hO hT hS hTr hHi hSl _ (lv_sub hl [1, 2, 3, 0] rfl)
        · exact j_throwW hl0 (cls := "java/lang/IllegalArgumentException") (text := "a script has at most 5 * n digits") (ik := 41) (is := 295) (ic := 45) hx hb hml hown hlocks hH hw hE hex (by decide +kernel) hts (by decide +kernel) (by decide +kernel) (by decide +kernel) (by decide +kernel) (by decide +kernel) vx_n41 vx_g41 hl.1 dX4_runScript_37 dX4_runScript_40 dX4_runScript_41 dX4_runScript_44 dX4_runScript_47 ⟨Nat.le_of_ble_eq_true rfl, Nat.le_of_ble_eq_true rfl, Nat.le_of_ble_eq_true rfl, Nat.le_of_ble_eq_true rfl⟩ ⟨(by simp only [fScript, hk]; first | exact if_neg (fun q => absurd c24 (Int64.not_lt.mpr q.1)) | exact if_neg (fun q => c34 ((wg_0 hT63 (by omega)).mpr ((sc_ok hT63 hTe (by omega)).mp q)))), rfl⟩
    · exact j_throwW hl0 (cls := "java/lang/IllegalArgumentException") (text := "n is 1 to 3") (ik := 41) (is := 289) (ic := 45) hx hb hml hown hlocks hH hw hE hex (by decide +kernel) hts (by decide +kernel) (by decide +kernel) (by decide +kernel) (by decide +kernel) (by decide +kernel) vx_n41 vx_g41 hl.1 dX4_runScript_10 dX4_runScript_13 dX4_runScript_14 dX4_runScript_17 dX4_runScript_20 ⟨Nat.le_of_ble_eq_true rfl, Nat.le_of_ble_eq_true rfl, Nat.le_of_ble_eq_true rfl, Nat.le_of_ble_eq_true rfl⟩ (⟨(by first | simp only [fScript, ix_lo (a := 1) (n := 4) (by decide) c2] | simp only [fScript, ix_hi (x := an) (a := 1) (n := 3) (by decide) (Int32.not_le.mp c7)]), rfl⟩)

abbrev q_X4_simulate (g : jG) (H0 : Heap) (A : Nat) (seed : Int64) (am : Int32) (tx : List Nat) (σ : Sg) (hi : List Sg) (sv : Nat → Option Sg) (K : Nat) : Option Value → Heap → Prop := jN (fun r H1 => fSim σ seed am = (0, r) ∧ CD g H1 A tx σ hi sv ∧ jF A 223 H0 H1)
abbrev x_X4_simulate (A : Nat) (seed : Int64) (am : Int32) (tx : List Nat) (σ : Sg) (hi : List Sg) (sv : Nat → Option Sg) (K : Nat) : String → Prop := fun E => ((fSim σ seed am = (1, 0)) ∧ E = "java/lang/IllegalArgumentException")
set_option maxHeartbeats 4000000 in
set_option maxRecDepth 100000 in
theorem c_X4_simulate (l : Launch) (hl0 : l.stackTraces = false) (g : jG) (z : Nat) (H0 : Heap) (A : Nat) (seed : Int64) (am : Int32) (tx : List Nat) (σ : Sg) (hi : List Sg) (sv : Nat → Option Sg) (K : Nat) (hz : z ≤ A) (hCD : CD g H0 A tx σ hi sv) (hlim : lim K σ) (hK : K < 2 ^ 29) : jMX l g z yX4_simulate wsX4_simulate 8 195 [.ref A, .long seed, .int am] H0 (q_X4_simulate g H0 A seed am tx σ hi sv K) (x_X4_simulate A seed am tx σ hi sv K) := by
  refine j_ofX (cc := cX4_simulate) (n := 7) (ret := some .int) (by decide) rfl (Nat.le_of_ble_eq_true rfl) ?_
  intro p e s m below meth c hx hb hr hml hown hts hlocks hname hH hw hE hex ls hl
  have hl : lv_has ls 7 [(0, .ref A), (1, .long seed), (3, .int am)] := hl
  have hinX4 : ∀ w ∈ u_ws RX4 TX4 6, w ∈ wsX4_simulate := by decide +kernel
  have hf : jF A 223 H0 H0 := jF.rf
  obtain ⟨τ, Rt, hO, hT, hS, hTr, hHi, hSl, hN⟩ := hCD
  obtain ⟨hs, hcalm, h20⟩ := id hN
  have hln := opnR_len (σ := σ)
  have hl21 := hs.2.2.1
  obtain ⟨hk7, hk10, hk12, hk30⟩ := id hlim
  refine lv_iload_n hx hb dX4_simulate_0 rfl (lv_at hl 2 rfl) ?_
  refine lv_iconst (v := (nI (1))) hx hb dX4_simulate_1 (by decide) ?_
  refine lv_icmp_lt (tgt := 11) hx hb dX4_simulate_2 (by decide) (fun c2 => ?_) (fun c2 => ?_)
  · exact j_throwW hl0 (cls := "java/lang/IllegalArgumentException") (text := "m is 1 to 99") (ik := 41) (is := 308) (ic := 45) hx hb hml hown hlocks hH hw hE hex (by decide +kernel) hts (by decide +kernel) (by decide +kernel) (by decide +kernel) (by decide +kernel) (by decide +kernel) vx_n41 vx_g41 hl.1 dX4_simulate_11 dX4_simulate_14 dX4_simulate_15 dX4_simulate_18 dX4_simulate_21 ⟨Nat.le_of_ble_eq_true rfl, Nat.le_of_ble_eq_true rfl, Nat.le_of_ble_eq_true rfl, Nat.le_of_ble_eq_true rfl⟩ (⟨(by first | simp only [fSim, ix_lo (a := 1) (n := 100) (by decide) c2] | simp only [fSim, ix_hi (x := am) (a := 1) (n := 99) (by decide) (Int32.not_le.mp c8)]), rfl⟩)
  · refine lv_iload_n hx hb dX4_simulate_5 rfl (lv_at hl 2 rfl) ?_
    refine lv_bipush (v := (nI (99))) hx hb dX4_simulate_6 (by decide) ?_
    refine lv_icmp_le (tgt := 22) hx hb dX4_simulate_8 (by decide) (fun c8 => ?_) (fun c8 => ?_)
    · obtain ⟨k, hk, hka, hkn, rfl⟩ := ix_mid (x := am) (a := 1) (n := 99) (by decide) (by decide) c2 (Int32.not_lt.mpr c8)
      refine lv_aload_n hx hb dX4_simulate_22 rfl (lv_at hl 0 rfl) ?_
      refine j_get (T := TX4) (N := 6) (k := 2) hx hb hts hinX4 hown hw hO rfl (by decide) (hts (.fieldLink RX4 23 "NightTrains" "trial" "LNightTrains$Store;") (by decide +kernel)) rfl dX4_simulate_23 ?_
      refine lv_aload_n hx hb dX4_simulate_26 rfl (lv_at hl 0 rfl) ?_
      refine j_get (T := TX4) (N := 6) (k := 1) hx hb hts hinX4 hown hw hO rfl (by decide) (hts (.fieldLink RX4 19 "NightTrains" "now" "LNightTrains$Store;") (by decide +kernel)) rfl dX4_simulate_27 ?_
      refine j_Vv (n := 1) (As := [.ref (A + 3)]) hx hb hml hown hts hw (j_recv hw hTr.obj rfl) (c_X2_copyFrom l g z H0 (A + 15) (A + 3) τ Rt σ (opnR σ) (by omega) hTr hS (by omega)) gX4_simulate_X2_copyFrom rfl (by decide +kernel) ⟨Nat.le_of_ble_eq_true rfl, Nat.le_of_ble_eq_true rfl⟩ rfl hl.1 (Nat.le_of_ble_eq_true rfl) ⟨Nat.zero_le _, Nat.zero_le _⟩ dX4_simulate_30 (fun H locs hr1 hw hsz => ?_) rfl
      obtain ⟨hTr, hf2⟩ := hr1
      have hO := hO.kept (hf2.2 _ (by omega))
      have hT := hT.kept (fun q _ _ => hf2.2 q (by omega))
      have hS := hS.kept (fun q _ _ => hf2.2 q (by omega))
      have hHi := hHi.kept (fun q _ _ => hf2.2 q (by omega))
      have hSl := hSl.kept (fun q _ _ => hf2.2 q (by omega))
      have hf := hf.step hf2 (by omega)
      refine lv_lload_n hx hb dX4_simulate_33 rfl (lv_at hl 1 rfl) ?_
      refine lv_lstore (lv' := [(4, .long _), (0, .ref _), (1, .long _), (3, .int _)]) hx hb dX4_simulate_34 hl (by decide) rfl (fun ls hl => ?_)
      refine lv_iconst (v := (nI (0))) hx hb dX4_simulate_36 (by decide) ?_
      refine lv_istore (lv' := [(6, .int _), (4, .long _), (0, .ref _), (1, .long _), (3, .int _)]) hx hb dX4_simulate_37 hl (by decide) rfl (fun ls hl => ?_)
      have lp39 : ∀ (n39 : Nat) (j : Nat) (d : Nat) (x : Int64) (σk : Sg) (hjd : j + d = k) (hG : sim d x σk = sim k seed σ) (hsk : okS σk) (hcm : ∀ o ∈ σk.2.2.1, o 4 < 9) (hLk : lim (K + 3100 * j) σk) (hmu39 : d < n39) (H : Heap) (locs : List Loc) (hw : jW g z s H locs) (hf : jF A 223 H0 H) (hO : jO g H A 4 [.ref (A + 1), .ref (A + 3), .ref (A + 15), .ref (A + 27), .ref (A + 197), .ref (A + 198)]) (hT : jTe g H (A + 1) tx) (hS : jSo g H (A + 3) σ (opnR σ)) (hTr : jSo g H (A + 15) σk (opnR σk)) (hHi : jHi g H (A + 27) hi) (hSl : jSl g H (A + 197) sv) (ls : Array Slot) (hl : lv_has ls 7 [(0, .ref A), (3, .int (nI (k))), (4, .long x), (6, .int (nI (j)))]), jKX p l e 8 195 s m [.ref A, .long seed, .int (nI (k))] below meth c z H0 (q_X4_simulate g H0 A seed (nI (k)) tx σ hi sv K) (x_X4_simulate A seed (nI (k)) tx σ hi sv K) H locs (F0 m 39 ls []) := by
        intro n39
        induction n39 with
        | zero => intros; omega
        | succ n39 ih39 =>
          intro j d x σk hjd hG hsk hcm hLk hmu39 H locs hw hf hO hT hS hTr hHi hSl ls hl
          refine lv_iload hx hb dX4_simulate_39 (lv_at hl 3 rfl) ?_
          refine lv_iload_n hx hb dX4_simulate_41 rfl (lv_at hl 1 rfl) ?_
          refine jn_ge (tgt := 73) hx hb dX4_simulate_42 (by decide) (by omega) (by omega) (fun c42 => ?_) (fun c42 => ?_)
          · obtain rfl : d = 0 := (by omega)
            have hG : σk = sim k seed σ := (sim_0 x σk).symm.trans hG
            subst hG
            have hn21 := hsk.2.2.1
            refine lv_sipush (v := (nI (10000))) hx hb dX4_simulate_73 (by decide) ?_
            refine lv_aload_n hx hb dX4_simulate_76 rfl (lv_at hl 0 rfl) ?_
            refine lv_iconst (v := (nI (2))) hx hb dX4_simulate_77 (by decide) ?_
            refine j_Vp (n := 1) (As := [.int (nI (2))]) hx hb hml hown hts hw (j_recv hw hO rfl) (c_X4_more l g z H A (2) σ (sim k seed σ) hz hO hS hTr hs hsk (by first | assumption | omega)) gX4_simulate_X4_more rfl (by decide +kernel) ⟨Nat.le_of_ble_eq_true rfl, Nat.le_of_ble_eq_true rfl⟩ rfl hl.1 (Nat.le_of_ble_eq_true rfl) ⟨Nat.zero_le _, Nat.zero_le _⟩ dX4_simulate_78 (fun r2 locs hr2 hw => ?_) rfl
            obtain rfl : r2 = (nI ((sim k seed σ).1 7) - nI (σ.1 7)) := hr2.trans rfl
            refine lv_imul hx hb dX4_simulate_81 ?_
            refine lv_bipush (v := (nI (100))) hx hb dX4_simulate_82 (by decide) ?_
            refine lv_aload_n hx hb dX4_simulate_84 rfl (lv_at hl 0 rfl) ?_
            refine lv_iconst (v := (nI (3))) hx hb dX4_simulate_85 (by decide) ?_
            refine j_Vp (n := 1) (As := [.int (nI (3))]) hx hb hml hown hts hw (j_recv hw hO rfl) (c_X4_more l g z H A (3) σ (sim k seed σ) hz hO hS hTr hs hsk (by first | assumption | omega)) gX4_simulate_X4_more rfl (by decide +kernel) ⟨Nat.le_of_ble_eq_true rfl, Nat.le_of_ble_eq_true rfl⟩ rfl hl.1 (Nat.le_of_ble_eq_true rfl) ⟨Nat.zero_le _, Nat.zero_le _⟩ dX4_simulate_86 (fun r3 locs hr3 hw => ?_) rfl
            obtain rfl : r3 = (nI ((sim k seed σ).1 8) - nI (σ.1 8)) := hr3.trans rfl
            refine lv_imul hx hb dX4_simulate_89 ?_
            refine lv_iadd hx hb dX4_simulate_90 ?_
            refine lv_aload_n hx hb dX4_simulate_91 rfl (lv_at hl 0 rfl) ?_
            refine j_get (T := TX4) (N := 6) (k := 2) hx hb hts hinX4 hown hw hO rfl (by decide) (hts (.fieldLink RX4 23 "NightTrains" "trial" "LNightTrains$Store;") (by decide +kernel)) rfl dX4_simulate_92 ?_
            refine lv_iconst (v := (nI (1))) hx hb dX4_simulate_95 (by decide) ?_
            refine j_Vp (n := 1) (As := [.int (nI (1))]) hx hb hml hown hts hw (j_recv hw hTr.obj rfl) (c_X2_number l g z H (A + 15) (1) (sim k seed σ) (by omega) hTr hsk (by first | assumption | omega)) gX4_simulate_X2_number rfl (by decide +kernel) ⟨Nat.le_of_ble_eq_true rfl, Nat.le_of_ble_eq_true rfl⟩ rfl hl.1 (Nat.le_of_ble_eq_true rfl) ⟨Nat.zero_le _, Nat.zero_le _⟩ dX4_simulate_96 (fun r4 locs hr4 hw => ?_) rfl
            obtain rfl : r4 = (nI (((sim k seed σ).2.2.1.length))) := hr4.trans rfl
            refine lv_iadd hx hb dX4_simulate_99 ?_
            refine j_retX ?_
            refine j_iret hx hb hr hlocks hH hw dX4_simulate_100 ?_
            have e9 : fSim σ seed (nI (k)) = (0, nI 10000 * (nI ((sim k seed σ).1 7) - nI (σ.1 7)) + nI 100 * (nI ((sim k seed σ).1 8) - nI (σ.1 8)) + nI (sim k seed σ).2.2.1.length) := by simp only [fSim, hk]
            exact ⟨_, rfl, e9, ⟨_, _, hO, hT, hS, hTr, hHi, hSl, hN⟩, hf⟩
          · obtain ⟨d, rfl⟩ : ∃ d1, d = d1 + 1 := ⟨d - 1, by omega⟩
            refine lv_lload hx hb dX4_simulate_45 (lv_at hl 2 rfl) ?_
            refine lv_ldc2 (v := 6364136223846793005) hx hb hown (hts (.constantLong RX4 310 (6364136223846793005)) (by decide +kernel)) dX4_simulate_47 ?_
            refine lv_lmul hx hb dX4_simulate_50 ?_
            refine lv_ldc2 (v := 1442695040888963407) hx hb hown (hts (.constantLong RX4 312 (1442695040888963407)) (by decide +kernel)) dX4_simulate_51 ?_
            refine lv_ladd hx hb dX4_simulate_54 ?_
            refine j_gl (fun y hy => ?_)
            have hr31 := rOf_lt y
            refine lv_lstore (lv' := [(4, .long _), (0, .ref _), (3, .int _), (6, .int _)]) hx hb dX4_simulate_55 hl (by decide) rfl (fun ls hl => ?_)
            refine lv_aload_n hx hb dX4_simulate_57 rfl (lv_at hl 1 rfl) ?_
            refine lv_lload hx hb dX4_simulate_58 (lv_at hl 0 rfl) ?_
            refine lv_bipush (v := (nI (33))) hx hb dX4_simulate_60 (by decide) ?_
            refine lv_lushr (v := ((y).toUInt64 >>> (((nI (33))).toInt64.toUInt64 &&& Int64.toUInt64 63)).toInt64) hx hb dX4_simulate_62 rfl ?_
            refine lv_l2i (v := nI (rOf y)) hx hb dX4_simulate_63 (rOf_eq _) ?_
            refine j_Vv (n := 1) (As := [.int (nI (rOf y))]) hx hb hml hown hts hw (j_recv hw hO rfl) (c_X4_simulateDay l g z H A (rOf y) σk hz hO hTr hsk hcm (by first | assumption | omega) (hLk.mono (by omega))) gX4_simulate_X4_simulateDay rfl (by decide +kernel) ⟨Nat.le_of_ble_eq_true rfl, Nat.le_of_ble_eq_true rfl⟩ rfl hl.1 (Nat.le_of_ble_eq_true rfl) ⟨Nat.zero_le _, Nat.zero_le _⟩ dX4_simulate_64 (fun H locs hr5 hw hsz => ?_) rfl
            obtain ⟨hTr, hf2⟩ := hr5
            have hO := hO.kept (hf2.2 _ (by omega))
            have hT := hT.kept (fun q _ _ => hf2.2 q (by omega))
            have hS := hS.kept (fun q _ _ => hf2.2 q (by omega))
            have hHi := hHi.kept (fun q _ _ => hf2.2 q (by omega))
            have hSl := hSl.kept (fun q _ _ => hf2.2 q (by omega))
            have hf := hf.step hf2 (by omega)
            have hc3 := okC_day (show okC σk from ⟨hsk, hcm⟩) (rOf y)
            refine lv_iinc (v := nI (j + 1)) (lv' := [(6, .int _), (4, .long _), (0, .ref _), (3, .int _)]) hx hb dX4_simulate_67 hl (k := 3) rfl (nI_add _ 1) (by decide) rfl (fun ls hl => ?_)
            refine lv_goto (tgt := 39) hx hb dX4_simulate_70 (by decide) ?_
            exact ih39  (j + 1) d y (day σk (rOf y)) (by first | assumption | omega) (sim_st hy hG) hc3.1 hc3.2 ((day_lim ⟨hsk, hcm⟩ hLk (rOf y)).mono (by omega)) (by omega) H _ hw hf hO hT hS hTr hHi hSl _ (lv_sub hl [2, 3, 1, 0] rfl)
      exact lp39 (k + 1) 0 k seed σ (by first | assumption | omega) rfl hs hcalm (hlim.mono (by omega)) (by omega) H _ hw hf hO hT hS hTr hHi hSl _ (lv_sub hl [2, 4, 1, 0] rfl)
    · exact j_throwW hl0 (cls := "java/lang/IllegalArgumentException") (text := "m is 1 to 99") (ik := 41) (is := 308) (ic := 45) hx hb hml hown hlocks hH hw hE hex (by decide +kernel) hts (by decide +kernel) (by decide +kernel) (by decide +kernel) (by decide +kernel) (by decide +kernel) vx_n41 vx_g41 hl.1 dX4_simulate_11 dX4_simulate_14 dX4_simulate_15 dX4_simulate_18 dX4_simulate_21 ⟨Nat.le_of_ble_eq_true rfl, Nat.le_of_ble_eq_true rfl, Nat.le_of_ble_eq_true rfl, Nat.le_of_ble_eq_true rfl⟩ (⟨(by first | simp only [fSim, ix_lo (a := 1) (n := 100) (by decide) c2] | simp only [fSim, ix_hi (x := am) (a := 1) (n := 99) (by decide) (Int32.not_le.mp c8)]), rfl⟩)

abbrev q_X4_load (g : jG) (H0 : Heap) (A : Nat) (tx : List Nat) (σ : Sg) (hi : List Sg) (sv : Nat → Option Sg) : Option Value → Heap → Prop := jN (fun r H1 => fLoad tx = (0, r, (fLoad tx).2.2) ∧ CD g H1 A tx (fLoad tx).2.2 [] (fun _ => none) ∧ jF A 223 H0 H1)
abbrev x_X4_load (A : Nat) (tx : List Nat) (σ : Sg) (hi : List Sg) (sv : Nat → Option Sg) : String → Prop := fun E => (((fLoad tx).1 = 1) ∧ E = "java/lang/IllegalStateException")
set_option maxHeartbeats 4000000 in
set_option maxRecDepth 100000 in
theorem c_X4_load (l : Launch) (hl0 : l.stackTraces = false) (g : jG) (z : Nat) (H0 : Heap) (A : Nat) (tx : List Nat) (σ : Sg) (hi : List Sg) (sv : Nat → Option Sg) (hz : z ≤ A) (hCD : CD g H0 A tx σ hi sv) : jMX l g z yX4_load wsX4_load 8 195 [.ref A] H0 (q_X4_load g H0 A tx σ hi sv) (x_X4_load A tx σ hi sv) := by
  refine j_ofX (cc := cX4_load) (n := 3) (ret := some .int) (by decide) rfl (Nat.le_of_ble_eq_true rfl) ?_
  intro p e s m below meth c hx hb hr hml hown hts hlocks hname hH hw hE hex ls hl
  have hl : lv_has ls 3 [(0, .ref A)] := hl
  have hinX4 : ∀ w ∈ u_ws RX4 TX4 6, w ∈ wsX4_load := by decide +kernel
  have hf : jF A 223 H0 H0 := jF.rf
  obtain ⟨τ, Rt, hO, hT, hS, hTr, hHi, hSl, hN⟩ := hCD
  obtain ⟨hs, hcalm, h20⟩ := id hN
  have hln := opnR_len (σ := σ)
  have hl21 := hs.2.2.1
  have htk := hT.ok
  have h120 := hT.len
  refine lv_aload_n hx hb dX4_load_0 rfl (lv_at hl 0 rfl) ?_
  refine j_get (T := TX4) (N := 6) (k := 0) hx hb hts hinX4 hown hw hO rfl (by decide) (hts (.fieldLink RX4 10 "NightTrains" "text" "LNightTrains$Text;") (by decide +kernel)) rfl dX4_load_1 ?_
  refine j_Vp (n := 0) (As := []) hx hb hml hown hts hw (j_recv hw hT.obj rfl) (c_X3_firstWrong l g z H0 (A + 1) tx (by omega) hT ) gX4_load_X3_firstWrong rfl (by decide +kernel) ⟨Nat.le_of_ble_eq_true rfl, Nat.le_of_ble_eq_true rfl⟩ rfl hl.1 (Nat.le_of_ble_eq_true rfl) ⟨Nat.zero_le _, Nat.zero_le _⟩ dX4_load_4 (fun r1 locs hr1 hw => ?_) rfl
  obtain rfl : r1 = (fErr tx) := hr1
  refine lv_iconst (v := (-1)) hx hb dX4_load_7 (by decide) ?_
  refine lv_icmp_eq (tgt := 21) hx hb dX4_load_8 (by decide) (fun c8 => ?_) (fun c8 => ?_)
  · have hgood := fErr_ok h120 c8
    refine lv_aload_n hx hb dX4_load_21 rfl (lv_at hl 0 rfl) ?_
    refine j_get (T := TX4) (N := 6) (k := 3) hx hb hts hinX4 hown hw hO rfl (by decide) (hts (.fieldLink RX4 29 "NightTrains" "history" "LNightTrains$History;") (by decide +kernel)) rfl dX4_load_22 ?_
    refine j_Vv (n := 0) (As := []) hx hb hml hown hts hw (hHi.obj.elim (fun _ h9 => j_recv hw h9 rfl)) (c_X0_forget l g z H0 (A + 27) hi (by omega) hHi ) gX4_load_X0_forget rfl (by decide +kernel) ⟨Nat.le_of_ble_eq_true rfl, Nat.le_of_ble_eq_true rfl⟩ rfl hl.1 (Nat.le_of_ble_eq_true rfl) ⟨Nat.zero_le _, Nat.zero_le _⟩ dX4_load_25 (fun H locs hr2 hw hsz => ?_) rfl
    obtain ⟨hHi, hf2⟩ := hr2
    have hO := hO.kept (hf2.2 _ (by omega))
    have hT := hT.kept (fun q _ _ => hf2.2 q (by omega))
    have hS := hS.kept (fun q _ _ => hf2.2 q (by omega))
    have hTr := hTr.kept (fun q _ _ => hf2.2 q (by omega))
    have hSl := hSl.kept (fun q _ _ => hf2.2 q (by omega))
    have hf := hf.step hf2 (by omega)
    obtain ⟨hRs, ik, hIk, hsl⟩ := hSl
    have hIk : jZ g H (A + 198) 2 ik := hIk
    obtain ⟨τ0, R0, hS0, hv0⟩ := hsl 0 (by decide)
    have hS0 : jSo g H (A + 199) τ0 R0 := hS0
    obtain ⟨τ1, R1, hS1, hv1⟩ := hsl 1 (by decide)
    have hS1 : jSo g H (A + 211) τ1 R1 := hS1
    refine lv_iconst (v := (nI (0))) hx hb dX4_load_28 (by decide) ?_
    refine lv_istore_n (lv' := [(1, .int _), (0, .ref _)]) hx hb dX4_load_29 rfl hl (by decide) rfl (fun ls hl => ?_)
    have lp30 : ∀ (n30 : Nat) (k : Nat) (fk : Nat → Int32) (hk : k ≤ 2) (hfk : ∀ j, j < k → fk j = nI 0) (hmu30 : 2 - k < n30) (H : Heap) (locs : List Loc) (hw : jW g z s H locs) (hf : jF A 223 H0 H) (hO : jO g H A 4 [.ref (A + 1), .ref (A + 3), .ref (A + 15), .ref (A + 27), .ref (A + 197), .ref (A + 198)]) (hT : jTe g H (A + 1) tx) (hS : jSo g H (A + 3) σ (opnR σ)) (hTr : jSo g H (A + 15) τ Rt) (hHi : jHi g H (A + 27) []) (hRs : jR g H (A + 197) 2 (fun i => some (A + 197 + 2 + 12 * i))) (hIk : jZ g H (A + 198) 2 fk) (hS0 : jSo g H (A + 199) τ0 R0) (hS1 : jSo g H (A + 211) τ1 R1) (ls : Array Slot) (hl : lv_has ls 3 [(0, .ref A), (1, .int (nI (k)))]), jKX p l e 8 195 s m [.ref A] below meth c z H0 (q_X4_load g H0 A tx σ hi sv) (x_X4_load A tx σ hi sv) H locs (F0 m 30 ls []) := by
      intro n30
      induction n30 with
      | zero => intros; omega
      | succ n30 ih30 =>
        intro k fk hk hfk hmu30 H locs hw hf hO hT hS hTr hHi hRs hIk hS0 hS1 ls hl
        refine lv_iload_n hx hb dX4_load_30 rfl (lv_at hl 1 rfl) ?_
        refine lv_iconst (v := (nI (2))) hx hb dX4_load_31 (by decide) ?_
        refine jn_ge (tgt := 48) hx hb dX4_load_32 (by decide) (by omega) (by omega) (fun c32 => ?_) (fun c32 => ?_)
        · obtain rfl : k = 2 := by omega
          refine lv_aload_n hx hb dX4_load_48 rfl (lv_at hl 0 rfl) ?_
          refine j_get (T := TX4) (N := 6) (k := 1) hx hb hts hinX4 hown hw hO rfl (by decide) (hts (.fieldLink RX4 19 "NightTrains" "now" "LNightTrains$Store;") (by decide +kernel)) rfl dX4_load_49 ?_
          refine j_Vv (n := 0) (As := []) hx hb hml hown hts hw (j_recv hw hS.obj rfl) (c_X2_reset l g z H (A + 3) σ (opnR σ) (by omega) hS ) gX4_load_X2_reset rfl (by decide +kernel) ⟨Nat.le_of_ble_eq_true rfl, Nat.le_of_ble_eq_true rfl⟩ rfl hl.1 (Nat.le_of_ble_eq_true rfl) ⟨Nat.zero_le _, Nat.zero_le _⟩ dX4_load_52 (fun H locs hr3 hw hsz => ?_) rfl
          obtain ⟨hS, hf2⟩ := hr3
          have hO := hO.kept (hf2.2 _ (by omega))
          have hT := hT.kept (fun q _ _ => hf2.2 q (by omega))
          have hTr := hTr.kept (fun q _ _ => hf2.2 q (by omega))
          have hHi := hHi.kept (fun q _ _ => hf2.2 q (by omega))
          have hRs := hRs.kept (hf2.2 _ (by omega))
          have hIk := hIk.kept (hf2.2 _ (by omega))
          have hS0 := hS0.kept (fun q _ _ => hf2.2 q (by omega))
          have hS1 := hS1.kept (fun q _ _ => hf2.2 q (by omega))
          have hf := hf.step hf2 (by omega)
          have hkN := okN_S0
          obtain ⟨σ9, hσ9⟩ := hd_ok (tx := tx) hgood (show 0 ≤ 5 by omega)
          have hh0 : hdS tx 0 = (1 + 0, true, S0) := by
            have e8 : hdS tx 0 = if ch tx 0 = 68 then (1, true, S0) else (0, false, S0) := rfl
            rw [e8] at hσ9 ⊢
            split at hσ9
            · rename_i q; rw [if_pos q]
            · cases hσ9
          refine lv_iconst (v := (nI (0))) hx hb dX4_load_55 (by decide) ?_
          refine lv_istore_n (lv' := [(1, .int _), (0, .ref _)]) hx hb dX4_load_56 rfl hl (by decide) rfl (fun ls hl => ?_)
          have lp57 : ∀ (n57 : Nat) (k : Nat) (σk : Sg) (hk : k ≤ 5) (hHd : hdS tx k = (1 + k, true, σk)) (hkN : okN σk) (hmu57 : 5 - k < n57) (H : Heap) (locs : List Loc) (hw : jW g z s H locs) (hf : jF A 223 H0 H) (hO : jO g H A 4 [.ref (A + 1), .ref (A + 3), .ref (A + 15), .ref (A + 27), .ref (A + 197), .ref (A + 198)]) (hT : jTe g H (A + 1) tx) (hS : jSo g H (A + 3) σk (opnR σk)) (hTr : jSo g H (A + 15) τ Rt) (hHi : jHi g H (A + 27) []) (hRs : jR g H (A + 197) 2 (fun i => some (A + 197 + 2 + 12 * i))) (hIk : jZ g H (A + 198) 2 fk) (hS0 : jSo g H (A + 199) τ0 R0) (hS1 : jSo g H (A + 211) τ1 R1) (ls : Array Slot) (hl : lv_has ls 3 [(0, .ref A), (1, .int (nI (k)))]), jKX p l e 8 195 s m [.ref A] below meth c z H0 (q_X4_load g H0 A tx σ hi sv) (x_X4_load A tx σ hi sv) H locs (F0 m 57 ls []) := by
            intro n57
            induction n57 with
            | zero => intros; omega
            | succ n57 ih57 =>
              intro k σk hk hHd hkN hmu57 H locs hw hf hO hT hS hTr hHi hRs hIk hS0 hS1 ls hl
              refine lv_iload_n hx hb dX4_load_57 rfl (lv_at hl 1 rfl) ?_
              refine lv_iconst (v := (nI (5))) hx hb dX4_load_58 (by decide) ?_
              refine jn_ge (tgt := 86) hx hb dX4_load_59 (by decide) (by omega) (by omega) (fun c59 => ?_) (fun c59 => ?_)
              · obtain rfl : k = 5 := by omega
                refine lv_iconst (v := (nI (0))) hx hb dX4_load_86 (by decide) ?_
                refine lv_istore_n (lv' := [(1, .int _), (0, .ref _)]) hx hb dX4_load_87 rfl hl (by decide) rfl (fun ls hl => ?_)
                refine lv_bipush (v := (nI (6))) hx hb dX4_load_88 (by decide) ?_
                refine lv_istore_n (lv' := [(2, .int _), (1, .int _), (0, .ref _)]) hx hb dX4_load_90 rfl hl (by decide) rfl (fun ls hl => ?_)
                have lp91 : ∀ (n91 : Nat) (p9 : Nat) (lo : Nat) (d : Nat) (σk : Sg) (lc : Nat) (hG : cont tx true d p9 lo σk = rdText tx) (hd : tx.length ≤ p9 + d) (hkN : okN σk) (hp6 : p9 ≤ 200) (hlo : lo ≤ p9) (hlc : 2 * lc ≤ p9) (hLk : lim (30000 * lc) σk) (hmu91 : 300 - p9 < n91) (H : Heap) (locs : List Loc) (hw : jW g z s H locs) (hf : jF A 223 H0 H) (hO : jO g H A 4 [.ref (A + 1), .ref (A + 3), .ref (A + 15), .ref (A + 27), .ref (A + 197), .ref (A + 198)]) (hT : jTe g H (A + 1) tx) (hS : jSo g H (A + 3) σk (opnR σk)) (hTr : jSo g H (A + 15) τ Rt) (hHi : jHi g H (A + 27) []) (hRs : jR g H (A + 197) 2 (fun i => some (A + 197 + 2 + 12 * i))) (hIk : jZ g H (A + 198) 2 fk) (hS0 : jSo g H (A + 199) τ0 R0) (hS1 : jSo g H (A + 211) τ1 R1) (ls : Array Slot) (hl : lv_has ls 3 [(0, .ref A), (1, .int (nI (lo))), (2, .int (nI (p9)))]), jKX p l e 8 195 s m [.ref A] below meth c z H0 (q_X4_load g H0 A tx σ hi sv) (x_X4_load A tx σ hi sv) H locs (F0 m 91 ls []) := by
                  intro n91
                  induction n91 with
                  | zero => intros; omega
                  | succ n91 ih91 =>
                    intro p9 lo d σk lc hG hd hkN hp6 hlo hlc hLk hmu91 H locs hw hf hO hT hS hTr hHi hRs hIk hS0 hS1 ls hl
                    refine lv_iload_n hx hb dX4_load_91 rfl (lv_at hl 2 rfl) ?_
                    refine lv_aload_n hx hb dX4_load_92 rfl (lv_at hl 0 rfl) ?_
                    refine j_get (T := TX4) (N := 6) (k := 0) hx hb hts hinX4 hown hw hO rfl (by decide) (hts (.fieldLink RX4 10 "NightTrains" "text" "LNightTrains$Text;") (by decide +kernel)) rfl dX4_load_93 ?_
                    refine j_Vp (n := 0) (As := []) hx hb hml hown hts hw (j_recv hw hT.obj rfl) (c_X3_length l g z H (A + 1) tx (by omega) hT ) gX4_load_X3_length rfl (by decide +kernel) ⟨Nat.le_of_ble_eq_true rfl, Nat.le_of_ble_eq_true rfl⟩ rfl hl.1 (Nat.le_of_ble_eq_true rfl) ⟨Nat.zero_le _, Nat.zero_le _⟩ dX4_load_96 (fun r4 locs hr4 hw => ?_) rfl
                    obtain rfl : r4 = (nI (tx.length)) := hr4
                    refine jn_ge (tgt := 129) hx hb dX4_load_99 (by decide) (by omega) (by omega) (fun c99 => ?_) (fun c99 => ?_)
                    · refine lv_iload_n hx hb dX4_load_129 rfl (lv_at hl 1 rfl) ?_
                      refine j_retX ?_
                      refine j_iret hx hb hr hlocks hH hw dX4_load_130 ?_
                      have e9 : fLoad tx = (0, nI lo, σk) := ld_end (by omega) hG
                      have hsf0 : slF (fun _ => none) fk 0 τ0 R0 := Or.inl ⟨rfl, hfk 0 (by omega)⟩
                      have hsf1 : slF (fun _ => none) fk 1 τ1 R1 := Or.inl ⟨rfl, hfk 1 (by omega)⟩
                      exact ⟨_, rfl, by rw [e9]; try rfl, by rw [e9]; exact ⟨_, _, hO, hT, hS, hTr, hHi, (jSl.mk hRs hIk hS0 hS1 hsf0 hsf1), hkN⟩, hf⟩
                    · obtain ⟨cm, d, rfl, hcm, hcn, hcs⟩ := ld_step hgood (by omega) (by omega) hG
                      have hck := rdCmd_ok hcm
                      have hdl := dgs_le (tx := tx) (sp := p9)
                      refine lv_aload_n hx hb dX4_load_102 rfl (lv_at hl 0 rfl) ?_
                      refine lv_iload_n hx hb dX4_load_103 rfl (lv_at hl 2 rfl) ?_
                      refine j_Vi (n := 1) (As := [.int (nI (p9))]) hx hb hml hown hts hw (j_recv hw hO rfl) (c_X4_obey l g z H A (p9) tx σk cm _ hz hO hT hS hkN.1 hkN.2.1 hcm (by have := hLk.2.2.1; omega) (by omega)) gX4_load_X4_obey rfl (by decide +kernel) ⟨Nat.le_of_ble_eq_true rfl, Nat.le_of_ble_eq_true rfl⟩ rfl hl.1 (Nat.le_of_ble_eq_true rfl) ⟨Nat.zero_le _, Nat.zero_le _⟩ dX4_load_104 (fun r5 H locs hr5 hw hsz => ?_) rfl
                      obtain ⟨hr5, hto⟩ := hr5
                      obtain ⟨tc1, htc1⟩ : ∃ x, x = (doC σk cm) := ⟨_, rfl⟩
                      rw [← htc1] at hr5 hto
                      rcases tc1 with _ | σ9
                      · obtain rfl : r5 = nI 0 := hr5
                        obtain ⟨hS, hf2⟩ := hto
                        have hO := hO.kept (hf2.2 _ (by omega))
                        have hT := hT.kept (fun q _ _ => hf2.2 q (by omega))
                        have hTr := hTr.kept (fun q _ _ => hf2.2 q (by omega))
                        have hHi := hHi.kept (fun q _ _ => hf2.2 q (by omega))
                        have hRs := hRs.kept (hf2.2 _ (by omega))
                        have hIk := hIk.kept (hf2.2 _ (by omega))
                        have hS0 := hS0.kept (fun q _ _ => hf2.2 q (by omega))
                        have hS1 := hS1.kept (fun q _ _ => hf2.2 q (by omega))
                        have hf := hf.step hf2 (by omega)
                        have hkN9 := hkN
                        have hLk9 := hLk.mono (show 30000 * lc ≤ 30000 * lc + 30000 by omega)
                        refine jz_ne (tgt := 113) hx hb dX4_load_107 (by decide) (by omega) (fun c107 => absurd c107 (by omega)) (fun c107 => ?_)
                        refine lv_iinc (v := nI (lo + 1)) (lv' := [(1, .int _), (0, .ref _), (2, .int _)]) hx hb dX4_load_110 hl (k := 1) rfl (nI_add _ 1) (by decide) rfl (fun ls hl => ?_)
                        refine lv_iload_n hx hb dX4_load_113 rfl (lv_at hl 2 rfl) ?_
                        refine lv_iconst (v := (nI (1))) hx hb dX4_load_114 (by decide) ?_
                        refine lv_aload_n hx hb dX4_load_115 rfl (lv_at hl 1 rfl) ?_
                        refine j_get (T := TX4) (N := 6) (k := 0) hx hb hts hinX4 hown hw hO rfl (by decide) (hts (.fieldLink RX4 10 "NightTrains" "text" "LNightTrains$Text;") (by decide +kernel)) rfl dX4_load_116 ?_
                        refine lv_iload_n hx hb dX4_load_119 rfl (lv_at hl 2 rfl) ?_
                        refine j_Vp (n := 1) (As := [.int (nI (p9))]) hx hb hml hown hts hw (j_recv hw hT.obj rfl) (c_X3_digitsOfCommand l g z H (A + 1) (p9) tx (by omega) hT (by first | assumption | omega)) gX4_load_X3_digitsOfCommand rfl (by decide +kernel) ⟨Nat.le_of_ble_eq_true rfl, Nat.le_of_ble_eq_true rfl⟩ rfl hl.1 (Nat.le_of_ble_eq_true rfl) ⟨Nat.zero_le _, Nat.zero_le _⟩ dX4_load_120 (fun r6 locs hr6 hw => ?_) rfl
                        obtain rfl : r6 = (nI (dgs tx (p9))) := hr6
                        refine j_addN hx hb dX4_load_123 ?_
                        refine j_addN hx hb dX4_load_124 ?_
                        refine lv_istore_n (lv' := [(2, .int _), (1, .int _), (0, .ref _)]) hx hb dX4_load_125 rfl hl (by decide) rfl (fun ls hl => ?_)
                        refine lv_goto (tgt := 91) hx hb dX4_load_126 (by decide) ?_
                        exact ih91  (p9 + (1 + dgs tx p9)) (lo + 1) d σk (lc + 1) (hcn htc1.symm) (by first | assumption | omega) hkN9 (by first | assumption | omega) (by first | assumption | omega) (by have := rd_dgs1 hcm; omega) (hLk9.mono (by omega)) (by omega) H _ hw hf hO hT hS hTr hHi hRs hIk hS0 hS1 _ (lv_sub hl [2, 1, 0] rfl)
                      · obtain rfl : r5 = nI 1 := hr5
                        obtain ⟨hS, hf2⟩ := hto
                        have hO := hO.kept (hf2.2 _ (by omega))
                        have hT := hT.kept (fun q _ _ => hf2.2 q (by omega))
                        have hTr := hTr.kept (fun q _ _ => hf2.2 q (by omega))
                        have hHi := hHi.kept (fun q _ _ => hf2.2 q (by omega))
                        have hRs := hRs.kept (hf2.2 _ (by omega))
                        have hIk := hIk.kept (hf2.2 _ (by omega))
                        have hS0 := hS0.kept (fun q _ _ => hf2.2 q (by omega))
                        have hS1 := hS1.kept (fun q _ _ => hf2.2 q (by omega))
                        have hf := hf.step hf2 (by omega)
                        have hkN9 := hkN.doC hck.1 htc1.symm
                        have hLk9 := doC_lim hkN.1 hLk hck.1 htc1.symm
                        refine jz_ne (tgt := 113) hx hb dX4_load_107 (by decide) (by omega) (fun c107 => ?_) (fun c107 => absurd c107 (by omega))
                        refine lv_iload_n hx hb dX4_load_113 rfl (lv_at hl 2 rfl) ?_
                        refine lv_iconst (v := (nI (1))) hx hb dX4_load_114 (by decide) ?_
                        refine lv_aload_n hx hb dX4_load_115 rfl (lv_at hl 0 rfl) ?_
                        refine j_get (T := TX4) (N := 6) (k := 0) hx hb hts hinX4 hown hw hO rfl (by decide) (hts (.fieldLink RX4 10 "NightTrains" "text" "LNightTrains$Text;") (by decide +kernel)) rfl dX4_load_116 ?_
                        refine lv_iload_n hx hb dX4_load_119 rfl (lv_at hl 2 rfl) ?_
                        refine j_Vp (n := 1) (As := [.int (nI (p9))]) hx hb hml hown hts hw (j_recv hw hT.obj rfl) (c_X3_digitsOfCommand l g z H (A + 1) (p9) tx (by omega) hT (by first | assumption | omega)) gX4_load_X3_digitsOfCommand rfl (by decide +kernel) ⟨Nat.le_of_ble_eq_true rfl, Nat.le_of_ble_eq_true rfl⟩ rfl hl.1 (Nat.le_of_ble_eq_true rfl) ⟨Nat.zero_le _, Nat.zero_le _⟩ dX4_load_120 (fun r7 locs hr7 hw => ?_) rfl
                        obtain rfl : r7 = (nI (dgs tx (p9))) := hr7
                        refine j_addN hx hb dX4_load_123 ?_
                        refine j_addN hx hb dX4_load_124 ?_
                        refine lv_istore_n (lv' := [(2, .int _), (0, .ref _), (1, .int _)]) hx hb dX4_load_125 rfl hl (by decide) rfl (fun ls hl => ?_)
                        refine lv_goto (tgt := 91) hx hb dX4_load_126 (by decide) ?_
                        exact ih91  (p9 + (1 + dgs tx p9)) lo d σ9 (lc + 1) (hcs _ htc1.symm) (by first | assumption | omega) hkN9 (by first | assumption | omega) (by first | assumption | omega) (by have := rd_dgs1 hcm; omega) (hLk9.mono (by omega)) (by omega) H _ hw hf hO hT hS hTr hHi hRs hIk hS0 hS1 _ (lv_sub hl [1, 2, 0] rfl)
                exact lp91 (300 - 6 + 1) 6 (0) 120 σk 0 (ld_0 hHd) (by first | assumption | omega) hkN (by first | assumption | omega) (by first | assumption | omega) (by omega) (hd_lim (Nat.le_refl _) hHd) (by omega) H _ hw hf hO hT hS hTr hHi hRs hIk hS0 hS1 _ (lv_sub hl [2, 1, 0] rfl)
              · refine lv_aload_n hx hb dX4_load_62 rfl (lv_at hl 0 rfl) ?_
                refine j_get (T := TX4) (N := 6) (k := 1) hx hb hts hinX4 hown hw hO rfl (by decide) (hts (.fieldLink RX4 19 "NightTrains" "now" "LNightTrains$Store;") (by decide +kernel)) rfl dX4_load_63 ?_
                refine lv_iload_n hx hb dX4_load_66 rfl (lv_at hl 1 rfl) ?_
                refine lv_aload_n hx hb dX4_load_67 rfl (lv_at hl 0 rfl) ?_
                refine j_get (T := TX4) (N := 6) (k := 0) hx hb hts hinX4 hown hw hO rfl (by decide) (hts (.fieldLink RX4 10 "NightTrains" "text" "LNightTrains$Text;") (by decide +kernel)) rfl dX4_load_68 ?_
                refine lv_iconst (v := (nI (1))) hx hb dX4_load_71 (by decide) ?_
                refine lv_iload_n hx hb dX4_load_72 rfl (lv_at hl 1 rfl) ?_
                refine j_addN hx hb dX4_load_73 ?_
                refine j_Vp (n := 1) (As := [.int (nI ((1 + k)))]) hx hb hml hown hts hw (j_recv hw hT.obj rfl) (c_X3_digitAt l g z H (A + 1) ((1 + k)) tx (by omega) hT (by first | assumption | omega)) gX4_load_X3_digitAt rfl (by decide +kernel) ⟨Nat.le_of_ble_eq_true rfl, Nat.le_of_ble_eq_true rfl⟩ rfl hl.1 (Nat.le_of_ble_eq_true rfl) ⟨Nat.zero_le _, Nat.zero_le _⟩ dX4_load_74 (fun r8 locs hr8 hw => ?_) rfl
                obtain ⟨v, hv, hva, hvb, hHn⟩ := hd_step htk hgood (by omega) hHd
                obtain rfl : r8 = nI v := hr8.trans hv
                have hv9 := (loS_hiS (show k < 5 by omega)).2
                refine j_Vv (n := 2) (As := [.int (nI (k)), .int (nI (v))]) hx hb hml hown hts hw (j_recv hw hS.obj rfl) (c_X2_change l g z H (A + 3) (k) (v) σk (opnR σk) (by omega) hS (by first | assumption | omega)) gX4_load_X2_change rfl (by decide +kernel) ⟨Nat.le_of_ble_eq_true rfl, Nat.le_of_ble_eq_true rfl⟩ rfl hl.1 (Nat.le_of_ble_eq_true rfl) ⟨Nat.zero_le _, Nat.zero_le _⟩ dX4_load_77 (fun H locs hr9 hw hsz => ?_) rfl
                obtain ⟨hS, hf2⟩ := hr9
                have hO := hO.kept (hf2.2 _ (by omega))
                have hT := hT.kept (fun q _ _ => hf2.2 q (by omega))
                have hTr := hTr.kept (fun q _ _ => hf2.2 q (by omega))
                have hHi := hHi.kept (fun q _ _ => hf2.2 q (by omega))
                have hRs := hRs.kept (hf2.2 _ (by omega))
                have hIk := hIk.kept (hf2.2 _ (by omega))
                have hS0 := hS0.kept (fun q _ _ => hf2.2 q (by omega))
                have hS1 := hS1.kept (fun q _ _ => hf2.2 q (by omega))
                have hf := hf.step hf2 (by omega)
                refine lv_iinc (v := nI (k + 1)) (lv' := [(1, .int _), (0, .ref _)]) hx hb dX4_load_80 hl (k := 1) rfl (nI_add _ 1) (by decide) rfl (fun ls hl => ?_)
                refine lv_goto (tgt := 57) hx hb dX4_load_83 (by decide) ?_
                exact ih57  (k + 1) (upn σk (k) (v)) (by first | assumption | omega) hHn (hkN.set (by omega) hva hvb) (by omega) H _ hw hf hO hT hS hTr hHi hRs hIk hS0 hS1 _ (lv_sub hl [1, 0] rfl)
          exact lp57 (5 - 0 + 1) 0 S0 (by first | assumption | omega) hh0 hkN (by omega) H _ hw hf hO hT hS hTr hHi hRs hIk hS0 hS1 _ (lv_sub hl [1, 0] rfl)
        · refine lv_aload_n hx hb dX4_load_35 rfl (lv_at hl 0 rfl) ?_
          refine j_get (T := TX4) (N := 6) (k := 5) hx hb hts hinX4 hown hw hO rfl (by decide) (hts (.fieldLink RX4 37 "NightTrains" "saved" "[Z") (by decide +kernel)) rfl dX4_load_36 ?_
          refine lv_iload_n hx hb dX4_load_39 rfl (lv_at hl 1 rfl) ?_
          refine lv_iconst (v := (nI (0))) hx hb dX4_load_40 (by decide) ?_
          refine j_zast hx hb hw hIk (by omega) (k := k) rfl (by omega) (by omega) dX4_load_41 (fun H locs hw hIk oq hsz => ?_)
          obtain ⟨f10, ef10⟩ : ∃ y9, y9 = upd fk (k) (vp_nar .boolean (nI (0))) := ⟨_, rfl⟩
          rw [← ef10] at hIk
          have hO := hO.kept (oq _ (by omega))
          have hT := hT.kept (fun q _ _ => oq q (by omega))
          have hS := hS.kept (fun q _ _ => oq q (by omega))
          have hTr := hTr.kept (fun q _ _ => oq q (by omega))
          have hHi := hHi.kept (fun q _ _ => oq q (by omega))
          have hRs := hRs.kept (oq _ (by omega))
          have hS0 := hS0.kept (fun q _ _ => oq q (by omega))
          have hS1 := hS1.kept (fun q _ _ => oq q (by omega))
          have hf := hf.put oq hsz (by omega)
          refine lv_iinc (v := nI (k + 1)) (lv' := [(1, .int _), (0, .ref _)]) hx hb dX4_load_42 hl (k := 1) rfl (nI_add _ 1) (by decide) rfl (fun ls hl => ?_)
          refine lv_goto (tgt := 30) hx hb dX4_load_45 (by decide) ?_
          exact ih30  (k + 1) f10 (by first | assumption | omega) (fun j hj => by rw [ef10]; by_cases q : j = k; rw [q, pk_us]; rfl; rw [pk_un q]; exact hfk j (by omega)) (by omega) H _ hw hf hO hT hS hTr hHi hRs hIk hS0 hS1 _ (lv_sub hl [1, 0] rfl)
    exact lp30 (2 - 0 + 1) 0 ik (by first | assumption | omega) (fun j hj => absurd hj (Nat.not_lt_zero _)) (by omega) H _ hw hf hO hT hS hTr hHi hRs hIk hS0 hS1 _ (lv_sub hl [1, 0] rfl)
  · exact j_throw hl0 (cls := "java/lang/IllegalStateException") (text := "the text is not a store") (ik := 52) (is := 68) (ic := 56) hx hb hml hown hlocks hH hw hE hex (by decide +kernel) hts (by decide +kernel) (by decide +kernel) (by decide +kernel) (by decide +kernel) (by decide +kernel) vx_n52 vx_g52 hl.1 dX4_load_11 dX4_load_14 dX4_load_15 dX4_load_17 dX4_load_20 ⟨Nat.le_of_ble_eq_true rfl, Nat.le_of_ble_eq_true rfl, Nat.le_of_ble_eq_true rfl, Nat.le_of_ble_eq_true rfl⟩ ⟨fLoad_bad c8, rfl⟩
