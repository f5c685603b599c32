abbrev q_X4_more (g : jG) (H0 : Heap) (A : Nat) (u : Nat) (σ : Sg) (τ : Sg) : Option Value → Heap → Prop := jN (fun r H1 => H1 = H0 ∧ (r = nI (abN τ u) - nI (abN σ u)))
set_option maxHeartbeats 4000000 in
set_option maxRecDepth 100000 in
theorem c_X4_more (l : Launch) (g : jG) (z : Nat) (H0 : Heap) (A : Nat) (u : Nat) (σ : Sg) (τ : Sg) (hz : z ≤ A) (hO : jO g H0 A 4 [.ref (A + 1), .ref (A + 3), .ref (A + 15), .ref (A + 27), .ref (A + 197), .ref (A + 198)]) (hS : jSo g H0 (A + 3) σ (opnR σ)) (hTr : jSo g H0 (A + 15) τ (opnR τ)) (hs : okS σ) (ht : okS τ) (hu11 : u < 11) : jM l g z yX4_more wsX4_more 3 66 [.ref A, .int (nI (u))] H0 (q_X4_more g H0 A u σ τ) := by
  refine j_of (cc := cX4_more) (n := 2) (ret := some .int) (by decide) rfl (Nat.le_of_ble_eq_true rfl) ?_
  intro p e s m below meth c hx hb hr hml hown hts hlocks hname hH hw ls hl
  have hl : lv_has ls 2 [(0, .ref A), (1, .int (nI (u)))] := hl
  have hinX4 : ∀ w ∈ u_ws RX4 TX4 6, w ∈ wsX4_more := by decide +kernel
  refine lv_aload_n hx hb dX4_more_0 rfl (lv_at hl 0 rfl) ?_
  refine j_get (T := TX4) (N := 6) (k := 2) hx hb hts hinX4 hown hw hO rfl (by decide) (hts (.fieldLink RX4 23 "NightTrains" "trial" "LNightTrains$Store;") (by decide +kernel)) rfl dX4_more_1 ?_
  refine lv_iload_n hx hb dX4_more_4 rfl (lv_at hl 1 rfl) ?_
  refine j_Vp (n := 1) (As := [.int (nI (u))]) hx hb hml hown hts hw (j_recv hw hTr.obj rfl) (c_X2_number l g z H0 (A + 15) (u) τ (by omega) hTr ht (by first | assumption | omega)) gX4_more_X2_number rfl (by decide +kernel) ⟨Nat.le_of_ble_eq_true rfl, Nat.le_of_ble_eq_true rfl⟩ rfl hl.1 (Nat.le_of_ble_eq_true rfl) ⟨Nat.zero_le _, Nat.zero_le _⟩ dX4_more_5 (fun r1 locs hr1 hw => ?_) rfl
  obtain rfl : r1 = (nI ((abN τ (u)))) := hr1
  refine lv_aload_n hx hb dX4_more_8 rfl (lv_at hl 0 rfl) ?_
  refine j_get (T := TX4) (N := 6) (k := 1) hx hb hts hinX4 hown hw hO rfl (by decide) (hts (.fieldLink RX4 19 "NightTrains" "now" "LNightTrains$Store;") (by decide +kernel)) rfl dX4_more_9 ?_
  refine lv_iload_n hx hb dX4_more_12 rfl (lv_at hl 1 rfl) ?_
  refine j_Vp (n := 1) (As := [.int (nI (u))]) hx hb hml hown hts hw (j_recv hw hS.obj rfl) (c_X2_number l g z H0 (A + 3) (u) σ (by omega) hS hs (by first | assumption | omega)) gX4_more_X2_number rfl (by decide +kernel) ⟨Nat.le_of_ble_eq_true rfl, Nat.le_of_ble_eq_true rfl⟩ rfl hl.1 (Nat.le_of_ble_eq_true rfl) ⟨Nat.zero_le _, Nat.zero_le _⟩ dX4_more_13 (fun r2 locs hr2 hw => ?_) rfl
  obtain rfl : r2 = (nI ((abN σ (u)))) := hr2
  refine lv_isub hx hb dX4_more_16 ?_
  refine j_iret hx hb hr hlocks hH hw dX4_more_17 ?_
  exact ⟨_, rfl, rfl, rfl⟩

abbrev q_X4_tryToTheEnd (g : jG) (H0 : Heap) (A : Nat) (k : Nat) (v : Nat) (σ : Sg) (τ : Sg) (Rt : List OR) : Option Value → Heap → Prop := jV (fun H1 => jSo g H1 (A + 15) (nightsS 9 (upn σ k v)) (opnR (nightsS 9 (upn σ k v))) ∧ jF (A + 15) 12 H0 H1)
set_option maxHeartbeats 4000000 in
set_option maxRecDepth 100000 in
theorem c_X4_tryToTheEnd (l : Launch) (g : jG) (z : Nat) (H0 : Heap) (A : Nat) (k : Nat) (v : Nat) (σ : Sg) (τ : Sg) (Rt : List OR) (hz : z ≤ A) (hO : jO g H0 A 4 [.ref (A + 1), .ref (A + 3), .ref (A + 15), .ref (A + 27), .ref (A + 197), .ref (A + 198)]) (hS : jSo g H0 (A + 3) σ (opnR σ)) (hTr : jSo g H0 (A + 15) τ Rt) (hk5 : k < 5) (hs : okS (upn σ k v)) (hcalm : ∀ o ∈ σ.2.2.1, o 4 < 9) (hb12 : σ.1 12 + 200 < 2 ^ 31) : jM l g z yX4_tryToTheEnd wsX4_tryToTheEnd 7 174 [.ref A, .int (nI (k)), .int (nI (v))] H0 (q_X4_tryToTheEnd g H0 A k v σ τ Rt) := by
  refine j_of (cc := cX4_tryToTheEnd) (n := 3) (ret := none) (by decide) rfl (Nat.le_of_ble_eq_true rfl) ?_
  intro p e s m below meth c hx hb hr hml hown hts hlocks hname hH hw ls hl
  have hl : lv_has ls 3 [(0, .ref A), (1, .int (nI (k))), (2, .int (nI (v)))] := hl
  have hinX4 : ∀ w ∈ u_ws RX4 TX4 6, w ∈ wsX4_tryToTheEnd := by decide +kernel
  have hf : jF (A + 15) 12 H0 H0 := jF.rf
  refine lv_aload_n hx hb dX4_tryToTheEnd_0 rfl (lv_at hl 0 rfl) ?_
  refine j_get (T := TX4) (N := 6) (k := 2) hx hb hts hinX4 hown hw hO rfl (by decide) (hts (.fieldLink RX4 23 "NightTrains" "trial" "LNightTrains$Store;") (by decide +kernel)) rfl dX4_tryToTheEnd_1 ?_
  refine lv_aload_n hx hb dX4_tryToTheEnd_4 rfl (lv_at hl 0 rfl) ?_
  refine j_get (T := TX4) (N := 6) (k := 1) hx hb hts hinX4 hown hw hO rfl (by decide) (hts (.fieldLink RX4 19 "NightTrains" "now" "LNightTrains$Store;") (by decide +kernel)) rfl dX4_tryToTheEnd_5 ?_
  refine j_Vv (n := 1) (As := [.ref (A + 3)]) hx hb hml hown hts hw (j_recv hw hTr.obj rfl) (c_X2_copyFrom l g z H0 (A + 15) (A + 3) τ Rt σ (opnR σ) (by omega) hTr hS (by first | assumption | omega)) gX4_tryToTheEnd_X2_copyFrom rfl (by decide +kernel) ⟨Nat.le_of_ble_eq_true rfl, Nat.le_of_ble_eq_true rfl⟩ rfl hl.1 (Nat.le_of_ble_eq_true rfl) ⟨Nat.zero_le _, Nat.zero_le _⟩ dX4_tryToTheEnd_8 (fun H locs hr1 hw hsz => ?_) rfl
  obtain ⟨hTr, hf2⟩ := hr1
  have hO := hO.kept (hf2.2 _ (by omega))
  have hS := hS.kept (fun q _ _ => hf2.2 q (by omega))
  have hf := hf.step hf2 (by omega)
  refine lv_aload_n hx hb dX4_tryToTheEnd_11 rfl (lv_at hl 0 rfl) ?_
  refine j_get (T := TX4) (N := 6) (k := 2) hx hb hts hinX4 hown hw hO rfl (by decide) (hts (.fieldLink RX4 23 "NightTrains" "trial" "LNightTrains$Store;") (by decide +kernel)) rfl dX4_tryToTheEnd_12 ?_
  refine lv_iload_n hx hb dX4_tryToTheEnd_15 rfl (lv_at hl 1 rfl) ?_
  refine lv_iload_n hx hb dX4_tryToTheEnd_16 rfl (lv_at hl 2 rfl) ?_
  refine j_Vv (n := 2) (As := [.int (nI (k)), .int (nI (v))]) hx hb hml hown hts hw (j_recv hw hTr.obj rfl) (c_X2_change l g z H (A + 15) (k) (v) σ (opnR σ) (by omega) hTr (by first | assumption | omega)) gX4_tryToTheEnd_X2_change rfl (by decide +kernel) ⟨Nat.le_of_ble_eq_true rfl, Nat.le_of_ble_eq_true rfl⟩ rfl hl.1 (Nat.le_of_ble_eq_true rfl) ⟨Nat.zero_le _, Nat.zero_le _⟩ dX4_tryToTheEnd_17 (fun H locs hr2 hw hsz => ?_) rfl
  obtain ⟨hTr, hf2⟩ := hr2
  have hO := hO.kept (hf2.2 _ (by omega))
  have hS := hS.kept (fun q _ _ => hf2.2 q (by omega))
  have hf := hf.step hf2 (by omega)
  refine lv_aload_n hx hb dX4_tryToTheEnd_20 rfl (lv_at hl 0 rfl) ?_
  refine j_get (T := TX4) (N := 6) (k := 2) hx hb hts hinX4 hown hw hO rfl (by decide) (hts (.fieldLink RX4 23 "NightTrains" "trial" "LNightTrains$Store;") (by decide +kernel)) rfl dX4_tryToTheEnd_21 ?_
  refine lv_bipush (v := (nI (9))) hx hb dX4_tryToTheEnd_24 (by decide) ?_
  refine j_Vv (n := 1) (As := [.int (nI (9))]) hx hb hml hown hts hw (j_recv hw hTr.obj rfl) (c_X2_passNights l g z H (A + 15) (9) (upn σ (k) (v)) (by omega) hTr hs hcalm (by rw [upn_n (by omega)]; omega) (by omega)) gX4_tryToTheEnd_X2_passNights rfl (by decide +kernel) ⟨Nat.le_of_ble_eq_true rfl, Nat.le_of_ble_eq_true rfl⟩ rfl hl.1 (Nat.le_of_ble_eq_true rfl) ⟨Nat.zero_le _, Nat.zero_le _⟩ dX4_tryToTheEnd_26 (fun H locs hr3 hw hsz => ?_) rfl
  obtain ⟨hTr, hf2⟩ := hr3
  have hO := hO.kept (hf2.2 _ (by omega))
  have hS := hS.kept (fun q _ _ => hf2.2 q (by omega))
  have hf := hf.step hf2 (by omega)
  refine j_vret hx hb hr hlocks hH hw dX4_tryToTheEnd_29 ?_
  exact ⟨rfl, hTr, hf⟩

abbrev q_X4_obey (g : jG) (H0 : Heap) (A : Nat) (sp : Nat) (tx : List Nat) (σ : Sg) (cm : Cm) (s9 : Nat) : Option Value → Heap → Prop := jN (fun r H1 => r = bI (doC σ cm).isSome ∧ jSo g H1 (A + 3) ((doC σ cm).getD σ) (opnR ((doC σ cm).getD σ)) ∧ jF (A + 3) 12 H0 H1)
set_option maxHeartbeats 4000000 in
set_option maxRecDepth 100000 in
theorem c_X4_obey (l : Launch) (g : jG) (z : Nat) (H0 : Heap) (A : Nat) (sp : Nat) (tx : List Nat) (σ : Sg) (cm : Cm) (s9 : Nat) (hz : z ≤ A) (hO : jO g H0 A 4 [.ref (A + 1), .ref (A + 3), .ref (A + 15), .ref (A + 27), .ref (A + 197), .ref (A + 198)]) (hT : jTe g H0 (A + 1) tx) (hS : jSo g H0 (A + 3) σ (opnR σ)) (hs : okS σ) (hcalm : ∀ o ∈ σ.2.2.1, o 4 < 9) (hcm : rdCmd tx sp = .inr (s9, cm)) (hb12 : σ.1 12 + 160 < 2 ^ 31) (hsp : sp < 1000) : jM l g z yX4_obey wsX4_obey 7 174 [.ref A, .int (nI (sp))] H0 (q_X4_obey g H0 A sp tx σ cm s9) := by
  refine j_of (cc := cX4_obey) (n := 2) (ret := some .boolean) (by decide) rfl (Nat.le_of_ble_eq_true rfl) ?_
  intro p e s m below meth c hx hb hr hml hown hts hlocks hname hH hw ls hl
  have hl : lv_has ls 2 [(0, .ref A), (1, .int (nI (sp)))] := hl
  have hinX4 : ∀ w ∈ u_ws RX4 TX4 6, w ∈ wsX4_obey := by decide +kernel
  have hf : jF (A + 3) 12 H0 H0 := jF.rf
  have htk := hT.ok
  refine lv_aload_n hx hb dX4_obey_0 rfl (lv_at hl 0 rfl) ?_
  refine j_get (T := TX4) (N := 6) (k := 0) hx hb hts hinX4 hown hw hO rfl (by decide) (hts (.fieldLink RX4 10 "NightTrains" "text" "LNightTrains$Text;") (by decide +kernel)) rfl dX4_obey_1 ?_
  refine lv_iload_n hx hb dX4_obey_4 rfl (lv_at hl 1 rfl) ?_
  refine j_Vp (n := 1) (As := [.int (nI (sp))]) hx hb hml hown hts hw (j_recv hw hT.obj rfl) (c_X3_signAt l g z H0 (A + 1) (sp) tx (by omega) hT (by first | assumption | omega)) gX4_obey_X3_signAt rfl (by decide +kernel) ⟨Nat.le_of_ble_eq_true rfl, Nat.le_of_ble_eq_true rfl⟩ rfl hl.1 (Nat.le_of_ble_eq_true rfl) ⟨Nat.zero_le _, Nat.zero_le _⟩ dX4_obey_5 (fun r1 locs hr1 hw => ?_) rfl
  obtain rfl : r1 = (sgA tx (sp)) := hr1
  rcases rd_kind htk hcm with ⟨hc, c9, t9, d9, it9, fe9, rfl, e1, e2, e3, e4, e5, hb1, hb2, hb3, hb4, hb5, hb6⟩ | ⟨hc, t9, d9, rfl, e1, e2, hb1, hb2⟩ | ⟨hc, k9, rfl, e1, hb1, hb2⟩
  · rw [show sgA tx sp = nI 111 from (sg_eq htk (by omega)).mpr hc]
    refine lv_lookup (off := 36) (tgt := 44) hx hb dX4_obey_8 (by decide +kernel) (by decide +kernel) (by decide) ?_
    refine lv_aload_n hx hb dX4_obey_44 rfl (lv_at hl 0 rfl) ?_
    refine j_get (T := TX4) (N := 6) (k := 1) hx hb hts hinX4 hown hw hO rfl (by decide) (hts (.fieldLink RX4 19 "NightTrains" "now" "LNightTrains$Store;") (by decide +kernel)) rfl dX4_obey_45 ?_
    refine lv_aload_n hx hb dX4_obey_48 rfl (lv_at hl 0 rfl) ?_
    refine j_get (T := TX4) (N := 6) (k := 0) hx hb hts hinX4 hown hw hO rfl (by decide) (hts (.fieldLink RX4 10 "NightTrains" "text" "LNightTrains$Text;") (by decide +kernel)) rfl dX4_obey_49 ?_
    refine lv_iload_n hx hb dX4_obey_52 rfl (lv_at hl 1 rfl) ?_
    refine lv_iconst (v := (nI (1))) hx hb dX4_obey_53 (by decide) ?_
    refine j_addN hx hb dX4_obey_54 ?_
    refine j_Vp (n := 1) (As := [.int (nI ((sp + 1)))]) hx hb hml hown hts hw (j_recv hw hT.obj rfl) (c_X3_digitAt l g z H0 (A + 1) ((sp + 1)) tx (by omega) hT (by first | assumption | omega)) gX4_obey_X3_digitAt rfl (by decide +kernel) ⟨Nat.le_of_ble_eq_true rfl, Nat.le_of_ble_eq_true rfl⟩ rfl hl.1 (Nat.le_of_ble_eq_true rfl) ⟨Nat.zero_le _, Nat.zero_le _⟩ dX4_obey_55 (fun r2 locs hr2 hw => ?_) rfl
    obtain rfl : r2 = (nI (c9)) := hr2.trans e1
    refine lv_aload_n hx hb dX4_obey_58 rfl (lv_at hl 0 rfl) ?_
    refine j_get (T := TX4) (N := 6) (k := 0) hx hb hts hinX4 hown hw hO rfl (by decide) (hts (.fieldLink RX4 10 "NightTrains" "text" "LNightTrains$Text;") (by decide +kernel)) rfl dX4_obey_59 ?_
    refine lv_iload_n hx hb dX4_obey_62 rfl (lv_at hl 1 rfl) ?_
    refine lv_iconst (v := (nI (2))) hx hb dX4_obey_63 (by decide) ?_
    refine j_addN hx hb dX4_obey_64 ?_
    refine j_Vp (n := 1) (As := [.int (nI ((sp + 2)))]) hx hb hml hown hts hw (j_recv hw hT.obj rfl) (c_X3_pairAt l g z H0 (A + 1) ((sp + 2)) tx (by omega) hT (by first | assumption | omega)) gX4_obey_X3_pairAt rfl (by decide +kernel) ⟨Nat.le_of_ble_eq_true rfl, Nat.le_of_ble_eq_true rfl⟩ rfl hl.1 (Nat.le_of_ble_eq_true rfl) ⟨Nat.zero_le _, Nat.zero_le _⟩ dX4_obey_65 (fun r3 locs hr3 hw => ?_) rfl
    obtain rfl : r3 = (nI ((10 * t9 + d9))) := hr3.trans (pair_v e2 e3)
    refine lv_aload_n hx hb dX4_obey_68 rfl (lv_at hl 0 rfl) ?_
    refine j_get (T := TX4) (N := 6) (k := 0) hx hb hts hinX4 hown hw hO rfl (by decide) (hts (.fieldLink RX4 10 "NightTrains" "text" "LNightTrains$Text;") (by decide +kernel)) rfl dX4_obey_69 ?_
    refine lv_iload_n hx hb dX4_obey_72 rfl (lv_at hl 1 rfl) ?_
    refine lv_iconst (v := (nI (4))) hx hb dX4_obey_73 (by decide) ?_
    refine j_addN hx hb dX4_obey_74 ?_
    refine j_Vp (n := 1) (As := [.int (nI ((sp + 4)))]) hx hb hml hown hts hw (j_recv hw hT.obj rfl) (c_X3_digitAt l g z H0 (A + 1) ((sp + 4)) tx (by omega) hT (by first | assumption | omega)) gX4_obey_X3_digitAt rfl (by decide +kernel) ⟨Nat.le_of_ble_eq_true rfl, Nat.le_of_ble_eq_true rfl⟩ rfl hl.1 (Nat.le_of_ble_eq_true rfl) ⟨Nat.zero_le _, Nat.zero_le _⟩ dX4_obey_75 (fun r4 locs hr4 hw => ?_) rfl
    obtain rfl : r4 = (nI (it9)) := hr4.trans e4
    refine lv_aload_n hx hb dX4_obey_78 rfl (lv_at hl 0 rfl) ?_
    refine j_get (T := TX4) (N := 6) (k := 0) hx hb hts hinX4 hown hw hO rfl (by decide) (hts (.fieldLink RX4 10 "NightTrains" "text" "LNightTrains$Text;") (by decide +kernel)) rfl dX4_obey_79 ?_
    refine lv_iload_n hx hb dX4_obey_82 rfl (lv_at hl 1 rfl) ?_
    refine lv_iconst (v := (nI (5))) hx hb dX4_obey_83 (by decide) ?_
    refine j_addN hx hb dX4_obey_84 ?_
    refine j_Vp (n := 1) (As := [.int (nI ((sp + 5)))]) hx hb hml hown hts hw (j_recv hw hT.obj rfl) (c_X3_digitAt l g z H0 (A + 1) ((sp + 5)) tx (by omega) hT (by first | assumption | omega)) gX4_obey_X3_digitAt rfl (by decide +kernel) ⟨Nat.le_of_ble_eq_true rfl, Nat.le_of_ble_eq_true rfl⟩ rfl hl.1 (Nat.le_of_ble_eq_true rfl) ⟨Nat.zero_le _, Nat.zero_le _⟩ dX4_obey_85 (fun r5 locs hr5 hw => ?_) rfl
    obtain rfl : r5 = (nI (fe9)) := hr5.trans e5
    refine j_Vi (n := 4) (As := [.int (nI (c9)), .int (nI ((10 * t9 + d9))), .int (nI (it9)), .int (nI (fe9))]) hx hb hml hown hts hw (j_recv hw hS.obj rfl) (c_X2_placeIfAllowed l g z H0 (A + 3) (c9) ((10 * t9 + d9)) (it9) (fe9) σ (by omega) hS hs (by first | assumption | omega) (by first | assumption | omega) (by first | assumption | omega) (by first | assumption | omega)) gX4_obey_X2_placeIfAllowed rfl (by decide +kernel) ⟨Nat.le_of_ble_eq_true rfl, Nat.le_of_ble_eq_true rfl⟩ rfl hl.1 (Nat.le_of_ble_eq_true rfl) ⟨Nat.zero_le _, Nat.zero_le _⟩ dX4_obey_88 (fun r6 H locs hr6 hw hsz => ?_) rfl
    obtain ⟨hr6, hto⟩ := hr6
    obtain ⟨tc1, htc1⟩ : ∃ x, x = (tAsk σ (c9) ((10 * t9 + d9)) (it9) (fe9)) := ⟨_, rfl⟩
    rw [← htc1] at hr6 hto
    rcases tc1 with _ | σ9
    · obtain rfl : r6 = nI 0 := hr6
      obtain ⟨hS, hf2⟩ := hto
      have hO := hO.kept (hf2.2 _ (by omega))
      have hT := hT.kept (fun q _ _ => hf2.2 q (by omega))
      have hf := hf.step hf2 (by omega)
      refine j_zret hx hb hr hlocks hH hw (Or.inl rfl) dX4_obey_91 ?_
      have e9 : doC σ (.inl (c9, 10 * t9 + d9, it9, fe9)) = none := htc1.symm
      exact ⟨_, rfl, by rw [e9]; rfl, by rw [e9]; exact hS, hf⟩
    · obtain rfl : r6 = nI 1 := hr6
      obtain ⟨hS, hf2⟩ := hto
      have hO := hO.kept (hf2.2 _ (by omega))
      have hT := hT.kept (fun q _ _ => hf2.2 q (by omega))
      have hf := hf.step hf2 (by omega)
      refine j_zret hx hb hr hlocks hH hw (Or.inr rfl) dX4_obey_91 ?_
      have e9 : doC σ (.inl (c9, 10 * t9 + d9, it9, fe9)) = some σ9 := htc1.symm
      exact ⟨_, rfl, by rw [e9]; rfl, by rw [e9]; exact hS, hf⟩
  · rw [show sgA tx sp = nI 99 from (sg_eq htk (by omega)).mpr hc]
    refine lv_lookup (off := 84) (tgt := 92) hx hb dX4_obey_8 (by decide +kernel) (by decide +kernel) (by decide) ?_
    refine lv_aload_n hx hb dX4_obey_92 rfl (lv_at hl 0 rfl) ?_
    refine j_get (T := TX4) (N := 6) (k := 1) hx hb hts hinX4 hown hw hO rfl (by decide) (hts (.fieldLink RX4 19 "NightTrains" "now" "LNightTrains$Store;") (by decide +kernel)) rfl dX4_obey_93 ?_
    refine lv_aload_n hx hb dX4_obey_96 rfl (lv_at hl 0 rfl) ?_
    refine j_get (T := TX4) (N := 6) (k := 0) hx hb hts hinX4 hown hw hO rfl (by decide) (hts (.fieldLink RX4 10 "NightTrains" "text" "LNightTrains$Text;") (by decide +kernel)) rfl dX4_obey_97 ?_
    refine lv_iload_n hx hb dX4_obey_100 rfl (lv_at hl 1 rfl) ?_
    refine lv_iconst (v := (nI (1))) hx hb dX4_obey_101 (by decide) ?_
    refine j_addN hx hb dX4_obey_102 ?_
    refine j_Vp (n := 1) (As := [.int (nI ((sp + 1)))]) hx hb hml hown hts hw (j_recv hw hT.obj rfl) (c_X3_pairAt l g z H0 (A + 1) ((sp + 1)) tx (by omega) hT (by first | assumption | omega)) gX4_obey_X3_pairAt rfl (by decide +kernel) ⟨Nat.le_of_ble_eq_true rfl, Nat.le_of_ble_eq_true rfl⟩ rfl hl.1 (Nat.le_of_ble_eq_true rfl) ⟨Nat.zero_le _, Nat.zero_le _⟩ dX4_obey_103 (fun r7 locs hr7 hw => ?_) rfl
    obtain rfl : r7 = (nI ((10 * t9 + d9))) := hr7.trans (pair_v e1 e2)
    refine j_Vi (n := 1) (As := [.int (nI ((10 * t9 + d9)))]) hx hb hml hown hts hw (j_recv hw hS.obj rfl) (c_X2_dropIfAllowed l g z H0 (A + 3) ((10 * t9 + d9)) σ (by omega) hS hs (by first | assumption | omega)) gX4_obey_X2_dropIfAllowed rfl (by decide +kernel) ⟨Nat.le_of_ble_eq_true rfl, Nat.le_of_ble_eq_true rfl⟩ rfl hl.1 (Nat.le_of_ble_eq_true rfl) ⟨Nat.zero_le _, Nat.zero_le _⟩ dX4_obey_106 (fun r8 H locs hr8 hw hsz => ?_) rfl
    obtain ⟨hr8, hto⟩ := hr8
    obtain ⟨tc2, htc2⟩ : ∃ x, x = (tCancel σ ((10 * t9 + d9))) := ⟨_, rfl⟩
    rw [← htc2] at hr8 hto
    rcases tc2 with _ | σ9
    · obtain rfl : r8 = nI 0 := hr8
      obtain ⟨hS, hf2⟩ := hto
      have hO := hO.kept (hf2.2 _ (by omega))
      have hT := hT.kept (fun q _ _ => hf2.2 q (by omega))
      have hf := hf.step hf2 (by omega)
      refine j_zret hx hb hr hlocks hH hw (Or.inl rfl) dX4_obey_109 ?_
      have e9 : doC σ (.inr (.inl (10 * t9 + d9))) = none := htc2.symm
      exact ⟨_, rfl, by rw [e9]; rfl, by rw [e9]; exact hS, hf⟩
    · obtain rfl : r8 = nI 1 := hr8
      obtain ⟨hS, hf2⟩ := hto
      have hO := hO.kept (hf2.2 _ (by omega))
      have hT := hT.kept (fun q _ _ => hf2.2 q (by omega))
      have hf := hf.step hf2 (by omega)
      refine j_zret hx hb hr hlocks hH hw (Or.inr rfl) dX4_obey_109 ?_
      have e9 : doC σ (.inr (.inl (10 * t9 + d9))) = some σ9 := htc2.symm
      exact ⟨_, rfl, by rw [e9]; rfl, by rw [e9]; exact hS, hf⟩
  · rw [show sgA tx sp = nI 110 from (sg_eq htk (by omega)).mpr hc]
    refine lv_lookup (off := 102) (tgt := 110) hx hb dX4_obey_8 (by decide +kernel) (by decide +kernel) (by decide) ?_
    refine lv_aload_n hx hb dX4_obey_110 rfl (lv_at hl 0 rfl) ?_
    refine j_get (T := TX4) (N := 6) (k := 1) hx hb hts hinX4 hown hw hO rfl (by decide) (hts (.fieldLink RX4 19 "NightTrains" "now" "LNightTrains$Store;") (by decide +kernel)) rfl dX4_obey_111 ?_
    refine lv_aload_n hx hb dX4_obey_114 rfl (lv_at hl 0 rfl) ?_
    refine j_get (T := TX4) (N := 6) (k := 0) hx hb hts hinX4 hown hw hO rfl (by decide) (hts (.fieldLink RX4 10 "NightTrains" "text" "LNightTrains$Text;") (by decide +kernel)) rfl dX4_obey_115 ?_
    refine lv_iload_n hx hb dX4_obey_118 rfl (lv_at hl 1 rfl) ?_
    refine lv_iconst (v := (nI (1))) hx hb dX4_obey_119 (by decide) ?_
    refine j_addN hx hb dX4_obey_120 ?_
    refine j_Vp (n := 1) (As := [.int (nI ((sp + 1)))]) hx hb hml hown hts hw (j_recv hw hT.obj rfl) (c_X3_digitAt l g z H0 (A + 1) ((sp + 1)) tx (by omega) hT (by first | assumption | omega)) gX4_obey_X3_digitAt rfl (by decide +kernel) ⟨Nat.le_of_ble_eq_true rfl, Nat.le_of_ble_eq_true rfl⟩ rfl hl.1 (Nat.le_of_ble_eq_true rfl) ⟨Nat.zero_le _, Nat.zero_le _⟩ dX4_obey_121 (fun r9 locs hr9 hw => ?_) rfl
    obtain rfl : r9 = (nI (k9)) := hr9.trans e1
    refine j_Vv (n := 1) (As := [.int (nI (k9))]) hx hb hml hown hts hw (j_recv hw hS.obj rfl) (c_X2_passNights l g z H0 (A + 3) (k9) σ (by omega) hS hs hcalm (by first | assumption | omega) (by first | assumption | omega)) gX4_obey_X2_passNights rfl (by decide +kernel) ⟨Nat.le_of_ble_eq_true rfl, Nat.le_of_ble_eq_true rfl⟩ rfl hl.1 (Nat.le_of_ble_eq_true rfl) ⟨Nat.zero_le _, Nat.zero_le _⟩ dX4_obey_124 (fun H locs hr10 hw hsz => ?_) rfl
    obtain ⟨hS, hf2⟩ := hr10
    have hO := hO.kept (hf2.2 _ (by omega))
    have hT := hT.kept (fun q _ _ => hf2.2 q (by omega))
    have hf := hf.step hf2 (by omega)
    refine lv_iconst (v := (nI (1))) hx hb dX4_obey_127 (by decide) ?_
    refine j_zret hx hb hr hlocks hH hw (Or.inr rfl) dX4_obey_128 ?_
    exact ⟨_, rfl, rfl, hS, hf⟩

abbrev q_X4_runGroup (g : jG) (H0 : Heap) (A : Nat) (gp : Nat) (σ : Sg) : Option Value → Heap → Prop := jN (fun r H1 => r = bI (doG σ gp).isSome ∧ jSo g H1 (A + 15) ((doG σ gp).getD σ) (opnR ((doG σ gp).getD σ)) ∧ jF (A + 15) 12 H0 H1)
set_option maxHeartbeats 4000000 in
set_option maxRecDepth 100000 in
theorem c_X4_runGroup (l : Launch) (g : jG) (z : Nat) (H0 : Heap) (A : Nat) (gp : Nat) (σ : Sg) (hz : z ≤ A) (hO : jO g H0 A 4 [.ref (A + 1), .ref (A + 3), .ref (A + 15), .ref (A + 27), .ref (A + 197), .ref (A + 198)]) (hTr : jSo g H0 (A + 15) σ (opnR σ)) (hs : okS σ) (hcalm : ∀ o ∈ σ.2.2.1, o 4 < 9) (hg : gp < 100000) (hb12 : σ.1 12 + 600 < 2 ^ 31) : jM l g z yX4_runGroup wsX4_runGroup 7 174 [.ref A, .int (nI (gp))] H0 (q_X4_runGroup g H0 A gp σ) := by
  refine j_of (cc := cX4_runGroup) (n := 6) (ret := some .boolean) (by decide) rfl (Nat.le_of_ble_eq_true rfl) ?_
  intro p e s m below meth c hx hb hr hml hown hts hlocks hname hH hw ls hl
  have hl : lv_has ls 6 [(0, .ref A), (1, .int (nI (gp)))] := hl
  have hinX4 : ∀ w ∈ u_ws RX4 TX4 6, w ∈ wsX4_runGroup := by decide +kernel
  have hinX2 : ∀ w ∈ u_ws RX2 TX2 9, w ∈ wsX4_runGroup := by decide +kernel
  have hf : jF (A + 15) 12 H0 H0 := jF.rf
  refine lv_iload_n hx hb dX4_runGroup_0 rfl (lv_at hl 1 rfl) ?_
  refine lv_sipush (v := (nI (1000))) hx hb dX4_runGroup_1 (by decide) ?_
  refine j_divN hx hb (by omega) (by omega) (by omega) dX4_runGroup_4 ?_
  refine lv_bipush (v := (nI (10))) hx hb dX4_runGroup_5 (by decide) ?_
  refine j_remN hx hb (by omega) (by omega) (by omega) dX4_runGroup_7 ?_
  refine lv_istore_n (lv' := [(2, .int _), (0, .ref _), (1, .int _)]) hx hb dX4_runGroup_8 rfl hl (by decide) rfl (fun ls hl => ?_)
  refine lv_iload_n hx hb dX4_runGroup_9 rfl (lv_at hl 2 rfl) ?_
  refine lv_bipush (v := (nI (100))) hx hb dX4_runGroup_10 (by decide) ?_
  refine j_divN hx hb (by omega) (by omega) (by omega) dX4_runGroup_12 ?_
  refine lv_bipush (v := (nI (10))) hx hb dX4_runGroup_13 (by decide) ?_
  refine j_remN hx hb (by omega) (by omega) (by omega) dX4_runGroup_15 ?_
  refine lv_istore_n (lv' := [(3, .int _), (2, .int _), (0, .ref _), (1, .int _)]) hx hb dX4_runGroup_16 rfl hl (by decide) rfl (fun ls hl => ?_)
  refine lv_iload_n hx hb dX4_runGroup_17 rfl (lv_at hl 3 rfl) ?_
  refine lv_bipush (v := (nI (10))) hx hb dX4_runGroup_18 (by decide) ?_
  refine j_divN hx hb (by omega) (by omega) (by omega) dX4_runGroup_20 ?_
  refine lv_bipush (v := (nI (10))) hx hb dX4_runGroup_21 (by decide) ?_
  refine j_remN hx hb (by omega) (by omega) (by omega) dX4_runGroup_23 ?_
  refine lv_istore (lv' := [(4, .int _), (3, .int _), (2, .int _), (0, .ref _), (1, .int _)]) hx hb dX4_runGroup_24 hl (by decide) rfl (fun ls hl => ?_)
  refine lv_iload_n hx hb dX4_runGroup_26 rfl (lv_at hl 4 rfl) ?_
  refine lv_bipush (v := (nI (10))) hx hb dX4_runGroup_27 (by decide) ?_
  refine j_remN hx hb (by omega) (by omega) (by omega) dX4_runGroup_29 ?_
  refine lv_istore (lv' := [(5, .int _), (4, .int _), (3, .int _), (2, .int _), (0, .ref _), (1, .int _)]) hx hb dX4_runGroup_30 hl (by decide) rfl (fun ls hl => ?_)
  refine lv_iload_n hx hb dX4_runGroup_32 rfl (lv_at hl 5 rfl) ?_
  refine lv_sipush (v := (nI (10000))) hx hb dX4_runGroup_33 (by decide) ?_
  refine j_divN hx hb (by omega) (by omega) (by omega) dX4_runGroup_36 ?_
  have hw9 : gp / 10000 = 0 ∨ gp / 10000 = 1 ∨ gp / 10000 = 2 ∨ gp / 10000 = 3 ∨ gp / 10000 = 4 ∨ gp / 10000 = 5 ∨ gp / 10000 = 6 ∨ gp / 10000 = 7 ∨ gp / 10000 = 8 ∨ gp / 10000 = 9 := by omega
  rcases hw9 with hw9 | hw9 | hw9 | hw9 | hw9 | hw9 | hw9 | hw9 | hw9 | hw9
  · refine j_eq (y := nI 0) (congrArg nI hw9) ?_
    refine lv_tableOut (tgt := 389) hx hb dX4_runGroup_37 (Or.inl (by decide)) (by decide) ?_
    refine lv_iconst (v := (nI (0))) hx hb dX4_runGroup_389 (by decide) ?_
    refine j_zret hx hb hr hlocks hH hw (Or.inl rfl) dX4_runGroup_390 ?_
    have e9 : doG σ gp = none := by unfold doG; rw [hw9]; rfl
    exact ⟨_, rfl, by rw [e9]; rfl, by rw [e9]; exact hTr, hf⟩
  · refine j_eq (y := nI 1) (congrArg nI hw9) ?_
    refine lv_tableIn (tgt := 88) hx hb dX4_runGroup_37 (by decide) (by decide) (off := 51) (by decide) (by decide) ?_
    refine lv_aload_n hx hb dX4_runGroup_88 rfl (lv_at hl 4 rfl) ?_
    refine j_get (T := TX4) (N := 6) (k := 2) hx hb hts hinX4 hown hw hO rfl (by decide) (hts (.fieldLink RX4 23 "NightTrains" "trial" "LNightTrains$Store;") (by decide +kernel)) rfl dX4_runGroup_89 ?_
    refine lv_iload_n hx hb dX4_runGroup_92 rfl (lv_at hl 3 rfl) ?_
    refine lv_bipush (v := (nI (10))) hx hb dX4_runGroup_93 (by decide) ?_
    refine lv_iload_n hx hb dX4_runGroup_95 rfl (lv_at hl 2 rfl) ?_
    refine j_mulN hx hb dX4_runGroup_96 ?_
    refine lv_iload hx hb dX4_runGroup_97 (lv_at hl 1 rfl) ?_
    refine j_addN hx hb dX4_runGroup_99 ?_
    refine j_eq (y := nI (gp / 10 % 100)) (congrArg nI (by omega)) ?_
    refine lv_iconst (v := (nI (0))) hx hb dX4_runGroup_100 (by decide) ?_
    refine lv_iload hx hb dX4_runGroup_101 (lv_at hl 0 rfl) ?_
    refine j_Vi (n := 4) (As := [.int (nI (((gp / 1000) % 10))), .int (nI (gp / 10 % 100)), .int (nI (0)), .int (nI ((gp % 10)))]) hx hb hml hown hts hw (j_recv hw hTr.obj rfl) (c_X2_placeIfAllowed l g z H0 (A + 15) (((gp / 1000) % 10)) (gp / 10 % 100) (0) ((gp % 10)) σ (by omega) hTr hs (by first | assumption | omega) (by first | assumption | omega) (by first | assumption | omega) (by first | assumption | omega)) gX4_runGroup_X2_placeIfAllowed rfl (by decide +kernel) ⟨Nat.le_of_ble_eq_true rfl, Nat.le_of_ble_eq_true rfl⟩ rfl hl.1 (Nat.le_of_ble_eq_true rfl) ⟨Nat.zero_le _, Nat.zero_le _⟩ dX4_runGroup_103 (fun r1 H locs hr1 hw hsz => ?_) rfl
    obtain ⟨hr1, hto⟩ := hr1
    obtain ⟨tc1, htc1⟩ : ∃ x, x = (tAsk σ (((gp / 1000) % 10)) (gp / 10 % 100) (0) ((gp % 10))) := ⟨_, rfl⟩
    rw [← htc1] at hr1 hto
    rcases tc1 with _ | σ9
    · obtain rfl : r1 = nI 0 := hr1
      obtain ⟨hTr, hf2⟩ := hto
      have hO := hO.kept (hf2.2 _ (by omega))
      have hf := hf.step hf2 (by omega)
      refine j_zret hx hb hr hlocks hH hw (Or.inl rfl) dX4_runGroup_106 ?_
      have e9 : doG σ gp = none := by unfold doG; rw [hw9]; first | exact htc1.symm | exact (if_pos (by omega)).trans htc1.symm | exact if_neg (by omega)
      exact ⟨_, rfl, by rw [e9]; rfl, by rw [e9]; exact hTr, hf⟩
    · obtain rfl : r1 = nI 1 := hr1
      obtain ⟨hTr, hf2⟩ := hto
      have hO := hO.kept (hf2.2 _ (by omega))
      have hf := hf.step hf2 (by omega)
      refine j_zret hx hb hr hlocks hH hw (Or.inr rfl) dX4_runGroup_106 ?_
      have e9 : doG σ gp = some σ9 := by unfold doG; rw [hw9]; first | exact htc1.symm | exact (if_pos (by omega)).trans htc1.symm | exact if_neg (by omega)
      exact ⟨_, rfl, by rw [e9]; rfl, by rw [e9]; exact hTr, hf⟩
  · refine j_eq (y := nI 2) (congrArg nI hw9) ?_
    refine lv_tableIn (tgt := 107) hx hb dX4_runGroup_37 (by decide) (by decide) (off := 70) (by decide) (by decide) ?_
    refine lv_iload hx hb dX4_runGroup_107 (lv_at hl 1 rfl) ?_
    refine jz_ne (tgt := 137) hx hb dX4_runGroup_109 (by decide) (by omega) (fun c109 => ?_) (fun c109 => ?_)
    · refine lv_iconst (v := (nI (0))) hx hb dX4_runGroup_137 (by decide) ?_
      refine j_zret hx hb hr hlocks hH hw (Or.inl rfl) dX4_runGroup_138 ?_
      have e9 : doG σ gp = none := by unfold doG; rw [hw9]; first | exact htc1.symm | exact (if_pos (by omega)).trans htc1.symm | exact if_neg (by omega)
      exact ⟨_, rfl, by rw [e9]; rfl, by rw [e9]; exact hTr, hf⟩
    · refine lv_iload hx hb dX4_runGroup_112 (lv_at hl 0 rfl) ?_
      refine jz_ne (tgt := 137) hx hb dX4_runGroup_114 (by decide) (by omega) (fun c114 => ?_) (fun c114 => ?_)
      · refine lv_iconst (v := (nI (0))) hx hb dX4_runGroup_137 (by decide) ?_
        refine j_zret hx hb hr hlocks hH hw (Or.inl rfl) dX4_runGroup_138 ?_
        have e9 : doG σ gp = none := by unfold doG; rw [hw9]; first | exact htc1.symm | exact (if_pos (by omega)).trans htc1.symm | exact if_neg (by omega)
        exact ⟨_, rfl, by rw [e9]; rfl, by rw [e9]; exact hTr, hf⟩
      · refine lv_aload_n hx hb dX4_runGroup_117 rfl (lv_at hl 4 rfl) ?_
        refine j_get (T := TX4) (N := 6) (k := 2) hx hb hts hinX4 hown hw hO rfl (by decide) (hts (.fieldLink RX4 23 "NightTrains" "trial" "LNightTrains$Store;") (by decide +kernel)) rfl dX4_runGroup_118 ?_
        refine lv_bipush (v := (nI (10))) hx hb dX4_runGroup_121 (by decide) ?_
        refine lv_iload_n hx hb dX4_runGroup_123 rfl (lv_at hl 3 rfl) ?_
        refine j_mulN hx hb dX4_runGroup_124 ?_
        refine lv_iload_n hx hb dX4_runGroup_125 rfl (lv_at hl 2 rfl) ?_
        refine j_addN hx hb dX4_runGroup_126 ?_
        refine j_eq (y := nI (gp / 100 % 100)) (congrArg nI (by omega)) ?_
        refine j_Vi (n := 1) (As := [.int (nI (gp / 100 % 100))]) hx hb hml hown hts hw (j_recv hw hTr.obj rfl) (c_X2_dropIfAllowed l g z H0 (A + 15) (gp / 100 % 100) σ (by omega) hTr hs (by first | assumption | omega)) gX4_runGroup_X2_dropIfAllowed rfl (by decide +kernel) ⟨Nat.le_of_ble_eq_true rfl, Nat.le_of_ble_eq_true rfl⟩ rfl hl.1 (Nat.le_of_ble_eq_true rfl) ⟨Nat.zero_le _, Nat.zero_le _⟩ dX4_runGroup_127 (fun r2 H locs hr2 hw hsz => ?_) rfl
        obtain ⟨hr2, hto⟩ := hr2
        obtain ⟨tc2, htc2⟩ : ∃ x, x = (tCancel σ (gp / 100 % 100)) := ⟨_, rfl⟩
        rw [← htc2] at hr2 hto
        rcases tc2 with _ | σ9
        · obtain rfl : r2 = nI 0 := hr2
          obtain ⟨hTr, hf2⟩ := hto
          have hO := hO.kept (hf2.2 _ (by omega))
          have hf := hf.step hf2 (by omega)
          refine jz_eq (tgt := 137) hx hb dX4_runGroup_130 (by decide) (by omega) (fun c130 => ?_) (fun c130 => absurd c130 (by omega))
          refine lv_iconst (v := (nI (0))) hx hb dX4_runGroup_137 (by decide) ?_
          refine j_zret hx hb hr hlocks hH hw (Or.inl rfl) dX4_runGroup_138 ?_
          have e9 : doG σ gp = none := by unfold doG; rw [hw9]; first | exact htc2.symm | exact (if_pos (by omega)).trans htc2.symm | exact if_neg (by omega)
          exact ⟨_, rfl, by rw [e9]; rfl, by rw [e9]; exact hTr, hf⟩
        · obtain rfl : r2 = nI 1 := hr2
          obtain ⟨hTr, hf2⟩ := hto
          have hO := hO.kept (hf2.2 _ (by omega))
          have hf := hf.step hf2 (by omega)
          refine jz_eq (tgt := 137) hx hb dX4_runGroup_130 (by decide) (by omega) (fun c130 => absurd c130 (by omega)) (fun c130 => ?_)
          refine lv_iconst (v := (nI (1))) hx hb dX4_runGroup_133 (by decide) ?_
          refine lv_goto (tgt := 138) hx hb dX4_runGroup_134 (by decide) ?_
          refine j_zret hx hb hr hlocks hH hw (Or.inr rfl) dX4_runGroup_138 ?_
          have e9 : doG σ gp = some σ9 := by unfold doG; rw [hw9]; first | exact htc2.symm | exact (if_pos (by omega)).trans htc2.symm | exact if_neg (by omega)
          exact ⟨_, rfl, by rw [e9]; rfl, by rw [e9]; exact hTr, hf⟩
  · refine j_eq (y := nI 3) (congrArg nI hw9) ?_
    refine lv_tableIn (tgt := 139) hx hb dX4_runGroup_37 (by decide) (by decide) (off := 102) (by decide) (by decide) ?_
    refine lv_iload hx hb dX4_runGroup_139 (lv_at hl 1 rfl) ?_
    refine jz_ne (tgt := 166) hx hb dX4_runGroup_141 (by decide) (by omega) (fun c141 => ?_) (fun c141 => ?_)
    · refine lv_iconst (v := (nI (0))) hx hb dX4_runGroup_166 (by decide) ?_
      refine j_zret hx hb hr hlocks hH hw (Or.inl rfl) dX4_runGroup_167 ?_
      have e9 : doG σ gp = none := by unfold doG; rw [hw9]; first | exact htc1.symm | exact (if_pos (by omega)).trans htc1.symm | exact if_neg (by omega)
      exact ⟨_, rfl, by rw [e9]; rfl, by rw [e9]; exact hTr, hf⟩
    · refine lv_aload_n hx hb dX4_runGroup_144 rfl (lv_at hl 4 rfl) ?_
      refine j_get (T := TX4) (N := 6) (k := 2) hx hb hts hinX4 hown hw hO rfl (by decide) (hts (.fieldLink RX4 23 "NightTrains" "trial" "LNightTrains$Store;") (by decide +kernel)) rfl dX4_runGroup_145 ?_
      refine lv_bipush (v := (nI (10))) hx hb dX4_runGroup_148 (by decide) ?_
      refine lv_iload_n hx hb dX4_runGroup_150 rfl (lv_at hl 3 rfl) ?_
      refine j_mulN hx hb dX4_runGroup_151 ?_
      refine lv_iload_n hx hb dX4_runGroup_152 rfl (lv_at hl 2 rfl) ?_
      refine j_addN hx hb dX4_runGroup_153 ?_
      refine j_eq (y := nI (gp / 100 % 100)) (congrArg nI (by omega)) ?_
      refine lv_iload hx hb dX4_runGroup_154 (lv_at hl 0 rfl) ?_
      refine j_eq (y := nI (gp % 100)) (congrArg nI (by omega)) ?_
      refine j_Vi (n := 2) (As := [.int (nI (gp / 100 % 100)), .int (nI (gp % 100))]) hx hb hml hown hts hw (j_recv hw hTr.obj rfl) (c_X2_liftIfAllowed l g z H0 (A + 15) (gp / 100 % 100) (gp % 100) σ (by omega) hTr hs (by first | assumption | omega) (by first | assumption | omega)) gX4_runGroup_X2_liftIfAllowed rfl (by decide +kernel) ⟨Nat.le_of_ble_eq_true rfl, Nat.le_of_ble_eq_true rfl⟩ rfl hl.1 (Nat.le_of_ble_eq_true rfl) ⟨Nat.zero_le _, Nat.zero_le _⟩ dX4_runGroup_156 (fun r3 H locs hr3 hw hsz => ?_) rfl
      obtain ⟨hr3, hto⟩ := hr3
      obtain ⟨tc3, htc3⟩ : ∃ x, x = (tRaise σ (gp / 100 % 100) (gp % 100)) := ⟨_, rfl⟩
      rw [← htc3] at hr3 hto
      rcases tc3 with _ | σ9
      · obtain rfl : r3 = nI 0 := hr3
        obtain ⟨hTr, hf2⟩ := hto
        have hO := hO.kept (hf2.2 _ (by omega))
        have hf := hf.step hf2 (by omega)
        refine jz_eq (tgt := 166) hx hb dX4_runGroup_159 (by decide) (by omega) (fun c159 => ?_) (fun c159 => absurd c159 (by omega))
        refine lv_iconst (v := (nI (0))) hx hb dX4_runGroup_166 (by decide) ?_
        refine j_zret hx hb hr hlocks hH hw (Or.inl rfl) dX4_runGroup_167 ?_
        have e9 : doG σ gp = none := by unfold doG; rw [hw9]; first | exact htc3.symm | exact (if_pos (by omega)).trans htc3.symm | exact if_neg (by omega)
        exact ⟨_, rfl, by rw [e9]; rfl, by rw [e9]; exact hTr, hf⟩
      · obtain rfl : r3 = nI 1 := hr3
        obtain ⟨hTr, hf2⟩ := hto
        have hO := hO.kept (hf2.2 _ (by omega))
        have hf := hf.step hf2 (by omega)
        refine jz_eq (tgt := 166) hx hb dX4_runGroup_159 (by decide) (by omega) (fun c159 => absurd c159 (by omega)) (fun c159 => ?_)
        refine lv_iconst (v := (nI (1))) hx hb dX4_runGroup_162 (by decide) ?_
        refine lv_goto (tgt := 167) hx hb dX4_runGroup_163 (by decide) ?_
        refine j_zret hx hb hr hlocks hH hw (Or.inr rfl) dX4_runGroup_167 ?_
        have e9 : doG σ gp = some σ9 := by unfold doG; rw [hw9]; first | exact htc3.symm | exact (if_pos (by omega)).trans htc3.symm | exact if_neg (by omega)
        exact ⟨_, rfl, by rw [e9]; rfl, by rw [e9]; exact hTr, hf⟩
  · refine j_eq (y := nI 4) (congrArg nI hw9) ?_
    refine lv_tableIn (tgt := 168) hx hb dX4_runGroup_37 (by decide) (by decide) (off := 131) (by decide) (by decide) ?_
    refine lv_iload_n hx hb dX4_runGroup_168 rfl (lv_at hl 3 rfl) ?_
    refine jz_ne (tgt := 190) hx hb dX4_runGroup_169 (by decide) (by omega) (fun c169 => ?_) (fun c169 => ?_)
    · refine lv_iconst (v := (nI (0))) hx hb dX4_runGroup_190 (by decide) ?_
      refine j_zret hx hb hr hlocks hH hw (Or.inl rfl) dX4_runGroup_191 ?_
      have e9 : doG σ gp = none := by unfold doG; rw [hw9]; first | exact if_neg (by omega) | (show (if gp / 100 % 100 = 0 then (if 1 ≤ gp % 100 ∧ gp % 100 < 31 then some (nightsS (gp % 100) σ) else none) else none) = _; rw [if_pos (show gp / 100 % 100 = 0 by omega)]; exact if_neg hn9)
      exact ⟨_, rfl, by rw [e9]; rfl, by rw [e9]; exact hTr, hf⟩
    · refine lv_iload_n hx hb dX4_runGroup_172 rfl (lv_at hl 2 rfl) ?_
      refine jz_ne (tgt := 190) hx hb dX4_runGroup_173 (by decide) (by omega) (fun c173 => ?_) (fun c173 => ?_)
      · refine lv_iconst (v := (nI (0))) hx hb dX4_runGroup_190 (by decide) ?_
        refine j_zret hx hb hr hlocks hH hw (Or.inl rfl) dX4_runGroup_191 ?_
        have e9 : doG σ gp = none := by unfold doG; rw [hw9]; first | exact if_neg (by omega) | (show (if gp / 100 % 100 = 0 then (if 1 ≤ gp % 100 ∧ gp % 100 < 31 then some (nightsS (gp % 100) σ) else none) else none) = _; rw [if_pos (show gp / 100 % 100 = 0 by omega)]; exact if_neg hn9)
        exact ⟨_, rfl, by rw [e9]; rfl, by rw [e9]; exact hTr, hf⟩
      · refine lv_bipush (v := (nI (10))) hx hb dX4_runGroup_176 (by decide) ?_
        refine lv_iload hx hb dX4_runGroup_178 (lv_at hl 1 rfl) ?_
        refine j_mulN hx hb dX4_runGroup_180 ?_
        refine lv_iload hx hb dX4_runGroup_181 (lv_at hl 0 rfl) ?_
        refine j_addN hx hb dX4_runGroup_183 ?_
        refine j_eq (y := nI (gp % 100)) (congrArg nI (by omega)) ?_
        refine j_Sp (n := 1) (As := [.int (nI (gp % 100))]) hx hb hml hown hts hw (c_X4_isNights l g z H0 (nI (gp % 100))   ) gX4_runGroup_X4_isNights rfl (by decide +kernel) ⟨Nat.le_of_ble_eq_true rfl, Nat.le_of_ble_eq_true rfl⟩ rfl hl.1 (Nat.le_of_ble_eq_true rfl) ⟨Nat.zero_le _, Nat.zero_le _⟩ dX4_runGroup_184 (fun r4 locs hr4 hw => ?_) rfl
        rcases ixN (by omega) (by decide) hr4 with ⟨rfl, hn9⟩ | ⟨rfl, hn9⟩
        · refine jz_ne (tgt := 192) hx hb dX4_runGroup_187 (by decide) (by omega) (fun c187 => ?_) (fun c187 => absurd c187 (by omega))
          refine lv_aload_n hx hb dX4_runGroup_192 rfl (lv_at hl 4 rfl) ?_
          refine j_get (T := TX4) (N := 6) (k := 2) hx hb hts hinX4 hown hw hO rfl (by decide) (hts (.fieldLink RX4 23 "NightTrains" "trial" "LNightTrains$Store;") (by decide +kernel)) rfl dX4_runGroup_193 ?_
          refine lv_bipush (v := (nI (10))) hx hb dX4_runGroup_196 (by decide) ?_
          refine lv_iload hx hb dX4_runGroup_198 (lv_at hl 1 rfl) ?_
          refine j_mulN hx hb dX4_runGroup_200 ?_
          refine lv_iload hx hb dX4_runGroup_201 (lv_at hl 0 rfl) ?_
          refine j_addN hx hb dX4_runGroup_203 ?_
          refine j_eq (y := nI (gp % 100)) (congrArg nI (by omega)) ?_
          refine j_Vv (n := 1) (As := [.int (nI (gp % 100))]) hx hb hml hown hts hw (j_recv hw hTr.obj rfl) (c_X2_passNights l g z H0 (A + 15) (gp % 100) σ (by omega) hTr hs hcalm (by first | assumption | omega) (by first | assumption | omega)) gX4_runGroup_X2_passNights rfl (by decide +kernel) ⟨Nat.le_of_ble_eq_true rfl, Nat.le_of_ble_eq_true rfl⟩ rfl hl.1 (Nat.le_of_ble_eq_true rfl) ⟨Nat.zero_le _, Nat.zero_le _⟩ dX4_runGroup_204 (fun H locs hr5 hw hsz => ?_) rfl
          obtain ⟨hTr, hf2⟩ := hr5
          have hO := hO.kept (hf2.2 _ (by omega))
          have hf := hf.step hf2 (by omega)
          refine lv_iconst (v := (nI (1))) hx hb dX4_runGroup_207 (by decide) ?_
          refine j_zret hx hb hr hlocks hH hw (Or.inr rfl) dX4_runGroup_208 ?_
          have e9 : doG σ gp = some (nightsS (gp % 100) σ) := by unfold doG; rw [hw9]; show (if gp / 100 % 100 = 0 then (if 1 ≤ gp % 100 ∧ gp % 100 < 31 then some (nightsS (gp % 100) σ) else none) else none) = _; rw [if_pos (show gp / 100 % 100 = 0 by omega)]; exact if_pos (by omega)
          exact ⟨_, rfl, by rw [e9]; rfl, by rw [e9]; exact hTr, hf⟩
        · refine jz_ne (tgt := 192) hx hb dX4_runGroup_187 (by decide) (by omega) (fun c187 => absurd c187 (by omega)) (fun c187 => ?_)
          refine lv_iconst (v := (nI (0))) hx hb dX4_runGroup_190 (by decide) ?_
          refine j_zret hx hb hr hlocks hH hw (Or.inl rfl) dX4_runGroup_191 ?_
          have e9 : doG σ gp = none := by unfold doG; rw [hw9]; first | exact if_neg (by omega) | (show (if gp / 100 % 100 = 0 then (if 1 ≤ gp % 100 ∧ gp % 100 < 31 then some (nightsS (gp % 100) σ) else none) else none) = _; rw [if_pos (show gp / 100 % 100 = 0 by omega)]; exact if_neg hn9)
          exact ⟨_, rfl, by rw [e9]; rfl, by rw [e9]; exact hTr, hf⟩
  · refine j_eq (y := nI 5) (congrArg nI hw9) ?_
    refine lv_tableIn (tgt := 209) hx hb dX4_runGroup_37 (by decide) (by decide) (off := 172) (by decide) (by decide) ?_
    refine lv_iload_n hx hb dX4_runGroup_209 rfl (lv_at hl 2 rfl) ?_
    refine jz_ne (tgt := 235) hx hb dX4_runGroup_210 (by decide) (by omega) (fun c210 => ?_) (fun c210 => ?_)
    · refine lv_iconst (v := (nI (0))) hx hb dX4_runGroup_235 (by decide) ?_
      refine j_zret hx hb hr hlocks hH hw (Or.inl rfl) dX4_runGroup_236 ?_
      have e9 : doG σ gp = none := by unfold doG; rw [hw9]; first | exact htc1.symm | exact (if_pos (by omega)).trans htc1.symm | exact if_neg (by omega)
      exact ⟨_, rfl, by rw [e9]; rfl, by rw [e9]; exact hTr, hf⟩
    · refine lv_iload hx hb dX4_runGroup_213 (lv_at hl 0 rfl) ?_
      refine jz_ne (tgt := 235) hx hb dX4_runGroup_215 (by decide) (by omega) (fun c215 => ?_) (fun c215 => ?_)
      · refine lv_iconst (v := (nI (0))) hx hb dX4_runGroup_235 (by decide) ?_
        refine j_zret hx hb hr hlocks hH hw (Or.inl rfl) dX4_runGroup_236 ?_
        have e9 : doG σ gp = none := by unfold doG; rw [hw9]; first | exact htc1.symm | exact (if_pos (by omega)).trans htc1.symm | exact if_neg (by omega)
        exact ⟨_, rfl, by rw [e9]; rfl, by rw [e9]; exact hTr, hf⟩
      · refine lv_aload_n hx hb dX4_runGroup_218 rfl (lv_at hl 4 rfl) ?_
        refine j_get (T := TX4) (N := 6) (k := 2) hx hb hts hinX4 hown hw hO rfl (by decide) (hts (.fieldLink RX4 23 "NightTrains" "trial" "LNightTrains$Store;") (by decide +kernel)) rfl dX4_runGroup_219 ?_
        refine lv_iload_n hx hb dX4_runGroup_222 rfl (lv_at hl 3 rfl) ?_
        refine lv_iload hx hb dX4_runGroup_223 (lv_at hl 1 rfl) ?_
        refine j_eq (y := nI (gp % 100 / 10)) (congrArg nI (by omega)) ?_
        refine j_Vi (n := 2) (As := [.int (nI (((gp / 1000) % 10))), .int (nI (gp % 100 / 10))]) hx hb hml hown hts hw (j_recv hw hTr.obj rfl) (c_X2_changeIfAllowed l g z H0 (A + 15) (((gp / 1000) % 10)) (gp % 100 / 10) σ (by omega) hTr (by first | assumption | omega) (by first | assumption | omega)) gX4_runGroup_X2_changeIfAllowed rfl (by decide +kernel) ⟨Nat.le_of_ble_eq_true rfl, Nat.le_of_ble_eq_true rfl⟩ rfl hl.1 (Nat.le_of_ble_eq_true rfl) ⟨Nat.zero_le _, Nat.zero_le _⟩ dX4_runGroup_225 (fun r6 H locs hr6 hw hsz => ?_) rfl
        obtain ⟨hr6, hto⟩ := hr6
        obtain ⟨tc4, htc4⟩ : ∃ x, x = (tSet σ (((gp / 1000) % 10)) (gp % 100 / 10)) := ⟨_, rfl⟩
        rw [← htc4] at hr6 hto
        rcases tc4 with _ | σ9
        · obtain rfl : r6 = nI 0 := hr6
          obtain ⟨hTr, hf2⟩ := hto
          have hO := hO.kept (hf2.2 _ (by omega))
          have hf := hf.step hf2 (by omega)
          refine jz_eq (tgt := 235) hx hb dX4_runGroup_228 (by decide) (by omega) (fun c228 => ?_) (fun c228 => absurd c228 (by omega))
          refine lv_iconst (v := (nI (0))) hx hb dX4_runGroup_235 (by decide) ?_
          refine j_zret hx hb hr hlocks hH hw (Or.inl rfl) dX4_runGroup_236 ?_
          have e9 : doG σ gp = none := by unfold doG; rw [hw9]; first | exact htc4.symm | exact (if_pos (by omega)).trans htc4.symm | exact if_neg (by omega)
          exact ⟨_, rfl, by rw [e9]; rfl, by rw [e9]; exact hTr, hf⟩
        · obtain rfl : r6 = nI 1 := hr6
          obtain ⟨hTr, hf2⟩ := hto
          have hO := hO.kept (hf2.2 _ (by omega))
          have hf := hf.step hf2 (by omega)
          refine jz_eq (tgt := 235) hx hb dX4_runGroup_228 (by decide) (by omega) (fun c228 => absurd c228 (by omega)) (fun c228 => ?_)
          refine lv_iconst (v := (nI (1))) hx hb dX4_runGroup_231 (by decide) ?_
          refine lv_goto (tgt := 236) hx hb dX4_runGroup_232 (by decide) ?_
          refine j_zret hx hb hr hlocks hH hw (Or.inr rfl) dX4_runGroup_236 ?_
          have e9 : doG σ gp = some σ9 := by unfold doG; rw [hw9]; first | exact htc4.symm | exact (if_pos (by omega)).trans htc4.symm | exact if_neg (by omega)
          exact ⟨_, rfl, by rw [e9]; rfl, by rw [e9]; exact hTr, hf⟩
  · refine j_eq (y := nI 6) (congrArg nI hw9) ?_
    refine lv_tableIn (tgt := 237) hx hb dX4_runGroup_37 (by decide) (by decide) (off := 200) (by decide) (by decide) ?_
    refine lv_iload hx hb dX4_runGroup_237 (lv_at hl 1 rfl) ?_
    refine jz_ne (tgt := 291) hx hb dX4_runGroup_239 (by decide) (by omega) (fun c239 => ?_) (fun c239 => ?_)
    · refine lv_iconst (v := (nI (0))) hx hb dX4_runGroup_291 (by decide) ?_
      refine j_zret hx hb hr hlocks hH hw (Or.inl rfl) dX4_runGroup_292 ?_
      have e9 : doG σ gp = none := by unfold doG; rw [hw9]; first | exact if_neg (by omega) | exact if_neg (fun q => by have q1 := q.1; have q2 := q.2.1; clear q; omega)
      exact ⟨_, rfl, by rw [e9]; rfl, by rw [e9]; exact hTr, hf⟩
    · refine lv_iload hx hb dX4_runGroup_242 (lv_at hl 0 rfl) ?_
      refine lv_iconst (v := (nI (1))) hx hb dX4_runGroup_244 (by decide) ?_
      refine jn_gt (tgt := 291) hx hb dX4_runGroup_245 (by decide) (by omega) (by omega) (fun c245 => ?_) (fun c245 => ?_)
      · refine lv_iconst (v := (nI (0))) hx hb dX4_runGroup_291 (by decide) ?_
        refine j_zret hx hb hr hlocks hH hw (Or.inl rfl) dX4_runGroup_292 ?_
        have e9 : doG σ gp = none := by unfold doG; rw [hw9]; first | exact if_neg (by omega) | exact if_neg (fun q => by have q1 := q.1; have q2 := q.2.1; clear q; omega)
        exact ⟨_, rfl, by rw [e9]; rfl, by rw [e9]; exact hTr, hf⟩
      · refine lv_bipush (v := (nI (10))) hx hb dX4_runGroup_248 (by decide) ?_
        refine lv_iload_n hx hb dX4_runGroup_250 rfl (lv_at hl 3 rfl) ?_
        refine j_mulN hx hb dX4_runGroup_251 ?_
        refine lv_iload_n hx hb dX4_runGroup_252 rfl (lv_at hl 2 rfl) ?_
        refine j_addN hx hb dX4_runGroup_253 ?_
        refine j_eq (y := nI (gp / 100 % 100)) (congrArg nI (by omega)) ?_
        refine j_Sp (n := 1) (As := [.int (nI (gp / 100 % 100))]) hx hb hml hown hts hw (c_X4_isLot l g z H0 (nI (gp / 100 % 100))   ) gX4_runGroup_X4_isLot rfl (by decide +kernel) ⟨Nat.le_of_ble_eq_true rfl, Nat.le_of_ble_eq_true rfl⟩ rfl hl.1 (Nat.le_of_ble_eq_true rfl) ⟨Nat.zero_le _, Nat.zero_le _⟩ dX4_runGroup_254 (fun r7 locs hr7 hw => ?_) rfl
        rcases ixN (by omega) (by decide) hr7 with ⟨rfl, hlt9⟩ | ⟨rfl, hlt9⟩
        · refine jz_eq (tgt := 291) hx hb dX4_runGroup_257 (by decide) (by omega) (fun c257 => absurd c257 (by omega)) (fun c257 => ?_)
          refine lv_aload_n hx hb dX4_runGroup_260 rfl (lv_at hl 4 rfl) ?_
          refine j_get (T := TX4) (N := 6) (k := 2) hx hb hts hinX4 hown hw hO rfl (by decide) (hts (.fieldLink RX4 23 "NightTrains" "trial" "LNightTrains$Store;") (by decide +kernel)) rfl dX4_runGroup_261 ?_
          refine lv_bipush (v := (nI (10))) hx hb dX4_runGroup_264 (by decide) ?_
          refine lv_iload_n hx hb dX4_runGroup_266 rfl (lv_at hl 3 rfl) ?_
          refine j_mulN hx hb dX4_runGroup_267 ?_
          refine lv_iload_n hx hb dX4_runGroup_268 rfl (lv_at hl 2 rfl) ?_
          refine j_addN hx hb dX4_runGroup_269 ?_
          refine j_eq (y := nI (gp / 100 % 100)) (congrArg nI (by omega)) ?_
          refine j_Vp (n := 1) (As := [.int (nI (gp / 100 % 100))]) hx hb hml hown hts hw (j_recv hw hTr.obj rfl) (c_X2_isInFront l g z H0 (A + 15) (gp / 100 % 100) σ (opnR σ) (by omega) hTr hs (by first | assumption | omega)) gX4_runGroup_X2_isInFront rfl (by decide +kernel) ⟨Nat.le_of_ble_eq_true rfl, Nat.le_of_ble_eq_true rfl⟩ rfl hl.1 (Nat.le_of_ble_eq_true rfl) ⟨Nat.zero_le _, Nat.zero_le _⟩ dX4_runGroup_270 (fun r8 locs hfr9 hw => ?_) rfl
          rcases hfr9 with ⟨rfl, hfr9⟩ | ⟨rfl, hfr9⟩
          · refine lv_iload hx hb dX4_runGroup_273 (lv_at hl 0 rfl) ?_
            refine lv_iconst (v := (nI (1))) hx hb dX4_runGroup_275 (by decide) ?_
            refine jn_ne (tgt := 283) hx hb dX4_runGroup_276 (by decide) (by omega) (by omega) (fun c276 => ?_) (fun c276 => ?_)
            · refine lv_iconst (v := (nI (0))) hx hb dX4_runGroup_283 (by decide) ?_
              refine jn_ne (tgt := 291) hx hb dX4_runGroup_284 (by decide) (by omega) (by omega) (fun c284 => ?_) (fun c284 => absurd c284 (by omega))
              refine lv_iconst (v := (nI (0))) hx hb dX4_runGroup_291 (by decide) ?_
              refine j_zret hx hb hr hlocks hH hw (Or.inl rfl) dX4_runGroup_292 ?_
              have e9 : doG σ gp = none := by unfold doG; rw [hw9]; first | exact if_neg (by omega) | exact if_neg (fun q => by have q1 := q.1; have q2 := q.2.1; clear q; omega)
              exact ⟨_, rfl, by rw [e9]; rfl, by rw [e9]; exact hTr, hf⟩
            · refine lv_iconst (v := (nI (1))) hx hb dX4_runGroup_279 (by decide) ?_
              refine lv_goto (tgt := 284) hx hb dX4_runGroup_280 (by decide) ?_
              refine jn_ne (tgt := 291) hx hb dX4_runGroup_284 (by decide) (by omega) (by omega) (fun c284 => absurd c284 (by omega)) (fun c284 => ?_)
              refine lv_iconst (v := (nI (1))) hx hb dX4_runGroup_287 (by decide) ?_
              refine lv_goto (tgt := 292) hx hb dX4_runGroup_288 (by decide) ?_
              refine j_zret hx hb hr hlocks hH hw (Or.inr rfl) dX4_runGroup_292 ?_
              have e9 : doG σ gp = some σ := by unfold doG; rw [hw9]; exact if_pos (by omega)
              exact ⟨_, rfl, by rw [e9]; rfl, by rw [e9]; exact hTr, hf⟩
          · refine lv_iload hx hb dX4_runGroup_273 (lv_at hl 0 rfl) ?_
            refine lv_iconst (v := (nI (1))) hx hb dX4_runGroup_275 (by decide) ?_
            refine jn_ne (tgt := 283) hx hb dX4_runGroup_276 (by decide) (by omega) (by omega) (fun c276 => ?_) (fun c276 => ?_)
            · refine lv_iconst (v := (nI (0))) hx hb dX4_runGroup_283 (by decide) ?_
              refine jn_ne (tgt := 291) hx hb dX4_runGroup_284 (by decide) (by omega) (by omega) (fun c284 => absurd c284 (by omega)) (fun c284 => ?_)
              refine lv_iconst (v := (nI (1))) hx hb dX4_runGroup_287 (by decide) ?_
              refine lv_goto (tgt := 292) hx hb dX4_runGroup_288 (by decide) ?_
              refine j_zret hx hb hr hlocks hH hw (Or.inr rfl) dX4_runGroup_292 ?_
              have e9 : doG σ gp = some σ := by unfold doG; rw [hw9]; exact if_pos (by omega)
              exact ⟨_, rfl, by rw [e9]; rfl, by rw [e9]; exact hTr, hf⟩
            · refine lv_iconst (v := (nI (1))) hx hb dX4_runGroup_279 (by decide) ?_
              refine lv_goto (tgt := 284) hx hb dX4_runGroup_280 (by decide) ?_
              refine jn_ne (tgt := 291) hx hb dX4_runGroup_284 (by decide) (by omega) (by omega) (fun c284 => ?_) (fun c284 => absurd c284 (by omega))
              refine lv_iconst (v := (nI (0))) hx hb dX4_runGroup_291 (by decide) ?_
              refine j_zret hx hb hr hlocks hH hw (Or.inl rfl) dX4_runGroup_292 ?_
              have e9 : doG σ gp = none := by unfold doG; rw [hw9]; first | exact if_neg (by omega) | exact if_neg (fun q => by have q1 := q.1; have q2 := q.2.1; clear q; omega)
              exact ⟨_, rfl, by rw [e9]; rfl, by rw [e9]; exact hTr, hf⟩
        · refine jz_eq (tgt := 291) hx hb dX4_runGroup_257 (by decide) (by omega) (fun c257 => ?_) (fun c257 => absurd c257 (by omega))
          refine lv_iconst (v := (nI (0))) hx hb dX4_runGroup_291 (by decide) ?_
          refine j_zret hx hb hr hlocks hH hw (Or.inl rfl) dX4_runGroup_292 ?_
          have e9 : doG σ gp = none := by unfold doG; rw [hw9]; first | exact if_neg (by omega) | exact if_neg (fun q => by have q1 := q.1; have q2 := q.2.1; clear q; omega)
          exact ⟨_, rfl, by rw [e9]; rfl, by rw [e9]; exact hTr, hf⟩
  · refine j_eq (y := nI 7) (congrArg nI hw9) ?_
    refine lv_tableIn (tgt := 293) hx hb dX4_runGroup_37 (by decide) (by decide) (off := 256) (by decide) (by decide) ?_
    refine lv_iload_n hx hb dX4_runGroup_293 rfl (lv_at hl 2 rfl) ?_
    refine jz_ne (tgt := 328) hx hb dX4_runGroup_294 (by decide) (by omega) (fun c294 => ?_) (fun c294 => ?_)
    · refine lv_iconst (v := (nI (0))) hx hb dX4_runGroup_328 (by decide) ?_
      refine j_zret hx hb hr hlocks hH hw (Or.inl rfl) dX4_runGroup_329 ?_
      have e9 : doG σ gp = none := by unfold doG; rw [hw9]; exact if_neg (fun q => by have q1 := q.1; have q2 := q.2.1; first | omega | exact absurd c321 (Int32.not_lt.mpr q.2.2))
      exact ⟨_, rfl, by rw [e9]; rfl, by rw [e9]; exact hTr, hf⟩
    · refine lv_iload_n hx hb dX4_runGroup_297 rfl (lv_at hl 3 rfl) ?_
      refine j_Sp (n := 1) (As := [.int (nI (((gp / 1000) % 10)))]) hx hb hml hown hts hw (c_X4_isReader l g z H0 (nI (((gp / 1000) % 10)))   ) gX4_runGroup_X4_isReader rfl (by decide +kernel) ⟨Nat.le_of_ble_eq_true rfl, Nat.le_of_ble_eq_true rfl⟩ rfl hl.1 (Nat.le_of_ble_eq_true rfl) ⟨Nat.zero_le _, Nat.zero_le _⟩ dX4_runGroup_298 (fun r9 locs hr9 hw => ?_) rfl
      rcases ixN (by omega) (by decide) hr9 with ⟨rfl, hrd9⟩ | ⟨rfl, hrd9⟩
      · refine jz_eq (tgt := 328) hx hb dX4_runGroup_301 (by decide) (by omega) (fun c301 => absurd c301 (by omega)) (fun c301 => ?_)
        refine lv_aload_n hx hb dX4_runGroup_304 rfl (lv_at hl 4 rfl) ?_
        refine j_get (T := TX4) (N := 6) (k := 2) hx hb hts hinX4 hown hw hO rfl (by decide) (hts (.fieldLink RX4 23 "NightTrains" "trial" "LNightTrains$Store;") (by decide +kernel)) rfl dX4_runGroup_305 ?_
        obtain ⟨ses10, pus10, dts10, las10, frs10, tks10, cts10, hOs10, hses10, hpus10, hdts10, hlas10, hfrs10, htks10, hops10, hlts10, hcts10, hSs10⟩ := hTr
        have hOs10 : jO g H0 (A + 15) 2 [.ref (A + 16), .ref (A + 17), .ref (A + 18), .ref (A + 19), .ref (A + 20), .ref (A + 21), .ref (A + 22), .ref (A + 24), .ref (A + 26)] := hOs10
        have hses10 : jI g H0 (A + 16) 5 ses10 := hses10
        have hpus10 : jI g H0 (A + 17) 4 pus10 := hpus10
        have hdts10 : jI g H0 (A + 18) 4 dts10 := hdts10
        have hlas10 : jI g H0 (A + 19) 4 las10 := hlas10
        have hfrs10 : jI g H0 (A + 20) 16 frs10 := hfrs10
        have htks10 : jI g H0 (A + 21) 16 tks10 := htks10
        have hcts10 : jI g H0 (A + 26) 11 cts10 := hcts10
        have hops10 : jOr g H0 (A + 22) (opnR σ) := hops10
        have hlts10 : jOr g H0 (A + 24) (latR σ) := hlts10
        refine j_get (T := TX2) (N := 9) (k := 2) hx hb hts hinX2 hown hw hOs10 rfl (by decide) (hts (.fieldLink RX4 167 "NightTrains$Store" "deliveredTo" "[I") (by decide +kernel)) rfl dX4_runGroup_308 ?_
        refine lv_iload_n hx hb dX4_runGroup_311 rfl (lv_at hl 3 rfl) ?_
        refine j_iald hx hb hw hdts10 (k := ((gp / 1000) % 10)) rfl (by omega) (by omega) dX4_runGroup_312 ?_
        refine j_eq (y := nI (σ.1 (50 + gp / 1000 % 10))) (hSs10.rdt (k := (gp / 1000 % 10)) (by omega)) ?_
        refine lv_bipush (v := (nI (10))) hx hb dX4_runGroup_313 (by decide) ?_
        refine lv_iload hx hb dX4_runGroup_315 (lv_at hl 1 rfl) ?_
        refine j_mulN hx hb dX4_runGroup_317 ?_
        refine lv_iload hx hb dX4_runGroup_318 (lv_at hl 0 rfl) ?_
        refine j_addN hx hb dX4_runGroup_320 ?_
        refine j_eq (y := nI (gp % 100)) (congrArg nI (by omega)) ?_
        refine lv_icmp_lt (tgt := 328) hx hb dX4_runGroup_321 (by decide) (fun c321 => ?_) (fun c321 => ?_)
        · refine lv_iconst (v := (nI (0))) hx hb dX4_runGroup_328 (by decide) ?_
          refine j_zret hx hb hr hlocks hH hw (Or.inl rfl) dX4_runGroup_329 ?_
          have hS11 : jSo g H0 (A + 15) σ (opnR σ) := ⟨ses10, pus10, dts10, las10, frs10, tks10, cts10, hOs10, hses10, hpus10, hdts10, hlas10, hfrs10, htks10, hops10, hlts10, hcts10, hSs10⟩
          have e9 : doG σ gp = none := by unfold doG; rw [hw9]; exact if_neg (fun q => by have q1 := q.1; have q2 := q.2.1; first | omega | exact absurd c321 (Int32.not_lt.mpr q.2.2))
          exact ⟨_, rfl, by rw [e9]; rfl, by rw [e9]; exact hS11, hf⟩
        · refine lv_iconst (v := (nI (1))) hx hb dX4_runGroup_324 (by decide) ?_
          refine lv_goto (tgt := 329) hx hb dX4_runGroup_325 (by decide) ?_
          refine j_zret hx hb hr hlocks hH hw (Or.inr rfl) dX4_runGroup_329 ?_
          have hS12 : jSo g H0 (A + 15) σ (opnR σ) := ⟨ses10, pus10, dts10, las10, frs10, tks10, cts10, hOs10, hses10, hpus10, hdts10, hlas10, hfrs10, htks10, hops10, hlts10, hcts10, hSs10⟩
          have e9 : doG σ gp = some σ := by unfold doG; rw [hw9]; exact if_pos ⟨by omega, by omega, Int32.not_lt.mp c321⟩
          exact ⟨_, rfl, by rw [e9]; rfl, by rw [e9]; exact hS12, hf⟩
      · refine jz_eq (tgt := 328) hx hb dX4_runGroup_301 (by decide) (by omega) (fun c301 => ?_) (fun c301 => absurd c301 (by omega))
        refine lv_iconst (v := (nI (0))) hx hb dX4_runGroup_328 (by decide) ?_
        refine j_zret hx hb hr hlocks hH hw (Or.inl rfl) dX4_runGroup_329 ?_
        have e9 : doG σ gp = none := by unfold doG; rw [hw9]; exact if_neg (fun q => by have q1 := q.1; have q2 := q.2.1; first | omega | exact absurd c321 (Int32.not_lt.mpr q.2.2))
        exact ⟨_, rfl, by rw [e9]; rfl, by rw [e9]; exact hTr, hf⟩
  · refine j_eq (y := nI 8) (congrArg nI hw9) ?_
    refine lv_tableIn (tgt := 330) hx hb dX4_runGroup_37 (by decide) (by decide) (off := 293) (by decide) (by decide) ?_
    refine lv_iload_n hx hb dX4_runGroup_330 rfl (lv_at hl 3 rfl) ?_
    refine jz_ne (tgt := 361) hx hb dX4_runGroup_331 (by decide) (by omega) (fun c331 => ?_) (fun c331 => ?_)
    · refine lv_iconst (v := (nI (0))) hx hb dX4_runGroup_361 (by decide) ?_
      refine j_zret hx hb hr hlocks hH hw (Or.inl rfl) dX4_runGroup_362 ?_
      have e9 : doG σ gp = none := by unfold doG; rw [hw9]; exact if_neg (fun q => by have q1 := q.1; first | omega | exact absurd c354 (Int32.not_lt.mpr q.2))
      exact ⟨_, rfl, by rw [e9]; rfl, by rw [e9]; exact hTr, hf⟩
    · refine lv_iload_n hx hb dX4_runGroup_334 rfl (lv_at hl 2 rfl) ?_
      refine jz_ne (tgt := 361) hx hb dX4_runGroup_335 (by decide) (by omega) (fun c335 => ?_) (fun c335 => ?_)
      · refine lv_iconst (v := (nI (0))) hx hb dX4_runGroup_361 (by decide) ?_
        refine j_zret hx hb hr hlocks hH hw (Or.inl rfl) dX4_runGroup_362 ?_
        have e9 : doG σ gp = none := by unfold doG; rw [hw9]; exact if_neg (fun q => by have q1 := q.1; first | omega | exact absurd c354 (Int32.not_lt.mpr q.2))
        exact ⟨_, rfl, by rw [e9]; rfl, by rw [e9]; exact hTr, hf⟩
      · refine lv_aload_n hx hb dX4_runGroup_338 rfl (lv_at hl 4 rfl) ?_
        refine j_get (T := TX4) (N := 6) (k := 2) hx hb hts hinX4 hown hw hO rfl (by decide) (hts (.fieldLink RX4 23 "NightTrains" "trial" "LNightTrains$Store;") (by decide +kernel)) rfl dX4_runGroup_339 ?_
        refine lv_iconst (v := (nI (3))) hx hb dX4_runGroup_342 (by decide) ?_
        refine j_Vp (n := 1) (As := [.int (nI (3))]) hx hb hml hown hts hw (j_recv hw hTr.obj rfl) (c_X2_number l g z H0 (A + 15) (3) σ (by omega) hTr hs (by first | assumption | omega)) gX4_runGroup_X2_number rfl (by decide +kernel) ⟨Nat.le_of_ble_eq_true rfl, Nat.le_of_ble_eq_true rfl⟩ rfl hl.1 (Nat.le_of_ble_eq_true rfl) ⟨Nat.zero_le _, Nat.zero_le _⟩ dX4_runGroup_343 (fun r13 locs hr13 hw => ?_) rfl
        obtain rfl : r13 = (nI ((σ.1 8))) := hr13.trans rfl
        refine lv_bipush (v := (nI (10))) hx hb dX4_runGroup_346 (by decide) ?_
        refine lv_iload hx hb dX4_runGroup_348 (lv_at hl 1 rfl) ?_
        refine j_mulN hx hb dX4_runGroup_350 ?_
        refine lv_iload hx hb dX4_runGroup_351 (lv_at hl 0 rfl) ?_
        refine j_addN hx hb dX4_runGroup_353 ?_
        refine j_eq (y := nI (gp % 100)) (congrArg nI (by omega)) ?_
        refine lv_icmp_gt (tgt := 361) hx hb dX4_runGroup_354 (by decide) (fun c354 => ?_) (fun c354 => ?_)
        · refine lv_iconst (v := (nI (0))) hx hb dX4_runGroup_361 (by decide) ?_
          refine j_zret hx hb hr hlocks hH hw (Or.inl rfl) dX4_runGroup_362 ?_
          have e9 : doG σ gp = none := by unfold doG; rw [hw9]; exact if_neg (fun q => by have q1 := q.1; first | omega | exact absurd c354 (Int32.not_lt.mpr q.2))
          exact ⟨_, rfl, by rw [e9]; rfl, by rw [e9]; exact hTr, hf⟩
        · refine lv_iconst (v := (nI (1))) hx hb dX4_runGroup_357 (by decide) ?_
          refine lv_goto (tgt := 362) hx hb dX4_runGroup_358 (by decide) ?_
          refine j_zret hx hb hr hlocks hH hw (Or.inr rfl) dX4_runGroup_362 ?_
          have e9 : doG σ gp = some σ := by unfold doG; rw [hw9]; exact if_pos ⟨by omega, Int32.not_lt.mp c354⟩
          exact ⟨_, rfl, by rw [e9]; rfl, by rw [e9]; exact hTr, hf⟩
  · refine j_eq (y := nI 9) (congrArg nI hw9) ?_
    refine lv_tableIn (tgt := 363) hx hb dX4_runGroup_37 (by decide) (by decide) (off := 326) (by decide) (by decide) ?_
    refine lv_iload_n hx hb dX4_runGroup_363 rfl (lv_at hl 3 rfl) ?_
    refine jz_ne (tgt := 387) hx hb dX4_runGroup_364 (by decide) (by omega) (fun c364 => ?_) (fun c364 => ?_)
    · refine lv_iconst (v := (nI (0))) hx hb dX4_runGroup_387 (by decide) ?_
      refine j_zret hx hb hr hlocks hH hw (Or.inl rfl) dX4_runGroup_388 ?_
      have e9 : doG σ gp = none := by unfold doG; rw [hw9]; exact if_neg (fun q => by have q1 := q.1; first | omega | exact absurd c380 (Int32.not_lt.mpr q.2))
      exact ⟨_, rfl, by rw [e9]; rfl, by rw [e9]; exact hTr, hf⟩
    · refine lv_aload_n hx hb dX4_runGroup_367 rfl (lv_at hl 4 rfl) ?_
      refine j_get (T := TX4) (N := 6) (k := 2) hx hb hts hinX4 hown hw hO rfl (by decide) (hts (.fieldLink RX4 23 "NightTrains" "trial" "LNightTrains$Store;") (by decide +kernel)) rfl dX4_runGroup_368 ?_
      refine lv_iconst (v := (nI (5))) hx hb dX4_runGroup_371 (by decide) ?_
      refine j_Vp (n := 1) (As := [.int (nI (5))]) hx hb hml hown hts hw (j_recv hw hTr.obj rfl) (c_X2_number l g z H0 (A + 15) (5) σ (by omega) hTr hs (by first | assumption | omega)) gX4_runGroup_X2_number rfl (by decide +kernel) ⟨Nat.le_of_ble_eq_true rfl, Nat.le_of_ble_eq_true rfl⟩ rfl hl.1 (Nat.le_of_ble_eq_true rfl) ⟨Nat.zero_le _, Nat.zero_le _⟩ dX4_runGroup_372 (fun r14 locs hr14 hw => ?_) rfl
      obtain rfl : r14 = (nI ((σ.1 10))) := hr14.trans rfl
      refine lv_iload_n hx hb dX4_runGroup_375 rfl (lv_at hl 5 rfl) ?_
      refine lv_sipush (v := (nI (1000))) hx hb dX4_runGroup_376 (by decide) ?_
      refine j_remN hx hb (by omega) (by omega) (by omega) dX4_runGroup_379 ?_
      refine lv_icmp_lt (tgt := 387) hx hb dX4_runGroup_380 (by decide) (fun c380 => ?_) (fun c380 => ?_)
      · refine lv_iconst (v := (nI (0))) hx hb dX4_runGroup_387 (by decide) ?_
        refine j_zret hx hb hr hlocks hH hw (Or.inl rfl) dX4_runGroup_388 ?_
        have e9 : doG σ gp = none := by unfold doG; rw [hw9]; exact if_neg (fun q => by have q1 := q.1; first | omega | exact absurd c380 (Int32.not_lt.mpr q.2))
        exact ⟨_, rfl, by rw [e9]; rfl, by rw [e9]; exact hTr, hf⟩
      · refine lv_iconst (v := (nI (1))) hx hb dX4_runGroup_383 (by decide) ?_
        refine lv_goto (tgt := 388) hx hb dX4_runGroup_384 (by decide) ?_
        refine j_zret hx hb hr hlocks hH hw (Or.inr rfl) dX4_runGroup_388 ?_
        have e9 : doG σ gp = some σ := by unfold doG; rw [hw9]; exact if_pos ⟨by omega, Int32.not_lt.mp c380⟩
        exact ⟨_, rfl, by rw [e9]; rfl, by rw [e9]; exact hTr, hf⟩

abbrev q_X4_simulateDay (g : jG) (H0 : Heap) (A : Nat) (dr : Nat) (σ : Sg) : Option Value → Heap → Prop := jV (fun H1 => jSo g H1 (A + 15) (day σ dr) (opnR (day σ dr)) ∧ jF (A + 15) 12 H0 H1)
set_option maxHeartbeats 4000000 in
set_option maxRecDepth 100000 in
theorem c_X4_simulateDay (l : Launch) (g : jG) (z : Nat) (H0 : Heap) (A : Nat) (dr : Nat) (σ : Sg) (hz : z ≤ A) (hO : jO g H0 A 4 [.ref (A + 1), .ref (A + 3), .ref (A + 15), .ref (A + 27), .ref (A + 197), .ref (A + 198)]) (hTr : jSo g H0 (A + 15) σ (opnR σ)) (hs : okS σ) (hcalm : ∀ o ∈ σ.2.2.1, o 4 < 9) (hr31 : dr < 2 ^ 31) (hK : lim 1000000000 σ) : jM l g z yX4_simulateDay wsX4_simulateDay 7 174 [.ref A, .int (nI (dr))] H0 (q_X4_simulateDay g H0 A dr σ) := by
  refine j_of (cc := cX4_simulateDay) (n := 2) (ret := none) (by decide) rfl (Nat.le_of_ble_eq_true rfl) ?_
  intro p e s m below meth c hx hb hr hml hown hts hlocks hname hH hw ls hl
  have hl : lv_has ls 2 [(0, .ref A), (1, .int (nI (dr)))] := hl
  have hinX4 : ∀ w ∈ u_ws RX4 TX4 6, w ∈ wsX4_simulateDay := by decide +kernel
  have hf : jF (A + 15) 12 H0 H0 := jF.rf
  have hk12 := (day_lim ⟨hs, hcalm⟩ hK dr).2.2.1
  have hl2 : lim 1000000018 (day2 σ dr) := by unfold day2; split; exact getD_lim (d := 9) (getD_lim (d := 9) hK (fun _ e => tAsk_lim hK e)) (fun _ e => tCancel_lim (getD_lim (d := 9) hK (fun _ e => tAsk_lim hK e)) e); exact (getD_lim (d := 9) hK (fun _ e => tAsk_lim hK e)).mono (by omega)
  have hk22 := hl2.2.2.1
  refine lv_aload_n hx hb dX4_simulateDay_0 rfl (lv_at hl 0 rfl) ?_
  refine j_get (T := TX4) (N := 6) (k := 2) hx hb hts hinX4 hown hw hO rfl (by decide) (hts (.fieldLink RX4 23 "NightTrains" "trial" "LNightTrains$Store;") (by decide +kernel)) rfl dX4_simulateDay_1 ?_
  refine lv_iload_n hx hb dX4_simulateDay_4 rfl (lv_at hl 1 rfl) ?_
  refine lv_iconst (v := (nI (4))) hx hb dX4_simulateDay_5 (by decide) ?_
  refine j_remN hx hb (by omega) (by omega) (by omega) dX4_simulateDay_6 ?_
  refine lv_iload_n hx hb dX4_simulateDay_7 rfl (lv_at hl 1 rfl) ?_
  refine lv_iconst (v := (nI (4))) hx hb dX4_simulateDay_8 (by decide) ?_
  refine j_divN hx hb (by omega) (by omega) (by omega) dX4_simulateDay_9 ?_
  refine lv_bipush (v := (nI (16))) hx hb dX4_simulateDay_10 (by decide) ?_
  refine j_remN hx hb (by omega) (by omega) (by omega) dX4_simulateDay_12 ?_
  refine lv_iload_n hx hb dX4_simulateDay_13 rfl (lv_at hl 1 rfl) ?_
  refine lv_bipush (v := (nI (64))) hx hb dX4_simulateDay_14 (by decide) ?_
  refine j_divN hx hb (by omega) (by omega) (by omega) dX4_simulateDay_16 ?_
  refine lv_bipush (v := (nI (8))) hx hb dX4_simulateDay_17 (by decide) ?_
  refine j_remN hx hb (by omega) (by omega) (by omega) dX4_simulateDay_19 ?_
  refine lv_iload_n hx hb dX4_simulateDay_20 rfl (lv_at hl 1 rfl) ?_
  refine lv_sipush (v := (nI (512))) hx hb dX4_simulateDay_21 (by decide) ?_
  refine j_divN hx hb (by omega) (by omega) (by omega) dX4_simulateDay_24 ?_
  refine lv_bipush (v := (nI (10))) hx hb dX4_simulateDay_25 (by decide) ?_
  refine j_remN hx hb (by omega) (by omega) (by omega) dX4_simulateDay_27 ?_
  refine j_Vi (n := 4) (As := [.int (nI ((dr % 4))), .int (nI (((dr / 4) % 16))), .int (nI (((dr / 64) % 8))), .int (nI (((dr / 512) % 10)))]) hx hb hml hown hts hw (j_recv hw hTr.obj rfl) (c_X2_placeIfAllowed l g z H0 (A + 15) ((dr % 4)) (((dr / 4) % 16)) (((dr / 64) % 8)) (((dr / 512) % 10)) σ (by omega) hTr hs (by omega) (by omega) (by omega) (by omega)) gX4_simulateDay_X2_placeIfAllowed rfl (by decide +kernel) ⟨Nat.le_of_ble_eq_true rfl, Nat.le_of_ble_eq_true rfl⟩ rfl hl.1 (Nat.le_of_ble_eq_true rfl) ⟨Nat.zero_le _, Nat.zero_le _⟩ dX4_simulateDay_28 (fun r1 H locs hr1 hw hsz => ?_) rfl
  obtain ⟨-, hto⟩ := hr1
  obtain ⟨hTr, hf2⟩ := hto
  have hO := hO.kept (hf2.2 _ (by omega))
  have hf := hf.step hf2 (by omega)
  have hc1 := okC_day1 (show okC σ from ⟨hs, hcalm⟩) dr
  refine lv_pop hx hb dX4_simulateDay_31 rfl ?_
  refine lv_iload_n hx hb dX4_simulateDay_32 rfl (lv_at hl 1 rfl) ?_
  refine lv_sipush (v := (nI (8192))) hx hb dX4_simulateDay_33 (by decide) ?_
  refine j_divN hx hb (by omega) (by omega) (by omega) dX4_simulateDay_36 ?_
  refine lv_iconst (v := (nI (4))) hx hb dX4_simulateDay_37 (by decide) ?_
  refine j_remN hx hb (by omega) (by omega) (by omega) dX4_simulateDay_38 ?_
  refine jz_ne (tgt := 58) hx hb dX4_simulateDay_39 (by decide) (by omega) (fun c39 => ?_) (fun c39 => ?_)
  · have hd2 : day2 σ dr = (day1 σ dr) := by unfold day2; exact if_neg c39
    have hTr : jSo g H (A + 15) (day2 σ dr) (opnR (day2 σ dr)) := by rw [hd2]; exact hTr
    have hc2 := okC_day2 (show okC σ from ⟨hs, hcalm⟩) dr
    refine lv_iload_n hx hb dX4_simulateDay_58 rfl (lv_at hl 1 rfl) ?_
    refine lv_ldcw (v := 1048576) hx hb hown (hts (.constant RX4 318 (1048576)) (by decide +kernel)) dX4_simulateDay_59 ?_
    refine j_eq (y := nI 1048576) (by decide) ?_
    refine j_divN hx hb (by omega) (by omega) (by omega) dX4_simulateDay_62 ?_
    refine lv_iconst (v := (nI (2))) hx hb dX4_simulateDay_63 (by decide) ?_
    refine j_remN hx hb (by omega) (by omega) (by omega) dX4_simulateDay_64 ?_
    refine jz_ne (tgt := 76) hx hb dX4_simulateDay_65 (by decide) (by omega) (fun c65 => ?_) (fun c65 => ?_)
    · refine j_vret hx hb hr hlocks hH hw dX4_simulateDay_76 ?_
      have hd3 : day σ dr = day2 σ dr := by unfold day; exact if_neg c65
      have h9 : jSo g H (A + 15) (day σ dr) (opnR (day σ dr)) := by rw [hd3]; exact hTr
      exact ⟨rfl, h9, hf⟩
    · refine lv_aload_n hx hb dX4_simulateDay_68 rfl (lv_at hl 0 rfl) ?_
      refine j_get (T := TX4) (N := 6) (k := 2) hx hb hts hinX4 hown hw hO rfl (by decide) (hts (.fieldLink RX4 23 "NightTrains" "trial" "LNightTrains$Store;") (by decide +kernel)) rfl dX4_simulateDay_69 ?_
      refine lv_iconst (v := (nI (1))) hx hb dX4_simulateDay_72 (by decide) ?_
      refine j_Vv (n := 1) (As := [.int (nI (1))]) hx hb hml hown hts hw (j_recv hw hTr.obj rfl) (c_X2_passNights l g z H (A + 15) (1) (day2 σ dr) (by omega) hTr hc2.1 hc2.2 (by omega) (by omega)) gX4_simulateDay_X2_passNights rfl (by decide +kernel) ⟨Nat.le_of_ble_eq_true rfl, Nat.le_of_ble_eq_true rfl⟩ rfl hl.1 (Nat.le_of_ble_eq_true rfl) ⟨Nat.zero_le _, Nat.zero_le _⟩ dX4_simulateDay_73 (fun H locs hr2 hw hsz => ?_) rfl
      obtain ⟨hTr, hf2⟩ := hr2
      have hO := hO.kept (hf2.2 _ (by omega))
      have hf := hf.step hf2 (by omega)
      refine j_vret hx hb hr hlocks hH hw dX4_simulateDay_76 ?_
      have hd3 : day σ dr = nightS (day2 σ dr) := by unfold day; exact if_pos c65
      have h9 : jSo g H (A + 15) (day σ dr) (opnR (day σ dr)) := by rw [hd3]; exact hTr
      exact ⟨rfl, h9, hf⟩
  · refine lv_aload_n hx hb dX4_simulateDay_42 rfl (lv_at hl 0 rfl) ?_
    refine j_get (T := TX4) (N := 6) (k := 2) hx hb hts hinX4 hown hw hO rfl (by decide) (hts (.fieldLink RX4 23 "NightTrains" "trial" "LNightTrains$Store;") (by decide +kernel)) rfl dX4_simulateDay_43 ?_
    refine lv_iload_n hx hb dX4_simulateDay_46 rfl (lv_at hl 1 rfl) ?_
    refine lv_ldcw (v := 32768) hx hb hown (hts (.constant RX4 317 (32768)) (by decide +kernel)) dX4_simulateDay_47 ?_
    refine j_eq (y := nI 32768) (by decide) ?_
    refine j_divN hx hb (by omega) (by omega) (by omega) dX4_simulateDay_50 ?_
    refine lv_bipush (v := (nI (20))) hx hb dX4_simulateDay_51 (by decide) ?_
    refine j_remN hx hb (by omega) (by omega) (by omega) dX4_simulateDay_53 ?_
    refine j_Vi (n := 1) (As := [.int (nI (((dr / 32768) % 20)))]) hx hb hml hown hts hw (j_recv hw hTr.obj rfl) (c_X2_dropIfAllowed l g z H (A + 15) (((dr / 32768) % 20)) (day1 σ dr) (by omega) hTr hc1.1 (by omega)) gX4_simulateDay_X2_dropIfAllowed rfl (by decide +kernel) ⟨Nat.le_of_ble_eq_true rfl, Nat.le_of_ble_eq_true rfl⟩ rfl hl.1 (Nat.le_of_ble_eq_true rfl) ⟨Nat.zero_le _, Nat.zero_le _⟩ dX4_simulateDay_54 (fun r3 H locs hr3 hw hsz => ?_) rfl
    obtain ⟨-, hto⟩ := hr3
    obtain ⟨hTr, hf2⟩ := hto
    have hO := hO.kept (hf2.2 _ (by omega))
    have hf := hf.step hf2 (by omega)
    refine lv_pop hx hb dX4_simulateDay_57 rfl ?_
    have hd2 : day2 σ dr = ((tCancel (day1 σ dr) (dr / 32768 % 20)).getD (day1 σ dr)) := by unfold day2; exact if_pos c39
    have hTr : jSo g H (A + 15) (day2 σ dr) (opnR (day2 σ dr)) := by rw [hd2]; exact hTr
    have hc2 := okC_day2 (show okC σ from ⟨hs, hcalm⟩) dr
    refine lv_iload_n hx hb dX4_simulateDay_58 rfl (lv_at hl 1 rfl) ?_
    refine lv_ldcw (v := 1048576) hx hb hown (hts (.constant RX4 318 (1048576)) (by decide +kernel)) dX4_simulateDay_59 ?_
    refine j_eq (y := nI 1048576) (by decide) ?_
    refine j_divN hx hb (by omega) (by omega) (by omega) dX4_simulateDay_62 ?_
    refine lv_iconst (v := (nI (2))) hx hb dX4_simulateDay_63 (by decide) ?_
    refine j_remN hx hb (by omega) (by omega) (by omega) dX4_simulateDay_64 ?_
    refine jz_ne (tgt := 76) hx hb dX4_simulateDay_65 (by decide) (by omega) (fun c65 => ?_) (fun c65 => ?_)
    · refine j_vret hx hb hr hlocks hH hw dX4_simulateDay_76 ?_
      have hd3 : day σ dr = day2 σ dr := by unfold day; exact if_neg c65
      have h9 : jSo g H (A + 15) (day σ dr) (opnR (day σ dr)) := by rw [hd3]; exact hTr
      exact ⟨rfl, h9, hf⟩
    · refine lv_aload_n hx hb dX4_simulateDay_68 rfl (lv_at hl 0 rfl) ?_
      refine j_get (T := TX4) (N := 6) (k := 2) hx hb hts hinX4 hown hw hO rfl (by decide) (hts (.fieldLink RX4 23 "NightTrains" "trial" "LNightTrains$Store;") (by decide +kernel)) rfl dX4_simulateDay_69 ?_
      refine lv_iconst (v := (nI (1))) hx hb dX4_simulateDay_72 (by decide) ?_
      refine j_Vv (n := 1) (As := [.int (nI (1))]) hx hb hml hown hts hw (j_recv hw hTr.obj rfl) (c_X2_passNights l g z H (A + 15) (1) (day2 σ dr) (by omega) hTr hc2.1 hc2.2 (by omega) (by omega)) gX4_simulateDay_X2_passNights rfl (by decide +kernel) ⟨Nat.le_of_ble_eq_true rfl, Nat.le_of_ble_eq_true rfl⟩ rfl hl.1 (Nat.le_of_ble_eq_true rfl) ⟨Nat.zero_le _, Nat.zero_le _⟩ dX4_simulateDay_73 (fun H locs hr4 hw hsz => ?_) rfl
      obtain ⟨hTr, hf2⟩ := hr4
      have hO := hO.kept (hf2.2 _ (by omega))
      have hf := hf.step hf2 (by omega)
      refine j_vret hx hb hr hlocks hH hw dX4_simulateDay_76 ?_
      have hd3 : day σ dr = nightS (day2 σ dr) := by unfold day; exact if_pos c65
      have h9 : jSo g H (A + 15) (day σ dr) (opnR (day σ dr)) := by rw [hd3]; exact hTr
      exact ⟨rfl, h9, hf⟩

abbrev q_X4_withoutGroups (g : jG) (H0 : Heap) (x : Int64) (k : Nat) (T : Nat) : Option Value → Heap → Prop := jN64 (fun r H1 => H1 = H0 ∧ (r = lN (T / 100000 ^ k)))
set_option maxHeartbeats 4000000 in
set_option maxRecDepth 100000 in
theorem c_X4_withoutGroups (l : Launch) (g : jG) (z : Nat) (H0 : Heap) (x : Int64) (k : Nat) (T : Nat) (hx9 : x = lN T) (hT : T < 2 ^ 63) (hk : k < 4) : jM l g z yX4_withoutGroups wsX4_withoutGroups 0 0 [.long x, .int (nI (k))] H0 (q_X4_withoutGroups g H0 x k T) := by
  refine j_of (cc := cX4_withoutGroups) (n := 6) (ret := some .long) (by decide) rfl (Nat.le_of_ble_eq_true rfl) ?_
  intro p e s m below meth c hx hb hr hml hown hts hlocks hname hH hw ls hl
  have hl : lv_has ls 6 [(0, .long x), (2, .int (nI (k)))] := hl
  refine lv_lload_n hx hb dX4_withoutGroups_0 rfl (lv_at hl 0 rfl) ?_
  refine lv_lstore_n (lv' := [(3, .long _), (0, .long _), (2, .int _)]) hx hb dX4_withoutGroups_1 rfl hl (by decide) rfl (fun ls hl => ?_)
  refine lv_iconst (v := (nI (0))) hx hb dX4_withoutGroups_2 (by decide) ?_
  refine lv_istore (lv' := [(5, .int _), (3, .long _), (0, .long _), (2, .int _)]) hx hb dX4_withoutGroups_3 hl (by decide) rfl (fun ls hl => ?_)
  have lp5 : ∀ (n5 : Nat) (j : Nat) (hj : j ≤ k) (hmu5 : k - j < n5) (locs : List Loc) (hw : jW g z s H0 locs) (ls : Array Slot) (hl : lv_has ls 6 [(2, .int (nI (k))), (3, .long (lN (T / 100000 ^ j))), (5, .int (nI (j)))]), jK p l e 0 0 s m [.long x, .int (nI (k))] below meth c z H0 (q_X4_withoutGroups g H0 x k T) H0 locs (F0 m 5 ls []) := by
    intro n5
    induction n5 with
    | zero => intros; omega
    | succ n5 ih5 =>
      intro j hj hmu5 locs hw  ls hl
      refine lv_iload hx hb dX4_withoutGroups_5 (lv_at hl 2 rfl) ?_
      refine lv_iload_n hx hb dX4_withoutGroups_7 rfl (lv_at hl 0 rfl) ?_
      refine jn_ge (tgt := 23) hx hb dX4_withoutGroups_8 (by decide) (by omega) (by omega) (fun c8 => ?_) (fun c8 => ?_)
      · obtain rfl : j = k := by omega
        refine lv_lload_n hx hb dX4_withoutGroups_23 rfl (lv_at hl 1 rfl) ?_
        refine j_lret hx hb hr hlocks hH hw dX4_withoutGroups_24 ?_
        exact ⟨_, rfl, rfl, rfl⟩
      · refine lv_lload_n hx hb dX4_withoutGroups_11 rfl (lv_at hl 1 rfl) ?_
        refine lv_ldc2 (v := 100000) hx hb hown (hts (.constantLong RX4 297 (100000)) (by decide +kernel)) dX4_withoutGroups_12 ?_
        refine lv_ldiv hx hb dX4_withoutGroups_15 (by decide) ?_
        refine j_eqL (y := lN (T / 100000 ^ (j + 1))) (wg_long hT) ?_
        refine lv_lstore_n (lv' := [(3, .long _), (2, .int _), (5, .int _)]) hx hb dX4_withoutGroups_16 rfl hl (by decide) rfl (fun ls hl => ?_)
        refine lv_iinc (v := nI (j + 1)) (lv' := [(5, .int _), (3, .long _), (2, .int _)]) hx hb dX4_withoutGroups_17 hl (k := 2) rfl (nI_add _ 1) (by decide) rfl (fun ls hl => ?_)
        refine lv_goto (tgt := 5) hx hb dX4_withoutGroups_20 (by decide) ?_
        exact ih5  (j + 1) (by first | assumption | omega) (by omega) _ hw _ (lv_sub hl [2, 1, 0] rfl)
  rw [show x = lN (T / 100000 ^ 0) by rw [hx9, Nat.pow_zero, Nat.div_one]] at hl
  exact lp5 (k - 0 + 1) 0 (by first | assumption | omega) (by omega) _ hw _ (lv_sub hl [3, 1, 0] rfl)
