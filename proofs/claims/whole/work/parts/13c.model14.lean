abbrev q_X5_does (g : jG) (H0 : Heap) (M : Nat) (gp : Nat) (σ : Sg) (f : Nat → Int32) (x0 : Int32) (x2 : Int32) (x3 : Int32) (x4 : Int32) (x5 : Int32) (x10 : Int32) (x14 : Int32) (sn : Bool) (tk0 : Nat → Int32) : Option Value → Heap → Prop := jN (fun r H1 => r = bI (doG σ gp).isSome ∧ rTo3 g M (M + 4) ((doG σ gp).getD σ) H0 H1 ∧ ∃ y14 sn1 tk, jO g H1 M 5 [.int x0, .ref (M + 1), .int x2, .int x3, .int x4, .int x5, .ref (M + 2), .ref (M + 3), .ref (M + 4), .ref (M + 5), .int x10, .ref (M + 6), .ref (M + 7), .ref (M + 8), .int y14, .int (bI sn1)] ∧ jI g H1 (M + 8) 16 tk)
set_option maxHeartbeats 4000000 in
set_option maxRecDepth 100000 in
theorem c_X5_does (l : Launch) (g : jG) (z : Nat) (H0 : Heap) (M : Nat) (gp : Nat) (σ : Sg) (f : Nat → Int32) (x0 : Int32) (x2 : Int32) (x3 : Int32) (x4 : Int32) (x5 : Int32) (x10 : Int32) (x14 : Int32) (sn : Bool) (tk0 : Nat → Int32) (hzM : z ≤ M) (hO : jO g H0 M 5 [.int x0, .ref (M + 1), .int x2, .int x3, .int x4, .int x5, .ref (M + 2), .ref (M + 3), .ref (M + 4), .ref (M + 5), .int x10, .ref (M + 6), .ref (M + 7), .ref (M + 8), .int x14, .int (bI sn)]) (hTr : jI g H0 (M + 4) 235 f) (hT8 : jI g H0 (M + 8) 16 tk0) (hR : Row f σ) (hs : okS σ) (hcalm : ∀ o ∈ σ.2.2.1, o 4 < 9) (hg : gp < 100000) : jM l g z yX5_does wsX5_does 6 140 [.ref M, .int (nI (gp))] H0 (q_X5_does g H0 M gp σ f x0 x2 x3 x4 x5 x10 x14 sn tk0) := by
  refine j_of (cc := cX5_does) (n := 6) (ret := some .boolean) (by decide) rfl (Nat.le_of_ble_eq_true rfl) ?_
  intro p e s m below meth c hx hb hr hml hown hts hlocks hname hH hw ls hl
  have hl : lv_has ls 6 [(0, .ref M), (1, .int (nI (gp)))] := hl
  have hinX5 : ∀ w ∈ u_ws RX5 TX5 16, w ∈ wsX5_does := by decide +kernel
  have hf : jF3 M (M + 4) (M + 8) H0 H0 := jF3.rf
  refine lv_iload_n hx hb dX5_does_0 rfl (lv_at hl 1 rfl) ?_
  refine lv_sipush (v := (nI (10000))) hx hb dX5_does_1 (by decide) ?_
  refine j_divN hx hb (by omega) (by omega) (by omega) dX5_does_4 ?_
  refine lv_istore_n (lv' := [(2, .int _), (0, .ref _), (1, .int _)]) hx hb dX5_does_5 rfl hl (by decide) rfl (fun ls hl => ?_)
  refine lv_iload_n hx hb dX5_does_6 rfl (lv_at hl 2 rfl) ?_
  refine lv_bipush (v := (nI (100))) hx hb dX5_does_7 (by decide) ?_
  refine j_divN hx hb (by omega) (by omega) (by omega) dX5_does_9 ?_
  refine lv_bipush (v := (nI (100))) hx hb dX5_does_10 (by decide) ?_
  refine j_remN hx hb (by omega) (by omega) (by omega) dX5_does_12 ?_
  refine lv_istore_n (lv' := [(3, .int _), (2, .int _), (0, .ref _), (1, .int _)]) hx hb dX5_does_13 rfl hl (by decide) rfl (fun ls hl => ?_)
  refine lv_iload_n hx hb dX5_does_14 rfl (lv_at hl 3 rfl) ?_
  refine lv_sipush (v := (nI (1000))) hx hb dX5_does_15 (by decide) ?_
  refine j_divN hx hb (by omega) (by omega) (by omega) dX5_does_18 ?_
  refine lv_bipush (v := (nI (10))) hx hb dX5_does_19 (by decide) ?_
  refine j_remN hx hb (by omega) (by omega) (by omega) dX5_does_21 ?_
  refine lv_istore (lv' := [(4, .int _), (3, .int _), (2, .int _), (0, .ref _), (1, .int _)]) hx hb dX5_does_22 hl (by decide) rfl (fun ls hl => ?_)
  refine lv_iload_n hx hb dX5_does_24 rfl (lv_at hl 4 rfl) ?_
  refine lv_bipush (v := (nI (100))) hx hb dX5_does_25 (by decide) ?_
  refine j_remN hx hb (by omega) (by omega) (by omega) dX5_does_27 ?_
  refine lv_istore (lv' := [(5, .int _), (4, .int _), (3, .int _), (2, .int _), (0, .ref _), (1, .int _)]) hx hb dX5_does_28 hl (by decide) rfl (fun ls hl => ?_)
  have hw9 : gp / 10000 = 0 ∨ gp / 10000 = 1 ∨ gp / 10000 = 2 ∨ gp / 10000 = 3 ∨ gp / 10000 = 4 ∨ gp / 10000 = 5 ∨ gp / 10000 = 6 ∨ gp / 10000 = 7 ∨ gp / 10000 = 8 ∨ gp / 10000 = 9 := by omega
  rcases hw9 with hw9 | hw9 | hw9 | hw9 | hw9 | hw9 | hw9 | hw9 | hw9 | hw9
  · rw [hw9] at hl
    refine lv_iload_n hx hb dX5_does_30 rfl (lv_at hl 3 rfl) ?_
    refine lv_tableOut (tgt := 317) hx hb dX5_does_31 (Or.inl (by decide)) (by decide) ?_
    refine lv_iconst (v := (nI (0))) hx hb dX5_does_317 (by decide) ?_
    refine j_zret hx hb hr hlocks hH hw (Or.inl rfl) dX5_does_318 ?_
    have e9 : doG σ gp = none := by unfold doG; rw [hw9]; rfl
    exact ⟨_, rfl, by rw [e9]; rfl, by rw [e9]; exact ⟨⟨_, hTr, hR⟩, hs, hf⟩, x14, sn, tk0, hO, hT8⟩
  · rw [hw9] at hl
    refine lv_iload_n hx hb dX5_does_30 rfl (lv_at hl 3 rfl) ?_
    refine lv_tableIn (tgt := 80) hx hb dX5_does_31 (by decide) (by decide) (off := 49) (by decide) (by decide) ?_
    refine lv_aload_n hx hb dX5_does_80 rfl (lv_at hl 4 rfl) ?_
    refine lv_iload hx hb dX5_does_81 (lv_at hl 1 rfl) ?_
    refine lv_iload_n hx hb dX5_does_83 rfl (lv_at hl 5 rfl) ?_
    refine lv_bipush (v := (nI (10))) hx hb dX5_does_84 (by decide) ?_
    refine j_divN hx hb (by omega) (by omega) (by omega) dX5_does_86 ?_
    refine lv_bipush (v := (nI (100))) hx hb dX5_does_87 (by decide) ?_
    refine j_remN hx hb (by omega) (by omega) (by omega) dX5_does_89 ?_
    refine lv_iconst (v := (nI (0))) hx hb dX5_does_90 (by decide) ?_
    refine lv_iload_n hx hb dX5_does_91 rfl (lv_at hl 5 rfl) ?_
    refine lv_bipush (v := (nI (10))) hx hb dX5_does_92 (by decide) ?_
    refine j_remN hx hb (by omega) (by omega) (by omega) dX5_does_94 ?_
    refine j_Vi (n := 4) (As := [.int (nI (((gp / 1000) % 10))), .int (nI (((gp / 10) % 100))), .int (nI (0)), .int (nI ((gp % 10)))]) hx hb hml hown hts hw (j_recv hw hO rfl) (c_X5_asks l g z H0 M (((gp / 1000) % 10)) (((gp / 10) % 100)) (0) ((gp % 10)) (σ) f x0 x2 x3 x4 x5 x10 x14 _ hzM hO hTr hR hs (by omega) (by omega) (by omega) (by omega)) gX5_does_X5_asks rfl (by decide +kernel) ⟨Nat.le_of_ble_eq_true rfl, Nat.le_of_ble_eq_true rfl⟩ rfl hl.1 (Nat.le_of_ble_eq_true rfl) ⟨Nat.zero_le _, Nat.zero_le _⟩ dX5_does_95 (fun r1 H locs hr1 hw hsz => ?_) rfl
    obtain ⟨hr1, hto⟩ := hr1
    obtain ⟨tc9, htc⟩ : ∃ x, x = tAsk (σ) (((gp / 1000) % 10)) (((gp / 10) % 100)) (0) ((gp % 10)) := ⟨_, rfl⟩
    rw [← htc] at hr1 hto
    rcases tc9 with _ | σ9
    · obtain rfl : r1 = nI 0 := hr1
      obtain ⟨⟨f2, hTr, hR⟩, hs, hf2⟩ := hto
      have hO := hO.kept (hf2.2 _ (by omega))
      have hT8 := hT8.kept (hf2.2 _ (by omega))
      have hf := hf.step hf2 (by omega)
      refine j_zret hx hb hr hlocks hH hw (Or.inl rfl) dX5_does_98 ?_
      have e9 : doG σ gp = none := by unfold doG; rw [hw9]; first | exact htc.symm | exact (if_pos (by omega)).trans htc.symm | exact if_neg (by omega)
      exact ⟨_, rfl, by rw [e9]; rfl, by rw [e9]; exact ⟨⟨_, hTr, hR⟩, hs, hf⟩, x14, sn, tk0, hO, hT8⟩
    · obtain rfl : r1 = nI 1 := hr1
      obtain ⟨⟨f3, hTr, hR⟩, hs, hf2⟩ := hto
      have hO := hO.kept (hf2.2 _ (by omega))
      have hT8 := hT8.kept (hf2.2 _ (by omega))
      have hf := hf.step hf2 (by omega)
      refine j_zret hx hb hr hlocks hH hw (Or.inr rfl) dX5_does_98 ?_
      have e9 : doG σ gp = some (σ9) := by unfold doG; rw [hw9]; first | exact htc.symm | exact (if_pos (by omega)).trans htc.symm
      exact ⟨_, rfl, by rw [e9]; rfl, by rw [e9]; exact ⟨⟨_, hTr, hR⟩, hs, hf⟩, x14, sn, tk0, hO, hT8⟩
  · rw [hw9] at hl
    refine lv_iload_n hx hb dX5_does_30 rfl (lv_at hl 3 rfl) ?_
    refine lv_tableIn (tgt := 99) hx hb dX5_does_31 (by decide) (by decide) (off := 68) (by decide) (by decide) ?_
    refine lv_iload hx hb dX5_does_99 (lv_at hl 0 rfl) ?_
    refine jz_ne (tgt := 116) hx hb dX5_does_101 (by decide) (by omega) (fun c101 => ?_) (fun c101 => ?_)
    · refine lv_iconst (v := (nI (0))) hx hb dX5_does_116 (by decide) ?_
      refine j_zret hx hb hr hlocks hH hw (Or.inl rfl) dX5_does_117 ?_
      have e9 : doG σ gp = none := by unfold doG; rw [hw9]; first | exact htc.symm | exact (if_pos (by omega)).trans htc.symm | exact if_neg (by omega)
      exact ⟨_, rfl, by rw [e9]; rfl, by rw [e9]; exact ⟨⟨_, hTr, hR⟩, hs, hf⟩, x14, sn, tk0, hO, hT8⟩
    · refine lv_aload_n hx hb dX5_does_104 rfl (lv_at hl 4 rfl) ?_
      refine lv_iload_n hx hb dX5_does_105 rfl (lv_at hl 2 rfl) ?_
      refine j_Vi (n := 1) (As := [.int (nI (((gp / 100) % 100)))]) hx hb hml hown hts hw (j_recv hw hO rfl) (c_X5_cancels l g z H0 M (((gp / 100) % 100)) (σ) f x0 x2 x3 x4 x5 x10 x14 _ hzM hO hTr hR hs (by first | assumption | omega)) gX5_does_X5_cancels rfl (by decide +kernel) ⟨Nat.le_of_ble_eq_true rfl, Nat.le_of_ble_eq_true rfl⟩ rfl hl.1 (Nat.le_of_ble_eq_true rfl) ⟨Nat.zero_le _, Nat.zero_le _⟩ dX5_does_106 (fun r4 H locs hr4 hw hsz => ?_) rfl
      obtain ⟨hr4, hto⟩ := hr4
      obtain ⟨tc9, htc⟩ : ∃ x, x = tCancel (σ) (((gp / 100) % 100)) := ⟨_, rfl⟩
      rw [← htc] at hr4 hto
      rcases tc9 with _ | σ9
      · obtain rfl : r4 = nI 0 := hr4
        obtain ⟨⟨f5, hTr, hR⟩, hs, hf2⟩ := hto
        have hO := hO.kept (hf2.2 _ (by omega))
        have hT8 := hT8.kept (hf2.2 _ (by omega))
        have hf := hf.step hf2 (by omega)
        refine jz_eq (tgt := 116) hx hb dX5_does_109 (by decide) (by omega) (fun c109 => ?_) (fun c109 => absurd c109 (by omega))
        refine lv_iconst (v := (nI (0))) hx hb dX5_does_116 (by decide) ?_
        refine j_zret hx hb hr hlocks hH hw (Or.inl rfl) dX5_does_117 ?_
        have e9 : doG σ gp = none := by unfold doG; rw [hw9]; first | exact htc.symm | exact (if_pos (by omega)).trans htc.symm | exact if_neg (by omega)
        exact ⟨_, rfl, by rw [e9]; rfl, by rw [e9]; exact ⟨⟨_, hTr, hR⟩, hs, hf⟩, x14, sn, tk0, hO, hT8⟩
      · obtain rfl : r4 = nI 1 := hr4
        obtain ⟨⟨f6, hTr, hR⟩, hs, hf2⟩ := hto
        have hO := hO.kept (hf2.2 _ (by omega))
        have hT8 := hT8.kept (hf2.2 _ (by omega))
        have hf := hf.step hf2 (by omega)
        refine jz_eq (tgt := 116) hx hb dX5_does_109 (by decide) (by omega) (fun c109 => absurd c109 (by omega)) (fun c109 => ?_)
        refine lv_iconst (v := (nI (1))) hx hb dX5_does_112 (by decide) ?_
        refine lv_goto (tgt := 117) hx hb dX5_does_113 (by decide) ?_
        refine j_zret hx hb hr hlocks hH hw (Or.inr rfl) dX5_does_117 ?_
        have e9 : doG σ gp = some (σ9) := by unfold doG; rw [hw9]; first | exact htc.symm | exact (if_pos (by omega)).trans htc.symm
        exact ⟨_, rfl, by rw [e9]; rfl, by rw [e9]; exact ⟨⟨_, hTr, hR⟩, hs, hf⟩, x14, sn, tk0, hO, hT8⟩
  · rw [hw9] at hl
    refine lv_iload_n hx hb dX5_does_30 rfl (lv_at hl 3 rfl) ?_
    refine lv_tableIn (tgt := 118) hx hb dX5_does_31 (by decide) (by decide) (off := 87) (by decide) (by decide) ?_
    refine lv_iload hx hb dX5_does_118 (lv_at hl 0 rfl) ?_
    refine lv_bipush (v := (nI (10))) hx hb dX5_does_120 (by decide) ?_
    refine jn_ge (tgt := 139) hx hb dX5_does_122 (by decide) (by omega) (by omega) (fun c122 => ?_) (fun c122 => ?_)
    · refine lv_iconst (v := (nI (0))) hx hb dX5_does_139 (by decide) ?_
      refine j_zret hx hb hr hlocks hH hw (Or.inl rfl) dX5_does_140 ?_
      have e9 : doG σ gp = none := by unfold doG; rw [hw9]; first | exact htc.symm | exact (if_pos (by omega)).trans htc.symm | exact if_neg (by omega)
      exact ⟨_, rfl, by rw [e9]; rfl, by rw [e9]; exact ⟨⟨_, hTr, hR⟩, hs, hf⟩, x14, sn, tk0, hO, hT8⟩
    · refine lv_aload_n hx hb dX5_does_125 rfl (lv_at hl 4 rfl) ?_
      refine lv_iload_n hx hb dX5_does_126 rfl (lv_at hl 2 rfl) ?_
      refine lv_iload hx hb dX5_does_127 (lv_at hl 0 rfl) ?_
      refine j_Vi (n := 2) (As := [.int (nI (((gp / 100) % 100))), .int (nI ((gp % 100)))]) hx hb hml hown hts hw (j_recv hw hO rfl) (c_X5_raises l g z H0 M (((gp / 100) % 100)) ((gp % 100)) (σ) f x0 x2 x3 x4 x5 x10 x14 _ hzM hO hTr hR hs (by first | assumption | omega) (by first | assumption | omega)) gX5_does_X5_raises rfl (by decide +kernel) ⟨Nat.le_of_ble_eq_true rfl, Nat.le_of_ble_eq_true rfl⟩ rfl hl.1 (Nat.le_of_ble_eq_true rfl) ⟨Nat.zero_le _, Nat.zero_le _⟩ dX5_does_129 (fun r7 H locs hr7 hw hsz => ?_) rfl
      obtain ⟨hr7, hto⟩ := hr7
      obtain ⟨tc9, htc⟩ : ∃ x, x = tRaise (σ) (((gp / 100) % 100)) ((gp % 100)) := ⟨_, rfl⟩
      rw [← htc] at hr7 hto
      rcases tc9 with _ | σ9
      · obtain rfl : r7 = nI 0 := hr7
        obtain ⟨⟨f8, hTr, hR⟩, hs, hf2⟩ := hto
        have hO := hO.kept (hf2.2 _ (by omega))
        have hT8 := hT8.kept (hf2.2 _ (by omega))
        have hf := hf.step hf2 (by omega)
        refine jz_eq (tgt := 139) hx hb dX5_does_132 (by decide) (by omega) (fun c132 => ?_) (fun c132 => absurd c132 (by omega))
        refine lv_iconst (v := (nI (0))) hx hb dX5_does_139 (by decide) ?_
        refine j_zret hx hb hr hlocks hH hw (Or.inl rfl) dX5_does_140 ?_
        have e9 : doG σ gp = none := by unfold doG; rw [hw9]; first | exact htc.symm | exact (if_pos (by omega)).trans htc.symm | exact if_neg (by omega)
        exact ⟨_, rfl, by rw [e9]; rfl, by rw [e9]; exact ⟨⟨_, hTr, hR⟩, hs, hf⟩, x14, sn, tk0, hO, hT8⟩
      · obtain rfl : r7 = nI 1 := hr7
        obtain ⟨⟨f9, hTr, hR⟩, hs, hf2⟩ := hto
        have hO := hO.kept (hf2.2 _ (by omega))
        have hT8 := hT8.kept (hf2.2 _ (by omega))
        have hf := hf.step hf2 (by omega)
        refine jz_eq (tgt := 139) hx hb dX5_does_132 (by decide) (by omega) (fun c132 => absurd c132 (by omega)) (fun c132 => ?_)
        refine lv_iconst (v := (nI (1))) hx hb dX5_does_135 (by decide) ?_
        refine lv_goto (tgt := 140) hx hb dX5_does_136 (by decide) ?_
        refine j_zret hx hb hr hlocks hH hw (Or.inr rfl) dX5_does_140 ?_
        have e9 : doG σ gp = some (σ9) := by unfold doG; rw [hw9]; first | exact htc.symm | exact (if_pos (by omega)).trans htc.symm
        exact ⟨_, rfl, by rw [e9]; rfl, by rw [e9]; exact ⟨⟨_, hTr, hR⟩, hs, hf⟩, x14, sn, tk0, hO, hT8⟩
  · rw [hw9] at hl
    refine lv_iload_n hx hb dX5_does_30 rfl (lv_at hl 3 rfl) ?_
    refine lv_tableIn (tgt := 141) hx hb dX5_does_31 (by decide) (by decide) (off := 110) (by decide) (by decide) ?_
    refine lv_iload_n hx hb dX5_does_141 rfl (lv_at hl 2 rfl) ?_
    refine jz_ne (tgt := 158) hx hb dX5_does_142 (by decide) (by omega) (fun c142 => ?_) (fun c142 => ?_)
    · refine lv_iconst (v := (nI (0))) hx hb dX5_does_158 (by decide) ?_
      refine j_zret hx hb hr hlocks hH hw (Or.inl rfl) dX5_does_159 ?_
      have e9 : doG σ gp = none := by unfold doG; rw [hw9]; first | exact htc.symm | exact (if_pos (by omega)).trans htc.symm | exact if_neg (by omega)
      exact ⟨_, rfl, by rw [e9]; rfl, by rw [e9]; exact ⟨⟨_, hTr, hR⟩, hs, hf⟩, x14, sn, tk0, hO, hT8⟩
    · refine lv_aload_n hx hb dX5_does_145 rfl (lv_at hl 4 rfl) ?_
      refine lv_iload hx hb dX5_does_146 (lv_at hl 0 rfl) ?_
      refine j_Vi (n := 1) (As := [.int (nI ((gp % 100)))]) hx hb hml hown hts hw (j_recv hw hO rfl) (c_X5_goes l g z H0 M ((gp % 100)) (σ) f x0 x2 x3 x4 x5 x10 x14 _ tk0 hzM hO hTr hT8 hR hs hcalm (by omega)) gX5_does_X5_goes rfl (by decide +kernel) ⟨Nat.le_of_ble_eq_true rfl, Nat.le_of_ble_eq_true rfl⟩ rfl hl.1 (Nat.le_of_ble_eq_true rfl) ⟨Nat.zero_le _, Nat.zero_le _⟩ dX5_does_148 (fun r10 H locs hr10 hw hsz => ?_) rfl
      obtain ⟨hr10, hto, y14g, sng, tkg, hOg, hTg⟩ := hr10
      obtain ⟨tc9, htc⟩ : ∃ x, x = (tNights (σ) ((gp % 100))) := ⟨_, rfl⟩
      rw [← htc] at hr10 hto
      rcases tc9 with _ | σ9
      · obtain rfl : r10 = nI 0 := hr10
        obtain ⟨⟨f11, hTr, hR⟩, hs, hf2⟩ := hto
        have hO := hOg
        have hT8 := hTg
        have hf := hf.cat hf2
        refine jz_eq (tgt := 158) hx hb dX5_does_151 (by decide) (by omega) (fun c151 => ?_) (fun c151 => absurd c151 (by omega))
        refine lv_iconst (v := (nI (0))) hx hb dX5_does_158 (by decide) ?_
        refine j_zret hx hb hr hlocks hH hw (Or.inl rfl) dX5_does_159 ?_
        have e9 : doG σ gp = none := by unfold doG; rw [hw9]; first | exact htc.symm | exact (if_pos (by omega)).trans htc.symm | exact if_neg (by omega)
        exact ⟨_, rfl, by rw [e9]; rfl, by rw [e9]; exact ⟨⟨_, hTr, hR⟩, hs, hf⟩, y14g, sng, tkg, hO, hT8⟩
      · obtain rfl : r10 = nI 1 := hr10
        obtain ⟨⟨f12, hTr, hR⟩, hs, hf2⟩ := hto
        have hO := hOg
        have hT8 := hTg
        have hf := hf.cat hf2
        refine jz_eq (tgt := 158) hx hb dX5_does_151 (by decide) (by omega) (fun c151 => absurd c151 (by omega)) (fun c151 => ?_)
        refine lv_iconst (v := (nI (1))) hx hb dX5_does_154 (by decide) ?_
        refine lv_goto (tgt := 159) hx hb dX5_does_155 (by decide) ?_
        refine j_zret hx hb hr hlocks hH hw (Or.inr rfl) dX5_does_159 ?_
        have e9 : doG σ gp = some σ9 := by unfold doG; rw [hw9]; first | exact htc.symm | exact (if_pos (by omega)).trans htc.symm
        exact ⟨_, rfl, by rw [e9]; rfl, by rw [e9]; exact ⟨⟨_, hTr, hR⟩, hs, hf⟩, y14g, sng, tkg, hO, hT8⟩
  · rw [hw9] at hl
    refine lv_iload_n hx hb dX5_does_30 rfl (lv_at hl 3 rfl) ?_
    refine lv_tableIn (tgt := 160) hx hb dX5_does_31 (by decide) (by decide) (off := 129) (by decide) (by decide) ?_
    refine lv_iload_n hx hb dX5_does_160 rfl (lv_at hl 2 rfl) ?_
    refine lv_bipush (v := (nI (10))) hx hb dX5_does_161 (by decide) ?_
    refine j_remN hx hb (by omega) (by omega) (by omega) dX5_does_163 ?_
    refine jz_ne (tgt := 193) hx hb dX5_does_164 (by decide) (by omega) (fun c164 => ?_) (fun c164 => ?_)
    · refine lv_iconst (v := (nI (0))) hx hb dX5_does_193 (by decide) ?_
      refine j_zret hx hb hr hlocks hH hw (Or.inl rfl) dX5_does_194 ?_
      have e9 : doG σ gp = none := by unfold doG; rw [hw9]; first | exact htc.symm | exact (if_pos (by omega)).trans htc.symm | exact if_neg (by omega)
      exact ⟨_, rfl, by rw [e9]; rfl, by rw [e9]; exact ⟨⟨_, hTr, hR⟩, hs, hf⟩, x14, sn, tk0, hO, hT8⟩
    · refine lv_iload hx hb dX5_does_167 (lv_at hl 0 rfl) ?_
      refine lv_bipush (v := (nI (10))) hx hb dX5_does_169 (by decide) ?_
      refine j_remN hx hb (by omega) (by omega) (by omega) dX5_does_171 ?_
      refine jz_ne (tgt := 193) hx hb dX5_does_172 (by decide) (by omega) (fun c172 => ?_) (fun c172 => ?_)
      · refine lv_iconst (v := (nI (0))) hx hb dX5_does_193 (by decide) ?_
        refine j_zret hx hb hr hlocks hH hw (Or.inl rfl) dX5_does_194 ?_
        have e9 : doG σ gp = none := by unfold doG; rw [hw9]; first | exact htc.symm | exact (if_pos (by omega)).trans htc.symm | exact if_neg (by omega)
        exact ⟨_, rfl, by rw [e9]; rfl, by rw [e9]; exact ⟨⟨_, hTr, hR⟩, hs, hf⟩, x14, sn, tk0, hO, hT8⟩
      · refine lv_aload_n hx hb dX5_does_175 rfl (lv_at hl 4 rfl) ?_
        refine lv_iload hx hb dX5_does_176 (lv_at hl 1 rfl) ?_
        refine lv_iload hx hb dX5_does_178 (lv_at hl 0 rfl) ?_
        refine lv_bipush (v := (nI (10))) hx hb dX5_does_180 (by decide) ?_
        refine j_divN hx hb (by omega) (by omega) (by omega) dX5_does_182 ?_
        refine j_Vi (n := 2) (As := [.int (nI (((gp / 1000) % 10))), .int (nI (((gp % 100) / 10)))]) hx hb hml hown hts hw (j_recv hw hO rfl) (c_X5_sets l g z H0 M (((gp / 1000) % 10)) (((gp % 100) / 10)) (σ) f x0 x2 x3 x4 x5 x10 x14 _ hzM hO hTr hR hs (by first | assumption | omega) (by first | assumption | omega)) gX5_does_X5_sets rfl (by decide +kernel) ⟨Nat.le_of_ble_eq_true rfl, Nat.le_of_ble_eq_true rfl⟩ rfl hl.1 (Nat.le_of_ble_eq_true rfl) ⟨Nat.zero_le _, Nat.zero_le _⟩ dX5_does_183 (fun r13 H locs hr13 hw hsz => ?_) rfl
        obtain ⟨hr13, hto⟩ := hr13
        obtain ⟨tc9, htc⟩ : ∃ x, x = tSet (σ) (((gp / 1000) % 10)) (((gp % 100) / 10)) := ⟨_, rfl⟩
        rw [← htc] at hr13 hto
        rcases tc9 with _ | σ9
        · obtain rfl : r13 = nI 0 := hr13
          obtain ⟨⟨f14, hTr, hR⟩, hs, hf2⟩ := hto
          have hO := hO.kept (hf2.2 _ (by omega))
          have hT8 := hT8.kept (hf2.2 _ (by omega))
          have hf := hf.step hf2 (by omega)
          refine jz_eq (tgt := 193) hx hb dX5_does_186 (by decide) (by omega) (fun c186 => ?_) (fun c186 => absurd c186 (by omega))
          refine lv_iconst (v := (nI (0))) hx hb dX5_does_193 (by decide) ?_
          refine j_zret hx hb hr hlocks hH hw (Or.inl rfl) dX5_does_194 ?_
          have e9 : doG σ gp = none := by unfold doG; rw [hw9]; first | exact htc.symm | exact (if_pos (by omega)).trans htc.symm | exact if_neg (by omega)
          exact ⟨_, rfl, by rw [e9]; rfl, by rw [e9]; exact ⟨⟨_, hTr, hR⟩, hs, hf⟩, x14, sn, tk0, hO, hT8⟩
        · obtain rfl : r13 = nI 1 := hr13
          obtain ⟨⟨f15, hTr, hR⟩, hs, hf2⟩ := hto
          have hO := hO.kept (hf2.2 _ (by omega))
          have hT8 := hT8.kept (hf2.2 _ (by omega))
          have hf := hf.step hf2 (by omega)
          refine jz_eq (tgt := 193) hx hb dX5_does_186 (by decide) (by omega) (fun c186 => absurd c186 (by omega)) (fun c186 => ?_)
          refine lv_iconst (v := (nI (1))) hx hb dX5_does_189 (by decide) ?_
          refine lv_goto (tgt := 194) hx hb dX5_does_190 (by decide) ?_
          refine j_zret hx hb hr hlocks hH hw (Or.inr rfl) dX5_does_194 ?_
          have e9 : doG σ gp = some (σ9) := by unfold doG; rw [hw9]; first | exact htc.symm | exact (if_pos (by omega)).trans htc.symm
          exact ⟨_, rfl, by rw [e9]; rfl, by rw [e9]; exact ⟨⟨_, hTr, hR⟩, hs, hf⟩, x14, sn, tk0, hO, hT8⟩
  · rw [hw9] at hl
    refine lv_iload_n hx hb dX5_does_30 rfl (lv_at hl 3 rfl) ?_
    refine lv_tableIn (tgt := 195) hx hb dX5_does_31 (by decide) (by decide) (off := 164) (by decide) (by decide) ?_
    refine lv_iload_n hx hb dX5_does_195 rfl (lv_at hl 2 rfl) ?_
    refine lv_bipush (v := (nI (16))) hx hb dX5_does_196 (by decide) ?_
    refine jn_ge (tgt := 233) hx hb dX5_does_198 (by decide) (by omega) (by omega) (fun c198 => ?_) (fun c198 => ?_)
    · refine lv_iconst (v := (nI (0))) hx hb dX5_does_233 (by decide) ?_
      refine j_zret hx hb hr hlocks hH hw (Or.inl rfl) dX5_does_234 ?_
      have e9 : doG σ gp = none := by unfold doG; rw [hw9]; exact if_neg (by omega)
      exact ⟨_, rfl, by rw [e9]; rfl, by rw [e9]; exact ⟨⟨_, hTr, hR⟩, hs, hf⟩, x14, sn, tk0, hO, hT8⟩
    · refine lv_iload hx hb dX5_does_201 (lv_at hl 0 rfl) ?_
      refine lv_iconst (v := (nI (2))) hx hb dX5_does_203 (by decide) ?_
      refine jn_ge (tgt := 233) hx hb dX5_does_204 (by decide) (by omega) (by omega) (fun c204 => ?_) (fun c204 => ?_)
      · refine lv_iconst (v := (nI (0))) hx hb dX5_does_233 (by decide) ?_
        refine j_zret hx hb hr hlocks hH hw (Or.inl rfl) dX5_does_234 ?_
        have e9 : doG σ gp = none := by unfold doG; rw [hw9]; exact if_neg (by omega)
        exact ⟨_, rfl, by rw [e9]; rfl, by rw [e9]; exact ⟨⟨_, hTr, hR⟩, hs, hf⟩, x14, sn, tk0, hO, hT8⟩
      · refine lv_aload_n hx hb dX5_does_207 rfl (lv_at hl 4 rfl) ?_
        refine j_get (T := TX5) (N := 16) (k := 8) hx hb hts hinX5 hown hw hO rfl (by decide) (hts (.fieldLink RX5 19 "NightTrainsModel" "trial" "[I") (by decide +kernel)) rfl dX5_does_208 ?_
        refine lv_iload_n hx hb dX5_does_211 rfl (lv_at hl 2 rfl) ?_
        refine j_Sp (n := 2) (As := [.ref (M + 4), .int (nI (((gp / 100) % 100)))]) hx hb hml hown hts hw (c_X5_isFront l g z H0 (M + 4) (((gp / 100) % 100)) (σ) f  hTr hR hs (by first | assumption | omega)) gX5_does_X5_isFront rfl (by decide +kernel) ⟨Nat.le_of_ble_eq_true rfl, Nat.le_of_ble_eq_true rfl⟩ rfl hl.1 (Nat.le_of_ble_eq_true rfl) ⟨Nat.zero_le _, Nat.zero_le _⟩ dX5_does_212 (fun r16 locs hr16 hw => ?_) rfl
        rcases hr16 with ⟨rfl, hr16⟩ | ⟨rfl, hr16⟩
        · refine lv_iload hx hb dX5_does_215 (lv_at hl 0 rfl) ?_
          refine lv_iconst (v := (nI (1))) hx hb dX5_does_217 (by decide) ?_
          refine jn_ne (tgt := 225) hx hb dX5_does_218 (by decide) (by omega) (by omega) (fun c218 => ?_) (fun c218 => ?_)
          · refine lv_iconst (v := (nI (0))) hx hb dX5_does_225 (by decide) ?_
            refine jn_ne (tgt := 233) hx hb dX5_does_226 (by decide) (by omega) (by omega) (fun c226 => ?_) (fun c226 => absurd c226 (by omega))
            refine lv_iconst (v := (nI (0))) hx hb dX5_does_233 (by decide) ?_
            refine j_zret hx hb hr hlocks hH hw (Or.inl rfl) dX5_does_234 ?_
            have e9 : doG σ gp = none := by unfold doG; rw [hw9]; exact if_neg (by omega)
            exact ⟨_, rfl, by rw [e9]; rfl, by rw [e9]; exact ⟨⟨_, hTr, hR⟩, hs, hf⟩, x14, sn, tk0, hO, hT8⟩
          · refine lv_iconst (v := (nI (1))) hx hb dX5_does_221 (by decide) ?_
            refine lv_goto (tgt := 226) hx hb dX5_does_222 (by decide) ?_
            refine jn_ne (tgt := 233) hx hb dX5_does_226 (by decide) (by omega) (by omega) (fun c226 => absurd c226 (by omega)) (fun c226 => ?_)
            refine lv_iconst (v := (nI (1))) hx hb dX5_does_229 (by decide) ?_
            refine lv_goto (tgt := 234) hx hb dX5_does_230 (by decide) ?_
            refine j_zret hx hb hr hlocks hH hw (Or.inr rfl) dX5_does_234 ?_
            have e9 : doG σ gp = some σ := by unfold doG; rw [hw9]; exact if_pos (by omega)
            exact ⟨_, rfl, by rw [e9]; rfl, by rw [e9]; exact ⟨⟨_, hTr, hR⟩, hs, hf⟩, x14, sn, tk0, hO, hT8⟩
        · refine lv_iload hx hb dX5_does_215 (lv_at hl 0 rfl) ?_
          refine lv_iconst (v := (nI (1))) hx hb dX5_does_217 (by decide) ?_
          refine jn_ne (tgt := 225) hx hb dX5_does_218 (by decide) (by omega) (by omega) (fun c218 => ?_) (fun c218 => ?_)
          · refine lv_iconst (v := (nI (0))) hx hb dX5_does_225 (by decide) ?_
            refine jn_ne (tgt := 233) hx hb dX5_does_226 (by decide) (by omega) (by omega) (fun c226 => absurd c226 (by omega)) (fun c226 => ?_)
            refine lv_iconst (v := (nI (1))) hx hb dX5_does_229 (by decide) ?_
            refine lv_goto (tgt := 234) hx hb dX5_does_230 (by decide) ?_
            refine j_zret hx hb hr hlocks hH hw (Or.inr rfl) dX5_does_234 ?_
            have e9 : doG σ gp = some σ := by unfold doG; rw [hw9]; exact if_pos (by omega)
            exact ⟨_, rfl, by rw [e9]; rfl, by rw [e9]; exact ⟨⟨_, hTr, hR⟩, hs, hf⟩, x14, sn, tk0, hO, hT8⟩
          · refine lv_iconst (v := (nI (1))) hx hb dX5_does_221 (by decide) ?_
            refine lv_goto (tgt := 226) hx hb dX5_does_222 (by decide) ?_
            refine jn_ne (tgt := 233) hx hb dX5_does_226 (by decide) (by omega) (by omega) (fun c226 => ?_) (fun c226 => absurd c226 (by omega))
            refine lv_iconst (v := (nI (0))) hx hb dX5_does_233 (by decide) ?_
            refine j_zret hx hb hr hlocks hH hw (Or.inl rfl) dX5_does_234 ?_
            have e9 : doG σ gp = none := by unfold doG; rw [hw9]; exact if_neg (by omega)
            exact ⟨_, rfl, by rw [e9]; rfl, by rw [e9]; exact ⟨⟨_, hTr, hR⟩, hs, hf⟩, x14, sn, tk0, hO, hT8⟩
  · rw [hw9] at hl
    refine lv_iload_n hx hb dX5_does_30 rfl (lv_at hl 3 rfl) ?_
    refine lv_tableIn (tgt := 235) hx hb dX5_does_31 (by decide) (by decide) (off := 204) (by decide) (by decide) ?_
    refine lv_iload hx hb dX5_does_235 (lv_at hl 1 rfl) ?_
    refine lv_iconst (v := (nI (4))) hx hb dX5_does_237 (by decide) ?_
    refine jn_ge (tgt := 267) hx hb dX5_does_238 (by decide) (by omega) (by omega) (fun c238 => ?_) (fun c238 => ?_)
    · refine lv_iconst (v := (nI (0))) hx hb dX5_does_267 (by decide) ?_
      refine j_zret hx hb hr hlocks hH hw (Or.inl rfl) dX5_does_268 ?_
      have e9 : doG σ gp = none := by unfold doG; rw [hw9]; exact if_neg (fun q => by have q1 := q.1; have q2 := q.2.1; first | omega | exact absurd c260 (Int32.not_lt.mpr q.2.2))
      exact ⟨_, rfl, by rw [e9]; rfl, by rw [e9]; exact ⟨⟨_, hTr, hR⟩, hs, hf⟩, x14, sn, tk0, hO, hT8⟩
    · refine lv_iload_n hx hb dX5_does_241 rfl (lv_at hl 2 rfl) ?_
      refine lv_bipush (v := (nI (10))) hx hb dX5_does_242 (by decide) ?_
      refine j_remN hx hb (by omega) (by omega) (by omega) dX5_does_244 ?_
      refine jz_ne (tgt := 267) hx hb dX5_does_245 (by decide) (by omega) (fun c245 => ?_) (fun c245 => ?_)
      · refine lv_iconst (v := (nI (0))) hx hb dX5_does_267 (by decide) ?_
        refine j_zret hx hb hr hlocks hH hw (Or.inl rfl) dX5_does_268 ?_
        have e9 : doG σ gp = none := by unfold doG; rw [hw9]; exact if_neg (fun q => by have q1 := q.1; have q2 := q.2.1; first | omega | exact absurd c260 (Int32.not_lt.mpr q.2.2))
        exact ⟨_, rfl, by rw [e9]; rfl, by rw [e9]; exact ⟨⟨_, hTr, hR⟩, hs, hf⟩, x14, sn, tk0, hO, hT8⟩
      · refine lv_aload_n hx hb dX5_does_248 rfl (lv_at hl 4 rfl) ?_
        refine j_get (T := TX5) (N := 16) (k := 8) hx hb hts hinX5 hown hw hO rfl (by decide) (hts (.fieldLink RX5 19 "NightTrainsModel" "trial" "[I") (by decide +kernel)) rfl dX5_does_249 ?_
        refine lv_bipush (v := (nI (50))) hx hb dX5_does_252 (by decide) ?_
        refine lv_iload hx hb dX5_does_254 (lv_at hl 1 rfl) ?_
        refine j_addN hx hb dX5_does_256 ?_
        refine j_iald hx hb hw hTr (k := (50 + ((gp / 1000) % 10))) rfl (by omega) (by omega) dX5_does_257 ?_
        refine j_eq (y := (nI (σ.1 (50 + gp / 1000 % 10)))) (hR.n _ (by omega)) ?_
        refine lv_iload hx hb dX5_does_258 (lv_at hl 0 rfl) ?_
        refine lv_icmp_lt (tgt := 267) hx hb dX5_does_260 (by decide) (fun c260 => ?_) (fun c260 => ?_)
        · refine lv_iconst (v := (nI (0))) hx hb dX5_does_267 (by decide) ?_
          refine j_zret hx hb hr hlocks hH hw (Or.inl rfl) dX5_does_268 ?_
          have e9 : doG σ gp = none := by unfold doG; rw [hw9]; exact if_neg (fun q => by have q1 := q.1; have q2 := q.2.1; first | omega | exact absurd c260 (Int32.not_lt.mpr q.2.2))
          exact ⟨_, rfl, by rw [e9]; rfl, by rw [e9]; exact ⟨⟨_, hTr, hR⟩, hs, hf⟩, x14, sn, tk0, hO, hT8⟩
        · refine lv_iconst (v := (nI (1))) hx hb dX5_does_263 (by decide) ?_
          refine lv_goto (tgt := 268) hx hb dX5_does_264 (by decide) ?_
          refine j_zret hx hb hr hlocks hH hw (Or.inr rfl) dX5_does_268 ?_
          have e9 : doG σ gp = some σ := by unfold doG; rw [hw9]; exact if_pos ⟨by omega, by omega, Int32.not_lt.mp c260⟩
          exact ⟨_, rfl, by rw [e9]; rfl, by rw [e9]; exact ⟨⟨_, hTr, hR⟩, hs, hf⟩, x14, sn, tk0, hO, hT8⟩
  · rw [hw9] at hl
    refine lv_iload_n hx hb dX5_does_30 rfl (lv_at hl 3 rfl) ?_
    refine lv_tableIn (tgt := 269) hx hb dX5_does_31 (by decide) (by decide) (off := 238) (by decide) (by decide) ?_
    refine lv_iload_n hx hb dX5_does_269 rfl (lv_at hl 2 rfl) ?_
    refine jz_ne (tgt := 289) hx hb dX5_does_270 (by decide) (by omega) (fun c270 => ?_) (fun c270 => ?_)
    · refine lv_iconst (v := (nI (0))) hx hb dX5_does_289 (by decide) ?_
      refine j_zret hx hb hr hlocks hH hw (Or.inl rfl) dX5_does_290 ?_
      have e9 : doG σ gp = none := by unfold doG; rw [hw9]; exact if_neg (fun q => by have q1 := q.1; first | omega | exact absurd c282 (Int32.not_lt.mpr q.2))
      exact ⟨_, rfl, by rw [e9]; rfl, by rw [e9]; exact ⟨⟨_, hTr, hR⟩, hs, hf⟩, x14, sn, tk0, hO, hT8⟩
    · refine lv_aload_n hx hb dX5_does_273 rfl (lv_at hl 4 rfl) ?_
      refine j_get (T := TX5) (N := 16) (k := 8) hx hb hts hinX5 hown hw hO rfl (by decide) (hts (.fieldLink RX5 19 "NightTrainsModel" "trial" "[I") (by decide +kernel)) rfl dX5_does_274 ?_
      refine lv_bipush (v := (nI (8))) hx hb dX5_does_277 (by decide) ?_
      refine j_iald hx hb hw hTr (k := 8) rfl (by omega) (by omega) dX5_does_279 ?_
      refine j_eq (y := (nI (σ.1 8))) (hR.n _ (by omega)) ?_
      refine lv_iload hx hb dX5_does_280 (lv_at hl 0 rfl) ?_
      refine lv_icmp_gt (tgt := 289) hx hb dX5_does_282 (by decide) (fun c282 => ?_) (fun c282 => ?_)
      · refine lv_iconst (v := (nI (0))) hx hb dX5_does_289 (by decide) ?_
        refine j_zret hx hb hr hlocks hH hw (Or.inl rfl) dX5_does_290 ?_
        have e9 : doG σ gp = none := by unfold doG; rw [hw9]; exact if_neg (fun q => by have q1 := q.1; first | omega | exact absurd c282 (Int32.not_lt.mpr q.2))
        exact ⟨_, rfl, by rw [e9]; rfl, by rw [e9]; exact ⟨⟨_, hTr, hR⟩, hs, hf⟩, x14, sn, tk0, hO, hT8⟩
      · refine lv_iconst (v := (nI (1))) hx hb dX5_does_285 (by decide) ?_
        refine lv_goto (tgt := 290) hx hb dX5_does_286 (by decide) ?_
        refine j_zret hx hb hr hlocks hH hw (Or.inr rfl) dX5_does_290 ?_
        have e9 : doG σ gp = some σ := by unfold doG; rw [hw9]; exact if_pos ⟨by omega, Int32.not_lt.mp c282⟩
        exact ⟨_, rfl, by rw [e9]; rfl, by rw [e9]; exact ⟨⟨_, hTr, hR⟩, hs, hf⟩, x14, sn, tk0, hO, hT8⟩
  · rw [hw9] at hl
    refine lv_iload_n hx hb dX5_does_30 rfl (lv_at hl 3 rfl) ?_
    refine lv_tableIn (tgt := 291) hx hb dX5_does_31 (by decide) (by decide) (off := 260) (by decide) (by decide) ?_
    refine lv_iload hx hb dX5_does_291 (lv_at hl 1 rfl) ?_
    refine jz_ne (tgt := 315) hx hb dX5_does_293 (by decide) (by omega) (fun c293 => ?_) (fun c293 => ?_)
    · refine lv_iconst (v := (nI (0))) hx hb dX5_does_315 (by decide) ?_
      refine j_zret hx hb hr hlocks hH hw (Or.inl rfl) dX5_does_316 ?_
      have e9 : doG σ gp = none := by unfold doG; rw [hw9]; exact if_neg (fun q => by have q1 := q.1; first | omega | exact absurd c308 (Int32.not_lt.mpr q.2))
      exact ⟨_, rfl, by rw [e9]; rfl, by rw [e9]; exact ⟨⟨_, hTr, hR⟩, hs, hf⟩, x14, sn, tk0, hO, hT8⟩
    · refine lv_aload_n hx hb dX5_does_296 rfl (lv_at hl 4 rfl) ?_
      refine j_get (T := TX5) (N := 16) (k := 8) hx hb hts hinX5 hown hw hO rfl (by decide) (hts (.fieldLink RX5 19 "NightTrainsModel" "trial" "[I") (by decide +kernel)) rfl dX5_does_297 ?_
      refine lv_bipush (v := (nI (10))) hx hb dX5_does_300 (by decide) ?_
      refine j_iald hx hb hw hTr (k := 10) rfl (by omega) (by omega) dX5_does_302 ?_
      refine j_eq (y := (nI (σ.1 10))) (hR.n _ (by omega)) ?_
      refine lv_iload_n hx hb dX5_does_303 rfl (lv_at hl 5 rfl) ?_
      refine lv_sipush (v := (nI (1000))) hx hb dX5_does_304 (by decide) ?_
      refine j_remN hx hb (by omega) (by omega) (by omega) dX5_does_307 ?_
      refine lv_icmp_lt (tgt := 315) hx hb dX5_does_308 (by decide) (fun c308 => ?_) (fun c308 => ?_)
      · refine lv_iconst (v := (nI (0))) hx hb dX5_does_315 (by decide) ?_
        refine j_zret hx hb hr hlocks hH hw (Or.inl rfl) dX5_does_316 ?_
        have e9 : doG σ gp = none := by unfold doG; rw [hw9]; exact if_neg (fun q => by have q1 := q.1; first | omega | exact absurd c308 (Int32.not_lt.mpr q.2))
        exact ⟨_, rfl, by rw [e9]; rfl, by rw [e9]; exact ⟨⟨_, hTr, hR⟩, hs, hf⟩, x14, sn, tk0, hO, hT8⟩
      · refine lv_iconst (v := (nI (1))) hx hb dX5_does_311 (by decide) ?_
        refine lv_goto (tgt := 316) hx hb dX5_does_312 (by decide) ?_
        refine j_zret hx hb hr hlocks hH hw (Or.inr rfl) dX5_does_316 ?_
        have e9 : doG σ gp = some σ := by unfold doG; rw [hw9]; exact if_pos ⟨by omega, Int32.not_lt.mp c308⟩
        exact ⟨_, rfl, by rw [e9]; rfl, by rw [e9]; exact ⟨⟨_, hTr, hR⟩, hs, hf⟩, x14, sn, tk0, hO, hT8⟩
