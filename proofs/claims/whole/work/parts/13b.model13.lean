abbrev q_X5_asks (g : jG) (H0 : Heap) (M : Nat) (cu : Nat) (lt : Nat) (it : Nat) (fe : Nat) (σ : Sg) (f : Nat → Int32) (x0 : Int32) (x2 : Int32) (x3 : Int32) (x4 : Int32) (x5 : Int32) (x10 : Int32) (x14 : Int32) (sn : Bool) : Option Value → Heap → Prop := jN (fun r H1 => r = bI (tAsk σ cu lt it fe).isSome ∧ rTo g (M + 4) ((tAsk σ cu lt it fe).getD σ) H0 H1)
set_option maxHeartbeats 4000000 in
set_option maxRecDepth 100000 in
theorem c_X5_asks (l : Launch) (g : jG) (z : Nat) (H0 : Heap) (M : Nat) (cu : Nat) (lt : Nat) (it : Nat) (fe : Nat) (σ : Sg) (f : Nat → Int32) (x0 : Int32) (x2 : Int32) (x3 : Int32) (x4 : Int32) (x5 : Int32) (x10 : Int32) (x14 : Int32) (sn : Bool) (hzM : z ≤ M) (hO : jO g H0 M 5 [.int x0, .ref (M + 1), .int x2, .int x3, .int x4, .int x5, .ref (M + 2), .ref (M + 3), .ref (M + 4), .ref (M + 5), .int x10, .ref (M + 6), .ref (M + 7), .ref (M + 8), .int x14, .int (bI sn)]) (hTr : jI g H0 (M + 4) 235 f) (hR : Row f σ) (hs : okS σ) (hit : it < 8) (hfe : fe < 10) (hcu : cu < 2 ^ 31) (hlt : lt < 2 ^ 31) : jM l g z yX5_asks wsX5_asks 3 73 [.ref M, .int (nI (cu)), .int (nI (lt)), .int (nI (it)), .int (nI (fe))] H0 (q_X5_asks g H0 M cu lt it fe σ f x0 x2 x3 x4 x5 x10 x14 sn) := by
  refine j_of (cc := cX5_asks) (n := 5) (ret := some .boolean) (by decide) rfl (Nat.le_of_ble_eq_true rfl) ?_
  intro p e s m below meth c hx hb hr hml hown hts hlocks hname hH hw ls hl
  have hl : lv_has ls 5 [(0, .ref M), (1, .int (nI (cu))), (2, .int (nI (lt))), (3, .int (nI (it))), (4, .int (nI (fe)))] := hl
  have hinX5 : ∀ w ∈ u_ws RX5 TX5 16, w ∈ wsX5_asks := by decide +kernel
  have hf : jF (M + 4) 1 H0 H0 := jF.rf
  refine lv_iload_n hx hb dX5_asks_0 rfl (lv_at hl 1 rfl) ?_
  refine lv_iconst (v := (nI (4))) hx hb dX5_asks_1 (by decide) ?_
  refine jn_ge (tgt := 25) hx hb dX5_asks_2 (by decide) (by omega) (by omega) (fun c2 => ?_) (fun c2 => ?_)
  · refine lv_iconst (v := (nI (0))) hx hb dX5_asks_25 (by decide) ?_
    refine j_zret hx hb hr hlocks hH hw (Or.inl rfl) dX5_asks_26 ?_
    have e9 : tAsk σ cu lt it fe = none := by unfold tAsk; exact if_neg (fun q => by first | omega | exact hca q.2.2)
    exact ⟨_, rfl, by rw [e9]; rfl, by rw [e9]; exact ⟨⟨_, hTr, hR⟩, hs, hf⟩⟩
  · refine lv_iload_n hx hb dX5_asks_5 rfl (lv_at hl 2 rfl) ?_
    refine lv_bipush (v := (nI (16))) hx hb dX5_asks_6 (by decide) ?_
    refine jn_ge (tgt := 25) hx hb dX5_asks_8 (by decide) (by omega) (by omega) (fun c8 => ?_) (fun c8 => ?_)
    · refine lv_iconst (v := (nI (0))) hx hb dX5_asks_25 (by decide) ?_
      refine j_zret hx hb hr hlocks hH hw (Or.inl rfl) dX5_asks_26 ?_
      have e9 : tAsk σ cu lt it fe = none := by unfold tAsk; exact if_neg (fun q => by first | omega | exact hca q.2.2)
      exact ⟨_, rfl, by rw [e9]; rfl, by rw [e9]; exact ⟨⟨_, hTr, hR⟩, hs, hf⟩⟩
    · have hcu4 : cu < 4 := by omega
      have hlt16 : lt < 16 := by omega
      refine lv_aload_n hx hb dX5_asks_11 rfl (lv_at hl 0 rfl) ?_
      refine j_get (T := TX5) (N := 16) (k := 8) hx hb hts hinX5 hown hw hO rfl (by decide) (hts (.fieldLink RX5 19 "NightTrainsModel" "trial" "[I") (by decide +kernel)) rfl dX5_asks_12 ?_
      refine lv_iload_n hx hb dX5_asks_15 rfl (lv_at hl 1 rfl) ?_
      refine lv_iload_n hx hb dX5_asks_16 rfl (lv_at hl 2 rfl) ?_
      refine lv_iload hx hb dX5_asks_17 (lv_at hl 4 rfl) ?_
      refine j_Sp (n := 4) (As := [.ref (M + 4), .int (nI (cu)), .int (nI (lt)), .int (nI (fe))]) hx hb hml hown hts hw (c_X5_canAsk l g z H0 (M + 4) (cu) (lt) (fe) (σ) f  hTr hR hs (by first | assumption | omega) (by first | assumption | omega)) gX5_asks_X5_canAsk rfl (by decide +kernel) ⟨Nat.le_of_ble_eq_true rfl, Nat.le_of_ble_eq_true rfl⟩ rfl hl.1 (Nat.le_of_ble_eq_true rfl) ⟨Nat.zero_le _, Nat.zero_le _⟩ dX5_asks_19 (fun r1 locs hca hw => ?_) rfl
      rcases hca with ⟨rfl, hca⟩ | ⟨rfl, hca⟩
      · refine jz_ne (tgt := 27) hx hb dX5_asks_22 (by decide) (by omega) (fun c22 => ?_) (fun c22 => absurd c22 (by omega))
        refine lv_aload_n hx hb dX5_asks_27 rfl (lv_at hl 0 rfl) ?_
        refine j_get (T := TX5) (N := 16) (k := 8) hx hb hts hinX5 hown hw hO rfl (by decide) (hts (.fieldLink RX5 19 "NightTrainsModel" "trial" "[I") (by decide +kernel)) rfl dX5_asks_28 ?_
        refine lv_iload_n hx hb dX5_asks_31 rfl (lv_at hl 1 rfl) ?_
        refine lv_iload_n hx hb dX5_asks_32 rfl (lv_at hl 2 rfl) ?_
        refine lv_iload_n hx hb dX5_asks_33 rfl (lv_at hl 3 rfl) ?_
        refine lv_iload hx hb dX5_asks_34 (lv_at hl 4 rfl) ?_
        refine j_Si (n := 5) (As := [.ref (M + 4), .int (nI (cu)), .int (nI (lt)), .int (nI (it)), .int (nI (fe))]) hx hb hml hown hts hw (c_X5_askIn l g z H0 (M + 4) (cu) (lt) (it) (fe) (σ) f (by omega) hTr hR hs ⟨hcu4, hlt16, hit, hfe, Nat.zero_lt_succ _, Nat.zero_lt_succ _⟩ (hca.imp_right (fun q => by have := q.1; omega))) gX5_asks_X5_askIn rfl (by decide +kernel) ⟨Nat.le_of_ble_eq_true rfl, Nat.le_of_ble_eq_true rfl⟩ rfl hl.1 (Nat.le_of_ble_eq_true rfl) ⟨Nat.zero_le _, Nat.zero_le _⟩ dX5_asks_36 (fun r2 H locs hr2 hw hsz => ?_) rfl
        rcases hr2 with ⟨hfr, rfl, hr2⟩ | ⟨hfr, rfl, hr2⟩
        · obtain ⟨⟨f3, hTr, hR⟩, hs, hf2⟩ := hr2
          have hO := hO.kept (hf2.2 _ (by omega))
          have hf := hf.step hf2 (by omega)
          refine lv_pop hx hb dX5_asks_39 rfl ?_
          refine lv_iconst (v := (nI (1))) hx hb dX5_asks_40 (by decide) ?_
          refine j_zret hx hb hr hlocks hH hw (Or.inr rfl) dX5_asks_41 ?_
          have e9 : tAsk σ cu lt it fe = some (askF σ cu lt it) := by unfold tAsk; exact (if_pos ⟨hcu4, hlt16, hca⟩).trans (congrArg some (if_pos hfr))
          exact ⟨_, rfl, by rw [e9]; rfl, by rw [e9]; exact ⟨⟨_, hTr, hR⟩, hs, hf⟩⟩
        · obtain ⟨⟨f4, hTr, hR⟩, hs, hf2⟩ := hr2
          have hO := hO.kept (hf2.2 _ (by omega))
          have hf := hf.step hf2 (by omega)
          refine lv_pop hx hb dX5_asks_39 rfl ?_
          refine lv_iconst (v := (nI (1))) hx hb dX5_asks_40 (by decide) ?_
          refine j_zret hx hb hr hlocks hH hw (Or.inr rfl) dX5_asks_41 ?_
          have e9 : tAsk σ cu lt it fe = some (askO σ cu lt it fe) := by unfold tAsk; exact (if_pos ⟨hcu4, hlt16, hca⟩).trans (congrArg some (if_neg (by omega)))
          exact ⟨_, rfl, by rw [e9]; rfl, by rw [e9]; exact ⟨⟨_, hTr, hR⟩, hs, hf⟩⟩
      · refine jz_ne (tgt := 27) hx hb dX5_asks_22 (by decide) (by omega) (fun c22 => absurd c22 (by omega)) (fun c22 => ?_)
        refine lv_iconst (v := (nI (0))) hx hb dX5_asks_25 (by decide) ?_
        refine j_zret hx hb hr hlocks hH hw (Or.inl rfl) dX5_asks_26 ?_
        have e9 : tAsk σ cu lt it fe = none := by unfold tAsk; exact if_neg (fun q => by first | omega | exact hca q.2.2)
        exact ⟨_, rfl, by rw [e9]; rfl, by rw [e9]; exact ⟨⟨_, hTr, hR⟩, hs, hf⟩⟩

abbrev q_X5_cancels (g : jG) (H0 : Heap) (M : Nat) (i : Nat) (σ : Sg) (f : Nat → Int32) (x0 : Int32) (x2 : Int32) (x3 : Int32) (x4 : Int32) (x5 : Int32) (x10 : Int32) (x14 : Int32) (sn : Bool) : Option Value → Heap → Prop := jN (fun r H1 => r = bI (tCancel σ i).isSome ∧ rTo g (M + 4) ((tCancel σ i).getD σ) H0 H1)
set_option maxHeartbeats 4000000 in
set_option maxRecDepth 100000 in
theorem c_X5_cancels (l : Launch) (g : jG) (z : Nat) (H0 : Heap) (M : Nat) (i : Nat) (σ : Sg) (f : Nat → Int32) (x0 : Int32) (x2 : Int32) (x3 : Int32) (x4 : Int32) (x5 : Int32) (x10 : Int32) (x14 : Int32) (sn : Bool) (hzM : z ≤ M) (hO : jO g H0 M 5 [.int x0, .ref (M + 1), .int x2, .int x3, .int x4, .int x5, .ref (M + 2), .ref (M + 3), .ref (M + 4), .ref (M + 5), .int x10, .ref (M + 6), .ref (M + 7), .ref (M + 8), .int x14, .int (bI sn)]) (hTr : jI g H0 (M + 4) 235 f) (hR : Row f σ) (hs : okS σ) (hi31 : i < 2 ^ 31) : jM l g z yX5_cancels wsX5_cancels 4 90 [.ref M, .int (nI (i))] H0 (q_X5_cancels g H0 M i σ f x0 x2 x3 x4 x5 x10 x14 sn) := by
  refine j_of (cc := cX5_cancels) (n := 2) (ret := some .boolean) (by decide) rfl (Nat.le_of_ble_eq_true rfl) ?_
  intro p e s m below meth c hx hb hr hml hown hts hlocks hname hH hw ls hl
  have hl : lv_has ls 2 [(0, .ref M), (1, .int (nI (i)))] := hl
  have hinX5 : ∀ w ∈ u_ws RX5 TX5 16, w ∈ wsX5_cancels := by decide +kernel
  have hf : jF (M + 4) 1 H0 H0 := jF.rf
  have hn := hs.2.2.1
  refine lv_iload_n hx hb dX5_cancels_0 rfl (lv_at hl 1 rfl) ?_
  refine lv_aload_n hx hb dX5_cancels_1 rfl (lv_at hl 0 rfl) ?_
  refine j_get (T := TX5) (N := 16) (k := 8) hx hb hts hinX5 hown hw hO rfl (by decide) (hts (.fieldLink RX5 19 "NightTrainsModel" "trial" "[I") (by decide +kernel)) rfl dX5_cancels_2 ?_
  refine lv_bipush (v := (nI (6))) hx hb dX5_cancels_5 (by decide) ?_
  refine j_iald hx hb hw hTr (k := 6) rfl (by omega) (by omega) dX5_cancels_7 ?_
  refine j_eq (y := nI (σ.2.2.1.length)) hR.2.2.1 ?_
  refine jn_lt (tgt := 13) hx hb dX5_cancels_8 (by decide) (by omega) (by omega) (fun c8 => ?_) (fun c8 => ?_)
  · obtain ⟨o, ho⟩ := getO c8
    refine lv_aload_n hx hb dX5_cancels_13 rfl (lv_at hl 0 rfl) ?_
    refine j_get (T := TX5) (N := 16) (k := 8) hx hb hts hinX5 hown hw hO rfl (by decide) (hts (.fieldLink RX5 19 "NightTrainsModel" "trial" "[I") (by decide +kernel)) rfl dX5_cancels_14 ?_
    refine lv_iload_n hx hb dX5_cancels_17 rfl (lv_at hl 1 rfl) ?_
    refine j_Si (n := 2) (As := [.ref (M + 4), .int (nI (i))]) hx hb hml hown hts hw (c_X5_cancelIn l g z H0 (M + 4) (i) (σ) f o (by omega) hTr hR hs ho) gX5_cancels_X5_cancelIn rfl (by decide +kernel) ⟨Nat.le_of_ble_eq_true rfl, Nat.le_of_ble_eq_true rfl⟩ rfl hl.1 (Nat.le_of_ble_eq_true rfl) ⟨Nat.zero_le _, Nat.zero_le _⟩ dX5_cancels_18 (fun r1 H locs hr1 hw hsz => ?_) rfl
    obtain ⟨rfl, hr1⟩ := hr1
    obtain ⟨⟨f2, hTr, hR⟩, hs, hf2⟩ := hr1
    have hO := hO.kept (hf2.2 _ (by omega))
    have hf := hf.step hf2 (by omega)
    refine lv_pop hx hb dX5_cancels_21 rfl ?_
    refine lv_iconst (v := (nI (1))) hx hb dX5_cancels_22 (by decide) ?_
    refine j_zret hx hb hr hlocks hH hw (Or.inr rfl) dX5_cancels_23 ?_
    have e9 : tCancel σ i = some (cancelS σ i o) := by unfold tCancel; rw [ho]
    exact ⟨_, rfl, by rw [e9]; rfl, by rw [e9]; exact ⟨⟨_, hTr, hR⟩, hs, hf⟩⟩
  · refine lv_iconst (v := (nI (0))) hx hb dX5_cancels_11 (by decide) ?_
    refine j_zret hx hb hr hlocks hH hw (Or.inl rfl) dX5_cancels_12 ?_
    have e9 : tCancel σ i = none := by unfold tCancel; rw [List.getElem?_eq_none (by omega)]
    exact ⟨_, rfl, by rw [e9]; rfl, by rw [e9]; exact ⟨⟨_, hTr, hR⟩, hs, hf⟩⟩

abbrev q_X5_raises (g : jG) (H0 : Heap) (M : Nat) (i : Nat) (y : Nat) (σ : Sg) (f : Nat → Int32) (x0 : Int32) (x2 : Int32) (x3 : Int32) (x4 : Int32) (x5 : Int32) (x10 : Int32) (x14 : Int32) (sn : Bool) : Option Value → Heap → Prop := jN (fun r H1 => r = bI (tRaise σ i y).isSome ∧ rTo g (M + 4) ((tRaise σ i y).getD σ) H0 H1)
set_option maxHeartbeats 4000000 in
set_option maxRecDepth 100000 in
theorem c_X5_raises (l : Launch) (g : jG) (z : Nat) (H0 : Heap) (M : Nat) (i : Nat) (y : Nat) (σ : Sg) (f : Nat → Int32) (x0 : Int32) (x2 : Int32) (x3 : Int32) (x4 : Int32) (x5 : Int32) (x10 : Int32) (x14 : Int32) (sn : Bool) (hzM : z ≤ M) (hO : jO g H0 M 5 [.int x0, .ref (M + 1), .int x2, .int x3, .int x4, .int x5, .ref (M + 2), .ref (M + 3), .ref (M + 4), .ref (M + 5), .int x10, .ref (M + 6), .ref (M + 7), .ref (M + 8), .int x14, .int (bI sn)]) (hTr : jI g H0 (M + 4) 235 f) (hR : Row f σ) (hs : okS σ) (hi31 : i < 2 ^ 31) (hy31 : y < 2 ^ 31) : jM l g z yX5_raises wsX5_raises 2 45 [.ref M, .int (nI (i)), .int (nI (y))] H0 (q_X5_raises g H0 M i y σ f x0 x2 x3 x4 x5 x10 x14 sn) := by
  refine j_of (cc := cX5_raises) (n := 3) (ret := some .boolean) (by decide) rfl (Nat.le_of_ble_eq_true rfl) ?_
  intro p e s m below meth c hx hb hr hml hown hts hlocks hname hH hw ls hl
  have hl : lv_has ls 3 [(0, .ref M), (1, .int (nI (i))), (2, .int (nI (y)))] := hl
  have hinX5 : ∀ w ∈ u_ws RX5 TX5 16, w ∈ wsX5_raises := by decide +kernel
  have hf : jF (M + 4) 1 H0 H0 := jF.rf
  have hn := hs.2.2.1
  refine lv_iload_n hx hb dX5_raises_0 rfl (lv_at hl 1 rfl) ?_
  refine lv_aload_n hx hb dX5_raises_1 rfl (lv_at hl 0 rfl) ?_
  refine j_get (T := TX5) (N := 16) (k := 8) hx hb hts hinX5 hown hw hO rfl (by decide) (hts (.fieldLink RX5 19 "NightTrainsModel" "trial" "[I") (by decide +kernel)) rfl dX5_raises_2 ?_
  refine lv_bipush (v := (nI (6))) hx hb dX5_raises_5 (by decide) ?_
  refine j_iald hx hb hw hTr (k := 6) rfl (by omega) (by omega) dX5_raises_7 ?_
  refine j_eq (y := nI (σ.2.2.1.length)) hR.2.2.1 ?_
  refine jn_ge (tgt := 30) hx hb dX5_raises_8 (by decide) (by omega) (by omega) (fun c8 => ?_) (fun c8 => ?_)
  · refine lv_iconst (v := (nI (0))) hx hb dX5_raises_30 (by decide) ?_
    refine j_zret hx hb hr hlocks hH hw (Or.inl rfl) dX5_raises_31 ?_
    have e9 : tRaise σ i y = none := by first | exact tRaise_none (by omega) | (unfold tRaise; exact if_neg hn8) | (unfold tRaise; rw [if_pos (show _ ∧ _ from ⟨hja, hjn⟩), ho]; exact if_neg hcr)
    exact ⟨_, rfl, by rw [e9]; rfl, by rw [e9]; exact ⟨⟨_, hTr, hR⟩, hs, hf⟩⟩
  · refine lv_iload_n hx hb dX5_raises_11 rfl (lv_at hl 2 rfl) ?_
    refine j_Sp (n := 1) (As := [.int (nI (y))]) hx hb hml hown hts hw (c_X5_isRaise l g z H0 (nI (y))   ) gX5_raises_X5_isRaise rfl (by decide +kernel) ⟨Nat.le_of_ble_eq_true rfl, Nat.le_of_ble_eq_true rfl⟩ rfl hl.1 (Nat.le_of_ble_eq_true rfl) ⟨Nat.zero_le _, Nat.zero_le _⟩ dX5_raises_12 (fun r1 locs hr1 hw => ?_) rfl
    rcases hr1 with ⟨rfl, j9, hj9, hja, hjn, he9⟩ | ⟨rfl, hn9⟩
    · obtain rfl : y = j9 := (nI_eq (by omega) (by omega)).mp he9
      refine jz_eq (tgt := 30) hx hb dX5_raises_15 (by decide) (by omega) (fun c15 => absurd c15 (by omega)) (fun c15 => ?_)
      obtain ⟨o, ho⟩ := getO (L := σ.2.2.1) (k := i) (by omega)
      refine lv_aload_n hx hb dX5_raises_18 rfl (lv_at hl 0 rfl) ?_
      refine j_get (T := TX5) (N := 16) (k := 8) hx hb hts hinX5 hown hw hO rfl (by decide) (hts (.fieldLink RX5 19 "NightTrainsModel" "trial" "[I") (by decide +kernel)) rfl dX5_raises_19 ?_
      refine lv_iload_n hx hb dX5_raises_22 rfl (lv_at hl 1 rfl) ?_
      refine lv_iload_n hx hb dX5_raises_23 rfl (lv_at hl 2 rfl) ?_
      refine j_Sp (n := 3) (As := [.ref (M + 4), .int (nI (i)), .int (nI (y))]) hx hb hml hown hts hw (c_X5_canRaise l g z H0 (M + 4) (i) (y) (σ) f o  hTr hR hs ho (by first | assumption | omega)) gX5_raises_X5_canRaise rfl (by decide +kernel) ⟨Nat.le_of_ble_eq_true rfl, Nat.le_of_ble_eq_true rfl⟩ rfl hl.1 (Nat.le_of_ble_eq_true rfl) ⟨Nat.zero_le _, Nat.zero_le _⟩ dX5_raises_24 (fun r2 locs hcr hw => ?_) rfl
      rcases hcr with ⟨rfl, hcr⟩ | ⟨rfl, hcr⟩
      · refine jz_ne (tgt := 32) hx hb dX5_raises_27 (by decide) (by omega) (fun c27 => ?_) (fun c27 => absurd c27 (by omega))
        have hcr1 := hcr.1
        refine lv_aload_n hx hb dX5_raises_32 rfl (lv_at hl 0 rfl) ?_
        refine j_get (T := TX5) (N := 16) (k := 8) hx hb hts hinX5 hown hw hO rfl (by decide) (hts (.fieldLink RX5 19 "NightTrainsModel" "trial" "[I") (by decide +kernel)) rfl dX5_raises_33 ?_
        refine lv_iload_n hx hb dX5_raises_36 rfl (lv_at hl 1 rfl) ?_
        refine lv_iload_n hx hb dX5_raises_37 rfl (lv_at hl 2 rfl) ?_
        refine j_Si (n := 3) (As := [.ref (M + 4), .int (nI (i)), .int (nI (y))]) hx hb hml hown hts hw (c_X5_raiseIn l g z H0 (M + 4) (i) (y) (σ) f o (by omega) hTr hR hs ho hcr1) gX5_raises_X5_raiseIn rfl (by decide +kernel) ⟨Nat.le_of_ble_eq_true rfl, Nat.le_of_ble_eq_true rfl⟩ rfl hl.1 (Nat.le_of_ble_eq_true rfl) ⟨Nat.zero_le _, Nat.zero_le _⟩ dX5_raises_38 (fun r3 H locs hr3 hw hsz => ?_) rfl
        obtain ⟨rfl, hr3⟩ := hr3
        obtain ⟨⟨f4, hTr, hR⟩, hs, hf2⟩ := hr3
        have hO := hO.kept (hf2.2 _ (by omega))
        have hf := hf.step hf2 (by omega)
        refine lv_pop hx hb dX5_raises_41 rfl ?_
        refine lv_iconst (v := (nI (1))) hx hb dX5_raises_42 (by decide) ?_
        refine j_zret hx hb hr hlocks hH hw (Or.inr rfl) dX5_raises_43 ?_
        have e9 : tRaise σ i y = some (raiseS σ i o y) := by unfold tRaise; rw [if_pos (show _ ∧ _ from ⟨hja, hjn⟩), ho]; exact if_pos hcr
        exact ⟨_, rfl, by rw [e9]; rfl, by rw [e9]; exact ⟨⟨_, hTr, hR⟩, hs, hf⟩⟩
      · refine jz_ne (tgt := 32) hx hb dX5_raises_27 (by decide) (by omega) (fun c27 => absurd c27 (by omega)) (fun c27 => ?_)
        refine lv_iconst (v := (nI (0))) hx hb dX5_raises_30 (by decide) ?_
        refine j_zret hx hb hr hlocks hH hw (Or.inl rfl) dX5_raises_31 ?_
        have e9 : tRaise σ i y = none := by first | exact tRaise_none (by omega) | (unfold tRaise; exact if_neg hn8) | (unfold tRaise; rw [if_pos (show _ ∧ _ from ⟨hja, hjn⟩), ho]; exact if_neg hcr)
        exact ⟨_, rfl, by rw [e9]; rfl, by rw [e9]; exact ⟨⟨_, hTr, hR⟩, hs, hf⟩⟩
    · have hn8 : ¬ (1 ≤ y ∧ y < 10) := fun q => by rw [ix_nI q.1 q.2 (by decide)] at hn9; cases hn9
      refine jz_eq (tgt := 30) hx hb dX5_raises_15 (by decide) (by omega) (fun c15 => ?_) (fun c15 => absurd c15 (by omega))
      refine lv_iconst (v := (nI (0))) hx hb dX5_raises_30 (by decide) ?_
      refine j_zret hx hb hr hlocks hH hw (Or.inl rfl) dX5_raises_31 ?_
      have e9 : tRaise σ i y = none := by first | exact tRaise_none (by omega) | (unfold tRaise; exact if_neg hn8) | (unfold tRaise; rw [if_pos (show _ ∧ _ from ⟨hja, hjn⟩), ho]; exact if_neg hcr)
      exact ⟨_, rfl, by rw [e9]; rfl, by rw [e9]; exact ⟨⟨_, hTr, hR⟩, hs, hf⟩⟩

abbrev q_X5_sets (g : jG) (H0 : Heap) (M : Nat) (x : Nat) (v : Nat) (σ : Sg) (f : Nat → Int32) (x0 : Int32) (x2 : Int32) (x3 : Int32) (x4 : Int32) (x5 : Int32) (x10 : Int32) (x14 : Int32) (sn : Bool) : Option Value → Heap → Prop := jN (fun r H1 => r = bI (tSet σ x v).isSome ∧ rTo g (M + 4) ((tSet σ x v).getD σ) H0 H1)
set_option maxHeartbeats 4000000 in
set_option maxRecDepth 100000 in
theorem c_X5_sets (l : Launch) (g : jG) (z : Nat) (H0 : Heap) (M : Nat) (x : Nat) (v : Nat) (σ : Sg) (f : Nat → Int32) (x0 : Int32) (x2 : Int32) (x3 : Int32) (x4 : Int32) (x5 : Int32) (x10 : Int32) (x14 : Int32) (sn : Bool) (hzM : z ≤ M) (hO : jO g H0 M 5 [.int x0, .ref (M + 1), .int x2, .int x3, .int x4, .int x5, .ref (M + 2), .ref (M + 3), .ref (M + 4), .ref (M + 5), .int x10, .ref (M + 6), .ref (M + 7), .ref (M + 8), .int x14, .int (bI sn)]) (hTr : jI g H0 (M + 4) 235 f) (hR : Row f σ) (hs : okS σ) (hx31 : x < 2 ^ 31) (hv31 : v < 2 ^ 31) : jM l g z yX5_sets wsX5_sets 2 46 [.ref M, .int (nI (x)), .int (nI (v))] H0 (q_X5_sets g H0 M x v σ f x0 x2 x3 x4 x5 x10 x14 sn) := by
  refine j_of (cc := cX5_sets) (n := 3) (ret := some .boolean) (by decide) rfl (Nat.le_of_ble_eq_true rfl) ?_
  intro p e s m below meth c hx hb hr hml hown hts hlocks hname hH hw ls hl
  have hl : lv_has ls 3 [(0, .ref M), (1, .int (nI (x))), (2, .int (nI (v)))] := hl
  have hinX5 : ∀ w ∈ u_ws RX5 TX5 16, w ∈ wsX5_sets := by decide +kernel
  have hf : jF (M + 4) 1 H0 H0 := jF.rf
  refine lv_iload_n hx hb dX5_sets_0 rfl (lv_at hl 1 rfl) ?_
  refine lv_iload_n hx hb dX5_sets_1 rfl (lv_at hl 2 rfl) ?_
  refine j_Sp (n := 2) (As := [.int (nI (x)), .int (nI (v))]) hx hb hml hown hts hw (c_X5_isSetting l g z H0 (nI (x)) (nI (v))   ) gX5_sets_X5_isSetting rfl (by decide +kernel) ⟨Nat.le_of_ble_eq_true rfl, Nat.le_of_ble_eq_true rfl⟩ rfl hl.1 (Nat.le_of_ble_eq_true rfl) ⟨Nat.zero_le _, Nat.zero_le _⟩ dX5_sets_2 (fun r1 locs hr1 hw => ?_) rfl
  rcases hr1 with ⟨rfl, k9, u9, hk9, hkn, hke, hu9, hua, hun, hue⟩ | ⟨rfl, hno⟩
  · obtain rfl : x = k9 := (nI_eq (by omega) (by omega)).mp hke
    have hib : hiS x ≤ 9 := by unfold hiS; split <;> decide
    obtain rfl : v = u9 := (nI_eq (by omega) (by omega)).mp hue
    refine jz_ne (tgt := 10) hx hb dX5_sets_5 (by decide) (by omega) (fun c5 => ?_) (fun c5 => absurd c5 (by omega))
    refine lv_aload_n hx hb dX5_sets_10 rfl (lv_at hl 0 rfl) ?_
    refine j_get (T := TX5) (N := 16) (k := 8) hx hb hts hinX5 hown hw hO rfl (by decide) (hts (.fieldLink RX5 19 "NightTrainsModel" "trial" "[I") (by decide +kernel)) rfl dX5_sets_11 ?_
    refine lv_iload_n hx hb dX5_sets_14 rfl (lv_at hl 1 rfl) ?_
    refine lv_iload_n hx hb dX5_sets_15 rfl (lv_at hl 2 rfl) ?_
    refine j_iast hx hb hw hTr (by omega) (k := x) rfl (by omega) (by omega) dX5_sets_16 (fun H locs hw hTr oq hsz => ?_)
    obtain ⟨f2, ef2⟩ : ∃ y9, y9 = upd f (x) (nI (v)) := ⟨_, rfl⟩
    rw [← ef2] at hTr
    have hO := hO.kept (oq _ (by omega))
    have hf := hf.put oq hsz (by omega)
    have hR := hR.sn (k := x) (v := v) (by omega) rfl
    rw [← ef2] at hR
    have hs := okS_set hs hkn hua (Or.inl (Nat.lt_succ_iff.mp hun))
    refine lv_iconst (v := (nI (1))) hx hb dX5_sets_17 (by decide) ?_
    refine j_zret hx hb hr hlocks hH hw (Or.inr rfl) dX5_sets_18 ?_
    have e9 : tSet σ x v = some (upn σ x v) := by unfold tSet; exact if_pos ⟨hkn, hua, Nat.lt_succ_iff.mp hun⟩
    exact ⟨_, rfl, by rw [e9]; rfl, by rw [e9]; exact ⟨⟨_, hTr, hR⟩, hs, hf⟩⟩
  · have hn8 : ¬ (x < 5 ∧ loS x ≤ v ∧ v ≤ hiS x) := fun q => by
      have h5 := ix_nI (a := 0) (Nat.zero_le _) q.1 (by decide)
      have hib : hiS x ≤ 9 := by unfold hiS; split <;> decide
      have h6 := ix_nI (n := hiS x + 1) q.2.1 (Nat.lt_succ_of_le q.2.2) (by omega)
      rcases hno with h | ⟨k, h1, h2⟩
      · rw [h5] at h; cases h
      · rw [h5] at h1; cases h1; rw [h6] at h2; cases h2
    refine jz_ne (tgt := 10) hx hb dX5_sets_5 (by decide) (by omega) (fun c5 => absurd c5 (by omega)) (fun c5 => ?_)
    refine lv_iconst (v := (nI (0))) hx hb dX5_sets_8 (by decide) ?_
    refine j_zret hx hb hr hlocks hH hw (Or.inl rfl) dX5_sets_9 ?_
    have e9 : tSet σ x v = none := by unfold tSet; exact if_neg hn8
    exact ⟨_, rfl, by rw [e9]; rfl, by rw [e9]; exact ⟨⟨_, hTr, hR⟩, hs, hf⟩⟩

abbrev q_X5_goes (g : jG) (H0 : Heap) (M : Nat) (n : Nat) (σ : Sg) (f : Nat → Int32) (x0 : Int32) (x2 : Int32) (x3 : Int32) (x4 : Int32) (x5 : Int32) (x10 : Int32) (x14 : Int32) (sn : Bool) (tk0 : Nat → Int32) : Option Value → Heap → Prop := jN (fun r H1 => r = bI (tNights σ n).isSome ∧ rTo3 g M (M + 4) ((tNights σ n).getD σ) H0 H1 ∧ ∃ y14 sn1 tk, jO g H1 M 5 [.int x0, .ref (M + 1), .int x2, .int x3, .int x4, .int x5, .ref (M + 2), .ref (M + 3), .ref (M + 4), .ref (M + 5), .int x10, .ref (M + 6), .ref (M + 7), .ref (M + 8), .int y14, .int (bI sn1)] ∧ jI g H1 (M + 8) 16 tk)
set_option maxHeartbeats 4000000 in
set_option maxRecDepth 100000 in
theorem c_X5_goes (l : Launch) (g : jG) (z : Nat) (H0 : Heap) (M : Nat) (n : Nat) (σ : Sg) (f : Nat → Int32) (x0 : Int32) (x2 : Int32) (x3 : Int32) (x4 : Int32) (x5 : Int32) (x10 : Int32) (x14 : Int32) (sn : Bool) (tk0 : Nat → Int32) (hzM : z ≤ M) (hO : jO g H0 M 5 [.int x0, .ref (M + 1), .int x2, .int x3, .int x4, .int x5, .ref (M + 2), .ref (M + 3), .ref (M + 4), .ref (M + 5), .int x10, .ref (M + 6), .ref (M + 7), .ref (M + 8), .int x14, .int (bI sn)]) (hTr : jI g H0 (M + 4) 235 f) (hT8 : jI g H0 (M + 8) 16 tk0) (hR : Row f σ) (hs : okS σ) (hcalm : ∀ o ∈ σ.2.2.1, o 4 < 9) (hn31 : n < 2 ^ 31) : jM l g z yX5_goes wsX5_goes 5 119 [.ref M, .int (nI (n))] H0 (q_X5_goes g H0 M n σ f x0 x2 x3 x4 x5 x10 x14 sn tk0) := by
  refine j_of (cc := cX5_goes) (n := 2) (ret := some .boolean) (by decide) rfl (Nat.le_of_ble_eq_true rfl) ?_
  intro p e s m below meth c hx hb hr hml hown hts hlocks hname hH hw ls hl
  have hl : lv_has ls 2 [(0, .ref M), (1, .int (nI (n)))] := hl
  have hinX5 : ∀ w ∈ u_ws RX5 TX5 16, w ∈ wsX5_goes := by decide +kernel
  have hf : jF3 M (M + 4) (M + 8) H0 H0 := jF3.rf
  refine lv_iload_n hx hb dX5_goes_0 rfl (lv_at hl 1 rfl) ?_
  refine j_Sp (n := 1) (As := [.int (nI (n))]) hx hb hml hown hts hw (c_X5_isNights l g z H0 (nI (n))   ) gX5_goes_X5_isNights rfl (by decide +kernel) ⟨Nat.le_of_ble_eq_true rfl, Nat.le_of_ble_eq_true rfl⟩ rfl hl.1 (Nat.le_of_ble_eq_true rfl) ⟨Nat.zero_le _, Nat.zero_le _⟩ dX5_goes_1 (fun r1 locs hr1 hw => ?_) rfl
  rcases hr1 with ⟨rfl, j9, hj9, hja, hjn, he9⟩ | ⟨rfl, hn9⟩
  · obtain rfl : n = j9 := (nI_eq (by omega) (by omega)).mp he9
    refine jz_ne (tgt := 9) hx hb dX5_goes_4 (by decide) (by omega) (fun c4 => ?_) (fun c4 => absurd c4 (by omega))
    refine lv_aload_n hx hb dX5_goes_9 rfl (lv_at hl 0 rfl) ?_
    refine lv_aload_n hx hb dX5_goes_10 rfl (lv_at hl 0 rfl) ?_
    refine j_get (T := TX5) (N := 16) (k := 8) hx hb hts hinX5 hown hw hO rfl (by decide) (hts (.fieldLink RX5 19 "NightTrainsModel" "trial" "[I") (by decide +kernel)) rfl dX5_goes_11 ?_
    refine lv_iload_n hx hb dX5_goes_14 rfl (lv_at hl 1 rfl) ?_
    refine j_Vi (n := 2) (As := [.ref (M + 4), .int (nI (n))]) hx hb hml hown hts hw (j_recv hw hO rfl) (c_X5_nightsIn l g z H0 M (M + 4) (n) (σ) f x0 x2 x3 x4 x5 x10 x14 _ tk0 hzM (by omega) (by omega) hO hTr hT8 hR hs hcalm (by omega)) gX5_goes_X5_nightsIn rfl (by decide +kernel) ⟨Nat.le_of_ble_eq_true rfl, Nat.le_of_ble_eq_true rfl⟩ rfl hl.1 (Nat.le_of_ble_eq_true rfl) ⟨Nat.zero_le _, Nat.zero_le _⟩ dX5_goes_15 (fun r2 H locs hr2 hw hsz => ?_) rfl
    obtain ⟨hr2, ⟨⟨f3, hTr, hR⟩, hs, hf2⟩, y5, b6, tk4, hO, hT8⟩ := hr2
    have hf := hf.cat hf2
    refine lv_pop hx hb dX5_goes_18 rfl ?_
    refine lv_iconst (v := (nI (1))) hx hb dX5_goes_19 (by decide) ?_
    refine j_zret hx hb hr hlocks hH hw (Or.inr rfl) dX5_goes_20 ?_
    have e9 : tNights σ n = some (nightsS n σ) := by unfold tNights; exact if_pos ⟨hja, hjn⟩
    exact ⟨_, rfl, by rw [e9]; rfl, by rw [e9]; exact ⟨⟨_, hTr, hR⟩, hs, hf⟩, y5, b6, tk4, hO, hT8⟩
  · have hn8 : ¬ (1 ≤ n ∧ n < 31) := fun q => by rw [ix_nI q.1 q.2 (by decide)] at hn9; cases hn9
    refine jz_ne (tgt := 9) hx hb dX5_goes_4 (by decide) (by omega) (fun c4 => absurd c4 (by omega)) (fun c4 => ?_)
    refine lv_iconst (v := (nI (0))) hx hb dX5_goes_7 (by decide) ?_
    refine j_zret hx hb hr hlocks hH hw (Or.inl rfl) dX5_goes_8 ?_
    have e9 : tNights σ n = none := by unfold tNights; exact if_neg hn8
    exact ⟨_, rfl, by rw [e9]; rfl, by rw [e9]; exact ⟨⟨_, hTr, hR⟩, hs, hf⟩, x14, sn, tk0, hO, hT8⟩
