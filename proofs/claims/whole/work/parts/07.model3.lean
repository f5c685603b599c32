abbrev q_X5_payBack (g : jG) (H0 : Heap) (row : Nat) (i : Nat) (σ : Sg) (f : Nat → Int32) (o : Od) : Option Value → Heap → Prop := jV (fun H1 => rTo g row (payS σ i o) H0 H1)
set_option maxHeartbeats 4000000 in
set_option maxRecDepth 100000 in
theorem c_X5_payBack (l : Launch) (g : jG) (z : Nat) (H0 : Heap) (row : Nat) (i : Nat) (σ : Sg) (f : Nat → Int32) (o : Od) (hz : z ≤ row) (hA : jI g H0 row 235 f) (hR : Row f σ) (hs : okS σ) (ho : σ.2.2.1[i]? = some o) : jM l g z yX5_payBack wsX5_payBack 2 46 [.ref row, .int (nI (i))] H0 (q_X5_payBack g H0 row i σ f o) := by
  refine j_of (cc := cX5_payBack) (n := 3) (ret := none) (by decide) rfl (Nat.le_of_ble_eq_true rfl) ?_
  intro p e s m below meth c hx hb hr hml hown hts hlocks hname hH hw ls hl
  have hl : lv_has ls 3 [(0, .ref row), (1, .int (nI (i)))] := hl
  have hf : jF row 1 H0 H0 := jF.rf
  have hoo := hs.2.2.2.1 o (memO ho)
  have ho0 := hoo.1
  have ho1 := hoo.2.1
  have ho3 := hoo.2.2.2.1
  have hn := hs.2.2.1
  have hi := lenlt ho
  refine lv_aload_n hx hb dX5_payBack_0 rfl (lv_at hl 0 rfl) ?_
  refine lv_iload_n hx hb dX5_payBack_1 rfl (lv_at hl 1 rfl) ?_
  refine lv_iconst (v := (nI (3))) hx hb dX5_payBack_2 (by decide) ?_
  refine j_Sp (n := 2) (As := [.int (nI (i)), .int (nI (3))]) hx hb hml hown hts hw (c_X5_at l g z H0 (i) (3)   ) gX5_payBack_X5_at rfl (by decide +kernel) ⟨Nat.le_of_ble_eq_true rfl, Nat.le_of_ble_eq_true rfl⟩ rfl hl.1 (Nat.le_of_ble_eq_true rfl) ⟨Nat.zero_le _, Nat.zero_le _⟩ dX5_payBack_3 (fun r1 locs hr1 hw => ?_) rfl
  obtain rfl : r1 = (nI (109 + 6 * (i) + (3))) := hr1
  refine j_iald hx hb hw hA (k := 109 + 6 * (i) + (3)) rfl (by omega) (by omega) dX5_payBack_6 ?_
  refine j_eq (y := nI (o 3)) (hR.o ho 3 (by omega) (by omega)) ?_
  refine lv_istore_n (lv' := [(2, .int _), (0, .ref _), (1, .int _)]) hx hb dX5_payBack_7 rfl hl (by decide) rfl (fun ls hl => ?_)
  refine lv_aload_n hx hb dX5_payBack_8 rfl (lv_at hl 1 rfl) ?_
  refine lv_bipush (v := (nI (46))) hx hb dX5_payBack_9 (by decide) ?_
  refine lv_aload_n hx hb dX5_payBack_11 rfl (lv_at hl 1 rfl) ?_
  refine lv_iload_n hx hb dX5_payBack_12 rfl (lv_at hl 2 rfl) ?_
  refine lv_iconst (v := (nI (0))) hx hb dX5_payBack_13 (by decide) ?_
  refine j_Sp (n := 2) (As := [.int (nI (i)), .int (nI (0))]) hx hb hml hown hts hw (c_X5_at l g z H0 (i) (0)   ) gX5_payBack_X5_at rfl (by decide +kernel) ⟨Nat.le_of_ble_eq_true rfl, Nat.le_of_ble_eq_true rfl⟩ rfl hl.1 (Nat.le_of_ble_eq_true rfl) ⟨Nat.zero_le _, Nat.zero_le _⟩ dX5_payBack_14 (fun r2 locs hr2 hw => ?_) rfl
  obtain rfl : r2 = (nI (109 + 6 * (i) + (0))) := hr2
  refine j_iald hx hb hw hA (k := 109 + 6 * (i) + (0)) rfl (by omega) (by omega) dX5_payBack_17 ?_
  refine j_eq (y := nI (o 0)) (hR.o ho 0 (by omega) (by omega)) ?_
  refine j_addN hx hb dX5_payBack_18 ?_
  refine lv_dup2_11 hx hb dX5_payBack_19 rfl rfl ?_
  refine j_iald hx hb hw hA (k := (46 + o 0)) rfl (by omega) (by omega) dX5_payBack_20 ?_
  refine j_eq (y := (σ.2.1 (o 0))) (hR.p (o 0) ho0 rfl) ?_
  refine lv_iload_n hx hb dX5_payBack_21 rfl (lv_at hl 0 rfl) ?_
  refine lv_iadd hx hb dX5_payBack_22 ?_
  refine j_iast hx hb hw hA hz (k := (46 + o 0)) rfl (by omega) (by omega) dX5_payBack_23 (fun H locs hw hA oq hsz => ?_)
  obtain ⟨f3, ef3⟩ : ∃ y9, y9 = upd f ((46 + o 0)) ((σ.2.1 (o 0)) + (nI (o 3))) := ⟨_, rfl⟩
  rw [← ef3] at hA
  have hf := hf.put oq hsz (by omega)
  have hR := hR.sp (c := o 0) (y := (σ.2.1 (o 0) + nI (o 3))) ho0 rfl rfl
  rw [← ef3] at hR
  have hs := hs.sp (c := o 0) (x := (σ.2.1 (o 0) + nI (o 3)))
  refine lv_aload_n hx hb dX5_payBack_24 rfl (lv_at hl 1 rfl) ?_
  refine lv_bipush (v := (nI (11))) hx hb dX5_payBack_25 (by decide) ?_
  refine lv_dup2_11 hx hb dX5_payBack_27 rfl rfl ?_
  refine j_iald hx hb hw hA (k := 11) rfl (by omega) (by omega) dX5_payBack_28 ?_
  refine j_eq (y := nI (σ.1 11)) (hR.n 11 (by omega)) ?_
  refine lv_iload_n hx hb dX5_payBack_29 rfl (lv_at hl 0 rfl) ?_
  refine j_addN hx hb dX5_payBack_30 ?_
  refine j_iast hx hb hw hA hz (k := 11) rfl (by omega) (by omega) dX5_payBack_31 (fun H locs hw hA oq hsz => ?_)
  obtain ⟨f4, ef4⟩ : ∃ y9, y9 = upd f3 (11) (nI ((σ.1 11 + o 3))) := ⟨_, rfl⟩
  rw [← ef4] at hA
  have hf := hf.put oq hsz (by omega)
  have hR := hR.sn (k := 11) (v := σ.1 11 + o 3) (by omega) rfl
  rw [← ef4] at hR
  have hs := hs.sn (k := 11) (v := σ.1 11 + o 3) (by omega)
  refine lv_aload_n hx hb dX5_payBack_32 rfl (lv_at hl 1 rfl) ?_
  refine lv_iload_n hx hb dX5_payBack_33 rfl (lv_at hl 2 rfl) ?_
  refine j_Sv (n := 2) (As := [.ref row, .int (nI (i))]) hx hb hml hown hts hw (c_X5_closeOrder l g z H row (i) ((upn (upp σ (o 0) ((σ.2.1 (o 0) + nI (o 3)))) (11) (σ.1 11 + o 3))) f4 hz hA hR hs (by first | assumption | omega)) gX5_payBack_X5_closeOrder rfl (by decide +kernel) ⟨Nat.le_of_ble_eq_true rfl, Nat.le_of_ble_eq_true rfl⟩ rfl hl.1 (Nat.le_of_ble_eq_true rfl) ⟨Nat.zero_le _, Nat.zero_le _⟩ dX5_payBack_34 (fun H locs hr5 hw hsz => ?_) rfl
  obtain ⟨⟨f6, hA, hR⟩, hs, hf2⟩ := hr5
  have hf := hf.step hf2 (by omega)
  refine j_vret hx hb hr hlocks hH hw dX5_payBack_37 ?_
  exact ⟨rfl, ⟨_, hA, hR⟩, hs, hf⟩

abbrev q_X5_canAsk (g : jG) (H0 : Heap) (row : Nat) (cu : Nat) (lt : Nat) (fe : Nat) (σ : Sg) (f : Nat → Int32) : Option Value → Heap → Prop := jN (fun r H1 => H1 = H0 ∧ ((r = nI 1 ∧ canS σ cu lt fe) ∨ (r = nI 0 ∧ ¬ canS σ cu lt fe)))
set_option maxHeartbeats 4000000 in
set_option maxRecDepth 100000 in
theorem c_X5_canAsk (l : Launch) (g : jG) (z : Nat) (H0 : Heap) (row : Nat) (cu : Nat) (lt : Nat) (fe : Nat) (σ : Sg) (f : Nat → Int32) (hA : jI g H0 row 235 f) (hR : Row f σ) (hs : okS σ) (hc : cu < 4) (hlt : lt < 16) : jM l g z yX5_canAsk wsX5_canAsk 1 21 [.ref row, .int (nI (cu)), .int (nI (lt)), .int (nI (fe))] H0 (q_X5_canAsk g H0 row cu lt fe σ f) := by
  refine j_of (cc := cX5_canAsk) (n := 4) (ret := some .boolean) (by decide) rfl (Nat.le_of_ble_eq_true rfl) ?_
  intro p e s m below meth c hx hb hr hml hown hts hlocks hname hH hw ls hl
  have hl : lv_has ls 4 [(0, .ref row), (1, .int (nI (cu))), (2, .int (nI (lt))), (3, .int (nI (fe)))] := hl
  have hn := hs.2.2.1
  refine lv_aload_n hx hb dX5_canAsk_0 rfl (lv_at hl 0 rfl) ?_
  refine lv_iload_n hx hb dX5_canAsk_1 rfl (lv_at hl 2 rfl) ?_
  refine j_Sp (n := 2) (As := [.ref row, .int (nI (lt))]) hx hb hml hown hts hw (c_X5_isFront l g z H0 row (lt) (σ) f  hA hR hs (by first | assumption | omega)) gX5_canAsk_X5_isFront rfl (by decide +kernel) ⟨Nat.le_of_ble_eq_true rfl, Nat.le_of_ble_eq_true rfl⟩ rfl hl.1 (Nat.le_of_ble_eq_true rfl) ⟨Nat.zero_le _, Nat.zero_le _⟩ dX5_canAsk_2 (fun r1 locs hr1 hw => ?_) rfl
  rcases hr1 with ⟨rfl, hr1⟩ | ⟨rfl, hr1⟩
  · refine jz_ne (tgt := 27) hx hb dX5_canAsk_5 (by decide) (by omega) (fun c5 => ?_) (fun c5 => absurd c5 (by omega))
    refine lv_iconst (v := (nI (1))) hx hb dX5_canAsk_27 (by decide) ?_
    refine lv_goto (tgt := 32) hx hb dX5_canAsk_28 (by decide) ?_
    refine j_zret hx hb hr hlocks hH hw (Or.inr rfl) dX5_canAsk_32 ?_
    exact ⟨_, rfl, rfl, Or.inl ⟨rfl, by unfold canS; first | exact Or.inl hr1 | exact Or.inr ⟨by omega, Int32.not_lt.mp c24⟩⟩⟩
  · refine jz_ne (tgt := 27) hx hb dX5_canAsk_5 (by decide) (by omega) (fun c5 => absurd c5 (by omega)) (fun c5 => ?_)
    refine lv_aload_n hx hb dX5_canAsk_8 rfl (lv_at hl 0 rfl) ?_
    refine lv_bipush (v := (nI (6))) hx hb dX5_canAsk_9 (by decide) ?_
    refine j_iald hx hb hw hA (k := 6) rfl (by omega) (by omega) dX5_canAsk_11 ?_
    refine j_eq (y := nI (σ.2.2.1.length)) hR.2.2.1 ?_
    refine lv_bipush (v := (nI (20))) hx hb dX5_canAsk_12 (by decide) ?_
    refine jn_ge (tgt := 31) hx hb dX5_canAsk_14 (by decide) (by omega) (by omega) (fun c14 => ?_) (fun c14 => ?_)
    · refine lv_iconst (v := (nI (0))) hx hb dX5_canAsk_31 (by decide) ?_
      refine j_zret hx hb hr hlocks hH hw (Or.inl rfl) dX5_canAsk_32 ?_
      exact ⟨_, rfl, rfl, Or.inr ⟨rfl, fun q => by rcases q with q | ⟨q1, q2⟩ <;> first | omega | exact absurd c24 (Int32.not_lt.mpr q2)⟩⟩
    · refine lv_aload_n hx hb dX5_canAsk_17 rfl (lv_at hl 0 rfl) ?_
      refine lv_bipush (v := (nI (46))) hx hb dX5_canAsk_18 (by decide) ?_
      refine lv_iload_n hx hb dX5_canAsk_20 rfl (lv_at hl 1 rfl) ?_
      refine j_addN hx hb dX5_canAsk_21 ?_
      refine j_iald hx hb hw hA (k := (46 + cu)) rfl (by omega) (by omega) dX5_canAsk_22 ?_
      refine j_eq (y := (σ.2.1 cu)) (hR.p cu hc rfl) ?_
      refine lv_iload_n hx hb dX5_canAsk_23 rfl (lv_at hl 3 rfl) ?_
      refine lv_icmp_lt (tgt := 31) hx hb dX5_canAsk_24 (by decide) (fun c24 => ?_) (fun c24 => ?_)
      · refine lv_iconst (v := (nI (0))) hx hb dX5_canAsk_31 (by decide) ?_
        refine j_zret hx hb hr hlocks hH hw (Or.inl rfl) dX5_canAsk_32 ?_
        exact ⟨_, rfl, rfl, Or.inr ⟨rfl, fun q => by rcases q with q | ⟨q1, q2⟩ <;> first | omega | exact absurd c24 (Int32.not_lt.mpr q2)⟩⟩
      · refine lv_iconst (v := (nI (1))) hx hb dX5_canAsk_27 (by decide) ?_
        refine lv_goto (tgt := 32) hx hb dX5_canAsk_28 (by decide) ?_
        refine j_zret hx hb hr hlocks hH hw (Or.inr rfl) dX5_canAsk_32 ?_
        exact ⟨_, rfl, rfl, Or.inl ⟨rfl, by unfold canS; first | exact Or.inl hr1 | exact Or.inr ⟨by omega, Int32.not_lt.mp c24⟩⟩⟩

abbrev q_X5_cancelIn (g : jG) (H0 : Heap) (row : Nat) (i : Nat) (σ : Sg) (f : Nat → Int32) (o : Od) : Option Value → Heap → Prop := jN (fun r H1 => r = nI (o 3) ∧ rTo g row (cancelS σ i o) H0 H1)
set_option maxHeartbeats 4000000 in
set_option maxRecDepth 100000 in
theorem c_X5_cancelIn (l : Launch) (g : jG) (z : Nat) (H0 : Heap) (row : Nat) (i : Nat) (σ : Sg) (f : Nat → Int32) (o : Od) (hz : z ≤ row) (hA : jI g H0 row 235 f) (hR : Row f σ) (hs : okS σ) (ho : σ.2.2.1[i]? = some o) : jM l g z yX5_cancelIn wsX5_cancelIn 3 68 [.ref row, .int (nI (i))] H0 (q_X5_cancelIn g H0 row i σ f o) := by
  refine j_of (cc := cX5_cancelIn) (n := 3) (ret := some .int) (by decide) rfl (Nat.le_of_ble_eq_true rfl) ?_
  intro p e s m below meth c hx hb hr hml hown hts hlocks hname hH hw ls hl
  have hl : lv_has ls 3 [(0, .ref row), (1, .int (nI (i)))] := hl
  have hf : jF row 1 H0 H0 := jF.rf
  have hoo := hs.2.2.2.1 o (memO ho)
  have ho0 := hoo.1
  have ho1 := hoo.2.1
  have ho3 := hoo.2.2.2.1
  have hn := hs.2.2.1
  have hi := lenlt ho
  refine lv_aload_n hx hb dX5_cancelIn_0 rfl (lv_at hl 0 rfl) ?_
  refine lv_iload_n hx hb dX5_cancelIn_1 rfl (lv_at hl 1 rfl) ?_
  refine lv_iconst (v := (nI (3))) hx hb dX5_cancelIn_2 (by decide) ?_
  refine j_Sp (n := 2) (As := [.int (nI (i)), .int (nI (3))]) hx hb hml hown hts hw (c_X5_at l g z H0 (i) (3)   ) gX5_cancelIn_X5_at rfl (by decide +kernel) ⟨Nat.le_of_ble_eq_true rfl, Nat.le_of_ble_eq_true rfl⟩ rfl hl.1 (Nat.le_of_ble_eq_true rfl) ⟨Nat.zero_le _, Nat.zero_le _⟩ dX5_cancelIn_3 (fun r1 locs hr1 hw => ?_) rfl
  obtain rfl : r1 = (nI (109 + 6 * (i) + (3))) := hr1
  refine j_iald hx hb hw hA (k := 109 + 6 * (i) + (3)) rfl (by omega) (by omega) dX5_cancelIn_6 ?_
  refine j_eq (y := nI (o 3)) (hR.o ho 3 (by omega) (by omega)) ?_
  refine lv_istore_n (lv' := [(2, .int _), (0, .ref _), (1, .int _)]) hx hb dX5_cancelIn_7 rfl hl (by decide) rfl (fun ls hl => ?_)
  refine lv_aload_n hx hb dX5_cancelIn_8 rfl (lv_at hl 1 rfl) ?_
  refine lv_iload_n hx hb dX5_cancelIn_9 rfl (lv_at hl 2 rfl) ?_
  refine j_Sv (n := 2) (As := [.ref row, .int (nI (i))]) hx hb hml hown hts hw (c_X5_payBack l g z H0 row (i) (σ) f o hz hA hR hs ho) gX5_cancelIn_X5_payBack rfl (by decide +kernel) ⟨Nat.le_of_ble_eq_true rfl, Nat.le_of_ble_eq_true rfl⟩ rfl hl.1 (Nat.le_of_ble_eq_true rfl) ⟨Nat.zero_le _, Nat.zero_le _⟩ dX5_cancelIn_10 (fun H locs hr2 hw hsz => ?_) rfl
  obtain ⟨⟨f3, hA, hR⟩, hs, hf2⟩ := hr2
  have hf := hf.step hf2 (by omega)
  refine lv_aload_n hx hb dX5_cancelIn_13 rfl (lv_at hl 1 rfl) ?_
  refine lv_bipush (v := (nI (9))) hx hb dX5_cancelIn_14 (by decide) ?_
  refine lv_dup2_11 hx hb dX5_cancelIn_16 rfl rfl ?_
  refine j_iald hx hb hw hA (k := 9) rfl (by omega) (by omega) dX5_cancelIn_17 ?_
  refine j_eq (y := nI (σ.1 9)) ((hR.n 9 (by omega)).trans (congrArg nI (payS_n (by omega)))) ?_
  refine lv_iconst (v := (nI (1))) hx hb dX5_cancelIn_18 (by decide) ?_
  refine j_addN hx hb dX5_cancelIn_19 ?_
  refine j_iast hx hb hw hA hz (k := 9) rfl (by omega) (by omega) dX5_cancelIn_20 (fun H locs hw hA oq hsz => ?_)
  obtain ⟨f4, ef4⟩ : ∃ y9, y9 = upd f3 (9) (nI ((σ.1 9 + 1))) := ⟨_, rfl⟩
  rw [← ef4] at hA
  have hf := hf.put oq hsz (by omega)
  have hR := hR.sn (k := 9) (v := σ.1 9 + 1) (by omega) rfl
  rw [← ef4] at hR
  have hs := hs.sn (k := 9) (v := σ.1 9 + 1) (by omega)
  refine lv_iload_n hx hb dX5_cancelIn_21 rfl (lv_at hl 0 rfl) ?_
  refine j_iret hx hb hr hlocks hH hw dX5_cancelIn_22 ?_
  exact ⟨_, rfl, rfl, ⟨_, hA, hR⟩, hs, hf⟩

abbrev q_X5_canRaise (g : jG) (H0 : Heap) (row : Nat) (i : Nat) (y : Nat) (σ : Sg) (f : Nat → Int32) (o : Od) : Option Value → Heap → Prop := jN (fun r H1 => H1 = H0 ∧ ((r = nI 1 ∧ canR σ o y) ∨ (r = nI 0 ∧ ¬ canR σ o y)))
set_option maxHeartbeats 4000000 in
set_option maxRecDepth 100000 in
theorem c_X5_canRaise (l : Launch) (g : jG) (z : Nat) (H0 : Heap) (row : Nat) (i : Nat) (y : Nat) (σ : Sg) (f : Nat → Int32) (o : Od) (hA : jI g H0 row 235 f) (hR : Row f σ) (hs : okS σ) (ho : σ.2.2.1[i]? = some o) (hy : y < 10) : jM l g z yX5_canRaise wsX5_canRaise 1 21 [.ref row, .int (nI (i)), .int (nI (y))] H0 (q_X5_canRaise g H0 row i y σ f o) := by
  refine j_of (cc := cX5_canRaise) (n := 3) (ret := some .boolean) (by decide) rfl (Nat.le_of_ble_eq_true rfl) ?_
  intro p e s m below meth c hx hb hr hml hown hts hlocks hname hH hw ls hl
  have hl : lv_has ls 3 [(0, .ref row), (1, .int (nI (i))), (2, .int (nI (y)))] := hl
  have hoo := hs.2.2.2.1 o (memO ho)
  have ho0 := hoo.1
  have ho1 := hoo.2.1
  have ho3 := hoo.2.2.2.1
  have hn := hs.2.2.1
  have hi := lenlt ho
  refine lv_aload_n hx hb dX5_canRaise_0 rfl (lv_at hl 0 rfl) ?_
  refine lv_iload_n hx hb dX5_canRaise_1 rfl (lv_at hl 1 rfl) ?_
  refine lv_iconst (v := (nI (3))) hx hb dX5_canRaise_2 (by decide) ?_
  refine j_Sp (n := 2) (As := [.int (nI (i)), .int (nI (3))]) hx hb hml hown hts hw (c_X5_at l g z H0 (i) (3)   ) gX5_canRaise_X5_at rfl (by decide +kernel) ⟨Nat.le_of_ble_eq_true rfl, Nat.le_of_ble_eq_true rfl⟩ rfl hl.1 (Nat.le_of_ble_eq_true rfl) ⟨Nat.zero_le _, Nat.zero_le _⟩ dX5_canRaise_3 (fun r1 locs hr1 hw => ?_) rfl
  obtain rfl : r1 = (nI (109 + 6 * (i) + (3))) := hr1
  refine j_iald hx hb hw hA (k := 109 + 6 * (i) + (3)) rfl (by omega) (by omega) dX5_canRaise_6 ?_
  refine j_eq (y := nI (o 3)) (hR.o ho 3 (by omega) (by omega)) ?_
  refine lv_iload_n hx hb dX5_canRaise_7 rfl (lv_at hl 2 rfl) ?_
  refine j_addN hx hb dX5_canRaise_8 ?_
  refine lv_bipush (v := (nI (9))) hx hb dX5_canRaise_9 (by decide) ?_
  refine jn_gt (tgt := 34) hx hb dX5_canRaise_11 (by decide) (by omega) (by omega) (fun c11 => ?_) (fun c11 => ?_)
  · refine lv_iconst (v := (nI (0))) hx hb dX5_canRaise_34 (by decide) ?_
    refine j_zret hx hb hr hlocks hH hw (Or.inl rfl) dX5_canRaise_35 ?_
    exact ⟨_, rfl, rfl, Or.inr ⟨rfl, fun q => by have q1 := q.1; have q2 := q.2; first | omega | exact absurd c27 (Int32.not_lt.mpr q2)⟩⟩
  · refine lv_aload_n hx hb dX5_canRaise_14 rfl (lv_at hl 0 rfl) ?_
    refine lv_bipush (v := (nI (46))) hx hb dX5_canRaise_15 (by decide) ?_
    refine lv_aload_n hx hb dX5_canRaise_17 rfl (lv_at hl 0 rfl) ?_
    refine lv_iload_n hx hb dX5_canRaise_18 rfl (lv_at hl 1 rfl) ?_
    refine lv_iconst (v := (nI (0))) hx hb dX5_canRaise_19 (by decide) ?_
    refine j_Sp (n := 2) (As := [.int (nI (i)), .int (nI (0))]) hx hb hml hown hts hw (c_X5_at l g z H0 (i) (0)   ) gX5_canRaise_X5_at rfl (by decide +kernel) ⟨Nat.le_of_ble_eq_true rfl, Nat.le_of_ble_eq_true rfl⟩ rfl hl.1 (Nat.le_of_ble_eq_true rfl) ⟨Nat.zero_le _, Nat.zero_le _⟩ dX5_canRaise_20 (fun r2 locs hr2 hw => ?_) rfl
    obtain rfl : r2 = (nI (109 + 6 * (i) + (0))) := hr2
    refine j_iald hx hb hw hA (k := 109 + 6 * (i) + (0)) rfl (by omega) (by omega) dX5_canRaise_23 ?_
    refine j_eq (y := nI (o 0)) (hR.o ho 0 (by omega) (by omega)) ?_
    refine j_addN hx hb dX5_canRaise_24 ?_
    refine j_iald hx hb hw hA (k := (46 + o 0)) rfl (by omega) (by omega) dX5_canRaise_25 ?_
    refine j_eq (y := (σ.2.1 (o 0))) (hR.p (o 0) ho0 rfl) ?_
    refine lv_iload_n hx hb dX5_canRaise_26 rfl (lv_at hl 2 rfl) ?_
    refine lv_icmp_lt (tgt := 34) hx hb dX5_canRaise_27 (by decide) (fun c27 => ?_) (fun c27 => ?_)
    · refine lv_iconst (v := (nI (0))) hx hb dX5_canRaise_34 (by decide) ?_
      refine j_zret hx hb hr hlocks hH hw (Or.inl rfl) dX5_canRaise_35 ?_
      exact ⟨_, rfl, rfl, Or.inr ⟨rfl, fun q => by have q1 := q.1; have q2 := q.2; first | omega | exact absurd c27 (Int32.not_lt.mpr q2)⟩⟩
    · refine lv_iconst (v := (nI (1))) hx hb dX5_canRaise_30 (by decide) ?_
      refine lv_goto (tgt := 35) hx hb dX5_canRaise_31 (by decide) ?_
      refine j_zret hx hb hr hlocks hH hw (Or.inr rfl) dX5_canRaise_35 ?_
      exact ⟨_, rfl, rfl, Or.inl ⟨rfl, by omega, Int32.not_lt.mp c27⟩⟩

abbrev q_X5_raiseIn (g : jG) (H0 : Heap) (row : Nat) (i : Nat) (y : Nat) (σ : Sg) (f : Nat → Int32) (o : Od) : Option Value → Heap → Prop := jN (fun r H1 => r = nI (o 3 + y) ∧ rTo g row (raiseS σ i o y) H0 H1)
set_option maxHeartbeats 4000000 in
set_option maxRecDepth 100000 in
theorem c_X5_raiseIn (l : Launch) (g : jG) (z : Nat) (H0 : Heap) (row : Nat) (i : Nat) (y : Nat) (σ : Sg) (f : Nat → Int32) (o : Od) (hz : z ≤ row) (hA : jI g H0 row 235 f) (hR : Row f σ) (hs : okS σ) (ho : σ.2.2.1[i]? = some o) (hy : o 3 + y ≤ 9) : jM l g z yX5_raiseIn wsX5_raiseIn 1 21 [.ref row, .int (nI (i)), .int (nI (y))] H0 (q_X5_raiseIn g H0 row i y σ f o) := by
  refine j_of (cc := cX5_raiseIn) (n := 3) (ret := some .int) (by decide) rfl (Nat.le_of_ble_eq_true rfl) ?_
  intro p e s m below meth c hx hb hr hml hown hts hlocks hname hH hw ls hl
  have hl : lv_has ls 3 [(0, .ref row), (1, .int (nI (i))), (2, .int (nI (y)))] := hl
  have hf : jF row 1 H0 H0 := jF.rf
  have hoo := hs.2.2.2.1 o (memO ho)
  have ho0 := hoo.1
  have ho1 := hoo.2.1
  have ho3 := hoo.2.2.2.1
  have hn := hs.2.2.1
  have hi := lenlt ho
  refine lv_aload_n hx hb dX5_raiseIn_0 rfl (lv_at hl 0 rfl) ?_
  refine lv_bipush (v := (nI (46))) hx hb dX5_raiseIn_1 (by decide) ?_
  refine lv_aload_n hx hb dX5_raiseIn_3 rfl (lv_at hl 0 rfl) ?_
  refine lv_iload_n hx hb dX5_raiseIn_4 rfl (lv_at hl 1 rfl) ?_
  refine lv_iconst (v := (nI (0))) hx hb dX5_raiseIn_5 (by decide) ?_
  refine j_Sp (n := 2) (As := [.int (nI (i)), .int (nI (0))]) hx hb hml hown hts hw (c_X5_at l g z H0 (i) (0)   ) gX5_raiseIn_X5_at rfl (by decide +kernel) ⟨Nat.le_of_ble_eq_true rfl, Nat.le_of_ble_eq_true rfl⟩ rfl hl.1 (Nat.le_of_ble_eq_true rfl) ⟨Nat.zero_le _, Nat.zero_le _⟩ dX5_raiseIn_6 (fun r1 locs hr1 hw => ?_) rfl
  obtain rfl : r1 = (nI (109 + 6 * (i) + (0))) := hr1
  refine j_iald hx hb hw hA (k := 109 + 6 * (i) + (0)) rfl (by omega) (by omega) dX5_raiseIn_9 ?_
  refine j_eq (y := nI (o 0)) (hR.o ho 0 (by omega) (by omega)) ?_
  refine j_addN hx hb dX5_raiseIn_10 ?_
  refine lv_dup2_11 hx hb dX5_raiseIn_11 rfl rfl ?_
  refine j_iald hx hb hw hA (k := (46 + o 0)) rfl (by omega) (by omega) dX5_raiseIn_12 ?_
  refine j_eq (y := (σ.2.1 (o 0))) (hR.p (o 0) ho0 rfl) ?_
  refine lv_iload_n hx hb dX5_raiseIn_13 rfl (lv_at hl 2 rfl) ?_
  refine lv_isub hx hb dX5_raiseIn_14 ?_
  refine j_iast hx hb hw hA hz (k := (46 + o 0)) rfl (by omega) (by omega) dX5_raiseIn_15 (fun H locs hw hA oq hsz => ?_)
  obtain ⟨f2, ef2⟩ : ∃ y9, y9 = upd f ((46 + o 0)) ((σ.2.1 (o 0)) - (nI (y))) := ⟨_, rfl⟩
  rw [← ef2] at hA
  have hf := hf.put oq hsz (by omega)
  have hR := hR.sp (c := o 0) (y := (σ.2.1 (o 0) - nI y)) ho0 rfl rfl
  rw [← ef2] at hR
  have hs := hs.sp (c := o 0) (x := (σ.2.1 (o 0) - nI y))
  refine lv_aload_n hx hb dX5_raiseIn_16 rfl (lv_at hl 0 rfl) ?_
  refine lv_iload_n hx hb dX5_raiseIn_17 rfl (lv_at hl 1 rfl) ?_
  refine lv_iconst (v := (nI (3))) hx hb dX5_raiseIn_18 (by decide) ?_
  refine j_Sp (n := 2) (As := [.int (nI (i)), .int (nI (3))]) hx hb hml hown hts hw (c_X5_at l g z H (i) (3)   ) gX5_raiseIn_X5_at rfl (by decide +kernel) ⟨Nat.le_of_ble_eq_true rfl, Nat.le_of_ble_eq_true rfl⟩ rfl hl.1 (Nat.le_of_ble_eq_true rfl) ⟨Nat.zero_le _, Nat.zero_le _⟩ dX5_raiseIn_19 (fun r3 locs hr3 hw => ?_) rfl
  obtain rfl : r3 = (nI (109 + 6 * (i) + (3))) := hr3
  refine lv_dup2_11 hx hb dX5_raiseIn_22 rfl rfl ?_
  refine j_iald hx hb hw hA (k := 109 + 6 * (i) + (3)) rfl (by omega) (by omega) dX5_raiseIn_23 ?_
  refine j_eq (y := nI (o 3)) (hR.o ho 3 (by omega) (by omega)) ?_
  refine lv_iload_n hx hb dX5_raiseIn_24 rfl (lv_at hl 2 rfl) ?_
  refine j_addN hx hb dX5_raiseIn_25 ?_
  refine j_iast hx hb hw hA hz (k := 109 + 6 * (i) + (3)) rfl (by omega) (by omega) dX5_raiseIn_26 (fun H locs hw hA oq hsz => ?_)
  obtain ⟨f4, ef4⟩ : ∃ y9, y9 = upd f2 (109 + 6 * (i) + (3)) (nI ((o 3 + y))) := ⟨_, rfl⟩
  rw [← ef4] at hA
  have hf := hf.put oq hsz (by omega)
  have hR := hR.so hs (i := i) (w := 3) (v := o 3 + y) (o := o) ho (by omega) rfl rfl
  rw [← ef4] at hR
  have hs := hs.set i (o := nSet o 3 (o 3 + y)) (hoo.fee (by omega))
  refine lv_aload_n hx hb dX5_raiseIn_27 rfl (lv_at hl 0 rfl) ?_
  refine lv_iload_n hx hb dX5_raiseIn_28 rfl (lv_at hl 1 rfl) ?_
  refine lv_iconst (v := (nI (3))) hx hb dX5_raiseIn_29 (by decide) ?_
  refine j_Sp (n := 2) (As := [.int (nI (i)), .int (nI (3))]) hx hb hml hown hts hw (c_X5_at l g z H (i) (3)   ) gX5_raiseIn_X5_at rfl (by decide +kernel) ⟨Nat.le_of_ble_eq_true rfl, Nat.le_of_ble_eq_true rfl⟩ rfl hl.1 (Nat.le_of_ble_eq_true rfl) ⟨Nat.zero_le _, Nat.zero_le _⟩ dX5_raiseIn_30 (fun r5 locs hr5 hw => ?_) rfl
  obtain rfl : r5 = (nI (109 + 6 * (i) + (3))) := hr5
  refine j_iald hx hb hw hA (k := 109 + 6 * (i) + (3)) rfl (by omega) (by omega) dX5_raiseIn_33 ?_
  refine j_eq (y := nI (o 3 + y)) ((hR.o (List.getElem?_set_self hi) 3 (by omega) (by omega)).trans (congrArg nI (nSet_s _ _ _))) ?_
  refine j_iret hx hb hr hlocks hH hw dX5_raiseIn_34 ?_
  exact ⟨_, rfl, rfl, ⟨_, hA, hR⟩, hs, hf⟩

abbrev q_X5_askIn (g : jG) (H0 : Heap) (row : Nat) (cu : Nat) (lt : Nat) (it : Nat) (fe : Nat) (σ : Sg) (f : Nat → Int32) : Option Value → Heap → Prop := jN (fun r H1 => (0 < σ.1 (14 + lt) ∧ r = -1 ∧ rTo g row (askF σ cu lt it) H0 H1) ∨ (σ.1 (14 + lt) = 0 ∧ r = nI σ.2.2.1.length ∧ rTo g row (askO σ cu lt it fe) H0 H1))
set_option maxHeartbeats 4000000 in
set_option maxRecDepth 100000 in
theorem c_X5_askIn (l : Launch) (g : jG) (z : Nat) (H0 : Heap) (row : Nat) (cu : Nat) (lt : Nat) (it : Nat) (fe : Nat) (σ : Sg) (f : Nat → Int32) (hz : z ≤ row) (hA : jI g H0 row 235 f) (hR : Row f σ) (hs : okS σ) (ho : okO (mkO cu lt it fe 0 0)) (hn : 0 < σ.1 (14 + lt) ∨ σ.2.2.1.length < 21) : jM l g z yX5_askIn wsX5_askIn 2 49 [.ref row, .int (nI (cu)), .int (nI (lt)), .int (nI (it)), .int (nI (fe))] H0 (q_X5_askIn g H0 row cu lt it fe σ f) := by
  refine j_of (cc := cX5_askIn) (n := 5) (ret := some .int) (by decide) rfl (Nat.le_of_ble_eq_true rfl) ?_
  intro p e s m below meth c hx hb hr hml hown hts hlocks hname hH hw ls hl
  have hl : lv_has ls 5 [(0, .ref row), (1, .int (nI (cu))), (2, .int (nI (lt))), (3, .int (nI (it))), (4, .int (nI (fe)))] := hl
  have hf : jF row 1 H0 H0 := jF.rf
  have hcu : cu < 4 := ho.1
  have hlt : lt < 16 := ho.2.1
  have hit : it < 8 := ho.2.2.1
  have hn21 := hs.2.2.1
  refine lv_aload_n hx hb dX5_askIn_0 rfl (lv_at hl 0 rfl) ?_
  refine lv_iload_n hx hb dX5_askIn_1 rfl (lv_at hl 2 rfl) ?_
  refine j_Sp (n := 2) (As := [.ref row, .int (nI (lt))]) hx hb hml hown hts hw (c_X5_isFront l g z H0 row (lt) (σ) f  hA hR hs (by first | assumption | omega)) gX5_askIn_X5_isFront rfl (by decide +kernel) ⟨Nat.le_of_ble_eq_true rfl, Nat.le_of_ble_eq_true rfl⟩ rfl hl.1 (Nat.le_of_ble_eq_true rfl) ⟨Nat.zero_le _, Nat.zero_le _⟩ dX5_askIn_2 (fun r1 locs hr1 hw => ?_) rfl
  rcases hr1 with ⟨rfl, hr1⟩ | ⟨rfl, hr1⟩
  · refine jz_eq (tgt := 26) hx hb dX5_askIn_5 (by decide) (by omega) (fun c5 => absurd c5 (by omega)) (fun c5 => ?_)
    refine lv_aload_n hx hb dX5_askIn_8 rfl (lv_at hl 0 rfl) ?_
    refine lv_bipush (v := (nI (14))) hx hb dX5_askIn_9 (by decide) ?_
    refine lv_iload_n hx hb dX5_askIn_11 rfl (lv_at hl 2 rfl) ?_
    refine j_addN hx hb dX5_askIn_12 ?_
    refine lv_iconst (v := (nI (1))) hx hb dX5_askIn_13 (by decide) ?_
    refine j_iast hx hb hw hA hz (k := (14 + lt)) rfl (by omega) (by omega) dX5_askIn_14 (fun H locs hw hA oq hsz => ?_)
    obtain ⟨f2, ef2⟩ : ∃ y9, y9 = upd f ((14 + lt)) (nI (1)) := ⟨_, rfl⟩
    rw [← ef2] at hA
    have hf := hf.put oq hsz (by omega)
    have hR := hR.sn (k := 14 + lt) (v := 1) (by omega) rfl
    rw [← ef2] at hR
    have hs := hs.front (k := 14 + lt) (v := 1) (by omega) (by omega)
    refine lv_aload_n hx hb dX5_askIn_15 rfl (lv_at hl 0 rfl) ?_
    refine lv_iload_n hx hb dX5_askIn_16 rfl (lv_at hl 1 rfl) ?_
    refine lv_iload_n hx hb dX5_askIn_17 rfl (lv_at hl 2 rfl) ?_
    refine lv_iload_n hx hb dX5_askIn_18 rfl (lv_at hl 3 rfl) ?_
    refine lv_iconst (v := (nI (0))) hx hb dX5_askIn_19 (by decide) ?_
    refine lv_iconst (v := (nI (0))) hx hb dX5_askIn_20 (by decide) ?_
    refine j_Sv (n := 6) (As := [.ref row, .int (nI (cu)), .int (nI (lt)), .int (nI (it)), .int (nI (0)), .int (nI (0))]) hx hb hml hown hts hw (c_X5_deliver l g z H row (cu) (lt) (it) (0) (0) ((upn σ (14 + lt) (1))) f2 hz hA hR hs ⟨hcu, hlt, hit, Nat.zero_lt_succ _, Nat.zero_lt_succ _, Nat.zero_lt_succ _⟩) gX5_askIn_X5_deliver rfl (by decide +kernel) ⟨Nat.le_of_ble_eq_true rfl, Nat.le_of_ble_eq_true rfl⟩ rfl hl.1 (Nat.le_of_ble_eq_true rfl) ⟨Nat.zero_le _, Nat.zero_le _⟩ dX5_askIn_21 (fun H locs hr3 hw hsz => ?_) rfl
    obtain ⟨⟨f4, hA, hR⟩, hs, hf2⟩ := hr3
    have hf := hf.step hf2 (by omega)
    refine lv_iconst (v := (-1)) hx hb dX5_askIn_24 (by decide) ?_
    refine j_iret hx hb hr hlocks hH hw dX5_askIn_25 ?_
    exact ⟨_, rfl, Or.inl ⟨hr1, rfl, ⟨_, hA, hR⟩, hs, hf⟩⟩
  · refine jz_eq (tgt := 26) hx hb dX5_askIn_5 (by decide) (by omega) (fun c5 => ?_) (fun c5 => absurd c5 (by omega))
    refine lv_aload_n hx hb dX5_askIn_26 rfl (lv_at hl 0 rfl) ?_
    refine lv_bipush (v := (nI (46))) hx hb dX5_askIn_27 (by decide) ?_
    refine lv_iload_n hx hb dX5_askIn_29 rfl (lv_at hl 1 rfl) ?_
    refine j_addN hx hb dX5_askIn_30 ?_
    refine lv_dup2_11 hx hb dX5_askIn_31 rfl rfl ?_
    refine j_iald hx hb hw hA (k := (46 + cu)) rfl (by omega) (by omega) dX5_askIn_32 ?_
    refine j_eq (y := (σ.2.1 cu)) (hR.p cu hcu rfl) ?_
    refine lv_iload hx hb dX5_askIn_33 (lv_at hl 4 rfl) ?_
    refine lv_isub hx hb dX5_askIn_35 ?_
    refine j_iast hx hb hw hA hz (k := (46 + cu)) rfl (by omega) (by omega) dX5_askIn_36 (fun H locs hw hA oq hsz => ?_)
    obtain ⟨f5, ef5⟩ : ∃ y9, y9 = upd f ((46 + cu)) ((σ.2.1 cu) - (nI (fe))) := ⟨_, rfl⟩
    rw [← ef5] at hA
    have hf := hf.put oq hsz (by omega)
    have hR := hR.sp (c := cu) (y := (σ.2.1 cu - nI fe)) hcu rfl rfl
    rw [← ef5] at hR
    have hs := hs.sp (c := cu) (x := (σ.2.1 cu - nI fe))
    refine lv_aload_n hx hb dX5_askIn_37 rfl (lv_at hl 0 rfl) ?_
    refine lv_iload_n hx hb dX5_askIn_38 rfl (lv_at hl 1 rfl) ?_
    refine lv_iload_n hx hb dX5_askIn_39 rfl (lv_at hl 2 rfl) ?_
    refine lv_iload_n hx hb dX5_askIn_40 rfl (lv_at hl 3 rfl) ?_
    refine lv_iload hx hb dX5_askIn_41 (lv_at hl 4 rfl) ?_
    refine j_Sv (n := 5) (As := [.ref row, .int (nI (cu)), .int (nI (lt)), .int (nI (it)), .int (nI (fe))]) hx hb hml hown hts hw (c_X5_enter l g z H row (cu) (lt) (it) (fe) ((upp σ (cu) ((σ.2.1 cu - nI fe)))) f5 hz hA hR hs (hn.resolve_left (by omega)) ho) gX5_askIn_X5_enter rfl (by decide +kernel) ⟨Nat.le_of_ble_eq_true rfl, Nat.le_of_ble_eq_true rfl⟩ rfl hl.1 (Nat.le_of_ble_eq_true rfl) ⟨Nat.zero_le _, Nat.zero_le _⟩ dX5_askIn_43 (fun H locs hr6 hw hsz => ?_) rfl
    obtain ⟨⟨f7, hA, hR⟩, hs, hf2⟩ := hr6
    have hf := hf.step hf2 (by omega)
    refine lv_aload_n hx hb dX5_askIn_46 rfl (lv_at hl 0 rfl) ?_
    refine lv_bipush (v := (nI (6))) hx hb dX5_askIn_47 (by decide) ?_
    refine j_iald hx hb hw hA (k := 6) rfl (by omega) (by omega) dX5_askIn_49 ?_
    refine j_eq (y := nI (σ.2.2.1.length + 1)) (hR.2.2.1.trans (congrArg nI List.length_append)) ?_
    refine lv_iconst (v := (nI (1))) hx hb dX5_askIn_50 (by decide) ?_
    refine j_subN hx hb (by omega) dX5_askIn_51 ?_
    refine j_iret hx hb hr hlocks hH hw dX5_askIn_52 ?_
    exact ⟨_, rfl, Or.inr ⟨hr1, rfl, ⟨_, hA, hR⟩, hs, hf⟩⟩
