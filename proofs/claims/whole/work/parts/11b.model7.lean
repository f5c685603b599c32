abbrev q_X5_isLot (g : jG) (H0 : Heap) (x : Int32) : Option Value → Heap → Prop := jN (fun r H1 => H1 = H0 ∧ ((r = nI 1 ∧ ∃ j, ix x 0 16 = some j ∧ 0 ≤ j ∧ j < 16 ∧ x = nI j) ∨ (r = nI 0 ∧ ix x 0 16 = none)))
set_option maxHeartbeats 4000000 in
set_option maxRecDepth 100000 in
theorem c_X5_isLot (l : Launch) (g : jG) (z : Nat) (H0 : Heap) (x : Int32)  : jM l g z yX5_isLot wsX5_isLot 1 25 [.int x] H0 (q_X5_isLot g H0 x) := by
  refine j_of (cc := cX5_isLot) (n := 1) (ret := some .boolean) (by decide) rfl (Nat.le_of_ble_eq_true rfl) ?_
  intro p e s m below meth c hx hb hr hml hown hts hlocks hname hH hw ls hl
  have hl : lv_has ls 1 [(0, .int x)] := hl
  refine lv_iload_n hx hb dX5_isLot_0 rfl (lv_at hl 0 rfl) ?_
  refine lv_i2l (v := x.toInt64) hx hb dX5_isLot_1 rfl ?_
  refine lv_lconst (v := 0) hx hb dX5_isLot_2 (by decide) ?_
  refine lv_ldc2 (v := 15) hx hb hown (hts (.constantLong RX5 185 (15)) (by decide +kernel)) dX5_isLot_3 ?_
  refine j_Sp (n := 3) (As := [.long x.toInt64, .long 0, .long 15]) hx hb hml hown hts hw (c_X5_in l g z H0 x.toInt64 0 15   ) gX5_isLot_X5_in rfl (by decide +kernel) ⟨Nat.le_of_ble_eq_true rfl, Nat.le_of_ble_eq_true rfl⟩ rfl hl.1 (Nat.le_of_ble_eq_true rfl) ⟨Nat.zero_le _, Nat.zero_le _⟩ dX5_isLot_6 (fun r1 locs hr1 hw => ?_) rfl
  refine j_zret hx hb hr hlocks hH hw (by rcases hr1 with ⟨h, -⟩ | ⟨h, -⟩; exact Or.inr h; exact Or.inl h) dX5_isLot_9 ?_
  exact ⟨_, rfl, rfl, in_ix (by decide) (by decide) hr1⟩

abbrev q_X5_isReader (g : jG) (H0 : Heap) (x : Int32) : Option Value → Heap → Prop := jN (fun r H1 => H1 = H0 ∧ ((r = nI 1 ∧ ∃ j, ix x 0 4 = some j ∧ 0 ≤ j ∧ j < 4 ∧ x = nI j) ∨ (r = nI 0 ∧ ix x 0 4 = none)))
set_option maxHeartbeats 4000000 in
set_option maxRecDepth 100000 in
theorem c_X5_isReader (l : Launch) (g : jG) (z : Nat) (H0 : Heap) (x : Int32)  : jM l g z yX5_isReader wsX5_isReader 1 25 [.int x] H0 (q_X5_isReader g H0 x) := by
  refine j_of (cc := cX5_isReader) (n := 1) (ret := some .boolean) (by decide) rfl (Nat.le_of_ble_eq_true rfl) ?_
  intro p e s m below meth c hx hb hr hml hown hts hlocks hname hH hw ls hl
  have hl : lv_has ls 1 [(0, .int x)] := hl
  refine lv_iload_n hx hb dX5_isReader_0 rfl (lv_at hl 0 rfl) ?_
  refine lv_i2l (v := x.toInt64) hx hb dX5_isReader_1 rfl ?_
  refine lv_lconst (v := 0) hx hb dX5_isReader_2 (by decide) ?_
  refine lv_ldc2 (v := 3) hx hb hown (hts (.constantLong RX5 190 (3)) (by decide +kernel)) dX5_isReader_3 ?_
  refine j_Sp (n := 3) (As := [.long x.toInt64, .long 0, .long 3]) hx hb hml hown hts hw (c_X5_in l g z H0 x.toInt64 0 3   ) gX5_isReader_X5_in rfl (by decide +kernel) ⟨Nat.le_of_ble_eq_true rfl, Nat.le_of_ble_eq_true rfl⟩ rfl hl.1 (Nat.le_of_ble_eq_true rfl) ⟨Nat.zero_le _, Nat.zero_le _⟩ dX5_isReader_6 (fun r1 locs hr1 hw => ?_) rfl
  refine j_zret hx hb hr hlocks hH hw (by rcases hr1 with ⟨h, -⟩ | ⟨h, -⟩; exact Or.inr h; exact Or.inl h) dX5_isReader_9 ?_
  exact ⟨_, rfl, rfl, in_ix (by decide) (by decide) hr1⟩

abbrev q_X5_isFee (g : jG) (H0 : Heap) (x : Int32) : Option Value → Heap → Prop := jN (fun r H1 => H1 = H0 ∧ ((r = nI 1 ∧ ∃ j, ix x 0 10 = some j ∧ 0 ≤ j ∧ j < 10 ∧ x = nI j) ∨ (r = nI 0 ∧ ix x 0 10 = none)))
set_option maxHeartbeats 4000000 in
set_option maxRecDepth 100000 in
theorem c_X5_isFee (l : Launch) (g : jG) (z : Nat) (H0 : Heap) (x : Int32)  : jM l g z yX5_isFee wsX5_isFee 1 25 [.int x] H0 (q_X5_isFee g H0 x) := by
  refine j_of (cc := cX5_isFee) (n := 1) (ret := some .boolean) (by decide) rfl (Nat.le_of_ble_eq_true rfl) ?_
  intro p e s m below meth c hx hb hr hml hown hts hlocks hname hH hw ls hl
  have hl : lv_has ls 1 [(0, .int x)] := hl
  refine lv_iload_n hx hb dX5_isFee_0 rfl (lv_at hl 0 rfl) ?_
  refine lv_i2l (v := x.toInt64) hx hb dX5_isFee_1 rfl ?_
  refine lv_lconst (v := 0) hx hb dX5_isFee_2 (by decide) ?_
  refine lv_ldc2 (v := 9) hx hb hown (hts (.constantLong RX5 128 (9)) (by decide +kernel)) dX5_isFee_3 ?_
  refine j_Sp (n := 3) (As := [.long x.toInt64, .long 0, .long 9]) hx hb hml hown hts hw (c_X5_in l g z H0 x.toInt64 0 9   ) gX5_isFee_X5_in rfl (by decide +kernel) ⟨Nat.le_of_ble_eq_true rfl, Nat.le_of_ble_eq_true rfl⟩ rfl hl.1 (Nat.le_of_ble_eq_true rfl) ⟨Nat.zero_le _, Nat.zero_le _⟩ dX5_isFee_6 (fun r1 locs hr1 hw => ?_) rfl
  refine j_zret hx hb hr hlocks hH hw (by rcases hr1 with ⟨h, -⟩ | ⟨h, -⟩; exact Or.inr h; exact Or.inl h) dX5_isFee_9 ?_
  exact ⟨_, rfl, rfl, in_ix (by decide) (by decide) hr1⟩

abbrev q_X5_isRaise (g : jG) (H0 : Heap) (x : Int32) : Option Value → Heap → Prop := jN (fun r H1 => H1 = H0 ∧ ((r = nI 1 ∧ ∃ j, ix x 1 10 = some j ∧ 1 ≤ j ∧ j < 10 ∧ x = nI j) ∨ (r = nI 0 ∧ ix x 1 10 = none)))
set_option maxHeartbeats 4000000 in
set_option maxRecDepth 100000 in
theorem c_X5_isRaise (l : Launch) (g : jG) (z : Nat) (H0 : Heap) (x : Int32)  : jM l g z yX5_isRaise wsX5_isRaise 1 25 [.int x] H0 (q_X5_isRaise g H0 x) := by
  refine j_of (cc := cX5_isRaise) (n := 1) (ret := some .boolean) (by decide) rfl (Nat.le_of_ble_eq_true rfl) ?_
  intro p e s m below meth c hx hb hr hml hown hts hlocks hname hH hw ls hl
  have hl : lv_has ls 1 [(0, .int x)] := hl
  refine lv_iload_n hx hb dX5_isRaise_0 rfl (lv_at hl 0 rfl) ?_
  refine lv_i2l (v := x.toInt64) hx hb dX5_isRaise_1 rfl ?_
  refine lv_lconst (v := 1) hx hb dX5_isRaise_2 (by decide) ?_
  refine lv_ldc2 (v := 9) hx hb hown (hts (.constantLong RX5 128 (9)) (by decide +kernel)) dX5_isRaise_3 ?_
  refine j_Sp (n := 3) (As := [.long x.toInt64, .long 1, .long 9]) hx hb hml hown hts hw (c_X5_in l g z H0 x.toInt64 1 9   ) gX5_isRaise_X5_in rfl (by decide +kernel) ⟨Nat.le_of_ble_eq_true rfl, Nat.le_of_ble_eq_true rfl⟩ rfl hl.1 (Nat.le_of_ble_eq_true rfl) ⟨Nat.zero_le _, Nat.zero_le _⟩ dX5_isRaise_6 (fun r1 locs hr1 hw => ?_) rfl
  refine j_zret hx hb hr hlocks hH hw (by rcases hr1 with ⟨h, -⟩ | ⟨h, -⟩; exact Or.inr h; exact Or.inl h) dX5_isRaise_9 ?_
  exact ⟨_, rfl, rfl, in_ix (by decide) (by decide) hr1⟩

abbrev q_X5_isNights (g : jG) (H0 : Heap) (x : Int32) : Option Value → Heap → Prop := jN (fun r H1 => H1 = H0 ∧ ((r = nI 1 ∧ ∃ j, ix x 1 31 = some j ∧ 1 ≤ j ∧ j < 31 ∧ x = nI j) ∨ (r = nI 0 ∧ ix x 1 31 = none)))
set_option maxHeartbeats 4000000 in
set_option maxRecDepth 100000 in
theorem c_X5_isNights (l : Launch) (g : jG) (z : Nat) (H0 : Heap) (x : Int32)  : jM l g z yX5_isNights wsX5_isNights 1 25 [.int x] H0 (q_X5_isNights g H0 x) := by
  refine j_of (cc := cX5_isNights) (n := 1) (ret := some .boolean) (by decide) rfl (Nat.le_of_ble_eq_true rfl) ?_
  intro p e s m below meth c hx hb hr hml hown hts hlocks hname hH hw ls hl
  have hl : lv_has ls 1 [(0, .int x)] := hl
  refine lv_iload_n hx hb dX5_isNights_0 rfl (lv_at hl 0 rfl) ?_
  refine lv_i2l (v := x.toInt64) hx hb dX5_isNights_1 rfl ?_
  refine lv_lconst (v := 1) hx hb dX5_isNights_2 (by decide) ?_
  refine lv_ldc2 (v := 30) hx hb hown (hts (.constantLong RX5 217 (30)) (by decide +kernel)) dX5_isNights_3 ?_
  refine j_Sp (n := 3) (As := [.long x.toInt64, .long 1, .long 30]) hx hb hml hown hts hw (c_X5_in l g z H0 x.toInt64 1 30   ) gX5_isNights_X5_in rfl (by decide +kernel) ⟨Nat.le_of_ble_eq_true rfl, Nat.le_of_ble_eq_true rfl⟩ rfl hl.1 (Nat.le_of_ble_eq_true rfl) ⟨Nat.zero_le _, Nat.zero_le _⟩ dX5_isNights_6 (fun r1 locs hr1 hw => ?_) rfl
  refine j_zret hx hb hr hlocks hH hw (by rcases hr1 with ⟨h, -⟩ | ⟨h, -⟩; exact Or.inr h; exact Or.inl h) dX5_isNights_9 ?_
  exact ⟨_, rfl, rfl, in_ix (by decide) (by decide) hr1⟩

abbrev q_X5_isOrder (g : jG) (H0 : Heap) (M : Nat) (x : Int32) (σ : Sg) (f : Nat → Int32) (x0 : Int32) (x2 : Int32) (x3 : Int32) (x4 : Int32) (x5 : Int32) (x10 : Int32) (x14 : Int32) (sn : Bool) : Option Value → Heap → Prop := jN (fun r H1 => H1 = H0 ∧ ((r = nI 1 ∧ ∃ j, ix x 0 σ.2.2.1.length = some j ∧ 0 ≤ j ∧ j < σ.2.2.1.length ∧ x = nI j) ∨ (r = nI 0 ∧ ix x 0 σ.2.2.1.length = none)))
set_option maxHeartbeats 4000000 in
set_option maxRecDepth 100000 in
theorem c_X5_isOrder (l : Launch) (g : jG) (z : Nat) (H0 : Heap) (M : Nat) (x : Int32) (σ : Sg) (f : Nat → Int32) (x0 : Int32) (x2 : Int32) (x3 : Int32) (x4 : Int32) (x5 : Int32) (x10 : Int32) (x14 : Int32) (sn : Bool) (hzM : z ≤ M) (hO : jO g H0 M 5 [.int x0, .ref (M + 1), .int x2, .int x3, .int x4, .int x5, .ref (M + 2), .ref (M + 3), .ref (M + 4), .ref (M + 5), .int x10, .ref (M + 6), .ref (M + 7), .ref (M + 8), .int x14, .int (bI sn)]) (hA : jI g H0 (M + 3) 235 f) (hR : Row f σ) (hs : okS σ) : jM l g z yX5_isOrder wsX5_isOrder 1 25 [.ref M, .int x] H0 (q_X5_isOrder g H0 M x σ f x0 x2 x3 x4 x5 x10 x14 sn) := by
  refine j_of (cc := cX5_isOrder) (n := 2) (ret := some .boolean) (by decide) rfl (Nat.le_of_ble_eq_true rfl) ?_
  intro p e s m below meth c hx hb hr hml hown hts hlocks hname hH hw ls hl
  have hl : lv_has ls 2 [(0, .ref M), (1, .int x)] := hl
  have hinX5 : ∀ w ∈ u_ws RX5 TX5 16, w ∈ wsX5_isOrder := by decide +kernel
  have hn := hs.2.2.1
  refine lv_iload_n hx hb dX5_isOrder_0 rfl (lv_at hl 1 rfl) ?_
  refine lv_i2l (v := x.toInt64) hx hb dX5_isOrder_1 rfl ?_
  refine lv_lconst (v := 0) hx hb dX5_isOrder_2 (by decide) ?_
  refine lv_aload_n hx hb dX5_isOrder_3 rfl (lv_at hl 0 rfl) ?_
  refine j_get (T := TX5) (N := 16) (k := 7) hx hb hts hinX5 hown hw hO rfl (by decide) (hts (.fieldLink RX5 16 "NightTrainsModel" "now" "[I") (by decide +kernel)) rfl dX5_isOrder_4 ?_
  refine lv_bipush (v := (nI (6))) hx hb dX5_isOrder_7 (by decide) ?_
  refine j_iald hx hb hw hA (k := 6) rfl (by omega) (by omega) dX5_isOrder_9 ?_
  refine j_eq (y := nI (σ.2.2.1.length)) hR.2.2.1 ?_
  refine lv_iconst (v := (nI (1))) hx hb dX5_isOrder_10 (by decide) ?_
  refine lv_isub hx hb dX5_isOrder_11 ?_
  refine lv_i2l (v := ((nI (σ.2.2.1.length)) - (nI (1))).toInt64) hx hb dX5_isOrder_12 rfl ?_
  refine j_Sp (n := 3) (As := [.long x.toInt64, .long 0, .long ((nI (σ.2.2.1.length)) - (nI (1))).toInt64]) hx hb hml hown hts hw (c_X5_in l g z H0 x.toInt64 0 ((nI (σ.2.2.1.length)) - (nI (1))).toInt64   ) gX5_isOrder_X5_in rfl (by decide +kernel) ⟨Nat.le_of_ble_eq_true rfl, Nat.le_of_ble_eq_true rfl⟩ rfl hl.1 (Nat.le_of_ble_eq_true rfl) ⟨Nat.zero_le _, Nat.zero_le _⟩ dX5_isOrder_13 (fun r1 locs hr1 hw => ?_) rfl
  refine j_zret hx hb hr hlocks hH hw (by rcases hr1 with ⟨h, -⟩ | ⟨h, -⟩; exact Or.inr h; exact Or.inl h) dX5_isOrder_16 ?_
  exact ⟨_, rfl, rfl, in_ix (by decide) (toI64_sub1 (by omega)) hr1⟩

abbrev q_X5_thrown (g : jG) (H0 : Heap) (M : Nat) (x0 : Int32) (x2 : Int32) (x3 : Int32) (x4 : Int32) (x5 : Int32) (x10 : Int32) (x14 : Int32) (sn : Bool) : Option Value → Heap → Prop := jN (fun r H1 => H1 = H0 ∧ (r = x0))
set_option maxHeartbeats 4000000 in
set_option maxRecDepth 100000 in
theorem c_X5_thrown (l : Launch) (g : jG) (z : Nat) (H0 : Heap) (M : Nat) (x0 : Int32) (x2 : Int32) (x3 : Int32) (x4 : Int32) (x5 : Int32) (x10 : Int32) (x14 : Int32) (sn : Bool) (hO : jO g H0 M 5 [.int x0, .ref (M + 1), .int x2, .int x3, .int x4, .int x5, .ref (M + 2), .ref (M + 3), .ref (M + 4), .ref (M + 5), .int x10, .ref (M + 6), .ref (M + 7), .ref (M + 8), .int x14, .int (bI sn)]) : jM l g z yX5_thrown wsX5_thrown 0 0 [.ref M] H0 (q_X5_thrown g H0 M x0 x2 x3 x4 x5 x10 x14 sn) := by
  refine j_of (cc := cX5_thrown) (n := 1) (ret := some .int) (by decide) rfl (Nat.le_of_ble_eq_true rfl) ?_
  intro p e s m below meth c hx hb hr hml hown hts hlocks hname hH hw ls hl
  have hl : lv_has ls 1 [(0, .ref M)] := hl
  have hinX5 : ∀ w ∈ u_ws RX5 TX5 16, w ∈ wsX5_thrown := by decide +kernel
  refine lv_aload_n hx hb dX5_thrown_0 rfl (lv_at hl 0 rfl) ?_
  refine j_get (T := TX5) (N := 16) (k := 0) hx hb hts hinX5 hown hw hO rfl (by decide) (hts (.fieldLink RX5 39 "NightTrainsModel" "refusal" "I") (by decide +kernel)) rfl dX5_thrown_1 ?_
  refine j_iret hx hb hr hlocks hH hw dX5_thrown_4 ?_
  exact ⟨_, rfl, rfl, rfl⟩

abbrev q_X5_refused (g : jG) (H0 : Heap) (M : Nat) (w : Nat) (x0 : Int32) (x2 : Int32) (x3 : Int32) (x4 : Int32) (x5 : Int32) (x10 : Int32) (x14 : Int32) (sn : Bool) : Option Value → Heap → Prop := jN (fun r H1 => r = nI (min w 1) ∧ jO g H1 M 5 [.int (nI w), .ref (M + 1), .int x2, .int x3, .int x4, .int x5, .ref (M + 2), .ref (M + 3), .ref (M + 4), .ref (M + 5), .int x10, .ref (M + 6), .ref (M + 7), .ref (M + 8), .int x14, .int (bI sn)] ∧ jF M 1 H0 H1)
set_option maxHeartbeats 4000000 in
set_option maxRecDepth 100000 in
theorem c_X5_refused (l : Launch) (g : jG) (z : Nat) (H0 : Heap) (M : Nat) (w : Nat) (x0 : Int32) (x2 : Int32) (x3 : Int32) (x4 : Int32) (x5 : Int32) (x10 : Int32) (x14 : Int32) (sn : Bool) (hzM : z ≤ M) (hO : jO g H0 M 5 [.int x0, .ref (M + 1), .int x2, .int x3, .int x4, .int x5, .ref (M + 2), .ref (M + 3), .ref (M + 4), .ref (M + 5), .int x10, .ref (M + 6), .ref (M + 7), .ref (M + 8), .int x14, .int (bI sn)]) (hw4 : w ≤ 3) : jM l g z yX5_refused wsX5_refused 0 0 [.ref M, .int (nI (w))] H0 (q_X5_refused g H0 M w x0 x2 x3 x4 x5 x10 x14 sn) := by
  refine j_of (cc := cX5_refused) (n := 2) (ret := some .boolean) (by decide) rfl (Nat.le_of_ble_eq_true rfl) ?_
  intro p e s m below meth c hx hb hr hml hown hts hlocks hname hH hw ls hl
  have hl : lv_has ls 2 [(0, .ref M), (1, .int (nI (w)))] := hl
  have hinX5 : ∀ w ∈ u_ws RX5 TX5 16, w ∈ wsX5_refused := by decide +kernel
  have hf : jF M 1 H0 H0 := jF.rf
  refine lv_aload_n hx hb dX5_refused_0 rfl (lv_at hl 0 rfl) ?_
  refine lv_iload_n hx hb dX5_refused_1 rfl (lv_at hl 1 rfl) ?_
  refine j_put (T := TX5) (N := 16) (k := 0) (ty := .int) hx hb hts hinX5 tyX5 tyX5_ok nmX5 hown hw hO hzM rfl (by decide) (hts (.fieldLink RX5 39 "NightTrainsModel" "refusal" "I") (by decide +kernel)) rfl (by decide +kernel) rfl rfl (Nat.le_of_ble_eq_true rfl) dX5_refused_2 (fun H locs hw hO oq hsz => ?_)
  have hO : jO g H M 5 [.int _, .ref _, .int _, .int _, .int _, .int _, .ref _, .ref _, .ref _, .ref _, .int _, .ref _, .ref _, .ref _, .int _, .int _] := hO
  have hf := hf.put oq hsz (by omega)
  refine lv_iload_n hx hb dX5_refused_5 rfl (lv_at hl 1 rfl) ?_
  refine jz_le (tgt := 13) hx hb dX5_refused_6 (by decide) (by omega) (fun c6 => ?_) (fun c6 => ?_)
  · refine lv_iconst (v := (nI (0))) hx hb dX5_refused_13 (by decide) ?_
    refine j_zret hx hb hr hlocks hH hw (Or.inl rfl) dX5_refused_14 ?_
    exact ⟨_, rfl, by rw [show min w 1 = 0 by omega], hO, hf⟩
  · refine lv_iconst (v := (nI (1))) hx hb dX5_refused_9 (by decide) ?_
    refine lv_goto (tgt := 14) hx hb dX5_refused_10 (by decide) ?_
    refine j_zret hx hb hr hlocks hH hw (Or.inr rfl) dX5_refused_14 ?_
    exact ⟨_, rfl, by rw [show min w 1 = 1 by omega], hO, hf⟩

abbrev q_X5_setting (g : jG) (H0 : Heap) (M : Nat) (what : Int32) (x0 : Int32) (tx : List Nat) (σ : Sg) (hi : List Sg) (sv : Nat → Option Sg) : Option Value → Heap → Prop := jN (fun r H1 => ((fSetting σ what).1 = 0 → r = (fSetting σ what).2) ∧ MD g H1 M (nI (fSetting σ what).1) tx σ hi sv ∧ jF M 9 H0 H1)
set_option maxHeartbeats 4000000 in
set_option maxRecDepth 100000 in
theorem c_X5_setting (l : Launch) (g : jG) (z : Nat) (H0 : Heap) (M : Nat) (what : Int32) (x0 : Int32) (tx : List Nat) (σ : Sg) (hi : List Sg) (sv : Nat → Option Sg) (hzM : z ≤ M) (hMD : MD g H0 M x0 tx σ hi sv) : jM l g z yX5_setting wsX5_setting 1 25 [.ref M, .int what] H0 (q_X5_setting g H0 M what x0 tx σ hi sv) := by
  refine j_of (cc := cX5_setting) (n := 2) (ret := some .int) (by decide) rfl (Nat.le_of_ble_eq_true rfl) ?_
  intro p e s m below meth c hx hb hr hml hown hts hlocks hname hH hw ls hl
  have hl : lv_has ls 2 [(0, .ref M), (1, .int what)] := hl
  have hinX5 : ∀ w ∈ u_ws RX5 TX5 16, w ∈ wsX5_setting := by decide +kernel
  have hf : jF M 9 H0 H0 := jF.rf
  obtain ⟨x3, x4, x5, x14, sn, sc, rd, nw, tr, dy, kp, ik, tk, hO, hSc, hRd, hA, hTr, hDy, hKp, hIk, hT8, hMI⟩ := hMD
  obtain ⟨htx, hsc, hR, hN, hhi, hdy, hkp⟩ := id hMI
  obtain ⟨hs, hcalm, h20⟩ := id hN
  refine lv_aload_n hx hb dX5_setting_0 rfl (lv_at hl 0 rfl) ?_
  refine lv_iload_n hx hb dX5_setting_1 rfl (lv_at hl 1 rfl) ?_
  refine lv_i2l (v := what.toInt64) hx hb dX5_setting_2 rfl ?_
  refine lv_lconst (v := 0) hx hb dX5_setting_3 (by decide) ?_
  refine lv_ldc2 (v := 4) hx hb hown (hts (.constantLong RX5 183 (4)) (by decide +kernel)) dX5_setting_4 ?_
  refine j_Sp (n := 3) (As := [.long what.toInt64, .long 0, .long 4]) hx hb hml hown hts hw (c_X5_in l g z H0 what.toInt64 0 4   ) gX5_setting_X5_in rfl (by decide +kernel) ⟨Nat.le_of_ble_eq_true rfl, Nat.le_of_ble_eq_true rfl⟩ rfl hl.1 (Nat.le_of_ble_eq_true rfl) ⟨Nat.zero_le _, Nat.zero_le _⟩ dX5_setting_7 (fun r1 locs hr1 hw => ?_) rfl
  rcases in_ix (x := what) (a := 0) (n := 5) (by decide) (by decide) hr1 with ⟨rfl, u, hu, hua, hun, rfl⟩ | ⟨rfl, hu⟩
  · refine jz_eq (tgt := 17) hx hb dX5_setting_10 (by decide) (by omega) (fun c10 => absurd c10 (by omega)) (fun c10 => ?_)
    refine lv_iconst (v := (nI (0))) hx hb dX5_setting_13 (by decide) ?_
    refine lv_goto (tgt := 18) hx hb dX5_setting_14 (by decide) ?_
    refine j_Vi (n := 1) (As := [.int (nI (0))]) hx hb hml hown hts hw (j_recv hw hO rfl) (c_X5_refused l g z H0 M (0) x0 (nI (tx.length)) x3 x4 x5 (nI (hi.length)) x14 _ hzM hO (by first | assumption | omega)) gX5_setting_X5_refused rfl (by decide +kernel) ⟨Nat.le_of_ble_eq_true rfl, Nat.le_of_ble_eq_true rfl⟩ rfl hl.1 (Nat.le_of_ble_eq_true rfl) ⟨Nat.zero_le _, Nat.zero_le _⟩ dX5_setting_18 (fun r2 H locs hr2 hw hsz => ?_) rfl
    obtain ⟨hr2, hO, hf2⟩ := hr2
    obtain rfl : r2 = nI 0 := hr2
    have hO : jO g H M 5 [.int (nI (0)), .ref (M + 1), .int (nI (tx.length)), .int x3, .int x4, .int x5, .ref (M + 2), .ref (M + 3), .ref (M + 4), .ref (M + 5), .int (nI (hi.length)), .ref (M + 6), .ref (M + 7), .ref (M + 8), .int x14, .int (bI sn)] := hO
    have hSc := hSc.kept (hf2.2 _ (by omega))
    have hRd := hRd.kept (hf2.2 _ (by omega))
    have hA := hA.kept (hf2.2 _ (by omega))
    have hTr := hTr.kept (hf2.2 _ (by omega))
    have hDy := hDy.kept (hf2.2 _ (by omega))
    have hKp := hKp.kept (hf2.2 _ (by omega))
    have hIk := hIk.kept (hf2.2 _ (by omega))
    have hT8 := hT8.kept (hf2.2 _ (by omega))
    have hf := hf.step hf2 (by omega)
    refine jz_eq (tgt := 28) hx hb dX5_setting_21 (by decide) (by omega) (fun c21 => ?_) (fun c21 => absurd c21 (by omega))
    refine lv_aload_n hx hb dX5_setting_28 rfl (lv_at hl 0 rfl) ?_
    refine j_get (T := TX5) (N := 16) (k := 7) hx hb hts hinX5 hown hw hO rfl (by decide) (hts (.fieldLink RX5 16 "NightTrainsModel" "now" "[I") (by decide +kernel)) rfl dX5_setting_29 ?_
    refine lv_iload_n hx hb dX5_setting_32 rfl (lv_at hl 1 rfl) ?_
    refine j_iald hx hb hw hA (k := u) rfl (by omega) (by omega) dX5_setting_33 ?_
    refine j_eq (y := nI (σ.1 u)) (hR.n u (by omega)) ?_
    refine j_iret hx hb hr hlocks hH hw dX5_setting_34 ?_
    have e9 : fSetting σ (nI (u)) = (0, nI (σ.1 u)) := by simp only [fSetting, hu]
    exact ⟨_, rfl, by rw [e9]; exact ⟨fun _ => rfl, ⟨x3, x4, x5, x14, sn, sc, rd, nw, tr, dy, kp, ik, tk, hO, hSc, hRd, hA, hTr, hDy, hKp, hIk, hT8, hMI⟩, hf⟩⟩
  · refine jz_eq (tgt := 17) hx hb dX5_setting_10 (by decide) (by omega) (fun c10 => ?_) (fun c10 => absurd c10 (by omega))
    refine lv_iconst (v := (nI (1))) hx hb dX5_setting_17 (by decide) ?_
    refine j_Vi (n := 1) (As := [.int (nI (1))]) hx hb hml hown hts hw (j_recv hw hO rfl) (c_X5_refused l g z H0 M (1) x0 (nI (tx.length)) x3 x4 x5 (nI (hi.length)) x14 _ hzM hO (by first | assumption | omega)) gX5_setting_X5_refused rfl (by decide +kernel) ⟨Nat.le_of_ble_eq_true rfl, Nat.le_of_ble_eq_true rfl⟩ rfl hl.1 (Nat.le_of_ble_eq_true rfl) ⟨Nat.zero_le _, Nat.zero_le _⟩ dX5_setting_18 (fun r3 H locs hr3 hw hsz => ?_) rfl
    obtain ⟨hr3, hO, hf2⟩ := hr3
    obtain rfl : r3 = nI 1 := hr3
    have hO : jO g H M 5 [.int (nI (1)), .ref (M + 1), .int (nI (tx.length)), .int x3, .int x4, .int x5, .ref (M + 2), .ref (M + 3), .ref (M + 4), .ref (M + 5), .int (nI (hi.length)), .ref (M + 6), .ref (M + 7), .ref (M + 8), .int x14, .int (bI sn)] := hO
    have hSc := hSc.kept (hf2.2 _ (by omega))
    have hRd := hRd.kept (hf2.2 _ (by omega))
    have hA := hA.kept (hf2.2 _ (by omega))
    have hTr := hTr.kept (hf2.2 _ (by omega))
    have hDy := hDy.kept (hf2.2 _ (by omega))
    have hKp := hKp.kept (hf2.2 _ (by omega))
    have hIk := hIk.kept (hf2.2 _ (by omega))
    have hT8 := hT8.kept (hf2.2 _ (by omega))
    have hf := hf.step hf2 (by omega)
    refine jz_eq (tgt := 28) hx hb dX5_setting_21 (by decide) (by omega) (fun c21 => absurd c21 (by omega)) (fun c21 => ?_)
    refine lv_iconst (v := (nI (0))) hx hb dX5_setting_24 (by decide) ?_
    refine lv_goto (tgt := 34) hx hb dX5_setting_25 (by decide) ?_
    refine j_iret hx hb hr hlocks hH hw dX5_setting_34 ?_
    have e9 : fSetting σ what = (1, 0) := by simp only [fSetting, hu]
    exact ⟨_, rfl, by rw [e9]; exact ⟨fun h9 => absurd h9 (Nat.succ_ne_zero _), ⟨x3, x4, x5, x14, sn, sc, rd, nw, tr, dy, kp, ik, tk, hO, hSc, hRd, hA, hTr, hDy, hKp, hIk, hT8, hMI⟩, hf⟩⟩

abbrev q_X5_order (g : jG) (H0 : Heap) (M : Nat) (i : Int32) (what : Int32) (x0 : Int32) (tx : List Nat) (σ : Sg) (hi : List Sg) (sv : Nat → Option Sg) : Option Value → Heap → Prop := jN (fun r H1 => ((fOrder σ i what).1 = 0 → r = (fOrder σ i what).2) ∧ MD g H1 M (nI (fOrder σ i what).1) tx σ hi sv ∧ jF M 9 H0 H1)
set_option maxHeartbeats 4000000 in
set_option maxRecDepth 100000 in
theorem c_X5_order (l : Launch) (g : jG) (z : Nat) (H0 : Heap) (M : Nat) (i : Int32) (what : Int32) (x0 : Int32) (tx : List Nat) (σ : Sg) (hi : List Sg) (sv : Nat → Option Sg) (hzM : z ≤ M) (hMD : MD g H0 M x0 tx σ hi sv) : jM l g z yX5_order wsX5_order 2 46 [.ref M, .int i, .int what] H0 (q_X5_order g H0 M i what x0 tx σ hi sv) := by
  refine j_of (cc := cX5_order) (n := 3) (ret := some .int) (by decide) rfl (Nat.le_of_ble_eq_true rfl) ?_
  intro p e s m below meth c hx hb hr hml hown hts hlocks hname hH hw ls hl
  have hl : lv_has ls 3 [(0, .ref M), (1, .int i), (2, .int what)] := hl
  have hinX5 : ∀ w ∈ u_ws RX5 TX5 16, w ∈ wsX5_order := by decide +kernel
  have hf : jF M 9 H0 H0 := jF.rf
  obtain ⟨x3, x4, x5, x14, sn, sc, rd, nw, tr, dy, kp, ik, tk, hO, hSc, hRd, hA, hTr, hDy, hKp, hIk, hT8, hMI⟩ := hMD
  obtain ⟨htx, hsc, hR, hN, hhi, hdy, hkp⟩ := id hMI
  obtain ⟨hs, hcalm, h20⟩ := id hN
  refine lv_aload_n hx hb dX5_order_0 rfl (lv_at hl 0 rfl) ?_
  refine lv_aload_n hx hb dX5_order_1 rfl (lv_at hl 0 rfl) ?_
  refine lv_iload_n hx hb dX5_order_2 rfl (lv_at hl 1 rfl) ?_
  refine j_Vp (n := 1) (As := [.int i]) hx hb hml hown hts hw (j_recv hw hO rfl) (c_X5_isOrder l g z H0 M i (σ) nw x0 (nI (tx.length)) x3 x4 x5 (nI (hi.length)) x14 _ hzM hO hA hR hs) gX5_order_X5_isOrder rfl (by decide +kernel) ⟨Nat.le_of_ble_eq_true rfl, Nat.le_of_ble_eq_true rfl⟩ rfl hl.1 (Nat.le_of_ble_eq_true rfl) ⟨Nat.zero_le _, Nat.zero_le _⟩ dX5_order_3 (fun r1 locs hr1 hw => ?_) rfl
  rcases hr1 with ⟨rfl, q, hq, hqa, hqn, rfl⟩ | ⟨rfl, hq⟩
  · refine jz_ne (tgt := 13) hx hb dX5_order_6 (by decide) (by omega) (fun c6 => ?_) (fun c6 => absurd c6 (by omega))
    refine lv_iload_n hx hb dX5_order_13 rfl (lv_at hl 2 rfl) ?_
    refine lv_i2l (v := what.toInt64) hx hb dX5_order_14 rfl ?_
    refine lv_lconst (v := 0) hx hb dX5_order_15 (by decide) ?_
    refine lv_ldc2 (v := 4) hx hb hown (hts (.constantLong RX5 183 (4)) (by decide +kernel)) dX5_order_16 ?_
    refine j_Sp (n := 3) (As := [.long what.toInt64, .long 0, .long 4]) hx hb hml hown hts hw (c_X5_in l g z H0 what.toInt64 0 4   ) gX5_order_X5_in rfl (by decide +kernel) ⟨Nat.le_of_ble_eq_true rfl, Nat.le_of_ble_eq_true rfl⟩ rfl hl.1 (Nat.le_of_ble_eq_true rfl) ⟨Nat.zero_le _, Nat.zero_le _⟩ dX5_order_19 (fun r2 locs hr2 hw => ?_) rfl
    rcases in_ix (x := what) (a := 0) (n := 5) (by decide) (by decide) hr2 with ⟨rfl, u, hu, hua, hun, rfl⟩ | ⟨rfl, hu⟩
    · refine jz_eq (tgt := 29) hx hb dX5_order_22 (by decide) (by omega) (fun c22 => absurd c22 (by omega)) (fun c22 => ?_)
      refine lv_iconst (v := (nI (0))) hx hb dX5_order_25 (by decide) ?_
      refine lv_goto (tgt := 30) hx hb dX5_order_26 (by decide) ?_
      refine j_Vi (n := 1) (As := [.int (nI (0))]) hx hb hml hown hts hw (j_recv hw hO rfl) (c_X5_refused l g z H0 M (0) x0 (nI (tx.length)) x3 x4 x5 (nI (hi.length)) x14 _ hzM hO (by first | assumption | omega)) gX5_order_X5_refused rfl (by decide +kernel) ⟨Nat.le_of_ble_eq_true rfl, Nat.le_of_ble_eq_true rfl⟩ rfl hl.1 (Nat.le_of_ble_eq_true rfl) ⟨Nat.zero_le _, Nat.zero_le _⟩ dX5_order_30 (fun r3 H locs hr3 hw hsz => ?_) rfl
      obtain ⟨hr3, hO, hf2⟩ := hr3
      obtain rfl : r3 = nI 0 := hr3
      have hO : jO g H M 5 [.int (nI (0)), .ref (M + 1), .int (nI (tx.length)), .int x3, .int x4, .int x5, .ref (M + 2), .ref (M + 3), .ref (M + 4), .ref (M + 5), .int (nI (hi.length)), .ref (M + 6), .ref (M + 7), .ref (M + 8), .int x14, .int (bI sn)] := hO
      have hSc := hSc.kept (hf2.2 _ (by omega))
      have hRd := hRd.kept (hf2.2 _ (by omega))
      have hA := hA.kept (hf2.2 _ (by omega))
      have hTr := hTr.kept (hf2.2 _ (by omega))
      have hDy := hDy.kept (hf2.2 _ (by omega))
      have hKp := hKp.kept (hf2.2 _ (by omega))
      have hIk := hIk.kept (hf2.2 _ (by omega))
      have hT8 := hT8.kept (hf2.2 _ (by omega))
      have hf := hf.step hf2 (by omega)
      refine jz_eq (tgt := 40) hx hb dX5_order_33 (by decide) (by omega) (fun c33 => ?_) (fun c33 => absurd c33 (by omega))
      obtain ⟨o, ho⟩ := getO hqn
      refine lv_aload_n hx hb dX5_order_40 rfl (lv_at hl 0 rfl) ?_
      refine j_get (T := TX5) (N := 16) (k := 7) hx hb hts hinX5 hown hw hO rfl (by decide) (hts (.fieldLink RX5 16 "NightTrainsModel" "now" "[I") (by decide +kernel)) rfl dX5_order_41 ?_
      refine lv_iload_n hx hb dX5_order_44 rfl (lv_at hl 1 rfl) ?_
      refine lv_iload_n hx hb dX5_order_45 rfl (lv_at hl 2 rfl) ?_
      refine j_Sp (n := 2) (As := [.int (nI (q)), .int (nI (u))]) hx hb hml hown hts hw (c_X5_at l g z H (q) (u)   ) gX5_order_X5_at rfl (by decide +kernel) ⟨Nat.le_of_ble_eq_true rfl, Nat.le_of_ble_eq_true rfl⟩ rfl hl.1 (Nat.le_of_ble_eq_true rfl) ⟨Nat.zero_le _, Nat.zero_le _⟩ dX5_order_46 (fun r4 locs hr4 hw => ?_) rfl
      obtain rfl : r4 = (nI (109 + 6 * (q) + (u))) := hr4
      refine j_iald hx hb hw hA (k := 109 + 6 * (q) + (u)) rfl (by omega) (by omega) dX5_order_49 ?_
      refine j_eq (y := nI (o u)) (hR.o ho u (by omega) (by omega)) ?_
      refine j_iret hx hb hr hlocks hH hw dX5_order_50 ?_
      have e9 : fOrder σ (nI (q)) (nI (u)) = (0, nI (o u)) := by simp only [fOrder, hq, hu, ho]
      exact ⟨_, rfl, by rw [e9]; exact ⟨fun _ => rfl, ⟨x3, x4, x5, x14, sn, sc, rd, nw, tr, dy, kp, ik, tk, hO, hSc, hRd, hA, hTr, hDy, hKp, hIk, hT8, hMI⟩, hf⟩⟩
    · refine jz_eq (tgt := 29) hx hb dX5_order_22 (by decide) (by omega) (fun c22 => ?_) (fun c22 => absurd c22 (by omega))
      refine lv_iconst (v := (nI (2))) hx hb dX5_order_29 (by decide) ?_
      refine j_Vi (n := 1) (As := [.int (nI (2))]) hx hb hml hown hts hw (j_recv hw hO rfl) (c_X5_refused l g z H0 M (2) x0 (nI (tx.length)) x3 x4 x5 (nI (hi.length)) x14 _ hzM hO (by first | assumption | omega)) gX5_order_X5_refused rfl (by decide +kernel) ⟨Nat.le_of_ble_eq_true rfl, Nat.le_of_ble_eq_true rfl⟩ rfl hl.1 (Nat.le_of_ble_eq_true rfl) ⟨Nat.zero_le _, Nat.zero_le _⟩ dX5_order_30 (fun r5 H locs hr5 hw hsz => ?_) rfl
      obtain ⟨hr5, hO, hf2⟩ := hr5
      obtain rfl : r5 = nI 1 := hr5
      have hO : jO g H M 5 [.int (nI (2)), .ref (M + 1), .int (nI (tx.length)), .int x3, .int x4, .int x5, .ref (M + 2), .ref (M + 3), .ref (M + 4), .ref (M + 5), .int (nI (hi.length)), .ref (M + 6), .ref (M + 7), .ref (M + 8), .int x14, .int (bI sn)] := hO
      have hSc := hSc.kept (hf2.2 _ (by omega))
      have hRd := hRd.kept (hf2.2 _ (by omega))
      have hA := hA.kept (hf2.2 _ (by omega))
      have hTr := hTr.kept (hf2.2 _ (by omega))
      have hDy := hDy.kept (hf2.2 _ (by omega))
      have hKp := hKp.kept (hf2.2 _ (by omega))
      have hIk := hIk.kept (hf2.2 _ (by omega))
      have hT8 := hT8.kept (hf2.2 _ (by omega))
      have hf := hf.step hf2 (by omega)
      refine jz_eq (tgt := 40) hx hb dX5_order_33 (by decide) (by omega) (fun c33 => absurd c33 (by omega)) (fun c33 => ?_)
      refine lv_iconst (v := (nI (0))) hx hb dX5_order_36 (by decide) ?_
      refine lv_goto (tgt := 50) hx hb dX5_order_37 (by decide) ?_
      refine j_iret hx hb hr hlocks hH hw dX5_order_50 ?_
      have e9 : fOrder σ (nI (q)) what = (2, 0) := by simp only [fOrder, hq, hu]
      exact ⟨_, rfl, by rw [e9]; exact ⟨fun h9 => absurd h9 (Nat.succ_ne_zero _), ⟨x3, x4, x5, x14, sn, sc, rd, nw, tr, dy, kp, ik, tk, hO, hSc, hRd, hA, hTr, hDy, hKp, hIk, hT8, hMI⟩, hf⟩⟩
  · refine jz_ne (tgt := 13) hx hb dX5_order_6 (by decide) (by omega) (fun c6 => absurd c6 (by omega)) (fun c6 => ?_)
    refine lv_iconst (v := (nI (1))) hx hb dX5_order_9 (by decide) ?_
    refine lv_goto (tgt := 30) hx hb dX5_order_10 (by decide) ?_
    refine j_Vi (n := 1) (As := [.int (nI (1))]) hx hb hml hown hts hw (j_recv hw hO rfl) (c_X5_refused l g z H0 M (1) x0 (nI (tx.length)) x3 x4 x5 (nI (hi.length)) x14 _ hzM hO (by first | assumption | omega)) gX5_order_X5_refused rfl (by decide +kernel) ⟨Nat.le_of_ble_eq_true rfl, Nat.le_of_ble_eq_true rfl⟩ rfl hl.1 (Nat.le_of_ble_eq_true rfl) ⟨Nat.zero_le _, Nat.zero_le _⟩ dX5_order_30 (fun r6 H locs hr6 hw hsz => ?_) rfl
    obtain ⟨hr6, hO, hf2⟩ := hr6
    obtain rfl : r6 = nI 1 := hr6
    have hO : jO g H M 5 [.int (nI (1)), .ref (M + 1), .int (nI (tx.length)), .int x3, .int x4, .int x5, .ref (M + 2), .ref (M + 3), .ref (M + 4), .ref (M + 5), .int (nI (hi.length)), .ref (M + 6), .ref (M + 7), .ref (M + 8), .int x14, .int (bI sn)] := hO
    have hSc := hSc.kept (hf2.2 _ (by omega))
    have hRd := hRd.kept (hf2.2 _ (by omega))
    have hA := hA.kept (hf2.2 _ (by omega))
    have hTr := hTr.kept (hf2.2 _ (by omega))
    have hDy := hDy.kept (hf2.2 _ (by omega))
    have hKp := hKp.kept (hf2.2 _ (by omega))
    have hIk := hIk.kept (hf2.2 _ (by omega))
    have hT8 := hT8.kept (hf2.2 _ (by omega))
    have hf := hf.step hf2 (by omega)
    refine jz_eq (tgt := 40) hx hb dX5_order_33 (by decide) (by omega) (fun c33 => absurd c33 (by omega)) (fun c33 => ?_)
    refine lv_iconst (v := (nI (0))) hx hb dX5_order_36 (by decide) ?_
    refine lv_goto (tgt := 50) hx hb dX5_order_37 (by decide) ?_
    refine j_iret hx hb hr hlocks hH hw dX5_order_50 ?_
    have e9 : fOrder σ i what = (1, 0) := by simp only [fOrder, hq]
    exact ⟨_, rfl, by rw [e9]; exact ⟨fun h9 => absurd h9 (Nat.succ_ne_zero _), ⟨x3, x4, x5, x14, sn, sc, rd, nw, tr, dy, kp, ik, tk, hO, hSc, hRd, hA, hTr, hDy, hKp, hIk, hT8, hMI⟩, hf⟩⟩

abbrev q_X5_delivered (g : jG) (H0 : Heap) (M : Nat) (k : Int32) (what : Int32) (x0 : Int32) (tx : List Nat) (σ : Sg) (hi : List Sg) (sv : Nat → Option Sg) : Option Value → Heap → Prop := jN (fun r H1 => ((fDel σ k what).1 = 0 → r = (fDel σ k what).2) ∧ MD g H1 M (nI (fDel σ k what).1) tx σ hi sv ∧ jF M 9 H0 H1)
set_option maxHeartbeats 4000000 in
set_option maxRecDepth 100000 in
theorem c_X5_delivered (l : Launch) (g : jG) (z : Nat) (H0 : Heap) (M : Nat) (k : Int32) (what : Int32) (x0 : Int32) (tx : List Nat) (σ : Sg) (hi : List Sg) (sv : Nat → Option Sg) (hzM : z ≤ M) (hMD : MD g H0 M x0 tx σ hi sv) : jM l g z yX5_delivered wsX5_delivered 1 25 [.ref M, .int k, .int what] H0 (q_X5_delivered g H0 M k what x0 tx σ hi sv) := by
  refine j_of (cc := cX5_delivered) (n := 3) (ret := some .int) (by decide) rfl (Nat.le_of_ble_eq_true rfl) ?_
  intro p e s m below meth c hx hb hr hml hown hts hlocks hname hH hw ls hl
  have hl : lv_has ls 3 [(0, .ref M), (1, .int k), (2, .int what)] := hl
  have hinX5 : ∀ w ∈ u_ws RX5 TX5 16, w ∈ wsX5_delivered := by decide +kernel
  have hf : jF M 9 H0 H0 := jF.rf
  obtain ⟨x3, x4, x5, x14, sn, sc, rd, nw, tr, dy, kp, ik, tk, hO, hSc, hRd, hA, hTr, hDy, hKp, hIk, hT8, hMI⟩ := hMD
  obtain ⟨htx, hsc, hR, hN, hhi, hdy, hkp⟩ := id hMI
  obtain ⟨hs, hcalm, h20⟩ := id hN
  refine lv_aload_n hx hb dX5_delivered_0 rfl (lv_at hl 0 rfl) ?_
  refine lv_iload_n hx hb dX5_delivered_1 rfl (lv_at hl 1 rfl) ?_
  refine lv_i2l (v := k.toInt64) hx hb dX5_delivered_2 rfl ?_
  refine lv_lconst (v := 0) hx hb dX5_delivered_3 (by decide) ?_
  refine lv_ldc2 (v := 9) hx hb hown (hts (.constantLong RX5 128 (9)) (by decide +kernel)) dX5_delivered_4 ?_
  refine j_Sp (n := 3) (As := [.long k.toInt64, .long 0, .long 9]) hx hb hml hown hts hw (c_X5_in l g z H0 k.toInt64 0 9   ) gX5_delivered_X5_in rfl (by decide +kernel) ⟨Nat.le_of_ble_eq_true rfl, Nat.le_of_ble_eq_true rfl⟩ rfl hl.1 (Nat.le_of_ble_eq_true rfl) ⟨Nat.zero_le _, Nat.zero_le _⟩ dX5_delivered_7 (fun r1 locs hr1 hw => ?_) rfl
  rcases in_ix (x := k) (a := 0) (n := 10) (by decide) (by decide) hr1 with ⟨rfl, q, hq, hqa, hqn, rfl⟩ | ⟨rfl, hq⟩
  · refine jz_eq (tgt := 29) hx hb dX5_delivered_10 (by decide) (by omega) (fun c10 => absurd c10 (by omega)) (fun c10 => ?_)
    refine lv_iload_n hx hb dX5_delivered_13 rfl (lv_at hl 2 rfl) ?_
    refine lv_i2l (v := what.toInt64) hx hb dX5_delivered_14 rfl ?_
    refine lv_lconst (v := 0) hx hb dX5_delivered_15 (by decide) ?_
    refine lv_ldc2 (v := 4) hx hb hown (hts (.constantLong RX5 183 (4)) (by decide +kernel)) dX5_delivered_16 ?_
    refine j_Sp (n := 3) (As := [.long what.toInt64, .long 0, .long 4]) hx hb hml hown hts hw (c_X5_in l g z H0 what.toInt64 0 4   ) gX5_delivered_X5_in rfl (by decide +kernel) ⟨Nat.le_of_ble_eq_true rfl, Nat.le_of_ble_eq_true rfl⟩ rfl hl.1 (Nat.le_of_ble_eq_true rfl) ⟨Nat.zero_le _, Nat.zero_le _⟩ dX5_delivered_19 (fun r2 locs hr2 hw => ?_) rfl
    rcases in_ix (x := what) (a := 0) (n := 5) (by decide) (by decide) hr2 with ⟨rfl, u, hu, hua, hun, rfl⟩ | ⟨rfl, hu⟩
    · refine jz_eq (tgt := 29) hx hb dX5_delivered_22 (by decide) (by omega) (fun c22 => absurd c22 (by omega)) (fun c22 => ?_)
      refine lv_iconst (v := (nI (0))) hx hb dX5_delivered_25 (by decide) ?_
      refine lv_goto (tgt := 30) hx hb dX5_delivered_26 (by decide) ?_
      refine j_Vi (n := 1) (As := [.int (nI (0))]) hx hb hml hown hts hw (j_recv hw hO rfl) (c_X5_refused l g z H0 M (0) x0 (nI (tx.length)) x3 x4 x5 (nI (hi.length)) x14 _ hzM hO (by first | assumption | omega)) gX5_delivered_X5_refused rfl (by decide +kernel) ⟨Nat.le_of_ble_eq_true rfl, Nat.le_of_ble_eq_true rfl⟩ rfl hl.1 (Nat.le_of_ble_eq_true rfl) ⟨Nat.zero_le _, Nat.zero_le _⟩ dX5_delivered_30 (fun r3 H locs hr3 hw hsz => ?_) rfl
      obtain ⟨hr3, hO, hf2⟩ := hr3
      obtain rfl : r3 = nI 0 := hr3
      have hO : jO g H M 5 [.int (nI (0)), .ref (M + 1), .int (nI (tx.length)), .int x3, .int x4, .int x5, .ref (M + 2), .ref (M + 3), .ref (M + 4), .ref (M + 5), .int (nI (hi.length)), .ref (M + 6), .ref (M + 7), .ref (M + 8), .int x14, .int (bI sn)] := hO
      have hSc := hSc.kept (hf2.2 _ (by omega))
      have hRd := hRd.kept (hf2.2 _ (by omega))
      have hA := hA.kept (hf2.2 _ (by omega))
      have hTr := hTr.kept (hf2.2 _ (by omega))
      have hDy := hDy.kept (hf2.2 _ (by omega))
      have hKp := hKp.kept (hf2.2 _ (by omega))
      have hIk := hIk.kept (hf2.2 _ (by omega))
      have hT8 := hT8.kept (hf2.2 _ (by omega))
      have hf := hf.step hf2 (by omega)
      refine jz_eq (tgt := 38) hx hb dX5_delivered_33 (by decide) (by omega) (fun c33 => ?_) (fun c33 => absurd c33 (by omega))
      have hl10 := hs.2.2.2.2.1
      refine lv_iload_n hx hb dX5_delivered_38 rfl (lv_at hl 1 rfl) ?_
      refine lv_aload_n hx hb dX5_delivered_39 rfl (lv_at hl 0 rfl) ?_
      refine j_get (T := TX5) (N := 16) (k := 7) hx hb hts hinX5 hown hw hO rfl (by decide) (hts (.fieldLink RX5 16 "NightTrainsModel" "now" "[I") (by decide +kernel)) rfl dX5_delivered_40 ?_
      refine lv_bipush (v := (nI (58))) hx hb dX5_delivered_43 (by decide) ?_
      refine j_iald hx hb hw hA (k := 58) rfl (by omega) (by omega) dX5_delivered_45 ?_
      refine j_eq (y := nI (σ.2.2.2.length)) hR.2.2.2.1 ?_
      refine jn_ge (tgt := 65) hx hb dX5_delivered_46 (by decide) (by omega) (by omega) (fun c46 => ?_) (fun c46 => ?_)
      · refine lv_iconst (v := (-1)) hx hb dX5_delivered_65 (by decide) ?_
        refine j_iret hx hb hr hlocks hH hw dX5_delivered_66 ?_
        have e9 : fDel σ (nI (q)) (nI (u)) = (0, -1) := by simp only [fDel, hq, hu, List.getElem?_eq_none c46]
        exact ⟨_, rfl, by rw [e9]; exact ⟨fun _ => rfl, ⟨x3, x4, x5, x14, sn, sc, rd, nw, tr, dy, kp, ik, tk, hO, hSc, hRd, hA, hTr, hDy, hKp, hIk, hT8, hMI⟩, hf⟩⟩
      · obtain ⟨o, ho⟩ := getO (L := σ.2.2.2) (k := q) (by omega)
        refine lv_aload_n hx hb dX5_delivered_49 rfl (lv_at hl 0 rfl) ?_
        refine j_get (T := TX5) (N := 16) (k := 7) hx hb hts hinX5 hown hw hO rfl (by decide) (hts (.fieldLink RX5 16 "NightTrainsModel" "now" "[I") (by decide +kernel)) rfl dX5_delivered_50 ?_
        refine lv_bipush (v := (nI (59))) hx hb dX5_delivered_53 (by decide) ?_
        refine lv_iconst (v := (nI (5))) hx hb dX5_delivered_55 (by decide) ?_
        refine lv_iload_n hx hb dX5_delivered_56 rfl (lv_at hl 1 rfl) ?_
        refine j_mulN hx hb dX5_delivered_57 ?_
        refine j_addN hx hb dX5_delivered_58 ?_
        refine lv_iload_n hx hb dX5_delivered_59 rfl (lv_at hl 2 rfl) ?_
        refine j_addN hx hb dX5_delivered_60 ?_
        refine j_iald hx hb hw hA (k := ((59 + (5 * q)) + u)) rfl (by omega) (by omega) dX5_delivered_61 ?_
        refine j_eq (y := nI (o (lw u))) (hR.d ho u (by omega) (by omega)) ?_
        refine lv_goto (tgt := 66) hx hb dX5_delivered_62 (by decide) ?_
        refine j_iret hx hb hr hlocks hH hw dX5_delivered_66 ?_
        have e9 : fDel σ (nI (q)) (nI (u)) = (0, nI (o (lw u))) := by simp only [fDel, hq, hu, ho]
        exact ⟨_, rfl, by rw [e9]; exact ⟨fun _ => rfl, ⟨x3, x4, x5, x14, sn, sc, rd, nw, tr, dy, kp, ik, tk, hO, hSc, hRd, hA, hTr, hDy, hKp, hIk, hT8, hMI⟩, hf⟩⟩
    · refine jz_eq (tgt := 29) hx hb dX5_delivered_22 (by decide) (by omega) (fun c22 => ?_) (fun c22 => absurd c22 (by omega))
      refine lv_iconst (v := (nI (1))) hx hb dX5_delivered_29 (by decide) ?_
      refine j_Vi (n := 1) (As := [.int (nI (1))]) hx hb hml hown hts hw (j_recv hw hO rfl) (c_X5_refused l g z H0 M (1) x0 (nI (tx.length)) x3 x4 x5 (nI (hi.length)) x14 _ hzM hO (by first | assumption | omega)) gX5_delivered_X5_refused rfl (by decide +kernel) ⟨Nat.le_of_ble_eq_true rfl, Nat.le_of_ble_eq_true rfl⟩ rfl hl.1 (Nat.le_of_ble_eq_true rfl) ⟨Nat.zero_le _, Nat.zero_le _⟩ dX5_delivered_30 (fun r4 H locs hr4 hw hsz => ?_) rfl
      obtain ⟨hr4, hO, hf2⟩ := hr4
      obtain rfl : r4 = nI 1 := hr4
      have hO : jO g H M 5 [.int (nI (1)), .ref (M + 1), .int (nI (tx.length)), .int x3, .int x4, .int x5, .ref (M + 2), .ref (M + 3), .ref (M + 4), .ref (M + 5), .int (nI (hi.length)), .ref (M + 6), .ref (M + 7), .ref (M + 8), .int x14, .int (bI sn)] := hO
      have hSc := hSc.kept (hf2.2 _ (by omega))
      have hRd := hRd.kept (hf2.2 _ (by omega))
      have hA := hA.kept (hf2.2 _ (by omega))
      have hTr := hTr.kept (hf2.2 _ (by omega))
      have hDy := hDy.kept (hf2.2 _ (by omega))
      have hKp := hKp.kept (hf2.2 _ (by omega))
      have hIk := hIk.kept (hf2.2 _ (by omega))
      have hT8 := hT8.kept (hf2.2 _ (by omega))
      have hf := hf.step hf2 (by omega)
      refine jz_eq (tgt := 38) hx hb dX5_delivered_33 (by decide) (by omega) (fun c33 => absurd c33 (by omega)) (fun c33 => ?_)
      refine lv_iconst (v := (nI (0))) hx hb dX5_delivered_36 (by decide) ?_
      refine j_iret hx hb hr hlocks hH hw dX5_delivered_37 ?_
      have e9 : fDel σ (nI (q)) what = (1, 0) := by simp only [fDel, hq, hu]
      exact ⟨_, rfl, by rw [e9]; exact ⟨fun h9 => absurd h9 (Nat.succ_ne_zero _), ⟨x3, x4, x5, x14, sn, sc, rd, nw, tr, dy, kp, ik, tk, hO, hSc, hRd, hA, hTr, hDy, hKp, hIk, hT8, hMI⟩, hf⟩⟩
  · refine jz_eq (tgt := 29) hx hb dX5_delivered_10 (by decide) (by omega) (fun c10 => ?_) (fun c10 => absurd c10 (by omega))
    refine lv_iconst (v := (nI (1))) hx hb dX5_delivered_29 (by decide) ?_
    refine j_Vi (n := 1) (As := [.int (nI (1))]) hx hb hml hown hts hw (j_recv hw hO rfl) (c_X5_refused l g z H0 M (1) x0 (nI (tx.length)) x3 x4 x5 (nI (hi.length)) x14 _ hzM hO (by first | assumption | omega)) gX5_delivered_X5_refused rfl (by decide +kernel) ⟨Nat.le_of_ble_eq_true rfl, Nat.le_of_ble_eq_true rfl⟩ rfl hl.1 (Nat.le_of_ble_eq_true rfl) ⟨Nat.zero_le _, Nat.zero_le _⟩ dX5_delivered_30 (fun r5 H locs hr5 hw hsz => ?_) rfl
    obtain ⟨hr5, hO, hf2⟩ := hr5
    obtain rfl : r5 = nI 1 := hr5
    have hO : jO g H M 5 [.int (nI (1)), .ref (M + 1), .int (nI (tx.length)), .int x3, .int x4, .int x5, .ref (M + 2), .ref (M + 3), .ref (M + 4), .ref (M + 5), .int (nI (hi.length)), .ref (M + 6), .ref (M + 7), .ref (M + 8), .int x14, .int (bI sn)] := hO
    have hSc := hSc.kept (hf2.2 _ (by omega))
    have hRd := hRd.kept (hf2.2 _ (by omega))
    have hA := hA.kept (hf2.2 _ (by omega))
    have hTr := hTr.kept (hf2.2 _ (by omega))
    have hDy := hDy.kept (hf2.2 _ (by omega))
    have hKp := hKp.kept (hf2.2 _ (by omega))
    have hIk := hIk.kept (hf2.2 _ (by omega))
    have hT8 := hT8.kept (hf2.2 _ (by omega))
    have hf := hf.step hf2 (by omega)
    refine jz_eq (tgt := 38) hx hb dX5_delivered_33 (by decide) (by omega) (fun c33 => absurd c33 (by omega)) (fun c33 => ?_)
    refine lv_iconst (v := (nI (0))) hx hb dX5_delivered_36 (by decide) ?_
    refine j_iret hx hb hr hlocks hH hw dX5_delivered_37 ?_
    have e9 : fDel σ k what = (1, 0) := by simp only [fDel, hq]
    exact ⟨_, rfl, by rw [e9]; exact ⟨fun h9 => absurd h9 (Nat.succ_ne_zero _), ⟨x3, x4, x5, x14, sn, sc, rd, nw, tr, dy, kp, ik, tk, hO, hSc, hRd, hA, hTr, hDy, hKp, hIk, hT8, hMI⟩, hf⟩⟩
