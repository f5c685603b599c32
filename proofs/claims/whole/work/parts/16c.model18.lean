abbrev q_X4_isReader (g : jG) (H0 : Heap) (x : Int32) : Option Value → Heap → Prop := jN (fun r H1 => H1 = H0 ∧ ((r = nI 1 ∧ ∃ j, ix x 0 4 = some j ∧ 0 ≤ j ∧ j < 4 ∧ x = nI j) ∨ (r = nI 0 ∧ ix x 0 4 = none)))
set_option maxHeartbeats 4000000 in
set_option maxRecDepth 100000 in
theorem c_X4_isReader (l : Launch) (g : jG) (z : Nat) (H0 : Heap) (x : Int32)  : jM l g z yX4_isReader wsX4_isReader 0 0 [.int x] H0 (q_X4_isReader g H0 x) := by
  refine j_of (cc := cX4_isReader) (n := 1) (ret := some .boolean) (by decide) rfl (Nat.le_of_ble_eq_true rfl) ?_
  intro p e s m below meth c hx hb hr hml hown hts hlocks hname hH hw ls hl
  have hl : lv_has ls 1 [(0, .int x)] := hl
  refine lv_iload_n hx hb dX4_isReader_0 rfl (lv_at hl 0 rfl) ?_
  refine lv_if_lt (tgt := 13) hx hb dX4_isReader_1 (by decide) (fun c1 => ?_) (fun c1 => ?_)
  · refine lv_iconst (v := (nI (0))) hx hb dX4_isReader_13 (by decide) ?_
    refine j_zret hx hb hr hlocks hH hw (Or.inl rfl) dX4_isReader_14 ?_
    exact ⟨_, rfl, rfl, Or.inr ⟨rfl, by first | exact ix_lt0 c1 | exact ix_ge (by decide) c6⟩⟩
  · refine lv_iload_n hx hb dX4_isReader_4 rfl (lv_at hl 0 rfl) ?_
    refine lv_iconst (v := (nI (4))) hx hb dX4_isReader_5 (by decide) ?_
    refine lv_icmp_ge (tgt := 13) hx hb dX4_isReader_6 (by decide) (fun c6 => ?_) (fun c6 => ?_)
    · refine lv_iconst (v := (nI (0))) hx hb dX4_isReader_13 (by decide) ?_
      refine j_zret hx hb hr hlocks hH hw (Or.inl rfl) dX4_isReader_14 ?_
      exact ⟨_, rfl, rfl, Or.inr ⟨rfl, by first | exact ix_lt0 c1 | exact ix_ge (by decide) c6⟩⟩
    · refine lv_iconst (v := (nI (1))) hx hb dX4_isReader_9 (by decide) ?_
      refine lv_goto (tgt := 14) hx hb dX4_isReader_10 (by decide) ?_
      refine j_zret hx hb hr hlocks hH hw (Or.inr rfl) dX4_isReader_14 ?_
      exact ⟨_, rfl, rfl, Or.inl ⟨rfl, ix_both (n := 4) (by decide) c1 c6⟩⟩

abbrev q_X4_isLot (g : jG) (H0 : Heap) (x : Int32) : Option Value → Heap → Prop := jN (fun r H1 => H1 = H0 ∧ ((r = nI 1 ∧ ∃ j, ix x 0 16 = some j ∧ 0 ≤ j ∧ j < 16 ∧ x = nI j) ∨ (r = nI 0 ∧ ix x 0 16 = none)))
set_option maxHeartbeats 4000000 in
set_option maxRecDepth 100000 in
theorem c_X4_isLot (l : Launch) (g : jG) (z : Nat) (H0 : Heap) (x : Int32)  : jM l g z yX4_isLot wsX4_isLot 0 0 [.int x] H0 (q_X4_isLot g H0 x) := by
  refine j_of (cc := cX4_isLot) (n := 1) (ret := some .boolean) (by decide) rfl (Nat.le_of_ble_eq_true rfl) ?_
  intro p e s m below meth c hx hb hr hml hown hts hlocks hname hH hw ls hl
  have hl : lv_has ls 1 [(0, .int x)] := hl
  refine lv_iload_n hx hb dX4_isLot_0 rfl (lv_at hl 0 rfl) ?_
  refine lv_if_lt (tgt := 14) hx hb dX4_isLot_1 (by decide) (fun c1 => ?_) (fun c1 => ?_)
  · refine lv_iconst (v := (nI (0))) hx hb dX4_isLot_14 (by decide) ?_
    refine j_zret hx hb hr hlocks hH hw (Or.inl rfl) dX4_isLot_15 ?_
    exact ⟨_, rfl, rfl, Or.inr ⟨rfl, by first | exact ix_lt0 c1 | exact ix_ge (by decide) c7⟩⟩
  · refine lv_iload_n hx hb dX4_isLot_4 rfl (lv_at hl 0 rfl) ?_
    refine lv_bipush (v := (nI (16))) hx hb dX4_isLot_5 (by decide) ?_
    refine lv_icmp_ge (tgt := 14) hx hb dX4_isLot_7 (by decide) (fun c7 => ?_) (fun c7 => ?_)
    · refine lv_iconst (v := (nI (0))) hx hb dX4_isLot_14 (by decide) ?_
      refine j_zret hx hb hr hlocks hH hw (Or.inl rfl) dX4_isLot_15 ?_
      exact ⟨_, rfl, rfl, Or.inr ⟨rfl, by first | exact ix_lt0 c1 | exact ix_ge (by decide) c7⟩⟩
    · refine lv_iconst (v := (nI (1))) hx hb dX4_isLot_10 (by decide) ?_
      refine lv_goto (tgt := 15) hx hb dX4_isLot_11 (by decide) ?_
      refine j_zret hx hb hr hlocks hH hw (Or.inr rfl) dX4_isLot_15 ?_
      exact ⟨_, rfl, rfl, Or.inl ⟨rfl, ix_both (n := 16) (by decide) c1 c7⟩⟩

abbrev q_X4_isItem (g : jG) (H0 : Heap) (x : Int32) : Option Value → Heap → Prop := jN (fun r H1 => H1 = H0 ∧ ((r = nI 1 ∧ ∃ j, ix x 0 8 = some j ∧ 0 ≤ j ∧ j < 8 ∧ x = nI j) ∨ (r = nI 0 ∧ ix x 0 8 = none)))
set_option maxHeartbeats 4000000 in
set_option maxRecDepth 100000 in
theorem c_X4_isItem (l : Launch) (g : jG) (z : Nat) (H0 : Heap) (x : Int32)  : jM l g z yX4_isItem wsX4_isItem 0 0 [.int x] H0 (q_X4_isItem g H0 x) := by
  refine j_of (cc := cX4_isItem) (n := 1) (ret := some .boolean) (by decide) rfl (Nat.le_of_ble_eq_true rfl) ?_
  intro p e s m below meth c hx hb hr hml hown hts hlocks hname hH hw ls hl
  have hl : lv_has ls 1 [(0, .int x)] := hl
  refine lv_iload_n hx hb dX4_isItem_0 rfl (lv_at hl 0 rfl) ?_
  refine lv_if_lt (tgt := 14) hx hb dX4_isItem_1 (by decide) (fun c1 => ?_) (fun c1 => ?_)
  · refine lv_iconst (v := (nI (0))) hx hb dX4_isItem_14 (by decide) ?_
    refine j_zret hx hb hr hlocks hH hw (Or.inl rfl) dX4_isItem_15 ?_
    exact ⟨_, rfl, rfl, Or.inr ⟨rfl, by first | exact ix_lt0 c1 | exact ix_ge (by decide) c7⟩⟩
  · refine lv_iload_n hx hb dX4_isItem_4 rfl (lv_at hl 0 rfl) ?_
    refine lv_bipush (v := (nI (8))) hx hb dX4_isItem_5 (by decide) ?_
    refine lv_icmp_ge (tgt := 14) hx hb dX4_isItem_7 (by decide) (fun c7 => ?_) (fun c7 => ?_)
    · refine lv_iconst (v := (nI (0))) hx hb dX4_isItem_14 (by decide) ?_
      refine j_zret hx hb hr hlocks hH hw (Or.inl rfl) dX4_isItem_15 ?_
      exact ⟨_, rfl, rfl, Or.inr ⟨rfl, by first | exact ix_lt0 c1 | exact ix_ge (by decide) c7⟩⟩
    · refine lv_iconst (v := (nI (1))) hx hb dX4_isItem_10 (by decide) ?_
      refine lv_goto (tgt := 15) hx hb dX4_isItem_11 (by decide) ?_
      refine j_zret hx hb hr hlocks hH hw (Or.inr rfl) dX4_isItem_15 ?_
      exact ⟨_, rfl, rfl, Or.inl ⟨rfl, ix_both (n := 8) (by decide) c1 c7⟩⟩

abbrev q_X4_isFee (g : jG) (H0 : Heap) (x : Int32) : Option Value → Heap → Prop := jN (fun r H1 => H1 = H0 ∧ ((r = nI 1 ∧ ∃ j, ix x 0 10 = some j ∧ 0 ≤ j ∧ j < 10 ∧ x = nI j) ∨ (r = nI 0 ∧ ix x 0 10 = none)))
set_option maxHeartbeats 4000000 in
set_option maxRecDepth 100000 in
theorem c_X4_isFee (l : Launch) (g : jG) (z : Nat) (H0 : Heap) (x : Int32)  : jM l g z yX4_isFee wsX4_isFee 0 0 [.int x] H0 (q_X4_isFee g H0 x) := by
  refine j_of (cc := cX4_isFee) (n := 1) (ret := some .boolean) (by decide) rfl (Nat.le_of_ble_eq_true rfl) ?_
  intro p e s m below meth c hx hb hr hml hown hts hlocks hname hH hw ls hl
  have hl : lv_has ls 1 [(0, .int x)] := hl
  refine lv_iload_n hx hb dX4_isFee_0 rfl (lv_at hl 0 rfl) ?_
  refine lv_if_lt (tgt := 14) hx hb dX4_isFee_1 (by decide) (fun c1 => ?_) (fun c1 => ?_)
  · refine lv_iconst (v := (nI (0))) hx hb dX4_isFee_14 (by decide) ?_
    refine j_zret hx hb hr hlocks hH hw (Or.inl rfl) dX4_isFee_15 ?_
    exact ⟨_, rfl, rfl, Or.inr ⟨rfl, by first | exact ix_lt0 c1 | exact ix_hi (by decide) c7⟩⟩
  · refine lv_iload_n hx hb dX4_isFee_4 rfl (lv_at hl 0 rfl) ?_
    refine lv_bipush (v := (nI (9))) hx hb dX4_isFee_5 (by decide) ?_
    refine lv_icmp_gt (tgt := 14) hx hb dX4_isFee_7 (by decide) (fun c7 => ?_) (fun c7 => ?_)
    · refine lv_iconst (v := (nI (0))) hx hb dX4_isFee_14 (by decide) ?_
      refine j_zret hx hb hr hlocks hH hw (Or.inl rfl) dX4_isFee_15 ?_
      exact ⟨_, rfl, rfl, Or.inr ⟨rfl, by first | exact ix_lt0 c1 | exact ix_hi (by decide) c7⟩⟩
    · refine lv_iconst (v := (nI (1))) hx hb dX4_isFee_10 (by decide) ?_
      refine lv_goto (tgt := 15) hx hb dX4_isFee_11 (by decide) ?_
      refine j_zret hx hb hr hlocks hH hw (Or.inr rfl) dX4_isFee_15 ?_
      exact ⟨_, rfl, rfl, Or.inl ⟨rfl, ix_both2 (n := 9) (by decide) c1 c7⟩⟩

abbrev q_X4_isRaise (g : jG) (H0 : Heap) (x : Int32) : Option Value → Heap → Prop := jN (fun r H1 => H1 = H0 ∧ ((r = nI 1 ∧ ∃ j, ix x 1 10 = some j ∧ 1 ≤ j ∧ j < 10 ∧ x = nI j) ∨ (r = nI 0 ∧ ix x 1 10 = none)))
set_option maxHeartbeats 4000000 in
set_option maxRecDepth 100000 in
theorem c_X4_isRaise (l : Launch) (g : jG) (z : Nat) (H0 : Heap) (x : Int32)  : jM l g z yX4_isRaise wsX4_isRaise 0 0 [.int x] H0 (q_X4_isRaise g H0 x) := by
  refine j_of (cc := cX4_isRaise) (n := 1) (ret := some .boolean) (by decide) rfl (Nat.le_of_ble_eq_true rfl) ?_
  intro p e s m below meth c hx hb hr hml hown hts hlocks hname hH hw ls hl
  have hl : lv_has ls 1 [(0, .int x)] := hl
  refine lv_iload_n hx hb dX4_isRaise_0 rfl (lv_at hl 0 rfl) ?_
  refine lv_iconst (v := (nI (1))) hx hb dX4_isRaise_1 (by decide) ?_
  refine lv_icmp_lt (tgt := 15) hx hb dX4_isRaise_2 (by decide) (fun c2 => ?_) (fun c2 => ?_)
  · refine lv_iconst (v := (nI (0))) hx hb dX4_isRaise_15 (by decide) ?_
    refine j_zret hx hb hr hlocks hH hw (Or.inl rfl) dX4_isRaise_16 ?_
    exact ⟨_, rfl, rfl, Or.inr ⟨rfl, by first | exact ix_lo (by decide) c2 | exact ix_hi (by decide) c8⟩⟩
  · refine lv_iload_n hx hb dX4_isRaise_5 rfl (lv_at hl 0 rfl) ?_
    refine lv_bipush (v := (nI (9))) hx hb dX4_isRaise_6 (by decide) ?_
    refine lv_icmp_gt (tgt := 15) hx hb dX4_isRaise_8 (by decide) (fun c8 => ?_) (fun c8 => ?_)
    · refine lv_iconst (v := (nI (0))) hx hb dX4_isRaise_15 (by decide) ?_
      refine j_zret hx hb hr hlocks hH hw (Or.inl rfl) dX4_isRaise_16 ?_
      exact ⟨_, rfl, rfl, Or.inr ⟨rfl, by first | exact ix_lo (by decide) c2 | exact ix_hi (by decide) c8⟩⟩
    · refine lv_iconst (v := (nI (1))) hx hb dX4_isRaise_11 (by decide) ?_
      refine lv_goto (tgt := 16) hx hb dX4_isRaise_12 (by decide) ?_
      refine j_zret hx hb hr hlocks hH hw (Or.inr rfl) dX4_isRaise_16 ?_
      exact ⟨_, rfl, rfl, Or.inl ⟨rfl, ix_mid (a := 1) (n := 9) (by decide) (by decide) c2 c8⟩⟩

abbrev q_X4_isNights (g : jG) (H0 : Heap) (x : Int32) : Option Value → Heap → Prop := jN (fun r H1 => H1 = H0 ∧ ((r = nI 1 ∧ ∃ j, ix x 1 31 = some j ∧ 1 ≤ j ∧ j < 31 ∧ x = nI j) ∨ (r = nI 0 ∧ ix x 1 31 = none)))
set_option maxHeartbeats 4000000 in
set_option maxRecDepth 100000 in
theorem c_X4_isNights (l : Launch) (g : jG) (z : Nat) (H0 : Heap) (x : Int32)  : jM l g z yX4_isNights wsX4_isNights 0 0 [.int x] H0 (q_X4_isNights g H0 x) := by
  refine j_of (cc := cX4_isNights) (n := 1) (ret := some .boolean) (by decide) rfl (Nat.le_of_ble_eq_true rfl) ?_
  intro p e s m below meth c hx hb hr hml hown hts hlocks hname hH hw ls hl
  have hl : lv_has ls 1 [(0, .int x)] := hl
  refine lv_iload_n hx hb dX4_isNights_0 rfl (lv_at hl 0 rfl) ?_
  refine lv_iconst (v := (nI (1))) hx hb dX4_isNights_1 (by decide) ?_
  refine lv_icmp_lt (tgt := 15) hx hb dX4_isNights_2 (by decide) (fun c2 => ?_) (fun c2 => ?_)
  · refine lv_iconst (v := (nI (0))) hx hb dX4_isNights_15 (by decide) ?_
    refine j_zret hx hb hr hlocks hH hw (Or.inl rfl) dX4_isNights_16 ?_
    exact ⟨_, rfl, rfl, Or.inr ⟨rfl, by first | exact ix_lo (by decide) c2 | exact ix_hi (by decide) c8⟩⟩
  · refine lv_iload_n hx hb dX4_isNights_5 rfl (lv_at hl 0 rfl) ?_
    refine lv_bipush (v := (nI (30))) hx hb dX4_isNights_6 (by decide) ?_
    refine lv_icmp_gt (tgt := 15) hx hb dX4_isNights_8 (by decide) (fun c8 => ?_) (fun c8 => ?_)
    · refine lv_iconst (v := (nI (0))) hx hb dX4_isNights_15 (by decide) ?_
      refine j_zret hx hb hr hlocks hH hw (Or.inl rfl) dX4_isNights_16 ?_
      exact ⟨_, rfl, rfl, Or.inr ⟨rfl, by first | exact ix_lo (by decide) c2 | exact ix_hi (by decide) c8⟩⟩
    · refine lv_iconst (v := (nI (1))) hx hb dX4_isNights_11 (by decide) ?_
      refine lv_goto (tgt := 16) hx hb dX4_isNights_12 (by decide) ?_
      refine j_zret hx hb hr hlocks hH hw (Or.inr rfl) dX4_isNights_16 ?_
      exact ⟨_, rfl, rfl, Or.inl ⟨rfl, ix_mid (a := 1) (n := 30) (by decide) (by decide) c2 c8⟩⟩

abbrev q_X4_isOrderNumber (g : jG) (H0 : Heap) (x : Int32) : Option Value → Heap → Prop := jN (fun r H1 => H1 = H0 ∧ ((r = nI 1 ∧ ∃ j, ix x 0 5 = some j ∧ 0 ≤ j ∧ j < 5 ∧ x = nI j) ∨ (r = nI 0 ∧ ix x 0 5 = none)))
set_option maxHeartbeats 4000000 in
set_option maxRecDepth 100000 in
theorem c_X4_isOrderNumber (l : Launch) (g : jG) (z : Nat) (H0 : Heap) (x : Int32)  : jM l g z yX4_isOrderNumber wsX4_isOrderNumber 0 0 [.int x] H0 (q_X4_isOrderNumber g H0 x) := by
  refine j_of (cc := cX4_isOrderNumber) (n := 1) (ret := some .boolean) (by decide) rfl (Nat.le_of_ble_eq_true rfl) ?_
  intro p e s m below meth c hx hb hr hml hown hts hlocks hname hH hw ls hl
  have hl : lv_has ls 1 [(0, .int x)] := hl
  refine lv_iload_n hx hb dX4_isOrderNumber_0 rfl (lv_at hl 0 rfl) ?_
  refine lv_if_lt (tgt := 13) hx hb dX4_isOrderNumber_1 (by decide) (fun c1 => ?_) (fun c1 => ?_)
  · refine lv_iconst (v := (nI (0))) hx hb dX4_isOrderNumber_13 (by decide) ?_
    refine j_zret hx hb hr hlocks hH hw (Or.inl rfl) dX4_isOrderNumber_14 ?_
    exact ⟨_, rfl, rfl, Or.inr ⟨rfl, by first | exact ix_lt0 c1 | exact ix_ge (by decide) c6⟩⟩
  · refine lv_iload_n hx hb dX4_isOrderNumber_4 rfl (lv_at hl 0 rfl) ?_
    refine lv_iconst (v := (nI (5))) hx hb dX4_isOrderNumber_5 (by decide) ?_
    refine lv_icmp_ge (tgt := 13) hx hb dX4_isOrderNumber_6 (by decide) (fun c6 => ?_) (fun c6 => ?_)
    · refine lv_iconst (v := (nI (0))) hx hb dX4_isOrderNumber_13 (by decide) ?_
      refine j_zret hx hb hr hlocks hH hw (Or.inl rfl) dX4_isOrderNumber_14 ?_
      exact ⟨_, rfl, rfl, Or.inr ⟨rfl, by first | exact ix_lt0 c1 | exact ix_ge (by decide) c6⟩⟩
    · refine lv_iconst (v := (nI (1))) hx hb dX4_isOrderNumber_9 (by decide) ?_
      refine lv_goto (tgt := 14) hx hb dX4_isOrderNumber_10 (by decide) ?_
      refine j_zret hx hb hr hlocks hH hw (Or.inr rfl) dX4_isOrderNumber_14 ?_
      exact ⟨_, rfl, rfl, Or.inl ⟨rfl, ix_both (n := 5) (by decide) c1 c6⟩⟩

abbrev q_X4_isSetting (g : jG) (H0 : Heap) (x : Int32) : Option Value → Heap → Prop := jN (fun r H1 => H1 = H0 ∧ ((r = nI 1 ∧ ∃ j, ix x 0 5 = some j ∧ 0 ≤ j ∧ j < 5 ∧ x = nI j) ∨ (r = nI 0 ∧ ix x 0 5 = none)))
set_option maxHeartbeats 4000000 in
set_option maxRecDepth 100000 in
theorem c_X4_isSetting (l : Launch) (g : jG) (z : Nat) (H0 : Heap) (x : Int32)  : jM l g z yX4_isSetting wsX4_isSetting 0 0 [.int x] H0 (q_X4_isSetting g H0 x) := by
  refine j_of (cc := cX4_isSetting) (n := 1) (ret := some .boolean) (by decide) rfl (Nat.le_of_ble_eq_true rfl) ?_
  intro p e s m below meth c hx hb hr hml hown hts hlocks hname hH hw ls hl
  have hl : lv_has ls 1 [(0, .int x)] := hl
  refine lv_iload_n hx hb dX4_isSetting_0 rfl (lv_at hl 0 rfl) ?_
  refine lv_if_lt (tgt := 13) hx hb dX4_isSetting_1 (by decide) (fun c1 => ?_) (fun c1 => ?_)
  · refine lv_iconst (v := (nI (0))) hx hb dX4_isSetting_13 (by decide) ?_
    refine j_zret hx hb hr hlocks hH hw (Or.inl rfl) dX4_isSetting_14 ?_
    exact ⟨_, rfl, rfl, Or.inr ⟨rfl, by first | exact ix_lt0 c1 | exact ix_ge (by decide) c6⟩⟩
  · refine lv_iload_n hx hb dX4_isSetting_4 rfl (lv_at hl 0 rfl) ?_
    refine lv_iconst (v := (nI (5))) hx hb dX4_isSetting_5 (by decide) ?_
    refine lv_icmp_ge (tgt := 13) hx hb dX4_isSetting_6 (by decide) (fun c6 => ?_) (fun c6 => ?_)
    · refine lv_iconst (v := (nI (0))) hx hb dX4_isSetting_13 (by decide) ?_
      refine j_zret hx hb hr hlocks hH hw (Or.inl rfl) dX4_isSetting_14 ?_
      exact ⟨_, rfl, rfl, Or.inr ⟨rfl, by first | exact ix_lt0 c1 | exact ix_ge (by decide) c6⟩⟩
    · refine lv_iconst (v := (nI (1))) hx hb dX4_isSetting_9 (by decide) ?_
      refine lv_goto (tgt := 14) hx hb dX4_isSetting_10 (by decide) ?_
      refine j_zret hx hb hr hlocks hH hw (Or.inr rfl) dX4_isSetting_14 ?_
      exact ⟨_, rfl, rfl, Or.inl ⟨rfl, ix_both (n := 5) (by decide) c1 c6⟩⟩

abbrev q_X4_isSlot (g : jG) (H0 : Heap) (x : Int32) : Option Value → Heap → Prop := jN (fun r H1 => H1 = H0 ∧ ((r = nI 1 ∧ ∃ j, ix x 0 2 = some j ∧ 0 ≤ j ∧ j < 2 ∧ x = nI j) ∨ (r = nI 0 ∧ ix x 0 2 = none)))
set_option maxHeartbeats 4000000 in
set_option maxRecDepth 100000 in
theorem c_X4_isSlot (l : Launch) (g : jG) (z : Nat) (H0 : Heap) (x : Int32)  : jM l g z yX4_isSlot wsX4_isSlot 0 0 [.int x] H0 (q_X4_isSlot g H0 x) := by
  refine j_of (cc := cX4_isSlot) (n := 1) (ret := some .boolean) (by decide) rfl (Nat.le_of_ble_eq_true rfl) ?_
  intro p e s m below meth c hx hb hr hml hown hts hlocks hname hH hw ls hl
  have hl : lv_has ls 1 [(0, .int x)] := hl
  refine lv_iload_n hx hb dX4_isSlot_0 rfl (lv_at hl 0 rfl) ?_
  refine lv_if_lt (tgt := 13) hx hb dX4_isSlot_1 (by decide) (fun c1 => ?_) (fun c1 => ?_)
  · refine lv_iconst (v := (nI (0))) hx hb dX4_isSlot_13 (by decide) ?_
    refine j_zret hx hb hr hlocks hH hw (Or.inl rfl) dX4_isSlot_14 ?_
    exact ⟨_, rfl, rfl, Or.inr ⟨rfl, by first | exact ix_lt0 c1 | exact ix_ge (by decide) c6⟩⟩
  · refine lv_iload_n hx hb dX4_isSlot_4 rfl (lv_at hl 0 rfl) ?_
    refine lv_iconst (v := (nI (2))) hx hb dX4_isSlot_5 (by decide) ?_
    refine lv_icmp_ge (tgt := 13) hx hb dX4_isSlot_6 (by decide) (fun c6 => ?_) (fun c6 => ?_)
    · refine lv_iconst (v := (nI (0))) hx hb dX4_isSlot_13 (by decide) ?_
      refine j_zret hx hb hr hlocks hH hw (Or.inl rfl) dX4_isSlot_14 ?_
      exact ⟨_, rfl, rfl, Or.inr ⟨rfl, by first | exact ix_lt0 c1 | exact ix_ge (by decide) c6⟩⟩
    · refine lv_iconst (v := (nI (1))) hx hb dX4_isSlot_9 (by decide) ?_
      refine lv_goto (tgt := 14) hx hb dX4_isSlot_10 (by decide) ?_
      refine j_zret hx hb hr hlocks hH hw (Or.inr rfl) dX4_isSlot_14 ?_
      exact ⟨_, rfl, rfl, Or.inl ⟨rfl, ix_both (n := 2) (by decide) c1 c6⟩⟩

abbrev q_X1_size (g : jG) (H0 : Heap) (b : Nat) (Rs : List OR) : Option Value → Heap → Prop := jN (fun r H1 => H1 = H0 ∧ (r = nI Rs.length))
set_option maxHeartbeats 4000000 in
set_option maxRecDepth 100000 in
theorem c_X1_size (l : Launch) (g : jG) (z : Nat) (H0 : Heap) (b : Nat) (Rs : List OR) (hz : z ≤ b) (hQ : jOr g H0 b Rs) : jM l g z yX1_size wsX1_size 0 0 [.ref b] H0 (q_X1_size g H0 b Rs) := by
  refine j_of (cc := cX1_size) (n := 1) (ret := some .int) (by decide) rfl (Nat.le_of_ble_eq_true rfl) ?_
  intro p e s m below meth c hx hb hr hml hown hts hlocks hname hH hw ls hl
  have hl : lv_has ls 1 [(0, .ref b)] := hl
  have hinX1 : ∀ w ∈ u_ws RX1 TX1 2, w ∈ wsX1_size := by decide +kernel
  obtain ⟨hO, h21, f, hA, hRw⟩ := hQ
  refine lv_aload_n hx hb dX1_size_0 rfl (lv_at hl 0 rfl) ?_
  refine j_get (T := TX1) (N := 2) (k := 1) hx hb hts hinX1 hown hw hO rfl (by decide) (hts (.fieldLink RX1 15 "NightTrains$Orders" "size" "I") (by decide +kernel)) rfl dX1_size_1 ?_
  refine j_iret hx hb hr hlocks hH hw dX1_size_4 ?_
  exact ⟨_, rfl, rfl, rfl⟩

abbrev q_X1_has (g : jG) (H0 : Heap) (b : Nat) (i : Int32) (Rs : List OR) : Option Value → Heap → Prop := jN (fun r H1 => H1 = H0 ∧ ((r = nI 1 ∧ ∃ j, ix i 0 Rs.length = some j ∧ 0 ≤ j ∧ j < Rs.length ∧ i = nI j) ∨ (r = nI 0 ∧ ix i 0 Rs.length = none)))
set_option maxHeartbeats 4000000 in
set_option maxRecDepth 100000 in
theorem c_X1_has (l : Launch) (g : jG) (z : Nat) (H0 : Heap) (b : Nat) (i : Int32) (Rs : List OR) (hz : z ≤ b) (hQ : jOr g H0 b Rs) : jM l g z yX1_has wsX1_has 0 0 [.ref b, .int i] H0 (q_X1_has g H0 b i Rs) := by
  refine j_of (cc := cX1_has) (n := 2) (ret := some .boolean) (by decide) rfl (Nat.le_of_ble_eq_true rfl) ?_
  intro p e s m below meth c hx hb hr hml hown hts hlocks hname hH hw ls hl
  have hl : lv_has ls 2 [(0, .ref b), (1, .int i)] := hl
  have hinX1 : ∀ w ∈ u_ws RX1 TX1 2, w ∈ wsX1_has := by decide +kernel
  obtain ⟨hO, h21, f, hA, hRw⟩ := hQ
  refine lv_iload_n hx hb dX1_has_0 rfl (lv_at hl 1 rfl) ?_
  refine lv_if_lt (tgt := 16) hx hb dX1_has_1 (by decide) (fun c1 => ?_) (fun c1 => ?_)
  · refine lv_iconst (v := (nI (0))) hx hb dX1_has_16 (by decide) ?_
    refine j_zret hx hb hr hlocks hH hw (Or.inl rfl) dX1_has_17 ?_
    exact ⟨_, rfl, rfl, Or.inr ⟨rfl, by first | exact ix_lt0 c1 | exact ix_ge (by omega) c9⟩⟩
  · refine lv_iload_n hx hb dX1_has_4 rfl (lv_at hl 1 rfl) ?_
    refine lv_aload_n hx hb dX1_has_5 rfl (lv_at hl 0 rfl) ?_
    refine j_get (T := TX1) (N := 2) (k := 1) hx hb hts hinX1 hown hw hO rfl (by decide) (hts (.fieldLink RX1 15 "NightTrains$Orders" "size" "I") (by decide +kernel)) rfl dX1_has_6 ?_
    refine lv_icmp_ge (tgt := 16) hx hb dX1_has_9 (by decide) (fun c9 => ?_) (fun c9 => ?_)
    · refine lv_iconst (v := (nI (0))) hx hb dX1_has_16 (by decide) ?_
      refine j_zret hx hb hr hlocks hH hw (Or.inl rfl) dX1_has_17 ?_
      exact ⟨_, rfl, rfl, Or.inr ⟨rfl, by first | exact ix_lt0 c1 | exact ix_ge (by omega) c9⟩⟩
    · refine lv_iconst (v := (nI (1))) hx hb dX1_has_12 (by decide) ?_
      refine lv_goto (tgt := 17) hx hb dX1_has_13 (by decide) ?_
      refine j_zret hx hb hr hlocks hH hw (Or.inr rfl) dX1_has_17 ?_
      exact ⟨_, rfl, rfl, Or.inl ⟨rfl, ix_both (by omega) c1 c9⟩⟩

abbrev q_X1_clear (g : jG) (H0 : Heap) (b : Nat) (Rs : List OR) : Option Value → Heap → Prop := jV (fun H1 => jOr g H1 b [] ∧ jF b 2 H0 H1)
set_option maxHeartbeats 4000000 in
set_option maxRecDepth 100000 in
theorem c_X1_clear (l : Launch) (g : jG) (z : Nat) (H0 : Heap) (b : Nat) (Rs : List OR) (hz : z ≤ b) (hQ : jOr g H0 b Rs) : jM l g z yX1_clear wsX1_clear 0 0 [.ref b] H0 (q_X1_clear g H0 b Rs) := by
  refine j_of (cc := cX1_clear) (n := 1) (ret := none) (by decide) rfl (Nat.le_of_ble_eq_true rfl) ?_
  intro p e s m below meth c hx hb hr hml hown hts hlocks hname hH hw ls hl
  have hl : lv_has ls 1 [(0, .ref b)] := hl
  have hinX1 : ∀ w ∈ u_ws RX1 TX1 2, w ∈ wsX1_clear := by decide +kernel
  have hf : jF b 2 H0 H0 := jF.rf
  obtain ⟨hO, h21, f, hA, hRw⟩ := hQ
  refine lv_aload_n hx hb dX1_clear_0 rfl (lv_at hl 0 rfl) ?_
  refine lv_iconst (v := (nI (0))) hx hb dX1_clear_1 (by decide) ?_
  refine j_put (T := TX1) (N := 2) (k := 1) (ty := .int) hx hb hts hinX1 tyX1 tyX1_ok nmX1 hown hw hO hz rfl (by decide) (hts (.fieldLink RX1 15 "NightTrains$Orders" "size" "I") (by decide +kernel)) rfl (by decide +kernel) rfl rfl (Nat.le_of_ble_eq_true rfl) dX1_clear_2 (fun H locs hw hO oq hsz => ?_)
  have hO : jO g H b 1 [.ref _, .int _] := hO
  have hA := hA.kept (oq _ (by omega))
  have hf := hf.put oq hsz (by omega)
  refine j_vret hx hb hr hlocks hH hw dX1_clear_5 ?_
  exact ⟨rfl, ⟨hO, Nat.zero_le _, _, hA, (fun i w r hr => by cases i <;> cases hr)⟩, hf⟩

abbrev q_X1_get (g : jG) (H0 : Heap) (b : Nat) (i : Int32) (wh : Int32) (Rs : List OR) : Option Value → Heap → Prop := jN (fun r H1 => H1 = H0 ∧ (r = gtR Rs i wh))
set_option maxHeartbeats 4000000 in
set_option maxRecDepth 100000 in
theorem c_X1_get (l : Launch) (g : jG) (z : Nat) (H0 : Heap) (b : Nat) (i : Int32) (wh : Int32) (Rs : List OR) (hz : z ≤ b) (hQ : jOr g H0 b Rs) : jM l g z yX1_get wsX1_get 0 0 [.ref b, .int i, .int wh] H0 (q_X1_get g H0 b i wh Rs) := by
  refine j_of (cc := cX1_get) (n := 4) (ret := some .int) (by decide) rfl (Nat.le_of_ble_eq_true rfl) ?_
  intro p e s m below meth c hx hb hr hml hown hts hlocks hname hH hw ls hl
  have hl : lv_has ls 4 [(0, .ref b), (1, .int i), (2, .int wh)] := hl
  have hinX1 : ∀ w ∈ u_ws RX1 TX1 2, w ∈ wsX1_get := by decide +kernel
  obtain ⟨hO, h21, f, hA, hRw⟩ := hQ
  refine lv_iload_n hx hb dX1_get_0 rfl (lv_at hl 1 rfl) ?_
  refine lv_if_lt (tgt := 25) hx hb dX1_get_1 (by decide) (fun c1 => ?_) (fun c1 => ?_)
  · refine lv_iconst (v := (nI (0))) hx hb dX1_get_25 (by decide) ?_
    refine lv_istore_n (lv' := [(3, .int _), (0, .ref _), (1, .int _), (2, .int _)]) hx hb dX1_get_26 rfl hl (by decide) rfl (fun ls hl => ?_)
    refine lv_iload_n hx hb dX1_get_27 rfl (lv_at hl 0 rfl) ?_
    refine jz_eq (tgt := 44) hx hb dX1_get_28 (by decide) (by omega) (fun c28 => ?_) (fun c28 => absurd c28 (by omega))
    refine lv_iconst (v := (-1)) hx hb dX1_get_44 (by decide) ?_
    refine j_iret hx hb hr hlocks hH hw dX1_get_45 ?_
    exact ⟨_, rfl, rfl, by first | exact (gtR_no1 (ix_lt0 c1)).symm | exact (gtR_no1 (ix_ge (by omega) c9)).symm | exact (gtR_no2 (ix_lt0 c13)).symm | exact (gtR_no2 (ix_ge (by decide) c18)).symm⟩
  · refine lv_iload_n hx hb dX1_get_4 rfl (lv_at hl 1 rfl) ?_
    refine lv_aload_n hx hb dX1_get_5 rfl (lv_at hl 0 rfl) ?_
    refine j_get (T := TX1) (N := 2) (k := 1) hx hb hts hinX1 hown hw hO rfl (by decide) (hts (.fieldLink RX1 15 "NightTrains$Orders" "size" "I") (by decide +kernel)) rfl dX1_get_6 ?_
    refine lv_icmp_ge (tgt := 25) hx hb dX1_get_9 (by decide) (fun c9 => ?_) (fun c9 => ?_)
    · refine lv_iconst (v := (nI (0))) hx hb dX1_get_25 (by decide) ?_
      refine lv_istore_n (lv' := [(3, .int _), (0, .ref _), (1, .int _), (2, .int _)]) hx hb dX1_get_26 rfl hl (by decide) rfl (fun ls hl => ?_)
      refine lv_iload_n hx hb dX1_get_27 rfl (lv_at hl 0 rfl) ?_
      refine jz_eq (tgt := 44) hx hb dX1_get_28 (by decide) (by omega) (fun c28 => ?_) (fun c28 => absurd c28 (by omega))
      refine lv_iconst (v := (-1)) hx hb dX1_get_44 (by decide) ?_
      refine j_iret hx hb hr hlocks hH hw dX1_get_45 ?_
      exact ⟨_, rfl, rfl, by first | exact (gtR_no1 (ix_lt0 c1)).symm | exact (gtR_no1 (ix_ge (by omega) c9)).symm | exact (gtR_no2 (ix_lt0 c13)).symm | exact (gtR_no2 (ix_ge (by decide) c18)).symm⟩
    · refine lv_iload_n hx hb dX1_get_12 rfl (lv_at hl 2 rfl) ?_
      refine lv_if_lt (tgt := 25) hx hb dX1_get_13 (by decide) (fun c13 => ?_) (fun c13 => ?_)
      · refine lv_iconst (v := (nI (0))) hx hb dX1_get_25 (by decide) ?_
        refine lv_istore_n (lv' := [(3, .int _), (0, .ref _), (1, .int _), (2, .int _)]) hx hb dX1_get_26 rfl hl (by decide) rfl (fun ls hl => ?_)
        refine lv_iload_n hx hb dX1_get_27 rfl (lv_at hl 0 rfl) ?_
        refine jz_eq (tgt := 44) hx hb dX1_get_28 (by decide) (by omega) (fun c28 => ?_) (fun c28 => absurd c28 (by omega))
        refine lv_iconst (v := (-1)) hx hb dX1_get_44 (by decide) ?_
        refine j_iret hx hb hr hlocks hH hw dX1_get_45 ?_
        exact ⟨_, rfl, rfl, by first | exact (gtR_no1 (ix_lt0 c1)).symm | exact (gtR_no1 (ix_ge (by omega) c9)).symm | exact (gtR_no2 (ix_lt0 c13)).symm | exact (gtR_no2 (ix_ge (by decide) c18)).symm⟩
      · refine lv_iload_n hx hb dX1_get_16 rfl (lv_at hl 2 rfl) ?_
        refine lv_iconst (v := (nI (5))) hx hb dX1_get_17 (by decide) ?_
        refine lv_icmp_ge (tgt := 25) hx hb dX1_get_18 (by decide) (fun c18 => ?_) (fun c18 => ?_)
        · refine lv_iconst (v := (nI (0))) hx hb dX1_get_25 (by decide) ?_
          refine lv_istore_n (lv' := [(3, .int _), (0, .ref _), (1, .int _), (2, .int _)]) hx hb dX1_get_26 rfl hl (by decide) rfl (fun ls hl => ?_)
          refine lv_iload_n hx hb dX1_get_27 rfl (lv_at hl 0 rfl) ?_
          refine jz_eq (tgt := 44) hx hb dX1_get_28 (by decide) (by omega) (fun c28 => ?_) (fun c28 => absurd c28 (by omega))
          refine lv_iconst (v := (-1)) hx hb dX1_get_44 (by decide) ?_
          refine j_iret hx hb hr hlocks hH hw dX1_get_45 ?_
          exact ⟨_, rfl, rfl, by first | exact (gtR_no1 (ix_lt0 c1)).symm | exact (gtR_no1 (ix_ge (by omega) c9)).symm | exact (gtR_no2 (ix_lt0 c13)).symm | exact (gtR_no2 (ix_ge (by decide) c18)).symm⟩
        · refine lv_iconst (v := (nI (1))) hx hb dX1_get_21 (by decide) ?_
          refine lv_goto (tgt := 26) hx hb dX1_get_22 (by decide) ?_
          refine lv_istore_n (lv' := [(3, .int _), (0, .ref _), (1, .int _), (2, .int _)]) hx hb dX1_get_26 rfl hl (by decide) rfl (fun ls hl => ?_)
          refine lv_iload_n hx hb dX1_get_27 rfl (lv_at hl 0 rfl) ?_
          refine jz_eq (tgt := 44) hx hb dX1_get_28 (by decide) (by omega) (fun c28 => absurd c28 (by omega)) (fun c28 => ?_)
          obtain ⟨j, hj, -, hjn, rfl⟩ := ix_both (x := i) (n := Rs.length) (by omega) c1 c9
          obtain ⟨u, hu, -, hun, rfl⟩ := ix_both (x := wh) (n := 5) (by decide) c13 c18
          obtain ⟨rr, hrr⟩ : ∃ rr, Rs[j]? = some rr := ⟨Rs[j], List.getElem?_eq_getElem hjn⟩
          refine lv_aload_n hx hb dX1_get_31 rfl (lv_at hl 1 rfl) ?_
          refine j_get (T := TX1) (N := 2) (k := 0) hx hb hts hinX1 hown hw hO rfl (by decide) (hts (.fieldLink RX1 11 "NightTrains$Orders" "cells" "[I") (by decide +kernel)) rfl dX1_get_32 ?_
          refine lv_iload_n hx hb dX1_get_35 rfl (lv_at hl 2 rfl) ?_
          refine lv_iconst (v := (nI (5))) hx hb dX1_get_36 (by decide) ?_
          refine j_mulN hx hb dX1_get_37 ?_
          refine lv_iload_n hx hb dX1_get_38 rfl (lv_at hl 3 rfl) ?_
          refine j_addN hx hb dX1_get_39 ?_
          refine j_iald hx hb hw hA (k := ((j * 5) + u)) rfl (by omega) (by omega) dX1_get_40 ?_
          refine j_eq (y := (rr u)) ((by rw [show j * 5 + u = 5 * j + u by omega]; exact hRw j u rr hrr hun)) ?_
          refine lv_goto (tgt := 45) hx hb dX1_get_41 (by decide) ?_
          refine j_iret hx hb hr hlocks hH hw dX1_get_45 ?_
          exact ⟨_, rfl, rfl, (gtR_in hrr hun (by omega)).symm⟩

abbrev q_X1_put (g : jG) (H0 : Heap) (b : Nat) (i : Nat) (wh : Nat) (v : Int32) (Rs : List OR) : Option Value → Heap → Prop := jV (fun H1 => jOr g H1 b (rput Rs i wh v) ∧ jF b 2 H0 H1)
set_option maxHeartbeats 4000000 in
set_option maxRecDepth 100000 in
theorem c_X1_put (l : Launch) (g : jG) (z : Nat) (H0 : Heap) (b : Nat) (i : Nat) (wh : Nat) (v : Int32) (Rs : List OR) (hz : z ≤ b) (hQ : jOr g H0 b Rs) (hi : i < Rs.length) (hw5 : wh < 5) : jM l g z yX1_put wsX1_put 0 0 [.ref b, .int (nI (i)), .int (nI (wh)), .int v] H0 (q_X1_put g H0 b i wh v Rs) := by
  refine j_of (cc := cX1_put) (n := 4) (ret := none) (by decide) rfl (Nat.le_of_ble_eq_true rfl) ?_
  intro p e s m below meth c hx hb hr hml hown hts hlocks hname hH hw ls hl
  have hl : lv_has ls 4 [(0, .ref b), (1, .int (nI (i))), (2, .int (nI (wh))), (3, .int v)] := hl
  have hinX1 : ∀ w ∈ u_ws RX1 TX1 2, w ∈ wsX1_put := by decide +kernel
  have hf : jF b 2 H0 H0 := jF.rf
  obtain ⟨hO, h21, f, hA, hRw⟩ := hQ
  refine lv_iload_n hx hb dX1_put_0 rfl (lv_at hl 1 rfl) ?_
  refine jz_lt (tgt := 32) hx hb dX1_put_1 (by decide) (by omega) (fun c1 => absurd c1 (by omega)) (fun c1 => ?_)
  refine lv_iload_n hx hb dX1_put_4 rfl (lv_at hl 1 rfl) ?_
  refine lv_aload_n hx hb dX1_put_5 rfl (lv_at hl 0 rfl) ?_
  refine j_get (T := TX1) (N := 2) (k := 1) hx hb hts hinX1 hown hw hO rfl (by decide) (hts (.fieldLink RX1 15 "NightTrains$Orders" "size" "I") (by decide +kernel)) rfl dX1_put_6 ?_
  refine jn_ge (tgt := 32) hx hb dX1_put_9 (by decide) (by omega) (by omega) (fun c9 => absurd c9 (by omega)) (fun c9 => ?_)
  refine lv_iload_n hx hb dX1_put_12 rfl (lv_at hl 2 rfl) ?_
  refine jz_lt (tgt := 32) hx hb dX1_put_13 (by decide) (by omega) (fun c13 => absurd c13 (by omega)) (fun c13 => ?_)
  refine lv_iload_n hx hb dX1_put_16 rfl (lv_at hl 2 rfl) ?_
  refine lv_iconst (v := (nI (5))) hx hb dX1_put_17 (by decide) ?_
  refine jn_ge (tgt := 32) hx hb dX1_put_18 (by decide) (by omega) (by omega) (fun c18 => absurd c18 (by omega)) (fun c18 => ?_)
  refine lv_aload_n hx hb dX1_put_21 rfl (lv_at hl 0 rfl) ?_
  refine j_get (T := TX1) (N := 2) (k := 0) hx hb hts hinX1 hown hw hO rfl (by decide) (hts (.fieldLink RX1 11 "NightTrains$Orders" "cells" "[I") (by decide +kernel)) rfl dX1_put_22 ?_
  refine lv_iload_n hx hb dX1_put_25 rfl (lv_at hl 1 rfl) ?_
  refine lv_iconst (v := (nI (5))) hx hb dX1_put_26 (by decide) ?_
  refine j_mulN hx hb dX1_put_27 ?_
  refine lv_iload_n hx hb dX1_put_28 rfl (lv_at hl 2 rfl) ?_
  refine j_addN hx hb dX1_put_29 ?_
  refine lv_iload_n hx hb dX1_put_30 rfl (lv_at hl 3 rfl) ?_
  refine j_iast hx hb hw hA (by omega) (k := ((i * 5) + wh)) rfl (by omega) (by omega) dX1_put_31 (fun H locs hw hA oq hsz => ?_)
  obtain ⟨f1, ef1⟩ : ∃ y9, y9 = upd f (((i * 5) + wh)) v := ⟨_, rfl⟩
  rw [← ef1] at hA
  have hO := hO.kept (oq _ (by omega))
  have hf := hf.put oq hsz (by omega)
  refine j_vret hx hb hr hlocks hH hw dX1_put_32 ?_
  rw [ef1] at hA
  exact ⟨rfl, ⟨by rw [rput_len]; exact hO, by rw [rput_len]; exact h21, _, hA, hRw.put hw5 hi⟩, hf⟩

abbrev q_X1_end (g : jG) (H0 : Heap) (b : Nat) (i : Nat) (Rs : List OR) : Option Value → Heap → Prop := jV (fun H1 => jOr g H1 b (rput Rs i 0 (-1)) ∧ jF b 2 H0 H1)
set_option maxHeartbeats 4000000 in
set_option maxRecDepth 100000 in
theorem c_X1_end (l : Launch) (g : jG) (z : Nat) (H0 : Heap) (b : Nat) (i : Nat) (Rs : List OR) (hz : z ≤ b) (hQ : jOr g H0 b Rs) (hi : i < Rs.length) : jM l g z yX1_end wsX1_end 1 23 [.ref b, .int (nI (i))] H0 (q_X1_end g H0 b i Rs) := by
  refine j_of (cc := cX1_end) (n := 2) (ret := none) (by decide) rfl (Nat.le_of_ble_eq_true rfl) ?_
  intro p e s m below meth c hx hb hr hml hown hts hlocks hname hH hw ls hl
  have hl : lv_has ls 2 [(0, .ref b), (1, .int (nI (i)))] := hl
  have hf : jF b 2 H0 H0 := jF.rf
  obtain ⟨hO, h21, f, hA, hRw⟩ := hQ
  refine lv_aload_n hx hb dX1_end_0 rfl (lv_at hl 0 rfl) ?_
  refine lv_iload_n hx hb dX1_end_1 rfl (lv_at hl 1 rfl) ?_
  refine lv_iconst (v := (nI (0))) hx hb dX1_end_2 (by decide) ?_
  refine lv_iconst (v := (-1)) hx hb dX1_end_3 (by decide) ?_
  have hQ1 : jOr g H0 b (Rs) := ⟨hO, h21, _, hA, hRw⟩
  refine j_Vv (n := 3) (As := [.int (nI (i)), .int (nI (0)), .int (-1)]) hx hb hml hown hts hw (j_recv hw hQ1.1 rfl) (c_X1_put l g z H0 b (i) (0) (-1) Rs (by omega) hQ1 (by first | assumption | omega) (by first | assumption | omega)) gX1_end_X1_put rfl (by decide +kernel) ⟨Nat.le_of_ble_eq_true rfl, Nat.le_of_ble_eq_true rfl⟩ rfl hl.1 (Nat.le_of_ble_eq_true rfl) ⟨Nat.zero_le _, Nat.zero_le _⟩ dX1_end_4 (fun H locs hr2 hw hsz => ?_) rfl
  obtain ⟨hQ1, hf2⟩ := hr2
  have hf := hf.step hf2 (by omega)
  refine j_vret hx hb hr hlocks hH hw dX1_end_7 ?_
  exact ⟨rfl, hQ1, hf⟩

abbrev q_X1_add (g : jG) (H0 : Heap) (b : Nat) (r1 : Int32) (r2 : Int32) (r3 : Int32) (r4 : Int32) (r5 : Int32) (Rs : List OR) : Option Value → Heap → Prop := jN (fun r H1 => r = nI Rs.length ∧ jOr g H1 b (Rs ++ [mkR r1 r2 r3 r4 r5]) ∧ jF b 2 H0 H1)
set_option maxHeartbeats 4000000 in
set_option maxRecDepth 100000 in
theorem c_X1_add (l : Launch) (g : jG) (z : Nat) (H0 : Heap) (b : Nat) (r1 : Int32) (r2 : Int32) (r3 : Int32) (r4 : Int32) (r5 : Int32) (Rs : List OR) (hz : z ≤ b) (hQ : jOr g H0 b Rs) (hi : Rs.length < 21) : jM l g z yX1_add wsX1_add 0 0 [.ref b, .int r1, .int r2, .int r3, .int r4, .int r5] H0 (q_X1_add g H0 b r1 r2 r3 r4 r5 Rs) := by
  refine j_of (cc := cX1_add) (n := 7) (ret := some .int) (by decide) rfl (Nat.le_of_ble_eq_true rfl) ?_
  intro p e s m below meth c hx hb hr hml hown hts hlocks hname hH hw ls hl
  have hl : lv_has ls 7 [(0, .ref b), (1, .int r1), (2, .int r2), (3, .int r3), (4, .int r4), (5, .int r5)] := hl
  have hinX1 : ∀ w ∈ u_ws RX1 TX1 2, w ∈ wsX1_add := by decide +kernel
  have hf : jF b 2 H0 H0 := jF.rf
  obtain ⟨hO, h21, f, hA, hRw⟩ := hQ
  refine lv_aload_n hx hb dX1_add_0 rfl (lv_at hl 0 rfl) ?_
  refine j_get (T := TX1) (N := 2) (k := 1) hx hb hts hinX1 hown hw hO rfl (by decide) (hts (.fieldLink RX1 15 "NightTrains$Orders" "size" "I") (by decide +kernel)) rfl dX1_add_1 ?_
  refine lv_bipush (v := (nI (21))) hx hb dX1_add_4 (by decide) ?_
  refine jn_lt (tgt := 11) hx hb dX1_add_6 (by decide) (by omega) (by omega) (fun c6 => ?_) (fun c6 => absurd c6 (by omega))
  refine lv_aload_n hx hb dX1_add_11 rfl (lv_at hl 0 rfl) ?_
  refine j_get (T := TX1) (N := 2) (k := 1) hx hb hts hinX1 hown hw hO rfl (by decide) (hts (.fieldLink RX1 15 "NightTrains$Orders" "size" "I") (by decide +kernel)) rfl dX1_add_12 ?_
  refine lv_iconst (v := (nI (5))) hx hb dX1_add_15 (by decide) ?_
  refine j_mulN hx hb dX1_add_16 ?_
  refine lv_istore (lv' := [(6, .int _), (0, .ref _), (1, .int _), (2, .int _), (3, .int _), (4, .int _), (5, .int _)]) hx hb dX1_add_17 hl (by decide) rfl (fun ls hl => ?_)
  refine lv_aload_n hx hb dX1_add_19 rfl (lv_at hl 1 rfl) ?_
  refine j_get (T := TX1) (N := 2) (k := 0) hx hb hts hinX1 hown hw hO rfl (by decide) (hts (.fieldLink RX1 11 "NightTrains$Orders" "cells" "[I") (by decide +kernel)) rfl dX1_add_20 ?_
  refine lv_iload hx hb dX1_add_23 (lv_at hl 0 rfl) ?_
  refine lv_iconst (v := (nI (0))) hx hb dX1_add_25 (by decide) ?_
  refine j_addN hx hb dX1_add_26 ?_
  refine lv_iload_n hx hb dX1_add_27 rfl (lv_at hl 2 rfl) ?_
  refine j_iast hx hb hw hA (by omega) (k := ((Rs.length * 5) + 0)) rfl (by omega) (by omega) dX1_add_28 (fun H locs hw hA oq hsz => ?_)
  obtain ⟨f1, ef1⟩ : ∃ y9, y9 = upd f (((Rs.length * 5) + 0)) r1 := ⟨_, rfl⟩
  rw [← ef1] at hA
  have hO := hO.kept (oq _ (by omega))
  have hf := hf.put oq hsz (by omega)
  refine lv_aload_n hx hb dX1_add_29 rfl (lv_at hl 1 rfl) ?_
  refine j_get (T := TX1) (N := 2) (k := 0) hx hb hts hinX1 hown hw hO rfl (by decide) (hts (.fieldLink RX1 11 "NightTrains$Orders" "cells" "[I") (by decide +kernel)) rfl dX1_add_30 ?_
  refine lv_iload hx hb dX1_add_33 (lv_at hl 0 rfl) ?_
  refine lv_iconst (v := (nI (1))) hx hb dX1_add_35 (by decide) ?_
  refine j_addN hx hb dX1_add_36 ?_
  refine lv_iload_n hx hb dX1_add_37 rfl (lv_at hl 3 rfl) ?_
  refine j_iast hx hb hw hA (by omega) (k := ((Rs.length * 5) + 1)) rfl (by omega) (by omega) dX1_add_38 (fun H locs hw hA oq hsz => ?_)
  obtain ⟨f2, ef2⟩ : ∃ y9, y9 = upd f1 (((Rs.length * 5) + 1)) r2 := ⟨_, rfl⟩
  rw [← ef2] at hA
  have hO := hO.kept (oq _ (by omega))
  have hf := hf.put oq hsz (by omega)
  refine lv_aload_n hx hb dX1_add_39 rfl (lv_at hl 1 rfl) ?_
  refine j_get (T := TX1) (N := 2) (k := 0) hx hb hts hinX1 hown hw hO rfl (by decide) (hts (.fieldLink RX1 11 "NightTrains$Orders" "cells" "[I") (by decide +kernel)) rfl dX1_add_40 ?_
  refine lv_iload hx hb dX1_add_43 (lv_at hl 0 rfl) ?_
  refine lv_iconst (v := (nI (2))) hx hb dX1_add_45 (by decide) ?_
  refine j_addN hx hb dX1_add_46 ?_
  refine lv_iload_n hx hb dX1_add_47 rfl (lv_at hl 4 rfl) ?_
  refine j_iast hx hb hw hA (by omega) (k := ((Rs.length * 5) + 2)) rfl (by omega) (by omega) dX1_add_48 (fun H locs hw hA oq hsz => ?_)
  obtain ⟨f3, ef3⟩ : ∃ y9, y9 = upd f2 (((Rs.length * 5) + 2)) r3 := ⟨_, rfl⟩
  rw [← ef3] at hA
  have hO := hO.kept (oq _ (by omega))
  have hf := hf.put oq hsz (by omega)
  refine lv_aload_n hx hb dX1_add_49 rfl (lv_at hl 1 rfl) ?_
  refine j_get (T := TX1) (N := 2) (k := 0) hx hb hts hinX1 hown hw hO rfl (by decide) (hts (.fieldLink RX1 11 "NightTrains$Orders" "cells" "[I") (by decide +kernel)) rfl dX1_add_50 ?_
  refine lv_iload hx hb dX1_add_53 (lv_at hl 0 rfl) ?_
  refine lv_iconst (v := (nI (3))) hx hb dX1_add_55 (by decide) ?_
  refine j_addN hx hb dX1_add_56 ?_
  refine lv_iload hx hb dX1_add_57 (lv_at hl 5 rfl) ?_
  refine j_iast hx hb hw hA (by omega) (k := ((Rs.length * 5) + 3)) rfl (by omega) (by omega) dX1_add_59 (fun H locs hw hA oq hsz => ?_)
  obtain ⟨f4, ef4⟩ : ∃ y9, y9 = upd f3 (((Rs.length * 5) + 3)) r4 := ⟨_, rfl⟩
  rw [← ef4] at hA
  have hO := hO.kept (oq _ (by omega))
  have hf := hf.put oq hsz (by omega)
  refine lv_aload_n hx hb dX1_add_60 rfl (lv_at hl 1 rfl) ?_
  refine j_get (T := TX1) (N := 2) (k := 0) hx hb hts hinX1 hown hw hO rfl (by decide) (hts (.fieldLink RX1 11 "NightTrains$Orders" "cells" "[I") (by decide +kernel)) rfl dX1_add_61 ?_
  refine lv_iload hx hb dX1_add_64 (lv_at hl 0 rfl) ?_
  refine lv_iconst (v := (nI (4))) hx hb dX1_add_66 (by decide) ?_
  refine j_addN hx hb dX1_add_67 ?_
  refine lv_iload hx hb dX1_add_68 (lv_at hl 6 rfl) ?_
  refine j_iast hx hb hw hA (by omega) (k := ((Rs.length * 5) + 4)) rfl (by omega) (by omega) dX1_add_70 (fun H locs hw hA oq hsz => ?_)
  obtain ⟨f5, ef5⟩ : ∃ y9, y9 = upd f4 (((Rs.length * 5) + 4)) r5 := ⟨_, rfl⟩
  rw [← ef5] at hA
  have hO := hO.kept (oq _ (by omega))
  have hf := hf.put oq hsz (by omega)
  refine lv_aload_n hx hb dX1_add_71 rfl (lv_at hl 1 rfl) ?_
  refine lv_dup hx hb dX1_add_72 rfl ?_
  refine j_get (T := TX1) (N := 2) (k := 1) hx hb hts hinX1 hown hw hO rfl (by decide) (hts (.fieldLink RX1 15 "NightTrains$Orders" "size" "I") (by decide +kernel)) rfl dX1_add_73 ?_
  refine lv_iconst (v := (nI (1))) hx hb dX1_add_76 (by decide) ?_
  refine j_addN hx hb dX1_add_77 ?_
  refine j_put (T := TX1) (N := 2) (k := 1) (ty := .int) hx hb hts hinX1 tyX1 tyX1_ok nmX1 hown hw hO hz rfl (by decide) (hts (.fieldLink RX1 15 "NightTrains$Orders" "size" "I") (by decide +kernel)) rfl (by decide +kernel) rfl rfl (Nat.le_of_ble_eq_true rfl) dX1_add_78 (fun H locs hw hO oq hsz => ?_)
  have hO : jO g H b 1 [.ref _, .int _] := hO
  have hA := hA.kept (oq _ (by omega))
  have hf := hf.put oq hsz (by omega)
  refine lv_aload_n hx hb dX1_add_81 rfl (lv_at hl 1 rfl) ?_
  refine j_get (T := TX1) (N := 2) (k := 1) hx hb hts hinX1 hown hw hO rfl (by decide) (hts (.fieldLink RX1 15 "NightTrains$Orders" "size" "I") (by decide +kernel)) rfl dX1_add_82 ?_
  refine lv_iconst (v := (nI (1))) hx hb dX1_add_85 (by decide) ?_
  refine j_subN hx hb (by omega) dX1_add_86 ?_
  refine j_iret hx hb hr hlocks hH hw dX1_add_87 ?_
  exact ⟨_, rfl, by rw [show Rs.length + 1 - 1 = Rs.length by omega], ⟨by rw [List.length_append]; exact hO, by rw [List.length_append]; exact hi, _, hA, hRw.add ef1 ef2 ef3 ef4 ef5⟩, hf⟩

abbrev q_X1_closeGaps (g : jG) (H0 : Heap) (b : Nat) (Rs : List OR) : Option Value → Heap → Prop := jV (fun H1 => jOr g H1 b (kpt Rs) ∧ jF b 2 H0 H1)
set_option maxHeartbeats 4000000 in
set_option maxRecDepth 100000 in
theorem c_X1_closeGaps (l : Launch) (g : jG) (z : Nat) (H0 : Heap) (b : Nat) (Rs : List OR) (hz : z ≤ b) (hQ : jOr g H0 b Rs) : jM l g z yX1_closeGaps wsX1_closeGaps 2 60 [.ref b] H0 (q_X1_closeGaps g H0 b Rs) := by
  refine j_of (cc := cX1_closeGaps) (n := 3) (ret := none) (by decide) rfl (Nat.le_of_ble_eq_true rfl) ?_
  intro p e s m below meth c hx hb hr hml hown hts hlocks hname hH hw ls hl
  have hl : lv_has ls 3 [(0, .ref b)] := hl
  have hinX1 : ∀ w ∈ u_ws RX1 TX1 2, w ∈ wsX1_closeGaps := by decide +kernel
  have hf : jF b 2 H0 H0 := jF.rf
  obtain ⟨hO, h21, f, hA, hRw⟩ := hQ
  refine lv_iconst (v := (nI (0))) hx hb dX1_closeGaps_0 (by decide) ?_
  refine lv_istore_n (lv' := [(1, .int _), (0, .ref _)]) hx hb dX1_closeGaps_1 rfl hl (by decide) rfl (fun ls hl => ?_)
  refine lv_iconst (v := (nI (0))) hx hb dX1_closeGaps_2 (by decide) ?_
  refine lv_istore_n (lv' := [(2, .int _), (1, .int _), (0, .ref _)]) hx hb dX1_closeGaps_3 rfl hl (by decide) rfl (fun ls hl => ?_)
  have lp4 : ∀ (n4 : Nat) (j : Nat) (fk : Nat → Int32) (hj : j ≤ Rs.length) (hG : Gap fk Rs j) (hmu4 : Rs.length - j < n4) (H : Heap) (locs : List Loc) (hw : jW g z s H locs) (hf : jF b 2 H0 H) (hO : jO g H b 1 [.ref (b + 1), .int (nI (Rs.length))]) (hA : jI g H (b + 1) 105 fk) (ls : Array Slot) (hl : lv_has ls 3 [(0, .ref b), (1, .int (nI ((kpt (Rs.take j)).length))), (2, .int (nI (j)))]), jK p l e 2 60 s m [.ref b] below meth c z H0 (q_X1_closeGaps g H0 b Rs) H locs (F0 m 4 ls []) := by
    intro n4
    induction n4 with
    | zero => intros; omega
    | succ n4 ih4 =>
      intro j fk hj hG hmu4 H locs hw hf hO hA ls hl
      have hk9 := kpt_len (R := Rs.take j)
      rw [List.length_take] at hk9
      refine lv_iload_n hx hb dX1_closeGaps_4 rfl (lv_at hl 2 rfl) ?_
      refine lv_aload_n hx hb dX1_closeGaps_5 rfl (lv_at hl 0 rfl) ?_
      refine j_get (T := TX1) (N := 2) (k := 1) hx hb hts hinX1 hown hw hO rfl (by decide) (hts (.fieldLink RX1 15 "NightTrains$Orders" "size" "I") (by decide +kernel)) rfl dX1_closeGaps_6 ?_
      refine jn_ge (tgt := 49) hx hb dX1_closeGaps_9 (by decide) (by omega) (by omega) (fun c9 => ?_) (fun c9 => ?_)
      · obtain rfl : j = Rs.length := by omega
        refine lv_aload_n hx hb dX1_closeGaps_49 rfl (lv_at hl 0 rfl) ?_
        refine lv_iload_n hx hb dX1_closeGaps_50 rfl (lv_at hl 1 rfl) ?_
        refine j_put (T := TX1) (N := 2) (k := 1) (ty := .int) hx hb hts hinX1 tyX1 tyX1_ok nmX1 hown hw hO hz rfl (by decide) (hts (.fieldLink RX1 15 "NightTrains$Orders" "size" "I") (by decide +kernel)) rfl (by decide +kernel) rfl rfl (Nat.le_of_ble_eq_true rfl) dX1_closeGaps_51 (fun H locs hw hO oq hsz => ?_)
        have hO : jO g H b 1 [.ref _, .int _] := hO
        have hA := hA.kept (oq _ (by omega))
        have hf := hf.put oq hsz (by omega)
        refine j_vret hx hb hr hlocks hH hw dX1_closeGaps_54 ?_
        rw [List.take_length] at hO
        exact ⟨rfl, ⟨hO, Nat.le_trans kpt_len h21, _, hA, hG.stop⟩, hf⟩
      · have hQ1 : jOr g H b (rowsOf fk Rs.length) := ⟨by rw [rowsOf_len]; exact hO, by rw [rowsOf_len]; exact h21, _, hA, Rw_rows⟩
        refine lv_aload_n hx hb dX1_closeGaps_12 rfl (lv_at hl 0 rfl) ?_
        refine lv_iload_n hx hb dX1_closeGaps_13 rfl (lv_at hl 2 rfl) ?_
        refine lv_iconst (v := (nI (0))) hx hb dX1_closeGaps_14 (by decide) ?_
        refine j_Vp (n := 2) (As := [.int (nI (j)), .int (nI (0))]) hx hb hml hown hts hw (j_recv hw hO rfl) (c_X1_get l g z H b (nI (j)) (nI (0)) (rowsOf fk Rs.length) hz hQ1 ) gX1_closeGaps_X1_get rfl (by decide +kernel) ⟨Nat.le_of_ble_eq_true rfl, Nat.le_of_ble_eq_true rfl⟩ rfl hl.1 (Nat.le_of_ble_eq_true rfl) ⟨Nat.zero_le _, Nat.zero_le _⟩ dX1_closeGaps_15 (fun r2 locs hr2 hw => ?_) rfl
        obtain ⟨rr, hrr⟩ : ∃ rr, Rs[j]? = some rr := ⟨Rs[j], List.getElem?_eq_getElem (by omega)⟩
        obtain rfl : r2 = rr 0 := hr2.trans ((gtR_in (rowsOf_get (by omega)) (by decide) (by rw [rowsOf_len]; omega)).trans (hG.2 j 0 rr (Nat.le_refl _) hrr (by decide)))
        refine lv_iconst (v := (-1)) hx hb dX1_closeGaps_18 (by decide) ?_
        refine lv_icmp_eq (tgt := 43) hx hb dX1_closeGaps_19 (by decide) (fun c19 => ?_) (fun c19 => ?_)
        · have hG := hG.skip hrr c19
          have hk7 : (kpt (Rs.take (j + 1))).length = (kpt (Rs.take j)).length := by rw [kpt_take hrr, if_pos c19, List.append_nil]
          rw [← hk7] at hl
          refine lv_iinc (v := nI (j + 1)) (lv' := [(2, .int _), (0, .ref _), (1, .int _)]) hx hb dX1_closeGaps_43 hl (k := 2) rfl (nI_add _ 1) (by decide) rfl (fun ls hl => ?_)
          refine lv_goto (tgt := 4) hx hb dX1_closeGaps_46 (by decide) ?_
          exact ih4  (j + 1) fk (by first | assumption | omega) hG (by omega) H _ hw hf hO hA _ (lv_sub hl [1, 2, 0] rfl)
        · have hk8 : (kpt (Rs.take j)).length ≤ j := by omega
          refine lv_aload_n hx hb dX1_closeGaps_22 rfl (lv_at hl 0 rfl) ?_
          refine j_get (T := TX1) (N := 2) (k := 0) hx hb hts hinX1 hown hw hO rfl (by decide) (hts (.fieldLink RX1 11 "NightTrains$Orders" "cells" "[I") (by decide +kernel)) rfl dX1_closeGaps_23 ?_
          refine lv_iload_n hx hb dX1_closeGaps_26 rfl (lv_at hl 2 rfl) ?_
          refine lv_iconst (v := (nI (5))) hx hb dX1_closeGaps_27 (by decide) ?_
          refine j_mulN hx hb dX1_closeGaps_28 ?_
          refine lv_aload_n hx hb dX1_closeGaps_29 rfl (lv_at hl 0 rfl) ?_
          refine j_get (T := TX1) (N := 2) (k := 0) hx hb hts hinX1 hown hw hO rfl (by decide) (hts (.fieldLink RX1 11 "NightTrains$Orders" "cells" "[I") (by decide +kernel)) rfl dX1_closeGaps_30 ?_
          refine lv_iload_n hx hb dX1_closeGaps_33 rfl (lv_at hl 1 rfl) ?_
          refine lv_iconst (v := (nI (5))) hx hb dX1_closeGaps_34 (by decide) ?_
          refine j_mulN hx hb dX1_closeGaps_35 ?_
          refine lv_iconst (v := (nI (5))) hx hb dX1_closeGaps_36 (by decide) ?_
          refine j_cpy (own := RX1) (sp := (j * 5)) (dp := ((kpt (Rs.take j)).length * 5)) (k := 5) hx hb hml hown hts (by decide +kernel) (by decide +kernel) (by decide +kernel) (by decide +kernel) hw (hA.u hw (by omega)) hA (by omega) (by omega) (by omega) (by omega) (by omega) (Nat.le_of_ble_eq_true rfl) (Nat.le_of_ble_eq_true rfl) hl.1 dX1_closeGaps_37 (fun H locs hw hA oq hsz => ?_)
          obtain ⟨f3, ef3⟩ : ∃ y9, y9 = va_cpy fk fk ((j * 5)) (((kpt (Rs.take j)).length * 5)) (5) := ⟨_, rfl⟩
          rw [← ef3] at hA
          have hO := hO.kept (oq _ (by omega))
          have hf := hf.put oq hsz (by omega)
          have hG := hG.keep hrr c19 rfl ef3
          have hk7 : (kpt (Rs.take (j + 1))).length = (kpt (Rs.take j)).length + 1 := by rw [kpt_take hrr, if_neg c19, List.length_append]; rfl
          refine lv_iinc (v := nI ((kpt (Rs.take j)).length + 1)) (lv' := [(1, .int _), (0, .ref _), (2, .int _)]) hx hb dX1_closeGaps_40 hl (k := 1) rfl (nI_add _ 1) (by decide) rfl (fun ls hl => ?_)
          rw [← hk7] at hl
          refine lv_iinc (v := nI (j + 1)) (lv' := [(2, .int _), (1, .int _), (0, .ref _)]) hx hb dX1_closeGaps_43 hl (k := 2) rfl (nI_add _ 1) (by decide) rfl (fun ls hl => ?_)
          refine lv_goto (tgt := 4) hx hb dX1_closeGaps_46 (by decide) ?_
          exact ih4  (j + 1) f3 (by first | assumption | omega) hG (by omega) H _ hw hf hO hA _ (lv_sub hl [2, 1, 0] rfl)
  exact lp4 (Rs.length - 0 + 1) 0 f (by first | assumption | omega) (Gap.start hRw) (by omega) H0 _ hw hf hO hA _ (lv_sub hl [2, 1, 0] rfl)
