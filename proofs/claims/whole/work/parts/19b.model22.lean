abbrev q_X3_length (g : jG) (H0 : Heap) (a : Nat) (tx : List Nat) : Option Value → Heap → Prop := jN (fun r H1 => H1 = H0 ∧ (r = nI tx.length))
set_option maxHeartbeats 4000000 in
set_option maxRecDepth 100000 in
theorem c_X3_length (l : Launch) (g : jG) (z : Nat) (H0 : Heap) (a : Nat) (tx : List Nat) (hz : z ≤ a) (hT : jTe g H0 a tx) : jM l g z yX3_length wsX3_length 0 0 [.ref a] H0 (q_X3_length g H0 a tx) := by
  refine j_of (cc := cX3_length) (n := 1) (ret := some .int) (by decide) rfl (Nat.le_of_ble_eq_true rfl) ?_
  intro p e s m below meth c hx hb hr hml hown hts hlocks hname hH hw ls hl
  have hl : lv_has ls 1 [(0, .ref a)] := hl
  have hinX3 : ∀ w ∈ u_ws RX3 TX3 2, w ∈ wsX3_length := by decide +kernel
  obtain ⟨hO, h120, sc, hC, hsc⟩ := id hT
  have htk := hsc.ok
  refine lv_aload_n hx hb dX3_length_0 rfl (lv_at hl 0 rfl) ?_
  refine j_get (T := TX3) (N := 2) (k := 1) hx hb hts hinX3 hown hw hO rfl (by decide) (hts (.fieldLink RX3 15 "NightTrains$Text" "length" "I") (by decide +kernel)) rfl dX3_length_1 ?_
  refine j_iret hx hb hr hlocks hH hw dX3_length_4 ?_
  exact ⟨_, rfl, rfl, rfl⟩

abbrev q_X3_isFull (g : jG) (H0 : Heap) (a : Nat) (tx : List Nat) : Option Value → Heap → Prop := jN (fun r H1 => H1 = H0 ∧ ((r = nI 1 ∧ 120 ≤ tx.length) ∨ (r = nI 0 ∧ ¬ 120 ≤ tx.length)))
set_option maxHeartbeats 4000000 in
set_option maxRecDepth 100000 in
theorem c_X3_isFull (l : Launch) (g : jG) (z : Nat) (H0 : Heap) (a : Nat) (tx : List Nat) (hz : z ≤ a) (hT : jTe g H0 a tx) : jM l g z yX3_isFull wsX3_isFull 0 0 [.ref a] H0 (q_X3_isFull g H0 a tx) := by
  refine j_of (cc := cX3_isFull) (n := 1) (ret := some .boolean) (by decide) rfl (Nat.le_of_ble_eq_true rfl) ?_
  intro p e s m below meth c hx hb hr hml hown hts hlocks hname hH hw ls hl
  have hl : lv_has ls 1 [(0, .ref a)] := hl
  have hinX3 : ∀ w ∈ u_ws RX3 TX3 2, w ∈ wsX3_isFull := by decide +kernel
  obtain ⟨hO, h120, sc, hC, hsc⟩ := id hT
  have htk := hsc.ok
  refine lv_aload_n hx hb dX3_isFull_0 rfl (lv_at hl 0 rfl) ?_
  refine j_get (T := TX3) (N := 2) (k := 1) hx hb hts hinX3 hown hw hO rfl (by decide) (hts (.fieldLink RX3 15 "NightTrains$Text" "length" "I") (by decide +kernel)) rfl dX3_isFull_1 ?_
  refine lv_bipush (v := (nI (120))) hx hb dX3_isFull_4 (by decide) ?_
  refine jn_lt (tgt := 13) hx hb dX3_isFull_6 (by decide) (by omega) (by omega) (fun c6 => ?_) (fun c6 => ?_)
  · refine lv_iconst (v := (nI (0))) hx hb dX3_isFull_13 (by decide) ?_
    refine j_zret hx hb hr hlocks hH hw (Or.inl rfl) dX3_isFull_14 ?_
    exact ⟨_, rfl, rfl, Or.inr ⟨rfl, by omega⟩⟩
  · refine lv_iconst (v := (nI (1))) hx hb dX3_isFull_9 (by decide) ?_
    refine lv_goto (tgt := 14) hx hb dX3_isFull_10 (by decide) ?_
    refine j_zret hx hb hr hlocks hH hw (Or.inr rfl) dX3_isFull_14 ?_
    exact ⟨_, rfl, rfl, Or.inl ⟨rfl, by omega⟩⟩

abbrev q_X3_add (g : jG) (H0 : Heap) (a : Nat) (cd : Nat) (tx : List Nat) : Option Value → Heap → Prop := jN (fun r H1 => r = nI (tx.length + 1) ∧ jTe g H1 a (tx ++ [cd]) ∧ jF a 2 H0 H1)
set_option maxHeartbeats 4000000 in
set_option maxRecDepth 100000 in
theorem c_X3_add (l : Launch) (g : jG) (z : Nat) (H0 : Heap) (a : Nat) (cd : Nat) (tx : List Nat) (hz : z ≤ a) (hT : jTe g H0 a tx) (hcd : cd < 256) (hfull : ¬ 120 ≤ tx.length) : jM l g z yX3_add wsX3_add 1 20 [.ref a, .int (nI (cd))] H0 (q_X3_add g H0 a cd tx) := by
  refine j_of (cc := cX3_add) (n := 2) (ret := some .int) (by decide) rfl (Nat.le_of_ble_eq_true rfl) ?_
  intro p e s m below meth c hx hb hr hml hown hts hlocks hname hH hw ls hl
  have hl : lv_has ls 2 [(0, .ref a), (1, .int (nI (cd)))] := hl
  have hinX3 : ∀ w ∈ u_ws RX3 TX3 2, w ∈ wsX3_add := by decide +kernel
  have hf : jF a 2 H0 H0 := jF.rf
  obtain ⟨hO, h120, sc, hC, hsc⟩ := id hT
  have htk := hsc.ok
  refine lv_aload_n hx hb dX3_add_0 rfl (lv_at hl 0 rfl) ?_
  refine j_Vp (n := 0) (As := []) hx hb hml hown hts hw (j_recv hw hO rfl) (c_X3_isFull l g z H0 a tx hz hT ) gX3_add_X3_isFull rfl (by decide +kernel) ⟨Nat.le_of_ble_eq_true rfl, Nat.le_of_ble_eq_true rfl⟩ rfl hl.1 (Nat.le_of_ble_eq_true rfl) ⟨Nat.zero_le _, Nat.zero_le _⟩ dX3_add_1 (fun r1 locs hr1 hw => ?_) rfl
  rcases hr1 with ⟨rfl, hr1⟩ | ⟨rfl, hr1⟩
  · exact absurd hr1 (by omega)
  · refine jz_ne (tgt := 27) hx hb dX3_add_4 (by decide) (by omega) (fun c4 => absurd c4 (by omega)) (fun c4 => ?_)
    refine lv_aload_n hx hb dX3_add_7 rfl (lv_at hl 0 rfl) ?_
    refine j_get (T := TX3) (N := 2) (k := 0) hx hb hts hinX3 hown hw hO rfl (by decide) (hts (.fieldLink RX3 11 "NightTrains$Text" "signs" "[C") (by decide +kernel)) rfl dX3_add_8 ?_
    refine lv_aload_n hx hb dX3_add_11 rfl (lv_at hl 0 rfl) ?_
    refine j_get (T := TX3) (N := 2) (k := 1) hx hb hts hinX3 hown hw hO rfl (by decide) (hts (.fieldLink RX3 15 "NightTrains$Text" "length" "I") (by decide +kernel)) rfl dX3_add_12 ?_
    refine lv_iload_n hx hb dX3_add_15 rfl (lv_at hl 1 rfl) ?_
    refine j_cast hx hb hw hC (by omega) (k := tx.length) rfl (by omega) (by omega) dX3_add_16 (fun H locs hw hC oq hsz => ?_)
    obtain ⟨f2, ef2⟩ : ∃ y9, y9 = upd sc (tx.length) (vp_nar .char (nI (cd))) := ⟨_, rfl⟩
    rw [← ef2] at hC
    have hO := hO.kept (oq _ (by omega))
    have hf := hf.put oq hsz (by omega)
    refine lv_aload_n hx hb dX3_add_17 rfl (lv_at hl 0 rfl) ?_
    refine lv_dup hx hb dX3_add_18 rfl ?_
    refine j_get (T := TX3) (N := 2) (k := 1) hx hb hts hinX3 hown hw hO rfl (by decide) (hts (.fieldLink RX3 15 "NightTrains$Text" "length" "I") (by decide +kernel)) rfl dX3_add_19 ?_
    refine lv_iconst (v := (nI (1))) hx hb dX3_add_22 (by decide) ?_
    refine j_addN hx hb dX3_add_23 ?_
    refine j_put (T := TX3) (N := 2) (k := 1) (ty := .int) hx hb hts hinX3 tyX3 tyX3_ok nmX3 hown hw hO hz rfl (by decide) (hts (.fieldLink RX3 15 "NightTrains$Text" "length" "I") (by decide +kernel)) rfl (by decide +kernel) rfl rfl (Nat.le_of_ble_eq_true rfl) dX3_add_24 (fun H locs hw hO oq hsz => ?_)
    have hO : jO g H a 3 [.ref _, .int _] := hO
    have hC := hC.kept (oq _ (by omega))
    have hf := hf.put oq hsz (by omega)
    refine lv_aload_n hx hb dX3_add_27 rfl (lv_at hl 0 rfl) ?_
    refine j_get (T := TX3) (N := 2) (k := 1) hx hb hts hinX3 hown hw hO rfl (by decide) (hts (.fieldLink RX3 15 "NightTrains$Text" "length" "I") (by decide +kernel)) rfl dX3_add_28 ?_
    refine j_iret hx hb hr hlocks hH hw dX3_add_31 ?_
    exact ⟨_, rfl, rfl, ⟨by rw [List.length_append]; exact hO, by rw [List.length_append]; show tx.length + 1 ≤ 120; omega, _, hC, by rw [ef2, nar_c _ hcd]; exact tIs_add hsc hcd⟩, hf⟩

abbrev q_X3_empty (g : jG) (H0 : Heap) (a : Nat) (tx : List Nat) : Option Value → Heap → Prop := jN (fun r H1 => r = nI tx.length ∧ jTe g H1 a [] ∧ jF a 2 H0 H1)
set_option maxHeartbeats 4000000 in
set_option maxRecDepth 100000 in
theorem c_X3_empty (l : Launch) (g : jG) (z : Nat) (H0 : Heap) (a : Nat) (tx : List Nat) (hz : z ≤ a) (hT : jTe g H0 a tx) : jM l g z yX3_empty wsX3_empty 0 0 [.ref a] H0 (q_X3_empty g H0 a tx) := by
  refine j_of (cc := cX3_empty) (n := 2) (ret := some .int) (by decide) rfl (Nat.le_of_ble_eq_true rfl) ?_
  intro p e s m below meth c hx hb hr hml hown hts hlocks hname hH hw ls hl
  have hl : lv_has ls 2 [(0, .ref a)] := hl
  have hinX3 : ∀ w ∈ u_ws RX3 TX3 2, w ∈ wsX3_empty := by decide +kernel
  have hf : jF a 2 H0 H0 := jF.rf
  obtain ⟨hO, h120, sc, hC, hsc⟩ := id hT
  have htk := hsc.ok
  refine lv_aload_n hx hb dX3_empty_0 rfl (lv_at hl 0 rfl) ?_
  refine j_get (T := TX3) (N := 2) (k := 1) hx hb hts hinX3 hown hw hO rfl (by decide) (hts (.fieldLink RX3 15 "NightTrains$Text" "length" "I") (by decide +kernel)) rfl dX3_empty_1 ?_
  refine lv_istore_n (lv' := [(1, .int _), (0, .ref _)]) hx hb dX3_empty_4 rfl hl (by decide) rfl (fun ls hl => ?_)
  refine lv_aload_n hx hb dX3_empty_5 rfl (lv_at hl 1 rfl) ?_
  refine lv_iconst (v := (nI (0))) hx hb dX3_empty_6 (by decide) ?_
  refine j_put (T := TX3) (N := 2) (k := 1) (ty := .int) hx hb hts hinX3 tyX3 tyX3_ok nmX3 hown hw hO hz rfl (by decide) (hts (.fieldLink RX3 15 "NightTrains$Text" "length" "I") (by decide +kernel)) rfl (by decide +kernel) rfl rfl (Nat.le_of_ble_eq_true rfl) dX3_empty_7 (fun H locs hw hO oq hsz => ?_)
  have hO : jO g H a 3 [.ref _, .int _] := hO
  have hC := hC.kept (oq _ (by omega))
  have hf := hf.put oq hsz (by omega)
  refine lv_iload_n hx hb dX3_empty_10 rfl (lv_at hl 0 rfl) ?_
  refine j_iret hx hb hr hlocks hH hw dX3_empty_11 ?_
  exact ⟨_, rfl, rfl, ⟨hO, Nat.zero_le _, _, hC, fun i c h => by simp at h⟩, hf⟩

abbrev q_X3_signAt (g : jG) (H0 : Heap) (a : Nat) (i : Nat) (tx : List Nat) : Option Value → Heap → Prop := jN (fun r H1 => H1 = H0 ∧ (r = sgA tx i))
set_option maxHeartbeats 4000000 in
set_option maxRecDepth 100000 in
theorem c_X3_signAt (l : Launch) (g : jG) (z : Nat) (H0 : Heap) (a : Nat) (i : Nat) (tx : List Nat) (hz : z ≤ a) (hT : jTe g H0 a tx) (hi : i < 2 ^ 20) : jM l g z yX3_signAt wsX3_signAt 0 0 [.ref a, .int (nI (i))] H0 (q_X3_signAt g H0 a i tx) := by
  refine j_of (cc := cX3_signAt) (n := 2) (ret := some .int) (by decide) rfl (Nat.le_of_ble_eq_true rfl) ?_
  intro p e s m below meth c hx hb hr hml hown hts hlocks hname hH hw ls hl
  have hl : lv_has ls 2 [(0, .ref a), (1, .int (nI (i)))] := hl
  have hinX3 : ∀ w ∈ u_ws RX3 TX3 2, w ∈ wsX3_signAt := by decide +kernel
  obtain ⟨hO, h120, sc, hC, hsc⟩ := id hT
  have htk := hsc.ok
  refine lv_iload_n hx hb dX3_signAt_0 rfl (lv_at hl 1 rfl) ?_
  refine jz_lt (tgt := 21) hx hb dX3_signAt_1 (by decide) (by omega) (fun c1 => absurd c1 (by omega)) (fun c1 => ?_)
  refine lv_iload_n hx hb dX3_signAt_4 rfl (lv_at hl 1 rfl) ?_
  refine lv_aload_n hx hb dX3_signAt_5 rfl (lv_at hl 0 rfl) ?_
  refine j_get (T := TX3) (N := 2) (k := 1) hx hb hts hinX3 hown hw hO rfl (by decide) (hts (.fieldLink RX3 15 "NightTrains$Text" "length" "I") (by decide +kernel)) rfl dX3_signAt_6 ?_
  refine jn_ge (tgt := 21) hx hb dX3_signAt_9 (by decide) (by omega) (by omega) (fun c9 => ?_) (fun c9 => ?_)
  · refine lv_iconst (v := (-1)) hx hb dX3_signAt_21 (by decide) ?_
    refine j_iret hx hb hr hlocks hH hw dX3_signAt_22 ?_
    exact ⟨_, rfl, rfl, (sgA_out (by omega)).symm⟩
  · refine lv_aload_n hx hb dX3_signAt_12 rfl (lv_at hl 0 rfl) ?_
    refine j_get (T := TX3) (N := 2) (k := 0) hx hb hts hinX3 hown hw hO rfl (by decide) (hts (.fieldLink RX3 11 "NightTrains$Text" "signs" "[C") (by decide +kernel)) rfl dX3_signAt_13 ?_
    refine lv_iload_n hx hb dX3_signAt_16 rfl (lv_at hl 1 rfl) ?_
    refine j_cald hx hb hw hC (k := i) rfl (by omega) (by omega) dX3_signAt_17 ?_
    refine j_eq (y := nI (ch tx i)) (hsc.ch (by omega)).1 ?_
    refine lv_goto (tgt := 22) hx hb dX3_signAt_18 (by decide) ?_
    refine j_iret hx hb hr hlocks hH hw dX3_signAt_22 ?_
    exact ⟨_, rfl, rfl, (sgA_in (by omega)).symm⟩

abbrev q_X3_digitAt (g : jG) (H0 : Heap) (a : Nat) (i : Nat) (tx : List Nat) : Option Value → Heap → Prop := jN (fun r H1 => H1 = H0 ∧ (r = dgA tx i))
set_option maxHeartbeats 4000000 in
set_option maxRecDepth 100000 in
theorem c_X3_digitAt (l : Launch) (g : jG) (z : Nat) (H0 : Heap) (a : Nat) (i : Nat) (tx : List Nat) (hz : z ≤ a) (hT : jTe g H0 a tx) (hi : i < 2 ^ 20) : jM l g z yX3_digitAt wsX3_digitAt 1 21 [.ref a, .int (nI (i))] H0 (q_X3_digitAt g H0 a i tx) := by
  refine j_of (cc := cX3_digitAt) (n := 2) (ret := some .int) (by decide) rfl (Nat.le_of_ble_eq_true rfl) ?_
  intro p e s m below meth c hx hb hr hml hown hts hlocks hname hH hw ls hl
  have hl : lv_has ls 2 [(0, .ref a), (1, .int (nI (i)))] := hl
  obtain ⟨hO, h120, sc, hC, hsc⟩ := id hT
  have htk := hsc.ok
  refine lv_aload_n hx hb dX3_digitAt_0 rfl (lv_at hl 0 rfl) ?_
  refine lv_iload_n hx hb dX3_digitAt_1 rfl (lv_at hl 1 rfl) ?_
  refine j_Vp (n := 1) (As := [.int (nI (i))]) hx hb hml hown hts hw (j_recv hw hO rfl) (c_X3_signAt l g z H0 a (i) tx hz hT (by first | assumption | omega)) gX3_digitAt_X3_signAt rfl (by decide +kernel) ⟨Nat.le_of_ble_eq_true rfl, Nat.le_of_ble_eq_true rfl⟩ rfl hl.1 (Nat.le_of_ble_eq_true rfl) ⟨Nat.zero_le _, Nat.zero_le _⟩ dX3_digitAt_2 (fun r1 locs hr1 hw => ?_) rfl
  obtain rfl : r1 = (sgA tx (i)) := hr1
  refine lv_bipush (v := (nI (48))) hx hb dX3_digitAt_5 (by decide) ?_
  refine lv_isub hx hb dX3_digitAt_7 ?_
  refine j_iret hx hb hr hlocks hH hw dX3_digitAt_8 ?_
  exact ⟨_, rfl, rfl, rfl⟩

abbrev q_X3_pairAt (g : jG) (H0 : Heap) (a : Nat) (i : Nat) (tx : List Nat) : Option Value → Heap → Prop := jN (fun r H1 => H1 = H0 ∧ (r = nI 10 * dgA tx i + dgA tx (i + 1)))
set_option maxHeartbeats 4000000 in
set_option maxRecDepth 100000 in
theorem c_X3_pairAt (l : Launch) (g : jG) (z : Nat) (H0 : Heap) (a : Nat) (i : Nat) (tx : List Nat) (hz : z ≤ a) (hT : jTe g H0 a tx) (hi : i < 2 ^ 19) : jM l g z yX3_pairAt wsX3_pairAt 2 42 [.ref a, .int (nI (i))] H0 (q_X3_pairAt g H0 a i tx) := by
  refine j_of (cc := cX3_pairAt) (n := 2) (ret := some .int) (by decide) rfl (Nat.le_of_ble_eq_true rfl) ?_
  intro p e s m below meth c hx hb hr hml hown hts hlocks hname hH hw ls hl
  have hl : lv_has ls 2 [(0, .ref a), (1, .int (nI (i)))] := hl
  obtain ⟨hO, h120, sc, hC, hsc⟩ := id hT
  have htk := hsc.ok
  refine lv_bipush (v := (nI (10))) hx hb dX3_pairAt_0 (by decide) ?_
  refine lv_aload_n hx hb dX3_pairAt_2 rfl (lv_at hl 0 rfl) ?_
  refine lv_iload_n hx hb dX3_pairAt_3 rfl (lv_at hl 1 rfl) ?_
  refine j_Vp (n := 1) (As := [.int (nI (i))]) hx hb hml hown hts hw (j_recv hw hO rfl) (c_X3_digitAt l g z H0 a (i) tx hz hT (by first | assumption | omega)) gX3_pairAt_X3_digitAt rfl (by decide +kernel) ⟨Nat.le_of_ble_eq_true rfl, Nat.le_of_ble_eq_true rfl⟩ rfl hl.1 (Nat.le_of_ble_eq_true rfl) ⟨Nat.zero_le _, Nat.zero_le _⟩ dX3_pairAt_4 (fun r1 locs hr1 hw => ?_) rfl
  obtain rfl : r1 = (dgA tx (i)) := hr1
  refine lv_imul hx hb dX3_pairAt_7 ?_
  refine lv_aload_n hx hb dX3_pairAt_8 rfl (lv_at hl 0 rfl) ?_
  refine lv_iload_n hx hb dX3_pairAt_9 rfl (lv_at hl 1 rfl) ?_
  refine lv_iconst (v := (nI (1))) hx hb dX3_pairAt_10 (by decide) ?_
  refine j_addN hx hb dX3_pairAt_11 ?_
  refine j_Vp (n := 1) (As := [.int (nI ((i + 1)))]) hx hb hml hown hts hw (j_recv hw hO rfl) (c_X3_digitAt l g z H0 a ((i + 1)) tx hz hT (by first | assumption | omega)) gX3_pairAt_X3_digitAt rfl (by decide +kernel) ⟨Nat.le_of_ble_eq_true rfl, Nat.le_of_ble_eq_true rfl⟩ rfl hl.1 (Nat.le_of_ble_eq_true rfl) ⟨Nat.zero_le _, Nat.zero_le _⟩ dX3_pairAt_12 (fun r2 locs hr2 hw => ?_) rfl
  obtain rfl : r2 = (dgA tx ((i + 1))) := hr2
  refine lv_iadd hx hb dX3_pairAt_15 ?_
  refine j_iret hx hb hr hlocks hH hw dX3_pairAt_16 ?_
  exact ⟨_, rfl, rfl, rfl⟩

abbrev q_X3_digitsOfCommand (g : jG) (H0 : Heap) (a : Nat) (sp : Nat) (tx : List Nat) : Option Value → Heap → Prop := jN (fun r H1 => H1 = H0 ∧ (r = nI (dgs tx sp)))
set_option maxHeartbeats 4000000 in
set_option maxRecDepth 100000 in
theorem c_X3_digitsOfCommand (l : Launch) (g : jG) (z : Nat) (H0 : Heap) (a : Nat) (sp : Nat) (tx : List Nat) (hz : z ≤ a) (hT : jTe g H0 a tx) (hi : sp < 2 ^ 20) : jM l g z yX3_digitsOfCommand wsX3_digitsOfCommand 1 21 [.ref a, .int (nI (sp))] H0 (q_X3_digitsOfCommand g H0 a sp tx) := by
  refine j_of (cc := cX3_digitsOfCommand) (n := 2) (ret := some .int) (by decide) rfl (Nat.le_of_ble_eq_true rfl) ?_
  intro p e s m below meth c hx hb hr hml hown hts hlocks hname hH hw ls hl
  have hl : lv_has ls 2 [(0, .ref a), (1, .int (nI (sp)))] := hl
  obtain ⟨hO, h120, sc, hC, hsc⟩ := id hT
  have htk := hsc.ok
  refine lv_aload_n hx hb dX3_digitsOfCommand_0 rfl (lv_at hl 0 rfl) ?_
  refine lv_iload_n hx hb dX3_digitsOfCommand_1 rfl (lv_at hl 1 rfl) ?_
  refine j_Vp (n := 1) (As := [.int (nI (sp))]) hx hb hml hown hts hw (j_recv hw hO rfl) (c_X3_signAt l g z H0 a (sp) tx hz hT (by first | assumption | omega)) gX3_digitsOfCommand_X3_signAt rfl (by decide +kernel) ⟨Nat.le_of_ble_eq_true rfl, Nat.le_of_ble_eq_true rfl⟩ rfl hl.1 (Nat.le_of_ble_eq_true rfl) ⟨Nat.zero_le _, Nat.zero_le _⟩ dX3_digitsOfCommand_2 (fun r1 locs hr1 hw => ?_) rfl
  obtain rfl : r1 = (sgA tx (sp)) := hr1
  rcases (show ch tx sp = 111 ∨ ch tx sp = 99 ∨ ch tx sp = 110 ∨ (¬ ch tx sp = 111 ∧ ¬ ch tx sp = 99 ∧ ¬ ch tx sp = 110) by omega) with hc | hc | hc | hc
  · rw [show sgA tx sp = nI 111 from (sg_eq htk (by omega)).mpr hc]
    refine lv_lookup (off := 35) (tgt := 40) hx hb dX3_digitsOfCommand_5 (by decide +kernel) (by decide +kernel) (by decide) ?_
    refine lv_iconst (v := (nI (5))) hx hb dX3_digitsOfCommand_40 (by decide) ?_
    refine j_iret hx hb hr hlocks hH hw dX3_digitsOfCommand_41 ?_
    exact ⟨_, rfl, rfl, by unfold dgs; first | rw [if_neg (by omega), if_neg (by omega), if_neg (by omega)] | rw [if_neg (by omega), if_neg (by omega), if_pos hc] | rw [if_neg (by omega), if_pos hc] | rw [if_pos hc]⟩
  · rw [show sgA tx sp = nI 99 from (sg_eq htk (by omega)).mpr hc]
    refine lv_lookup (off := 37) (tgt := 42) hx hb dX3_digitsOfCommand_5 (by decide +kernel) (by decide +kernel) (by decide) ?_
    refine lv_iconst (v := (nI (2))) hx hb dX3_digitsOfCommand_42 (by decide) ?_
    refine j_iret hx hb hr hlocks hH hw dX3_digitsOfCommand_43 ?_
    exact ⟨_, rfl, rfl, by unfold dgs; first | rw [if_neg (by omega), if_neg (by omega), if_neg (by omega)] | rw [if_neg (by omega), if_neg (by omega), if_pos hc] | rw [if_neg (by omega), if_pos hc] | rw [if_pos hc]⟩
  · rw [show sgA tx sp = nI 110 from (sg_eq htk (by omega)).mpr hc]
    refine lv_lookup (off := 39) (tgt := 44) hx hb dX3_digitsOfCommand_5 (by decide +kernel) (by decide +kernel) (by decide) ?_
    refine lv_iconst (v := (nI (1))) hx hb dX3_digitsOfCommand_44 (by decide) ?_
    refine j_iret hx hb hr hlocks hH hw dX3_digitsOfCommand_45 ?_
    exact ⟨_, rfl, rfl, by unfold dgs; first | rw [if_neg (by omega), if_neg (by omega), if_neg (by omega)] | rw [if_neg (by omega), if_neg (by omega), if_pos hc] | rw [if_neg (by omega), if_pos hc] | rw [if_pos hc]⟩
  · refine lv_lookup (off := 41) (tgt := 46) hx hb dX3_digitsOfCommand_5 (by decide +kernel) (lk3_no (fun q => hc.2.1 ((sg_eq htk (by omega)).mp q)) (fun q => hc.2.2 ((sg_eq htk (by omega)).mp q)) (fun q => hc.1 ((sg_eq htk (by omega)).mp q))) (by decide) ?_
    refine lv_iconst (v := (nI (0))) hx hb dX3_digitsOfCommand_46 (by decide) ?_
    refine j_iret hx hb hr hlocks hH hw dX3_digitsOfCommand_47 ?_
    exact ⟨_, rfl, rfl, by unfold dgs; first | rw [if_neg (by omega), if_neg (by omega), if_neg (by omega)] | rw [if_neg (by omega), if_neg (by omega), if_pos hc] | rw [if_neg (by omega), if_pos hc] | rw [if_pos hc]⟩

abbrev q_X3_lowestDigit (g : jG) (H0 : Heap) (a : Nat) (sp : Nat) (tx : List Nat) : Option Value → Heap → Prop := jN (fun r H1 => H1 = H0 ∧ (r = nI (lwd tx sp)))
set_option maxHeartbeats 4000000 in
set_option maxRecDepth 100000 in
theorem c_X3_lowestDigit (l : Launch) (g : jG) (z : Nat) (H0 : Heap) (a : Nat) (sp : Nat) (tx : List Nat) (hz : z ≤ a) (hT : jTe g H0 a tx) (hi : sp < 2 ^ 20) : jM l g z yX3_lowestDigit wsX3_lowestDigit 1 21 [.ref a, .int (nI (sp))] H0 (q_X3_lowestDigit g H0 a sp tx) := by
  refine j_of (cc := cX3_lowestDigit) (n := 2) (ret := some .int) (by decide) rfl (Nat.le_of_ble_eq_true rfl) ?_
  intro p e s m below meth c hx hb hr hml hown hts hlocks hname hH hw ls hl
  have hl : lv_has ls 2 [(0, .ref a), (1, .int (nI (sp)))] := hl
  obtain ⟨hO, h120, sc, hC, hsc⟩ := id hT
  have htk := hsc.ok
  refine lv_aload_n hx hb dX3_lowestDigit_0 rfl (lv_at hl 0 rfl) ?_
  refine lv_iload_n hx hb dX3_lowestDigit_1 rfl (lv_at hl 1 rfl) ?_
  refine j_Vp (n := 1) (As := [.int (nI (sp))]) hx hb hml hown hts hw (j_recv hw hO rfl) (c_X3_signAt l g z H0 a (sp) tx hz hT (by first | assumption | omega)) gX3_lowestDigit_X3_signAt rfl (by decide +kernel) ⟨Nat.le_of_ble_eq_true rfl, Nat.le_of_ble_eq_true rfl⟩ rfl hl.1 (Nat.le_of_ble_eq_true rfl) ⟨Nat.zero_le _, Nat.zero_le _⟩ dX3_lowestDigit_2 (fun r1 locs hr1 hw => ?_) rfl
  obtain rfl : r1 = (sgA tx (sp)) := hr1
  refine lv_bipush (v := (nI (110))) hx hb dX3_lowestDigit_5 (by decide) ?_
  refine lv_icmp_ne (tgt := 14) hx hb dX3_lowestDigit_7 (by decide) (fun c7 => ?_) (fun c7 => ?_)
  · refine lv_iconst (v := (nI (0))) hx hb dX3_lowestDigit_14 (by decide) ?_
    refine j_iret hx hb hr hlocks hH hw dX3_lowestDigit_15 ?_
    exact ⟨_, rfl, rfl, by unfold lwd; rw [if_neg (fun q => c7 ((sg_eq htk (by omega)).mpr q))]⟩
  · refine lv_iconst (v := (nI (1))) hx hb dX3_lowestDigit_10 (by decide) ?_
    refine lv_goto (tgt := 15) hx hb dX3_lowestDigit_11 (by decide) ?_
    refine j_iret hx hb hr hlocks hH hw dX3_lowestDigit_15 ?_
    exact ⟨_, rfl, rfl, by unfold lwd; rw [if_pos ((sg_eq htk (by omega)).mp c7)]⟩

abbrev q_X3_highestOfPair (g : jG) (H0 : Heap) (a : Nat) (b : Nat) (pl : Nat) (mo : Nat) (tx : List Nat) : Option Value → Heap → Prop := jN (fun r H1 => H1 = H0 ∧ (r = nI (hop tx b pl mo)))
set_option maxHeartbeats 4000000 in
set_option maxRecDepth 100000 in
theorem c_X3_highestOfPair (l : Launch) (g : jG) (z : Nat) (H0 : Heap) (a : Nat) (b : Nat) (pl : Nat) (mo : Nat) (tx : List Nat) (hz : z ≤ a) (hT : jTe g H0 a tx) (hi : b < 2 ^ 20) (hpl : pl < 10) (hmo : mo < 20) : jM l g z yX3_highestOfPair wsX3_highestOfPair 2 42 [.ref a, .int (nI (b)), .int (nI (pl)), .int (nI (mo))] H0 (q_X3_highestOfPair g H0 a b pl mo tx) := by
  refine j_of (cc := cX3_highestOfPair) (n := 5) (ret := some .int) (by decide) rfl (Nat.le_of_ble_eq_true rfl) ?_
  intro p e s m below meth c hx hb hr hml hown hts hlocks hname hH hw ls hl
  have hl : lv_has ls 5 [(0, .ref a), (1, .int (nI (b))), (2, .int (nI (pl))), (3, .int (nI (mo)))] := hl
  obtain ⟨hO, h120, sc, hC, hsc⟩ := id hT
  have htk := hsc.ok
  refine lv_iload_n hx hb dX3_highestOfPair_0 rfl (lv_at hl 2 rfl) ?_
  refine lv_iconst (v := (nI (2))) hx hb dX3_highestOfPair_1 (by decide) ?_
  refine jn_ne (tgt := 21) hx hb dX3_highestOfPair_2 (by decide) (by omega) (by omega) (fun c2 => ?_) (fun c2 => ?_)
  · refine lv_iconst (v := (nI (0))) hx hb dX3_highestOfPair_21 (by decide) ?_
    refine lv_istore (lv' := [(4, .int _), (0, .ref _), (1, .int _), (2, .int _), (3, .int _)]) hx hb dX3_highestOfPair_22 hl (by decide) rfl (fun ls hl => ?_)
    refine lv_iload hx hb dX3_highestOfPair_24 (lv_at hl 0 rfl) ?_
    refine jz_eq (tgt := 32) hx hb dX3_highestOfPair_26 (by decide) (by omega) (fun c26 => ?_) (fun c26 => absurd c26 (by omega))
    refine lv_iload_n hx hb dX3_highestOfPair_32 rfl (lv_at hl 3 rfl) ?_
    refine lv_iconst (v := (nI (1))) hx hb dX3_highestOfPair_33 (by decide) ?_
    refine jn_ne (tgt := 44) hx hb dX3_highestOfPair_34 (by decide) (by omega) (by omega) (fun c34 => ?_) (fun c34 => ?_)
    · refine lv_iload_n hx hb dX3_highestOfPair_44 rfl (lv_at hl 4 rfl) ?_
      refine lv_bipush (v := (nI (10))) hx hb dX3_highestOfPair_45 (by decide) ?_
      refine j_remN hx hb (by omega) (by omega) (by omega) dX3_highestOfPair_47 ?_
      refine j_iret hx hb hr hlocks hH hw dX3_highestOfPair_48 ?_
      first | exact absurd c34 (by omega) | exact ⟨_, rfl, rfl, by unfold hop; rw [if_neg (by first | exact fun q => absurd q.1 (by omega) | exact fun q => absurd q.2 (Int32.not_lt.mpr c14))]; first | rw [if_neg (by omega)] | rw [if_pos (by omega)]⟩
    · refine lv_iload_n hx hb dX3_highestOfPair_37 rfl (lv_at hl 4 rfl) ?_
      refine lv_bipush (v := (nI (10))) hx hb dX3_highestOfPair_38 (by decide) ?_
      refine j_divN hx hb (by omega) (by omega) (by omega) dX3_highestOfPair_40 ?_
      refine lv_goto (tgt := 48) hx hb dX3_highestOfPair_41 (by decide) ?_
      refine j_iret hx hb hr hlocks hH hw dX3_highestOfPair_48 ?_
      first | exact absurd c34 (by omega) | exact ⟨_, rfl, rfl, by unfold hop; rw [if_neg (by first | exact fun q => absurd q.1 (by omega) | exact fun q => absurd q.2 (Int32.not_lt.mpr c14))]; first | rw [if_neg (by omega)] | rw [if_pos (by omega)]⟩
  · refine lv_aload_n hx hb dX3_highestOfPair_5 rfl (lv_at hl 0 rfl) ?_
    refine lv_iload_n hx hb dX3_highestOfPair_6 rfl (lv_at hl 1 rfl) ?_
    refine j_Vp (n := 1) (As := [.int (nI (b))]) hx hb hml hown hts hw (j_recv hw hO rfl) (c_X3_digitAt l g z H0 a (b) tx hz hT (by first | assumption | omega)) gX3_highestOfPair_X3_digitAt rfl (by decide +kernel) ⟨Nat.le_of_ble_eq_true rfl, Nat.le_of_ble_eq_true rfl⟩ rfl hl.1 (Nat.le_of_ble_eq_true rfl) ⟨Nat.zero_le _, Nat.zero_le _⟩ dX3_highestOfPair_7 (fun r1 locs hr1 hw => ?_) rfl
    obtain rfl : r1 = (dgA tx (b)) := hr1
    refine lv_iload_n hx hb dX3_highestOfPair_10 rfl (lv_at hl 3 rfl) ?_
    refine lv_bipush (v := (nI (10))) hx hb dX3_highestOfPair_11 (by decide) ?_
    refine j_divN hx hb (by omega) (by omega) (by omega) dX3_highestOfPair_13 ?_
    refine lv_icmp_ge (tgt := 21) hx hb dX3_highestOfPair_14 (by decide) (fun c14 => ?_) (fun c14 => ?_)
    · refine lv_iconst (v := (nI (0))) hx hb dX3_highestOfPair_21 (by decide) ?_
      refine lv_istore (lv' := [(4, .int _), (0, .ref _), (1, .int _), (2, .int _), (3, .int _)]) hx hb dX3_highestOfPair_22 hl (by decide) rfl (fun ls hl => ?_)
      refine lv_iload hx hb dX3_highestOfPair_24 (lv_at hl 0 rfl) ?_
      refine jz_eq (tgt := 32) hx hb dX3_highestOfPair_26 (by decide) (by omega) (fun c26 => ?_) (fun c26 => absurd c26 (by omega))
      refine lv_iload_n hx hb dX3_highestOfPair_32 rfl (lv_at hl 3 rfl) ?_
      refine lv_iconst (v := (nI (1))) hx hb dX3_highestOfPair_33 (by decide) ?_
      refine jn_ne (tgt := 44) hx hb dX3_highestOfPair_34 (by decide) (by omega) (by omega) (fun c34 => ?_) (fun c34 => ?_)
      · refine lv_iload_n hx hb dX3_highestOfPair_44 rfl (lv_at hl 4 rfl) ?_
        refine lv_bipush (v := (nI (10))) hx hb dX3_highestOfPair_45 (by decide) ?_
        refine j_remN hx hb (by omega) (by omega) (by omega) dX3_highestOfPair_47 ?_
        refine j_iret hx hb hr hlocks hH hw dX3_highestOfPair_48 ?_
        first | exact absurd c34 (by omega) | exact ⟨_, rfl, rfl, by unfold hop; rw [if_neg (by first | exact fun q => absurd q.1 (by omega) | exact fun q => absurd q.2 (Int32.not_lt.mpr c14))]; first | rw [if_neg (by omega)] | rw [if_pos (by omega)]⟩
      · refine lv_iload_n hx hb dX3_highestOfPair_37 rfl (lv_at hl 4 rfl) ?_
        refine lv_bipush (v := (nI (10))) hx hb dX3_highestOfPair_38 (by decide) ?_
        refine j_divN hx hb (by omega) (by omega) (by omega) dX3_highestOfPair_40 ?_
        refine lv_goto (tgt := 48) hx hb dX3_highestOfPair_41 (by decide) ?_
        refine j_iret hx hb hr hlocks hH hw dX3_highestOfPair_48 ?_
        first | exact absurd c34 (by omega) | exact ⟨_, rfl, rfl, by unfold hop; rw [if_neg (by first | exact fun q => absurd q.1 (by omega) | exact fun q => absurd q.2 (Int32.not_lt.mpr c14))]; first | rw [if_neg (by omega)] | rw [if_pos (by omega)]⟩
    · refine lv_iconst (v := (nI (1))) hx hb dX3_highestOfPair_17 (by decide) ?_
      refine lv_goto (tgt := 22) hx hb dX3_highestOfPair_18 (by decide) ?_
      refine lv_istore (lv' := [(4, .int _), (0, .ref _), (1, .int _), (2, .int _), (3, .int _)]) hx hb dX3_highestOfPair_22 hl (by decide) rfl (fun ls hl => ?_)
      refine lv_iload hx hb dX3_highestOfPair_24 (lv_at hl 0 rfl) ?_
      refine jz_eq (tgt := 32) hx hb dX3_highestOfPair_26 (by decide) (by omega) (fun c26 => absurd c26 (by omega)) (fun c26 => ?_)
      refine lv_bipush (v := (nI (9))) hx hb dX3_highestOfPair_29 (by decide) ?_
      refine j_iret hx hb hr hlocks hH hw dX3_highestOfPair_31 ?_
      exact ⟨_, rfl, rfl, by unfold hop; rw [if_pos ⟨by omega, Int32.not_le.mp c14⟩]⟩

abbrev q_X3_highestDigit (g : jG) (H0 : Heap) (a : Nat) (sp : Nat) (i : Nat) (tx : List Nat) : Option Value → Heap → Prop := jN (fun r H1 => H1 = H0 ∧ (r = nI (hgd tx sp i)))
set_option maxHeartbeats 4000000 in
set_option maxRecDepth 100000 in
theorem c_X3_highestDigit (l : Launch) (g : jG) (z : Nat) (H0 : Heap) (a : Nat) (sp : Nat) (i : Nat) (tx : List Nat) (hz : z ≤ a) (hT : jTe g H0 a tx) (hi : sp < 2 ^ 19) (hi1 : 1 ≤ i) (hi5 : i ≤ 5) : jM l g z yX3_highestDigit wsX3_highestDigit 3 66 [.ref a, .int (nI (sp)), .int (nI (i))] H0 (q_X3_highestDigit g H0 a sp i tx) := by
  refine j_of (cc := cX3_highestDigit) (n := 3) (ret := some .int) (by decide) rfl (Nat.le_of_ble_eq_true rfl) ?_
  intro p e s m below meth c hx hb hr hml hown hts hlocks hname hH hw ls hl
  have hl : lv_has ls 3 [(0, .ref a), (1, .int (nI (sp))), (2, .int (nI (i)))] := hl
  obtain ⟨hO, h120, sc, hC, hsc⟩ := id hT
  have htk := hsc.ok
  refine lv_aload_n hx hb dX3_highestDigit_0 rfl (lv_at hl 0 rfl) ?_
  refine lv_iload_n hx hb dX3_highestDigit_1 rfl (lv_at hl 1 rfl) ?_
  refine j_Vp (n := 1) (As := [.int (nI (sp))]) hx hb hml hown hts hw (j_recv hw hO rfl) (c_X3_signAt l g z H0 a (sp) tx hz hT (by first | assumption | omega)) gX3_highestDigit_X3_signAt rfl (by decide +kernel) ⟨Nat.le_of_ble_eq_true rfl, Nat.le_of_ble_eq_true rfl⟩ rfl hl.1 (Nat.le_of_ble_eq_true rfl) ⟨Nat.zero_le _, Nat.zero_le _⟩ dX3_highestDigit_2 (fun r1 locs hr1 hw => ?_) rfl
  obtain rfl : r1 = (sgA tx (sp)) := hr1
  refine lv_bipush (v := (nI (99))) hx hb dX3_highestDigit_5 (by decide) ?_
  refine lv_icmp_ne (tgt := 21) hx hb dX3_highestDigit_7 (by decide) (fun c7 => ?_) (fun c7 => ?_)
  · refine lv_aload_n hx hb dX3_highestDigit_21 rfl (lv_at hl 0 rfl) ?_
    refine lv_iload_n hx hb dX3_highestDigit_22 rfl (lv_at hl 1 rfl) ?_
    refine j_Vp (n := 1) (As := [.int (nI (sp))]) hx hb hml hown hts hw (j_recv hw hO rfl) (c_X3_signAt l g z H0 a (sp) tx hz hT (by first | assumption | omega)) gX3_highestDigit_X3_signAt rfl (by decide +kernel) ⟨Nat.le_of_ble_eq_true rfl, Nat.le_of_ble_eq_true rfl⟩ rfl hl.1 (Nat.le_of_ble_eq_true rfl) ⟨Nat.zero_le _, Nat.zero_le _⟩ dX3_highestDigit_23 (fun r2 locs hr2 hw => ?_) rfl
    obtain rfl : r2 = (sgA tx (sp)) := hr2
    refine lv_bipush (v := (nI (110))) hx hb dX3_highestDigit_26 (by decide) ?_
    refine lv_icmp_ne (tgt := 34) hx hb dX3_highestDigit_28 (by decide) (fun c28 => ?_) (fun c28 => ?_)
    · have hw9 : i = 1 ∨ i = 2 ∨ i = 3 ∨ i = 4 ∨ i = 5 := by omega
      rcases hw9 with hw9 | hw9 | hw9 | hw9 | hw9
      · rw [hw9] at hl
        refine lv_iload_n hx hb dX3_highestDigit_34 rfl (lv_at hl 2 rfl) ?_
        refine lv_tableIn (tgt := 64) hx hb dX3_highestDigit_35 (by decide) (by decide) (off := 29) (by decide) (by decide) ?_
        refine lv_iconst (v := (nI (3))) hx hb dX3_highestDigit_64 (by decide) ?_
        refine j_iret hx hb hr hlocks hH hw dX3_highestDigit_65 ?_
        exact ⟨_, rfl, rfl, by unfold hgd; rw [if_neg (fun q => c7 ((sg_eq htk (by omega)).mpr q)), if_neg (fun q => c28 ((sg_eq htk (by omega)).mpr q)), hw9]; rfl⟩
      · rw [hw9] at hl
        refine lv_iload_n hx hb dX3_highestDigit_34 rfl (lv_at hl 2 rfl) ?_
        refine lv_tableIn (tgt := 66) hx hb dX3_highestDigit_35 (by decide) (by decide) (off := 31) (by decide) (by decide) ?_
        refine lv_aload_n hx hb dX3_highestDigit_66 rfl (lv_at hl 0 rfl) ?_
        refine lv_iload_n hx hb dX3_highestDigit_67 rfl (lv_at hl 1 rfl) ?_
        refine lv_iconst (v := (nI (2))) hx hb dX3_highestDigit_68 (by decide) ?_
        refine j_addN hx hb dX3_highestDigit_69 ?_
        refine lv_iload_n hx hb dX3_highestDigit_70 rfl (lv_at hl 2 rfl) ?_
        refine lv_iconst (v := (nI (1))) hx hb dX3_highestDigit_71 (by decide) ?_
        refine j_subN hx hb (by omega) dX3_highestDigit_72 ?_
        refine lv_bipush (v := (nI (15))) hx hb dX3_highestDigit_73 (by decide) ?_
        refine j_Vp (n := 3) (As := [.int (nI ((sp + 2))), .int (nI ((2 - 1))), .int (nI (15))]) hx hb hml hown hts hw (j_recv hw hO rfl) (c_X3_highestOfPair l g z H0 a ((sp + 2)) ((2 - 1)) (15) tx hz hT (by first | assumption | omega) (by first | assumption | omega) (by first | assumption | omega)) gX3_highestDigit_X3_highestOfPair rfl (by decide +kernel) ⟨Nat.le_of_ble_eq_true rfl, Nat.le_of_ble_eq_true rfl⟩ rfl hl.1 (Nat.le_of_ble_eq_true rfl) ⟨Nat.zero_le _, Nat.zero_le _⟩ dX3_highestDigit_75 (fun r3 locs hr3 hw => ?_) rfl
        obtain rfl : r3 = (nI (hop tx ((sp + 2)) ((2 - 1)) (15))) := hr3
        refine j_iret hx hb hr hlocks hH hw dX3_highestDigit_78 ?_
        exact ⟨_, rfl, rfl, by unfold hgd; rw [if_neg (fun q => c7 ((sg_eq htk (by omega)).mpr q)), if_neg (fun q => c28 ((sg_eq htk (by omega)).mpr q)), hw9]; rfl⟩
      · rw [hw9] at hl
        refine lv_iload_n hx hb dX3_highestDigit_34 rfl (lv_at hl 2 rfl) ?_
        refine lv_tableIn (tgt := 66) hx hb dX3_highestDigit_35 (by decide) (by decide) (off := 31) (by decide) (by decide) ?_
        refine lv_aload_n hx hb dX3_highestDigit_66 rfl (lv_at hl 0 rfl) ?_
        refine lv_iload_n hx hb dX3_highestDigit_67 rfl (lv_at hl 1 rfl) ?_
        refine lv_iconst (v := (nI (2))) hx hb dX3_highestDigit_68 (by decide) ?_
        refine j_addN hx hb dX3_highestDigit_69 ?_
        refine lv_iload_n hx hb dX3_highestDigit_70 rfl (lv_at hl 2 rfl) ?_
        refine lv_iconst (v := (nI (1))) hx hb dX3_highestDigit_71 (by decide) ?_
        refine j_subN hx hb (by omega) dX3_highestDigit_72 ?_
        refine lv_bipush (v := (nI (15))) hx hb dX3_highestDigit_73 (by decide) ?_
        refine j_Vp (n := 3) (As := [.int (nI ((sp + 2))), .int (nI ((3 - 1))), .int (nI (15))]) hx hb hml hown hts hw (j_recv hw hO rfl) (c_X3_highestOfPair l g z H0 a ((sp + 2)) ((3 - 1)) (15) tx hz hT (by first | assumption | omega) (by first | assumption | omega) (by first | assumption | omega)) gX3_highestDigit_X3_highestOfPair rfl (by decide +kernel) ⟨Nat.le_of_ble_eq_true rfl, Nat.le_of_ble_eq_true rfl⟩ rfl hl.1 (Nat.le_of_ble_eq_true rfl) ⟨Nat.zero_le _, Nat.zero_le _⟩ dX3_highestDigit_75 (fun r4 locs hr4 hw => ?_) rfl
        obtain rfl : r4 = (nI (hop tx ((sp + 2)) ((3 - 1)) (15))) := hr4
        refine j_iret hx hb hr hlocks hH hw dX3_highestDigit_78 ?_
        exact ⟨_, rfl, rfl, by unfold hgd; rw [if_neg (fun q => c7 ((sg_eq htk (by omega)).mpr q)), if_neg (fun q => c28 ((sg_eq htk (by omega)).mpr q)), hw9]; rfl⟩
      · rw [hw9] at hl
        refine lv_iload_n hx hb dX3_highestDigit_34 rfl (lv_at hl 2 rfl) ?_
        refine lv_tableIn (tgt := 79) hx hb dX3_highestDigit_35 (by decide) (by decide) (off := 44) (by decide) (by decide) ?_
        refine lv_bipush (v := (nI (7))) hx hb dX3_highestDigit_79 (by decide) ?_
        refine j_iret hx hb hr hlocks hH hw dX3_highestDigit_81 ?_
        exact ⟨_, rfl, rfl, by unfold hgd; rw [if_neg (fun q => c7 ((sg_eq htk (by omega)).mpr q)), if_neg (fun q => c28 ((sg_eq htk (by omega)).mpr q)), hw9]; rfl⟩
      · rw [hw9] at hl
        refine lv_iload_n hx hb dX3_highestDigit_34 rfl (lv_at hl 2 rfl) ?_
        refine lv_tableOut (tgt := 82) hx hb dX3_highestDigit_35 (Or.inr (by decide)) (by decide) ?_
        refine lv_bipush (v := (nI (9))) hx hb dX3_highestDigit_82 (by decide) ?_
        refine j_iret hx hb hr hlocks hH hw dX3_highestDigit_84 ?_
        exact ⟨_, rfl, rfl, by unfold hgd; rw [if_neg (fun q => c7 ((sg_eq htk (by omega)).mpr q)), if_neg (fun q => c28 ((sg_eq htk (by omega)).mpr q)), hw9]; rfl⟩
    · refine lv_bipush (v := (nI (9))) hx hb dX3_highestDigit_31 (by decide) ?_
      refine j_iret hx hb hr hlocks hH hw dX3_highestDigit_33 ?_
      exact ⟨_, rfl, rfl, by unfold hgd; rw [if_neg (fun q => c7 ((sg_eq htk (by omega)).mpr q)), if_pos ((sg_eq htk (by omega)).mp c28)]⟩
  · refine lv_aload_n hx hb dX3_highestDigit_10 rfl (lv_at hl 0 rfl) ?_
    refine lv_iload_n hx hb dX3_highestDigit_11 rfl (lv_at hl 1 rfl) ?_
    refine lv_iconst (v := (nI (1))) hx hb dX3_highestDigit_12 (by decide) ?_
    refine j_addN hx hb dX3_highestDigit_13 ?_
    refine lv_iload_n hx hb dX3_highestDigit_14 rfl (lv_at hl 2 rfl) ?_
    refine lv_bipush (v := (nI (19))) hx hb dX3_highestDigit_15 (by decide) ?_
    refine j_Vp (n := 3) (As := [.int (nI ((sp + 1))), .int (nI (i)), .int (nI (19))]) hx hb hml hown hts hw (j_recv hw hO rfl) (c_X3_highestOfPair l g z H0 a ((sp + 1)) (i) (19) tx hz hT (by first | assumption | omega) (by first | assumption | omega) (by first | assumption | omega)) gX3_highestDigit_X3_highestOfPair rfl (by decide +kernel) ⟨Nat.le_of_ble_eq_true rfl, Nat.le_of_ble_eq_true rfl⟩ rfl hl.1 (Nat.le_of_ble_eq_true rfl) ⟨Nat.zero_le _, Nat.zero_le _⟩ dX3_highestDigit_17 (fun r5 locs hr5 hw => ?_) rfl
    obtain rfl : r5 = (nI (hop tx ((sp + 1)) (i) (19))) := hr5
    refine j_iret hx hb hr hlocks hH hw dX3_highestDigit_20 ?_
    exact ⟨_, rfl, rfl, by unfold hgd; rw [if_pos ((sg_eq htk (by omega)).mp c7)]⟩

abbrev q_X3_wrongInCommand (g : jG) (H0 : Heap) (a : Nat) (sp : Nat) (tx : List Nat) : Option Value → Heap → Prop := jN (fun r H1 => H1 = H0 ∧ (r = wic tx sp))
set_option maxHeartbeats 4000000 in
set_option maxRecDepth 100000 in
theorem c_X3_wrongInCommand (l : Launch) (g : jG) (z : Nat) (H0 : Heap) (a : Nat) (sp : Nat) (tx : List Nat) (hz : z ≤ a) (hT : jTe g H0 a tx) (hi : sp < 2 ^ 18) : jM l g z yX3_wrongInCommand wsX3_wrongInCommand 4 88 [.ref a, .int (nI (sp))] H0 (q_X3_wrongInCommand g H0 a sp tx) := by
  refine j_of (cc := cX3_wrongInCommand) (n := 5) (ret := some .int) (by decide) rfl (Nat.le_of_ble_eq_true rfl) ?_
  intro p e s m below meth c hx hb hr hml hown hts hlocks hname hH hw ls hl
  have hl : lv_has ls 5 [(0, .ref a), (1, .int (nI (sp)))] := hl
  obtain ⟨hO, h120, sc, hC, hsc⟩ := id hT
  have htk := hsc.ok
  have hdl := dgs_le (tx := tx) (sp := sp)
  have hlw := lwd_le (tx := tx) (sp := sp)
  refine lv_aload_n hx hb dX3_wrongInCommand_0 rfl (lv_at hl 0 rfl) ?_
  refine lv_iload_n hx hb dX3_wrongInCommand_1 rfl (lv_at hl 1 rfl) ?_
  refine j_Vp (n := 1) (As := [.int (nI (sp))]) hx hb hml hown hts hw (j_recv hw hO rfl) (c_X3_digitsOfCommand l g z H0 a (sp) tx hz hT (by first | assumption | omega)) gX3_wrongInCommand_X3_digitsOfCommand rfl (by decide +kernel) ⟨Nat.le_of_ble_eq_true rfl, Nat.le_of_ble_eq_true rfl⟩ rfl hl.1 (Nat.le_of_ble_eq_true rfl) ⟨Nat.zero_le _, Nat.zero_le _⟩ dX3_wrongInCommand_2 (fun r1 locs hr1 hw => ?_) rfl
  obtain rfl : r1 = (nI (dgs tx (sp))) := hr1
  refine lv_istore_n (lv' := [(2, .int _), (0, .ref _), (1, .int _)]) hx hb dX3_wrongInCommand_5 rfl hl (by decide) rfl (fun ls hl => ?_)
  refine lv_iload_n hx hb dX3_wrongInCommand_6 rfl (lv_at hl 0 rfl) ?_
  refine jz_ne (tgt := 12) hx hb dX3_wrongInCommand_7 (by decide) (by omega) (fun c7 => ?_) (fun c7 => ?_)
  · refine lv_iconst (v := (nI (1))) hx hb dX3_wrongInCommand_12 (by decide) ?_
    refine lv_istore_n (lv' := [(3, .int _), (2, .int _), (0, .ref _), (1, .int _)]) hx hb dX3_wrongInCommand_13 rfl hl (by decide) rfl (fun ls hl => ?_)
    have lp14 : ∀ (n14 : Nat) (i : Nat) (hi1 : 1 ≤ i) (hi6 : i ≤ dgs tx sp + 1) (hb9 : ∀ j, 1 ≤ j → j < i → ¬ badD tx sp j) (hmu14 : dgs tx sp + 1 - i < n14) (locs : List Loc) (hw : jW g z s H0 locs) (ls : Array Slot) (hl : lv_has ls 5 [(0, .ref a), (1, .int (nI (sp))), (2, .int (nI (dgs tx sp))), (3, .int (nI (i)))]), jK p l e 4 88 s m [.ref a, .int (nI (sp))] below meth c z H0 (q_X3_wrongInCommand g H0 a sp tx) H0 locs (F0 m 14 ls []) := by
      intro n14
      induction n14 with
      | zero => intros; omega
      | succ n14 ih14 =>
        intro i hi1 hi6 hb9 hmu14 locs hw  ls hl
        refine lv_iload_n hx hb dX3_wrongInCommand_14 rfl (lv_at hl 3 rfl) ?_
        refine lv_iload_n hx hb dX3_wrongInCommand_15 rfl (lv_at hl 2 rfl) ?_
        refine jn_gt (tgt := 59) hx hb dX3_wrongInCommand_16 (by decide) (by omega) (by omega) (fun c16 => ?_) (fun c16 => ?_)
        · refine lv_iconst (v := (-1)) hx hb dX3_wrongInCommand_59 (by decide) ?_
          refine j_iret hx hb hr hlocks hH hw dX3_wrongInCommand_60 ?_
          exact ⟨_, rfl, rfl, (wic_good htk c7 (fun j h1 h2 => hb9 j h1 (by omega))).symm⟩
        · refine lv_aload_n hx hb dX3_wrongInCommand_19 rfl (lv_at hl 0 rfl) ?_
          refine lv_iload_n hx hb dX3_wrongInCommand_20 rfl (lv_at hl 1 rfl) ?_
          refine lv_iload_n hx hb dX3_wrongInCommand_21 rfl (lv_at hl 3 rfl) ?_
          refine j_addN hx hb dX3_wrongInCommand_22 ?_
          refine j_Vp (n := 1) (As := [.int (nI ((sp + i)))]) hx hb hml hown hts hw (j_recv hw hO rfl) (c_X3_digitAt l g z H0 a ((sp + i)) tx hz hT (by first | assumption | omega)) gX3_wrongInCommand_X3_digitAt rfl (by decide +kernel) ⟨Nat.le_of_ble_eq_true rfl, Nat.le_of_ble_eq_true rfl⟩ rfl hl.1 (Nat.le_of_ble_eq_true rfl) ⟨Nat.zero_le _, Nat.zero_le _⟩ dX3_wrongInCommand_23 (fun r2 locs hr2 hw => ?_) rfl
          obtain rfl : r2 = (dgA tx ((sp + i))) := hr2
          refine lv_istore (lv' := [(4, .int _), (0, .ref _), (1, .int _), (2, .int _), (3, .int _)]) hx hb dX3_wrongInCommand_26 hl (by decide) rfl (fun ls hl => ?_)
          refine lv_iload hx hb dX3_wrongInCommand_28 (lv_at hl 0 rfl) ?_
          refine lv_aload_n hx hb dX3_wrongInCommand_30 rfl (lv_at hl 1 rfl) ?_
          refine lv_iload_n hx hb dX3_wrongInCommand_31 rfl (lv_at hl 2 rfl) ?_
          refine j_Vp (n := 1) (As := [.int (nI (sp))]) hx hb hml hown hts hw (j_recv hw hO rfl) (c_X3_lowestDigit l g z H0 a (sp) tx hz hT (by first | assumption | omega)) gX3_wrongInCommand_X3_lowestDigit rfl (by decide +kernel) ⟨Nat.le_of_ble_eq_true rfl, Nat.le_of_ble_eq_true rfl⟩ rfl hl.1 (Nat.le_of_ble_eq_true rfl) ⟨Nat.zero_le _, Nat.zero_le _⟩ dX3_wrongInCommand_32 (fun r3 locs hr3 hw => ?_) rfl
          obtain rfl : r3 = (nI (lwd tx (sp))) := hr3
          refine lv_icmp_lt (tgt := 49) hx hb dX3_wrongInCommand_35 (by decide) (fun c35 => ?_) (fun c35 => ?_)
          · refine lv_iload_n hx hb dX3_wrongInCommand_49 rfl (lv_at hl 2 rfl) ?_
            refine lv_iload_n hx hb dX3_wrongInCommand_50 rfl (lv_at hl 4 rfl) ?_
            refine j_addN hx hb dX3_wrongInCommand_51 ?_
            refine j_iret hx hb hr hlocks hH hw dX3_wrongInCommand_52 ?_
            exact ⟨_, rfl, rfl, (wic_bad htk hi1 (by omega) hb9 (by first | exact Or.inl c35 | exact Or.inr (Int32.not_le.mp c46))).symm⟩
          · refine lv_iload hx hb dX3_wrongInCommand_38 (lv_at hl 0 rfl) ?_
            refine lv_aload_n hx hb dX3_wrongInCommand_40 rfl (lv_at hl 1 rfl) ?_
            refine lv_iload_n hx hb dX3_wrongInCommand_41 rfl (lv_at hl 2 rfl) ?_
            refine lv_iload_n hx hb dX3_wrongInCommand_42 rfl (lv_at hl 4 rfl) ?_
            refine j_Vp (n := 2) (As := [.int (nI (sp)), .int (nI (i))]) hx hb hml hown hts hw (j_recv hw hO rfl) (c_X3_highestDigit l g z H0 a (sp) (i) tx hz hT (by first | assumption | omega) (by first | assumption | omega) (by first | assumption | omega)) gX3_wrongInCommand_X3_highestDigit rfl (by decide +kernel) ⟨Nat.le_of_ble_eq_true rfl, Nat.le_of_ble_eq_true rfl⟩ rfl hl.1 (Nat.le_of_ble_eq_true rfl) ⟨Nat.zero_le _, Nat.zero_le _⟩ dX3_wrongInCommand_43 (fun r4 locs hr4 hw => ?_) rfl
            obtain rfl : r4 = (nI (hgd tx (sp) (i))) := hr4
            have hhg := hgd_le (tx := tx) (sp := sp) (i := i)
            refine lv_icmp_le (tgt := 53) hx hb dX3_wrongInCommand_46 (by decide) (fun c46 => ?_) (fun c46 => ?_)
            · refine lv_iinc (v := nI (i + 1)) (lv' := [(3, .int _), (4, .int _), (0, .ref _), (1, .int _), (2, .int _)]) hx hb dX3_wrongInCommand_53 hl (k := 4) rfl (nI_add _ 1) (by decide) rfl (fun ls hl => ?_)
              refine lv_goto (tgt := 14) hx hb dX3_wrongInCommand_56 (by decide) ?_
              exact ih14  (i + 1) (by first | assumption | omega) (by first | assumption | omega) (fun j h1 h2 => by rcases Nat.lt_or_eq_of_le (Nat.lt_succ_iff.mp h2) with q | q; exact hb9 j h1 q; subst q; exact fun z => z.elim (fun z => c35 z) (fun z => absurd z (Int32.not_lt.mpr c46))) (by omega) _ hw _ (lv_sub hl [2, 3, 4, 0] rfl)
            · refine lv_iload_n hx hb dX3_wrongInCommand_49 rfl (lv_at hl 2 rfl) ?_
              refine lv_iload_n hx hb dX3_wrongInCommand_50 rfl (lv_at hl 4 rfl) ?_
              refine j_addN hx hb dX3_wrongInCommand_51 ?_
              refine j_iret hx hb hr hlocks hH hw dX3_wrongInCommand_52 ?_
              exact ⟨_, rfl, rfl, (wic_bad htk hi1 (by omega) hb9 (by first | exact Or.inl c35 | exact Or.inr (Int32.not_le.mp c46))).symm⟩
    exact lp14 (dgs tx sp + 1 - (1) + 1) (1) (by first | assumption | omega) (by first | assumption | omega) (fun j h1 h2 => by omega) (by omega) _ hw _ (lv_sub hl [2, 3, 1, 0] rfl)
  · refine lv_iload_n hx hb dX3_wrongInCommand_10 rfl (lv_at hl 2 rfl) ?_
    refine j_iret hx hb hr hlocks hH hw dX3_wrongInCommand_11 ?_
    exact ⟨_, rfl, rfl, (wic_0 c7).symm⟩

abbrev q_X3_wrongInHead (g : jG) (H0 : Heap) (a : Nat) (tx : List Nat) : Option Value → Heap → Prop := jN (fun r H1 => H1 = H0 ∧ (r = wih tx))
set_option maxHeartbeats 4000000 in
set_option maxRecDepth 100000 in
theorem c_X3_wrongInHead (l : Launch) (g : jG) (z : Nat) (H0 : Heap) (a : Nat) (tx : List Nat) (hz : z ≤ a) (hT : jTe g H0 a tx) : jM l g z yX3_wrongInHead wsX3_wrongInHead 2 42 [.ref a] H0 (q_X3_wrongInHead g H0 a tx) := by
  refine j_of (cc := cX3_wrongInHead) (n := 2) (ret := some .int) (by decide) rfl (Nat.le_of_ble_eq_true rfl) ?_
  intro p e s m below meth c hx hb hr hml hown hts hlocks hname hH hw ls hl
  have hl : lv_has ls 2 [(0, .ref a)] := hl
  obtain ⟨hO, h120, sc, hC, hsc⟩ := id hT
  have htk := hsc.ok
  refine lv_aload_n hx hb dX3_wrongInHead_0 rfl (lv_at hl 0 rfl) ?_
  refine lv_iconst (v := (nI (0))) hx hb dX3_wrongInHead_1 (by decide) ?_
  refine j_Vp (n := 1) (As := [.int (nI (0))]) hx hb hml hown hts hw (j_recv hw hO rfl) (c_X3_signAt l g z H0 a (0) tx hz hT (by first | assumption | omega)) gX3_wrongInHead_X3_signAt rfl (by decide +kernel) ⟨Nat.le_of_ble_eq_true rfl, Nat.le_of_ble_eq_true rfl⟩ rfl hl.1 (Nat.le_of_ble_eq_true rfl) ⟨Nat.zero_le _, Nat.zero_le _⟩ dX3_wrongInHead_2 (fun r1 locs hr1 hw => ?_) rfl
  obtain rfl : r1 = (sgA tx (0)) := hr1
  refine lv_bipush (v := (nI (68))) hx hb dX3_wrongInHead_5 (by decide) ?_
  refine lv_icmp_eq (tgt := 12) hx hb dX3_wrongInHead_7 (by decide) (fun c7 => ?_) (fun c7 => ?_)
  · refine lv_iconst (v := (nI (0))) hx hb dX3_wrongInHead_12 (by decide) ?_
    refine lv_istore_n (lv' := [(1, .int _), (0, .ref _)]) hx hb dX3_wrongInHead_13 rfl hl (by decide) rfl (fun ls hl => ?_)
    have lp14 : ∀ (n14 : Nat) (k : Nat) (hk : k ≤ 5) (hHd : ∃ σ, hdS tx k = (1 + k, true, σ)) (hmu14 : 5 - k < n14) (locs : List Loc) (hw : jW g z s H0 locs) (ls : Array Slot) (hl : lv_has ls 2 [(0, .ref a), (1, .int (nI (k)))]), jK p l e 2 42 s m [.ref a] below meth c z H0 (q_X3_wrongInHead g H0 a tx) H0 locs (F0 m 14 ls []) := by
      intro n14
      induction n14 with
      | zero => intros; omega
      | succ n14 ih14 =>
        intro k hk hHd hmu14 locs hw  ls hl
        refine lv_iload_n hx hb dX3_wrongInHead_14 rfl (lv_at hl 1 rfl) ?_
        refine lv_iconst (v := (nI (5))) hx hb dX3_wrongInHead_15 (by decide) ?_
        refine jn_ge (tgt := 43) hx hb dX3_wrongInHead_16 (by decide) (by omega) (by omega) (fun c16 => ?_) (fun c16 => ?_)
        · obtain rfl : k = 5 := by omega
          refine lv_iconst (v := (-1)) hx hb dX3_wrongInHead_43 (by decide) ?_
          refine j_iret hx hb hr hlocks hH hw dX3_wrongInHead_44 ?_
          exact ⟨_, rfl, rfl, (hHd.elim (fun σ q => wih_good q)).symm⟩
        · refine lv_iload_n hx hb dX3_wrongInHead_19 rfl (lv_at hl 1 rfl) ?_
          refine lv_aload_n hx hb dX3_wrongInHead_20 rfl (lv_at hl 0 rfl) ?_
          refine lv_iconst (v := (nI (1))) hx hb dX3_wrongInHead_21 (by decide) ?_
          refine lv_iload_n hx hb dX3_wrongInHead_22 rfl (lv_at hl 1 rfl) ?_
          refine j_addN hx hb dX3_wrongInHead_23 ?_
          refine j_Vp (n := 1) (As := [.int (nI ((1 + k)))]) hx hb hml hown hts hw (j_recv hw hO rfl) (c_X3_digitAt l g z H0 a ((1 + k)) tx hz hT (by first | assumption | omega)) gX3_wrongInHead_X3_digitAt rfl (by decide +kernel) ⟨Nat.le_of_ble_eq_true rfl, Nat.le_of_ble_eq_true rfl⟩ rfl hl.1 (Nat.le_of_ble_eq_true rfl) ⟨Nat.zero_le _, Nat.zero_le _⟩ dX3_wrongInHead_24 (fun r2 locs hr2 hw => ?_) rfl
          obtain rfl : r2 = (dgA tx ((1 + k))) := hr2
          refine j_SNp (n := 2) (As := [.int (nI (k)), .int (dgA tx ((1 + k)))]) hx hb hml hown hts hw (c_X4_isSettingValue l g z H0 (nI (k)) (dgA tx ((1 + k)))   ) gX3_wrongInHead_X4_isSettingValue_n40 (host := RX4) (by decide +kernel) (by decide +kernel) (by decide +kernel) rfl (by decide +kernel) ⟨Nat.le_of_ble_eq_true rfl, Nat.le_of_ble_eq_true rfl⟩ rfl hl.1 (Nat.le_of_ble_eq_true rfl) ⟨Nat.zero_le _, Nat.zero_le _⟩ dX3_wrongInHead_27 (fun r3 locs hr3 hw => ?_) rfl
          rcases hr3 with ⟨rfl, k9, u9, -, hk9, hkk, hu9, -⟩ | ⟨rfl, hno⟩
          · obtain rfl : k = k9 := (nI_eq (by omega) (by omega)).mp hkk
            have hd9 : dgt tx (1 + k) (loS k) (hiS k) = some u9 := (dgt_ix htk (loS_hiS hk9).2).trans hu9
            refine jz_ne (tgt := 37) hx hb dX3_wrongInHead_30 (by decide) (by omega) (fun c30 => ?_) (fun c30 => absurd c30 (by omega))
            refine lv_iinc (v := nI (k + 1)) (lv' := [(1, .int _), (0, .ref _)]) hx hb dX3_wrongInHead_37 hl (k := 1) rfl (nI_add _ 1) (by decide) rfl (fun ls hl => ?_)
            refine lv_goto (tgt := 14) hx hb dX3_wrongInHead_40 (by decide) ?_
            exact ih14  (k + 1) (by first | assumption | omega) (hHd.elim (fun σ q => hdS_gd q hd9)) (by omega) _ hw _ (lv_sub hl [1, 0] rfl)
          · have hd9 : dgt tx (1 + k) (loS k) (hiS k) = none := by
              rcases hno with q | ⟨k9, q1, q2⟩
              · rw [ix_nI (Nat.zero_le _) (by omega) (by decide)] at q; cases q
              · rw [ix_nI (Nat.zero_le _) (show k < 5 by omega) (by decide)] at q1; cases q1; exact (dgt_ix htk (loS_hiS (by omega)).2).trans q2
            refine jz_ne (tgt := 37) hx hb dX3_wrongInHead_30 (by decide) (by omega) (fun c30 => absurd c30 (by omega)) (fun c30 => ?_)
            refine lv_iconst (v := (nI (1))) hx hb dX3_wrongInHead_33 (by decide) ?_
            refine lv_iload_n hx hb dX3_wrongInHead_34 rfl (lv_at hl 1 rfl) ?_
            refine j_addN hx hb dX3_wrongInHead_35 ?_
            refine j_iret hx hb hr hlocks hH hw dX3_wrongInHead_36 ?_
            exact ⟨_, rfl, rfl, (hHd.elim (fun σ q => wih_bad (by omega) q hd9)).symm⟩
    exact lp14 (5 - (0) + 1) (0) (by first | assumption | omega) ⟨S0, if_pos ((sg_eq htk (by omega)).mp c7)⟩ (by omega) _ hw _ (lv_sub hl [1, 0] rfl)
  · refine lv_iconst (v := (nI (0))) hx hb dX3_wrongInHead_10 (by decide) ?_
    refine j_iret hx hb hr hlocks hH hw dX3_wrongInHead_11 ?_
    exact ⟨_, rfl, rfl, (wih_0 (fun q => c7 ((sg_eq htk (by omega)).mpr q))).symm⟩

abbrev q_X3_firstWrong (g : jG) (H0 : Heap) (a : Nat) (tx : List Nat) : Option Value → Heap → Prop := jN (fun r H1 => H1 = H0 ∧ (r = fErr tx))
set_option maxHeartbeats 4000000 in
set_option maxRecDepth 100000 in
theorem c_X3_firstWrong (l : Launch) (g : jG) (z : Nat) (H0 : Heap) (a : Nat) (tx : List Nat) (hz : z ≤ a) (hT : jTe g H0 a tx) : jM l g z yX3_firstWrong wsX3_firstWrong 5 112 [.ref a] H0 (q_X3_firstWrong g H0 a tx) := by
  refine j_of (cc := cX3_firstWrong) (n := 3) (ret := some .int) (by decide) rfl (Nat.le_of_ble_eq_true rfl) ?_
  intro p e s m below meth c hx hb hr hml hown hts hlocks hname hH hw ls hl
  have hl : lv_has ls 3 [(0, .ref a)] := hl
  have hinX3 : ∀ w ∈ u_ws RX3 TX3 2, w ∈ wsX3_firstWrong := by decide +kernel
  obtain ⟨hO, h120, sc, hC, hsc⟩ := id hT
  have htk := hsc.ok
  refine lv_aload_n hx hb dX3_firstWrong_0 rfl (lv_at hl 0 rfl) ?_
  refine j_Vp (n := 0) (As := []) hx hb hml hown hts hw (j_recv hw hO rfl) (c_X3_wrongInHead l g z H0 a tx hz hT ) gX3_firstWrong_X3_wrongInHead rfl (by decide +kernel) ⟨Nat.le_of_ble_eq_true rfl, Nat.le_of_ble_eq_true rfl⟩ rfl hl.1 (Nat.le_of_ble_eq_true rfl) ⟨Nat.zero_le _, Nat.zero_le _⟩ dX3_firstWrong_1 (fun r1 locs hr1 hw => ?_) rfl
  obtain rfl : r1 = (wih tx) := hr1
  refine lv_istore_n (lv' := [(1, .int _), (0, .ref _)]) hx hb dX3_firstWrong_4 rfl hl (by decide) rfl (fun ls hl => ?_)
  refine lv_bipush (v := (nI (6))) hx hb dX3_firstWrong_5 (by decide) ?_
  refine lv_istore_n (lv' := [(2, .int _), (1, .int _), (0, .ref _)]) hx hb dX3_firstWrong_7 rfl hl (by decide) rfl (fun ls hl => ?_)
  have lp8 : ∀ (n8 : Nat) (w9 : Int32) (p9 : Nat) (hG : fwI tx w9 p9) (hp : p9 ≤ 200) (hmu8 : 300 - p9 < n8) (locs : List Loc) (hw : jW g z s H0 locs) (ls : Array Slot) (hl : lv_has ls 3 [(0, .ref a), (1, .int w9), (2, .int (nI (p9)))]), jK p l e 5 112 s m [.ref a] below meth c z H0 (q_X3_firstWrong g H0 a tx) H0 locs (F0 m 8 ls []) := by
    intro n8
    induction n8 with
    | zero => intros; omega
    | succ n8 ih8 =>
      intro w9 p9 hG hp hmu8 locs hw  ls hl
      refine lv_iload_n hx hb dX3_firstWrong_8 rfl (lv_at hl 2 rfl) ?_
      refine lv_aload_n hx hb dX3_firstWrong_9 rfl (lv_at hl 0 rfl) ?_
      refine j_get (T := TX3) (N := 2) (k := 1) hx hb hts hinX3 hown hw hO rfl (by decide) (hts (.fieldLink RX3 15 "NightTrains$Text" "length" "I") (by decide +kernel)) rfl dX3_firstWrong_10 ?_
      refine jn_ge (tgt := 40) hx hb dX3_firstWrong_13 (by decide) (by omega) (by omega) (fun c13 => ?_) (fun c13 => ?_)
      · refine lv_iload_n hx hb dX3_firstWrong_40 rfl (lv_at hl 1 rfl) ?_
        refine j_iret hx hb hr hlocks hH hw dX3_firstWrong_41 ?_
        exact ⟨_, rfl, rfl, by first | exact fw_end hG (by omega) | exact fw_out hG c18⟩
      · have hdl := dgs_le (tx := tx) (sp := p9)
        refine lv_iload_n hx hb dX3_firstWrong_16 rfl (lv_at hl 1 rfl) ?_
        refine lv_iconst (v := (-1)) hx hb dX3_firstWrong_17 (by decide) ?_
        refine lv_icmp_ne (tgt := 40) hx hb dX3_firstWrong_18 (by decide) (fun c18 => ?_) (fun c18 => ?_)
        · refine lv_iload_n hx hb dX3_firstWrong_40 rfl (lv_at hl 1 rfl) ?_
          refine j_iret hx hb hr hlocks hH hw dX3_firstWrong_41 ?_
          exact ⟨_, rfl, rfl, by first | exact fw_end hG (by omega) | exact fw_out hG c18⟩
        · refine lv_aload_n hx hb dX3_firstWrong_21 rfl (lv_at hl 0 rfl) ?_
          refine lv_iload_n hx hb dX3_firstWrong_22 rfl (lv_at hl 2 rfl) ?_
          refine j_Vp (n := 1) (As := [.int (nI (p9))]) hx hb hml hown hts hw (j_recv hw hO rfl) (c_X3_wrongInCommand l g z H0 a (p9) tx hz hT (by first | assumption | omega)) gX3_firstWrong_X3_wrongInCommand rfl (by decide +kernel) ⟨Nat.le_of_ble_eq_true rfl, Nat.le_of_ble_eq_true rfl⟩ rfl hl.1 (Nat.le_of_ble_eq_true rfl) ⟨Nat.zero_le _, Nat.zero_le _⟩ dX3_firstWrong_23 (fun r2 locs hr2 hw => ?_) rfl
          obtain rfl : r2 = (wic tx (p9)) := hr2
          refine lv_istore_n (lv' := [(1, .int _), (0, .ref _), (2, .int _)]) hx hb dX3_firstWrong_26 rfl hl (by decide) rfl (fun ls hl => ?_)
          refine lv_iload_n hx hb dX3_firstWrong_27 rfl (lv_at hl 2 rfl) ?_
          refine lv_iconst (v := (nI (1))) hx hb dX3_firstWrong_28 (by decide) ?_
          refine lv_aload_n hx hb dX3_firstWrong_29 rfl (lv_at hl 1 rfl) ?_
          refine lv_iload_n hx hb dX3_firstWrong_30 rfl (lv_at hl 2 rfl) ?_
          refine j_Vp (n := 1) (As := [.int (nI (p9))]) hx hb hml hown hts hw (j_recv hw hO rfl) (c_X3_digitsOfCommand l g z H0 a (p9) tx hz hT (by first | assumption | omega)) gX3_firstWrong_X3_digitsOfCommand rfl (by decide +kernel) ⟨Nat.le_of_ble_eq_true rfl, Nat.le_of_ble_eq_true rfl⟩ rfl hl.1 (Nat.le_of_ble_eq_true rfl) ⟨Nat.zero_le _, Nat.zero_le _⟩ dX3_firstWrong_31 (fun r3 locs hr3 hw => ?_) rfl
          obtain rfl : r3 = (nI (dgs tx (p9))) := hr3
          refine j_addN hx hb dX3_firstWrong_34 ?_
          refine j_addN hx hb dX3_firstWrong_35 ?_
          refine lv_istore_n (lv' := [(2, .int _), (1, .int _), (0, .ref _)]) hx hb dX3_firstWrong_36 rfl hl (by decide) rfl (fun ls hl => ?_)
          refine lv_goto (tgt := 8) hx hb dX3_firstWrong_37 (by decide) ?_
          exact ih8  _ ((p9 + (1 + dgs tx (p9)))) (by subst c18; exact fw_step h120 (by omega) hG) (by first | assumption | omega) (by omega) _ hw _ (lv_sub hl [2, 1, 0] rfl)
  exact lp8 (300 - (6) + 1) _ (6) (fw_start h120) (by first | assumption | omega) (by omega) _ hw _ (lv_sub hl [2, 1, 0] rfl)
