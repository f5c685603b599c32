abbrev q_X5_at (g : jG) (H0 : Heap) (i : Nat) (w : Nat) : Option Value → Heap → Prop := jN (fun r H1 => H1 = H0 ∧ (r = nI (109 + 6 * i + w)))
set_option maxHeartbeats 4000000 in
set_option maxRecDepth 100000 in
theorem c_X5_at (l : Launch) (g : jG) (z : Nat) (H0 : Heap) (i : Nat) (w : Nat)  : jM l g z yX5_at wsX5_at 0 0 [.int (nI (i)), .int (nI (w))] H0 (q_X5_at g H0 i w) := by
  refine j_of (cc := cX5_at) (n := 2) (ret := some .int) (by decide) rfl (Nat.le_of_ble_eq_true rfl) ?_
  intro p e s m below meth c hx hb hr hml hown hts hlocks hname hH hw ls hl
  have hl : lv_has ls 2 [(0, .int (nI (i))), (1, .int (nI (w)))] := hl
  refine lv_bipush (v := (nI (109))) hx hb dX5_at_0 (by decide) ?_
  refine lv_bipush (v := (nI (6))) hx hb dX5_at_2 (by decide) ?_
  refine lv_iload_n hx hb dX5_at_4 rfl (lv_at hl 0 rfl) ?_
  refine j_mulN hx hb dX5_at_5 ?_
  refine j_addN hx hb dX5_at_6 ?_
  refine lv_iload_n hx hb dX5_at_7 rfl (lv_at hl 1 rfl) ?_
  refine j_addN hx hb dX5_at_8 ?_
  refine j_iret hx hb hr hlocks hH hw dX5_at_9 ?_
  exact ⟨_, rfl, rfl, rfl⟩

abbrev q_X5_in (g : jG) (H0 : Heap) (v : Int64) (a : Int64) (b : Int64) : Option Value → Heap → Prop := jN (fun r H1 => H1 = H0 ∧ ((r = nI 1 ∧ a ≤ v ∧ v ≤ b) ∨ (r = nI 0 ∧ ¬ (a ≤ v ∧ v ≤ b))))
set_option maxHeartbeats 4000000 in
set_option maxRecDepth 100000 in
theorem c_X5_in (l : Launch) (g : jG) (z : Nat) (H0 : Heap) (v : Int64) (a : Int64) (b : Int64)  : jM l g z yX5_in wsX5_in 0 0 [.long v, .long a, .long b] H0 (q_X5_in g H0 v a b) := by
  refine j_of (cc := cX5_in) (n := 6) (ret := some .boolean) (by decide) rfl (Nat.le_of_ble_eq_true rfl) ?_
  intro p e s m below meth c hx hb hr hml hown hts hlocks hname hH hw ls hl
  have hl : lv_has ls 6 [(0, .long v), (2, .long a), (4, .long b)] := hl
  refine lv_lload_n hx hb dX5_in_0 rfl (lv_at hl 0 rfl) ?_
  refine lv_lload_n hx hb dX5_in_1 rfl (lv_at hl 1 rfl) ?_
  refine W.lcmp hx hb dX5_in_2 ?_
  refine jl_lt (tgt := 17) hx hb dX5_in_3 (by decide) (fun c3 => ?_) (fun c3 => ?_)
  · refine lv_iconst (v := (nI (0))) hx hb dX5_in_17 (by decide) ?_
    refine j_zret hx hb hr hlocks hH hw (Or.inl rfl) dX5_in_18 ?_
    exact ⟨_, rfl, rfl, Or.inr ⟨rfl, fun q => absurd c3 (Int64.not_lt.mpr q.1)⟩⟩
  · refine lv_lload_n hx hb dX5_in_6 rfl (lv_at hl 0 rfl) ?_
    refine lv_lload hx hb dX5_in_7 (lv_at hl 2 rfl) ?_
    refine W.lcmp hx hb dX5_in_9 ?_
    refine jl_gt (tgt := 17) hx hb dX5_in_10 (by decide) (fun c10 => ?_) (fun c10 => ?_)
    · refine lv_iconst (v := (nI (0))) hx hb dX5_in_17 (by decide) ?_
      refine j_zret hx hb hr hlocks hH hw (Or.inl rfl) dX5_in_18 ?_
      exact ⟨_, rfl, rfl, Or.inr ⟨rfl, fun q => absurd c10 (Int64.not_lt.mpr q.2)⟩⟩
    · refine lv_iconst (v := (nI (1))) hx hb dX5_in_13 (by decide) ?_
      refine lv_goto (tgt := 18) hx hb dX5_in_14 (by decide) ?_
      refine j_zret hx hb hr hlocks hH hw (Or.inr rfl) dX5_in_18 ?_
      exact ⟨_, rfl, rfl, Or.inl ⟨rfl, Int64.not_lt.mp c3, Int64.not_lt.mp c10⟩⟩

abbrev q_X5_isFront (g : jG) (H0 : Heap) (row : Nat) (lt : Nat) (σ : Sg) (f : Nat → Int32) : Option Value → Heap → Prop := jN (fun r H1 => H1 = H0 ∧ ((r = nI 1 ∧ 0 < σ.1 (14 + lt)) ∨ (r = nI 0 ∧ σ.1 (14 + lt) = 0)))
set_option maxHeartbeats 4000000 in
set_option maxRecDepth 100000 in
theorem c_X5_isFront (l : Launch) (g : jG) (z : Nat) (H0 : Heap) (row : Nat) (lt : Nat) (σ : Sg) (f : Nat → Int32) (hA : jI g H0 row 235 f) (hR : Row f σ) (hs : okS σ) (hlt : lt < 16) : jM l g z yX5_isFront wsX5_isFront 0 0 [.ref row, .int (nI (lt))] H0 (q_X5_isFront g H0 row lt σ f) := by
  refine j_of (cc := cX5_isFront) (n := 2) (ret := some .boolean) (by decide) rfl (Nat.le_of_ble_eq_true rfl) ?_
  intro p e s m below meth c hx hb hr hml hown hts hlocks hname hH hw ls hl
  have hl : lv_has ls 2 [(0, .ref row), (1, .int (nI (lt)))] := hl
  have hfl := hs.2.1 lt hlt
  refine lv_aload_n hx hb dX5_isFront_0 rfl (lv_at hl 0 rfl) ?_
  refine lv_bipush (v := (nI (14))) hx hb dX5_isFront_1 (by decide) ?_
  refine lv_iload_n hx hb dX5_isFront_3 rfl (lv_at hl 1 rfl) ?_
  refine j_addN hx hb dX5_isFront_4 ?_
  refine j_iald hx hb hw hA (k := (14 + lt)) rfl (by omega) (by omega) dX5_isFront_5 ?_
  refine j_eq (y := nI (σ.1 (14 + lt))) (hR.n _ (by omega)) ?_
  refine jz_le (tgt := 13) hx hb dX5_isFront_6 (by decide) (by omega) (fun c6 => ?_) (fun c6 => ?_)
  · refine lv_iconst (v := (nI (0))) hx hb dX5_isFront_13 (by decide) ?_
    refine j_zret hx hb hr hlocks hH hw (Or.inl rfl) dX5_isFront_14 ?_
    exact ⟨_, rfl, rfl, Or.inr ⟨rfl, by omega⟩⟩
  · refine lv_iconst (v := (nI (1))) hx hb dX5_isFront_9 (by decide) ?_
    refine lv_goto (tgt := 14) hx hb dX5_isFront_10 (by decide) ?_
    refine j_zret hx hb hr hlocks hH hw (Or.inr rfl) dX5_isFront_14 ?_
    exact ⟨_, rfl, rfl, Or.inl ⟨rfl, by omega⟩⟩

abbrev q_X5_fronts (g : jG) (H0 : Heap) (row : Nat) (σ : Sg) (f : Nat → Int32) : Option Value → Heap → Prop := jN (fun r H1 => H1 = H0 ∧ (r = nI (fcnt σ.1 16)))
set_option maxHeartbeats 4000000 in
set_option maxRecDepth 100000 in
theorem c_X5_fronts (l : Launch) (g : jG) (z : Nat) (H0 : Heap) (row : Nat) (σ : Sg) (f : Nat → Int32) (hA : jI g H0 row 235 f) (hR : Row f σ) (hs : okS σ) : jM l g z yX5_fronts wsX5_fronts 1 21 [.ref row] H0 (q_X5_fronts g H0 row σ f) := by
  refine j_of (cc := cX5_fronts) (n := 3) (ret := some .int) (by decide) rfl (Nat.le_of_ble_eq_true rfl) ?_
  intro p e s m below meth c hx hb hr hml hown hts hlocks hname hH hw ls hl
  have hl : lv_has ls 3 [(0, .ref row)] := hl
  refine lv_iconst (v := (nI (0))) hx hb dX5_fronts_0 (by decide) ?_
  refine lv_istore_n (lv' := [(1, .int _), (0, .ref _)]) hx hb dX5_fronts_1 rfl hl (by decide) rfl (fun ls hl => ?_)
  refine lv_iconst (v := (nI (0))) hx hb dX5_fronts_2 (by decide) ?_
  refine lv_istore_n (lv' := [(2, .int _), (1, .int _), (0, .ref _)]) hx hb dX5_fronts_3 rfl hl (by decide) rfl (fun ls hl => ?_)
  have lp4 : ∀ (n4 : Nat) (k : Nat) (hk : k ≤ 16) (hmu4 : 16 - k < n4) (locs : List Loc) (hw : jW g z s H0 locs) (ls : Array Slot) (hl : lv_has ls 3 [(0, .ref row), (1, .int (nI (fcnt σ.1 k))), (2, .int (nI (k)))]), jK p l e 1 21 s m [.ref row] below meth c z H0 (q_X5_fronts g H0 row σ f) H0 locs (F0 m 4 ls []) := by
    intro n4
    induction n4 with
    | zero => intros; omega
    | succ n4 ih4 =>
      intro k hk hmu4 locs hw  ls hl
      refine lv_iload_n hx hb dX5_fronts_4 rfl (lv_at hl 2 rfl) ?_
      refine lv_bipush (v := (nI (16))) hx hb dX5_fronts_5 (by decide) ?_
      refine jn_ge (tgt := 32) hx hb dX5_fronts_7 (by decide) (by omega) (by omega) (fun c7 => ?_) (fun c7 => ?_)
      · refine lv_iload_n hx hb dX5_fronts_32 rfl (lv_at hl 1 rfl) ?_
        refine j_iret hx hb hr hlocks hH hw dX5_fronts_33 ?_
        have hk9 : k = 16 := by omega
        subst hk9
        exact ⟨_, rfl, rfl, rfl⟩
      · refine lv_iload_n hx hb dX5_fronts_10 rfl (lv_at hl 1 rfl) ?_
        refine lv_aload_n hx hb dX5_fronts_11 rfl (lv_at hl 0 rfl) ?_
        refine lv_iload_n hx hb dX5_fronts_12 rfl (lv_at hl 2 rfl) ?_
        refine j_Sp (n := 2) (As := [.ref row, .int (nI (k))]) hx hb hml hown hts hw (c_X5_isFront l g z H0 row (k) (σ) f  hA hR hs (by first | assumption | omega)) gX5_fronts_X5_isFront rfl (by decide +kernel) ⟨Nat.le_of_ble_eq_true rfl, Nat.le_of_ble_eq_true rfl⟩ rfl hl.1 (Nat.le_of_ble_eq_true rfl) ⟨Nat.zero_le _, Nat.zero_le _⟩ dX5_fronts_13 (fun r1 locs hr1 hw => ?_) rfl
        rcases hr1 with ⟨rfl, hr1⟩ | ⟨rfl, hr1⟩
        · refine jz_eq (tgt := 23) hx hb dX5_fronts_16 (by decide) (by omega) (fun c16 => absurd c16 (by omega)) (fun c16 => ?_)
          refine lv_iconst (v := (nI (1))) hx hb dX5_fronts_19 (by decide) ?_
          refine lv_goto (tgt := 24) hx hb dX5_fronts_20 (by decide) ?_
          refine j_addN hx hb dX5_fronts_24 ?_
          refine lv_istore_n (lv' := [(1, .int _), (0, .ref _), (2, .int _)]) hx hb dX5_fronts_25 rfl hl (by decide) rfl (fun ls hl => ?_)
          have hfk : fcnt σ.1 (k + 1) = fcnt σ.1 k + 1 := by simp only [fcnt]; split <;> omega
          rw [← hfk] at hl
          refine lv_iinc (v := nI (k + 1)) (lv' := [(2, .int _), (1, .int _), (0, .ref _)]) hx hb dX5_fronts_26 hl (k := 2) rfl (nI_add _ 1) (by decide) rfl (fun ls hl => ?_)
          refine lv_goto (tgt := 4) hx hb dX5_fronts_29 (by decide) ?_
          exact ih4  (k + 1) (by first | assumption | omega) (by omega) _ hw _ (lv_sub hl [2, 1, 0] rfl)
        · refine jz_eq (tgt := 23) hx hb dX5_fronts_16 (by decide) (by omega) (fun c16 => ?_) (fun c16 => absurd c16 (by omega))
          refine lv_iconst (v := (nI (0))) hx hb dX5_fronts_23 (by decide) ?_
          refine j_addN hx hb dX5_fronts_24 ?_
          refine lv_istore_n (lv' := [(1, .int _), (0, .ref _), (2, .int _)]) hx hb dX5_fronts_25 rfl hl (by decide) rfl (fun ls hl => ?_)
          have hfk : fcnt σ.1 (k + 1) = fcnt σ.1 k + 0 := by simp only [fcnt]; split <;> omega
          rw [← hfk] at hl
          refine lv_iinc (v := nI (k + 1)) (lv' := [(2, .int _), (1, .int _), (0, .ref _)]) hx hb dX5_fronts_26 hl (k := 2) rfl (nI_add _ 1) (by decide) rfl (fun ls hl => ?_)
          refine lv_goto (tgt := 4) hx hb dX5_fronts_29 (by decide) ?_
          exact ih4  (k + 1) (by first | assumption | omega) (by omega) _ hw _ (lv_sub hl [2, 1, 0] rfl)
  exact lp4 (16 - (0) + 1) (0) (by first | assumption | omega) (by omega) _ hw _ (lv_sub hl [2, 1, 0] rfl)

abbrev q_X5_ordersOf (g : jG) (H0 : Heap) (row : Nat) (lt : Nat) (σ : Sg) (f : Nat → Int32) : Option Value → Heap → Prop := jN (fun r H1 => H1 = H0 ∧ (r = nI (ocnt 1 lt σ.2.2.1)))
set_option maxHeartbeats 4000000 in
set_option maxRecDepth 100000 in
theorem c_X5_ordersOf (l : Launch) (g : jG) (z : Nat) (H0 : Heap) (row : Nat) (lt : Nat) (σ : Sg) (f : Nat → Int32) (hA : jI g H0 row 235 f) (hR : Row f σ) (hs : okS σ) (hlt : lt < 16) : jM l g z yX5_ordersOf wsX5_ordersOf 1 21 [.ref row, .int (nI (lt))] H0 (q_X5_ordersOf g H0 row lt σ f) := by
  refine j_of (cc := cX5_ordersOf) (n := 4) (ret := some .int) (by decide) rfl (Nat.le_of_ble_eq_true rfl) ?_
  intro p e s m below meth c hx hb hr hml hown hts hlocks hname hH hw ls hl
  have hl : lv_has ls 4 [(0, .ref row), (1, .int (nI (lt)))] := hl
  have hn := hs.2.2.1
  refine lv_iconst (v := (nI (0))) hx hb dX5_ordersOf_0 (by decide) ?_
  refine lv_istore_n (lv' := [(2, .int _), (0, .ref _), (1, .int _)]) hx hb dX5_ordersOf_1 rfl hl (by decide) rfl (fun ls hl => ?_)
  refine lv_iconst (v := (nI (0))) hx hb dX5_ordersOf_2 (by decide) ?_
  refine lv_istore_n (lv' := [(3, .int _), (2, .int _), (0, .ref _), (1, .int _)]) hx hb dX5_ordersOf_3 rfl hl (by decide) rfl (fun ls hl => ?_)
  have lp4 : ∀ (n4 : Nat) (k : Nat) (hk : k ≤ σ.2.2.1.length) (hmu4 : σ.2.2.1.length - k < n4) (locs : List Loc) (hw : jW g z s H0 locs) (ls : Array Slot) (hl : lv_has ls 4 [(0, .ref row), (1, .int (nI (lt))), (2, .int (nI (ocnt 1 lt (σ.2.2.1.take k)))), (3, .int (nI (k)))]), jK p l e 1 21 s m [.ref row, .int (nI (lt))] below meth c z H0 (q_X5_ordersOf g H0 row lt σ f) H0 locs (F0 m 4 ls []) := by
    intro n4
    induction n4 with
    | zero => intros; omega
    | succ n4 ih4 =>
      intro k hk hmu4 locs hw  ls hl
      refine lv_iload_n hx hb dX5_ordersOf_4 rfl (lv_at hl 3 rfl) ?_
      refine lv_aload_n hx hb dX5_ordersOf_5 rfl (lv_at hl 0 rfl) ?_
      refine lv_bipush (v := (nI (6))) hx hb dX5_ordersOf_6 (by decide) ?_
      refine j_iald hx hb hw hA (k := 6) rfl (by omega) (by omega) dX5_ordersOf_8 ?_
      refine j_eq (y := nI (σ.2.2.1.length)) hR.2.2.1 ?_
      refine jn_ge (tgt := 37) hx hb dX5_ordersOf_9 (by decide) (by omega) (by omega) (fun c9 => ?_) (fun c9 => ?_)
      · refine lv_iload_n hx hb dX5_ordersOf_37 rfl (lv_at hl 2 rfl) ?_
        refine j_iret hx hb hr hlocks hH hw dX5_ordersOf_38 ?_
        have hk9 : k = σ.2.2.1.length := by omega
        subst hk9
        rw [List.take_length] at hl
        exact ⟨_, rfl, rfl, by rw [List.take_length]⟩
      · obtain ⟨o, ho⟩ := getO (L := σ.2.2.1) (k := k) (by omega)
        have hoo := hs.2.2.2.1 o (memO ho)
        have ho1 := hoo.2.1
        have ho3 := hoo.2.2.2.1
        refine lv_iload_n hx hb dX5_ordersOf_12 rfl (lv_at hl 2 rfl) ?_
        refine lv_aload_n hx hb dX5_ordersOf_13 rfl (lv_at hl 0 rfl) ?_
        refine lv_iload_n hx hb dX5_ordersOf_14 rfl (lv_at hl 3 rfl) ?_
        refine lv_iconst (v := (nI (1))) hx hb dX5_ordersOf_15 (by decide) ?_
        refine j_Sp (n := 2) (As := [.int (nI (k)), .int (nI (1))]) hx hb hml hown hts hw (c_X5_at l g z H0 (k) (1)   ) gX5_ordersOf_X5_at rfl (by decide +kernel) ⟨Nat.le_of_ble_eq_true rfl, Nat.le_of_ble_eq_true rfl⟩ rfl hl.1 (Nat.le_of_ble_eq_true rfl) ⟨Nat.zero_le _, Nat.zero_le _⟩ dX5_ordersOf_16 (fun r1 locs hr1 hw => ?_) rfl
        obtain rfl : r1 = (nI (109 + 6 * (k) + (1))) := hr1
        refine j_iald hx hb hw hA (k := 109 + 6 * (k) + (1)) rfl (by omega) (by omega) dX5_ordersOf_19 ?_
        refine j_eq (y := nI (o 1)) (hR.o ho 1 (by omega) (by omega)) ?_
        refine lv_iload_n hx hb dX5_ordersOf_20 rfl (lv_at hl 1 rfl) ?_
        refine jn_ne (tgt := 28) hx hb dX5_ordersOf_21 (by decide) (by omega) (by omega) (fun c21 => ?_) (fun c21 => ?_)
        · refine lv_iconst (v := (nI (0))) hx hb dX5_ordersOf_28 (by decide) ?_
          refine j_addN hx hb dX5_ordersOf_29 ?_
          refine lv_istore_n (lv' := [(2, .int _), (0, .ref _), (1, .int _), (3, .int _)]) hx hb dX5_ordersOf_30 rfl hl (by decide) rfl (fun ls hl => ?_)
          rw [show (ocnt 1 lt (σ.2.2.1.take k) + 0) = ocnt 1 lt (σ.2.2.1.take (k + 1)) from (by rw [ocnt_take ho]; simp only [c21, if_true, if_false, Nat.add_zero])] at hl
          refine lv_iinc (v := nI (k + 1)) (lv' := [(3, .int _), (2, .int _), (0, .ref _), (1, .int _)]) hx hb dX5_ordersOf_31 hl (k := 3) rfl (nI_add _ 1) (by decide) rfl (fun ls hl => ?_)
          refine lv_goto (tgt := 4) hx hb dX5_ordersOf_34 (by decide) ?_
          exact ih4  (k + 1) (by first | assumption | omega) (by omega) _ hw _ (lv_sub hl [2, 3, 1, 0] rfl)
        · refine lv_iconst (v := (nI (1))) hx hb dX5_ordersOf_24 (by decide) ?_
          refine lv_goto (tgt := 29) hx hb dX5_ordersOf_25 (by decide) ?_
          refine j_addN hx hb dX5_ordersOf_29 ?_
          refine lv_istore_n (lv' := [(2, .int _), (0, .ref _), (1, .int _), (3, .int _)]) hx hb dX5_ordersOf_30 rfl hl (by decide) rfl (fun ls hl => ?_)
          rw [show (ocnt 1 lt (σ.2.2.1.take k) + 1) = ocnt 1 lt (σ.2.2.1.take (k + 1)) from (by rw [ocnt_take ho]; simp only [c21, if_true, if_false, Nat.add_zero])] at hl
          refine lv_iinc (v := nI (k + 1)) (lv' := [(3, .int _), (2, .int _), (0, .ref _), (1, .int _)]) hx hb dX5_ordersOf_31 hl (k := 3) rfl (nI_add _ 1) (by decide) rfl (fun ls hl => ?_)
          refine lv_goto (tgt := 4) hx hb dX5_ordersOf_34 (by decide) ?_
          exact ih4  (k + 1) (by first | assumption | omega) (by omega) _ hw _ (lv_sub hl [2, 3, 1, 0] rfl)
  exact lp4 (σ.2.2.1.length - (0) + 1) (0) (by first | assumption | omega) (by omega) _ hw _ (lv_sub hl [2, 3, 1, 0] rfl)

abbrev q_X5_feesOf (g : jG) (H0 : Heap) (row : Nat) (lt : Nat) (σ : Sg) (f : Nat → Int32) : Option Value → Heap → Prop := jN (fun r H1 => H1 = H0 ∧ (r = nI (fsum lt σ.2.2.1)))
set_option maxHeartbeats 4000000 in
set_option maxRecDepth 100000 in
theorem c_X5_feesOf (l : Launch) (g : jG) (z : Nat) (H0 : Heap) (row : Nat) (lt : Nat) (σ : Sg) (f : Nat → Int32) (hA : jI g H0 row 235 f) (hR : Row f σ) (hs : okS σ) (hlt : lt < 16) : jM l g z yX5_feesOf wsX5_feesOf 1 21 [.ref row, .int (nI (lt))] H0 (q_X5_feesOf g H0 row lt σ f) := by
  refine j_of (cc := cX5_feesOf) (n := 4) (ret := some .int) (by decide) rfl (Nat.le_of_ble_eq_true rfl) ?_
  intro p e s m below meth c hx hb hr hml hown hts hlocks hname hH hw ls hl
  have hl : lv_has ls 4 [(0, .ref row), (1, .int (nI (lt)))] := hl
  have hn := hs.2.2.1
  refine lv_iconst (v := (nI (0))) hx hb dX5_feesOf_0 (by decide) ?_
  refine lv_istore_n (lv' := [(2, .int _), (0, .ref _), (1, .int _)]) hx hb dX5_feesOf_1 rfl hl (by decide) rfl (fun ls hl => ?_)
  refine lv_iconst (v := (nI (0))) hx hb dX5_feesOf_2 (by decide) ?_
  refine lv_istore_n (lv' := [(3, .int _), (2, .int _), (0, .ref _), (1, .int _)]) hx hb dX5_feesOf_3 rfl hl (by decide) rfl (fun ls hl => ?_)
  have lp4 : ∀ (n4 : Nat) (k : Nat) (hk : k ≤ σ.2.2.1.length) (hmu4 : σ.2.2.1.length - k < n4) (locs : List Loc) (hw : jW g z s H0 locs) (ls : Array Slot) (hl : lv_has ls 4 [(0, .ref row), (1, .int (nI (lt))), (2, .int (nI (fsum lt (σ.2.2.1.take k)))), (3, .int (nI (k)))]), jK p l e 1 21 s m [.ref row, .int (nI (lt))] below meth c z H0 (q_X5_feesOf g H0 row lt σ f) H0 locs (F0 m 4 ls []) := by
    intro n4
    induction n4 with
    | zero => intros; omega
    | succ n4 ih4 =>
      intro k hk hmu4 locs hw  ls hl
      refine lv_iload_n hx hb dX5_feesOf_4 rfl (lv_at hl 3 rfl) ?_
      refine lv_aload_n hx hb dX5_feesOf_5 rfl (lv_at hl 0 rfl) ?_
      refine lv_bipush (v := (nI (6))) hx hb dX5_feesOf_6 (by decide) ?_
      refine j_iald hx hb hw hA (k := 6) rfl (by omega) (by omega) dX5_feesOf_8 ?_
      refine j_eq (y := nI (σ.2.2.1.length)) hR.2.2.1 ?_
      refine jn_ge (tgt := 43) hx hb dX5_feesOf_9 (by decide) (by omega) (by omega) (fun c9 => ?_) (fun c9 => ?_)
      · refine lv_iload_n hx hb dX5_feesOf_43 rfl (lv_at hl 2 rfl) ?_
        refine j_iret hx hb hr hlocks hH hw dX5_feesOf_44 ?_
        have hk9 : k = σ.2.2.1.length := by omega
        subst hk9
        rw [List.take_length] at hl
        exact ⟨_, rfl, rfl, by rw [List.take_length]⟩
      · obtain ⟨o, ho⟩ := getO (L := σ.2.2.1) (k := k) (by omega)
        have hoo := hs.2.2.2.1 o (memO ho)
        have ho1 := hoo.2.1
        have ho3 := hoo.2.2.2.1
        refine lv_iload_n hx hb dX5_feesOf_12 rfl (lv_at hl 2 rfl) ?_
        refine lv_aload_n hx hb dX5_feesOf_13 rfl (lv_at hl 0 rfl) ?_
        refine lv_iload_n hx hb dX5_feesOf_14 rfl (lv_at hl 3 rfl) ?_
        refine lv_iconst (v := (nI (1))) hx hb dX5_feesOf_15 (by decide) ?_
        refine j_Sp (n := 2) (As := [.int (nI (k)), .int (nI (1))]) hx hb hml hown hts hw (c_X5_at l g z H0 (k) (1)   ) gX5_feesOf_X5_at rfl (by decide +kernel) ⟨Nat.le_of_ble_eq_true rfl, Nat.le_of_ble_eq_true rfl⟩ rfl hl.1 (Nat.le_of_ble_eq_true rfl) ⟨Nat.zero_le _, Nat.zero_le _⟩ dX5_feesOf_16 (fun r1 locs hr1 hw => ?_) rfl
        obtain rfl : r1 = (nI (109 + 6 * (k) + (1))) := hr1
        refine j_iald hx hb hw hA (k := 109 + 6 * (k) + (1)) rfl (by omega) (by omega) dX5_feesOf_19 ?_
        refine j_eq (y := nI (o 1)) (hR.o ho 1 (by omega) (by omega)) ?_
        refine lv_iload_n hx hb dX5_feesOf_20 rfl (lv_at hl 1 rfl) ?_
        refine jn_ne (tgt := 34) hx hb dX5_feesOf_21 (by decide) (by omega) (by omega) (fun c21 => ?_) (fun c21 => ?_)
        · refine lv_iconst (v := (nI (0))) hx hb dX5_feesOf_34 (by decide) ?_
          refine j_addN hx hb dX5_feesOf_35 ?_
          refine lv_istore_n (lv' := [(2, .int _), (0, .ref _), (1, .int _), (3, .int _)]) hx hb dX5_feesOf_36 rfl hl (by decide) rfl (fun ls hl => ?_)
          rw [show (fsum lt (σ.2.2.1.take k) + 0) = fsum lt (σ.2.2.1.take (k + 1)) from (by rw [fsum_take ho]; simp only [c21, if_true, if_false, Nat.add_zero])] at hl
          refine lv_iinc (v := nI (k + 1)) (lv' := [(3, .int _), (2, .int _), (0, .ref _), (1, .int _)]) hx hb dX5_feesOf_37 hl (k := 3) rfl (nI_add _ 1) (by decide) rfl (fun ls hl => ?_)
          refine lv_goto (tgt := 4) hx hb dX5_feesOf_40 (by decide) ?_
          exact ih4  (k + 1) (by first | assumption | omega) (by omega) _ hw _ (lv_sub hl [2, 3, 1, 0] rfl)
        · refine lv_aload_n hx hb dX5_feesOf_24 rfl (lv_at hl 0 rfl) ?_
          refine lv_iload_n hx hb dX5_feesOf_25 rfl (lv_at hl 3 rfl) ?_
          refine lv_iconst (v := (nI (3))) hx hb dX5_feesOf_26 (by decide) ?_
          refine j_Sp (n := 2) (As := [.int (nI (k)), .int (nI (3))]) hx hb hml hown hts hw (c_X5_at l g z H0 (k) (3)   ) gX5_feesOf_X5_at rfl (by decide +kernel) ⟨Nat.le_of_ble_eq_true rfl, Nat.le_of_ble_eq_true rfl⟩ rfl hl.1 (Nat.le_of_ble_eq_true rfl) ⟨Nat.zero_le _, Nat.zero_le _⟩ dX5_feesOf_27 (fun r2 locs hr2 hw => ?_) rfl
          obtain rfl : r2 = (nI (109 + 6 * (k) + (3))) := hr2
          refine j_iald hx hb hw hA (k := 109 + 6 * (k) + (3)) rfl (by omega) (by omega) dX5_feesOf_30 ?_
          refine j_eq (y := nI (o 3)) (hR.o ho 3 (by omega) (by omega)) ?_
          refine lv_goto (tgt := 35) hx hb dX5_feesOf_31 (by decide) ?_
          refine j_addN hx hb dX5_feesOf_35 ?_
          refine lv_istore_n (lv' := [(2, .int _), (0, .ref _), (1, .int _), (3, .int _)]) hx hb dX5_feesOf_36 rfl hl (by decide) rfl (fun ls hl => ?_)
          rw [show (fsum lt (σ.2.2.1.take k) + o 3) = fsum lt (σ.2.2.1.take (k + 1)) from (by rw [fsum_take ho]; simp only [c21, if_true, if_false, Nat.add_zero])] at hl
          refine lv_iinc (v := nI (k + 1)) (lv' := [(3, .int _), (2, .int _), (0, .ref _), (1, .int _)]) hx hb dX5_feesOf_37 hl (k := 3) rfl (nI_add _ 1) (by decide) rfl (fun ls hl => ?_)
          refine lv_goto (tgt := 4) hx hb dX5_feesOf_40 (by decide) ?_
          exact ih4  (k + 1) (by first | assumption | omega) (by omega) _ hw _ (lv_sub hl [2, 3, 1, 0] rfl)
  exact lp4 (σ.2.2.1.length - (0) + 1) (0) (by first | assumption | omega) (by omega) _ hw _ (lv_sub hl [2, 3, 1, 0] rfl)
