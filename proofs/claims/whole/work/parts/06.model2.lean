abbrev q_X5_copyS (g : jG) (H0 : Heap) (a : Nat) (fa : Nat) (ta : Nat) (k : Nat) (n : Nat) (f : Nat → Int32) : Option Value → Heap → Prop := jV (fun H1 => jI g H1 a n (va_cpy f f fa ta k) ∧ jF a 1 H0 H1)
set_option maxHeartbeats 4000000 in
set_option maxRecDepth 100000 in
theorem c_X5_copyS (l : Launch) (g : jG) (z : Nat) (H0 : Heap) (a : Nat) (fa : Nat) (ta : Nat) (k : Nat) (n : Nat) (f : Nat → Int32) (hz : z ≤ a) (hA : jI g H0 a n f) (h1 : fa + k ≤ n) (h2 : ta ≤ fa) (h3 : n < 2 ^ 31) : jM l g z yX5_copy wsX5_copy 0 0 [.ref a, .int (nI (fa)), .ref a, .int (nI (ta)), .int (nI (k))] H0 (q_X5_copyS g H0 a fa ta k n f) := by
  refine j_of (cc := cX5_copy) (n := 6) (ret := none) (by decide) rfl (Nat.le_of_ble_eq_true rfl) ?_
  intro p e s m below meth c hx hb hr hml hown hts hlocks hname hH hw ls hl
  have hl : lv_has ls 6 [(0, .ref a), (1, .int (nI (fa))), (2, .ref a), (3, .int (nI (ta))), (4, .int (nI (k)))] := hl
  have hf : jF a 1 H0 H0 := jF.rf
  refine lv_iconst (v := (nI (0))) hx hb dX5_copy_0 (by decide) ?_
  refine lv_istore (lv' := [(5, .int _), (0, .ref _), (1, .int _), (2, .ref _), (3, .int _), (4, .int _)]) hx hb dX5_copy_1 hl (by decide) rfl (fun ls hl => ?_)
  have lp3 : ∀ (n3 : Nat) (j : Nat) (fj : Nat → Int32) (hj : j ≤ k) (hfj : fj = va_cpy f f fa ta j) (hmu3 : k - j < n3) (H : Heap) (locs : List Loc) (hw : jW g z s H locs) (hf : jF a 1 H0 H) (hA : jI g H a n fj) (ls : Array Slot) (hl : lv_has ls 6 [(0, .ref a), (1, .int (nI (fa))), (2, .ref a), (3, .int (nI (ta))), (4, .int (nI (k))), (5, .int (nI (j)))]), jK p l e 0 0 s m [.ref a, .int (nI (fa)), .ref a, .int (nI (ta)), .int (nI (k))] below meth c z H0 (q_X5_copyS g H0 a fa ta k n f) H locs (F0 m 3 ls []) := by
    intro n3
    induction n3 with
    | zero => intros; omega
    | succ n3 ih3 =>
      intro j fj hj hfj hmu3 H locs hw hf hA ls hl
      refine lv_iload hx hb dX5_copy_3 (lv_at hl 5 rfl) ?_
      refine lv_iload hx hb dX5_copy_5 (lv_at hl 4 rfl) ?_
      refine jn_ge (tgt := 28) hx hb dX5_copy_7 (by decide) (by omega) (by omega) (fun c7 => ?_) (fun c7 => ?_)
      · refine j_vret hx hb hr hlocks hH hw dX5_copy_28 ?_
        have hj9 : j = k := by omega
        subst hj9
        rw [hfj] at hA
        exact ⟨rfl, hA, hf⟩
      · refine lv_aload_n hx hb dX5_copy_10 rfl (lv_at hl 2 rfl) ?_
        refine lv_iload_n hx hb dX5_copy_11 rfl (lv_at hl 3 rfl) ?_
        refine lv_iload hx hb dX5_copy_12 (lv_at hl 5 rfl) ?_
        refine j_addN hx hb dX5_copy_14 ?_
        refine lv_aload_n hx hb dX5_copy_15 rfl (lv_at hl 0 rfl) ?_
        refine lv_iload_n hx hb dX5_copy_16 rfl (lv_at hl 1 rfl) ?_
        refine lv_iload hx hb dX5_copy_17 (lv_at hl 5 rfl) ?_
        refine j_addN hx hb dX5_copy_19 ?_
        refine j_iald hx hb hw hA (k := (fa + j)) rfl (by omega) (by omega) dX5_copy_20 ?_
        refine j_iast hx hb hw hA hz (k := (ta + j)) rfl (by omega) (by omega) dX5_copy_21 (fun H locs hw hA oq hsz => ?_)
        obtain ⟨f1, ef1⟩ : ∃ y9, y9 = upd fj ((ta + j)) (fj ((fa + j))) := ⟨_, rfl⟩
        rw [← ef1] at hA
        have hf := hf.put oq hsz (by omega)
        refine lv_iinc (v := nI (j + 1)) (lv' := [(5, .int _), (0, .ref _), (1, .int _), (2, .ref _), (3, .int _), (4, .int _)]) hx hb dX5_copy_22 hl (k := 5) rfl (nI_add _ 1) (by decide) rfl (fun ls hl => ?_)
        refine lv_goto (tgt := 3) hx hb dX5_copy_25 (by decide) ?_
        exact ih3  (j + 1) f1 (by first | assumption | omega) (by rw [ef1, hfj, cpy_down h2]) (by omega) H _ hw hf hA _ (lv_sub hl [1, 2, 3, 4, 5, 0] rfl)
  exact lp3 (k - (0) + 1) (0) f (by first | assumption | omega) cpy_0.symm (by omega) H0 _ hw hf hA _ (lv_sub hl [1, 2, 3, 4, 5, 0] rfl)

abbrev q_X5_copyD (g : jG) (H0 : Heap) (a : Nat) (fa : Nat) (b : Nat) (ta : Nat) (k : Nat) (nb : Nat) (fb : Nat → Int32) (n : Nat) (f : Nat → Int32) : Option Value → Heap → Prop := jV (fun H1 => jI g H1 b nb (va_cpy f fb fa ta k) ∧ jF b 1 H0 H1)
set_option maxHeartbeats 4000000 in
set_option maxRecDepth 100000 in
theorem c_X5_copyD (l : Launch) (g : jG) (z : Nat) (H0 : Heap) (a : Nat) (fa : Nat) (b : Nat) (ta : Nat) (k : Nat) (nb : Nat) (fb : Nat → Int32) (n : Nat) (f : Nat → Int32) (hz : z ≤ b) (hne : a ≠ b) (hB : jI g H0 b nb fb) (hA : jI g H0 a n f) (h1 : fa + k ≤ n) (h2 : ta + k ≤ nb) (h3 : n < 2 ^ 31) (h4 : nb < 2 ^ 31) : jM l g z yX5_copy wsX5_copy 0 0 [.ref a, .int (nI (fa)), .ref b, .int (nI (ta)), .int (nI (k))] H0 (q_X5_copyD g H0 a fa b ta k nb fb n f) := by
  refine j_of (cc := cX5_copy) (n := 6) (ret := none) (by decide) rfl (Nat.le_of_ble_eq_true rfl) ?_
  intro p e s m below meth c hx hb hr hml hown hts hlocks hname hH hw ls hl
  have hl : lv_has ls 6 [(0, .ref a), (1, .int (nI (fa))), (2, .ref b), (3, .int (nI (ta))), (4, .int (nI (k)))] := hl
  have hf : jF b 1 H0 H0 := jF.rf
  refine lv_iconst (v := (nI (0))) hx hb dX5_copy_0 (by decide) ?_
  refine lv_istore (lv' := [(5, .int _), (0, .ref _), (1, .int _), (2, .ref _), (3, .int _), (4, .int _)]) hx hb dX5_copy_1 hl (by decide) rfl (fun ls hl => ?_)
  have lp3 : ∀ (n3 : Nat) (j : Nat) (fj : Nat → Int32) (hj : j ≤ k) (hfj : fj = va_cpy f fb fa ta j) (hmu3 : k - j < n3) (H : Heap) (locs : List Loc) (hw : jW g z s H locs) (hf : jF b 1 H0 H) (hB : jI g H b nb fj) (hA : jI g H a n f) (ls : Array Slot) (hl : lv_has ls 6 [(0, .ref a), (1, .int (nI (fa))), (2, .ref b), (3, .int (nI (ta))), (4, .int (nI (k))), (5, .int (nI (j)))]), jK p l e 0 0 s m [.ref a, .int (nI (fa)), .ref b, .int (nI (ta)), .int (nI (k))] below meth c z H0 (q_X5_copyD g H0 a fa b ta k nb fb n f) H locs (F0 m 3 ls []) := by
    intro n3
    induction n3 with
    | zero => intros; omega
    | succ n3 ih3 =>
      intro j fj hj hfj hmu3 H locs hw hf hB hA ls hl
      refine lv_iload hx hb dX5_copy_3 (lv_at hl 5 rfl) ?_
      refine lv_iload hx hb dX5_copy_5 (lv_at hl 4 rfl) ?_
      refine jn_ge (tgt := 28) hx hb dX5_copy_7 (by decide) (by omega) (by omega) (fun c7 => ?_) (fun c7 => ?_)
      · refine j_vret hx hb hr hlocks hH hw dX5_copy_28 ?_
        have hj9 : j = k := by omega
        subst hj9
        rw [hfj] at hB
        exact ⟨rfl, hB, hf⟩
      · refine lv_aload_n hx hb dX5_copy_10 rfl (lv_at hl 2 rfl) ?_
        refine lv_iload_n hx hb dX5_copy_11 rfl (lv_at hl 3 rfl) ?_
        refine lv_iload hx hb dX5_copy_12 (lv_at hl 5 rfl) ?_
        refine j_addN hx hb dX5_copy_14 ?_
        refine lv_aload_n hx hb dX5_copy_15 rfl (lv_at hl 0 rfl) ?_
        refine lv_iload_n hx hb dX5_copy_16 rfl (lv_at hl 1 rfl) ?_
        refine lv_iload hx hb dX5_copy_17 (lv_at hl 5 rfl) ?_
        refine j_addN hx hb dX5_copy_19 ?_
        refine j_iald hx hb hw hA (k := (fa + j)) rfl (by omega) (by omega) dX5_copy_20 ?_
        refine j_iast hx hb hw hB hz (k := (ta + j)) rfl (by omega) (by omega) dX5_copy_21 (fun H locs hw hB oq hsz => ?_)
        obtain ⟨f1, ef1⟩ : ∃ y9, y9 = upd fj ((ta + j)) (f ((fa + j))) := ⟨_, rfl⟩
        rw [← ef1] at hB
        have hA := hA.kept (oq _ (by omega))
        have hf := hf.put oq hsz (by omega)
        refine lv_iinc (v := nI (j + 1)) (lv' := [(5, .int _), (0, .ref _), (1, .int _), (2, .ref _), (3, .int _), (4, .int _)]) hx hb dX5_copy_22 hl (k := 5) rfl (nI_add _ 1) (by decide) rfl (fun ls hl => ?_)
        refine lv_goto (tgt := 3) hx hb dX5_copy_25 (by decide) ?_
        exact ih3  (j + 1) f1 (by first | assumption | omega) (by rw [ef1, hfj, cpy_two]) (by omega) H _ hw hf hB hA _ (lv_sub hl [1, 2, 3, 4, 5, 0] rfl)
  exact lp3 (k - (0) + 1) (0) fb (by first | assumption | omega) cpy_0.symm (by omega) H0 _ hw hf hB hA _ (lv_sub hl [1, 2, 3, 4, 5, 0] rfl)

abbrev q_X5_copyBack (g : jG) (H0 : Heap) (a : Nat) (fa : Nat) (ta : Nat) (k : Nat) (n : Nat) (f : Nat → Int32) : Option Value → Heap → Prop := jV (fun H1 => jI g H1 a n (va_cpy f f fa ta k) ∧ jF a 1 H0 H1)
set_option maxHeartbeats 4000000 in
set_option maxRecDepth 100000 in
theorem c_X5_copyBack (l : Launch) (g : jG) (z : Nat) (H0 : Heap) (a : Nat) (fa : Nat) (ta : Nat) (k : Nat) (n : Nat) (f : Nat → Int32) (hz : z ≤ a) (hA : jI g H0 a n f) (h1 : ta + k ≤ n) (h2 : fa ≤ ta) (h3 : n < 2 ^ 31) (h4 : 0 < k) : jM l g z yX5_copyBack wsX5_copyBack 0 0 [.ref a, .int (nI (fa)), .int (nI (ta)), .int (nI (k))] H0 (q_X5_copyBack g H0 a fa ta k n f) := by
  refine j_of (cc := cX5_copyBack) (n := 5) (ret := none) (by decide) rfl (Nat.le_of_ble_eq_true rfl) ?_
  intro p e s m below meth c hx hb hr hml hown hts hlocks hname hH hw ls hl
  have hl : lv_has ls 5 [(0, .ref a), (1, .int (nI (fa))), (2, .int (nI (ta))), (3, .int (nI (k)))] := hl
  have hf : jF a 1 H0 H0 := jF.rf
  refine lv_iload_n hx hb dX5_copyBack_0 rfl (lv_at hl 3 rfl) ?_
  refine lv_iconst (v := (nI (1))) hx hb dX5_copyBack_1 (by decide) ?_
  refine j_subN hx hb (by omega) dX5_copyBack_2 ?_
  refine lv_istore (lv' := [(4, .int _), (0, .ref _), (1, .int _), (2, .int _), (3, .int _)]) hx hb dX5_copyBack_3 hl (by decide) rfl (fun ls hl => ?_)
  have lp5 : ∀ (n5 : Nat) (j : Nat) (x : Int32) (fj : Nat → Int32) (hj : j ≤ k) (hxj : x = nI j - 1) (hfj : fj = cpyU f fa ta k j) (hmu5 : j < n5) (H : Heap) (locs : List Loc) (hw : jW g z s H locs) (hf : jF a 1 H0 H) (hA : jI g H a n fj) (ls : Array Slot) (hl : lv_has ls 5 [(0, .ref a), (1, .int (nI (fa))), (2, .int (nI (ta))), (3, .int (nI (k))), (4, .int x)]), jK p l e 0 0 s m [.ref a, .int (nI (fa)), .int (nI (ta)), .int (nI (k))] below meth c z H0 (q_X5_copyBack g H0 a fa ta k n f) H locs (F0 m 5 ls []) := by
    intro n5
    induction n5 with
    | zero => intros; omega
    | succ n5 ih5 =>
      intro j x fj hj hxj hfj hmu5 H locs hw hf hA ls hl
      rcases Nat.eq_zero_or_pos j with hj0 | hj0
      · subst hj0
        have hx9 : x = -1 := by rw [hxj]; decide
        subst hx9
        refine lv_iload hx hb dX5_copyBack_5 (lv_at hl 4 rfl) ?_
        refine lv_if_lt (tgt := 28) hx hb dX5_copyBack_7 (by decide) (fun c7 => ?_) (fun c7 => absurd c7 (by decide))
        refine j_vret hx hb hr hlocks hH hw dX5_copyBack_28 ?_
        rw [hfj, cpyU_0] at hA
        exact ⟨rfl, hA, hf⟩
      · obtain ⟨j, rfl⟩ : ∃ j1, j = j1 + 1 := ⟨j - 1, by omega⟩
        rw [nI_pred] at hxj
        subst hxj
        refine lv_iload hx hb dX5_copyBack_5 (lv_at hl 4 rfl) ?_
        refine jz_lt (tgt := 28) hx hb dX5_copyBack_7 (by decide) (by omega) (fun c7 => absurd c7 (by omega)) (fun c7 => ?_)
        refine lv_aload_n hx hb dX5_copyBack_10 rfl (lv_at hl 0 rfl) ?_
        refine lv_iload_n hx hb dX5_copyBack_11 rfl (lv_at hl 2 rfl) ?_
        refine lv_iload hx hb dX5_copyBack_12 (lv_at hl 4 rfl) ?_
        refine j_addN hx hb dX5_copyBack_14 ?_
        refine lv_aload_n hx hb dX5_copyBack_15 rfl (lv_at hl 0 rfl) ?_
        refine lv_iload_n hx hb dX5_copyBack_16 rfl (lv_at hl 1 rfl) ?_
        refine lv_iload hx hb dX5_copyBack_17 (lv_at hl 4 rfl) ?_
        refine j_addN hx hb dX5_copyBack_19 ?_
        refine j_iald hx hb hw hA (k := (fa + j)) rfl (by omega) (by omega) dX5_copyBack_20 ?_
        refine j_iast hx hb hw hA hz (k := (ta + j)) rfl (by omega) (by omega) dX5_copyBack_21 (fun H locs hw hA oq hsz => ?_)
        obtain ⟨f1, ef1⟩ : ∃ y9, y9 = upd fj ((ta + j)) (fj ((fa + j))) := ⟨_, rfl⟩
        rw [← ef1] at hA
        have hf := hf.put oq hsz (by omega)
        refine lv_iinc (v := ((nI (j)) + (-1))) (lv' := [(4, .int _), (0, .ref _), (1, .int _), (2, .int _), (3, .int _)]) hx hb dX5_copyBack_22 hl (k := 4) rfl rfl (by decide) rfl (fun ls hl => ?_)
        refine lv_goto (tgt := 5) hx hb dX5_copyBack_25 (by decide) ?_
        exact ih5  j _ f1 (by first | assumption | omega) (Int32.sub_eq_add_neg _ _).symm (by rw [ef1, hfj, cpyU_step h2 (by omega)]) (by omega) H _ hw hf hA _ (lv_sub hl [1, 2, 3, 4, 0] rfl)
  exact lp5 (k + 1) k _ f (by first | assumption | omega) (by obtain ⟨k9, rfl⟩ : ∃ k9, k = k9 + 1 := ⟨k - 1, by omega⟩; rw [nI_pred]; rfl) cpyU_n.symm (by omega) H0 _ hw hf hA _ (lv_sub hl [1, 2, 3, 4, 0] rfl)

abbrev q_X5_closeOrder (g : jG) (H0 : Heap) (row : Nat) (i : Nat) (σ : Sg) (f : Nat → Int32) : Option Value → Heap → Prop := jV (fun H1 => rTo g row (upo σ (σ.2.2.1.eraseIdx i)) H0 H1)
set_option maxHeartbeats 4000000 in
set_option maxRecDepth 100000 in
theorem c_X5_closeOrder (l : Launch) (g : jG) (z : Nat) (H0 : Heap) (row : Nat) (i : Nat) (σ : Sg) (f : Nat → Int32) (hz : z ≤ row) (hA : jI g H0 row 235 f) (hR : Row f σ) (hs : okS σ) (hi : i < σ.2.2.1.length) : jM l g z yX5_closeOrder wsX5_closeOrder 1 25 [.ref row, .int (nI (i))] H0 (q_X5_closeOrder g H0 row i σ f) := by
  refine j_of (cc := cX5_closeOrder) (n := 2) (ret := none) (by decide) rfl (Nat.le_of_ble_eq_true rfl) ?_
  intro p e s m below meth c hx hb hr hml hown hts hlocks hname hH hw ls hl
  have hl : lv_has ls 2 [(0, .ref row), (1, .int (nI (i)))] := hl
  have hf : jF row 1 H0 H0 := jF.rf
  have hn := hs.2.2.1
  refine lv_aload_n hx hb dX5_closeOrder_0 rfl (lv_at hl 0 rfl) ?_
  refine lv_iload_n hx hb dX5_closeOrder_1 rfl (lv_at hl 1 rfl) ?_
  refine lv_iconst (v := (nI (1))) hx hb dX5_closeOrder_2 (by decide) ?_
  refine j_addN hx hb dX5_closeOrder_3 ?_
  refine lv_iconst (v := (nI (0))) hx hb dX5_closeOrder_4 (by decide) ?_
  refine j_Sp (n := 2) (As := [.int (nI ((i + 1))), .int (nI (0))]) hx hb hml hown hts hw (c_X5_at l g z H0 ((i + 1)) (0)   ) gX5_closeOrder_X5_at rfl (by decide +kernel) ⟨Nat.le_of_ble_eq_true rfl, Nat.le_of_ble_eq_true rfl⟩ rfl hl.1 (Nat.le_of_ble_eq_true rfl) ⟨Nat.zero_le _, Nat.zero_le _⟩ dX5_closeOrder_5 (fun r1 locs hr1 hw => ?_) rfl
  obtain rfl : r1 = (nI (109 + 6 * ((i + 1)) + (0))) := hr1
  refine lv_aload_n hx hb dX5_closeOrder_8 rfl (lv_at hl 0 rfl) ?_
  refine lv_iload_n hx hb dX5_closeOrder_9 rfl (lv_at hl 1 rfl) ?_
  refine lv_iconst (v := (nI (0))) hx hb dX5_closeOrder_10 (by decide) ?_
  refine j_Sp (n := 2) (As := [.int (nI (i)), .int (nI (0))]) hx hb hml hown hts hw (c_X5_at l g z H0 (i) (0)   ) gX5_closeOrder_X5_at rfl (by decide +kernel) ⟨Nat.le_of_ble_eq_true rfl, Nat.le_of_ble_eq_true rfl⟩ rfl hl.1 (Nat.le_of_ble_eq_true rfl) ⟨Nat.zero_le _, Nat.zero_le _⟩ dX5_closeOrder_11 (fun r2 locs hr2 hw => ?_) rfl
  obtain rfl : r2 = (nI (109 + 6 * (i) + (0))) := hr2
  refine lv_bipush (v := (nI (6))) hx hb dX5_closeOrder_14 (by decide) ?_
  refine lv_aload_n hx hb dX5_closeOrder_16 rfl (lv_at hl 0 rfl) ?_
  refine lv_bipush (v := (nI (6))) hx hb dX5_closeOrder_17 (by decide) ?_
  refine j_iald hx hb hw hA (k := 6) rfl (by omega) (by omega) dX5_closeOrder_19 ?_
  refine j_eq (y := nI (σ.2.2.1.length)) hR.2.2.1 ?_
  refine lv_iconst (v := (nI (1))) hx hb dX5_closeOrder_20 (by decide) ?_
  refine j_subN hx hb (by omega) dX5_closeOrder_21 ?_
  refine lv_iload_n hx hb dX5_closeOrder_22 rfl (lv_at hl 1 rfl) ?_
  refine j_subN hx hb (by omega) dX5_closeOrder_23 ?_
  refine j_mulN hx hb dX5_closeOrder_24 ?_
  refine j_Sv (n := 5) (As := [.ref row, .int (nI (109 + 6 * ((i + 1)) + (0))), .ref row, .int (nI (109 + 6 * (i) + (0))), .int (nI ((6 * ((σ.2.2.1.length - 1) - i))))]) hx hb hml hown hts hw (c_X5_copyS l g z H0 row (109 + 6 * ((i + 1)) + (0)) (109 + 6 * (i) + (0)) ((6 * ((σ.2.2.1.length - 1) - i))) 235 f hz hA (by first | assumption | omega) (by first | assumption | omega) (by first | assumption | omega)) gX5_closeOrder_X5_copy rfl (by decide +kernel) ⟨Nat.le_of_ble_eq_true rfl, Nat.le_of_ble_eq_true rfl⟩ rfl hl.1 (Nat.le_of_ble_eq_true rfl) ⟨Nat.zero_le _, Nat.zero_le _⟩ dX5_closeOrder_25 (fun H locs hr3 hw hsz => ?_) rfl
  obtain ⟨hA, hf2⟩ := hr3
  obtain ⟨f4, ef4⟩ : ∃ y9, y9 = va_cpy f f (109 + 6 * ((i + 1)) + (0)) (109 + 6 * (i) + (0)) ((6 * ((σ.2.2.1.length - 1) - i))) := ⟨_, rfl⟩
  rw [← ef4] at hA
  have hf := hf.step hf2 (by omega)
  refine lv_aload_n hx hb dX5_closeOrder_28 rfl (lv_at hl 0 rfl) ?_
  refine lv_bipush (v := (nI (6))) hx hb dX5_closeOrder_29 (by decide) ?_
  refine lv_dup2_11 hx hb dX5_closeOrder_31 rfl rfl ?_
  refine j_iald hx hb hw hA (k := 6) rfl (by omega) (by omega) dX5_closeOrder_32 ?_
  refine j_eq (y := nI (σ.2.2.1.length)) (by rw [ef4]; simp only [va_cpy]; rw [if_neg (by omega)]; exact hR.2.2.1) ?_
  refine lv_iconst (v := (nI (1))) hx hb dX5_closeOrder_33 (by decide) ?_
  refine j_subN hx hb (by omega) dX5_closeOrder_34 ?_
  refine j_iast hx hb hw hA hz (k := 6) rfl (by omega) (by omega) dX5_closeOrder_35 (fun H locs hw hA oq hsz => ?_)
  obtain ⟨f5, ef5⟩ : ∃ y9, y9 = upd f4 (6) (nI ((σ.2.2.1.length - 1))) := ⟨_, rfl⟩
  rw [← ef5] at hA
  have hf := hf.put oq hsz (by omega)
  refine j_vret hx hb hr hlocks hH hw dX5_closeOrder_36 ?_
  rw [ef5, ef4] at hA
  exact ⟨rfl, ⟨_, hA, Row.close hR hs hi rfl⟩, hs.erase i, hf⟩

abbrev q_X5_enter (g : jG) (H0 : Heap) (row : Nat) (cu : Nat) (lt : Nat) (it : Nat) (fe : Nat) (σ : Sg) (f : Nat → Int32) : Option Value → Heap → Prop := jV (fun H1 => rTo g row (upo σ (σ.2.2.1 ++ [mkO cu lt it fe 0 0])) H0 H1)
set_option maxHeartbeats 4000000 in
set_option maxRecDepth 100000 in
theorem c_X5_enter (l : Launch) (g : jG) (z : Nat) (H0 : Heap) (row : Nat) (cu : Nat) (lt : Nat) (it : Nat) (fe : Nat) (σ : Sg) (f : Nat → Int32) (hz : z ≤ row) (hA : jI g H0 row 235 f) (hR : Row f σ) (hs : okS σ) (hn : σ.2.2.1.length < 21) (ho : okO (mkO cu lt it fe 0 0)) : jM l g z yX5_enter wsX5_enter 1 21 [.ref row, .int (nI (cu)), .int (nI (lt)), .int (nI (it)), .int (nI (fe))] H0 (q_X5_enter g H0 row cu lt it fe σ f) := by
  refine j_of (cc := cX5_enter) (n := 6) (ret := none) (by decide) rfl (Nat.le_of_ble_eq_true rfl) ?_
  intro p e s m below meth c hx hb hr hml hown hts hlocks hname hH hw ls hl
  have hl : lv_has ls 6 [(0, .ref row), (1, .int (nI (cu))), (2, .int (nI (lt))), (3, .int (nI (it))), (4, .int (nI (fe)))] := hl
  have hf : jF row 1 H0 H0 := jF.rf
  refine lv_aload_n hx hb dX5_enter_0 rfl (lv_at hl 0 rfl) ?_
  refine lv_bipush (v := (nI (6))) hx hb dX5_enter_1 (by decide) ?_
  refine j_iald hx hb hw hA (k := 6) rfl (by omega) (by omega) dX5_enter_3 ?_
  refine j_eq (y := nI (σ.2.2.1.length)) hR.2.2.1 ?_
  refine lv_istore (lv' := [(5, .int _), (0, .ref _), (1, .int _), (2, .int _), (3, .int _), (4, .int _)]) hx hb dX5_enter_4 hl (by decide) rfl (fun ls hl => ?_)
  refine lv_aload_n hx hb dX5_enter_6 rfl (lv_at hl 1 rfl) ?_
  refine lv_iload hx hb dX5_enter_7 (lv_at hl 0 rfl) ?_
  refine lv_iconst (v := (nI (0))) hx hb dX5_enter_9 (by decide) ?_
  refine j_Sp (n := 2) (As := [.int (nI (σ.2.2.1.length)), .int (nI (0))]) hx hb hml hown hts hw (c_X5_at l g z H0 (σ.2.2.1.length) (0)   ) gX5_enter_X5_at rfl (by decide +kernel) ⟨Nat.le_of_ble_eq_true rfl, Nat.le_of_ble_eq_true rfl⟩ rfl hl.1 (Nat.le_of_ble_eq_true rfl) ⟨Nat.zero_le _, Nat.zero_le _⟩ dX5_enter_10 (fun r1 locs hr1 hw => ?_) rfl
  obtain rfl : r1 = (nI (109 + 6 * (σ.2.2.1.length) + (0))) := hr1
  refine lv_iload_n hx hb dX5_enter_13 rfl (lv_at hl 2 rfl) ?_
  refine j_iast hx hb hw hA hz (k := 109 + 6 * (σ.2.2.1.length) + (0)) rfl (by omega) (by omega) dX5_enter_14 (fun H locs hw hA oq hsz => ?_)
  obtain ⟨f2, ef2⟩ : ∃ y9, y9 = upd f (109 + 6 * (σ.2.2.1.length) + (0)) (nI (cu)) := ⟨_, rfl⟩
  rw [← ef2] at hA
  have hf := hf.put oq hsz (by omega)
  refine lv_aload_n hx hb dX5_enter_15 rfl (lv_at hl 1 rfl) ?_
  refine lv_iload hx hb dX5_enter_16 (lv_at hl 0 rfl) ?_
  refine lv_iconst (v := (nI (1))) hx hb dX5_enter_18 (by decide) ?_
  refine j_Sp (n := 2) (As := [.int (nI (σ.2.2.1.length)), .int (nI (1))]) hx hb hml hown hts hw (c_X5_at l g z H (σ.2.2.1.length) (1)   ) gX5_enter_X5_at rfl (by decide +kernel) ⟨Nat.le_of_ble_eq_true rfl, Nat.le_of_ble_eq_true rfl⟩ rfl hl.1 (Nat.le_of_ble_eq_true rfl) ⟨Nat.zero_le _, Nat.zero_le _⟩ dX5_enter_19 (fun r3 locs hr3 hw => ?_) rfl
  obtain rfl : r3 = (nI (109 + 6 * (σ.2.2.1.length) + (1))) := hr3
  refine lv_iload_n hx hb dX5_enter_22 rfl (lv_at hl 3 rfl) ?_
  refine j_iast hx hb hw hA hz (k := 109 + 6 * (σ.2.2.1.length) + (1)) rfl (by omega) (by omega) dX5_enter_23 (fun H locs hw hA oq hsz => ?_)
  obtain ⟨f4, ef4⟩ : ∃ y9, y9 = upd f2 (109 + 6 * (σ.2.2.1.length) + (1)) (nI (lt)) := ⟨_, rfl⟩
  rw [← ef4] at hA
  have hf := hf.put oq hsz (by omega)
  refine lv_aload_n hx hb dX5_enter_24 rfl (lv_at hl 1 rfl) ?_
  refine lv_iload hx hb dX5_enter_25 (lv_at hl 0 rfl) ?_
  refine lv_iconst (v := (nI (2))) hx hb dX5_enter_27 (by decide) ?_
  refine j_Sp (n := 2) (As := [.int (nI (σ.2.2.1.length)), .int (nI (2))]) hx hb hml hown hts hw (c_X5_at l g z H (σ.2.2.1.length) (2)   ) gX5_enter_X5_at rfl (by decide +kernel) ⟨Nat.le_of_ble_eq_true rfl, Nat.le_of_ble_eq_true rfl⟩ rfl hl.1 (Nat.le_of_ble_eq_true rfl) ⟨Nat.zero_le _, Nat.zero_le _⟩ dX5_enter_28 (fun r5 locs hr5 hw => ?_) rfl
  obtain rfl : r5 = (nI (109 + 6 * (σ.2.2.1.length) + (2))) := hr5
  refine lv_iload_n hx hb dX5_enter_31 rfl (lv_at hl 4 rfl) ?_
  refine j_iast hx hb hw hA hz (k := 109 + 6 * (σ.2.2.1.length) + (2)) rfl (by omega) (by omega) dX5_enter_32 (fun H locs hw hA oq hsz => ?_)
  obtain ⟨f6, ef6⟩ : ∃ y9, y9 = upd f4 (109 + 6 * (σ.2.2.1.length) + (2)) (nI (it)) := ⟨_, rfl⟩
  rw [← ef6] at hA
  have hf := hf.put oq hsz (by omega)
  refine lv_aload_n hx hb dX5_enter_33 rfl (lv_at hl 1 rfl) ?_
  refine lv_iload hx hb dX5_enter_34 (lv_at hl 0 rfl) ?_
  refine lv_iconst (v := (nI (3))) hx hb dX5_enter_36 (by decide) ?_
  refine j_Sp (n := 2) (As := [.int (nI (σ.2.2.1.length)), .int (nI (3))]) hx hb hml hown hts hw (c_X5_at l g z H (σ.2.2.1.length) (3)   ) gX5_enter_X5_at rfl (by decide +kernel) ⟨Nat.le_of_ble_eq_true rfl, Nat.le_of_ble_eq_true rfl⟩ rfl hl.1 (Nat.le_of_ble_eq_true rfl) ⟨Nat.zero_le _, Nat.zero_le _⟩ dX5_enter_37 (fun r7 locs hr7 hw => ?_) rfl
  obtain rfl : r7 = (nI (109 + 6 * (σ.2.2.1.length) + (3))) := hr7
  refine lv_iload hx hb dX5_enter_40 (lv_at hl 5 rfl) ?_
  refine j_iast hx hb hw hA hz (k := 109 + 6 * (σ.2.2.1.length) + (3)) rfl (by omega) (by omega) dX5_enter_42 (fun H locs hw hA oq hsz => ?_)
  obtain ⟨f8, ef8⟩ : ∃ y9, y9 = upd f6 (109 + 6 * (σ.2.2.1.length) + (3)) (nI (fe)) := ⟨_, rfl⟩
  rw [← ef8] at hA
  have hf := hf.put oq hsz (by omega)
  refine lv_aload_n hx hb dX5_enter_43 rfl (lv_at hl 1 rfl) ?_
  refine lv_iload hx hb dX5_enter_44 (lv_at hl 0 rfl) ?_
  refine lv_iconst (v := (nI (4))) hx hb dX5_enter_46 (by decide) ?_
  refine j_Sp (n := 2) (As := [.int (nI (σ.2.2.1.length)), .int (nI (4))]) hx hb hml hown hts hw (c_X5_at l g z H (σ.2.2.1.length) (4)   ) gX5_enter_X5_at rfl (by decide +kernel) ⟨Nat.le_of_ble_eq_true rfl, Nat.le_of_ble_eq_true rfl⟩ rfl hl.1 (Nat.le_of_ble_eq_true rfl) ⟨Nat.zero_le _, Nat.zero_le _⟩ dX5_enter_47 (fun r9 locs hr9 hw => ?_) rfl
  obtain rfl : r9 = (nI (109 + 6 * (σ.2.2.1.length) + (4))) := hr9
  refine lv_iconst (v := (nI (0))) hx hb dX5_enter_50 (by decide) ?_
  refine j_iast hx hb hw hA hz (k := 109 + 6 * (σ.2.2.1.length) + (4)) rfl (by omega) (by omega) dX5_enter_51 (fun H locs hw hA oq hsz => ?_)
  obtain ⟨f10, ef10⟩ : ∃ y9, y9 = upd f8 (109 + 6 * (σ.2.2.1.length) + (4)) (nI (0)) := ⟨_, rfl⟩
  rw [← ef10] at hA
  have hf := hf.put oq hsz (by omega)
  refine lv_aload_n hx hb dX5_enter_52 rfl (lv_at hl 1 rfl) ?_
  refine lv_iload hx hb dX5_enter_53 (lv_at hl 0 rfl) ?_
  refine lv_iconst (v := (nI (5))) hx hb dX5_enter_55 (by decide) ?_
  refine j_Sp (n := 2) (As := [.int (nI (σ.2.2.1.length)), .int (nI (5))]) hx hb hml hown hts hw (c_X5_at l g z H (σ.2.2.1.length) (5)   ) gX5_enter_X5_at rfl (by decide +kernel) ⟨Nat.le_of_ble_eq_true rfl, Nat.le_of_ble_eq_true rfl⟩ rfl hl.1 (Nat.le_of_ble_eq_true rfl) ⟨Nat.zero_le _, Nat.zero_le _⟩ dX5_enter_56 (fun r11 locs hr11 hw => ?_) rfl
  obtain rfl : r11 = (nI (109 + 6 * (σ.2.2.1.length) + (5))) := hr11
  refine lv_iconst (v := (nI (0))) hx hb dX5_enter_59 (by decide) ?_
  refine j_iast hx hb hw hA hz (k := 109 + 6 * (σ.2.2.1.length) + (5)) rfl (by omega) (by omega) dX5_enter_60 (fun H locs hw hA oq hsz => ?_)
  obtain ⟨f12, ef12⟩ : ∃ y9, y9 = upd f10 (109 + 6 * (σ.2.2.1.length) + (5)) (nI (0)) := ⟨_, rfl⟩
  rw [← ef12] at hA
  have hf := hf.put oq hsz (by omega)
  refine lv_aload_n hx hb dX5_enter_61 rfl (lv_at hl 1 rfl) ?_
  refine lv_bipush (v := (nI (6))) hx hb dX5_enter_62 (by decide) ?_
  refine lv_dup2_11 hx hb dX5_enter_64 rfl rfl ?_
  refine j_iald hx hb hw hA (k := 6) rfl (by omega) (by omega) dX5_enter_65 ?_
  refine j_eq (y := nI (σ.2.2.1.length)) (by rw [ef12, ef10, ef8, ef6, ef4, ef2]; rw [pk_un (by omega), pk_un (by omega), pk_un (by omega), pk_un (by omega), pk_un (by omega), pk_un (by omega)]; exact hR.2.2.1) ?_
  refine lv_iconst (v := (nI (1))) hx hb dX5_enter_66 (by decide) ?_
  refine j_addN hx hb dX5_enter_67 ?_
  refine j_iast hx hb hw hA hz (k := 6) rfl (by omega) (by omega) dX5_enter_68 (fun H locs hw hA oq hsz => ?_)
  obtain ⟨f13, ef13⟩ : ∃ y9, y9 = upd f12 (6) (nI ((σ.2.2.1.length + 1))) := ⟨_, rfl⟩
  rw [← ef13] at hA
  have hf := hf.put oq hsz (by omega)
  refine j_vret hx hb hr hlocks hH hw dX5_enter_69 ?_
  rw [ef13, ef12, ef10, ef8, ef6, ef4, ef2] at hA
  exact ⟨rfl, ⟨_, hA, Row.enter hR hs (mkO cu lt it fe 0 0)⟩, hs.so (by rw [List.length_append]; exact hn) (fun o h => (List.mem_append.mp h).elim (hs.2.2.2.1 o) (fun q => by rw [List.mem_singleton.mp q]; exact ho)), hf⟩

abbrev q_X5_deliver (g : jG) (H0 : Heap) (row : Nat) (cu : Nat) (lt : Nat) (it : Nat) (wt : Nat) (fe : Nat) (σ : Sg) (f : Nat → Int32) : Option Value → Heap → Prop := jV (fun H1 => rTo g row (note σ (mkO cu lt it fe wt 0)) H0 H1)
set_option maxHeartbeats 4000000 in
set_option maxRecDepth 100000 in
theorem c_X5_deliver (l : Launch) (g : jG) (z : Nat) (H0 : Heap) (row : Nat) (cu : Nat) (lt : Nat) (it : Nat) (wt : Nat) (fe : Nat) (σ : Sg) (f : Nat → Int32) (hz : z ≤ row) (hA : jI g H0 row 235 f) (hR : Row f σ) (hs : okS σ) (ho : okO (mkO cu lt it fe wt 0)) : jM l g z yX5_deliver wsX5_deliver 1 24 [.ref row, .int (nI (cu)), .int (nI (lt)), .int (nI (it)), .int (nI (wt)), .int (nI (fe))] H0 (q_X5_deliver g H0 row cu lt it wt fe σ f) := by
  refine j_of (cc := cX5_deliver) (n := 6) (ret := none) (by decide) rfl (Nat.le_of_ble_eq_true rfl) ?_
  intro p e s m below meth c hx hb hr hml hown hts hlocks hname hH hw ls hl
  have hl : lv_has ls 6 [(0, .ref row), (1, .int (nI (cu))), (2, .int (nI (lt))), (3, .int (nI (it))), (4, .int (nI (wt))), (5, .int (nI (fe)))] := hl
  have hf : jF row 1 H0 H0 := jF.rf
  have hcu : cu < 4 := ho.1
  have hl10 := hs.2.2.2.2.1
  refine lv_aload_n hx hb dX5_deliver_0 rfl (lv_at hl 0 rfl) ?_
  refine lv_bipush (v := (nI (59))) hx hb dX5_deliver_1 (by decide) ?_
  refine lv_bipush (v := (nI (64))) hx hb dX5_deliver_3 (by decide) ?_
  refine lv_bipush (v := (nI (45))) hx hb dX5_deliver_5 (by decide) ?_
  refine j_Sv (n := 4) (As := [.ref row, .int (nI (59)), .int (nI (64)), .int (nI (45))]) hx hb hml hown hts hw (c_X5_copyBack l g z H0 row (59) (64) (45) 235 f hz hA (by first | assumption | omega) (by first | assumption | omega) (by first | assumption | omega) (by first | assumption | omega)) gX5_deliver_X5_copyBack rfl (by decide +kernel) ⟨Nat.le_of_ble_eq_true rfl, Nat.le_of_ble_eq_true rfl⟩ rfl hl.1 (Nat.le_of_ble_eq_true rfl) ⟨Nat.zero_le _, Nat.zero_le _⟩ dX5_deliver_7 (fun H locs hr1 hw hsz => ?_) rfl
  obtain ⟨hA, hf2⟩ := hr1
  obtain ⟨f2, ef2⟩ : ∃ y9, y9 = va_cpy f f (59) (64) (45) := ⟨_, rfl⟩
  rw [← ef2] at hA
  have hf := hf.step hf2 (by omega)
  refine lv_aload_n hx hb dX5_deliver_10 rfl (lv_at hl 0 rfl) ?_
  refine lv_bipush (v := (nI (59))) hx hb dX5_deliver_11 (by decide) ?_
  refine lv_iload_n hx hb dX5_deliver_13 rfl (lv_at hl 1 rfl) ?_
  refine j_iast hx hb hw hA hz (k := 59) rfl (by omega) (by omega) dX5_deliver_14 (fun H locs hw hA oq hsz => ?_)
  obtain ⟨f3, ef3⟩ : ∃ y9, y9 = upd f2 (59) (nI (cu)) := ⟨_, rfl⟩
  rw [← ef3] at hA
  have hf := hf.put oq hsz (by omega)
  refine lv_aload_n hx hb dX5_deliver_15 rfl (lv_at hl 0 rfl) ?_
  refine lv_bipush (v := (nI (60))) hx hb dX5_deliver_16 (by decide) ?_
  refine lv_iload_n hx hb dX5_deliver_18 rfl (lv_at hl 2 rfl) ?_
  refine j_iast hx hb hw hA hz (k := 60) rfl (by omega) (by omega) dX5_deliver_19 (fun H locs hw hA oq hsz => ?_)
  obtain ⟨f4, ef4⟩ : ∃ y9, y9 = upd f3 (60) (nI (lt)) := ⟨_, rfl⟩
  rw [← ef4] at hA
  have hf := hf.put oq hsz (by omega)
  refine lv_aload_n hx hb dX5_deliver_20 rfl (lv_at hl 0 rfl) ?_
  refine lv_bipush (v := (nI (61))) hx hb dX5_deliver_21 (by decide) ?_
  refine lv_iload_n hx hb dX5_deliver_23 rfl (lv_at hl 3 rfl) ?_
  refine j_iast hx hb hw hA hz (k := 61) rfl (by omega) (by omega) dX5_deliver_24 (fun H locs hw hA oq hsz => ?_)
  obtain ⟨f5, ef5⟩ : ∃ y9, y9 = upd f4 (61) (nI (it)) := ⟨_, rfl⟩
  rw [← ef5] at hA
  have hf := hf.put oq hsz (by omega)
  refine lv_aload_n hx hb dX5_deliver_25 rfl (lv_at hl 0 rfl) ?_
  refine lv_bipush (v := (nI (62))) hx hb dX5_deliver_26 (by decide) ?_
  refine lv_iload hx hb dX5_deliver_28 (lv_at hl 4 rfl) ?_
  refine j_iast hx hb hw hA hz (k := 62) rfl (by omega) (by omega) dX5_deliver_30 (fun H locs hw hA oq hsz => ?_)
  obtain ⟨f6, ef6⟩ : ∃ y9, y9 = upd f5 (62) (nI (wt)) := ⟨_, rfl⟩
  rw [← ef6] at hA
  have hf := hf.put oq hsz (by omega)
  refine lv_aload_n hx hb dX5_deliver_31 rfl (lv_at hl 0 rfl) ?_
  refine lv_bipush (v := (nI (63))) hx hb dX5_deliver_32 (by decide) ?_
  refine lv_iload hx hb dX5_deliver_34 (lv_at hl 5 rfl) ?_
  refine j_iast hx hb hw hA hz (k := 63) rfl (by omega) (by omega) dX5_deliver_36 (fun H locs hw hA oq hsz => ?_)
  obtain ⟨f7, ef7⟩ : ∃ y9, y9 = upd f6 (63) (nI (fe)) := ⟨_, rfl⟩
  rw [← ef7] at hA
  have hf := hf.put oq hsz (by omega)
  refine lv_aload_n hx hb dX5_deliver_37 rfl (lv_at hl 0 rfl) ?_
  refine lv_bipush (v := (nI (58))) hx hb dX5_deliver_38 (by decide) ?_
  refine lv_dup2_11 hx hb dX5_deliver_40 rfl rfl ?_
  refine j_iald hx hb hw hA (k := 58) rfl (by omega) (by omega) dX5_deliver_41 ?_
  refine j_eq (y := nI (σ.2.2.2.length)) (by rw [ef7, ef6, ef5, ef4, ef3, ef2]; rw [pk_un (by omega), pk_un (by omega), pk_un (by omega), pk_un (by omega), pk_un (by omega)]; simp only [va_cpy]; rw [if_neg (by omega)]; exact hR.2.2.2.1) ?_
  refine lv_aload_n hx hb dX5_deliver_42 rfl (lv_at hl 0 rfl) ?_
  refine lv_bipush (v := (nI (58))) hx hb dX5_deliver_43 (by decide) ?_
  refine j_iald hx hb hw hA (k := 58) rfl (by omega) (by omega) dX5_deliver_45 ?_
  refine j_eq (y := nI (σ.2.2.2.length)) (by rw [ef7, ef6, ef5, ef4, ef3, ef2]; rw [pk_un (by omega), pk_un (by omega), pk_un (by omega), pk_un (by omega), pk_un (by omega)]; simp only [va_cpy]; rw [if_neg (by omega)]; exact hR.2.2.2.1) ?_
  refine lv_bipush (v := (nI (10))) hx hb dX5_deliver_46 (by decide) ?_
  refine jn_ge (tgt := 55) hx hb dX5_deliver_48 (by decide) (by omega) (by omega) (fun c48 => ?_) (fun c48 => ?_)
  · refine lv_iconst (v := (nI (0))) hx hb dX5_deliver_55 (by decide) ?_
    refine j_addN hx hb dX5_deliver_56 ?_
    refine j_iast hx hb hw hA hz (k := 58) rfl (by omega) (by omega) dX5_deliver_57 (fun H locs hw hA oq hsz => ?_)
    obtain ⟨f8, ef8⟩ : ∃ y9, y9 = upd f7 (58) (nI ((σ.2.2.2.length + 0))) := ⟨_, rfl⟩
    rw [← ef8] at hA
    have hf := hf.put oq hsz (by omega)
    have hR : Row f8 (upl σ ((mkO cu lt it fe wt 0 :: σ.2.2.2).take 10)) := by
      rw [ef8, ef7, ef6, ef5, ef4, ef3, ef2]
      exact Row.late hR hs (mkO cu lt it fe wt 0) (n := σ.2.2.2.length + 0) (by rw [List.length_take, List.length_cons]; omega)
    have hs := hs.late ho
    refine lv_aload_n hx hb dX5_deliver_58 rfl (lv_at hl 0 rfl) ?_
    refine lv_bipush (v := (nI (7))) hx hb dX5_deliver_59 (by decide) ?_
    refine lv_dup2_11 hx hb dX5_deliver_61 rfl rfl ?_
    refine j_iald hx hb hw hA (k := 7) rfl (by omega) (by omega) dX5_deliver_62 ?_
    refine j_eq (y := nI (σ.1 7)) (hR.n 7 (by omega)) ?_
    refine lv_iconst (v := (nI (1))) hx hb dX5_deliver_63 (by decide) ?_
    refine j_addN hx hb dX5_deliver_64 ?_
    refine j_iast hx hb hw hA hz (k := 7) rfl (by omega) (by omega) dX5_deliver_65 (fun H locs hw hA oq hsz => ?_)
    obtain ⟨f9, ef9⟩ : ∃ y9, y9 = upd f8 (7) (nI ((σ.1 7 + 1))) := ⟨_, rfl⟩
    rw [← ef9] at hA
    have hf := hf.put oq hsz (by omega)
    have hR := hR.sn (k := 7) (v := σ.1 7 + 1) (by omega) rfl
    rw [← ef9] at hR
    have hs := hs.sn (k := 7) (v := σ.1 7 + 1) (by omega)
    refine lv_aload_n hx hb dX5_deliver_66 rfl (lv_at hl 0 rfl) ?_
    refine lv_bipush (v := (nI (50))) hx hb dX5_deliver_67 (by decide) ?_
    refine lv_iload_n hx hb dX5_deliver_69 rfl (lv_at hl 1 rfl) ?_
    refine j_addN hx hb dX5_deliver_70 ?_
    refine lv_dup2_11 hx hb dX5_deliver_71 rfl rfl ?_
    refine j_iald hx hb hw hA (k := (50 + cu)) rfl (by omega) (by omega) dX5_deliver_72 ?_
    refine j_eq (y := nI (σ.1 (50 + cu))) ((hR.n _ (by omega)).trans (congrArg nI (nSet_n _ _ (by omega)))) ?_
    refine lv_iconst (v := (nI (1))) hx hb dX5_deliver_73 (by decide) ?_
    refine j_addN hx hb dX5_deliver_74 ?_
    refine j_iast hx hb hw hA hz (k := (50 + cu)) rfl (by omega) (by omega) dX5_deliver_75 (fun H locs hw hA oq hsz => ?_)
    obtain ⟨f10, ef10⟩ : ∃ y9, y9 = upd f9 ((50 + cu)) (nI ((σ.1 (50 + cu) + 1))) := ⟨_, rfl⟩
    rw [← ef10] at hA
    have hf := hf.put oq hsz (by omega)
    have hR := hR.sn (k := 50 + cu) (v := σ.1 (50 + cu) + 1) (by omega) rfl
    rw [← ef10] at hR
    have hs := hs.sn (k := 50 + cu) (v := σ.1 (50 + cu) + 1) (by omega)
    refine lv_aload_n hx hb dX5_deliver_76 rfl (lv_at hl 0 rfl) ?_
    refine lv_bipush (v := (nI (10))) hx hb dX5_deliver_77 (by decide) ?_
    refine lv_dup2_11 hx hb dX5_deliver_79 rfl rfl ?_
    refine j_iald hx hb hw hA (k := 10) rfl (by omega) (by omega) dX5_deliver_80 ?_
    refine j_eq (y := nI (σ.1 10)) ((hR.n 10 (by omega)).trans (congrArg nI ((upn_n (by omega)).trans (upn_n (by omega))))) ?_
    refine lv_iload hx hb dX5_deliver_81 (lv_at hl 5 rfl) ?_
    refine j_addN hx hb dX5_deliver_83 ?_
    refine j_iast hx hb hw hA hz (k := 10) rfl (by omega) (by omega) dX5_deliver_84 (fun H locs hw hA oq hsz => ?_)
    obtain ⟨f11, ef11⟩ : ∃ y9, y9 = upd f10 (10) (nI ((σ.1 10 + fe))) := ⟨_, rfl⟩
    rw [← ef11] at hA
    have hf := hf.put oq hsz (by omega)
    have hR := hR.sn (k := 10) (v := σ.1 10 + fe) (by omega) rfl
    rw [← ef11] at hR
    have hs := hs.sn (k := 10) (v := σ.1 10 + fe) (by omega)
    refine j_vret hx hb hr hlocks hH hw dX5_deliver_85 ?_
    exact ⟨rfl, ⟨_, hA, hR⟩, hs, hf⟩
  · refine lv_iconst (v := (nI (1))) hx hb dX5_deliver_51 (by decide) ?_
    refine lv_goto (tgt := 56) hx hb dX5_deliver_52 (by decide) ?_
    refine j_addN hx hb dX5_deliver_56 ?_
    refine j_iast hx hb hw hA hz (k := 58) rfl (by omega) (by omega) dX5_deliver_57 (fun H locs hw hA oq hsz => ?_)
    obtain ⟨f12, ef12⟩ : ∃ y9, y9 = upd f7 (58) (nI ((σ.2.2.2.length + 1))) := ⟨_, rfl⟩
    rw [← ef12] at hA
    have hf := hf.put oq hsz (by omega)
    have hR : Row f12 (upl σ ((mkO cu lt it fe wt 0 :: σ.2.2.2).take 10)) := by
      rw [ef12, ef7, ef6, ef5, ef4, ef3, ef2]
      exact Row.late hR hs (mkO cu lt it fe wt 0) (n := σ.2.2.2.length + 1) (by rw [List.length_take, List.length_cons]; omega)
    have hs := hs.late ho
    refine lv_aload_n hx hb dX5_deliver_58 rfl (lv_at hl 0 rfl) ?_
    refine lv_bipush (v := (nI (7))) hx hb dX5_deliver_59 (by decide) ?_
    refine lv_dup2_11 hx hb dX5_deliver_61 rfl rfl ?_
    refine j_iald hx hb hw hA (k := 7) rfl (by omega) (by omega) dX5_deliver_62 ?_
    refine j_eq (y := nI (σ.1 7)) (hR.n 7 (by omega)) ?_
    refine lv_iconst (v := (nI (1))) hx hb dX5_deliver_63 (by decide) ?_
    refine j_addN hx hb dX5_deliver_64 ?_
    refine j_iast hx hb hw hA hz (k := 7) rfl (by omega) (by omega) dX5_deliver_65 (fun H locs hw hA oq hsz => ?_)
    obtain ⟨f13, ef13⟩ : ∃ y9, y9 = upd f12 (7) (nI ((σ.1 7 + 1))) := ⟨_, rfl⟩
    rw [← ef13] at hA
    have hf := hf.put oq hsz (by omega)
    have hR := hR.sn (k := 7) (v := σ.1 7 + 1) (by omega) rfl
    rw [← ef13] at hR
    have hs := hs.sn (k := 7) (v := σ.1 7 + 1) (by omega)
    refine lv_aload_n hx hb dX5_deliver_66 rfl (lv_at hl 0 rfl) ?_
    refine lv_bipush (v := (nI (50))) hx hb dX5_deliver_67 (by decide) ?_
    refine lv_iload_n hx hb dX5_deliver_69 rfl (lv_at hl 1 rfl) ?_
    refine j_addN hx hb dX5_deliver_70 ?_
    refine lv_dup2_11 hx hb dX5_deliver_71 rfl rfl ?_
    refine j_iald hx hb hw hA (k := (50 + cu)) rfl (by omega) (by omega) dX5_deliver_72 ?_
    refine j_eq (y := nI (σ.1 (50 + cu))) ((hR.n _ (by omega)).trans (congrArg nI (nSet_n _ _ (by omega)))) ?_
    refine lv_iconst (v := (nI (1))) hx hb dX5_deliver_73 (by decide) ?_
    refine j_addN hx hb dX5_deliver_74 ?_
    refine j_iast hx hb hw hA hz (k := (50 + cu)) rfl (by omega) (by omega) dX5_deliver_75 (fun H locs hw hA oq hsz => ?_)
    obtain ⟨f14, ef14⟩ : ∃ y9, y9 = upd f13 ((50 + cu)) (nI ((σ.1 (50 + cu) + 1))) := ⟨_, rfl⟩
    rw [← ef14] at hA
    have hf := hf.put oq hsz (by omega)
    have hR := hR.sn (k := 50 + cu) (v := σ.1 (50 + cu) + 1) (by omega) rfl
    rw [← ef14] at hR
    have hs := hs.sn (k := 50 + cu) (v := σ.1 (50 + cu) + 1) (by omega)
    refine lv_aload_n hx hb dX5_deliver_76 rfl (lv_at hl 0 rfl) ?_
    refine lv_bipush (v := (nI (10))) hx hb dX5_deliver_77 (by decide) ?_
    refine lv_dup2_11 hx hb dX5_deliver_79 rfl rfl ?_
    refine j_iald hx hb hw hA (k := 10) rfl (by omega) (by omega) dX5_deliver_80 ?_
    refine j_eq (y := nI (σ.1 10)) ((hR.n 10 (by omega)).trans (congrArg nI ((upn_n (by omega)).trans (upn_n (by omega))))) ?_
    refine lv_iload hx hb dX5_deliver_81 (lv_at hl 5 rfl) ?_
    refine j_addN hx hb dX5_deliver_83 ?_
    refine j_iast hx hb hw hA hz (k := 10) rfl (by omega) (by omega) dX5_deliver_84 (fun H locs hw hA oq hsz => ?_)
    obtain ⟨f15, ef15⟩ : ∃ y9, y9 = upd f14 (10) (nI ((σ.1 10 + fe))) := ⟨_, rfl⟩
    rw [← ef15] at hA
    have hf := hf.put oq hsz (by omega)
    have hR := hR.sn (k := 10) (v := σ.1 10 + fe) (by omega) rfl
    rw [← ef15] at hR
    have hs := hs.sn (k := 10) (v := σ.1 10 + fe) (by omega)
    refine j_vret hx hb hr hlocks hH hw dX5_deliver_85 ?_
    exact ⟨rfl, ⟨_, hA, hR⟩, hs, hf⟩
