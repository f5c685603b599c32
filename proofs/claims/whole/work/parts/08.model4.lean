abbrev q_X5_choice (g : jG) (H0 : Heap) (row : Nat) (σ : Sg) (f : Nat → Int32) : Option Value → Heap → Prop := jN (fun r H1 => H1 = H0 ∧ (r = oI (wantS σ)))
set_option maxHeartbeats 4000000 in
set_option maxRecDepth 100000 in
theorem c_X5_choice (l : Launch) (g : jG) (z : Nat) (H0 : Heap) (row : Nat) (σ : Sg) (f : Nat → Int32) (hA : jI g H0 row 235 f) (hR : Row f σ) (hs : okS σ) : jM l g z yX5_choice wsX5_choice 2 44 [.ref row] H0 (q_X5_choice g H0 row σ f) := by
  refine j_of (cc := cX5_choice) (n := 6) (ret := some .int) (by decide) rfl (Nat.le_of_ble_eq_true rfl) ?_
  intro p e s m below meth c hx hb hr hml hown hts hlocks hname hH hw ls hl
  have hl : lv_has ls 6 [(0, .ref row)] := hl
  have hn := hs.2.2.1
  have h4 := hs.1.2.2.2.2.2.2.2
  have hcn : ∀ q, ocnt 1 q σ.2.2.1 ≤ 21 := fun q => Nat.le_trans ocnt_le hn
  have hfs : ∀ q, fsum q σ.2.2.1 ≤ 189 := fun q => Nat.le_trans (fsum_le hs.2.2.2.1) (by omega)
  have hwt : ∀ q, wtS σ q ≤ 189 := fun q => by have a := hcn q; have b := hfs q; unfold wtS; split <;> omega
  refine lv_aload_n hx hb dX5_choice_0 rfl (lv_at hl 0 rfl) ?_
  refine lv_bipush (v := (nI (6))) hx hb dX5_choice_1 (by decide) ?_
  refine j_iald hx hb hw hA (k := 6) rfl (by omega) (by omega) dX5_choice_3 ?_
  refine j_eq (y := nI (σ.2.2.1.length)) hR.2.2.1 ?_
  refine jz_ne (tgt := 9) hx hb dX5_choice_4 (by decide) (by omega) (fun c4 => ?_) (fun c4 => ?_)
  · refine lv_aload_n hx hb dX5_choice_9 rfl (lv_at hl 0 rfl) ?_
    refine lv_iconst (v := (nI (4))) hx hb dX5_choice_10 (by decide) ?_
    refine j_iald hx hb hw hA (k := 4) rfl (by omega) (by omega) dX5_choice_11 ?_
    refine j_eq (y := nI (σ.1 4)) (hR.n 4 (by omega)) ?_
    refine lv_iconst (v := (nI (1))) hx hb dX5_choice_12 (by decide) ?_
    refine jn_ne (tgt := 24) hx hb dX5_choice_13 (by decide) (by omega) (by omega) (fun c13 => ?_) (fun c13 => ?_)
    · refine lv_iconst (v := (-1)) hx hb dX5_choice_24 (by decide) ?_
      refine lv_istore_n (lv' := [(1, .int _), (0, .ref _)]) hx hb dX5_choice_25 rfl hl (by decide) rfl (fun ls hl => ?_)
      refine lv_iconst (v := (-1)) hx hb dX5_choice_26 (by decide) ?_
      refine lv_istore_n (lv' := [(2, .int _), (1, .int _), (0, .ref _)]) hx hb dX5_choice_27 rfl hl (by decide) rfl (fun ls hl => ?_)
      refine lv_iconst (v := (nI (0))) hx hb dX5_choice_28 (by decide) ?_
      refine lv_istore_n (lv' := [(3, .int _), (2, .int _), (1, .int _), (0, .ref _)]) hx hb dX5_choice_29 rfl hl (by decide) rfl (fun ls hl => ?_)
      have lp30 : ∀ (n30 : Nat) (k : Nat) (x1 : Int32) (x2 : Int32) (hk : k ≤ 16) (hx1 : x1 = oI (wan (fun q => ocnt 1 q σ.2.2.1) (wtS σ) k)) (hx2 : x2 = oI ((wan (fun q => ocnt 1 q σ.2.2.1) (wtS σ) k).map (wtS σ))) (hmu30 : 16 - k < n30) (locs : List Loc) (hw : jW g z s H0 locs) (ls : Array Slot) (hl : lv_has ls 6 [(0, .ref row), (1, .int x1), (2, .int x2), (3, .int (nI (k)))]), jK p l e 2 44 s m [.ref row] below meth c z H0 (q_X5_choice g H0 row σ f) H0 locs (F0 m 30 ls []) := by
        intro n30
        induction n30 with
        | zero => intros; omega
        | succ n30 ih30 =>
          intro k x1 x2 hk hx1 hx2 hmu30 locs hw  ls hl
          refine lv_iload_n hx hb dX5_choice_30 rfl (lv_at hl 3 rfl) ?_
          refine lv_bipush (v := (nI (16))) hx hb dX5_choice_31 (by decide) ?_
          refine jn_ge (tgt := 107) hx hb dX5_choice_33 (by decide) (by omega) (by omega) (fun c33 => ?_) (fun c33 => ?_)
          · refine lv_iload_n hx hb dX5_choice_107 rfl (lv_at hl 1 rfl) ?_
            refine j_iret hx hb hr hlocks hH hw dX5_choice_108 ?_
            have hk9 : k = 16 := by omega
            subst hk9
            exact ⟨_, rfl, rfl, by unfold wantS; rw [if_neg c4, if_neg c13]; exact hx1⟩
          · rcases hwk : wan (fun q => ocnt 1 q σ.2.2.1) (wtS σ) k with _ | b
            · rw [hwk] at hx1 hx2
              subst hx1
              subst hx2
              refine lv_aload_n hx hb dX5_choice_36 rfl (lv_at hl 0 rfl) ?_
              refine lv_iconst (v := (nI (4))) hx hb dX5_choice_37 (by decide) ?_
              refine j_iald hx hb hw hA (k := 4) rfl (by omega) (by omega) dX5_choice_38 ?_
              refine j_eq (y := nI (σ.1 4)) (hR.n 4 (by omega)) ?_
              refine jz_ne (tgt := 50) hx hb dX5_choice_39 (by decide) (by omega) (fun c39 => ?_) (fun c39 => ?_)
              · have hck := hcn k
                refine lv_aload_n hx hb dX5_choice_50 rfl (lv_at hl 0 rfl) ?_
                refine lv_iload_n hx hb dX5_choice_51 rfl (lv_at hl 3 rfl) ?_
                refine j_Sp (n := 2) (As := [.ref row, .int (nI (k))]) hx hb hml hown hts hw (c_X5_ordersOf l g z H0 row (k) (σ) f  hA hR hs (by first | assumption | omega)) gX5_choice_X5_ordersOf rfl (by decide +kernel) ⟨Nat.le_of_ble_eq_true rfl, Nat.le_of_ble_eq_true rfl⟩ rfl hl.1 (Nat.le_of_ble_eq_true rfl) ⟨Nat.zero_le _, Nat.zero_le _⟩ dX5_choice_52 (fun r1 locs hr1 hw => ?_) rfl
                obtain rfl : r1 = (nI (ocnt 1 (k) (σ).2.2.1)) := hr1
                refine j_eq (y := nI (wtS σ k)) (by unfold wtS; rw [if_neg c39]) ?_
                refine lv_istore (lv' := [(4, .int _), (0, .ref _), (1, .int _), (2, .int _), (3, .int _)]) hx hb dX5_choice_55 hl (by decide) rfl (fun ls hl => ?_)
                have hck := hcn k
                have hwk2 := hwt k
                refine lv_aload_n hx hb dX5_choice_57 rfl (lv_at hl 1 rfl) ?_
                refine lv_iload_n hx hb dX5_choice_58 rfl (lv_at hl 4 rfl) ?_
                refine j_Sp (n := 2) (As := [.ref row, .int (nI (k))]) hx hb hml hown hts hw (c_X5_ordersOf l g z H0 row (k) (σ) f  hA hR hs (by first | assumption | omega)) gX5_choice_X5_ordersOf rfl (by decide +kernel) ⟨Nat.le_of_ble_eq_true rfl, Nat.le_of_ble_eq_true rfl⟩ rfl hl.1 (Nat.le_of_ble_eq_true rfl) ⟨Nat.zero_le _, Nat.zero_le _⟩ dX5_choice_59 (fun r2 locs hr2 hw => ?_) rfl
                obtain rfl : r2 = (nI (ocnt 1 (k) (σ).2.2.1)) := hr2
                refine jz_le (tgt := 75) hx hb dX5_choice_62 (by decide) (by omega) (fun c62 => ?_) (fun c62 => ?_)
                · refine lv_iconst (v := (nI (0))) hx hb dX5_choice_75 (by decide) ?_
                  refine lv_istore (lv' := [(5, .int _), (4, .int _), (0, .ref _), (1, .int _), (2, .int _), (3, .int _)]) hx hb dX5_choice_76 hl (by decide) rfl (fun ls hl => ?_)
                  refine lv_iload hx hb dX5_choice_78 (lv_at hl 0 rfl) ?_
                  refine jz_eq (tgt := 87) hx hb dX5_choice_80 (by decide) (by omega) (fun c80 => ?_) (fun c80 => absurd c80 (by omega))
                  refine lv_iload_n hx hb dX5_choice_87 rfl (lv_at hl 3 rfl) ?_
                  refine lv_istore_n (lv' := [(1, .int _), (5, .int _), (4, .int _), (0, .ref _), (2, .int _), (3, .int _)]) hx hb dX5_choice_88 rfl hl (by decide) rfl (fun ls hl => ?_)
                  refine lv_iload hx hb dX5_choice_89 (lv_at hl 1 rfl) ?_
                  refine jz_eq (tgt := 99) hx hb dX5_choice_91 (by decide) (by omega) (fun c91 => ?_) (fun c91 => absurd c91 (by omega))
                  refine lv_iload_n hx hb dX5_choice_99 rfl (lv_at hl 4 rfl) ?_
                  refine lv_istore_n (lv' := [(2, .int _), (1, .int _), (5, .int _), (4, .int _), (0, .ref _), (3, .int _)]) hx hb dX5_choice_100 rfl hl (by decide) rfl (fun ls hl => ?_)
                  refine lv_iinc (v := nI (k + 1)) (lv' := [(3, .int _), (2, .int _), (1, .int _), (5, .int _), (4, .int _), (0, .ref _)]) hx hb dX5_choice_101 hl (k := 5) rfl (nI_add _ 1) (by decide) rfl (fun ls hl => ?_)
                  refine lv_goto (tgt := 30) hx hb dX5_choice_104 (by decide) ?_
                  exact ih30  (k + 1) _ _ (by first | assumption | omega) (by simp only [wan, hwk]; first | (rw [if_pos (by omega)]; done) | (rw [if_neg (by omega)]; done) | (rw [if_pos (by omega)]; rfl) | (rw [if_neg (by omega)]; rfl)) (by simp only [wan, hwk]; first | (rw [if_pos (by omega)]; done) | (rw [if_neg (by omega)]; done) | (rw [if_pos (by omega)]; rfl) | (rw [if_neg (by omega)]; rfl)) (by omega) _ hw _ (lv_sub hl [5, 2, 1, 0] rfl)
                · refine lv_iload hx hb dX5_choice_65 (lv_at hl 0 rfl) ?_
                  refine lv_iload_n hx hb dX5_choice_67 rfl (lv_at hl 3 rfl) ?_
                  refine lv_icmp_le (tgt := 75) hx hb dX5_choice_68 (by decide) (fun c68 => absurd c68 (nle_m1 (by omega))) (fun c68 => ?_)
                  refine lv_iconst (v := (nI (1))) hx hb dX5_choice_71 (by decide) ?_
                  refine lv_goto (tgt := 76) hx hb dX5_choice_72 (by decide) ?_
                  refine lv_istore (lv' := [(5, .int _), (4, .int _), (0, .ref _), (1, .int _), (2, .int _), (3, .int _)]) hx hb dX5_choice_76 hl (by decide) rfl (fun ls hl => ?_)
                  refine lv_iload hx hb dX5_choice_78 (lv_at hl 0 rfl) ?_
                  refine jz_eq (tgt := 87) hx hb dX5_choice_80 (by decide) (by omega) (fun c80 => absurd c80 (by omega)) (fun c80 => ?_)
                  refine lv_iload_n hx hb dX5_choice_83 rfl (lv_at hl 5 rfl) ?_
                  refine lv_goto (tgt := 88) hx hb dX5_choice_84 (by decide) ?_
                  refine lv_istore_n (lv' := [(1, .int _), (5, .int _), (4, .int _), (0, .ref _), (2, .int _), (3, .int _)]) hx hb dX5_choice_88 rfl hl (by decide) rfl (fun ls hl => ?_)
                  refine lv_iload hx hb dX5_choice_89 (lv_at hl 1 rfl) ?_
                  refine jz_eq (tgt := 99) hx hb dX5_choice_91 (by decide) (by omega) (fun c91 => absurd c91 (by omega)) (fun c91 => ?_)
                  refine lv_iload hx hb dX5_choice_94 (lv_at hl 2 rfl) ?_
                  refine lv_goto (tgt := 100) hx hb dX5_choice_96 (by decide) ?_
                  refine lv_istore_n (lv' := [(2, .int _), (1, .int _), (5, .int _), (4, .int _), (0, .ref _), (3, .int _)]) hx hb dX5_choice_100 rfl hl (by decide) rfl (fun ls hl => ?_)
                  refine lv_iinc (v := nI (k + 1)) (lv' := [(3, .int _), (2, .int _), (1, .int _), (5, .int _), (4, .int _), (0, .ref _)]) hx hb dX5_choice_101 hl (k := 5) rfl (nI_add _ 1) (by decide) rfl (fun ls hl => ?_)
                  refine lv_goto (tgt := 30) hx hb dX5_choice_104 (by decide) ?_
                  exact ih30  (k + 1) _ _ (by first | assumption | omega) (by simp only [wan, hwk]; first | (rw [if_pos (by omega)]; done) | (rw [if_neg (by omega)]; done) | (rw [if_pos (by omega)]; rfl) | (rw [if_neg (by omega)]; rfl)) (by simp only [wan, hwk]; first | (rw [if_pos (by omega)]; done) | (rw [if_neg (by omega)]; done) | (rw [if_pos (by omega)]; rfl) | (rw [if_neg (by omega)]; rfl)) (by omega) _ hw _ (lv_sub hl [5, 2, 1, 0] rfl)
              · have hfk := hfs k
                refine lv_aload_n hx hb dX5_choice_42 rfl (lv_at hl 0 rfl) ?_
                refine lv_iload_n hx hb dX5_choice_43 rfl (lv_at hl 3 rfl) ?_
                refine j_Sp (n := 2) (As := [.ref row, .int (nI (k))]) hx hb hml hown hts hw (c_X5_feesOf l g z H0 row (k) (σ) f  hA hR hs (by first | assumption | omega)) gX5_choice_X5_feesOf rfl (by decide +kernel) ⟨Nat.le_of_ble_eq_true rfl, Nat.le_of_ble_eq_true rfl⟩ rfl hl.1 (Nat.le_of_ble_eq_true rfl) ⟨Nat.zero_le _, Nat.zero_le _⟩ dX5_choice_44 (fun r3 locs hr3 hw => ?_) rfl
                obtain rfl : r3 = (nI (fsum (k) (σ).2.2.1)) := hr3
                refine lv_goto (tgt := 55) hx hb dX5_choice_47 (by decide) ?_
                refine j_eq (y := nI (wtS σ k)) (by unfold wtS; rw [if_pos c39]) ?_
                refine lv_istore (lv' := [(4, .int _), (0, .ref _), (1, .int _), (2, .int _), (3, .int _)]) hx hb dX5_choice_55 hl (by decide) rfl (fun ls hl => ?_)
                have hck := hcn k
                have hwk2 := hwt k
                refine lv_aload_n hx hb dX5_choice_57 rfl (lv_at hl 1 rfl) ?_
                refine lv_iload_n hx hb dX5_choice_58 rfl (lv_at hl 4 rfl) ?_
                refine j_Sp (n := 2) (As := [.ref row, .int (nI (k))]) hx hb hml hown hts hw (c_X5_ordersOf l g z H0 row (k) (σ) f  hA hR hs (by first | assumption | omega)) gX5_choice_X5_ordersOf rfl (by decide +kernel) ⟨Nat.le_of_ble_eq_true rfl, Nat.le_of_ble_eq_true rfl⟩ rfl hl.1 (Nat.le_of_ble_eq_true rfl) ⟨Nat.zero_le _, Nat.zero_le _⟩ dX5_choice_59 (fun r4 locs hr4 hw => ?_) rfl
                obtain rfl : r4 = (nI (ocnt 1 (k) (σ).2.2.1)) := hr4
                refine jz_le (tgt := 75) hx hb dX5_choice_62 (by decide) (by omega) (fun c62 => ?_) (fun c62 => ?_)
                · refine lv_iconst (v := (nI (0))) hx hb dX5_choice_75 (by decide) ?_
                  refine lv_istore (lv' := [(5, .int _), (4, .int _), (0, .ref _), (1, .int _), (2, .int _), (3, .int _)]) hx hb dX5_choice_76 hl (by decide) rfl (fun ls hl => ?_)
                  refine lv_iload hx hb dX5_choice_78 (lv_at hl 0 rfl) ?_
                  refine jz_eq (tgt := 87) hx hb dX5_choice_80 (by decide) (by omega) (fun c80 => ?_) (fun c80 => absurd c80 (by omega))
                  refine lv_iload_n hx hb dX5_choice_87 rfl (lv_at hl 3 rfl) ?_
                  refine lv_istore_n (lv' := [(1, .int _), (5, .int _), (4, .int _), (0, .ref _), (2, .int _), (3, .int _)]) hx hb dX5_choice_88 rfl hl (by decide) rfl (fun ls hl => ?_)
                  refine lv_iload hx hb dX5_choice_89 (lv_at hl 1 rfl) ?_
                  refine jz_eq (tgt := 99) hx hb dX5_choice_91 (by decide) (by omega) (fun c91 => ?_) (fun c91 => absurd c91 (by omega))
                  refine lv_iload_n hx hb dX5_choice_99 rfl (lv_at hl 4 rfl) ?_
                  refine lv_istore_n (lv' := [(2, .int _), (1, .int _), (5, .int _), (4, .int _), (0, .ref _), (3, .int _)]) hx hb dX5_choice_100 rfl hl (by decide) rfl (fun ls hl => ?_)
                  refine lv_iinc (v := nI (k + 1)) (lv' := [(3, .int _), (2, .int _), (1, .int _), (5, .int _), (4, .int _), (0, .ref _)]) hx hb dX5_choice_101 hl (k := 5) rfl (nI_add _ 1) (by decide) rfl (fun ls hl => ?_)
                  refine lv_goto (tgt := 30) hx hb dX5_choice_104 (by decide) ?_
                  exact ih30  (k + 1) _ _ (by first | assumption | omega) (by simp only [wan, hwk]; first | (rw [if_pos (by omega)]; done) | (rw [if_neg (by omega)]; done) | (rw [if_pos (by omega)]; rfl) | (rw [if_neg (by omega)]; rfl)) (by simp only [wan, hwk]; first | (rw [if_pos (by omega)]; done) | (rw [if_neg (by omega)]; done) | (rw [if_pos (by omega)]; rfl) | (rw [if_neg (by omega)]; rfl)) (by omega) _ hw _ (lv_sub hl [5, 2, 1, 0] rfl)
                · refine lv_iload hx hb dX5_choice_65 (lv_at hl 0 rfl) ?_
                  refine lv_iload_n hx hb dX5_choice_67 rfl (lv_at hl 3 rfl) ?_
                  refine lv_icmp_le (tgt := 75) hx hb dX5_choice_68 (by decide) (fun c68 => absurd c68 (nle_m1 (by omega))) (fun c68 => ?_)
                  refine lv_iconst (v := (nI (1))) hx hb dX5_choice_71 (by decide) ?_
                  refine lv_goto (tgt := 76) hx hb dX5_choice_72 (by decide) ?_
                  refine lv_istore (lv' := [(5, .int _), (4, .int _), (0, .ref _), (1, .int _), (2, .int _), (3, .int _)]) hx hb dX5_choice_76 hl (by decide) rfl (fun ls hl => ?_)
                  refine lv_iload hx hb dX5_choice_78 (lv_at hl 0 rfl) ?_
                  refine jz_eq (tgt := 87) hx hb dX5_choice_80 (by decide) (by omega) (fun c80 => absurd c80 (by omega)) (fun c80 => ?_)
                  refine lv_iload_n hx hb dX5_choice_83 rfl (lv_at hl 5 rfl) ?_
                  refine lv_goto (tgt := 88) hx hb dX5_choice_84 (by decide) ?_
                  refine lv_istore_n (lv' := [(1, .int _), (5, .int _), (4, .int _), (0, .ref _), (2, .int _), (3, .int _)]) hx hb dX5_choice_88 rfl hl (by decide) rfl (fun ls hl => ?_)
                  refine lv_iload hx hb dX5_choice_89 (lv_at hl 1 rfl) ?_
                  refine jz_eq (tgt := 99) hx hb dX5_choice_91 (by decide) (by omega) (fun c91 => absurd c91 (by omega)) (fun c91 => ?_)
                  refine lv_iload hx hb dX5_choice_94 (lv_at hl 2 rfl) ?_
                  refine lv_goto (tgt := 100) hx hb dX5_choice_96 (by decide) ?_
                  refine lv_istore_n (lv' := [(2, .int _), (1, .int _), (5, .int _), (4, .int _), (0, .ref _), (3, .int _)]) hx hb dX5_choice_100 rfl hl (by decide) rfl (fun ls hl => ?_)
                  refine lv_iinc (v := nI (k + 1)) (lv' := [(3, .int _), (2, .int _), (1, .int _), (5, .int _), (4, .int _), (0, .ref _)]) hx hb dX5_choice_101 hl (k := 5) rfl (nI_add _ 1) (by decide) rfl (fun ls hl => ?_)
                  refine lv_goto (tgt := 30) hx hb dX5_choice_104 (by decide) ?_
                  exact ih30  (k + 1) _ _ (by first | assumption | omega) (by simp only [wan, hwk]; first | (rw [if_pos (by omega)]; done) | (rw [if_neg (by omega)]; done) | (rw [if_pos (by omega)]; rfl) | (rw [if_neg (by omega)]; rfl)) (by simp only [wan, hwk]; first | (rw [if_pos (by omega)]; done) | (rw [if_neg (by omega)]; done) | (rw [if_pos (by omega)]; rfl) | (rw [if_neg (by omega)]; rfl)) (by omega) _ hw _ (lv_sub hl [5, 2, 1, 0] rfl)
            · rw [hwk] at hx1 hx2
              subst hx1
              subst hx2
              have hbk := (wan_lt hwk).1
              have hwb := hwt b
              refine lv_aload_n hx hb dX5_choice_36 rfl (lv_at hl 0 rfl) ?_
              refine lv_iconst (v := (nI (4))) hx hb dX5_choice_37 (by decide) ?_
              refine j_iald hx hb hw hA (k := 4) rfl (by omega) (by omega) dX5_choice_38 ?_
              refine j_eq (y := nI (σ.1 4)) (hR.n 4 (by omega)) ?_
              refine jz_ne (tgt := 50) hx hb dX5_choice_39 (by decide) (by omega) (fun c39 => ?_) (fun c39 => ?_)
              · have hck := hcn k
                refine lv_aload_n hx hb dX5_choice_50 rfl (lv_at hl 0 rfl) ?_
                refine lv_iload_n hx hb dX5_choice_51 rfl (lv_at hl 3 rfl) ?_
                refine j_Sp (n := 2) (As := [.ref row, .int (nI (k))]) hx hb hml hown hts hw (c_X5_ordersOf l g z H0 row (k) (σ) f  hA hR hs (by first | assumption | omega)) gX5_choice_X5_ordersOf rfl (by decide +kernel) ⟨Nat.le_of_ble_eq_true rfl, Nat.le_of_ble_eq_true rfl⟩ rfl hl.1 (Nat.le_of_ble_eq_true rfl) ⟨Nat.zero_le _, Nat.zero_le _⟩ dX5_choice_52 (fun r5 locs hr5 hw => ?_) rfl
                obtain rfl : r5 = (nI (ocnt 1 (k) (σ).2.2.1)) := hr5
                refine j_eq (y := nI (wtS σ k)) (by unfold wtS; rw [if_neg c39]) ?_
                refine lv_istore (lv' := [(4, .int _), (0, .ref _), (1, .int _), (2, .int _), (3, .int _)]) hx hb dX5_choice_55 hl (by decide) rfl (fun ls hl => ?_)
                have hck := hcn k
                have hwk2 := hwt k
                refine lv_aload_n hx hb dX5_choice_57 rfl (lv_at hl 1 rfl) ?_
                refine lv_iload_n hx hb dX5_choice_58 rfl (lv_at hl 4 rfl) ?_
                refine j_Sp (n := 2) (As := [.ref row, .int (nI (k))]) hx hb hml hown hts hw (c_X5_ordersOf l g z H0 row (k) (σ) f  hA hR hs (by first | assumption | omega)) gX5_choice_X5_ordersOf rfl (by decide +kernel) ⟨Nat.le_of_ble_eq_true rfl, Nat.le_of_ble_eq_true rfl⟩ rfl hl.1 (Nat.le_of_ble_eq_true rfl) ⟨Nat.zero_le _, Nat.zero_le _⟩ dX5_choice_59 (fun r6 locs hr6 hw => ?_) rfl
                obtain rfl : r6 = (nI (ocnt 1 (k) (σ).2.2.1)) := hr6
                refine jz_le (tgt := 75) hx hb dX5_choice_62 (by decide) (by omega) (fun c62 => ?_) (fun c62 => ?_)
                · refine lv_iconst (v := (nI (0))) hx hb dX5_choice_75 (by decide) ?_
                  refine lv_istore (lv' := [(5, .int _), (4, .int _), (0, .ref _), (1, .int _), (2, .int _), (3, .int _)]) hx hb dX5_choice_76 hl (by decide) rfl (fun ls hl => ?_)
                  refine lv_iload hx hb dX5_choice_78 (lv_at hl 0 rfl) ?_
                  refine jz_eq (tgt := 87) hx hb dX5_choice_80 (by decide) (by omega) (fun c80 => ?_) (fun c80 => absurd c80 (by omega))
                  refine lv_iload_n hx hb dX5_choice_87 rfl (lv_at hl 3 rfl) ?_
                  refine lv_istore_n (lv' := [(1, .int _), (5, .int _), (4, .int _), (0, .ref _), (2, .int _), (3, .int _)]) hx hb dX5_choice_88 rfl hl (by decide) rfl (fun ls hl => ?_)
                  refine lv_iload hx hb dX5_choice_89 (lv_at hl 1 rfl) ?_
                  refine jz_eq (tgt := 99) hx hb dX5_choice_91 (by decide) (by omega) (fun c91 => ?_) (fun c91 => absurd c91 (by omega))
                  refine lv_iload_n hx hb dX5_choice_99 rfl (lv_at hl 4 rfl) ?_
                  refine lv_istore_n (lv' := [(2, .int _), (1, .int _), (5, .int _), (4, .int _), (0, .ref _), (3, .int _)]) hx hb dX5_choice_100 rfl hl (by decide) rfl (fun ls hl => ?_)
                  refine lv_iinc (v := nI (k + 1)) (lv' := [(3, .int _), (2, .int _), (1, .int _), (5, .int _), (4, .int _), (0, .ref _)]) hx hb dX5_choice_101 hl (k := 5) rfl (nI_add _ 1) (by decide) rfl (fun ls hl => ?_)
                  refine lv_goto (tgt := 30) hx hb dX5_choice_104 (by decide) ?_
                  exact ih30  (k + 1) _ _ (by first | assumption | omega) (by simp only [wan, hwk]; first | (rw [if_pos (by omega)]; done) | (rw [if_neg (by omega)]; done) | (rw [if_pos (by omega)]; rfl) | (rw [if_neg (by omega)]; rfl)) (by simp only [wan, hwk]; first | (rw [if_pos (by omega)]; done) | (rw [if_neg (by omega)]; done) | (rw [if_pos (by omega)]; rfl) | (rw [if_neg (by omega)]; rfl)) (by omega) _ hw _ (lv_sub hl [5, 2, 1, 0] rfl)
                · refine lv_iload hx hb dX5_choice_65 (lv_at hl 0 rfl) ?_
                  refine lv_iload_n hx hb dX5_choice_67 rfl (lv_at hl 3 rfl) ?_
                  refine jn_le (tgt := 75) hx hb dX5_choice_68 (by decide) (by omega) (by omega) (fun c68 => ?_) (fun c68 => ?_)
                  · refine lv_iconst (v := (nI (0))) hx hb dX5_choice_75 (by decide) ?_
                    refine lv_istore (lv' := [(5, .int _), (4, .int _), (0, .ref _), (1, .int _), (2, .int _), (3, .int _)]) hx hb dX5_choice_76 hl (by decide) rfl (fun ls hl => ?_)
                    refine lv_iload hx hb dX5_choice_78 (lv_at hl 0 rfl) ?_
                    refine jz_eq (tgt := 87) hx hb dX5_choice_80 (by decide) (by omega) (fun c80 => ?_) (fun c80 => absurd c80 (by omega))
                    refine lv_iload_n hx hb dX5_choice_87 rfl (lv_at hl 3 rfl) ?_
                    refine lv_istore_n (lv' := [(1, .int _), (5, .int _), (4, .int _), (0, .ref _), (2, .int _), (3, .int _)]) hx hb dX5_choice_88 rfl hl (by decide) rfl (fun ls hl => ?_)
                    refine lv_iload hx hb dX5_choice_89 (lv_at hl 1 rfl) ?_
                    refine jz_eq (tgt := 99) hx hb dX5_choice_91 (by decide) (by omega) (fun c91 => ?_) (fun c91 => absurd c91 (by omega))
                    refine lv_iload_n hx hb dX5_choice_99 rfl (lv_at hl 4 rfl) ?_
                    refine lv_istore_n (lv' := [(2, .int _), (1, .int _), (5, .int _), (4, .int _), (0, .ref _), (3, .int _)]) hx hb dX5_choice_100 rfl hl (by decide) rfl (fun ls hl => ?_)
                    refine lv_iinc (v := nI (k + 1)) (lv' := [(3, .int _), (2, .int _), (1, .int _), (5, .int _), (4, .int _), (0, .ref _)]) hx hb dX5_choice_101 hl (k := 5) rfl (nI_add _ 1) (by decide) rfl (fun ls hl => ?_)
                    refine lv_goto (tgt := 30) hx hb dX5_choice_104 (by decide) ?_
                    exact ih30  (k + 1) _ _ (by first | assumption | omega) (by simp only [wan, hwk]; first | (rw [if_pos (by omega)]; done) | (rw [if_neg (by omega)]; done) | (rw [if_pos (by omega)]; rfl) | (rw [if_neg (by omega)]; rfl)) (by simp only [wan, hwk]; first | (rw [if_pos (by omega)]; done) | (rw [if_neg (by omega)]; done) | (rw [if_pos (by omega)]; rfl) | (rw [if_neg (by omega)]; rfl)) (by omega) _ hw _ (lv_sub hl [5, 2, 1, 0] rfl)
                  · refine lv_iconst (v := (nI (1))) hx hb dX5_choice_71 (by decide) ?_
                    refine lv_goto (tgt := 76) hx hb dX5_choice_72 (by decide) ?_
                    refine lv_istore (lv' := [(5, .int _), (4, .int _), (0, .ref _), (1, .int _), (2, .int _), (3, .int _)]) hx hb dX5_choice_76 hl (by decide) rfl (fun ls hl => ?_)
                    refine lv_iload hx hb dX5_choice_78 (lv_at hl 0 rfl) ?_
                    refine jz_eq (tgt := 87) hx hb dX5_choice_80 (by decide) (by omega) (fun c80 => absurd c80 (by omega)) (fun c80 => ?_)
                    refine lv_iload_n hx hb dX5_choice_83 rfl (lv_at hl 5 rfl) ?_
                    refine lv_goto (tgt := 88) hx hb dX5_choice_84 (by decide) ?_
                    refine lv_istore_n (lv' := [(1, .int _), (5, .int _), (4, .int _), (0, .ref _), (2, .int _), (3, .int _)]) hx hb dX5_choice_88 rfl hl (by decide) rfl (fun ls hl => ?_)
                    refine lv_iload hx hb dX5_choice_89 (lv_at hl 1 rfl) ?_
                    refine jz_eq (tgt := 99) hx hb dX5_choice_91 (by decide) (by omega) (fun c91 => absurd c91 (by omega)) (fun c91 => ?_)
                    refine lv_iload hx hb dX5_choice_94 (lv_at hl 2 rfl) ?_
                    refine lv_goto (tgt := 100) hx hb dX5_choice_96 (by decide) ?_
                    refine lv_istore_n (lv' := [(2, .int _), (1, .int _), (5, .int _), (4, .int _), (0, .ref _), (3, .int _)]) hx hb dX5_choice_100 rfl hl (by decide) rfl (fun ls hl => ?_)
                    refine lv_iinc (v := nI (k + 1)) (lv' := [(3, .int _), (2, .int _), (1, .int _), (5, .int _), (4, .int _), (0, .ref _)]) hx hb dX5_choice_101 hl (k := 5) rfl (nI_add _ 1) (by decide) rfl (fun ls hl => ?_)
                    refine lv_goto (tgt := 30) hx hb dX5_choice_104 (by decide) ?_
                    exact ih30  (k + 1) _ _ (by first | assumption | omega) (by simp only [wan, hwk]; first | (rw [if_pos (by omega)]; done) | (rw [if_neg (by omega)]; done) | (rw [if_pos (by omega)]; rfl) | (rw [if_neg (by omega)]; rfl)) (by simp only [wan, hwk]; first | (rw [if_pos (by omega)]; done) | (rw [if_neg (by omega)]; done) | (rw [if_pos (by omega)]; rfl) | (rw [if_neg (by omega)]; rfl)) (by omega) _ hw _ (lv_sub hl [5, 2, 1, 0] rfl)
              · have hfk := hfs k
                refine lv_aload_n hx hb dX5_choice_42 rfl (lv_at hl 0 rfl) ?_
                refine lv_iload_n hx hb dX5_choice_43 rfl (lv_at hl 3 rfl) ?_
                refine j_Sp (n := 2) (As := [.ref row, .int (nI (k))]) hx hb hml hown hts hw (c_X5_feesOf l g z H0 row (k) (σ) f  hA hR hs (by first | assumption | omega)) gX5_choice_X5_feesOf rfl (by decide +kernel) ⟨Nat.le_of_ble_eq_true rfl, Nat.le_of_ble_eq_true rfl⟩ rfl hl.1 (Nat.le_of_ble_eq_true rfl) ⟨Nat.zero_le _, Nat.zero_le _⟩ dX5_choice_44 (fun r7 locs hr7 hw => ?_) rfl
                obtain rfl : r7 = (nI (fsum (k) (σ).2.2.1)) := hr7
                refine lv_goto (tgt := 55) hx hb dX5_choice_47 (by decide) ?_
                refine j_eq (y := nI (wtS σ k)) (by unfold wtS; rw [if_pos c39]) ?_
                refine lv_istore (lv' := [(4, .int _), (0, .ref _), (1, .int _), (2, .int _), (3, .int _)]) hx hb dX5_choice_55 hl (by decide) rfl (fun ls hl => ?_)
                have hck := hcn k
                have hwk2 := hwt k
                refine lv_aload_n hx hb dX5_choice_57 rfl (lv_at hl 1 rfl) ?_
                refine lv_iload_n hx hb dX5_choice_58 rfl (lv_at hl 4 rfl) ?_
                refine j_Sp (n := 2) (As := [.ref row, .int (nI (k))]) hx hb hml hown hts hw (c_X5_ordersOf l g z H0 row (k) (σ) f  hA hR hs (by first | assumption | omega)) gX5_choice_X5_ordersOf rfl (by decide +kernel) ⟨Nat.le_of_ble_eq_true rfl, Nat.le_of_ble_eq_true rfl⟩ rfl hl.1 (Nat.le_of_ble_eq_true rfl) ⟨Nat.zero_le _, Nat.zero_le _⟩ dX5_choice_59 (fun r8 locs hr8 hw => ?_) rfl
                obtain rfl : r8 = (nI (ocnt 1 (k) (σ).2.2.1)) := hr8
                refine jz_le (tgt := 75) hx hb dX5_choice_62 (by decide) (by omega) (fun c62 => ?_) (fun c62 => ?_)
                · refine lv_iconst (v := (nI (0))) hx hb dX5_choice_75 (by decide) ?_
                  refine lv_istore (lv' := [(5, .int _), (4, .int _), (0, .ref _), (1, .int _), (2, .int _), (3, .int _)]) hx hb dX5_choice_76 hl (by decide) rfl (fun ls hl => ?_)
                  refine lv_iload hx hb dX5_choice_78 (lv_at hl 0 rfl) ?_
                  refine jz_eq (tgt := 87) hx hb dX5_choice_80 (by decide) (by omega) (fun c80 => ?_) (fun c80 => absurd c80 (by omega))
                  refine lv_iload_n hx hb dX5_choice_87 rfl (lv_at hl 3 rfl) ?_
                  refine lv_istore_n (lv' := [(1, .int _), (5, .int _), (4, .int _), (0, .ref _), (2, .int _), (3, .int _)]) hx hb dX5_choice_88 rfl hl (by decide) rfl (fun ls hl => ?_)
                  refine lv_iload hx hb dX5_choice_89 (lv_at hl 1 rfl) ?_
                  refine jz_eq (tgt := 99) hx hb dX5_choice_91 (by decide) (by omega) (fun c91 => ?_) (fun c91 => absurd c91 (by omega))
                  refine lv_iload_n hx hb dX5_choice_99 rfl (lv_at hl 4 rfl) ?_
                  refine lv_istore_n (lv' := [(2, .int _), (1, .int _), (5, .int _), (4, .int _), (0, .ref _), (3, .int _)]) hx hb dX5_choice_100 rfl hl (by decide) rfl (fun ls hl => ?_)
                  refine lv_iinc (v := nI (k + 1)) (lv' := [(3, .int _), (2, .int _), (1, .int _), (5, .int _), (4, .int _), (0, .ref _)]) hx hb dX5_choice_101 hl (k := 5) rfl (nI_add _ 1) (by decide) rfl (fun ls hl => ?_)
                  refine lv_goto (tgt := 30) hx hb dX5_choice_104 (by decide) ?_
                  exact ih30  (k + 1) _ _ (by first | assumption | omega) (by simp only [wan, hwk]; first | (rw [if_pos (by omega)]; done) | (rw [if_neg (by omega)]; done) | (rw [if_pos (by omega)]; rfl) | (rw [if_neg (by omega)]; rfl)) (by simp only [wan, hwk]; first | (rw [if_pos (by omega)]; done) | (rw [if_neg (by omega)]; done) | (rw [if_pos (by omega)]; rfl) | (rw [if_neg (by omega)]; rfl)) (by omega) _ hw _ (lv_sub hl [5, 2, 1, 0] rfl)
                · refine lv_iload hx hb dX5_choice_65 (lv_at hl 0 rfl) ?_
                  refine lv_iload_n hx hb dX5_choice_67 rfl (lv_at hl 3 rfl) ?_
                  refine jn_le (tgt := 75) hx hb dX5_choice_68 (by decide) (by omega) (by omega) (fun c68 => ?_) (fun c68 => ?_)
                  · refine lv_iconst (v := (nI (0))) hx hb dX5_choice_75 (by decide) ?_
                    refine lv_istore (lv' := [(5, .int _), (4, .int _), (0, .ref _), (1, .int _), (2, .int _), (3, .int _)]) hx hb dX5_choice_76 hl (by decide) rfl (fun ls hl => ?_)
                    refine lv_iload hx hb dX5_choice_78 (lv_at hl 0 rfl) ?_
                    refine jz_eq (tgt := 87) hx hb dX5_choice_80 (by decide) (by omega) (fun c80 => ?_) (fun c80 => absurd c80 (by omega))
                    refine lv_iload_n hx hb dX5_choice_87 rfl (lv_at hl 3 rfl) ?_
                    refine lv_istore_n (lv' := [(1, .int _), (5, .int _), (4, .int _), (0, .ref _), (2, .int _), (3, .int _)]) hx hb dX5_choice_88 rfl hl (by decide) rfl (fun ls hl => ?_)
                    refine lv_iload hx hb dX5_choice_89 (lv_at hl 1 rfl) ?_
                    refine jz_eq (tgt := 99) hx hb dX5_choice_91 (by decide) (by omega) (fun c91 => ?_) (fun c91 => absurd c91 (by omega))
                    refine lv_iload_n hx hb dX5_choice_99 rfl (lv_at hl 4 rfl) ?_
                    refine lv_istore_n (lv' := [(2, .int _), (1, .int _), (5, .int _), (4, .int _), (0, .ref _), (3, .int _)]) hx hb dX5_choice_100 rfl hl (by decide) rfl (fun ls hl => ?_)
                    refine lv_iinc (v := nI (k + 1)) (lv' := [(3, .int _), (2, .int _), (1, .int _), (5, .int _), (4, .int _), (0, .ref _)]) hx hb dX5_choice_101 hl (k := 5) rfl (nI_add _ 1) (by decide) rfl (fun ls hl => ?_)
                    refine lv_goto (tgt := 30) hx hb dX5_choice_104 (by decide) ?_
                    exact ih30  (k + 1) _ _ (by first | assumption | omega) (by simp only [wan, hwk]; first | (rw [if_pos (by omega)]; done) | (rw [if_neg (by omega)]; done) | (rw [if_pos (by omega)]; rfl) | (rw [if_neg (by omega)]; rfl)) (by simp only [wan, hwk]; first | (rw [if_pos (by omega)]; done) | (rw [if_neg (by omega)]; done) | (rw [if_pos (by omega)]; rfl) | (rw [if_neg (by omega)]; rfl)) (by omega) _ hw _ (lv_sub hl [5, 2, 1, 0] rfl)
                  · refine lv_iconst (v := (nI (1))) hx hb dX5_choice_71 (by decide) ?_
                    refine lv_goto (tgt := 76) hx hb dX5_choice_72 (by decide) ?_
                    refine lv_istore (lv' := [(5, .int _), (4, .int _), (0, .ref _), (1, .int _), (2, .int _), (3, .int _)]) hx hb dX5_choice_76 hl (by decide) rfl (fun ls hl => ?_)
                    refine lv_iload hx hb dX5_choice_78 (lv_at hl 0 rfl) ?_
                    refine jz_eq (tgt := 87) hx hb dX5_choice_80 (by decide) (by omega) (fun c80 => absurd c80 (by omega)) (fun c80 => ?_)
                    refine lv_iload_n hx hb dX5_choice_83 rfl (lv_at hl 5 rfl) ?_
                    refine lv_goto (tgt := 88) hx hb dX5_choice_84 (by decide) ?_
                    refine lv_istore_n (lv' := [(1, .int _), (5, .int _), (4, .int _), (0, .ref _), (2, .int _), (3, .int _)]) hx hb dX5_choice_88 rfl hl (by decide) rfl (fun ls hl => ?_)
                    refine lv_iload hx hb dX5_choice_89 (lv_at hl 1 rfl) ?_
                    refine jz_eq (tgt := 99) hx hb dX5_choice_91 (by decide) (by omega) (fun c91 => absurd c91 (by omega)) (fun c91 => ?_)
                    refine lv_iload hx hb dX5_choice_94 (lv_at hl 2 rfl) ?_
                    refine lv_goto (tgt := 100) hx hb dX5_choice_96 (by decide) ?_
                    refine lv_istore_n (lv' := [(2, .int _), (1, .int _), (5, .int _), (4, .int _), (0, .ref _), (3, .int _)]) hx hb dX5_choice_100 rfl hl (by decide) rfl (fun ls hl => ?_)
                    refine lv_iinc (v := nI (k + 1)) (lv' := [(3, .int _), (2, .int _), (1, .int _), (5, .int _), (4, .int _), (0, .ref _)]) hx hb dX5_choice_101 hl (k := 5) rfl (nI_add _ 1) (by decide) rfl (fun ls hl => ?_)
                    refine lv_goto (tgt := 30) hx hb dX5_choice_104 (by decide) ?_
                    exact ih30  (k + 1) _ _ (by first | assumption | omega) (by simp only [wan, hwk]; first | (rw [if_pos (by omega)]; done) | (rw [if_neg (by omega)]; done) | (rw [if_pos (by omega)]; rfl) | (rw [if_neg (by omega)]; rfl)) (by simp only [wan, hwk]; first | (rw [if_pos (by omega)]; done) | (rw [if_neg (by omega)]; done) | (rw [if_pos (by omega)]; rfl) | (rw [if_neg (by omega)]; rfl)) (by omega) _ hw _ (lv_sub hl [5, 2, 1, 0] rfl)
      exact lp30 (16 - (0) + 1) (0) _ _ (by first | assumption | omega) rfl rfl (by omega) _ hw _ (lv_sub hl [3, 2, 1, 0] rfl)
    · obtain ⟨o, ho⟩ := getO (L := σ.2.2.1) (k := 0) (by omega)
      refine lv_aload_n hx hb dX5_choice_16 rfl (lv_at hl 0 rfl) ?_
      refine lv_iconst (v := (nI (0))) hx hb dX5_choice_17 (by decide) ?_
      refine lv_iconst (v := (nI (1))) hx hb dX5_choice_18 (by decide) ?_
      refine j_Sp (n := 2) (As := [.int (nI (0)), .int (nI (1))]) hx hb hml hown hts hw (c_X5_at l g z H0 (0) (1)   ) gX5_choice_X5_at rfl (by decide +kernel) ⟨Nat.le_of_ble_eq_true rfl, Nat.le_of_ble_eq_true rfl⟩ rfl hl.1 (Nat.le_of_ble_eq_true rfl) ⟨Nat.zero_le _, Nat.zero_le _⟩ dX5_choice_19 (fun r9 locs hr9 hw => ?_) rfl
      obtain rfl : r9 = (nI (109 + 6 * (0) + (1))) := hr9
      refine j_iald hx hb hw hA (k := 109 + 6 * (0) + (1)) rfl (by omega) (by omega) dX5_choice_22 ?_
      refine j_eq (y := nI (o 1)) (hR.o ho 1 (by omega) (by omega)) ?_
      refine j_iret hx hb hr hlocks hH hw dX5_choice_23 ?_
      exact ⟨_, rfl, rfl, by unfold wantS; rw [if_neg c4, if_pos c13, ho]; rfl⟩
  · refine lv_iconst (v := (-1)) hx hb dX5_choice_7 (by decide) ?_
    refine j_iret hx hb hr hlocks hH hw dX5_choice_8 ?_
    exact ⟨_, rfl, rfl, by unfold wantS; rw [if_pos c4]; rfl⟩

abbrev q_X5_sendBack (g : jG) (H0 : Heap) (row : Nat) (σ : Sg) (f : Nat → Int32) (b0 : Nat) : Option Value → Heap → Prop := jV (fun H1 => rTo g row (upn σ (14 + b0) 0) H0 H1)
set_option maxHeartbeats 4000000 in
set_option maxRecDepth 100000 in
theorem c_X5_sendBack (l : Launch) (g : jG) (z : Nat) (H0 : Heap) (row : Nat) (σ : Sg) (f : Nat → Int32) (b0 : Nat) (hz : z ≤ row) (hA : jI g H0 row 235 f) (hR : Row f σ) (hs : okS σ) (hb0 : lng σ.1 16 = some b0) : jM l g z yX5_sendBack wsX5_sendBack 1 21 [.ref row] H0 (q_X5_sendBack g H0 row σ f b0) := by
  refine j_of (cc := cX5_sendBack) (n := 3) (ret := none) (by decide) rfl (Nat.le_of_ble_eq_true rfl) ?_
  intro p e s m below meth c hx hb hr hml hown hts hlocks hname hH hw ls hl
  have hl : lv_has ls 3 [(0, .ref row)] := hl
  have hf : jF row 1 H0 H0 := jF.rf
  have hb1 := lng_lt hb0
  refine lv_iconst (v := (-1)) hx hb dX5_sendBack_0 (by decide) ?_
  refine lv_istore_n (lv' := [(1, .int _), (0, .ref _)]) hx hb dX5_sendBack_1 rfl hl (by decide) rfl (fun ls hl => ?_)
  refine lv_iconst (v := (nI (0))) hx hb dX5_sendBack_2 (by decide) ?_
  refine lv_istore_n (lv' := [(2, .int _), (1, .int _), (0, .ref _)]) hx hb dX5_sendBack_3 rfl hl (by decide) rfl (fun ls hl => ?_)
  have lp4 : ∀ (n4 : Nat) (k : Nat) (x1 : Int32) (hk : k ≤ 16) (hx1 : x1 = oI (lng σ.1 k)) (hmu4 : 16 - k < n4) (locs : List Loc) (hw : jW g z s H0 locs) (ls : Array Slot) (hl : lv_has ls 3 [(0, .ref row), (1, .int x1), (2, .int (nI (k)))]), jK p l e 1 21 s m [.ref row] below meth c z H0 (q_X5_sendBack g H0 row σ f b0) H0 locs (F0 m 4 ls []) := by
    intro n4
    induction n4 with
    | zero => intros; omega
    | succ n4 ih4 =>
      intro k x1 hk hx1 hmu4 locs hw  ls hl
      refine lv_iload_n hx hb dX5_sendBack_4 rfl (lv_at hl 2 rfl) ?_
      refine lv_bipush (v := (nI (16))) hx hb dX5_sendBack_5 (by decide) ?_
      refine jn_ge (tgt := 50) hx hb dX5_sendBack_7 (by decide) (by omega) (by omega) (fun c7 => ?_) (fun c7 => ?_)
      · have hk9 : k = 16 := by omega
        subst hk9
        rw [hb0] at hx1
        subst hx1
        refine lv_aload_n hx hb dX5_sendBack_50 rfl (lv_at hl 0 rfl) ?_
        refine lv_bipush (v := (nI (14))) hx hb dX5_sendBack_51 (by decide) ?_
        refine lv_iload_n hx hb dX5_sendBack_53 rfl (lv_at hl 1 rfl) ?_
        refine j_addN hx hb dX5_sendBack_54 ?_
        refine lv_iconst (v := (nI (0))) hx hb dX5_sendBack_55 (by decide) ?_
        refine j_iast hx hb hw hA hz (k := (14 + b0)) rfl (by omega) (by omega) dX5_sendBack_56 (fun H locs hw hA oq hsz => ?_)
        obtain ⟨f1, ef1⟩ : ∃ y9, y9 = upd f ((14 + b0)) (nI (0)) := ⟨_, rfl⟩
        rw [← ef1] at hA
        have hf := hf.put oq hsz (by omega)
        have hR := hR.sn (k := 14 + b0) (v := 0) (by omega) rfl
        rw [← ef1] at hR
        have hs := hs.front (k := 14 + b0) (v := 0) (by omega) (by omega)
        refine j_vret hx hb hr hlocks hH hw dX5_sendBack_57 ?_
        exact ⟨rfl, ⟨_, hA, hR⟩, hs, hf⟩
      · rcases hbk : lng σ.1 k with _ | b
        · rw [hbk] at hx1
          subst hx1
          refine lv_aload_n hx hb dX5_sendBack_10 rfl (lv_at hl 0 rfl) ?_
          refine lv_iload_n hx hb dX5_sendBack_11 rfl (lv_at hl 2 rfl) ?_
          refine j_Sp (n := 2) (As := [.ref row, .int (nI (k))]) hx hb hml hown hts hw (c_X5_isFront l g z H0 row (k) (σ) f  hA hR hs (by first | assumption | omega)) gX5_sendBack_X5_isFront rfl (by decide +kernel) ⟨Nat.le_of_ble_eq_true rfl, Nat.le_of_ble_eq_true rfl⟩ rfl hl.1 (Nat.le_of_ble_eq_true rfl) ⟨Nat.zero_le _, Nat.zero_le _⟩ dX5_sendBack_12 (fun r2 locs hr2 hw => ?_) rfl
          rcases hr2 with ⟨rfl, hr2⟩ | ⟨rfl, hr2⟩
          · refine jz_eq (tgt := 42) hx hb dX5_sendBack_15 (by decide) (by omega) (fun c15 => absurd c15 (by omega)) (fun c15 => ?_)
            refine lv_iload_n hx hb dX5_sendBack_18 rfl (lv_at hl 1 rfl) ?_
            refine lv_iconst (v := (-1)) hx hb dX5_sendBack_19 (by decide) ?_
            refine lv_icmp_eq (tgt := 38) hx hb dX5_sendBack_20 (by decide) (fun c20 => ?_) (fun c20 => absurd c20 (by decide))
            refine lv_iload_n hx hb dX5_sendBack_38 rfl (lv_at hl 2 rfl) ?_
            refine lv_goto (tgt := 43) hx hb dX5_sendBack_39 (by decide) ?_
            refine lv_istore_n (lv' := [(1, .int _), (0, .ref _), (2, .int _)]) hx hb dX5_sendBack_43 rfl hl (by decide) rfl (fun ls hl => ?_)
            refine lv_iinc (v := nI (k + 1)) (lv' := [(2, .int _), (1, .int _), (0, .ref _)]) hx hb dX5_sendBack_44 hl (k := 2) rfl (nI_add _ 1) (by decide) rfl (fun ls hl => ?_)
            refine lv_goto (tgt := 4) hx hb dX5_sendBack_47 (by decide) ?_
            exact ih4  (k + 1) _ (by first | assumption | omega) (by simp only [lng, hbk]; first | (rw [if_pos (by omega)]; done) | (rw [if_neg (by omega)]; done) | (rw [if_pos (by omega)]; rfl) | (rw [if_neg (by omega)]; rfl)) (by omega) _ hw _ (lv_sub hl [2, 1, 0] rfl)
          · refine jz_eq (tgt := 42) hx hb dX5_sendBack_15 (by decide) (by omega) (fun c15 => ?_) (fun c15 => absurd c15 (by omega))
            refine lv_iload_n hx hb dX5_sendBack_42 rfl (lv_at hl 1 rfl) ?_
            refine lv_istore_n (lv' := [(1, .int _), (0, .ref _), (2, .int _)]) hx hb dX5_sendBack_43 rfl hl (by decide) rfl (fun ls hl => ?_)
            refine lv_iinc (v := nI (k + 1)) (lv' := [(2, .int _), (1, .int _), (0, .ref _)]) hx hb dX5_sendBack_44 hl (k := 2) rfl (nI_add _ 1) (by decide) rfl (fun ls hl => ?_)
            refine lv_goto (tgt := 4) hx hb dX5_sendBack_47 (by decide) ?_
            exact ih4  (k + 1) _ (by first | assumption | omega) (by simp only [lng, hbk]; first | (rw [if_pos (by omega)]; done) | (rw [if_neg (by omega)]; done) | (rw [if_pos (by omega)]; rfl) | (rw [if_neg (by omega)]; rfl)) (by omega) _ hw _ (lv_sub hl [2, 1, 0] rfl)
        · rw [hbk] at hx1
          subst hx1
          have hb9 := lng_lt hbk
          have hfb := hs.2.1 b (by omega)
          have hfk := hs.2.1 k (by omega)
          refine lv_aload_n hx hb dX5_sendBack_10 rfl (lv_at hl 0 rfl) ?_
          refine lv_iload_n hx hb dX5_sendBack_11 rfl (lv_at hl 2 rfl) ?_
          refine j_Sp (n := 2) (As := [.ref row, .int (nI (k))]) hx hb hml hown hts hw (c_X5_isFront l g z H0 row (k) (σ) f  hA hR hs (by first | assumption | omega)) gX5_sendBack_X5_isFront rfl (by decide +kernel) ⟨Nat.le_of_ble_eq_true rfl, Nat.le_of_ble_eq_true rfl⟩ rfl hl.1 (Nat.le_of_ble_eq_true rfl) ⟨Nat.zero_le _, Nat.zero_le _⟩ dX5_sendBack_12 (fun r3 locs hr3 hw => ?_) rfl
          rcases hr3 with ⟨rfl, hr3⟩ | ⟨rfl, hr3⟩
          · refine jz_eq (tgt := 42) hx hb dX5_sendBack_15 (by decide) (by omega) (fun c15 => absurd c15 (by omega)) (fun c15 => ?_)
            refine lv_iload_n hx hb dX5_sendBack_18 rfl (lv_at hl 1 rfl) ?_
            refine lv_iconst (v := (-1)) hx hb dX5_sendBack_19 (by decide) ?_
            refine lv_icmp_eq (tgt := 38) hx hb dX5_sendBack_20 (by decide) (fun c20 => absurd c20 (nI_ne_m1 (by omega))) (fun c20 => ?_)
            refine lv_aload_n hx hb dX5_sendBack_23 rfl (lv_at hl 0 rfl) ?_
            refine lv_bipush (v := (nI (14))) hx hb dX5_sendBack_24 (by decide) ?_
            refine lv_iload_n hx hb dX5_sendBack_26 rfl (lv_at hl 2 rfl) ?_
            refine j_addN hx hb dX5_sendBack_27 ?_
            refine j_iald hx hb hw hA (k := (14 + k)) rfl (by omega) (by omega) dX5_sendBack_28 ?_
            refine j_eq (y := nI (σ.1 (14 + k))) (hR.n _ (by omega)) ?_
            refine lv_aload_n hx hb dX5_sendBack_29 rfl (lv_at hl 0 rfl) ?_
            refine lv_bipush (v := (nI (14))) hx hb dX5_sendBack_30 (by decide) ?_
            refine lv_iload_n hx hb dX5_sendBack_32 rfl (lv_at hl 1 rfl) ?_
            refine j_addN hx hb dX5_sendBack_33 ?_
            refine j_iald hx hb hw hA (k := (14 + b)) rfl (by omega) (by omega) dX5_sendBack_34 ?_
            refine j_eq (y := nI (σ.1 (14 + b))) (hR.n _ (by omega)) ?_
            refine jn_le (tgt := 42) hx hb dX5_sendBack_35 (by decide) (by omega) (by omega) (fun c35 => ?_) (fun c35 => ?_)
            · refine lv_iload_n hx hb dX5_sendBack_42 rfl (lv_at hl 1 rfl) ?_
              refine lv_istore_n (lv' := [(1, .int _), (0, .ref _), (2, .int _)]) hx hb dX5_sendBack_43 rfl hl (by decide) rfl (fun ls hl => ?_)
              refine lv_iinc (v := nI (k + 1)) (lv' := [(2, .int _), (1, .int _), (0, .ref _)]) hx hb dX5_sendBack_44 hl (k := 2) rfl (nI_add _ 1) (by decide) rfl (fun ls hl => ?_)
              refine lv_goto (tgt := 4) hx hb dX5_sendBack_47 (by decide) ?_
              exact ih4  (k + 1) _ (by first | assumption | omega) (by simp only [lng, hbk]; first | (rw [if_pos (by omega)]; done) | (rw [if_neg (by omega)]; done) | (rw [if_pos (by omega)]; rfl) | (rw [if_neg (by omega)]; rfl)) (by omega) _ hw _ (lv_sub hl [2, 1, 0] rfl)
            · refine lv_iload_n hx hb dX5_sendBack_38 rfl (lv_at hl 2 rfl) ?_
              refine lv_goto (tgt := 43) hx hb dX5_sendBack_39 (by decide) ?_
              refine lv_istore_n (lv' := [(1, .int _), (0, .ref _), (2, .int _)]) hx hb dX5_sendBack_43 rfl hl (by decide) rfl (fun ls hl => ?_)
              refine lv_iinc (v := nI (k + 1)) (lv' := [(2, .int _), (1, .int _), (0, .ref _)]) hx hb dX5_sendBack_44 hl (k := 2) rfl (nI_add _ 1) (by decide) rfl (fun ls hl => ?_)
              refine lv_goto (tgt := 4) hx hb dX5_sendBack_47 (by decide) ?_
              exact ih4  (k + 1) _ (by first | assumption | omega) (by simp only [lng, hbk]; first | (rw [if_pos (by omega)]; done) | (rw [if_neg (by omega)]; done) | (rw [if_pos (by omega)]; rfl) | (rw [if_neg (by omega)]; rfl)) (by omega) _ hw _ (lv_sub hl [2, 1, 0] rfl)
          · refine jz_eq (tgt := 42) hx hb dX5_sendBack_15 (by decide) (by omega) (fun c15 => ?_) (fun c15 => absurd c15 (by omega))
            refine lv_iload_n hx hb dX5_sendBack_42 rfl (lv_at hl 1 rfl) ?_
            refine lv_istore_n (lv' := [(1, .int _), (0, .ref _), (2, .int _)]) hx hb dX5_sendBack_43 rfl hl (by decide) rfl (fun ls hl => ?_)
            refine lv_iinc (v := nI (k + 1)) (lv' := [(2, .int _), (1, .int _), (0, .ref _)]) hx hb dX5_sendBack_44 hl (k := 2) rfl (nI_add _ 1) (by decide) rfl (fun ls hl => ?_)
            refine lv_goto (tgt := 4) hx hb dX5_sendBack_47 (by decide) ?_
            exact ih4  (k + 1) _ (by first | assumption | omega) (by simp only [lng, hbk]; first | (rw [if_pos (by omega)]; done) | (rw [if_neg (by omega)]; done) | (rw [if_pos (by omega)]; rfl) | (rw [if_neg (by omega)]; rfl)) (by omega) _ hw _ (lv_sub hl [2, 1, 0] rfl)
  exact lp4 (16 - (0) + 1) (0) _ (by first | assumption | omega) rfl (by omega) _ hw _ (lv_sub hl [2, 1, 0] rfl)
