abbrev q_X5_bring (g : jG) (H0 : Heap) (M : Nat) (row : Nat) (lt : Nat) (σ : Sg) (f : Nat → Int32) (x0 : Int32) (x2 : Int32) (x3 : Int32) (x4 : Int32) (x5 : Int32) (x10 : Int32) (x14 : Int32) (sn : Bool) : Option Value → Heap → Prop := jV (fun H1 => rTo2 g M row (bringS σ lt) H0 H1 ∧ jO g H1 M 5 [.int x0, .ref (M + 1), .int x2, .int x3, .int x4, .int x5, .ref (M + 2), .ref (M + 3), .ref (M + 4), .ref (M + 5), .int x10, .ref (M + 6), .ref (M + 7), .ref (M + 8), .int x14, .int (bI (sn || wd lt σ.2.2.1))])
set_option maxHeartbeats 4000000 in
set_option maxRecDepth 100000 in
theorem c_X5_bring (l : Launch) (g : jG) (z : Nat) (H0 : Heap) (M : Nat) (row : Nat) (lt : Nat) (σ : Sg) (f : Nat → Int32) (x0 : Int32) (x2 : Int32) (x3 : Int32) (x4 : Int32) (x5 : Int32) (x10 : Int32) (x14 : Int32) (sn : Bool) (hzM : z ≤ M) (hrow : M + 2 ≤ row ∧ row ≤ M + 4) (hz : z ≤ row) (hO : jO g H0 M 5 [.int x0, .ref (M + 1), .int x2, .int x3, .int x4, .int x5, .ref (M + 2), .ref (M + 3), .ref (M + 4), .ref (M + 5), .int x10, .ref (M + 6), .ref (M + 7), .ref (M + 8), .int x14, .int (bI sn)]) (hA : jI g H0 row 235 f) (hR : Row f σ) (hs : okS σ) (hlt : lt < 16) : jM l g z yX5_bring wsX5_bring 2 49 [.ref M, .ref row, .int (nI (lt))] H0 (q_X5_bring g H0 M row lt σ f x0 x2 x3 x4 x5 x10 x14 sn) := by
  refine j_of (cc := cX5_bring) (n := 4) (ret := none) (by decide) rfl (Nat.le_of_ble_eq_true rfl) ?_
  intro p e s m below meth c hx hb hr hml hown hts hlocks hname hH hw ls hl
  have hl : lv_has ls 4 [(0, .ref M), (1, .ref row), (2, .int (nI (lt)))] := hl
  have hinX5 : ∀ w ∈ u_ws RX5 TX5 16, w ∈ wsX5_bring := by decide +kernel
  have hf : jF3 M row M H0 H0 := jF3.rf
  have hn := hs.2.2.1
  have lp0 : ∀ (n0 : Nat) (j : Nat) (σk : Sg) (fk : Nat → Int32) (hjk : fcnt σk.1 16 ≤ j) (hck : clr j σk = clr 16 σ) (hR : Row fk σk) (hs : okS σk) (hmu0 : j < n0) (H : Heap) (locs : List Loc) (hw : jW g z s H locs) (hf : jF3 M row M H0 H) (hA : jI g H row 235 fk) (hO : jO g H M 5 [.int x0, .ref (M + 1), .int x2, .int x3, .int x4, .int x5, .ref (M + 2), .ref (M + 3), .ref (M + 4), .ref (M + 5), .int x10, .ref (M + 6), .ref (M + 7), .ref (M + 8), .int x14, .int (bI sn)]) (ls : Array Slot) (hl : lv_has ls 4 [(0, .ref M), (1, .ref row), (2, .int (nI (lt)))]), jK p l e 2 49 s m [.ref M, .ref row, .int (nI (lt))] below meth c z H0 (q_X5_bring g H0 M row lt σ f x0 x2 x3 x4 x5 x10 x14 sn) H locs (F0 m 0 ls []) := by
    intro n0
    induction n0 with
    | zero => intros; omega
    | succ n0 ih0 =>
      intro j σk fk hjk hck hR hs hmu0 H locs hw hf hA hO ls hl
      have hfc9 := fcnt_le σk.1 16
      have h1 := hs.1.2.1
      have h16 := hs.1.2.2.1
      refine lv_aload_n hx hb dX5_bring_0 rfl (lv_at hl 1 rfl) ?_
      refine j_Sp (n := 1) (As := [.ref row]) hx hb hml hown hts hw (c_X5_fronts l g z H row (σk) fk  hA hR hs) gX5_bring_X5_fronts rfl (by decide +kernel) ⟨Nat.le_of_ble_eq_true rfl, Nat.le_of_ble_eq_true rfl⟩ rfl hl.1 (Nat.le_of_ble_eq_true rfl) ⟨Nat.zero_le _, Nat.zero_le _⟩ dX5_bring_1 (fun r1 locs hr1 hw => ?_) rfl
      obtain rfl : r1 = (nI (fcnt (σk).1 16)) := hr1
      refine lv_aload_n hx hb dX5_bring_4 rfl (lv_at hl 1 rfl) ?_
      refine lv_iconst (v := (nI (1))) hx hb dX5_bring_5 (by decide) ?_
      refine j_iald hx hb hw hA (k := 1) rfl (by omega) (by omega) dX5_bring_6 ?_
      refine j_eq (y := nI (σk.1 1)) (hR.n 1 (by omega)) ?_
      refine jn_lt (tgt := 17) hx hb dX5_bring_7 (by decide) (by omega) (by omega) (fun c7 => ?_) (fun c7 => ?_)
      · have hc2 : σk = clr 16 σ := by rw [← hck, clr_stop (by omega)]
        subst hc2
        refine lv_aload_n hx hb dX5_bring_17 rfl (lv_at hl 1 rfl) ?_
        refine lv_bipush (v := (nI (14))) hx hb dX5_bring_18 (by decide) ?_
        refine lv_iload_n hx hb dX5_bring_20 rfl (lv_at hl 2 rfl) ?_
        refine j_addN hx hb dX5_bring_21 ?_
        refine lv_iconst (v := (nI (1))) hx hb dX5_bring_22 (by decide) ?_
        refine j_iast hx hb hw hA hz (k := (14 + lt)) rfl (by omega) (by omega) dX5_bring_23 (fun H locs hw hA oq hsz => ?_)
        obtain ⟨f2, ef2⟩ : ∃ y9, y9 = upd fk ((14 + lt)) (nI (1)) := ⟨_, rfl⟩
        rw [← ef2] at hA
        have hO := hO.kept (oq _ (by omega))
        have hf := hf.put oq hsz (by omega)
        have hR := hR.sn (k := 14 + lt) (v := 1) (by omega) rfl
        rw [← ef2] at hR
        have hs := hs.front (k := 14 + lt) (v := 1) (by omega) (by omega)
        refine lv_aload_n hx hb dX5_bring_24 rfl (lv_at hl 1 rfl) ?_
        refine lv_bipush (v := (nI (30))) hx hb dX5_bring_25 (by decide) ?_
        refine lv_iload_n hx hb dX5_bring_27 rfl (lv_at hl 2 rfl) ?_
        refine j_addN hx hb dX5_bring_28 ?_
        refine lv_dup2_11 hx hb dX5_bring_29 rfl rfl ?_
        refine j_iald hx hb hw hA (k := (30 + lt)) rfl (by omega) (by omega) dX5_bring_30 ?_
        refine j_eq (y := nI ((clr 16 σ).1 (30 + lt))) ((hR.n _ (by omega)).trans (congrArg nI (upn_n (by omega)))) ?_
        refine lv_iconst (v := (nI (1))) hx hb dX5_bring_31 (by decide) ?_
        refine j_addN hx hb dX5_bring_32 ?_
        refine j_iast hx hb hw hA hz (k := (30 + lt)) rfl (by omega) (by omega) dX5_bring_33 (fun H locs hw hA oq hsz => ?_)
        obtain ⟨f3, ef3⟩ : ∃ y9, y9 = upd f2 ((30 + lt)) (nI (((clr 16 σ).1 (30 + lt) + 1))) := ⟨_, rfl⟩
        rw [← ef3] at hA
        have hO := hO.kept (oq _ (by omega))
        have hf := hf.put oq hsz (by omega)
        have hR := hR.sn (k := 30 + lt) (v := (clr 16 σ).1 (30 + lt) + 1) (by omega) rfl
        rw [← ef3] at hR
        have hs := hs.sn (k := 30 + lt) (v := (clr 16 σ).1 (30 + lt) + 1) (by omega)
        refine lv_aload_n hx hb dX5_bring_34 rfl (lv_at hl 1 rfl) ?_
        refine lv_bipush (v := (nI (12))) hx hb dX5_bring_35 (by decide) ?_
        refine lv_dup2_11 hx hb dX5_bring_37 rfl rfl ?_
        refine j_iald hx hb hw hA (k := 12) rfl (by omega) (by omega) dX5_bring_38 ?_
        refine j_eq (y := nI ((clr 16 σ).1 12)) ((hR.n _ (by omega)).trans (congrArg nI ((upn_n (by omega)).trans (upn_n (by omega))))) ?_
        refine lv_iconst (v := (nI (1))) hx hb dX5_bring_39 (by decide) ?_
        refine j_addN hx hb dX5_bring_40 ?_
        refine j_iast hx hb hw hA hz (k := 12) rfl (by omega) (by omega) dX5_bring_41 (fun H locs hw hA oq hsz => ?_)
        obtain ⟨f4, ef4⟩ : ∃ y9, y9 = upd f3 (12) (nI (((clr 16 σ).1 12 + 1))) := ⟨_, rfl⟩
        rw [← ef4] at hA
        have hO := hO.kept (oq _ (by omega))
        have hf := hf.put oq hsz (by omega)
        have hR := hR.sn (k := 12) (v := (clr 16 σ).1 12 + 1) (by omega) rfl
        rw [← ef4] at hR
        have hs := hs.sn (k := 12) (v := (clr 16 σ).1 12 + 1) (by omega)
        have hR : Row f4 (upo (dl lt (σ.2.2.1.take 0) (bring1 σ lt)) (kp lt (σ.2.2.1.take 0) ++ σ.2.2.1.drop 0)) := by rw [bring_start]; exact hR
        have hs : okS (upo (dl lt (σ.2.2.1.take 0) (bring1 σ lt)) (kp lt (σ.2.2.1.take 0) ++ σ.2.2.1.drop 0)) := by rw [bring_start]; exact hs
        refine lv_iconst (v := (nI (0))) hx hb dX5_bring_42 (by decide) ?_
        refine lv_istore_n (lv' := [(3, .int _), (0, .ref _), (1, .ref _), (2, .int _)]) hx hb dX5_bring_43 rfl hl (by decide) rfl (fun ls hl => ?_)
        have lp44 : ∀ (n44 : Nat) (j : Nat) (fj : Nat → Int32) (hj : j ≤ σ.2.2.1.length) (hR : Row fj (upo (dl lt (σ.2.2.1.take j) (bring1 σ lt)) (kp lt (σ.2.2.1.take j) ++ σ.2.2.1.drop j))) (hs : okS (upo (dl lt (σ.2.2.1.take j) (bring1 σ lt)) (kp lt (σ.2.2.1.take j) ++ σ.2.2.1.drop j))) (hmu44 : σ.2.2.1.length - j < n44) (H : Heap) (locs : List Loc) (hw : jW g z s H locs) (hf : jF3 M row M H0 H) (hA : jI g H row 235 fj) (hO : jO g H M 5 [.int x0, .ref (M + 1), .int x2, .int x3, .int x4, .int x5, .ref (M + 2), .ref (M + 3), .ref (M + 4), .ref (M + 5), .int x10, .ref (M + 6), .ref (M + 7), .ref (M + 8), .int x14, .int (bI (sn || wd lt (σ.2.2.1.take j)))]) (ls : Array Slot) (hl : lv_has ls 4 [(0, .ref M), (1, .ref row), (2, .int (nI (lt))), (3, .int (nI ((kp lt (σ.2.2.1.take j)).length)))]), jK p l e 2 49 s m [.ref M, .ref row, .int (nI (lt))] below meth c z H0 (q_X5_bring g H0 M row lt σ f x0 x2 x3 x4 x5 x10 x14 sn) H locs (F0 m 44 ls []) := by
          intro n44
          induction n44 with
          | zero => intros; omega
          | succ n44 ih44 =>
            intro j fj hj hR hs hmu44 H locs hw hf hA hO ls hl
            have hl9 : (kp lt (σ.2.2.1.take j) ++ σ.2.2.1.drop j).length ≤ 21 := hs.2.2.1
            have hm9 := mid_len (l := lt) (j := j) (L := σ.2.2.1)
            refine lv_iload_n hx hb dX5_bring_44 rfl (lv_at hl 3 rfl) ?_
            refine lv_aload_n hx hb dX5_bring_45 rfl (lv_at hl 1 rfl) ?_
            refine lv_bipush (v := (nI (6))) hx hb dX5_bring_46 (by decide) ?_
            refine j_iald hx hb hw hA (k := 6) rfl (by omega) (by omega) dX5_bring_48 ?_
            refine j_eq (y := nI ((kp lt (σ.2.2.1.take j) ++ σ.2.2.1.drop j).length)) hR.2.2.1 ?_
            refine jn_ge (tgt := 137) hx hb dX5_bring_49 (by decide) (by omega) (by omega) (fun c49 => ?_) (fun c49 => ?_)
            · refine j_vret hx hb hr hlocks hH hw dX5_bring_137 ?_
              have hj9 : j = σ.2.2.1.length := by rw [mid_len] at c49; omega
              subst hj9
              rw [List.take_length, List.drop_length, List.append_nil] at hR hs
              rw [List.take_length] at hO
              exact ⟨rfl, ⟨⟨_, hA, hR⟩, hs, hf⟩, hO⟩
            · have hjl : j < σ.2.2.1.length := by rw [mid_len] at c49; omega
              obtain ⟨o, hoj⟩ := getO hjl
              have ho : (upo (dl lt (σ.2.2.1.take j) (bring1 σ lt)) (kp lt (σ.2.2.1.take j) ++ σ.2.2.1.drop j)).2.2.1[(kp lt (σ.2.2.1.take j)).length]? = some o := mid_get hoj
              obtain ⟨ho0, ho1, ho2, ho3, ho4, ho5⟩ := hs.2.2.2.1 o (memO ho)
              have hil := lenlt ho
              have hi21 := hs.2.2.1
              refine lv_aload_n hx hb dX5_bring_52 rfl (lv_at hl 1 rfl) ?_
              refine lv_iload_n hx hb dX5_bring_53 rfl (lv_at hl 3 rfl) ?_
              refine lv_iconst (v := (nI (1))) hx hb dX5_bring_54 (by decide) ?_
              refine j_Sp (n := 2) (As := [.int (nI ((kp lt (σ.2.2.1.take j)).length)), .int (nI (1))]) hx hb hml hown hts hw (c_X5_at l g z H ((kp lt (σ.2.2.1.take j)).length) (1)   ) gX5_bring_X5_at rfl (by decide +kernel) ⟨Nat.le_of_ble_eq_true rfl, Nat.le_of_ble_eq_true rfl⟩ rfl hl.1 (Nat.le_of_ble_eq_true rfl) ⟨Nat.zero_le _, Nat.zero_le _⟩ dX5_bring_55 (fun r5 locs hr5 hw => ?_) rfl
              obtain rfl : r5 = (nI (109 + 6 * ((kp lt (σ.2.2.1.take j)).length) + (1))) := hr5
              refine j_iald hx hb hw hA (k := 109 + 6 * ((kp lt (σ.2.2.1.take j)).length) + (1)) rfl (by omega) (by omega) dX5_bring_58 ?_
              refine j_eq (y := nI (o 1)) (hR.o ho 1 (by omega) (by omega)) ?_
              refine lv_iload_n hx hb dX5_bring_59 rfl (lv_at hl 2 rfl) ?_
              refine jn_ne (tgt := 131) hx hb dX5_bring_60 (by decide) (by omega) (by omega) (fun c60 => ?_) (fun c60 => ?_)
              · refine lv_iinc (v := nI ((kp lt (σ.2.2.1.take j)).length + 1)) (lv' := [(3, .int _), (0, .ref _), (1, .ref _), (2, .int _)]) hx hb dX5_bring_131 hl (k := 3) rfl (nI_add _ 1) (by decide) rfl (fun ls hl => ?_)
                have hR : Row fj (upo (dl lt (σ.2.2.1.take (j + 1)) (bring1 σ lt)) (kp lt (σ.2.2.1.take (j + 1)) ++ σ.2.2.1.drop (j + 1))) := by rw [← (bring_miss hoj c60).1]; exact hR
                have hs : okS (upo (dl lt (σ.2.2.1.take (j + 1)) (bring1 σ lt)) (kp lt (σ.2.2.1.take (j + 1)) ++ σ.2.2.1.drop (j + 1))) := by rw [← (bring_miss hoj c60).1]; exact hs
                have hsn : bI (sn || wd lt (σ.2.2.1.take j)) = bI (sn || wd lt (σ.2.2.1.take (j + 1))) := by rw [wd_take hoj, ← Bool.or_assoc, decide_eq_false (show ¬ (o 1 = lt ∧ o 5 = 1) from fun q => c60 q.1), Bool.or_false]
                rw [hsn] at hO
                rw [← (bring_miss (X := bring1 σ lt) hoj c60).2] at hl
                refine lv_goto (tgt := 44) hx hb dX5_bring_134 (by decide) ?_
                skip
                exact ih44  (j + 1) fj (by first | assumption | omega) hR hs (by omega) H _ hw hf hA hO _ (lv_sub hl [1, 2, 3, 0] rfl)
              · refine lv_aload_n hx hb dX5_bring_63 rfl (lv_at hl 0 rfl) ?_
                refine lv_aload_n hx hb dX5_bring_64 rfl (lv_at hl 0 rfl) ?_
                refine j_get (T := TX5) (N := 16) (k := 15) hx hb hts hinX5 hown hw hO rfl (by decide) (hts (.fieldLink RX5 93 "NightTrainsModel" "isSeen" "Z") (by decide +kernel)) rfl dX5_bring_65 ?_
                refine lv_if_ne (tgt := 82) hx hb dX5_bring_68 (by decide) (fun c68 => ?_) (fun c68 => ?_)
                · refine lv_iconst (v := (nI (1))) hx hb dX5_bring_82 (by decide) ?_
                  refine lv_goto (tgt := 87) hx hb dX5_bring_83 (by decide) ?_
                  have hsn : nI 1 = bI (sn || wd lt (σ.2.2.1.take (j + 1))) := (by rw [wd_take hoj, ← Bool.or_assoc, bI_ne c68]; rfl)
                  refine j_put (T := TX5) (N := 16) (k := 15) (ty := .boolean) hx hb hts hinX5 tyX5 tyX5_ok nmX5 hown hw hO hzM rfl (by decide) (hts (.fieldLink RX5 93 "NightTrainsModel" "isSeen" "Z") (by decide +kernel)) rfl (by decide +kernel) rfl rfl (Nat.le_of_ble_eq_true rfl) dX5_bring_87 (fun H locs hw hO oq hsz => ?_)
                  have hO : jO g H M 5 [.int _, .ref _, .int _, .int _, .int _, .int _, .ref _, .ref _, .ref _, .ref _, .int _, .ref _, .ref _, .ref _, .int _, .int _] := hO
                  have hA := hA.kept (oq _ (by omega))
                  have hf := hf.put oq hsz (by omega)
                  rw [hsn] at hO
                  refine lv_aload_n hx hb dX5_bring_90 rfl (lv_at hl 1 rfl) ?_
                  refine lv_aload_n hx hb dX5_bring_91 rfl (lv_at hl 1 rfl) ?_
                  refine lv_iload_n hx hb dX5_bring_92 rfl (lv_at hl 3 rfl) ?_
                  refine lv_iconst (v := (nI (0))) hx hb dX5_bring_93 (by decide) ?_
                  refine j_Sp (n := 2) (As := [.int (nI ((kp lt (σ.2.2.1.take j)).length)), .int (nI (0))]) hx hb hml hown hts hw (c_X5_at l g z H ((kp lt (σ.2.2.1.take j)).length) (0)   ) gX5_bring_X5_at rfl (by decide +kernel) ⟨Nat.le_of_ble_eq_true rfl, Nat.le_of_ble_eq_true rfl⟩ rfl hl.1 (Nat.le_of_ble_eq_true rfl) ⟨Nat.zero_le _, Nat.zero_le _⟩ dX5_bring_94 (fun r6 locs hr6 hw => ?_) rfl
                  obtain rfl : r6 = (nI (109 + 6 * ((kp lt (σ.2.2.1.take j)).length) + (0))) := hr6
                  refine j_iald hx hb hw hA (k := 109 + 6 * ((kp lt (σ.2.2.1.take j)).length) + (0)) rfl (by omega) (by omega) dX5_bring_97 ?_
                  refine j_eq (y := nI (o 0)) (hR.o ho 0 (by omega) (by omega)) ?_
                  refine lv_iload_n hx hb dX5_bring_98 rfl (lv_at hl 2 rfl) ?_
                  refine lv_aload_n hx hb dX5_bring_99 rfl (lv_at hl 1 rfl) ?_
                  refine lv_iload_n hx hb dX5_bring_100 rfl (lv_at hl 3 rfl) ?_
                  refine lv_iconst (v := (nI (2))) hx hb dX5_bring_101 (by decide) ?_
                  refine j_Sp (n := 2) (As := [.int (nI ((kp lt (σ.2.2.1.take j)).length)), .int (nI (2))]) hx hb hml hown hts hw (c_X5_at l g z H ((kp lt (σ.2.2.1.take j)).length) (2)   ) gX5_bring_X5_at rfl (by decide +kernel) ⟨Nat.le_of_ble_eq_true rfl, Nat.le_of_ble_eq_true rfl⟩ rfl hl.1 (Nat.le_of_ble_eq_true rfl) ⟨Nat.zero_le _, Nat.zero_le _⟩ dX5_bring_102 (fun r7 locs hr7 hw => ?_) rfl
                  obtain rfl : r7 = (nI (109 + 6 * ((kp lt (σ.2.2.1.take j)).length) + (2))) := hr7
                  refine j_iald hx hb hw hA (k := 109 + 6 * ((kp lt (σ.2.2.1.take j)).length) + (2)) rfl (by omega) (by omega) dX5_bring_105 ?_
                  refine j_eq (y := nI (o 2)) (hR.o ho 2 (by omega) (by omega)) ?_
                  refine lv_aload_n hx hb dX5_bring_106 rfl (lv_at hl 1 rfl) ?_
                  refine lv_iload_n hx hb dX5_bring_107 rfl (lv_at hl 3 rfl) ?_
                  refine lv_iconst (v := (nI (4))) hx hb dX5_bring_108 (by decide) ?_
                  refine j_Sp (n := 2) (As := [.int (nI ((kp lt (σ.2.2.1.take j)).length)), .int (nI (4))]) hx hb hml hown hts hw (c_X5_at l g z H ((kp lt (σ.2.2.1.take j)).length) (4)   ) gX5_bring_X5_at rfl (by decide +kernel) ⟨Nat.le_of_ble_eq_true rfl, Nat.le_of_ble_eq_true rfl⟩ rfl hl.1 (Nat.le_of_ble_eq_true rfl) ⟨Nat.zero_le _, Nat.zero_le _⟩ dX5_bring_109 (fun r8 locs hr8 hw => ?_) rfl
                  obtain rfl : r8 = (nI (109 + 6 * ((kp lt (σ.2.2.1.take j)).length) + (4))) := hr8
                  refine j_iald hx hb hw hA (k := 109 + 6 * ((kp lt (σ.2.2.1.take j)).length) + (4)) rfl (by omega) (by omega) dX5_bring_112 ?_
                  refine j_eq (y := nI (o 4)) (hR.o ho 4 (by omega) (by omega)) ?_
                  refine lv_aload_n hx hb dX5_bring_113 rfl (lv_at hl 1 rfl) ?_
                  refine lv_iload_n hx hb dX5_bring_114 rfl (lv_at hl 3 rfl) ?_
                  refine lv_iconst (v := (nI (3))) hx hb dX5_bring_115 (by decide) ?_
                  refine j_Sp (n := 2) (As := [.int (nI ((kp lt (σ.2.2.1.take j)).length)), .int (nI (3))]) hx hb hml hown hts hw (c_X5_at l g z H ((kp lt (σ.2.2.1.take j)).length) (3)   ) gX5_bring_X5_at rfl (by decide +kernel) ⟨Nat.le_of_ble_eq_true rfl, Nat.le_of_ble_eq_true rfl⟩ rfl hl.1 (Nat.le_of_ble_eq_true rfl) ⟨Nat.zero_le _, Nat.zero_le _⟩ dX5_bring_116 (fun r9 locs hr9 hw => ?_) rfl
                  obtain rfl : r9 = (nI (109 + 6 * ((kp lt (σ.2.2.1.take j)).length) + (3))) := hr9
                  refine j_iald hx hb hw hA (k := 109 + 6 * ((kp lt (σ.2.2.1.take j)).length) + (3)) rfl (by omega) (by omega) dX5_bring_119 ?_
                  refine j_eq (y := nI (o 3)) (hR.o ho 3 (by omega) (by omega)) ?_
                  refine j_Sv (n := 6) (As := [.ref row, .int (nI (o 0)), .int (nI (lt)), .int (nI (o 2)), .int (nI (o 4)), .int (nI (o 3))]) hx hb hml hown hts hw (c_X5_deliver l g z H row (o 0) (lt) (o 2) (o 4) (o 3) ((upo (dl lt (σ.2.2.1.take j) (bring1 σ lt)) (kp lt (σ.2.2.1.take j) ++ σ.2.2.1.drop j))) fj hz hA hR hs ⟨ho0, hlt, ho2, ho3, ho4, Nat.zero_lt_succ _⟩) gX5_bring_X5_deliver rfl (by decide +kernel) ⟨Nat.le_of_ble_eq_true rfl, Nat.le_of_ble_eq_true rfl⟩ rfl hl.1 (Nat.le_of_ble_eq_true rfl) ⟨Nat.zero_le _, Nat.zero_le _⟩ dX5_bring_120 (fun H locs hr10 hw hsz => ?_) rfl
                  obtain ⟨⟨f11, hA, hR⟩, hs, hf2⟩ := hr10
                  have hO := hO.kept (hf2.2 _ (by omega))
                  have hf := hf.step hf2 (by omega)
                  refine lv_aload_n hx hb dX5_bring_123 rfl (lv_at hl 1 rfl) ?_
                  refine lv_iload_n hx hb dX5_bring_124 rfl (lv_at hl 3 rfl) ?_
                  refine j_Sv (n := 2) (As := [.ref row, .int (nI ((kp lt (σ.2.2.1.take j)).length))]) hx hb hml hown hts hw (c_X5_closeOrder l g z H row ((kp lt (σ.2.2.1.take j)).length) ((note ((upo (dl lt (σ.2.2.1.take j) (bring1 σ lt)) (kp lt (σ.2.2.1.take j) ++ σ.2.2.1.drop j))) (mkO (o 0) (lt) (o 2) (o 3) (o 4) 0))) f11 hz hA hR hs hil) gX5_bring_X5_closeOrder rfl (by decide +kernel) ⟨Nat.le_of_ble_eq_true rfl, Nat.le_of_ble_eq_true rfl⟩ rfl hl.1 (Nat.le_of_ble_eq_true rfl) ⟨Nat.zero_le _, Nat.zero_le _⟩ dX5_bring_125 (fun H locs hr12 hw hsz => ?_) rfl
                  obtain ⟨⟨f13, hA, hR⟩, hs, hf2⟩ := hr12
                  have hO := hO.kept (hf2.2 _ (by omega))
                  have hf := hf.step hf2 (by omega)
                  have hR : Row f13 (upo (dl lt (σ.2.2.1.take (j + 1)) (bring1 σ lt)) (kp lt (σ.2.2.1.take (j + 1)) ++ σ.2.2.1.drop (j + 1))) := by rw [← (bring_hit hoj c60).1]; exact hR
                  have hs : okS (upo (dl lt (σ.2.2.1.take (j + 1)) (bring1 σ lt)) (kp lt (σ.2.2.1.take (j + 1)) ++ σ.2.2.1.drop (j + 1))) := by rw [← (bring_hit hoj c60).1]; exact hs
                  rw [← (bring_hit (X := bring1 σ lt) hoj c60).2] at hl
                  refine lv_goto (tgt := 44) hx hb dX5_bring_128 (by decide) ?_
                  skip
                  exact ih44  (j + 1) f13 (by first | assumption | omega) hR hs (by omega) H _ hw hf hA hO _ (lv_sub hl [0, 1, 2, 3] rfl)
                · refine lv_aload_n hx hb dX5_bring_71 rfl (lv_at hl 1 rfl) ?_
                  refine lv_iload_n hx hb dX5_bring_72 rfl (lv_at hl 3 rfl) ?_
                  refine lv_iconst (v := (nI (5))) hx hb dX5_bring_73 (by decide) ?_
                  refine j_Sp (n := 2) (As := [.int (nI ((kp lt (σ.2.2.1.take j)).length)), .int (nI (5))]) hx hb hml hown hts hw (c_X5_at l g z H ((kp lt (σ.2.2.1.take j)).length) (5)   ) gX5_bring_X5_at rfl (by decide +kernel) ⟨Nat.le_of_ble_eq_true rfl, Nat.le_of_ble_eq_true rfl⟩ rfl hl.1 (Nat.le_of_ble_eq_true rfl) ⟨Nat.zero_le _, Nat.zero_le _⟩ dX5_bring_74 (fun r14 locs hr14 hw => ?_) rfl
                  obtain rfl : r14 = (nI (109 + 6 * ((kp lt (σ.2.2.1.take j)).length) + (5))) := hr14
                  refine j_iald hx hb hw hA (k := 109 + 6 * ((kp lt (σ.2.2.1.take j)).length) + (5)) rfl (by omega) (by omega) dX5_bring_77 ?_
                  refine j_eq (y := nI (o 5)) (hR.o ho 5 (by omega) (by omega)) ?_
                  refine lv_iconst (v := (nI (1))) hx hb dX5_bring_78 (by decide) ?_
                  refine jn_ne (tgt := 86) hx hb dX5_bring_79 (by decide) (by omega) (by omega) (fun c79 => ?_) (fun c79 => ?_)
                  · refine lv_iconst (v := (nI (0))) hx hb dX5_bring_86 (by decide) ?_
                    have hsn : nI 0 = bI (sn || wd lt (σ.2.2.1.take (j + 1))) := (by rw [wd_take hoj, ← Bool.or_assoc, bI_eq c68, decide_eq_false (show ¬ (o 1 = lt ∧ o 5 = 1) from fun q => c79 q.2)]; rfl)
                    refine j_put (T := TX5) (N := 16) (k := 15) (ty := .boolean) hx hb hts hinX5 tyX5 tyX5_ok nmX5 hown hw hO hzM rfl (by decide) (hts (.fieldLink RX5 93 "NightTrainsModel" "isSeen" "Z") (by decide +kernel)) rfl (by decide +kernel) rfl rfl (Nat.le_of_ble_eq_true rfl) dX5_bring_87 (fun H locs hw hO oq hsz => ?_)
                    have hO : jO g H M 5 [.int _, .ref _, .int _, .int _, .int _, .int _, .ref _, .ref _, .ref _, .ref _, .int _, .ref _, .ref _, .ref _, .int _, .int _] := hO
                    have hA := hA.kept (oq _ (by omega))
                    have hf := hf.put oq hsz (by omega)
                    rw [hsn] at hO
                    refine lv_aload_n hx hb dX5_bring_90 rfl (lv_at hl 1 rfl) ?_
                    refine lv_aload_n hx hb dX5_bring_91 rfl (lv_at hl 1 rfl) ?_
                    refine lv_iload_n hx hb dX5_bring_92 rfl (lv_at hl 3 rfl) ?_
                    refine lv_iconst (v := (nI (0))) hx hb dX5_bring_93 (by decide) ?_
                    refine j_Sp (n := 2) (As := [.int (nI ((kp lt (σ.2.2.1.take j)).length)), .int (nI (0))]) hx hb hml hown hts hw (c_X5_at l g z H ((kp lt (σ.2.2.1.take j)).length) (0)   ) gX5_bring_X5_at rfl (by decide +kernel) ⟨Nat.le_of_ble_eq_true rfl, Nat.le_of_ble_eq_true rfl⟩ rfl hl.1 (Nat.le_of_ble_eq_true rfl) ⟨Nat.zero_le _, Nat.zero_le _⟩ dX5_bring_94 (fun r15 locs hr15 hw => ?_) rfl
                    obtain rfl : r15 = (nI (109 + 6 * ((kp lt (σ.2.2.1.take j)).length) + (0))) := hr15
                    refine j_iald hx hb hw hA (k := 109 + 6 * ((kp lt (σ.2.2.1.take j)).length) + (0)) rfl (by omega) (by omega) dX5_bring_97 ?_
                    refine j_eq (y := nI (o 0)) (hR.o ho 0 (by omega) (by omega)) ?_
                    refine lv_iload_n hx hb dX5_bring_98 rfl (lv_at hl 2 rfl) ?_
                    refine lv_aload_n hx hb dX5_bring_99 rfl (lv_at hl 1 rfl) ?_
                    refine lv_iload_n hx hb dX5_bring_100 rfl (lv_at hl 3 rfl) ?_
                    refine lv_iconst (v := (nI (2))) hx hb dX5_bring_101 (by decide) ?_
                    refine j_Sp (n := 2) (As := [.int (nI ((kp lt (σ.2.2.1.take j)).length)), .int (nI (2))]) hx hb hml hown hts hw (c_X5_at l g z H ((kp lt (σ.2.2.1.take j)).length) (2)   ) gX5_bring_X5_at rfl (by decide +kernel) ⟨Nat.le_of_ble_eq_true rfl, Nat.le_of_ble_eq_true rfl⟩ rfl hl.1 (Nat.le_of_ble_eq_true rfl) ⟨Nat.zero_le _, Nat.zero_le _⟩ dX5_bring_102 (fun r16 locs hr16 hw => ?_) rfl
                    obtain rfl : r16 = (nI (109 + 6 * ((kp lt (σ.2.2.1.take j)).length) + (2))) := hr16
                    refine j_iald hx hb hw hA (k := 109 + 6 * ((kp lt (σ.2.2.1.take j)).length) + (2)) rfl (by omega) (by omega) dX5_bring_105 ?_
                    refine j_eq (y := nI (o 2)) (hR.o ho 2 (by omega) (by omega)) ?_
                    refine lv_aload_n hx hb dX5_bring_106 rfl (lv_at hl 1 rfl) ?_
                    refine lv_iload_n hx hb dX5_bring_107 rfl (lv_at hl 3 rfl) ?_
                    refine lv_iconst (v := (nI (4))) hx hb dX5_bring_108 (by decide) ?_
                    refine j_Sp (n := 2) (As := [.int (nI ((kp lt (σ.2.2.1.take j)).length)), .int (nI (4))]) hx hb hml hown hts hw (c_X5_at l g z H ((kp lt (σ.2.2.1.take j)).length) (4)   ) gX5_bring_X5_at rfl (by decide +kernel) ⟨Nat.le_of_ble_eq_true rfl, Nat.le_of_ble_eq_true rfl⟩ rfl hl.1 (Nat.le_of_ble_eq_true rfl) ⟨Nat.zero_le _, Nat.zero_le _⟩ dX5_bring_109 (fun r17 locs hr17 hw => ?_) rfl
                    obtain rfl : r17 = (nI (109 + 6 * ((kp lt (σ.2.2.1.take j)).length) + (4))) := hr17
                    refine j_iald hx hb hw hA (k := 109 + 6 * ((kp lt (σ.2.2.1.take j)).length) + (4)) rfl (by omega) (by omega) dX5_bring_112 ?_
                    refine j_eq (y := nI (o 4)) (hR.o ho 4 (by omega) (by omega)) ?_
                    refine lv_aload_n hx hb dX5_bring_113 rfl (lv_at hl 1 rfl) ?_
                    refine lv_iload_n hx hb dX5_bring_114 rfl (lv_at hl 3 rfl) ?_
                    refine lv_iconst (v := (nI (3))) hx hb dX5_bring_115 (by decide) ?_
                    refine j_Sp (n := 2) (As := [.int (nI ((kp lt (σ.2.2.1.take j)).length)), .int (nI (3))]) hx hb hml hown hts hw (c_X5_at l g z H ((kp lt (σ.2.2.1.take j)).length) (3)   ) gX5_bring_X5_at rfl (by decide +kernel) ⟨Nat.le_of_ble_eq_true rfl, Nat.le_of_ble_eq_true rfl⟩ rfl hl.1 (Nat.le_of_ble_eq_true rfl) ⟨Nat.zero_le _, Nat.zero_le _⟩ dX5_bring_116 (fun r18 locs hr18 hw => ?_) rfl
                    obtain rfl : r18 = (nI (109 + 6 * ((kp lt (σ.2.2.1.take j)).length) + (3))) := hr18
                    refine j_iald hx hb hw hA (k := 109 + 6 * ((kp lt (σ.2.2.1.take j)).length) + (3)) rfl (by omega) (by omega) dX5_bring_119 ?_
                    refine j_eq (y := nI (o 3)) (hR.o ho 3 (by omega) (by omega)) ?_
                    refine j_Sv (n := 6) (As := [.ref row, .int (nI (o 0)), .int (nI (lt)), .int (nI (o 2)), .int (nI (o 4)), .int (nI (o 3))]) hx hb hml hown hts hw (c_X5_deliver l g z H row (o 0) (lt) (o 2) (o 4) (o 3) ((upo (dl lt (σ.2.2.1.take j) (bring1 σ lt)) (kp lt (σ.2.2.1.take j) ++ σ.2.2.1.drop j))) fj hz hA hR hs ⟨ho0, hlt, ho2, ho3, ho4, Nat.zero_lt_succ _⟩) gX5_bring_X5_deliver rfl (by decide +kernel) ⟨Nat.le_of_ble_eq_true rfl, Nat.le_of_ble_eq_true rfl⟩ rfl hl.1 (Nat.le_of_ble_eq_true rfl) ⟨Nat.zero_le _, Nat.zero_le _⟩ dX5_bring_120 (fun H locs hr19 hw hsz => ?_) rfl
                    obtain ⟨⟨f20, hA, hR⟩, hs, hf2⟩ := hr19
                    have hO := hO.kept (hf2.2 _ (by omega))
                    have hf := hf.step hf2 (by omega)
                    refine lv_aload_n hx hb dX5_bring_123 rfl (lv_at hl 1 rfl) ?_
                    refine lv_iload_n hx hb dX5_bring_124 rfl (lv_at hl 3 rfl) ?_
                    refine j_Sv (n := 2) (As := [.ref row, .int (nI ((kp lt (σ.2.2.1.take j)).length))]) hx hb hml hown hts hw (c_X5_closeOrder l g z H row ((kp lt (σ.2.2.1.take j)).length) ((note ((upo (dl lt (σ.2.2.1.take j) (bring1 σ lt)) (kp lt (σ.2.2.1.take j) ++ σ.2.2.1.drop j))) (mkO (o 0) (lt) (o 2) (o 3) (o 4) 0))) f20 hz hA hR hs hil) gX5_bring_X5_closeOrder rfl (by decide +kernel) ⟨Nat.le_of_ble_eq_true rfl, Nat.le_of_ble_eq_true rfl⟩ rfl hl.1 (Nat.le_of_ble_eq_true rfl) ⟨Nat.zero_le _, Nat.zero_le _⟩ dX5_bring_125 (fun H locs hr21 hw hsz => ?_) rfl
                    obtain ⟨⟨f22, hA, hR⟩, hs, hf2⟩ := hr21
                    have hO := hO.kept (hf2.2 _ (by omega))
                    have hf := hf.step hf2 (by omega)
                    have hR : Row f22 (upo (dl lt (σ.2.2.1.take (j + 1)) (bring1 σ lt)) (kp lt (σ.2.2.1.take (j + 1)) ++ σ.2.2.1.drop (j + 1))) := by rw [← (bring_hit hoj c60).1]; exact hR
                    have hs : okS (upo (dl lt (σ.2.2.1.take (j + 1)) (bring1 σ lt)) (kp lt (σ.2.2.1.take (j + 1)) ++ σ.2.2.1.drop (j + 1))) := by rw [← (bring_hit hoj c60).1]; exact hs
                    rw [← (bring_hit (X := bring1 σ lt) hoj c60).2] at hl
                    refine lv_goto (tgt := 44) hx hb dX5_bring_128 (by decide) ?_
                    skip
                    exact ih44  (j + 1) f22 (by first | assumption | omega) hR hs (by omega) H _ hw hf hA hO _ (lv_sub hl [0, 1, 2, 3] rfl)
                  · refine lv_iconst (v := (nI (1))) hx hb dX5_bring_82 (by decide) ?_
                    refine lv_goto (tgt := 87) hx hb dX5_bring_83 (by decide) ?_
                    have hsn : nI 1 = bI (sn || wd lt (σ.2.2.1.take (j + 1))) := (by rw [wd_take hoj, ← Bool.or_assoc, decide_eq_true (show o 1 = lt ∧ o 5 = 1 from ⟨c60, c79⟩), Bool.or_true]; rfl)
                    refine j_put (T := TX5) (N := 16) (k := 15) (ty := .boolean) hx hb hts hinX5 tyX5 tyX5_ok nmX5 hown hw hO hzM rfl (by decide) (hts (.fieldLink RX5 93 "NightTrainsModel" "isSeen" "Z") (by decide +kernel)) rfl (by decide +kernel) rfl rfl (Nat.le_of_ble_eq_true rfl) dX5_bring_87 (fun H locs hw hO oq hsz => ?_)
                    have hO : jO g H M 5 [.int _, .ref _, .int _, .int _, .int _, .int _, .ref _, .ref _, .ref _, .ref _, .int _, .ref _, .ref _, .ref _, .int _, .int _] := hO
                    have hA := hA.kept (oq _ (by omega))
                    have hf := hf.put oq hsz (by omega)
                    rw [hsn] at hO
                    refine lv_aload_n hx hb dX5_bring_90 rfl (lv_at hl 1 rfl) ?_
                    refine lv_aload_n hx hb dX5_bring_91 rfl (lv_at hl 1 rfl) ?_
                    refine lv_iload_n hx hb dX5_bring_92 rfl (lv_at hl 3 rfl) ?_
                    refine lv_iconst (v := (nI (0))) hx hb dX5_bring_93 (by decide) ?_
                    refine j_Sp (n := 2) (As := [.int (nI ((kp lt (σ.2.2.1.take j)).length)), .int (nI (0))]) hx hb hml hown hts hw (c_X5_at l g z H ((kp lt (σ.2.2.1.take j)).length) (0)   ) gX5_bring_X5_at rfl (by decide +kernel) ⟨Nat.le_of_ble_eq_true rfl, Nat.le_of_ble_eq_true rfl⟩ rfl hl.1 (Nat.le_of_ble_eq_true rfl) ⟨Nat.zero_le _, Nat.zero_le _⟩ dX5_bring_94 (fun r23 locs hr23 hw => ?_) rfl
                    obtain rfl : r23 = (nI (109 + 6 * ((kp lt (σ.2.2.1.take j)).length) + (0))) := hr23
                    refine j_iald hx hb hw hA (k := 109 + 6 * ((kp lt (σ.2.2.1.take j)).length) + (0)) rfl (by omega) (by omega) dX5_bring_97 ?_
                    refine j_eq (y := nI (o 0)) (hR.o ho 0 (by omega) (by omega)) ?_
                    refine lv_iload_n hx hb dX5_bring_98 rfl (lv_at hl 2 rfl) ?_
                    refine lv_aload_n hx hb dX5_bring_99 rfl (lv_at hl 1 rfl) ?_
                    refine lv_iload_n hx hb dX5_bring_100 rfl (lv_at hl 3 rfl) ?_
                    refine lv_iconst (v := (nI (2))) hx hb dX5_bring_101 (by decide) ?_
                    refine j_Sp (n := 2) (As := [.int (nI ((kp lt (σ.2.2.1.take j)).length)), .int (nI (2))]) hx hb hml hown hts hw (c_X5_at l g z H ((kp lt (σ.2.2.1.take j)).length) (2)   ) gX5_bring_X5_at rfl (by decide +kernel) ⟨Nat.le_of_ble_eq_true rfl, Nat.le_of_ble_eq_true rfl⟩ rfl hl.1 (Nat.le_of_ble_eq_true rfl) ⟨Nat.zero_le _, Nat.zero_le _⟩ dX5_bring_102 (fun r24 locs hr24 hw => ?_) rfl
                    obtain rfl : r24 = (nI (109 + 6 * ((kp lt (σ.2.2.1.take j)).length) + (2))) := hr24
                    refine j_iald hx hb hw hA (k := 109 + 6 * ((kp lt (σ.2.2.1.take j)).length) + (2)) rfl (by omega) (by omega) dX5_bring_105 ?_
                    refine j_eq (y := nI (o 2)) (hR.o ho 2 (by omega) (by omega)) ?_
                    refine lv_aload_n hx hb dX5_bring_106 rfl (lv_at hl 1 rfl) ?_
                    refine lv_iload_n hx hb dX5_bring_107 rfl (lv_at hl 3 rfl) ?_
                    refine lv_iconst (v := (nI (4))) hx hb dX5_bring_108 (by decide) ?_
                    refine j_Sp (n := 2) (As := [.int (nI ((kp lt (σ.2.2.1.take j)).length)), .int (nI (4))]) hx hb hml hown hts hw (c_X5_at l g z H ((kp lt (σ.2.2.1.take j)).length) (4)   ) gX5_bring_X5_at rfl (by decide +kernel) ⟨Nat.le_of_ble_eq_true rfl, Nat.le_of_ble_eq_true rfl⟩ rfl hl.1 (Nat.le_of_ble_eq_true rfl) ⟨Nat.zero_le _, Nat.zero_le _⟩ dX5_bring_109 (fun r25 locs hr25 hw => ?_) rfl
                    obtain rfl : r25 = (nI (109 + 6 * ((kp lt (σ.2.2.1.take j)).length) + (4))) := hr25
                    refine j_iald hx hb hw hA (k := 109 + 6 * ((kp lt (σ.2.2.1.take j)).length) + (4)) rfl (by omega) (by omega) dX5_bring_112 ?_
                    refine j_eq (y := nI (o 4)) (hR.o ho 4 (by omega) (by omega)) ?_
                    refine lv_aload_n hx hb dX5_bring_113 rfl (lv_at hl 1 rfl) ?_
                    refine lv_iload_n hx hb dX5_bring_114 rfl (lv_at hl 3 rfl) ?_
                    refine lv_iconst (v := (nI (3))) hx hb dX5_bring_115 (by decide) ?_
                    refine j_Sp (n := 2) (As := [.int (nI ((kp lt (σ.2.2.1.take j)).length)), .int (nI (3))]) hx hb hml hown hts hw (c_X5_at l g z H ((kp lt (σ.2.2.1.take j)).length) (3)   ) gX5_bring_X5_at rfl (by decide +kernel) ⟨Nat.le_of_ble_eq_true rfl, Nat.le_of_ble_eq_true rfl⟩ rfl hl.1 (Nat.le_of_ble_eq_true rfl) ⟨Nat.zero_le _, Nat.zero_le _⟩ dX5_bring_116 (fun r26 locs hr26 hw => ?_) rfl
                    obtain rfl : r26 = (nI (109 + 6 * ((kp lt (σ.2.2.1.take j)).length) + (3))) := hr26
                    refine j_iald hx hb hw hA (k := 109 + 6 * ((kp lt (σ.2.2.1.take j)).length) + (3)) rfl (by omega) (by omega) dX5_bring_119 ?_
                    refine j_eq (y := nI (o 3)) (hR.o ho 3 (by omega) (by omega)) ?_
                    refine j_Sv (n := 6) (As := [.ref row, .int (nI (o 0)), .int (nI (lt)), .int (nI (o 2)), .int (nI (o 4)), .int (nI (o 3))]) hx hb hml hown hts hw (c_X5_deliver l g z H row (o 0) (lt) (o 2) (o 4) (o 3) ((upo (dl lt (σ.2.2.1.take j) (bring1 σ lt)) (kp lt (σ.2.2.1.take j) ++ σ.2.2.1.drop j))) fj hz hA hR hs ⟨ho0, hlt, ho2, ho3, ho4, Nat.zero_lt_succ _⟩) gX5_bring_X5_deliver rfl (by decide +kernel) ⟨Nat.le_of_ble_eq_true rfl, Nat.le_of_ble_eq_true rfl⟩ rfl hl.1 (Nat.le_of_ble_eq_true rfl) ⟨Nat.zero_le _, Nat.zero_le _⟩ dX5_bring_120 (fun H locs hr27 hw hsz => ?_) rfl
                    obtain ⟨⟨f28, hA, hR⟩, hs, hf2⟩ := hr27
                    have hO := hO.kept (hf2.2 _ (by omega))
                    have hf := hf.step hf2 (by omega)
                    refine lv_aload_n hx hb dX5_bring_123 rfl (lv_at hl 1 rfl) ?_
                    refine lv_iload_n hx hb dX5_bring_124 rfl (lv_at hl 3 rfl) ?_
                    refine j_Sv (n := 2) (As := [.ref row, .int (nI ((kp lt (σ.2.2.1.take j)).length))]) hx hb hml hown hts hw (c_X5_closeOrder l g z H row ((kp lt (σ.2.2.1.take j)).length) ((note ((upo (dl lt (σ.2.2.1.take j) (bring1 σ lt)) (kp lt (σ.2.2.1.take j) ++ σ.2.2.1.drop j))) (mkO (o 0) (lt) (o 2) (o 3) (o 4) 0))) f28 hz hA hR hs hil) gX5_bring_X5_closeOrder rfl (by decide +kernel) ⟨Nat.le_of_ble_eq_true rfl, Nat.le_of_ble_eq_true rfl⟩ rfl hl.1 (Nat.le_of_ble_eq_true rfl) ⟨Nat.zero_le _, Nat.zero_le _⟩ dX5_bring_125 (fun H locs hr29 hw hsz => ?_) rfl
                    obtain ⟨⟨f30, hA, hR⟩, hs, hf2⟩ := hr29
                    have hO := hO.kept (hf2.2 _ (by omega))
                    have hf := hf.step hf2 (by omega)
                    have hR : Row f30 (upo (dl lt (σ.2.2.1.take (j + 1)) (bring1 σ lt)) (kp lt (σ.2.2.1.take (j + 1)) ++ σ.2.2.1.drop (j + 1))) := by rw [← (bring_hit hoj c60).1]; exact hR
                    have hs : okS (upo (dl lt (σ.2.2.1.take (j + 1)) (bring1 σ lt)) (kp lt (σ.2.2.1.take (j + 1)) ++ σ.2.2.1.drop (j + 1))) := by rw [← (bring_hit hoj c60).1]; exact hs
                    rw [← (bring_hit (X := bring1 σ lt) hoj c60).2] at hl
                    refine lv_goto (tgt := 44) hx hb dX5_bring_128 (by decide) ?_
                    skip
                    exact ih44  (j + 1) f30 (by first | assumption | omega) hR hs (by omega) H _ hw hf hA hO _ (lv_sub hl [0, 1, 2, 3] rfl)
        have hO : jO g H M 5 [.int x0, .ref (M + 1), .int x2, .int x3, .int x4, .int x5, .ref (M + 2), .ref (M + 3), .ref (M + 4), .ref (M + 5), .int x10, .ref (M + 6), .ref (M + 7), .ref (M + 8), .int x14, .int (bI (sn || wd lt (σ.2.2.1.take 0)))] := by rw [show wd lt (σ.2.2.1.take 0) = false from rfl, Bool.or_false]; exact hO
        exact lp44 (σ.2.2.1.length - 0 + 1) 0 f4 (by first | assumption | omega) hR hs (by omega) H _ hw hf hA hO _ (lv_sub hl [1, 2, 3, 0] rfl)
      · obtain ⟨b9, hb9⟩ : ∃ b, lng σk.1 16 = some b := by
          cases h : lng σk.1 16 with
          | none => have := lng_none h; omega
          | some b => exact ⟨b, rfl⟩
        obtain ⟨j, rfl⟩ : ∃ j1, j = j1 + 1 := ⟨j - 1, by omega⟩
        refine lv_aload_n hx hb dX5_bring_10 rfl (lv_at hl 1 rfl) ?_
        refine j_Sv (n := 1) (As := [.ref row]) hx hb hml hown hts hw (c_X5_sendBack l g z H row (σk) fk b9 hz hA hR hs hb9) gX5_bring_X5_sendBack rfl (by decide +kernel) ⟨Nat.le_of_ble_eq_true rfl, Nat.le_of_ble_eq_true rfl⟩ rfl hl.1 (Nat.le_of_ble_eq_true rfl) ⟨Nat.zero_le _, Nat.zero_le _⟩ dX5_bring_11 (fun H locs hr31 hw hsz => ?_) rfl
        obtain ⟨⟨f32, hA, hR⟩, hs, hf2⟩ := hr31
        have hO := hO.kept (hf2.2 _ (by omega))
        have hf := hf.step hf2 (by omega)
        refine lv_goto (tgt := 0) hx hb dX5_bring_14 (by decide) ?_
        exact ih0  j (upn (σk) (14 + b9) 0) f32 (by have := sback_cnt hb9; omega) (by rw [← clr_go (by omega) hb9]; exact hck) hR hs (by omega) H _ hw hf hA hO _ (lv_sub hl [0, 1, 2] rfl)
  exact lp0 (16 + 1) 16 σ f (fcnt_le _ _) rfl hR hs (by omega) H0 _ hw hf hA hO _ (lv_sub hl [0, 1, 2] rfl)
