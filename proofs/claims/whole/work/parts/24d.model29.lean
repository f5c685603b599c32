abbrev q_X5_init (g : jG) (H0 : Heap) (a : Nat) : Option Value → Heap → Prop := jV (fun H1 => MD g H1 a (nI 0) [] S0 [] (fun _ => none) ∧ jB9 a 9 H0 H1)
set_option maxHeartbeats 4000000 in
set_option maxRecDepth 100000 in
theorem c_X5_init (l : Launch) (g : jG) (z : Nat) (H0 : Heap) (a : Nat) (hz : z ≤ a) (hO : jO g H0 a 5 [.int (nI (0)), .null, .int (nI (0)), .int (nI (0)), .int (nI (0)), .int (nI (0)), .null, .null, .null, .null, .int (nI (0)), .null, .null, .null, .int (nI (0)), .int (nI (0))]) (hs9 : H0.size = a + 1) : jMA l g z yX5_init wsX5_init 1 8 4603 21 [.ref a] H0 (q_X5_init g H0 a) := by
  refine j_ofA (cc := cX5_init) (n := 1) (ret := none) (by decide) rfl (Nat.le_of_ble_eq_true rfl) ?_
  intro p e s m below meth c hx hb hr hml hown hts hlocks hname hH hw hAO ls hl
  have hzs : z ≤ s.heap.size := by rw [hH]; omega
  have hf : jB9 a 1 H0 H0 := jB9.rf hs9
  have hl : lv_has ls 1 [(0, .ref a)] := hl
  have hinX5 : ∀ w ∈ u_ws RX5 TX5 16, w ∈ wsX5_init := by decide +kernel
  refine lv_aload_n hx hb dX5_init_0 rfl (lv_at hl 0 rfl) ?_
  refine j_oi (own := RX5) hx hb hml hown (hts (.methodLink RX5 1 objectInit) (by decide +kernel)) (hts (.instanceMethod objectInit) (by decide +kernel)) (hts (.code objectInit ⟨#[0xb1]⟩ 1 none) (by decide +kernel)) hl.1 dX5_init_1 (Nat.le_of_ble_eq_true rfl) (Nat.le_of_ble_eq_true rfl) rfl ?_
  refine lv_aload_n hx hb dX5_init_4 rfl (lv_at hl 0 rfl) ?_
  refine lv_bipush (v := (nI (120))) hx hb dX5_init_5 (by decide) ?_
  refine j_newI (n := 120) (h := (a + 1)) hx hb (hts (.arrayClass .int) (by decide +kernel)) hw hzs (by decide) (by omega) (show 0 + 1 ≤ 8 by omega) (show 0 + 120 ≤ 4603 by omega) dX5_init_7 (fun H hw hA1 o1 hs8 => ?_)
  replace hO := hO.kept (o1 _ (by omega))
  replace hf : jB9 a (2) H0 H := hf.new o1 hs8
  replace hs9 := hf.1
  clear o1 hs8
  refine j_putF (T := TX5) (N := 16) (k := 1) (ty := .array .int) hx hb hts hinX5 tyX5 tyX5_ok nmX5 hown hname hw hO hz rfl (by decide) (hts (.fieldLink RX5 7 "NightTrainsModel" "script" "[I") (by decide +kernel)) rfl rfl (by decide +kernel) rfl rfl (Nat.le_of_ble_eq_true rfl) dX5_init_9 (fun H locs hw hO oq hsz => ?_)
  replace hO : jO g H a 5 [.int (nI (0)), .ref (a + 1), .int (nI (0)), .int (nI (0)), .int (nI (0)), .int (nI (0)), .null, .null, .null, .null, .int (nI (0)), .null, .null, .null, .int (nI (0)), .int (nI (0))] := hO
  replace hA1 := hA1.kept (oq _ (by omega))
  replace hf := hf.put oq hsz (by omega)
  replace hs9 := hf.1
  clear oq hsz
  refine lv_aload_n hx hb dX5_init_12 rfl (lv_at hl 0 rfl) ?_
  refine lv_sipush (v := (nI (235))) hx hb dX5_init_13 (by decide) ?_
  refine j_newI (n := 235) (h := (a + 2)) hx hb (hts (.arrayClass .int) (by decide +kernel)) hw hzs (by decide) (by omega) (show 1 + 1 ≤ 8 by omega) (show 120 + 235 ≤ 4603 by omega) dX5_init_16 (fun H hw hA2 o1 hs8 => ?_)
  replace hO := hO.kept (o1 _ (by omega))
  replace hA1 := hA1.kept (o1 _ (by omega))
  replace hf : jB9 a (3) H0 H := hf.new o1 hs8
  replace hs9 := hf.1
  clear o1 hs8
  refine j_putF (T := TX5) (N := 16) (k := 6) (ty := .array .int) hx hb hts hinX5 tyX5 tyX5_ok nmX5 hown hname hw hO hz rfl (by decide) (hts (.fieldLink RX5 13 "NightTrainsModel" "read" "[I") (by decide +kernel)) rfl rfl (by decide +kernel) rfl rfl (Nat.le_of_ble_eq_true rfl) dX5_init_18 (fun H locs hw hO oq hsz => ?_)
  replace hO : jO g H a 5 [.int (nI (0)), .ref (a + 1), .int (nI (0)), .int (nI (0)), .int (nI (0)), .int (nI (0)), .ref (a + 2), .null, .null, .null, .int (nI (0)), .null, .null, .null, .int (nI (0)), .int (nI (0))] := hO
  replace hA1 := hA1.kept (oq _ (by omega))
  replace hA2 := hA2.kept (oq _ (by omega))
  replace hf := hf.put oq hsz (by omega)
  replace hs9 := hf.1
  clear oq hsz
  refine lv_aload_n hx hb dX5_init_21 rfl (lv_at hl 0 rfl) ?_
  refine lv_sipush (v := (nI (235))) hx hb dX5_init_22 (by decide) ?_
  refine j_newI (n := 235) (h := (a + 3)) hx hb (hts (.arrayClass .int) (by decide +kernel)) hw hzs (by decide) (by omega) (show 2 + 1 ≤ 8 by omega) (show 355 + 235 ≤ 4603 by omega) dX5_init_25 (fun H hw hA3 o1 hs8 => ?_)
  replace hO := hO.kept (o1 _ (by omega))
  replace hA1 := hA1.kept (o1 _ (by omega))
  replace hA2 := hA2.kept (o1 _ (by omega))
  replace hf : jB9 a (4) H0 H := hf.new o1 hs8
  replace hs9 := hf.1
  clear o1 hs8
  refine j_putF (T := TX5) (N := 16) (k := 7) (ty := .array .int) hx hb hts hinX5 tyX5 tyX5_ok nmX5 hown hname hw hO hz rfl (by decide) (hts (.fieldLink RX5 16 "NightTrainsModel" "now" "[I") (by decide +kernel)) rfl rfl (by decide +kernel) rfl rfl (Nat.le_of_ble_eq_true rfl) dX5_init_27 (fun H locs hw hO oq hsz => ?_)
  replace hO : jO g H a 5 [.int (nI (0)), .ref (a + 1), .int (nI (0)), .int (nI (0)), .int (nI (0)), .int (nI (0)), .ref (a + 2), .ref (a + 3), .null, .null, .int (nI (0)), .null, .null, .null, .int (nI (0)), .int (nI (0))] := hO
  replace hA1 := hA1.kept (oq _ (by omega))
  replace hA2 := hA2.kept (oq _ (by omega))
  replace hA3 := hA3.kept (oq _ (by omega))
  replace hf := hf.put oq hsz (by omega)
  replace hs9 := hf.1
  clear oq hsz
  refine lv_aload_n hx hb dX5_init_30 rfl (lv_at hl 0 rfl) ?_
  refine lv_sipush (v := (nI (235))) hx hb dX5_init_31 (by decide) ?_
  refine j_newI (n := 235) (h := (a + 4)) hx hb (hts (.arrayClass .int) (by decide +kernel)) hw hzs (by decide) (by omega) (show 3 + 1 ≤ 8 by omega) (show 590 + 235 ≤ 4603 by omega) dX5_init_34 (fun H hw hA4 o1 hs8 => ?_)
  replace hO := hO.kept (o1 _ (by omega))
  replace hA1 := hA1.kept (o1 _ (by omega))
  replace hA2 := hA2.kept (o1 _ (by omega))
  replace hA3 := hA3.kept (o1 _ (by omega))
  replace hf : jB9 a (5) H0 H := hf.new o1 hs8
  replace hs9 := hf.1
  clear o1 hs8
  refine j_putF (T := TX5) (N := 16) (k := 8) (ty := .array .int) hx hb hts hinX5 tyX5 tyX5_ok nmX5 hown hname hw hO hz rfl (by decide) (hts (.fieldLink RX5 19 "NightTrainsModel" "trial" "[I") (by decide +kernel)) rfl rfl (by decide +kernel) rfl rfl (Nat.le_of_ble_eq_true rfl) dX5_init_36 (fun H locs hw hO oq hsz => ?_)
  replace hO : jO g H a 5 [.int (nI (0)), .ref (a + 1), .int (nI (0)), .int (nI (0)), .int (nI (0)), .int (nI (0)), .ref (a + 2), .ref (a + 3), .ref (a + 4), .null, .int (nI (0)), .null, .null, .null, .int (nI (0)), .int (nI (0))] := hO
  replace hA1 := hA1.kept (oq _ (by omega))
  replace hA2 := hA2.kept (oq _ (by omega))
  replace hA3 := hA3.kept (oq _ (by omega))
  replace hA4 := hA4.kept (oq _ (by omega))
  replace hf := hf.put oq hsz (by omega)
  replace hs9 := hf.1
  clear oq hsz
  refine lv_aload_n hx hb dX5_init_39 rfl (lv_at hl 0 rfl) ?_
  refine lv_sipush (v := (nI (3290))) hx hb dX5_init_40 (by decide) ?_
  refine j_newI (n := 3290) (h := (a + 5)) hx hb (hts (.arrayClass .int) (by decide +kernel)) hw hzs (by decide) (by omega) (show 4 + 1 ≤ 8 by omega) (show 825 + 3290 ≤ 4603 by omega) dX5_init_43 (fun H hw hA5 o1 hs8 => ?_)
  replace hO := hO.kept (o1 _ (by omega))
  replace hA1 := hA1.kept (o1 _ (by omega))
  replace hA2 := hA2.kept (o1 _ (by omega))
  replace hA3 := hA3.kept (o1 _ (by omega))
  replace hA4 := hA4.kept (o1 _ (by omega))
  replace hf : jB9 a (6) H0 H := hf.new o1 hs8
  replace hs9 := hf.1
  clear o1 hs8
  refine j_putF (T := TX5) (N := 16) (k := 9) (ty := .array .int) hx hb hts hinX5 tyX5 tyX5_ok nmX5 hown hname hw hO hz rfl (by decide) (hts (.fieldLink RX5 22 "NightTrainsModel" "diary" "[I") (by decide +kernel)) rfl rfl (by decide +kernel) rfl rfl (Nat.le_of_ble_eq_true rfl) dX5_init_45 (fun H locs hw hO oq hsz => ?_)
  replace hO : jO g H a 5 [.int (nI (0)), .ref (a + 1), .int (nI (0)), .int (nI (0)), .int (nI (0)), .int (nI (0)), .ref (a + 2), .ref (a + 3), .ref (a + 4), .ref (a + 5), .int (nI (0)), .null, .null, .null, .int (nI (0)), .int (nI (0))] := hO
  replace hA1 := hA1.kept (oq _ (by omega))
  replace hA2 := hA2.kept (oq _ (by omega))
  replace hA3 := hA3.kept (oq _ (by omega))
  replace hA4 := hA4.kept (oq _ (by omega))
  replace hA5 := hA5.kept (oq _ (by omega))
  replace hf := hf.put oq hsz (by omega)
  replace hs9 := hf.1
  clear oq hsz
  refine lv_aload_n hx hb dX5_init_48 rfl (lv_at hl 0 rfl) ?_
  refine lv_sipush (v := (nI (470))) hx hb dX5_init_49 (by decide) ?_
  refine j_newI (n := 470) (h := (a + 6)) hx hb (hts (.arrayClass .int) (by decide +kernel)) hw hzs (by decide) (by omega) (show 5 + 1 ≤ 8 by omega) (show 4115 + 470 ≤ 4603 by omega) dX5_init_52 (fun H hw hA6 o1 hs8 => ?_)
  replace hO := hO.kept (o1 _ (by omega))
  replace hA1 := hA1.kept (o1 _ (by omega))
  replace hA2 := hA2.kept (o1 _ (by omega))
  replace hA3 := hA3.kept (o1 _ (by omega))
  replace hA4 := hA4.kept (o1 _ (by omega))
  replace hA5 := hA5.kept (o1 _ (by omega))
  replace hf : jB9 a (7) H0 H := hf.new o1 hs8
  replace hs9 := hf.1
  clear o1 hs8
  refine j_putF (T := TX5) (N := 16) (k := 11) (ty := .array .int) hx hb hts hinX5 tyX5 tyX5_ok nmX5 hown hname hw hO hz rfl (by decide) (hts (.fieldLink RX5 25 "NightTrainsModel" "kept" "[I") (by decide +kernel)) rfl rfl (by decide +kernel) rfl rfl (Nat.le_of_ble_eq_true rfl) dX5_init_54 (fun H locs hw hO oq hsz => ?_)
  replace hO : jO g H a 5 [.int (nI (0)), .ref (a + 1), .int (nI (0)), .int (nI (0)), .int (nI (0)), .int (nI (0)), .ref (a + 2), .ref (a + 3), .ref (a + 4), .ref (a + 5), .int (nI (0)), .ref (a + 6), .null, .null, .int (nI (0)), .int (nI (0))] := hO
  replace hA1 := hA1.kept (oq _ (by omega))
  replace hA2 := hA2.kept (oq _ (by omega))
  replace hA3 := hA3.kept (oq _ (by omega))
  replace hA4 := hA4.kept (oq _ (by omega))
  replace hA5 := hA5.kept (oq _ (by omega))
  replace hA6 := hA6.kept (oq _ (by omega))
  replace hf := hf.put oq hsz (by omega)
  replace hs9 := hf.1
  clear oq hsz
  refine lv_aload_n hx hb dX5_init_57 rfl (lv_at hl 0 rfl) ?_
  refine lv_iconst (v := (nI (2))) hx hb dX5_init_58 (by decide) ?_
  refine j_newZ (n := 2) (h := (a + 7)) hx hb (hts (.arrayClass .boolean) (by decide +kernel)) hw hzs (by decide) (by omega) (show 6 + 1 ≤ 8 by omega) (show 4585 + 2 ≤ 4603 by omega) dX5_init_59 (fun H hw hA7 o1 hs8 => ?_)
  replace hO := hO.kept (o1 _ (by omega))
  replace hA1 := hA1.kept (o1 _ (by omega))
  replace hA2 := hA2.kept (o1 _ (by omega))
  replace hA3 := hA3.kept (o1 _ (by omega))
  replace hA4 := hA4.kept (o1 _ (by omega))
  replace hA5 := hA5.kept (o1 _ (by omega))
  replace hA6 := hA6.kept (o1 _ (by omega))
  replace hf : jB9 a (8) H0 H := hf.new o1 hs8
  replace hs9 := hf.1
  clear o1 hs8
  refine j_putF (T := TX5) (N := 16) (k := 12) (ty := .array .boolean) hx hb hts hinX5 tyX5 tyX5_ok nmX5 hown hname hw hO hz rfl (by decide) (hts (.fieldLink RX5 28 "NightTrainsModel" "isKept" "[Z") (by decide +kernel)) rfl rfl (by decide +kernel) rfl rfl (Nat.le_of_ble_eq_true rfl) dX5_init_61 (fun H locs hw hO oq hsz => ?_)
  replace hO : jO g H a 5 [.int (nI (0)), .ref (a + 1), .int (nI (0)), .int (nI (0)), .int (nI (0)), .int (nI (0)), .ref (a + 2), .ref (a + 3), .ref (a + 4), .ref (a + 5), .int (nI (0)), .ref (a + 6), .ref (a + 7), .null, .int (nI (0)), .int (nI (0))] := hO
  replace hA1 := hA1.kept (oq _ (by omega))
  replace hA2 := hA2.kept (oq _ (by omega))
  replace hA3 := hA3.kept (oq _ (by omega))
  replace hA4 := hA4.kept (oq _ (by omega))
  replace hA5 := hA5.kept (oq _ (by omega))
  replace hA6 := hA6.kept (oq _ (by omega))
  replace hA7 := hA7.kept (oq _ (by omega))
  replace hf := hf.put oq hsz (by omega)
  replace hs9 := hf.1
  clear oq hsz
  refine lv_aload_n hx hb dX5_init_64 rfl (lv_at hl 0 rfl) ?_
  refine lv_bipush (v := (nI (16))) hx hb dX5_init_65 (by decide) ?_
  refine j_newI (n := 16) (h := (a + 8)) hx hb (hts (.arrayClass .int) (by decide +kernel)) hw hzs (by decide) (by omega) (show 7 + 1 ≤ 8 by omega) (show 4587 + 16 ≤ 4603 by omega) dX5_init_67 (fun H hw hA8 o1 hs8 => ?_)
  replace hO := hO.kept (o1 _ (by omega))
  replace hA1 := hA1.kept (o1 _ (by omega))
  replace hA2 := hA2.kept (o1 _ (by omega))
  replace hA3 := hA3.kept (o1 _ (by omega))
  replace hA4 := hA4.kept (o1 _ (by omega))
  replace hA5 := hA5.kept (o1 _ (by omega))
  replace hA6 := hA6.kept (o1 _ (by omega))
  replace hA7 := hA7.kept (o1 _ (by omega))
  replace hf : jB9 a (9) H0 H := hf.new o1 hs8
  replace hs9 := hf.1
  clear o1 hs8
  refine j_putF (T := TX5) (N := 16) (k := 13) (ty := .array .int) hx hb hts hinX5 tyX5 tyX5_ok nmX5 hown hname hw hO hz rfl (by decide) (hts (.fieldLink RX5 32 "NightTrainsModel" "took" "[I") (by decide +kernel)) rfl rfl (by decide +kernel) rfl rfl (Nat.le_of_ble_eq_true rfl) dX5_init_69 (fun H locs hw hO oq hsz => ?_)
  replace hO : jO g H a 5 [.int (nI (0)), .ref (a + 1), .int (nI (0)), .int (nI (0)), .int (nI (0)), .int (nI (0)), .ref (a + 2), .ref (a + 3), .ref (a + 4), .ref (a + 5), .int (nI (0)), .ref (a + 6), .ref (a + 7), .ref (a + 8), .int (nI (0)), .int (nI (0))] := hO
  replace hA1 := hA1.kept (oq _ (by omega))
  replace hA2 := hA2.kept (oq _ (by omega))
  replace hA3 := hA3.kept (oq _ (by omega))
  replace hA4 := hA4.kept (oq _ (by omega))
  replace hA5 := hA5.kept (oq _ (by omega))
  replace hA6 := hA6.kept (oq _ (by omega))
  replace hA7 := hA7.kept (oq _ (by omega))
  replace hA8 := hA8.kept (oq _ (by omega))
  replace hf := hf.put oq hsz (by omega)
  replace hs9 := hf.1
  clear oq hsz
  refine lv_aload_n hx hb dX5_init_72 rfl (lv_at hl 0 rfl) ?_
  refine j_get (T := TX5) (N := 16) (k := 7) hx hb hts hinX5 hown hw hO rfl (by decide) (hts (.fieldLink RX5 16 "NightTrainsModel" "now" "[I") (by decide +kernel)) rfl dX5_init_73 ?_
  refine j_Sv (n := 1) (As := [.ref (a + 3)]) hx hb hml hown hts hw (c_X5_clean l g z H (a + 3) (fun _ => nI 0) (by omega) hA3 ) gX5_init_X5_clean rfl (by decide +kernel) ⟨Nat.le_of_ble_eq_true rfl, Nat.le_of_ble_eq_true rfl⟩ rfl hl.1 (Nat.le_of_ble_eq_true rfl) ⟨(show 8 ≤ 8 by omega), (show 4603 ≤ 4603 by omega)⟩ dX5_init_76 (fun H locs hr9 hw hsz => ?_) rfl
  obtain ⟨f9, hA3, hR9, hf2⟩ := hr9
  have hO := hO.kept (hf2.2 _ (by omega))
  have hA1 := hA1.kept (hf2.2 _ (by omega))
  have hA2 := hA2.kept (hf2.2 _ (by omega))
  have hA4 := hA4.kept (hf2.2 _ (by omega))
  have hA5 := hA5.kept (hf2.2 _ (by omega))
  have hA6 := hA6.kept (hf2.2 _ (by omega))
  have hA7 := hA7.kept (hf2.2 _ (by omega))
  have hA8 := hA8.kept (hf2.2 _ (by omega))
  have hf : jB9 a 9 H0 H := ⟨by rw [hf2.1]; exact hf.1, fun q hq => by rw [hf2.2 q (by omega)]; exact hf.2 q hq⟩
  refine j_vret hx hb hr hlocks hH hw dX5_init_79 ?_
  exact ⟨rfl, ⟨nI 0, nI 0, nI 0, nI 0, false, _, _, _, _, _, _, _, _, hO, hA1, hA2, hA3, hA4, hA5, hA6, hA7, hA8, Nat.zero_le _, tIs_nil, hR9, okN_S0, Nat.zero_le _, (fun i s h => by simp at h), (fun k _ => Or.inl ⟨rfl, rfl⟩)⟩, hf⟩
