abbrev q_X4_init (g : jG) (H0 : Heap) (a : Nat) : Option Value → Heap → Prop := jV (fun H1 => CD g H1 a [] S0 [] (fun _ => none) ∧ jB9 a 223 H0 H1)
set_option maxHeartbeats 4000000 in
set_option maxRecDepth 100000 in
theorem c_X4_init (l : Launch) (g : jG) (z : Nat) (H0 : Heap) (a : Nat) (hz : z ≤ a) (hO : jO g H0 a 4 [.null, .null, .null, .null, .null, .null]) (hs9 : H0.size = a + 1) : jMA l g z yX4_init wsX4_init 6 222 5237 142 [.ref a] H0 (q_X4_init g H0 a) := by
  refine j_ofA (cc := cX4_init) (n := 2) (ret := none) (by decide) rfl (Nat.le_of_ble_eq_true rfl) ?_
  intro p e s m below meth c hx hb hr hml hown hts hlocks hname hH hw hAO ls hl
  have hzs : z ≤ s.heap.size := by rw [hH]; omega
  have hf : jB9 a 1 H0 H0 := jB9.rf hs9
  have hl : lv_has ls 2 [(0, .ref a)] := hl
  have hinX4 : ∀ w ∈ u_ws RX4 TX4 6, w ∈ wsX4_init := by decide +kernel
  refine lv_aload_n hx hb dX4_init_0 rfl (lv_at hl 0 rfl) ?_
  refine j_oi (own := RX4) hx hb hml hown (hts (.methodLink RX4 1 objectInit) (by decide +kernel)) (hts (.instanceMethod objectInit) (by decide +kernel)) (hts (.code objectInit ⟨#[0xb1]⟩ 1 none) (by decide +kernel)) hl.1 dX4_init_1 (Nat.le_of_ble_eq_true rfl) (Nat.le_of_ble_eq_true rfl) rfl ?_
  refine lv_aload_n hx hb dX4_init_4 rfl (lv_at hl 0 rfl) ?_
  have hinX3 : ∀ w ∈ u_ws RX3 TX3 2, w ∈ wsX4_init := by decide +kernel
  refine j_new (ci := 3) (T := TX3) (N := 2) (fs := [.null, .int (nI (0))]) (h := (a + 1)) hx hb hts hinX3 tyX3 tyX3_ok hown (hts (.classLink RX4 7 RX3) (by decide +kernel)) (hts (.instantiable RX3 2) (by decide +kernel)) (hts (.initialized RX3) (by decide +kernel)) hw hzs rfl dfX3 (by omega) (show 0 + 1 ≤ 222 by omega) (show 0 + 2 ≤ 5237 by omega) dX4_init_5 (fun H hw hO1 o1 hs8 => ?_)
  replace hO := hO.kept (o1 _ (by omega))
  replace hf : jB9 a (2) H0 H := hf.new o1 hs8
  replace hs9 := hf.1
  clear o1 hs8
  refine lv_dup hx hb dX4_init_8 rfl ?_
  refine j_IAn (host := RX4) hx hb hml hown hts hw hAO (c_X3_init l g z H (a + 1) (by omega) hO1 (by omega)) gX4_init_X3_init_n9 rfl (by decide +kernel) (by decide +kernel) (by decide +kernel) rfl (by decide +kernel) ⟨Nat.le_of_ble_eq_true rfl, Nat.le_of_ble_eq_true rfl⟩ hl.1 (Nat.le_of_ble_eq_true rfl) ⟨(show 1 + 1 ≤ 222 by omega), (show 2 + 120 ≤ 5237 by omega)⟩ dX4_init_9 (fun H locs P2 hw => ?_)
  obtain ⟨hC3, hb9⟩ := P2
  clear hO1
  replace hO := hO.kept (hb9.2 _ (by omega))
  replace hf : jB9 a (3) H0 H := ⟨by have := hb9.1; omega, fun q hq => by rw [hb9.2 q (by omega)]; exact hf.2 q hq⟩
  replace hs9 := hf.1
  clear hb9
  refine j_putF (T := TX4) (N := 6) (k := 0) (ty := .object "NightTrains$Text") hx hb hts hinX4 tyX4 tyX4_ok nmX4 hown hname hw hO hz rfl (by decide) (hts (.fieldLink RX4 10 "NightTrains" "text" "LNightTrains$Text;") (by decide +kernel)) rfl rfl (by decide +kernel) rfl rfl (Nat.le_of_ble_eq_true rfl) dX4_init_12 (fun H locs hw hO oq hsz => ?_)
  replace hO : jO g H a 4 [.ref (a + 1), .null, .null, .null, .null, .null] := hO
  replace hC3 := hC3.kept (fun q _ _ => oq q (by omega))
  replace hf := hf.put oq hsz (by omega)
  replace hs9 := hf.1
  clear oq hsz
  refine lv_aload_n hx hb dX4_init_15 rfl (lv_at hl 0 rfl) ?_
  have hinX2 : ∀ w ∈ u_ws RX2 TX2 9, w ∈ wsX4_init := by decide +kernel
  refine j_new (ci := 2) (T := TX2) (N := 9) (fs := [.null, .null, .null, .null, .null, .null, .null, .null, .null]) (h := (a + 3)) hx hb hts hinX2 tyX2 tyX2_ok hown (hts (.classLink RX4 16 RX2) (by decide +kernel)) (hts (.instantiable RX2 9) (by decide +kernel)) (hts (.initialized RX2) (by decide +kernel)) hw hzs rfl dfX2 (by omega) (show 2 + 1 ≤ 222 by omega) (show 122 + 9 ≤ 5237 by omega) dX4_init_16 (fun H hw hO4 o1 hs8 => ?_)
  replace hO := hO.kept (o1 _ (by omega))
  replace hC3 := hC3.kept (fun q _ _ => o1 q (by omega))
  replace hf : jB9 a (4) H0 H := hf.new o1 hs8
  replace hs9 := hf.1
  clear o1 hs8
  refine lv_dup hx hb dX4_init_19 rfl ?_
  refine j_IA hx hb hml hown hts hw hAO (c_X2_init l g z H (a + 3) (by omega) hO4 (by omega)) gX4_init_X2_init rfl (by decide +kernel) (by decide +kernel) (by decide +kernel) rfl (by decide +kernel) ⟨Nat.le_of_ble_eq_true rfl, Nat.le_of_ble_eq_true rfl⟩ hl.1 (Nat.le_of_ble_eq_true rfl) ⟨(show 3 + 11 ≤ 222 by omega), (show 131 + 274 ≤ 5237 by omega)⟩ dX4_init_20 (fun H locs P5 hw => ?_)
  obtain ⟨hC6, hb9⟩ := P5
  clear hO4
  replace hO := hO.kept (hb9.2 _ (by omega))
  replace hC3 := hC3.kept (fun q _ _ => hb9.2 q (by omega))
  replace hf : jB9 a (15) H0 H := ⟨by have := hb9.1; omega, fun q hq => by rw [hb9.2 q (by omega)]; exact hf.2 q hq⟩
  replace hs9 := hf.1
  clear hb9
  refine j_putF (T := TX4) (N := 6) (k := 1) (ty := .object "NightTrains$Store") hx hb hts hinX4 tyX4 tyX4_ok nmX4 hown hname hw hO hz rfl (by decide) (hts (.fieldLink RX4 19 "NightTrains" "now" "LNightTrains$Store;") (by decide +kernel)) rfl rfl (by decide +kernel) rfl rfl (Nat.le_of_ble_eq_true rfl) dX4_init_23 (fun H locs hw hO oq hsz => ?_)
  replace hO : jO g H a 4 [.ref (a + 1), .ref (a + 3), .null, .null, .null, .null] := hO
  replace hC3 := hC3.kept (fun q _ _ => oq q (by omega))
  replace hC6 := hC6.kept (fun q _ _ => oq q (by omega))
  replace hf := hf.put oq hsz (by omega)
  replace hs9 := hf.1
  clear oq hsz
  refine lv_aload_n hx hb dX4_init_26 rfl (lv_at hl 0 rfl) ?_
  have hinX2 : ∀ w ∈ u_ws RX2 TX2 9, w ∈ wsX4_init := by decide +kernel
  refine j_new (ci := 2) (T := TX2) (N := 9) (fs := [.null, .null, .null, .null, .null, .null, .null, .null, .null]) (h := (a + 15)) hx hb hts hinX2 tyX2 tyX2_ok hown (hts (.classLink RX4 16 RX2) (by decide +kernel)) (hts (.instantiable RX2 9) (by decide +kernel)) (hts (.initialized RX2) (by decide +kernel)) hw hzs rfl dfX2 (by omega) (show 14 + 1 ≤ 222 by omega) (show 405 + 9 ≤ 5237 by omega) dX4_init_27 (fun H hw hO7 o1 hs8 => ?_)
  replace hO := hO.kept (o1 _ (by omega))
  replace hC3 := hC3.kept (fun q _ _ => o1 q (by omega))
  replace hC6 := hC6.kept (fun q _ _ => o1 q (by omega))
  replace hf : jB9 a (16) H0 H := hf.new o1 hs8
  replace hs9 := hf.1
  clear o1 hs8
  refine lv_dup hx hb dX4_init_30 rfl ?_
  refine j_IA hx hb hml hown hts hw hAO (c_X2_init l g z H (a + 15) (by omega) hO7 (by omega)) gX4_init_X2_init rfl (by decide +kernel) (by decide +kernel) (by decide +kernel) rfl (by decide +kernel) ⟨Nat.le_of_ble_eq_true rfl, Nat.le_of_ble_eq_true rfl⟩ hl.1 (Nat.le_of_ble_eq_true rfl) ⟨(show 15 + 11 ≤ 222 by omega), (show 414 + 274 ≤ 5237 by omega)⟩ dX4_init_31 (fun H locs P8 hw => ?_)
  obtain ⟨hC9, hb9⟩ := P8
  clear hO7
  replace hO := hO.kept (hb9.2 _ (by omega))
  replace hC3 := hC3.kept (fun q _ _ => hb9.2 q (by omega))
  replace hC6 := hC6.kept (fun q _ _ => hb9.2 q (by omega))
  replace hf : jB9 a (27) H0 H := ⟨by have := hb9.1; omega, fun q hq => by rw [hb9.2 q (by omega)]; exact hf.2 q hq⟩
  replace hs9 := hf.1
  clear hb9
  refine j_putF (T := TX4) (N := 6) (k := 2) (ty := .object "NightTrains$Store") hx hb hts hinX4 tyX4 tyX4_ok nmX4 hown hname hw hO hz rfl (by decide) (hts (.fieldLink RX4 23 "NightTrains" "trial" "LNightTrains$Store;") (by decide +kernel)) rfl rfl (by decide +kernel) rfl rfl (Nat.le_of_ble_eq_true rfl) dX4_init_34 (fun H locs hw hO oq hsz => ?_)
  replace hO : jO g H a 4 [.ref (a + 1), .ref (a + 3), .ref (a + 15), .null, .null, .null] := hO
  replace hC3 := hC3.kept (fun q _ _ => oq q (by omega))
  replace hC6 := hC6.kept (fun q _ _ => oq q (by omega))
  replace hC9 := hC9.kept (fun q _ _ => oq q (by omega))
  replace hf := hf.put oq hsz (by omega)
  replace hs9 := hf.1
  clear oq hsz
  refine lv_aload_n hx hb dX4_init_37 rfl (lv_at hl 0 rfl) ?_
  have hinX0 : ∀ w ∈ u_ws RX0 TX0 3, w ∈ wsX4_init := by decide +kernel
  refine j_new (ci := 0) (T := TX0) (N := 3) (fs := [.null, .int (nI (0)), .int (nI (0))]) (h := (a + 27)) hx hb hts hinX0 tyX0 tyX0_ok hown (hts (.classLink RX4 26 RX0) (by decide +kernel)) (hts (.instantiable RX0 3) (by decide +kernel)) (hts (.initialized RX0) (by decide +kernel)) hw hzs rfl dfX0 (by omega) (show 26 + 1 ≤ 222 by omega) (show 688 + 3 ≤ 5237 by omega) dX4_init_38 (fun H hw hO10 o1 hs8 => ?_)
  replace hO := hO.kept (o1 _ (by omega))
  replace hC3 := hC3.kept (fun q _ _ => o1 q (by omega))
  replace hC6 := hC6.kept (fun q _ _ => o1 q (by omega))
  replace hC9 := hC9.kept (fun q _ _ => o1 q (by omega))
  replace hf : jB9 a (28) H0 H := hf.new o1 hs8
  replace hs9 := hf.1
  clear o1 hs8
  refine lv_dup hx hb dX4_init_41 rfl ?_
  refine j_IA hx hb hml hown hts hw hAO (c_X0_init l g z H (a + 27) (by omega) hO10 (by omega)) gX4_init_X0_init rfl (by decide +kernel) (by decide +kernel) (by decide +kernel) rfl (by decide +kernel) ⟨Nat.le_of_ble_eq_true rfl, Nat.le_of_ble_eq_true rfl⟩ hl.1 (Nat.le_of_ble_eq_true rfl) ⟨(show 27 + 169 ≤ 222 by omega), (show 691 + 3976 ≤ 5237 by omega)⟩ dX4_init_42 (fun H locs P11 hw => ?_)
  obtain ⟨hC12, hb9⟩ := P11
  clear hO10
  replace hO := hO.kept (hb9.2 _ (by omega))
  replace hC3 := hC3.kept (fun q _ _ => hb9.2 q (by omega))
  replace hC6 := hC6.kept (fun q _ _ => hb9.2 q (by omega))
  replace hC9 := hC9.kept (fun q _ _ => hb9.2 q (by omega))
  replace hf : jB9 a (197) H0 H := ⟨by have := hb9.1; omega, fun q hq => by rw [hb9.2 q (by omega)]; exact hf.2 q hq⟩
  replace hs9 := hf.1
  clear hb9
  refine j_putF (T := TX4) (N := 6) (k := 3) (ty := .object "NightTrains$History") hx hb hts hinX4 tyX4 tyX4_ok nmX4 hown hname hw hO hz rfl (by decide) (hts (.fieldLink RX4 29 "NightTrains" "history" "LNightTrains$History;") (by decide +kernel)) rfl rfl (by decide +kernel) rfl rfl (Nat.le_of_ble_eq_true rfl) dX4_init_45 (fun H locs hw hO oq hsz => ?_)
  replace hO : jO g H a 4 [.ref (a + 1), .ref (a + 3), .ref (a + 15), .ref (a + 27), .null, .null] := hO
  replace hC3 := hC3.kept (fun q _ _ => oq q (by omega))
  replace hC6 := hC6.kept (fun q _ _ => oq q (by omega))
  replace hC9 := hC9.kept (fun q _ _ => oq q (by omega))
  replace hC12 := hC12.kept (fun q _ _ => oq q (by omega))
  replace hf := hf.put oq hsz (by omega)
  replace hs9 := hf.1
  clear oq hsz
  refine lv_aload_n hx hb dX4_init_48 rfl (lv_at hl 0 rfl) ?_
  refine lv_iconst (v := (nI (2))) hx hb dX4_init_49 (by decide) ?_
  refine j_newR (n := 2) (h := (a + 197)) hx hb hown (hts (.classLink RX4 16 RX2) (by decide +kernel)) hAO hw hzs (by decide) (by omega) (show 196 + 1 ≤ 222 by omega) (show 4667 + 2 ≤ 5237 by omega) dX4_init_50 (fun H hw hA13 o1 hs8 => ?_)
  replace hO := hO.kept (o1 _ (by omega))
  replace hC3 := hC3.kept (fun q _ _ => o1 q (by omega))
  replace hC6 := hC6.kept (fun q _ _ => o1 q (by omega))
  replace hC9 := hC9.kept (fun q _ _ => o1 q (by omega))
  replace hC12 := hC12.kept (fun q _ _ => o1 q (by omega))
  replace hf : jB9 a (198) H0 H := hf.new o1 hs8
  replace hs9 := hf.1
  clear o1 hs8
  refine j_putF (T := TX4) (N := 6) (k := 4) (ty := .array (.object "NightTrains$Store")) hx hb hts hinX4 tyX4 tyX4_ok nmX4 hown hname hw hO hz rfl (by decide) (hts (.fieldLink RX4 33 "NightTrains" "slots" "[LNightTrains$Store;") (by decide +kernel)) rfl rfl (by decide +kernel) rfl rfl (Nat.le_of_ble_eq_true rfl) dX4_init_53 (fun H locs hw hO oq hsz => ?_)
  replace hO : jO g H a 4 [.ref (a + 1), .ref (a + 3), .ref (a + 15), .ref (a + 27), .ref (a + 197), .null] := hO
  replace hC3 := hC3.kept (fun q _ _ => oq q (by omega))
  replace hC6 := hC6.kept (fun q _ _ => oq q (by omega))
  replace hC9 := hC9.kept (fun q _ _ => oq q (by omega))
  replace hC12 := hC12.kept (fun q _ _ => oq q (by omega))
  replace hA13 := hA13.kept (oq _ (by omega))
  replace hf := hf.put oq hsz (by omega)
  replace hs9 := hf.1
  clear oq hsz
  refine lv_aload_n hx hb dX4_init_56 rfl (lv_at hl 0 rfl) ?_
  refine lv_iconst (v := (nI (2))) hx hb dX4_init_57 (by decide) ?_
  refine j_newZ (n := 2) (h := (a + 198)) hx hb (hts (.arrayClass .boolean) (by decide +kernel)) hw hzs (by decide) (by omega) (show 197 + 1 ≤ 222 by omega) (show 4669 + 2 ≤ 5237 by omega) dX4_init_58 (fun H hw hA14 o1 hs8 => ?_)
  replace hO := hO.kept (o1 _ (by omega))
  replace hC3 := hC3.kept (fun q _ _ => o1 q (by omega))
  replace hC6 := hC6.kept (fun q _ _ => o1 q (by omega))
  replace hC9 := hC9.kept (fun q _ _ => o1 q (by omega))
  replace hC12 := hC12.kept (fun q _ _ => o1 q (by omega))
  replace hA13 := hA13.kept (o1 _ (by omega))
  replace hf : jB9 a (199) H0 H := hf.new o1 hs8
  replace hs9 := hf.1
  clear o1 hs8
  refine j_putF (T := TX4) (N := 6) (k := 5) (ty := .array .boolean) hx hb hts hinX4 tyX4 tyX4_ok nmX4 hown hname hw hO hz rfl (by decide) (hts (.fieldLink RX4 37 "NightTrains" "saved" "[Z") (by decide +kernel)) rfl rfl (by decide +kernel) rfl rfl (Nat.le_of_ble_eq_true rfl) dX4_init_60 (fun H locs hw hO oq hsz => ?_)
  replace hO : jO g H a 4 [.ref (a + 1), .ref (a + 3), .ref (a + 15), .ref (a + 27), .ref (a + 197), .ref (a + 198)] := hO
  replace hC3 := hC3.kept (fun q _ _ => oq q (by omega))
  replace hC6 := hC6.kept (fun q _ _ => oq q (by omega))
  replace hC9 := hC9.kept (fun q _ _ => oq q (by omega))
  replace hC12 := hC12.kept (fun q _ _ => oq q (by omega))
  replace hA13 := hA13.kept (oq _ (by omega))
  replace hA14 := hA14.kept (oq _ (by omega))
  replace hf := hf.put oq hsz (by omega)
  replace hs9 := hf.1
  clear oq hsz
  refine lv_iconst (v := (nI (0))) hx hb dX4_init_63 (by decide) ?_
  refine lv_istore_n (lv' := [(1, .int _), (0, .ref _)]) hx hb dX4_init_64 rfl hl (by decide) rfl (fun ls hl => ?_)
  refine lv_iload_n hx hb dX4_init_65 rfl (lv_at hl 0 rfl) ?_
  refine lv_iconst (v := (nI (2))) hx hb dX4_init_66 (by decide) ?_
  refine jn_ge (tgt := 89) hx hb dX4_init_67 (by decide) (by omega) (by omega) (fun c67 => absurd c67 (by omega)) (fun c67 => ?_)
  refine lv_aload_n hx hb dX4_init_70 rfl (lv_at hl 1 rfl) ?_
  refine j_get (T := TX4) (N := 6) (k := 4) hx hb hts hinX4 hown hw hO rfl (by decide) (hts (.fieldLink RX4 33 "NightTrains" "slots" "[LNightTrains$Store;") (by decide +kernel)) rfl dX4_init_71 ?_
  refine lv_iload_n hx hb dX4_init_74 rfl (lv_at hl 0 rfl) ?_
  have hinX2 : ∀ w ∈ u_ws RX2 TX2 9, w ∈ wsX4_init := by decide +kernel
  refine j_new (ci := 2) (T := TX2) (N := 9) (fs := [.null, .null, .null, .null, .null, .null, .null, .null, .null]) (h := (a + 199)) hx hb hts hinX2 tyX2 tyX2_ok hown (hts (.classLink RX4 16 RX2) (by decide +kernel)) (hts (.instantiable RX2 9) (by decide +kernel)) (hts (.initialized RX2) (by decide +kernel)) hw hzs rfl dfX2 (by omega) (show 198 + 1 ≤ 222 by omega) (show 4671 + 9 ≤ 5237 by omega) dX4_init_75 (fun H hw hO15 o1 hs8 => ?_)
  replace hO := hO.kept (o1 _ (by omega))
  replace hC3 := hC3.kept (fun q _ _ => o1 q (by omega))
  replace hC6 := hC6.kept (fun q _ _ => o1 q (by omega))
  replace hC9 := hC9.kept (fun q _ _ => o1 q (by omega))
  replace hC12 := hC12.kept (fun q _ _ => o1 q (by omega))
  replace hA13 := hA13.kept (o1 _ (by omega))
  replace hA14 := hA14.kept (o1 _ (by omega))
  replace hf : jB9 a (200) H0 H := hf.new o1 hs8
  replace hs9 := hf.1
  clear o1 hs8
  refine lv_dup hx hb dX4_init_78 rfl ?_
  refine j_IA hx hb hml hown hts hw hAO (c_X2_init l g z H (a + 199) (by omega) hO15 (by omega)) gX4_init_X2_init rfl (by decide +kernel) (by decide +kernel) (by decide +kernel) rfl (by decide +kernel) ⟨Nat.le_of_ble_eq_true rfl, Nat.le_of_ble_eq_true rfl⟩ hl.1 (Nat.le_of_ble_eq_true rfl) ⟨(show 199 + 11 ≤ 222 by omega), (show 4680 + 274 ≤ 5237 by omega)⟩ dX4_init_79 (fun H locs P16 hw => ?_)
  obtain ⟨hC17, hb9⟩ := P16
  clear hO15
  replace hO := hO.kept (hb9.2 _ (by omega))
  replace hC3 := hC3.kept (fun q _ _ => hb9.2 q (by omega))
  replace hC6 := hC6.kept (fun q _ _ => hb9.2 q (by omega))
  replace hC9 := hC9.kept (fun q _ _ => hb9.2 q (by omega))
  replace hC12 := hC12.kept (fun q _ _ => hb9.2 q (by omega))
  replace hA13 := hA13.kept (hb9.2 _ (by omega))
  replace hA14 := hA14.kept (hb9.2 _ (by omega))
  replace hf : jB9 a (211) H0 H := ⟨by have := hb9.1; omega, fun q hq => by rw [hb9.2 q (by omega)]; exact hf.2 q hq⟩
  replace hs9 := hf.1
  clear hb9
  refine j_astR hx hb hw hA13 (by omega) hC17.obj (k := 0) (by omega) (by decide) dX4_init_82 (fun H locs hw hA13 oq hsz => ?_)
  obtain ⟨f18, ef18⟩ : ∃ y9, y9 = va_up (fun _ => none) (0) (some (a + 199)) := ⟨_, rfl⟩
  rw [← ef18] at hA13
  replace hO := hO.kept (oq _ (by omega))
  replace hC3 := hC3.kept (fun q _ _ => oq q (by omega))
  replace hC6 := hC6.kept (fun q _ _ => oq q (by omega))
  replace hC9 := hC9.kept (fun q _ _ => oq q (by omega))
  replace hC12 := hC12.kept (fun q _ _ => oq q (by omega))
  replace hA14 := hA14.kept (oq _ (by omega))
  replace hC17 := hC17.kept (fun q _ _ => oq q (by omega))
  replace hf := hf.put oq hsz (by omega)
  replace hs9 := hf.1
  clear oq hsz
  refine lv_iinc (v := nI (1)) (lv' := [(1, .int _), (0, .ref _)]) hx hb dX4_init_83 hl (k := 0) rfl (nI_add 0 1) (by decide) rfl (fun ls hl => ?_)
  refine lv_goto (tgt := 65) hx hb dX4_init_86 (by decide) ?_
  refine lv_iload_n hx hb dX4_init_65 rfl (lv_at hl 0 rfl) ?_
  refine lv_iconst (v := (nI (2))) hx hb dX4_init_66 (by decide) ?_
  refine jn_ge (tgt := 89) hx hb dX4_init_67 (by decide) (by omega) (by omega) (fun c67 => absurd c67 (by omega)) (fun c67 => ?_)
  refine lv_aload_n hx hb dX4_init_70 rfl (lv_at hl 1 rfl) ?_
  refine j_get (T := TX4) (N := 6) (k := 4) hx hb hts hinX4 hown hw hO rfl (by decide) (hts (.fieldLink RX4 33 "NightTrains" "slots" "[LNightTrains$Store;") (by decide +kernel)) rfl dX4_init_71 ?_
  refine lv_iload_n hx hb dX4_init_74 rfl (lv_at hl 0 rfl) ?_
  have hinX2 : ∀ w ∈ u_ws RX2 TX2 9, w ∈ wsX4_init := by decide +kernel
  refine j_new (ci := 2) (T := TX2) (N := 9) (fs := [.null, .null, .null, .null, .null, .null, .null, .null, .null]) (h := (a + 211)) hx hb hts hinX2 tyX2 tyX2_ok hown (hts (.classLink RX4 16 RX2) (by decide +kernel)) (hts (.instantiable RX2 9) (by decide +kernel)) (hts (.initialized RX2) (by decide +kernel)) hw hzs rfl dfX2 (by omega) (show 210 + 1 ≤ 222 by omega) (show 4954 + 9 ≤ 5237 by omega) dX4_init_75 (fun H hw hO19 o1 hs8 => ?_)
  replace hO := hO.kept (o1 _ (by omega))
  replace hC3 := hC3.kept (fun q _ _ => o1 q (by omega))
  replace hC6 := hC6.kept (fun q _ _ => o1 q (by omega))
  replace hC9 := hC9.kept (fun q _ _ => o1 q (by omega))
  replace hC12 := hC12.kept (fun q _ _ => o1 q (by omega))
  replace hA13 := hA13.kept (o1 _ (by omega))
  replace hA14 := hA14.kept (o1 _ (by omega))
  replace hC17 := hC17.kept (fun q _ _ => o1 q (by omega))
  replace hf : jB9 a (212) H0 H := hf.new o1 hs8
  replace hs9 := hf.1
  clear o1 hs8
  refine lv_dup hx hb dX4_init_78 rfl ?_
  refine j_IA hx hb hml hown hts hw hAO (c_X2_init l g z H (a + 211) (by omega) hO19 (by omega)) gX4_init_X2_init rfl (by decide +kernel) (by decide +kernel) (by decide +kernel) rfl (by decide +kernel) ⟨Nat.le_of_ble_eq_true rfl, Nat.le_of_ble_eq_true rfl⟩ hl.1 (Nat.le_of_ble_eq_true rfl) ⟨(show 211 + 11 ≤ 222 by omega), (show 4963 + 274 ≤ 5237 by omega)⟩ dX4_init_79 (fun H locs P20 hw => ?_)
  obtain ⟨hC21, hb9⟩ := P20
  clear hO19
  replace hO := hO.kept (hb9.2 _ (by omega))
  replace hC3 := hC3.kept (fun q _ _ => hb9.2 q (by omega))
  replace hC6 := hC6.kept (fun q _ _ => hb9.2 q (by omega))
  replace hC9 := hC9.kept (fun q _ _ => hb9.2 q (by omega))
  replace hC12 := hC12.kept (fun q _ _ => hb9.2 q (by omega))
  replace hA13 := hA13.kept (hb9.2 _ (by omega))
  replace hA14 := hA14.kept (hb9.2 _ (by omega))
  replace hC17 := hC17.kept (fun q _ _ => hb9.2 q (by omega))
  replace hf : jB9 a (223) H0 H := ⟨by have := hb9.1; omega, fun q hq => by rw [hb9.2 q (by omega)]; exact hf.2 q hq⟩
  replace hs9 := hf.1
  clear hb9
  refine j_astR hx hb hw hA13 (by omega) hC21.obj (k := 1) (by omega) (by decide) dX4_init_82 (fun H locs hw hA13 oq hsz => ?_)
  obtain ⟨f22, ef22⟩ : ∃ y9, y9 = va_up f18 (1) (some (a + 211)) := ⟨_, rfl⟩
  rw [← ef22] at hA13
  replace hO := hO.kept (oq _ (by omega))
  replace hC3 := hC3.kept (fun q _ _ => oq q (by omega))
  replace hC6 := hC6.kept (fun q _ _ => oq q (by omega))
  replace hC9 := hC9.kept (fun q _ _ => oq q (by omega))
  replace hC12 := hC12.kept (fun q _ _ => oq q (by omega))
  replace hA14 := hA14.kept (oq _ (by omega))
  replace hC17 := hC17.kept (fun q _ _ => oq q (by omega))
  replace hC21 := hC21.kept (fun q _ _ => oq q (by omega))
  replace hf := hf.put oq hsz (by omega)
  replace hs9 := hf.1
  clear oq hsz
  refine lv_iinc (v := nI (2)) (lv' := [(1, .int _), (0, .ref _)]) hx hb dX4_init_83 hl (k := 0) rfl (nI_add 1 1) (by decide) rfl (fun ls hl => ?_)
  refine lv_goto (tgt := 65) hx hb dX4_init_86 (by decide) ?_
  refine lv_iload_n hx hb dX4_init_65 rfl (lv_at hl 0 rfl) ?_
  refine lv_iconst (v := (nI (2))) hx hb dX4_init_66 (by decide) ?_
  refine jn_ge (tgt := 89) hx hb dX4_init_67 (by decide) (by omega) (by omega) (fun c67 => ?_) (fun c67 => absurd c67 (by omega))
  refine j_vret hx hb hr hlocks hH hw dX4_init_89 ?_
  have hsl9 : jSl g H (a + 197) (fun _ => none) := jSl.mk (hA13.ext (fun j hj => by rw [ef22, ef18, up2 j hj]; exact congrArg some (by split <;> omega))) hA14 hC17 hC21 (Or.inl ⟨rfl, rfl⟩) (Or.inl ⟨rfl, rfl⟩)
  exact ⟨rfl, ⟨_, _, hO, hC3, hC6, hC9, hC12, hsl9, okN_S0⟩, hf⟩
