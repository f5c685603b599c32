theorem tIs_nil {sc : Nat → Int32} : tIs sc [] := fun i c h => by simp at h
def sAny : Sg := (fun k => if 14 ≤ k ∧ k < 30 then 1 else 0, (fun _ => nI 0), [], [])

abbrev q_X1_init (g : jG) (H0 : Heap) (a : Nat) : Option Value → Heap → Prop := jV (fun H1 => jOr g H1 a [] ∧ jB9 a 2 H0 H1)
set_option maxHeartbeats 4000000 in
set_option maxRecDepth 100000 in
theorem c_X1_init (l : Launch) (g : jG) (z : Nat) (H0 : Heap) (a : Nat) (hz : z ≤ a) (hO : jO g H0 a 1 [.null, .int (nI (0))]) (hs9 : H0.size = a + 1) : jMA l g z yX1_init wsX1_init 1 1 105 20 [.ref a] H0 (q_X1_init g H0 a) := by
  refine j_ofA (cc := cX1_init) (n := 1) (ret := none) (by decide) rfl (Nat.le_of_ble_eq_true rfl) ?_
  intro p e s m below meth c hx hb hr hml hown hts hlocks hname hH hw hAO ls hl
  have hzs : z ≤ s.heap.size := by rw [hH]; omega
  have hf : jB9 a 1 H0 H0 := jB9.rf hs9
  have hl : lv_has ls 1 [(0, .ref a)] := hl
  have hinX1 : ∀ w ∈ u_ws RX1 TX1 2, w ∈ wsX1_init := by decide +kernel
  refine lv_aload_n hx hb dX1_init_0 rfl (lv_at hl 0 rfl) ?_
  refine j_oi (own := RX1) hx hb hml hown (hts (.methodLink RX1 3 objectInit) (by decide +kernel)) (hts (.instanceMethod objectInit) (by decide +kernel)) (hts (.code objectInit ⟨#[0xb1]⟩ 1 none) (by decide +kernel)) hl.1 dX1_init_1 (Nat.le_of_ble_eq_true rfl) (Nat.le_of_ble_eq_true rfl) rfl ?_
  refine lv_aload_n hx hb dX1_init_4 rfl (lv_at hl 0 rfl) ?_
  refine lv_bipush (v := (nI (105))) hx hb dX1_init_5 (by decide) ?_
  refine j_newI (n := 105) (h := (a + 1)) hx hb (hts (.arrayClass .int) (by decide +kernel)) hw hzs (by decide) (by omega) (show 0 + 1 ≤ 1 by omega) (show 0 + 105 ≤ 105 by omega) dX1_init_7 (fun H hw hA1 o1 hs8 => ?_)
  replace hO := hO.kept (o1 _ (by omega))
  replace hf : jB9 a (2) H0 H := hf.new o1 hs8
  replace hs9 := hf.1
  clear o1 hs8
  refine j_putF (T := TX1) (N := 2) (k := 0) (ty := .array .int) hx hb hts hinX1 tyX1 tyX1_ok nmX1 hown hname hw hO hz rfl (by decide) (hts (.fieldLink RX1 11 "NightTrains$Orders" "cells" "[I") (by decide +kernel)) rfl rfl (by decide +kernel) rfl rfl (Nat.le_of_ble_eq_true rfl) dX1_init_9 (fun H locs hw hO oq hsz => ?_)
  replace hO : jO g H a 1 [.ref (a + 1), .int (nI (0))] := hO
  replace hA1 := hA1.kept (oq _ (by omega))
  replace hf := hf.put oq hsz (by omega)
  replace hs9 := hf.1
  clear oq hsz
  refine j_vret hx hb hr hlocks hH hw dX1_init_12 ?_
  exact ⟨rfl, ⟨hO, Nat.zero_le _, _, hA1, Rw_nil⟩, hf⟩

abbrev q_X3_init (g : jG) (H0 : Heap) (a : Nat) : Option Value → Heap → Prop := jV (fun H1 => jTe g H1 a [] ∧ jB9 a 2 H0 H1)
set_option maxHeartbeats 4000000 in
set_option maxRecDepth 100000 in
theorem c_X3_init (l : Launch) (g : jG) (z : Nat) (H0 : Heap) (a : Nat) (hz : z ≤ a) (hO : jO g H0 a 3 [.null, .int (nI (0))]) (hs9 : H0.size = a + 1) : jMA l g z yX3_init wsX3_init 1 1 120 20 [.ref a] H0 (q_X3_init g H0 a) := by
  refine j_ofA (cc := cX3_init) (n := 1) (ret := none) (by decide) rfl (Nat.le_of_ble_eq_true rfl) ?_
  intro p e s m below meth c hx hb hr hml hown hts hlocks hname hH hw hAO ls hl
  have hzs : z ≤ s.heap.size := by rw [hH]; omega
  have hf : jB9 a 1 H0 H0 := jB9.rf hs9
  have hl : lv_has ls 1 [(0, .ref a)] := hl
  have hinX3 : ∀ w ∈ u_ws RX3 TX3 2, w ∈ wsX3_init := by decide +kernel
  refine lv_aload_n hx hb dX3_init_0 rfl (lv_at hl 0 rfl) ?_
  refine j_oi (own := RX3) hx hb hml hown (hts (.methodLink RX3 3 objectInit) (by decide +kernel)) (hts (.instanceMethod objectInit) (by decide +kernel)) (hts (.code objectInit ⟨#[0xb1]⟩ 1 none) (by decide +kernel)) hl.1 dX3_init_1 (Nat.le_of_ble_eq_true rfl) (Nat.le_of_ble_eq_true rfl) rfl ?_
  refine lv_aload_n hx hb dX3_init_4 rfl (lv_at hl 0 rfl) ?_
  refine lv_bipush (v := (nI (120))) hx hb dX3_init_5 (by decide) ?_
  refine j_newC (n := 120) (h := (a + 1)) hx hb (hts (.arrayClass .char) (by decide +kernel)) hw hzs (by decide) (by omega) (show 0 + 1 ≤ 1 by omega) (show 0 + 120 ≤ 120 by omega) dX3_init_7 (fun H hw hA1 o1 hs8 => ?_)
  replace hO := hO.kept (o1 _ (by omega))
  replace hf : jB9 a (2) H0 H := hf.new o1 hs8
  replace hs9 := hf.1
  clear o1 hs8
  refine j_putF (T := TX3) (N := 2) (k := 0) (ty := .array .char) hx hb hts hinX3 tyX3 tyX3_ok nmX3 hown hname hw hO hz rfl (by decide) (hts (.fieldLink RX3 11 "NightTrains$Text" "signs" "[C") (by decide +kernel)) rfl rfl (by decide +kernel) rfl rfl (Nat.le_of_ble_eq_true rfl) dX3_init_9 (fun H locs hw hO oq hsz => ?_)
  replace hO : jO g H a 3 [.ref (a + 1), .int (nI (0))] := hO
  replace hA1 := hA1.kept (oq _ (by omega))
  replace hf := hf.put oq hsz (by omega)
  replace hs9 := hf.1
  clear oq hsz
  refine j_vret hx hb hr hlocks hH hw dX3_init_12 ?_
  exact ⟨rfl, ⟨hO, Nat.zero_le _, _, hA1, tIs_nil⟩, hf⟩

abbrev q_X2_init (g : jG) (H0 : Heap) (a : Nat) : Option Value → Heap → Prop := jV (fun H1 => jSo g H1 a S0 (opnR S0) ∧ jB9 a 12 H0 H1)
set_option maxHeartbeats 4000000 in
set_option maxRecDepth 100000 in
theorem c_X2_init (l : Launch) (g : jG) (z : Nat) (H0 : Heap) (a : Nat) (hz : z ≤ a) (hO : jO g H0 a 2 [.null, .null, .null, .null, .null, .null, .null, .null, .null]) (hs9 : H0.size = a + 1) : jMA l g z yX2_init wsX2_init 4 11 274 101 [.ref a] H0 (q_X2_init g H0 a) := by
  refine j_ofA (cc := cX2_init) (n := 1) (ret := none) (by decide) rfl (Nat.le_of_ble_eq_true rfl) ?_
  intro p e s m below meth c hx hb hr hml hown hts hlocks hname hH hw hAO ls hl
  have hzs : z ≤ s.heap.size := by rw [hH]; omega
  have hf : jB9 a 1 H0 H0 := jB9.rf hs9
  have hl : lv_has ls 1 [(0, .ref a)] := hl
  have hinX2 : ∀ w ∈ u_ws RX2 TX2 9, w ∈ wsX2_init := by decide +kernel
  refine lv_aload_n hx hb dX2_init_0 rfl (lv_at hl 0 rfl) ?_
  refine j_oi (own := RX2) hx hb hml hown (hts (.methodLink RX2 3 objectInit) (by decide +kernel)) (hts (.instanceMethod objectInit) (by decide +kernel)) (hts (.code objectInit ⟨#[0xb1]⟩ 1 none) (by decide +kernel)) hl.1 dX2_init_1 (Nat.le_of_ble_eq_true rfl) (Nat.le_of_ble_eq_true rfl) rfl ?_
  refine lv_aload_n hx hb dX2_init_4 rfl (lv_at hl 0 rfl) ?_
  refine lv_iconst (v := (nI (5))) hx hb dX2_init_5 (by decide) ?_
  refine j_newI (n := 5) (h := (a + 1)) hx hb (hts (.arrayClass .int) (by decide +kernel)) hw hzs (by decide) (by omega) (show 0 + 1 ≤ 11 by omega) (show 0 + 5 ≤ 274 by omega) dX2_init_6 (fun H hw hA1 o1 hs8 => ?_)
  replace hO := hO.kept (o1 _ (by omega))
  replace hf : jB9 a (2) H0 H := hf.new o1 hs8
  replace hs9 := hf.1
  clear o1 hs8
  refine j_putF (T := TX2) (N := 9) (k := 0) (ty := .array .int) hx hb hts hinX2 tyX2 tyX2_ok nmX2 hown hname hw hO hz rfl (by decide) (hts (.fieldLink RX2 9 "NightTrains$Store" "settings" "[I") (by decide +kernel)) rfl rfl (by decide +kernel) rfl rfl (Nat.le_of_ble_eq_true rfl) dX2_init_8 (fun H locs hw hO oq hsz => ?_)
  replace hO : jO g H a 2 [.ref (a + 1), .null, .null, .null, .null, .null, .null, .null, .null] := hO
  replace hA1 := hA1.kept (oq _ (by omega))
  replace hf := hf.put oq hsz (by omega)
  replace hs9 := hf.1
  clear oq hsz
  refine lv_aload_n hx hb dX2_init_11 rfl (lv_at hl 0 rfl) ?_
  refine lv_iconst (v := (nI (4))) hx hb dX2_init_12 (by decide) ?_
  refine j_newI (n := 4) (h := (a + 2)) hx hb (hts (.arrayClass .int) (by decide +kernel)) hw hzs (by decide) (by omega) (show 1 + 1 ≤ 11 by omega) (show 5 + 4 ≤ 274 by omega) dX2_init_13 (fun H hw hA2 o1 hs8 => ?_)
  replace hO := hO.kept (o1 _ (by omega))
  replace hA1 := hA1.kept (o1 _ (by omega))
  replace hf : jB9 a (3) H0 H := hf.new o1 hs8
  replace hs9 := hf.1
  clear o1 hs8
  refine j_putF (T := TX2) (N := 9) (k := 1) (ty := .array .int) hx hb hts hinX2 tyX2 tyX2_ok nmX2 hown hname hw hO hz rfl (by decide) (hts (.fieldLink RX2 15 "NightTrains$Store" "purse" "[I") (by decide +kernel)) rfl rfl (by decide +kernel) rfl rfl (Nat.le_of_ble_eq_true rfl) dX2_init_15 (fun H locs hw hO oq hsz => ?_)
  replace hO : jO g H a 2 [.ref (a + 1), .ref (a + 2), .null, .null, .null, .null, .null, .null, .null] := hO
  replace hA1 := hA1.kept (oq _ (by omega))
  replace hA2 := hA2.kept (oq _ (by omega))
  replace hf := hf.put oq hsz (by omega)
  replace hs9 := hf.1
  clear oq hsz
  refine lv_aload_n hx hb dX2_init_18 rfl (lv_at hl 0 rfl) ?_
  refine lv_iconst (v := (nI (4))) hx hb dX2_init_19 (by decide) ?_
  refine j_newI (n := 4) (h := (a + 3)) hx hb (hts (.arrayClass .int) (by decide +kernel)) hw hzs (by decide) (by omega) (show 2 + 1 ≤ 11 by omega) (show 9 + 4 ≤ 274 by omega) dX2_init_20 (fun H hw hA3 o1 hs8 => ?_)
  replace hO := hO.kept (o1 _ (by omega))
  replace hA1 := hA1.kept (o1 _ (by omega))
  replace hA2 := hA2.kept (o1 _ (by omega))
  replace hf : jB9 a (4) H0 H := hf.new o1 hs8
  replace hs9 := hf.1
  clear o1 hs8
  refine j_putF (T := TX2) (N := 9) (k := 2) (ty := .array .int) hx hb hts hinX2 tyX2 tyX2_ok nmX2 hown hname hw hO hz rfl (by decide) (hts (.fieldLink RX2 18 "NightTrains$Store" "deliveredTo" "[I") (by decide +kernel)) rfl rfl (by decide +kernel) rfl rfl (Nat.le_of_ble_eq_true rfl) dX2_init_22 (fun H locs hw hO oq hsz => ?_)
  replace hO : jO g H a 2 [.ref (a + 1), .ref (a + 2), .ref (a + 3), .null, .null, .null, .null, .null, .null] := hO
  replace hA1 := hA1.kept (oq _ (by omega))
  replace hA2 := hA2.kept (oq _ (by omega))
  replace hA3 := hA3.kept (oq _ (by omega))
  replace hf := hf.put oq hsz (by omega)
  replace hs9 := hf.1
  clear oq hsz
  refine lv_aload_n hx hb dX2_init_25 rfl (lv_at hl 0 rfl) ?_
  refine lv_iconst (v := (nI (4))) hx hb dX2_init_26 (by decide) ?_
  refine j_newI (n := 4) (h := (a + 4)) hx hb (hts (.arrayClass .int) (by decide +kernel)) hw hzs (by decide) (by omega) (show 3 + 1 ≤ 11 by omega) (show 13 + 4 ≤ 274 by omega) dX2_init_27 (fun H hw hA4 o1 hs8 => ?_)
  replace hO := hO.kept (o1 _ (by omega))
  replace hA1 := hA1.kept (o1 _ (by omega))
  replace hA2 := hA2.kept (o1 _ (by omega))
  replace hA3 := hA3.kept (o1 _ (by omega))
  replace hf : jB9 a (5) H0 H := hf.new o1 hs8
  replace hs9 := hf.1
  clear o1 hs8
  refine j_putF (T := TX2) (N := 9) (k := 3) (ty := .array .int) hx hb hts hinX2 tyX2 tyX2_ok nmX2 hown hname hw hO hz rfl (by decide) (hts (.fieldLink RX2 21 "NightTrains$Store" "lapsedOf" "[I") (by decide +kernel)) rfl rfl (by decide +kernel) rfl rfl (Nat.le_of_ble_eq_true rfl) dX2_init_29 (fun H locs hw hO oq hsz => ?_)
  replace hO : jO g H a 2 [.ref (a + 1), .ref (a + 2), .ref (a + 3), .ref (a + 4), .null, .null, .null, .null, .null] := hO
  replace hA1 := hA1.kept (oq _ (by omega))
  replace hA2 := hA2.kept (oq _ (by omega))
  replace hA3 := hA3.kept (oq _ (by omega))
  replace hA4 := hA4.kept (oq _ (by omega))
  replace hf := hf.put oq hsz (by omega)
  replace hs9 := hf.1
  clear oq hsz
  refine lv_aload_n hx hb dX2_init_32 rfl (lv_at hl 0 rfl) ?_
  refine lv_bipush (v := (nI (16))) hx hb dX2_init_33 (by decide) ?_
  refine j_newI (n := 16) (h := (a + 5)) hx hb (hts (.arrayClass .int) (by decide +kernel)) hw hzs (by decide) (by omega) (show 4 + 1 ≤ 11 by omega) (show 17 + 16 ≤ 274 by omega) dX2_init_35 (fun H hw hA5 o1 hs8 => ?_)
  replace hO := hO.kept (o1 _ (by omega))
  replace hA1 := hA1.kept (o1 _ (by omega))
  replace hA2 := hA2.kept (o1 _ (by omega))
  replace hA3 := hA3.kept (o1 _ (by omega))
  replace hA4 := hA4.kept (o1 _ (by omega))
  replace hf : jB9 a (6) H0 H := hf.new o1 hs8
  replace hs9 := hf.1
  clear o1 hs8
  refine j_putF (T := TX2) (N := 9) (k := 4) (ty := .array .int) hx hb hts hinX2 tyX2 tyX2_ok nmX2 hown hname hw hO hz rfl (by decide) (hts (.fieldLink RX2 24 "NightTrains$Store" "front" "[I") (by decide +kernel)) rfl rfl (by decide +kernel) rfl rfl (Nat.le_of_ble_eq_true rfl) dX2_init_37 (fun H locs hw hO oq hsz => ?_)
  replace hO : jO g H a 2 [.ref (a + 1), .ref (a + 2), .ref (a + 3), .ref (a + 4), .ref (a + 5), .null, .null, .null, .null] := hO
  replace hA1 := hA1.kept (oq _ (by omega))
  replace hA2 := hA2.kept (oq _ (by omega))
  replace hA3 := hA3.kept (oq _ (by omega))
  replace hA4 := hA4.kept (oq _ (by omega))
  replace hA5 := hA5.kept (oq _ (by omega))
  replace hf := hf.put oq hsz (by omega)
  replace hs9 := hf.1
  clear oq hsz
  refine lv_aload_n hx hb dX2_init_40 rfl (lv_at hl 0 rfl) ?_
  refine lv_bipush (v := (nI (16))) hx hb dX2_init_41 (by decide) ?_
  refine j_newI (n := 16) (h := (a + 6)) hx hb (hts (.arrayClass .int) (by decide +kernel)) hw hzs (by decide) (by omega) (show 5 + 1 ≤ 11 by omega) (show 33 + 16 ≤ 274 by omega) dX2_init_43 (fun H hw hA6 o1 hs8 => ?_)
  replace hO := hO.kept (o1 _ (by omega))
  replace hA1 := hA1.kept (o1 _ (by omega))
  replace hA2 := hA2.kept (o1 _ (by omega))
  replace hA3 := hA3.kept (o1 _ (by omega))
  replace hA4 := hA4.kept (o1 _ (by omega))
  replace hA5 := hA5.kept (o1 _ (by omega))
  replace hf : jB9 a (7) H0 H := hf.new o1 hs8
  replace hs9 := hf.1
  clear o1 hs8
  refine j_putF (T := TX2) (N := 9) (k := 5) (ty := .array .int) hx hb hts hinX2 tyX2 tyX2_ok nmX2 hown hname hw hO hz rfl (by decide) (hts (.fieldLink RX2 27 "NightTrains$Store" "taken" "[I") (by decide +kernel)) rfl rfl (by decide +kernel) rfl rfl (Nat.le_of_ble_eq_true rfl) dX2_init_45 (fun H locs hw hO oq hsz => ?_)
  replace hO : jO g H a 2 [.ref (a + 1), .ref (a + 2), .ref (a + 3), .ref (a + 4), .ref (a + 5), .ref (a + 6), .null, .null, .null] := hO
  replace hA1 := hA1.kept (oq _ (by omega))
  replace hA2 := hA2.kept (oq _ (by omega))
  replace hA3 := hA3.kept (oq _ (by omega))
  replace hA4 := hA4.kept (oq _ (by omega))
  replace hA5 := hA5.kept (oq _ (by omega))
  replace hA6 := hA6.kept (oq _ (by omega))
  replace hf := hf.put oq hsz (by omega)
  replace hs9 := hf.1
  clear oq hsz
  refine lv_aload_n hx hb dX2_init_48 rfl (lv_at hl 0 rfl) ?_
  have hinX1 : ∀ w ∈ u_ws RX1 TX1 2, w ∈ wsX2_init := by decide +kernel
  refine j_new (ci := 1) (T := TX1) (N := 2) (fs := [.null, .int (nI (0))]) (h := (a + 7)) hx hb hts hinX1 tyX1 tyX1_ok hown (hts (.classLink RX2 30 RX1) (by decide +kernel)) (hts (.instantiable RX1 2) (by decide +kernel)) (hts (.initialized RX1) (by decide +kernel)) hw hzs rfl dfX1 (by omega) (show 6 + 1 ≤ 11 by omega) (show 49 + 2 ≤ 274 by omega) dX2_init_49 (fun H hw hO7 o1 hs8 => ?_)
  replace hO := hO.kept (o1 _ (by omega))
  replace hA1 := hA1.kept (o1 _ (by omega))
  replace hA2 := hA2.kept (o1 _ (by omega))
  replace hA3 := hA3.kept (o1 _ (by omega))
  replace hA4 := hA4.kept (o1 _ (by omega))
  replace hA5 := hA5.kept (o1 _ (by omega))
  replace hA6 := hA6.kept (o1 _ (by omega))
  replace hf : jB9 a (8) H0 H := hf.new o1 hs8
  replace hs9 := hf.1
  clear o1 hs8
  refine lv_dup hx hb dX2_init_52 rfl ?_
  refine j_IAn (host := RX4) hx hb hml hown hts hw hAO (c_X1_init l g z H (a + 7) (by omega) hO7 (by omega)) gX2_init_X1_init_n32 rfl (by decide +kernel) (by decide +kernel) (by decide +kernel) rfl (by decide +kernel) ⟨Nat.le_of_ble_eq_true rfl, Nat.le_of_ble_eq_true rfl⟩ hl.1 (Nat.le_of_ble_eq_true rfl) ⟨(show 7 + 1 ≤ 11 by omega), (show 51 + 105 ≤ 274 by omega)⟩ dX2_init_53 (fun H locs P8 hw => ?_)
  obtain ⟨hC9, hb9⟩ := P8
  clear hO7
  replace hO := hO.kept (hb9.2 _ (by omega))
  replace hA1 := hA1.kept (hb9.2 _ (by omega))
  replace hA2 := hA2.kept (hb9.2 _ (by omega))
  replace hA3 := hA3.kept (hb9.2 _ (by omega))
  replace hA4 := hA4.kept (hb9.2 _ (by omega))
  replace hA5 := hA5.kept (hb9.2 _ (by omega))
  replace hA6 := hA6.kept (hb9.2 _ (by omega))
  replace hf : jB9 a (9) H0 H := ⟨by have := hb9.1; omega, fun q hq => by rw [hb9.2 q (by omega)]; exact hf.2 q hq⟩
  replace hs9 := hf.1
  clear hb9
  refine j_putF (T := TX2) (N := 9) (k := 6) (ty := .object "NightTrains$Orders") hx hb hts hinX2 tyX2 tyX2_ok nmX2 hown hname hw hO hz rfl (by decide) (hts (.fieldLink RX2 33 "NightTrains$Store" "open" "LNightTrains$Orders;") (by decide +kernel)) rfl rfl (by decide +kernel) rfl rfl (Nat.le_of_ble_eq_true rfl) dX2_init_56 (fun H locs hw hO oq hsz => ?_)
  replace hO : jO g H a 2 [.ref (a + 1), .ref (a + 2), .ref (a + 3), .ref (a + 4), .ref (a + 5), .ref (a + 6), .ref (a + 7), .null, .null] := hO
  replace hA1 := hA1.kept (oq _ (by omega))
  replace hA2 := hA2.kept (oq _ (by omega))
  replace hA3 := hA3.kept (oq _ (by omega))
  replace hA4 := hA4.kept (oq _ (by omega))
  replace hA5 := hA5.kept (oq _ (by omega))
  replace hA6 := hA6.kept (oq _ (by omega))
  replace hC9 := hC9.kept (fun q _ _ => oq q (by omega))
  replace hf := hf.put oq hsz (by omega)
  replace hs9 := hf.1
  clear oq hsz
  refine lv_aload_n hx hb dX2_init_59 rfl (lv_at hl 0 rfl) ?_
  have hinX1 : ∀ w ∈ u_ws RX1 TX1 2, w ∈ wsX2_init := by decide +kernel
  refine j_new (ci := 1) (T := TX1) (N := 2) (fs := [.null, .int (nI (0))]) (h := (a + 9)) hx hb hts hinX1 tyX1 tyX1_ok hown (hts (.classLink RX2 30 RX1) (by decide +kernel)) (hts (.instantiable RX1 2) (by decide +kernel)) (hts (.initialized RX1) (by decide +kernel)) hw hzs rfl dfX1 (by omega) (show 8 + 1 ≤ 11 by omega) (show 156 + 2 ≤ 274 by omega) dX2_init_60 (fun H hw hO10 o1 hs8 => ?_)
  replace hO := hO.kept (o1 _ (by omega))
  replace hA1 := hA1.kept (o1 _ (by omega))
  replace hA2 := hA2.kept (o1 _ (by omega))
  replace hA3 := hA3.kept (o1 _ (by omega))
  replace hA4 := hA4.kept (o1 _ (by omega))
  replace hA5 := hA5.kept (o1 _ (by omega))
  replace hA6 := hA6.kept (o1 _ (by omega))
  replace hC9 := hC9.kept (fun q _ _ => o1 q (by omega))
  replace hf : jB9 a (10) H0 H := hf.new o1 hs8
  replace hs9 := hf.1
  clear o1 hs8
  refine lv_dup hx hb dX2_init_63 rfl ?_
  refine j_IAn (host := RX4) hx hb hml hown hts hw hAO (c_X1_init l g z H (a + 9) (by omega) hO10 (by omega)) gX2_init_X1_init_n32 rfl (by decide +kernel) (by decide +kernel) (by decide +kernel) rfl (by decide +kernel) ⟨Nat.le_of_ble_eq_true rfl, Nat.le_of_ble_eq_true rfl⟩ hl.1 (Nat.le_of_ble_eq_true rfl) ⟨(show 9 + 1 ≤ 11 by omega), (show 158 + 105 ≤ 274 by omega)⟩ dX2_init_64 (fun H locs P11 hw => ?_)
  obtain ⟨hC12, hb9⟩ := P11
  clear hO10
  replace hO := hO.kept (hb9.2 _ (by omega))
  replace hA1 := hA1.kept (hb9.2 _ (by omega))
  replace hA2 := hA2.kept (hb9.2 _ (by omega))
  replace hA3 := hA3.kept (hb9.2 _ (by omega))
  replace hA4 := hA4.kept (hb9.2 _ (by omega))
  replace hA5 := hA5.kept (hb9.2 _ (by omega))
  replace hA6 := hA6.kept (hb9.2 _ (by omega))
  replace hC9 := hC9.kept (fun q _ _ => hb9.2 q (by omega))
  replace hf : jB9 a (11) H0 H := ⟨by have := hb9.1; omega, fun q hq => by rw [hb9.2 q (by omega)]; exact hf.2 q hq⟩
  replace hs9 := hf.1
  clear hb9
  refine j_putF (T := TX2) (N := 9) (k := 7) (ty := .object "NightTrains$Orders") hx hb hts hinX2 tyX2 tyX2_ok nmX2 hown hname hw hO hz rfl (by decide) (hts (.fieldLink RX2 37 "NightTrains$Store" "lately" "LNightTrains$Orders;") (by decide +kernel)) rfl rfl (by decide +kernel) rfl rfl (Nat.le_of_ble_eq_true rfl) dX2_init_67 (fun H locs hw hO oq hsz => ?_)
  replace hO : jO g H a 2 [.ref (a + 1), .ref (a + 2), .ref (a + 3), .ref (a + 4), .ref (a + 5), .ref (a + 6), .ref (a + 7), .ref (a + 9), .null] := hO
  replace hA1 := hA1.kept (oq _ (by omega))
  replace hA2 := hA2.kept (oq _ (by omega))
  replace hA3 := hA3.kept (oq _ (by omega))
  replace hA4 := hA4.kept (oq _ (by omega))
  replace hA5 := hA5.kept (oq _ (by omega))
  replace hA6 := hA6.kept (oq _ (by omega))
  replace hC9 := hC9.kept (fun q _ _ => oq q (by omega))
  replace hC12 := hC12.kept (fun q _ _ => oq q (by omega))
  replace hf := hf.put oq hsz (by omega)
  replace hs9 := hf.1
  clear oq hsz
  refine lv_aload_n hx hb dX2_init_70 rfl (lv_at hl 0 rfl) ?_
  refine lv_bipush (v := (nI (11))) hx hb dX2_init_71 (by decide) ?_
  refine j_newI (n := 11) (h := (a + 11)) hx hb (hts (.arrayClass .int) (by decide +kernel)) hw hzs (by decide) (by omega) (show 10 + 1 ≤ 11 by omega) (show 263 + 11 ≤ 274 by omega) dX2_init_73 (fun H hw hA13 o1 hs8 => ?_)
  replace hO := hO.kept (o1 _ (by omega))
  replace hA1 := hA1.kept (o1 _ (by omega))
  replace hA2 := hA2.kept (o1 _ (by omega))
  replace hA3 := hA3.kept (o1 _ (by omega))
  replace hA4 := hA4.kept (o1 _ (by omega))
  replace hA5 := hA5.kept (o1 _ (by omega))
  replace hA6 := hA6.kept (o1 _ (by omega))
  replace hC9 := hC9.kept (fun q _ _ => o1 q (by omega))
  replace hC12 := hC12.kept (fun q _ _ => o1 q (by omega))
  replace hf : jB9 a (12) H0 H := hf.new o1 hs8
  replace hs9 := hf.1
  clear o1 hs8
  refine j_putF (T := TX2) (N := 9) (k := 8) (ty := .array .int) hx hb hts hinX2 tyX2 tyX2_ok nmX2 hown hname hw hO hz rfl (by decide) (hts (.fieldLink RX2 40 "NightTrains$Store" "counts" "[I") (by decide +kernel)) rfl rfl (by decide +kernel) rfl rfl (Nat.le_of_ble_eq_true rfl) dX2_init_75 (fun H locs hw hO oq hsz => ?_)
  replace hO : jO g H a 2 [.ref (a + 1), .ref (a + 2), .ref (a + 3), .ref (a + 4), .ref (a + 5), .ref (a + 6), .ref (a + 7), .ref (a + 9), .ref (a + 11)] := hO
  replace hA1 := hA1.kept (oq _ (by omega))
  replace hA2 := hA2.kept (oq _ (by omega))
  replace hA3 := hA3.kept (oq _ (by omega))
  replace hA4 := hA4.kept (oq _ (by omega))
  replace hA5 := hA5.kept (oq _ (by omega))
  replace hA6 := hA6.kept (oq _ (by omega))
  replace hC9 := hC9.kept (fun q _ _ => oq q (by omega))
  replace hC12 := hC12.kept (fun q _ _ => oq q (by omega))
  replace hA13 := hA13.kept (oq _ (by omega))
  replace hf := hf.put oq hsz (by omega)
  replace hs9 := hf.1
  clear oq hsz
  refine lv_aload_n hx hb dX2_init_78 rfl (lv_at hl 0 rfl) ?_
  have hS9 : jSo g H a sAny [] := ⟨_, _, _, _, _, _, _, hO, hA1, hA2, hA3, hA4, hA5, hA6, hC9, hC12, hA13, Sto_any⟩
  refine j_Vv (n := 0) (As := []) hx hb hml hown hts hw (j_recv hw hS9.obj rfl) (c_X2_reset l g z H a sAny [] hz hS9 ) gX2_init_X2_reset rfl (by decide +kernel) ⟨Nat.le_of_ble_eq_true rfl, Nat.le_of_ble_eq_true rfl⟩ rfl hl.1 (Nat.le_of_ble_eq_true rfl) ⟨(show 11 ≤ 11 by omega), (show 274 ≤ 274 by omega)⟩ dX2_init_79 (fun H locs hr14 hw hsz => ?_) rfl
  obtain ⟨hS9, hf2⟩ := hr14
  have hf : jB9 a 12 H0 H := ⟨by rw [hf2.1]; exact hf.1, fun q hq => by rw [hf2.2 q (by omega)]; exact hf.2 q hq⟩
  have hs9 := hf.1
  refine j_vret hx hb hr hlocks hH hw dX2_init_82 ?_
  exact ⟨rfl, hS9, hf⟩

abbrev q_X0_init (g : jG) (H0 : Heap) (a : Nat) : Option Value → Heap → Prop := jV (fun H1 => jHi g H1 a [] ∧ jB9 a 170 H0 H1)
set_option maxHeartbeats 4000000 in
set_option maxRecDepth 100000 in
theorem c_X0_init (l : Launch) (g : jG) (z : Nat) (H0 : Heap) (a : Nat) (hz : z ≤ a) (hO : jO g H0 a 0 [.null, .int (nI (0)), .int (nI (0))]) (hs9 : H0.size = a + 1) : jMA l g z yX0_init wsX0_init 5 169 3976 121 [.ref a] H0 (q_X0_init g H0 a) := by
  refine j_ofA (cc := cX0_init) (n := 2) (ret := none) (by decide) rfl (Nat.le_of_ble_eq_true rfl) ?_
  intro p e s m below meth c hx hb hr hml hown hts hlocks hname hH hw hAO ls hl
  have hzs : z ≤ s.heap.size := by rw [hH]; omega
  have hf : jB9 a 1 H0 H0 := jB9.rf hs9
  have hl : lv_has ls 2 [(0, .ref a)] := hl
  have hinX0 : ∀ w ∈ u_ws RX0 TX0 3, w ∈ wsX0_init := by decide +kernel
  refine lv_aload_n hx hb dX0_init_0 rfl (lv_at hl 0 rfl) ?_
  refine j_oi (own := RX0) hx hb hml hown (hts (.methodLink RX0 3 objectInit) (by decide +kernel)) (hts (.instanceMethod objectInit) (by decide +kernel)) (hts (.code objectInit ⟨#[0xb1]⟩ 1 none) (by decide +kernel)) hl.1 dX0_init_1 (Nat.le_of_ble_eq_true rfl) (Nat.le_of_ble_eq_true rfl) rfl ?_
  refine lv_aload_n hx hb dX0_init_4 rfl (lv_at hl 0 rfl) ?_
  refine lv_bipush (v := (nI (14))) hx hb dX0_init_5 (by decide) ?_
  refine j_newR (n := 14) (h := (a + 1)) hx hb hown (hts (.classLink RX0 9 RX2) (by decide +kernel)) hAO hw hzs (by decide) (by omega) (show 0 + 1 ≤ 169 by omega) (show 0 + 14 ≤ 3976 by omega) dX0_init_7 (fun H hw hA1 o1 hs8 => ?_)
  replace hO := hO.kept (o1 _ (by omega))
  replace hf : jB9 a (2) H0 H := hf.new o1 hs8
  replace hs9 := hf.1
  clear o1 hs8
  refine j_putF (T := TX0) (N := 3) (k := 0) (ty := .array (.object "NightTrains$Store")) hx hb hts hinX0 tyX0 tyX0_ok nmX0 hown hname hw hO hz rfl (by decide) (hts (.fieldLink RX0 11 "NightTrains$History" "states" "[LNightTrains$Store;") (by decide +kernel)) rfl rfl (by decide +kernel) rfl rfl (Nat.le_of_ble_eq_true rfl) dX0_init_10 (fun H locs hw hO oq hsz => ?_)
  replace hO : jO g H a 0 [.ref (a + 1), .int (nI (0)), .int (nI (0))] := hO
  replace hA1 := hA1.kept (oq _ (by omega))
  replace hf := hf.put oq hsz (by omega)
  replace hs9 := hf.1
  clear oq hsz
  refine lv_iconst (v := (nI (0))) hx hb dX0_init_13 (by decide) ?_
  have hK0 : jStk g H (a + 2) 0 := jStk.nil
  refine lv_istore_n (lv' := [(1, .int _), (0, .ref _)]) hx hb dX0_init_14 rfl hl (by decide) rfl (fun ls hl => ?_)
  have lp15 : ∀ (n15 : Nat) (k : Nat) (fr : Nat → Option Nat) (hk : k ≤ 14) (hfr : ∀ j, j < k → fr j = some (a + 2 + 12 * j)) (hmu15 : 14 - k < n15) (H : Heap) (locs : List Loc) (hw : jW g z s H locs) (hf : jB9 a (2 + 12 * k) H0 H) (hO : jO g H a 0 [.ref (a + 1), .int (nI (0)), .int (nI (0))]) (hA1 : jR g H (a + 1) 14 fr) (hK0 : jStk g H (a + 2) k) (ls : Array Slot) (hl : lv_has ls 2 [(0, .ref a), (1, .int (nI (k)))]), W p l e { frames := 5, cells := 169, slots := 3976, locals := 121 } s m [.ref a].toArray below meth c H locs (1 + 12 * k) (14 + 283 * k) (MQ below (jQ z H0 (q_X0_init g H0 a)) [.ref a].toArray s 169 3976 (jA z)) (F0 m 15 ls []) := by
    intro n15
    induction n15 with
    | zero => intros; omega
    | succ n15 ih15 =>
      intro k fr hk hfr hmu15 H locs hw hf hO hA1 hK0 ls hl
      have hs9 := hf.1
      refine lv_iload_n hx hb dX0_init_15 rfl (lv_at hl 1 rfl) ?_
      refine lv_bipush (v := (nI (14))) hx hb dX0_init_16 (by decide) ?_
      refine jn_ge (tgt := 40) hx hb dX0_init_18 (by decide) (by omega) (by omega) (fun c18 => ?_) (fun c18 => ?_)
      · obtain rfl : k = 14 := by omega
        refine j_vret hx hb hr hlocks hH hw dX0_init_40 ?_
        exact ⟨rfl, ⟨0, by decide, Nat.zero_le _, hO, hA1.ext (fun j hj => (hfr j (by omega)).symm), fun i hi => ⟨_, _, hK0 i (by omega)⟩, fun i s h => by simp at h⟩, ⟨by omega, hf.2⟩⟩
      · refine lv_aload_n hx hb dX0_init_21 rfl (lv_at hl 0 rfl) ?_
        refine j_get (T := TX0) (N := 3) (k := 0) hx hb hts hinX0 hown hw hO rfl (by decide) (hts (.fieldLink RX0 11 "NightTrains$History" "states" "[LNightTrains$Store;") (by decide +kernel)) rfl dX0_init_22 ?_
        refine lv_iload_n hx hb dX0_init_25 rfl (lv_at hl 1 rfl) ?_
        have hinX2 : ∀ w ∈ u_ws RX2 TX2 9, w ∈ wsX0_init := by decide +kernel
        refine j_new (ci := 2) (T := TX2) (N := 9) (fs := [.null, .null, .null, .null, .null, .null, .null, .null, .null]) (h := (a + (2 + 12 * k))) hx hb hts hinX2 tyX2 tyX2_ok hown (hts (.classLink RX0 9 RX2) (by decide +kernel)) (hts (.instantiable RX2 9) (by decide +kernel)) (hts (.initialized RX2) (by decide +kernel)) hw hzs rfl dfX2 (by omega) (show 1 + 12 * k + 1 ≤ 169 by omega) (show 14 + 283 * k + 9 ≤ 3976 by omega) dX0_init_26 (fun H hw hO2 o1 hs8 => ?_)
        replace hO := hO.kept (o1 _ (by omega))
        replace hA1 := hA1.kept (o1 _ (by omega))
        replace hK0 := hK0.kept (fun q _ _ => o1 q (by omega))
        replace hf : jB9 a ((2 + 12 * k + 1)) H0 H := hf.new o1 hs8
        replace hs9 := hf.1
        clear o1 hs8
        refine lv_dup hx hb dX0_init_29 rfl ?_
        refine j_IA hx hb hml hown hts hw hAO (c_X2_init l g z H (a + (2 + 12 * k)) (by omega) hO2 (by omega)) gX0_init_X2_init rfl (by decide +kernel) (by decide +kernel) (by decide +kernel) rfl (by decide +kernel) ⟨Nat.le_of_ble_eq_true rfl, Nat.le_of_ble_eq_true rfl⟩ hl.1 (Nat.le_of_ble_eq_true rfl) ⟨(show (1 + 12 * k + 1) + 11 ≤ 169 by omega), (show (14 + 283 * k + 9) + 274 ≤ 3976 by omega)⟩ dX0_init_30 (fun H locs P3 hw => ?_)
        obtain ⟨hC4, hb9⟩ := P3
        clear hO2
        replace hO := hO.kept (hb9.2 _ (by omega))
        replace hA1 := hA1.kept (hb9.2 _ (by omega))
        replace hK0 := hK0.kept (fun q _ _ => hb9.2 q (by omega))
        replace hf : jB9 a (((2 + 12 * k + 1) + 11)) H0 H := ⟨by have := hb9.1; omega, fun q hq => by rw [hb9.2 q (by omega)]; exact hf.2 q hq⟩
        replace hs9 := hf.1
        clear hb9
        refine j_astR hx hb hw hA1 (by omega) hC4.obj (k := k) (by omega) (by decide) dX0_init_33 (fun H locs hw hA1 oq hsz => ?_)
        obtain ⟨f5, ef5⟩ : ∃ y9, y9 = va_up fr (k) (some (a + (2 + 12 * k))) := ⟨_, rfl⟩
        rw [← ef5] at hA1
        replace hO := hO.kept (oq _ (by omega))
        replace hK0 := hK0.kept (fun q _ _ => oq q (by omega))
        replace hC4 := hC4.kept (fun q _ _ => oq q (by omega))
        replace hf := hf.put oq hsz (by omega)
        replace hs9 := hf.1
        clear oq hsz
        refine lv_iinc (v := nI (k + 1)) (lv' := [(1, .int _), (0, .ref _)]) hx hb dX0_init_34 hl (k := 1) rfl (nI_add _ 1) (by decide) rfl (fun ls hl => ?_)
        refine lv_goto (tgt := 15) hx hb dX0_init_37 (by decide) ?_
        have hK0 := hK0.add (by omega) hC4
        refine j_cs (c1 := 1 + 12 * (k + 1)) (s1 := 14 + 283 * (k + 1)) (by omega) (by omega) ?_
        have hf : jB9 a (2 + 12 * (k + 1)) H0 H := ⟨by omega, hf.2⟩
        exact ih15  (k + 1) f5 (by first | assumption | omega) (fun j hj => by rw [ef5]; by_cases q : j = k; rw [q, up_s]; exact congrArg some (by omega); rw [up_n q]; exact hfr j (by omega)) (by omega) H _ hw hf hO hA1 hK0 _ (lv_sub hl [1, 0] rfl)
  refine j_cs (c1 := 1 + 12 * 0) (s1 := 14 + 283 * 0) rfl rfl ?_
  have hf : jB9 a (2 + 12 * 0) H0 H := hf
  exact lp15 (14 - 0 + 1) 0 (fun _ => none) (by first | assumption | omega) (fun j hj => absurd hj (Nat.not_lt_zero _)) (by omega) H _ hw hf hO hA1 hK0 _ (lv_sub hl [1, 0] rfl)
