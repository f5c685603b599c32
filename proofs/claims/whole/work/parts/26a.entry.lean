/-! The law's start: what the tables say. -/
theorem ex_arr {args : Array Value} {s : State} {ty : FieldType} (h : (Cond.arrayClass ty).before args s = true) : ∃ cA : ClassId, ArrOfT s cA ty ∧ s.vm.findClass ("[" ++ ty.toString) = some cA := by
  obtain ⟨cA, kA, comp, h1, h2, h3⟩ := Cond.arrayClass_spec h
  exact ⟨cA, fun n z => ⟨fun k h => (by cases h), kA, h2, comp, h3⟩, h1⟩
theorem j5 {P : Nat → Prop} (h0 : P 0) (h1 : P 1) (h2 : P 2) (h3 : P 3) (h4 : P 4) : ∀ j : Nat, j < 5 → P j := fun j hj => by
  have hw9 : j = 0 ∨ j = 1 ∨ j = 2 ∨ j = 3 ∨ j = 4 := by omega
  rcases hw9 with rfl | rfl | rfl | rfl | rfl
  · exact h0
  · exact h1
  · exact h2
  · exact h3
  · exact h4
theorem jNm_in : ∀ q ∈ jNm, Cond.methodLinkNest q.1 q.2.1 q.2.2.1 q.2.2.2 ∈ lw_tbl := by decide +kernel
theorem cst_in : ∀ E ∈ [xIAE, xISE, xIOB], Cond.castable E E ∈ lw_tbl := by decide +kernel
theorem dcl_in : ∀ Y ∈ ["java/lang/RuntimeException", "java/lang/Exception", Bundle.tN], Cond.declares (Bundle.initS Y) ∈ lw_tbl := by decide +kernel
set_option maxRecDepth 20000 in
theorem entry {s : State} {b : Nat} (hts : ∀ w ∈ lw_tbl, w.before #[Value.ref b] s = true) (hgv : (Jvm.Cond.and given_1 narrow_1).before #[Value.ref b] s = true) : ∃ g : jG, jB g s.heap.size s ∧ jE s ∧ va_AO RX2 s := by
  have hA : ∀ a : Nat, a < s.heap.size → ¬ jA s.heap.size a := fun a h q => absurd h (Nat.not_lt.mpr q)
  have hgs := flat_of_before _ hgv
  obtain ⟨c0, i0, k0⟩ := u_known (C := RX0) (T := TX0) (N := 3) (n := 3) hts inX0 (hts (.instantiable RX0 3) (by decide +kernel))
  obtain ⟨c1, i1, k1⟩ := u_known (C := RX1) (T := TX1) (N := 2) (n := 2) hts inX1 (hts (.instantiable RX1 2) (by decide +kernel))
  obtain ⟨c2, i2, k2⟩ := u_known (C := RX2) (T := TX2) (N := 9) (n := 9) hts inX2 (hts (.instantiable RX2 9) (by decide +kernel))
  obtain ⟨c3, i3, k3⟩ := u_known (C := RX3) (T := TX3) (N := 2) (n := 2) hts inX3 (hts (.instantiable RX3 2) (by decide +kernel))
  obtain ⟨c4, i4, k4⟩ := u_known (C := RX4) (T := TX4) (N := 6) (n := 6) hts inX4 (hts (.instantiable RX4 6) (by decide +kernel))
  obtain ⟨c5, i5, k5⟩ := u_known (C := RX5) (T := TX5) (N := 16) (n := 16) hts inX5 (hts (.instantiable RX5 16) (by decide +kernel))
  obtain ⟨aI, aI1, aI2⟩ := ex_arr (hts (.arrayClass .int) (by decide +kernel))
  obtain ⟨aC, aC1, aC2⟩ := ex_arr (hts (.arrayClass .char) (by decide +kernel))
  obtain ⟨aZ, aZ1, aZ2⟩ := ex_arr (hts (.arrayClass .boolean) (by decide +kernel))
  obtain ⟨aL, aL1, aL2⟩ := ex_arr (hts (.arrayClass .long) (by decide +kernel))
  have hAO : va_AO RX2 s := va_AO.of (hts (.arrayOver (.object "NightTrains$Store")) (by decide +kernel))
  obtain ⟨comp, aS, kS, h1, h2, h3, h4, h5⟩ := Cond.arrayOver_spec hAO
  have hlF := hts (.laysStatic "NightTrains" "SETTING_FIRST" "[I") (by decide +kernel)
  have hlL := hts (.laysStatic "NightTrains" "SETTING_LEAST" "[I") (by decide +kernel)
  have hlM := hts (.laysStatic "NightTrains" "SETTING_MOST" "[I") (by decide +kernel)
  have hin4 := hts (.initialized "NightTrains") (by decide +kernel)
  obtain ⟨tF, eF, TF⟩ := va_Tof (tm := .static "NightTrains" "SETTING_FIRST" "[I") (ty := .int) (N := 5) (f := fun j => .int (jFirst j)) (by decide) (hgs _ (by decide +kernel)) (va_eqt (hgs (.eq (.length (.static "NightTrains" "SETTING_FIRST" "[I")) (.int 5)) (by decide +kernel)))
    (j5 (va_eqt (hgs (.eq (.elem (.static "NightTrains" "SETTING_FIRST" "[I") (.int 0)) (.int 1)) (by decide +kernel))) (va_eqt (hgs (.eq (.elem (.static "NightTrains" "SETTING_FIRST" "[I") (.int 1)) (.int 3)) (by decide +kernel))) (va_eqt (hgs (.eq (.elem (.static "NightTrains" "SETTING_FIRST" "[I") (.int 2)) (.int 2)) (by decide +kernel))) (va_eqt (hgs (.eq (.elem (.static "NightTrains" "SETTING_FIRST" "[I") (.int 3)) (.int 5)) (by decide +kernel))) (va_eqt (hgs (.eq (.elem (.static "NightTrains" "SETTING_FIRST" "[I") (.int 4)) (.int 0)) (by decide +kernel)))) hA
  obtain ⟨tL, eL, TL⟩ := va_Tof (tm := .static "NightTrains" "SETTING_LEAST" "[I") (ty := .int) (N := 5) (f := fun j => .int (jLeast j)) (by decide) (hgs _ (by decide +kernel)) (va_eqt (hgs (.eq (.length (.static "NightTrains" "SETTING_LEAST" "[I")) (.int 5)) (by decide +kernel)))
    (j5 (va_eqt (hgs (.eq (.elem (.static "NightTrains" "SETTING_LEAST" "[I") (.int 0)) (.int 0)) (by decide +kernel))) (va_eqt (hgs (.eq (.elem (.static "NightTrains" "SETTING_LEAST" "[I") (.int 1)) (.int 1)) (by decide +kernel))) (va_eqt (hgs (.eq (.elem (.static "NightTrains" "SETTING_LEAST" "[I") (.int 2)) (.int 1)) (by decide +kernel))) (va_eqt (hgs (.eq (.elem (.static "NightTrains" "SETTING_LEAST" "[I") (.int 3)) (.int 1)) (by decide +kernel))) (va_eqt (hgs (.eq (.elem (.static "NightTrains" "SETTING_LEAST" "[I") (.int 4)) (.int 0)) (by decide +kernel)))) hA
  obtain ⟨tM, eM, TM⟩ := va_Tof (tm := .static "NightTrains" "SETTING_MOST" "[I") (ty := .int) (N := 5) (f := fun j => .int (jMost j)) (by decide) (hgs _ (by decide +kernel)) (va_eqt (hgs (.eq (.length (.static "NightTrains" "SETTING_MOST" "[I")) (.int 5)) (by decide +kernel)))
    (j5 (va_eqt (hgs (.eq (.elem (.static "NightTrains" "SETTING_MOST" "[I") (.int 0)) (.int 4)) (by decide +kernel))) (va_eqt (hgs (.eq (.elem (.static "NightTrains" "SETTING_MOST" "[I") (.int 1)) (.int 6)) (by decide +kernel))) (va_eqt (hgs (.eq (.elem (.static "NightTrains" "SETTING_MOST" "[I") (.int 2)) (.int 9)) (by decide +kernel))) (va_eqt (hgs (.eq (.elem (.static "NightTrains" "SETTING_MOST" "[I") (.int 3)) (.int 9)) (by decide +kernel))) (va_eqt (hgs (.eq (.elem (.static "NightTrains" "SETTING_MOST" "[I") (.int 4)) (.int 2)) (by decide +kernel)))) hA
  refine ⟨((fun k => match k with | 0 => c0 | 1 => c1 | 2 => c2 | 3 => c3 | 4 => c4 | _ => c5, fun k => match k with | 0 => i0 | 1 => i1 | 2 => i2 | 3 => i3 | 4 => i4 | _ => i5), fun k => match k with | 0 => aI | 1 => aC | 2 => aZ | 3 => aS | 4 => aL | _ => tF), ⟨⟨fun c q hq => ?_, fun k q hq => ?_⟩, ⟨tL, va_Zref hlL hin4 eL hA, TL⟩, ⟨tM, va_Zref hlM hin4 eM hA, TM⟩, ⟨va_Zref hlF hin4 eF hA, TF⟩, ⟨?_, ?_, fun k tx h => ?_⟩, fun q hq => va_Nw.of rfl (hts _ (jNm_in q hq)), va_Nw.of rfl (hts (.fieldLinkNest RX2 46 RX4 "SETTING_FIRST" "[I" RX4) (by decide +kernel))⟩, ⟨fun E hE => va_Nw.of rfl (hts _ (cst_in E hE)), ?_, fun Y hY => va_Nw.of rfl (hts _ (dcl_in Y hY))⟩, hAO⟩
  · have hl : c < 6 := (List.getElem?_eq_some_iff.mp hq).1
    have hw9 : c = 0 ∨ c = 1 ∨ c = 2 ∨ c = 3 ∨ c = 4 ∨ c = 5 := by omega
    rcases hw9 with rfl | rfl | rfl | rfl | rfl | rfl <;> cases hq
    · exact k0
    · exact k1
    · exact k2
    · exact k3
    · exact k4
    · exact k5
  · have hl : k < 5 := (List.getElem?_eq_some_iff.mp hq).1
    have hw9 : k = 0 ∨ k = 1 ∨ k = 2 ∨ k = 3 ∨ k = 4 := by omega
    rcases hw9 with rfl | rfl | rfl | rfl | rfl <;> cases hq
    · exact ⟨aI1, aI2⟩
    · exact ⟨aC1, aC2⟩
    · exact ⟨aZ1, aZ2⟩
    · exact ⟨fun n z => ⟨fun k h => (by cases h), kS, h3, comp, h4⟩, kS, comp, h3, h4, h1, h5⟩
    · exact ⟨aL1, aL2⟩
  · exact vx_Zqof (hts (.laysStatic Bundle.tN "UNASSIGNED_STACK" Bundle.steD) (by decide +kernel)) (hts (.initialized Bundle.tN) (by decide +kernel)) (hgs _ (by decide +kernel)) hA
  · exact vx_Zqof (hts (.laysStatic Bundle.tN "SUPPRESSED_SENTINEL" Bundle.listD) (by decide +kernel)) (hts (.initialized Bundle.tN) (by decide +kernel)) (hgs _ (by decide +kernel)) hA
  · have h9 := hts _ (List.mem_append_right _ h)
    obtain ⟨_, _, _, sa, -, -, -, -, -, hev⟩ := Cond.stringRef_spec k4.2.1 h9
    exact ⟨sa, vk_R.of h9 hev⟩
  · exact List.forall_mem_cons.mpr ⟨va_Nc.of (args := #[Value.ref b]) (hgs _ (by decide +kernel)), List.forall_mem_cons.mpr ⟨va_Nc.of (args := #[Value.ref b]) (hgs _ (by decide +kernel)), List.forall_mem_cons.mpr ⟨va_Nc.of (args := #[Value.ref b]) (hgs _ (by decide +kernel)), List.forall_mem_cons.mpr ⟨va_Nc.of (args := #[Value.ref b]) (hgs _ (by decide +kernel)), List.forall_mem_cons.mpr ⟨va_Nc.of (args := #[Value.ref b]) (hgs _ (by decide +kernel)), List.forall_mem_cons.mpr ⟨va_Nc.of (args := #[Value.ref b]) (hgs _ (by decide +kernel)), fun _ h => absurd h List.not_mem_nil⟩⟩⟩⟩⟩⟩
