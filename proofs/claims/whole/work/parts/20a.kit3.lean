/-! Methods that return or throw. -/
def xIAE : String := "java/lang/IllegalArgumentException"
def xISE : String := "java/lang/IllegalStateException"
def xIOB : String := "java/lang/IndexOutOfBoundsException"
theorem j_warmD {y : MethodName} {s U : State} (hW : s.WarmedH U.vm) (hZ : va_Nw (.declares y) s) : va_Nw (.declares y) U := va_tabs rfl (rfl : (s.setVm U.vm).vm = U.vm) (by rw [Cond.declares_setVm hW.alike]; exact hZ)
/-- what is known of the classes that are thrown -/
def jE (s : State) : Prop := (∀ E ∈ [xIAE, xISE, xIOB], va_Nw (.castable E E) s) ∧ (∀ q ∈ [(xIAE, xISE), (xIAE, xIOB), (xISE, xIAE), (xISE, xIOB), (xIOB, xIAE), (xIOB, xISE)], va_Nc q.1 q.2 s) ∧ ∀ Y ∈ ["java/lang/RuntimeException", "java/lang/Exception", Bundle.tN], va_Nw (.declares (Bundle.initS Y)) s
theorem jE.go {u U : State} (hW : u.WarmedH U.vm) (h : jE u) : jE U := ⟨fun E hE => va_Nw.warmC hW (h.1 E hE), fun q hq => va_Nc.moved hW.alike (h.2.1 q hq), fun Y hY => j_warmD hW (h.2.2 Y hY)⟩
def jPcX (g : jG) (z : Nat) (av : List Value) (H0 : Heap) : Array Value → State → Prop := fun v U => v = av.toArray ∧ U.heap = H0 ∧ jB g z U ∧ jE U
theorem jPcX.blind {g : jG} {z : Nat} {av : List Value} {H0 : Heap} : FrameBlind (jPcX g z av H0) := fun a U f mk q => by
  obtain ⟨h1, h2, h3, h4⟩ := q
  obtain ⟨k1, k2, k3⟩ := jPc.blind (g := g) (z := z) (av := av) (H0 := H0) a U f mk ⟨h1, h2, h3⟩
  exact ⟨k1, k2, k3, jE.go (u := U) (U := U.calling f mk a) (State.WarmedH.refl U) h4⟩
def jXC (H0 : Heap) (xp : String → Prop) : String → State → State → Prop := fun E _ t => xp E ∧ H0.size ≤ t.heap.size ∧ ∀ q : Nat, q < H0.size → t.heap[q]? = H0[q]?
abbrev jMX (l : Launch) (g : jG) (z : Nat) (y : MethodName) (ws : List Cond) (fr lo : Nat) (av : List Value) (H0 : Heap) (post : Option Value → Heap → Prop) (xp : String → Prop) : Prop :=
  vx_Met l y ws { frames := fr, cells := 1, slots := 6, locals := lo } (jPcX g z av H0) (jQ z H0 post) (jXC H0 xp) 1 6 (jA z)
abbrev jKX (p : Program) (l : Launch) (e : Env) (fr lo : Nat) (s : State) (m : MethodId) (av : List Value) (below : List Frame) (meth : Method) (c : Code) (z : Nat) (H0 : Heap) (post : Option Value → Heap → Prop) (xp : String → Prop) (H : Heap) (locs : List Loc) (f : JFrame) : Prop :=
  W p l e { frames := fr, cells := 1, slots := 6, locals := lo } s m av.toArray below meth c H locs 0 0 (vx_MQ below (jQ z H0 post) (jXC H0 xp) av.toArray s 1 6 (jA z)) f
theorem j_ofX {l : Launch} {g : jG} {z : Nat} {y : MethodName} {ws ws' : List Cond} {fr lo : Nat} {av : List Value} {H0 : Heap} {post : Option Value → Heap → Prop} {xp : String → Prop} {cc : ByteArray} {n : Nat} {ret : Option FieldType}
    (hy : plainName y.cls = true) (hw : ws = Cond.code y cc n ret :: ws') (hn : (lg_sl av).length ≤ n)
    (body : ∀ p e s m below meth c, p.tables.exec = Jvm.exec → c.code = cc → meth.sig.returnType = ret → c.maxLocals = n → s.vm.findClass y.cls = some m.cls → (∀ w ∈ ws, w.before av.toArray s = true) → meth.locks = false → (meth.name = y.name) → s.heap = H0 → jW g z s H0 [] → jE s → (∀ x ∈ c.exceptionTable.toList, False) →
      ∀ ls, lv_has ls n (lv_args 0 av) → W p l e { frames := fr, cells := 1, slots := 6, locals := lo } s m av.toArray below meth c H0 [] 0 0 (vx_MQ below (jQ z H0 post) (jXC H0 xp) av.toArray s 1 6 (jA z)) (F0 m 0 ls [])) :
    jMX l g z y ws fr lo av H0 post xp := by
  refine vx_ofW (cc := cc) (maxL := n) (ret := ret) hy hw ?_
  intro p e s m args below meth c s₁ B hml hex hv
  obtain ⟨rfl, hH, ⟨hK, hT⟩, hE⟩ := hv
  have hts := atoms_spec (ws := ws) B.pre
  have hl := lv_entry av (n := n) hn
  rw [lg_entry_eq]
  generalize (lg_sl av ++ List.replicate (n - (lg_sl av).length) Slot.unset).toArray = ls at hl ⊢
  rw [hH]
  exact body p e s m below meth c B.exec B.bytes B.returns hml (findClass_of_methodNamed B.named) hts B.notSynchronized (name_of_methodNamed B.named B.method).1 hH ⟨hK, hT, by rw [hH]; exact va_S.rf⟩ hE hex ls hl
section JX3
variable {p : Program} {l : Launch} {e : Env} {R : Room} {s : State} {m : MethodId} {args : Array Value} {below : List Frame} {meth : Method} {c : Code} {H : Heap} {locs : List Loc} {cells slots : Nat} {Q : State → Prop}
variable {cc : ByteArray} {pc : Nat} {ls : Array Slot} {rest : List Value} {g : jG} {z a : Nat} {H0 : Heap} {post : Option Value → Heap → Prop} {xp : String → Prop}
/-- the end of a method that may throw -/
theorem j_retX {g0 : JFrame} (k : W p l e R s m args below meth c H locs 1 6 (MQ below (jQ z H0 post) args s 1 6 (jA z)) g0) : W p l e R s m args below meth c H locs 0 0 (vx_MQ below (jQ z H0 post) (jXC H0 xp) args s 1 6 (jA z)) g0 :=
  W.widen (Nat.zero_le _) (Nat.zero_le _) (vx_ret k)
theorem j_throw (hl0 : l.stackTraces = false) (hx : p.tables.exec = Jvm.exec) (hb : c.code = cc) {nL : Nat} (hml : c.maxLocals = nL) (hown : s.vm.findClass RX4 = some m.cls) (hlocks : meth.locks = false) (hH : s.heap = H) (hw : jW g z s H locs) (hE : jE s) (hex : ∀ x ∈ c.exceptionTable.toList, False)
    {Ts : List Cond} {cls text : String} {ik is ic : Nat} (hmem : cls ∈ [xIAE, xISE, xIOB]) (hts : ∀ w ∈ Ts, w.before args s = true) (hcls : Bundle.fit cls = true) (hk : Cond.classLink RX4 ik cls ∈ Ts) (hini : Cond.initialized cls ∈ Ts) (hstr : Cond.stringRef "NightTrains" is text ∈ tables_1)
    (hat : ∀ w ∈ (vx_atS RX4 ic cls ["java/lang/RuntimeException", "java/lang/Exception"]).filter goodWord, w ∈ Ts) (hat2 : ∀ w ∈ (vx_atS RX4 ic cls ["java/lang/RuntimeException", "java/lang/Exception"]).filter (fun w => !goodWord w), w ∈ [Cond.castable cls cls, Cond.declares (Bundle.initS "java/lang/RuntimeException"), Cond.declares (Bundle.initS "java/lang/Exception"), Cond.declares (Bundle.initS Bundle.tN)])
    (hgood : ∀ w ∈ Cond.classLink RX4 ik cls :: Cond.initialized cls :: vx_atS RX4 ic cls ["java/lang/RuntimeException", "java/lang/Exception"], vx_ot w = true)
    (hsize : ls.size = nL) (d0 : decode cc pc = .ok (.new ik, 3)) (d3 : decode cc (pc + 3) = .ok (.dup, 1)) (d4 : decode cc (pc + 4) = .ok (.ldc is, 2)) (d6 : decode cc (pc + 6) = .ok (.invokespecial ic, 3)) (d9 : decode cc (pc + 9) = .ok (.athrow, 1))
    (hR : 5 < R.frames ∧ 82 ≤ R.locals ∧ 1 ≤ R.cells ∧ 6 ≤ R.slots) (hxp : xp cls) :
    W p l e R s m args below meth c H locs 0 0 (vx_MQ below (jQ z H post) (jXC H xp) args s 1 6 (jA z)) (F0 m pc ls []) := by
  obtain ⟨hU, hN, htx⟩ := hw.2.1.2.2.2.1
  obtain ⟨sa, hsa⟩ := htx is text hstr
  refine vx_throwS hx hb hl0 (own := RX4) (cls := cls) (text := text) (names := ["java/lang/RuntimeException", "java/lang/Exception"]) (ik := ik) (is := is) (ic := ic) (sa := sa) (A := jA z) hown hcls (by decide +kernel) (hts _ hk) (hts _ hini) hsa
    (vx_hat (fun w hw9 => hts w (hat w hw9)) hat2 (vx_c (va_Nw.use (A := args) rfl (hE.1 cls hmem)) (vx_c (va_Nw.use (A := args) rfl (hE.2.2 "java/lang/RuntimeException" (by decide +kernel))) (vx_c (va_Nw.use (A := args) rfl (hE.2.2 "java/lang/Exception" (by decide +kernel))) (vx_c (va_Nw.use (A := args) rfl (hE.2.2 Bundle.tN (by decide +kernel))) vx_n))))) hgood hU hN hw.2.2 (by rw [hml]; exact hsize) d0 d3 d4 d6 d9 (fun x hx9 => (hex x hx9).elim) hR.1 (by simpa using hR.2.1) (by omega) (by omega) hlocks
    (fun t _ h1 h2 => ⟨hxp, h1, h2⟩) hw.2.2.2.2 (Nat.le_refl _) (Nat.le_refl _)
end JX3
/-! The class as a whole: 223 cells from A on. -/
def slF (sv : Nat → Option Sg) (ik : Nat → Int32) (k : Nat) (τ : Sg) (R : List OR) : Prop := (sv k = none ∧ ik k = nI 0) ∨ (∃ s, sv k = some s ∧ ik k = nI 1 ∧ τ = s ∧ R = opnR s ∧ okN s)
def jSl (g : jG) (H : Heap) (a : Nat) (sv : Nat → Option Sg) : Prop := jR g H a 2 (fun i => some (a + 2 + 12 * i)) ∧ ∃ ik, jZ g H (a + 1) 2 ik ∧ ∀ k, k < 2 → ∃ τ R, jSo g H (a + 2 + 12 * k) τ R ∧ slF sv ik k τ R
theorem jSl.kept {g : jG} {H H1 : Heap} {a : Nat} {sv : Nat → Option Sg} (h : jSl g H a sv) (hq : ∀ q : Nat, a ≤ q → q < a + 26 → H1[q]? = H[q]?) : jSl g H1 a sv := by
  obtain ⟨h1, ik, h2, h3⟩ := h
  refine ⟨h1.kept (hq _ (by omega) (by omega)), ik, h2.kept (hq _ (by omega) (by omega)), fun k hk => ?_⟩
  obtain ⟨τ, R, h4, h5⟩ := h3 k hk
  exact ⟨τ, R, h4.kept (fun q _ _ => hq q (by omega) (by omega)), h5⟩
theorem jSl.mk {g : jG} {H : Heap} {a : Nat} {sv : Nat → Option Sg} {ik : Nat → Int32} {τ0 τ1 : Sg} {R0 R1 : List OR} (h1 : jR g H a 2 (fun i => some (a + 2 + 12 * i))) (h2 : jZ g H (a + 1) 2 ik) (h3 : jSo g H (a + 2) τ0 R0) (h4 : jSo g H (a + 14) τ1 R1) (h5 : slF sv ik 0 τ0 R0) (h6 : slF sv ik 1 τ1 R1) : jSl g H a sv := by
  refine ⟨h1, ik, h2, fun k hk => ?_⟩
  have hw9 : k = 0 ∨ k = 1 := by omega
  rcases hw9 with rfl | rfl
  · exact ⟨τ0, R0, h3, h5⟩
  · exact ⟨τ1, R1, h4, h6⟩
theorem jHi.ok {g : jG} {H : Heap} {a : Nat} {hi : List Sg} (h : jHi g H a hi) {s : Sg} (hm : s ∈ hi) : okN s := by
  obtain ⟨nx, -, -, -, -, -, h6⟩ := h
  obtain ⟨i, hi9⟩ := List.mem_iff_getElem?.mp hm
  exact (h6 i s hi9).1
def CD (g : jG) (H : Heap) (A : Nat) (tx : List Nat) (σ : Sg) (hi : List Sg) (sv : Nat → Option Sg) : Prop :=
  ∃ τ Rt, jO g H A 4 [.ref (A + 1), .ref (A + 3), .ref (A + 15), .ref (A + 27), .ref (A + 197), .ref (A + 198)] ∧ jTe g H (A + 1) tx ∧ jSo g H (A + 3) σ (opnR σ) ∧ jSo g H (A + 15) τ Rt ∧ jHi g H (A + 27) hi ∧ jSl g H (A + 197) sv ∧ okN σ
theorem CD.kept {g : jG} {H H1 : Heap} {A : Nat} {tx : List Nat} {σ : Sg} {hi : List Sg} {sv : Nat → Option Sg} (h : CD g H A tx σ hi sv) (hq : ∀ q : Nat, A ≤ q → q < A + 223 → H1[q]? = H[q]?) : CD g H1 A tx σ hi sv := by
  obtain ⟨τ, Rt, h1, h2, h3, h4, h5, h6, h7⟩ := h
  exact ⟨τ, Rt, h1.kept (hq _ (by omega) (by omega)), h2.kept (fun q _ _ => hq q (by omega) (by omega)), h3.kept (fun q _ _ => hq q (by omega) (by omega)), h4.kept (fun q _ _ => hq q (by omega) (by omega)), h5.kept (fun q _ _ => hq q (by omega) (by omega)), h6.kept (fun q _ _ => hq q (by omega) (by omega)), h7⟩
section JX4
variable {p : Program} {l : Launch} {e : Env} {R : Room} {s : State} {m : MethodId} {args : Array Value} {below : List Frame} {meth : Method} {c : Code} {H : Heap} {locs : List Loc} {cells slots : Nat} {Q : State → Prop}
variable {cc : ByteArray} {pc : Nat} {ls : Array Slot} {rest : List Value} {g : jG} {z a : Nat} {H0 : Heap} {post : Option Value → Heap → Prop} {xp : String → Prop}
theorem j_throwW (hl0 : l.stackTraces = false) (hx : p.tables.exec = Jvm.exec) (hb : c.code = cc) {nL : Nat} (hml : c.maxLocals = nL) (hown : s.vm.findClass RX4 = some m.cls) (hlocks : meth.locks = false) (hH : s.heap = H) (hw : jW g z s H locs) (hE : jE s) (hex : ∀ x ∈ c.exceptionTable.toList, False)
    {Ts : List Cond} {cls text : String} {ik is ic : Nat} (hmem : cls ∈ [xIAE, xISE, xIOB]) (hts : ∀ w ∈ Ts, w.before args s = true) (hcls : Bundle.fit cls = true) (hk : Cond.classLink RX4 ik cls ∈ Ts) (hini : Cond.initialized cls ∈ Ts) (hstr : Cond.stringRef "NightTrains" is text ∈ tables_1)
    (hat : ∀ w ∈ (vx_atS RX4 ic cls ["java/lang/RuntimeException", "java/lang/Exception"]).filter goodWord, w ∈ Ts) (hat2 : ∀ w ∈ (vx_atS RX4 ic cls ["java/lang/RuntimeException", "java/lang/Exception"]).filter (fun w => !goodWord w), w ∈ [Cond.castable cls cls, Cond.declares (Bundle.initS "java/lang/RuntimeException"), Cond.declares (Bundle.initS "java/lang/Exception"), Cond.declares (Bundle.initS Bundle.tN)])
    (hgood : ∀ w ∈ Cond.classLink RX4 ik cls :: Cond.initialized cls :: vx_atS RX4 ic cls ["java/lang/RuntimeException", "java/lang/Exception"], vx_ot w = true)
    (hsize : ls.size = nL) (d0 : decode cc pc = .ok (.new ik, 3)) (d3 : decode cc (pc + 3) = .ok (.dup, 1)) (d4 : decode cc (pc + 4) = .ok (.ldc_w is, 3)) (d7 : decode cc (pc + 7) = .ok (.invokespecial ic, 3)) (d10 : decode cc (pc + 10) = .ok (.athrow, 1))
    (hR : 5 < R.frames ∧ 82 ≤ R.locals ∧ 1 ≤ R.cells ∧ 6 ≤ R.slots) (hxp : xp cls) :
    W p l e R s m args below meth c H locs 0 0 (vx_MQ below (jQ z H post) (jXC H xp) args s 1 6 (jA z)) (F0 m pc ls []) := by
  obtain ⟨hU, hN, htx⟩ := hw.2.1.2.2.2.1
  obtain ⟨sa, hsa⟩ := htx is text hstr
  refine vx_throwSW hx hb hl0 (own := RX4) (cls := cls) (text := text) (names := ["java/lang/RuntimeException", "java/lang/Exception"]) (ik := ik) (is := is) (ic := ic) (sa := sa) (A := jA z) hown hcls (by decide +kernel) (hts _ hk) (hts _ hini) hsa
    (vx_hat (fun w hw9 => hts w (hat w hw9)) hat2 (vx_c (va_Nw.use (A := args) rfl (hE.1 cls hmem)) (vx_c (va_Nw.use (A := args) rfl (hE.2.2 "java/lang/RuntimeException" (by decide +kernel))) (vx_c (va_Nw.use (A := args) rfl (hE.2.2 "java/lang/Exception" (by decide +kernel))) (vx_c (va_Nw.use (A := args) rfl (hE.2.2 Bundle.tN (by decide +kernel))) vx_n))))) hgood hU hN hw.2.2 (by rw [hml]; exact hsize) d0 d3 d4 d7 d10 (fun x hx9 => (hex x hx9).elim) hR.1 (by simpa using hR.2.1) (by omega) (by omega) hlocks
    (fun t _ h1 h2 => ⟨hxp, h1, h2⟩) hw.2.2.2.2 (Nat.le_refl _) (Nat.le_refl _)
end JX4
theorem vx_g41 : ∀ w ∈ Cond.classLink RX4 41 "java/lang/IllegalArgumentException" :: Cond.initialized "java/lang/IllegalArgumentException" :: vx_atS RX4 45 "java/lang/IllegalArgumentException" ["java/lang/RuntimeException", "java/lang/Exception"], vx_ot w = true := by decide +kernel
theorem vx_g52 : ∀ w ∈ Cond.classLink RX4 52 "java/lang/IllegalStateException" :: Cond.initialized "java/lang/IllegalStateException" :: vx_atS RX4 56 "java/lang/IllegalStateException" ["java/lang/RuntimeException", "java/lang/Exception"], vx_ot w = true := by decide +kernel
theorem vx_g125 : ∀ w ∈ Cond.classLink RX4 125 "java/lang/IndexOutOfBoundsException" :: Cond.initialized "java/lang/IndexOutOfBoundsException" :: vx_atS RX4 129 "java/lang/IndexOutOfBoundsException" ["java/lang/RuntimeException", "java/lang/Exception"], vx_ot w = true := by decide +kernel
theorem vx_n41 : ∀ w ∈ (vx_atS RX4 45 "java/lang/IllegalArgumentException" ["java/lang/RuntimeException", "java/lang/Exception"]).filter (fun w => !goodWord w), w ∈ [Cond.castable "java/lang/IllegalArgumentException" "java/lang/IllegalArgumentException", Cond.declares (Bundle.initS "java/lang/RuntimeException"), Cond.declares (Bundle.initS "java/lang/Exception"), Cond.declares (Bundle.initS Bundle.tN)] := by decide +kernel
theorem vx_n52 : ∀ w ∈ (vx_atS RX4 56 "java/lang/IllegalStateException" ["java/lang/RuntimeException", "java/lang/Exception"]).filter (fun w => !goodWord w), w ∈ [Cond.castable "java/lang/IllegalStateException" "java/lang/IllegalStateException", Cond.declares (Bundle.initS "java/lang/RuntimeException"), Cond.declares (Bundle.initS "java/lang/Exception"), Cond.declares (Bundle.initS Bundle.tN)] := by decide +kernel
theorem vx_n125 : ∀ w ∈ (vx_atS RX4 129 "java/lang/IndexOutOfBoundsException" ["java/lang/RuntimeException", "java/lang/Exception"]).filter (fun w => !goodWord w), w ∈ [Cond.castable "java/lang/IndexOutOfBoundsException" "java/lang/IndexOutOfBoundsException", Cond.declares (Bundle.initS "java/lang/RuntimeException"), Cond.declares (Bundle.initS "java/lang/Exception"), Cond.declares (Bundle.initS Bundle.tN)] := by decide +kernel
/-- bounds of the numbers that only grow -/
def lim (K : Nat) (σ : Sg) : Prop := σ.1 7 ≤ K ∧ σ.1 10 ≤ K ∧ σ.1 12 ≤ K ∧ ∀ l, l < 16 → σ.1 (30 + l) ≤ K
theorem lat_get {σ : Sg} (hs : okS σ) {k u : Nat} (hk : k < 10) (hu : u < 5) : gtR (latR σ) (nI (latR σ).length - nI 1 - nI k) (nI (lw u)) = match σ.2.2.2[k]? with
    | some o => nI (o (lw u))
    | none => -1 := by
  have hl := hs.2.2.2.2.1
  have hw5 : lw u < 5 := by unfold lw; split <;> omega
  have e : nI (latR σ).length - nI 1 - nI k = nI (latR σ).length - nI (k + 1) := by
    rw [Int32.sub_sub, nI_add, Nat.add_comm 1 k]
  rw [e, latR_len]
  by_cases h : k < σ.2.2.2.length
  · obtain ⟨o, ho⟩ := getO (L := σ.2.2.2) (k := k) h
    rw [pk_sub (show k + 1 ≤ σ.2.2.2.length by omega), ho]
    have e1 : (latR σ)[σ.2.2.2.length - (k + 1)]? = some (oRow o) := by
      unfold latR
      rw [List.getElem?_reverse (by rw [List.length_map]; omega), List.length_map, show σ.2.2.2.length - 1 - (σ.2.2.2.length - (k + 1)) = k by omega, List.getElem?_map, ho]
      rfl
    exact gtR_o e1 hw5 (by rw [latR_len]; omega)
  · rw [List.getElem?_eq_none (by omega)]
    refine gtR_no1 (ix_none (fun q => ?_))
    rw [pk_sub_toInt (by omega) (by omega)] at q
    omega
theorem ix_no {x : Int32} {a n : Nat} (h : ix x a n = none) : ¬ ((a : Int) ≤ x.toInt ∧ x.toInt < (n : Int)) := by
  intro q
  unfold ix at h
  rw [if_pos q] at h
  cases h
