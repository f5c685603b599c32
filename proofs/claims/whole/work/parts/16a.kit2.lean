/-! More rows: nest mates' private methods, copying, smaller and greater, constant rows. -/
section JW2
variable {p : Program} {l : Launch} {e : Env} {R : Room} {s : State} {m : MethodId} {args : Array Value} {below : List Frame} {meth : Method} {c : Code} {H : Heap} {locs : List Loc} {cells slots : Nat} {Q : State → Prop}
variable {cc : ByteArray} {pc : Nat} {ls : Array Slot} {rest : List Value} {g : jG} {z a : Nat} {H0 : Heap}
theorem j_SN {y : MethodName} {ws ws' Ts : List Cond} {fr lo n nL maxL index : Nat} {own host : String} {bytes : ByteArray} {ret : Option FieldType} {As : List Value} {post' : Option Value → Heap → Prop} (hx : p.tables.exec = Jvm.exec) (hb : c.code = cc) (hml : c.maxLocals = nL) (hown : s.vm.findClass own = some m.cls) (hts : ∀ w ∈ Ts, w.before args s = true) (hw : jW g z s H locs)
    (hM : jM l g z y ws fr lo As H post') (hG : GoodIn Ts ws) (hN : (own, index, y, host) ∈ jNm) (hs : Cond.static y ∈ Ts) (hi : Cond.initialized y.cls ∈ Ts) (hws : ws = Cond.code y bytes maxL ret :: ws') (hd : y.cls ≠ "java/lang/invoke/MethodHandle" ∧ y.cls ≠ "java/lang/invoke/VarHandle" ∧ (parseMethodDescriptor y.desc).map (fun d => d.parameters.length) = some n) (hR : fr + 1 ≤ R.frames ∧ 8 + (maxL + 11) + lo ≤ R.locals) (hn : As.length = n) (hl : ls.size = nL)
    (hst : (rest.map fun v => v.category).sum ≤ 8) (hc : cells ≤ R.cells ∧ slots ≤ R.slots) (hdg : decode cc pc = .ok (.invokestatic index, 3))
    (kk : ∀ (v : Option Value) (H1 : Heap) (locs1 : List Loc), post' v H1 → jW g z s H1 locs1 → H.size ≤ H1.size → W p l e R s m args below meth c H1 locs1 cells slots Q (F0 m (pc + 3) ls (v.toList ++ rest))) {st0 : List Value} (hst0 : st0 = As.reverse ++ rest) : W p l e R s m args below meth c H locs cells slots Q (F0 m pc ls st0) := by
  subst hst0
  refine j_run (av := As) (post' := post') (va_runSN (As := As) (rest := rest) ⟨hx, hb, hml, hown, hts⟩ hM ⟨va_cnB n hts hG hws rfl rfl (hw.2.1.2.2.2.2.1 _ hN) (hts _ hi) hd hR, hts _ hs, trivial⟩ ⟨jPc.blind, fun U hU hW => ⟨rfl, hU, hw.B hW hU⟩⟩ rfl hn hl rfl (lv_room hst) hdg ⟨hc.1, hc.2⟩) hw kk
theorem j_SNp {y : MethodName} {ws ws' Ts : List Cond} {fr lo n nL maxL index : Nat} {own host : String} {bytes : ByteArray} {ret : Option FieldType} {As : List Value} {P : Int32 → Prop} (hx : p.tables.exec = Jvm.exec) (hb : c.code = cc) (hml : c.maxLocals = nL) (hown : s.vm.findClass own = some m.cls) (hts : ∀ w ∈ Ts, w.before args s = true) (hw : jW g z s H locs)
    (hM : jM l g z y ws fr lo As H (jN (fun r H1 => H1 = H ∧ P r))) (hG : GoodIn Ts ws) (hN : (own, index, y, host) ∈ jNm) (hs : Cond.static y ∈ Ts) (hi : Cond.initialized y.cls ∈ Ts) (hws : ws = Cond.code y bytes maxL ret :: ws') (hd : y.cls ≠ "java/lang/invoke/MethodHandle" ∧ y.cls ≠ "java/lang/invoke/VarHandle" ∧ (parseMethodDescriptor y.desc).map (fun d => d.parameters.length) = some n) (hR : fr + 1 ≤ R.frames ∧ 8 + (maxL + 11) + lo ≤ R.locals) (hn : As.length = n) (hl : ls.size = nL)
    (hst : (rest.map fun v => v.category).sum ≤ 8) (hc : cells ≤ R.cells ∧ slots ≤ R.slots) (hdg : decode cc pc = .ok (.invokestatic index, 3))
    (kk : ∀ (r : Int32) (locs1 : List Loc), P r → jW g z s H locs1 → W p l e R s m args below meth c H locs1 cells slots Q (F0 m (pc + 3) ls (.int r :: rest))) {st0 : List Value} (hst0 : st0 = As.reverse ++ rest) : W p l e R s m args below meth c H locs cells slots Q (F0 m pc ls st0) :=
  j_SN hx hb hml hown hts hw hM hG hN hs hi hws hd hR hn hl hst hc hdg (fun v H1 locs1 hp hw1 _ => by
    obtain ⟨r, rfl, rfl, hr⟩ := hp
    exact kk r locs1 hr hw1) hst0
theorem j_SNv {y : MethodName} {ws ws' Ts : List Cond} {fr lo n nL maxL index : Nat} {own host : String} {bytes : ByteArray} {ret : Option FieldType} {As : List Value} {P : Heap → Prop} (hx : p.tables.exec = Jvm.exec) (hb : c.code = cc) (hml : c.maxLocals = nL) (hown : s.vm.findClass own = some m.cls) (hts : ∀ w ∈ Ts, w.before args s = true) (hw : jW g z s H locs)
    (hM : jM l g z y ws fr lo As H (jV P)) (hG : GoodIn Ts ws) (hN : (own, index, y, host) ∈ jNm) (hs : Cond.static y ∈ Ts) (hi : Cond.initialized y.cls ∈ Ts) (hws : ws = Cond.code y bytes maxL ret :: ws') (hd : y.cls ≠ "java/lang/invoke/MethodHandle" ∧ y.cls ≠ "java/lang/invoke/VarHandle" ∧ (parseMethodDescriptor y.desc).map (fun d => d.parameters.length) = some n) (hR : fr + 1 ≤ R.frames ∧ 8 + (maxL + 11) + lo ≤ R.locals) (hn : As.length = n) (hl : ls.size = nL)
    (hst : (rest.map fun v => v.category).sum ≤ 8) (hc : cells ≤ R.cells ∧ slots ≤ R.slots) (hdg : decode cc pc = .ok (.invokestatic index, 3))
    (kk : ∀ (H1 : Heap) (locs1 : List Loc), P H1 → jW g z s H1 locs1 → H.size ≤ H1.size → W p l e R s m args below meth c H1 locs1 cells slots Q (F0 m (pc + 3) ls rest)) {st0 : List Value} (hst0 : st0 = As.reverse ++ rest) : W p l e R s m args below meth c H locs cells slots Q (F0 m pc ls st0) :=
  j_SN hx hb hml hown hts hw hM hG hN hs hi hws hd hR hn hl hst hc hdg (fun v H1 locs1 hp hw1 hz => by
    obtain ⟨rfl, hr⟩ := hp
    exact kk H1 locs1 hr hw1 hz) hst0
theorem j_min {Ts : List Cond} {nL index : Nat} {own : String} (hx : p.tables.exec = Jvm.exec) (hb : c.code = cc) (hml : c.maxLocals = nL) (hown : s.vm.findClass own = some m.cls) (hts : ∀ w ∈ Ts, w.before args s = true)
    (h1 : Cond.methodLink own index Lib.Math.min.name ∈ Ts) (h2 : Cond.static Lib.Math.min.name ∈ Ts) (h3 : Cond.initialized "java/lang/Math" ∈ Ts) (h4 : Cond.code Lib.Math.min.name Lib.Math.min.code 2 (some .int) ∈ Ts)
    (hfr : 1 ≤ R.frames) (hlo : (rest.map fun v => v.category).sum + 13 ≤ R.locals) (hc : cells ≤ R.cells ∧ slots ≤ R.slots) (hl : ls.size = nL) {x y : Nat} (hx31 : x < 2 ^ 31) (hy31 : y < 2 ^ 31) (hdg : decode cc pc = .ok (.invokestatic index, 3))
    (kk : W p l e R s m args below meth c H locs cells slots Q (F0 m (pc + 3) ls (.int (nI (min x y)) :: rest))) : W p l e R s m args below meth c H locs cells slots Q (F0 m pc ls (.int (nI y) :: .int (nI x) :: rest)) := by
  refine va_mmin hx hb (hml.trans hl.symm) hown (hts _ h1) (hts _ h2) (hts _ h3) (hts _ h4) hfr hlo hc.1 hc.2 hdg ?_
  have e : (if nI y < nI x then nI y else nI x) = nI (min x y) := by
    by_cases q : y < x
    · rw [if_pos ((nI_ltI hy31 hx31).mpr q), Nat.min_eq_right (Nat.le_of_lt q)]
    · rw [if_neg (fun h => q ((nI_ltI hy31 hx31).mp h)), Nat.min_eq_left (Nat.not_lt.mp q)]
  rw [e]; exact kk
theorem j_max {Ts : List Cond} {nL index : Nat} {own : String} (hx : p.tables.exec = Jvm.exec) (hb : c.code = cc) (hml : c.maxLocals = nL) (hown : s.vm.findClass own = some m.cls) (hts : ∀ w ∈ Ts, w.before args s = true)
    (h1 : Cond.methodLink own index Lib.Math.max.name ∈ Ts) (h2 : Cond.static Lib.Math.max.name ∈ Ts) (h3 : Cond.initialized "java/lang/Math" ∈ Ts) (h4 : Cond.code Lib.Math.max.name Lib.Math.max.code 2 (some .int) ∈ Ts)
    (hfr : 1 ≤ R.frames) (hlo : (rest.map fun v => v.category).sum + 13 ≤ R.locals) (hc : cells ≤ R.cells ∧ slots ≤ R.slots) (hl : ls.size = nL) {x y : Int32} (hdg : decode cc pc = .ok (.invokestatic index, 3))
    (kk : W p l e R s m args below meth c H locs cells slots Q (F0 m (pc + 3) ls (.int (if x < y then y else x) :: rest))) : W p l e R s m args below meth c H locs cells slots Q (F0 m pc ls (.int y :: .int x :: rest)) :=
  va_mmax hx hb (hml.trans hl.symm) hown (hts _ h1) (hts _ h2) (hts _ h3) (hts _ h4) hfr hlo hc.1 hc.2 hdg kk
/-- a row of ints that can be read -/
def jU (s : State) (H : Heap) (b n : Nat) (f : Nat → Int32) : Prop := ∃ cell : Cell, H[b]? = some cell ∧ s.isArrayOf cell .int ∧ cell.vm ≠ .unknown ∧ n ≤ cell.slots.size ∧ cell.slots.size.toInt32 = Int32.ofNat n ∧ ∀ j : Nat, j < n → cell.slots[j]? = some (.int (f j))
theorem jI.u {n : Nat} {f : Nat → Int32} (hw : jW g z s H locs) (h : jI g H a n f) (hn : n < 2 ^ 31) : jU s H a n f := by
  refine ⟨vp_cell (g.2 0) (n, .inl f), h, (hw.1.2 0 _ rfl).1 n (fun j => .int (f j)), (fun q => by cases q), ?_, ?_, fun j hj => ?_⟩
  · show n ≤ (arrV _ _ _).slots.size
    rw [arrV_size]; exact Nat.le_refl _
  · show (arrV _ _ _).slots.size.toInt32 = _
    rw [arrV_size]
  · show (arrV _ _ _).slots[j]? = _
    rw [arrV_read _ _ hj]
theorem jU.ofT {t n : Nat} {f : Nat → Int32} (hw : jW g z s H locs) (h : va_T .int t n (fun j => .int (f j)) (jA z) s s.heap) : jU s H t n f := by
  obtain ⟨cell, h1, h2, h3, h4, h5, h6, h7⟩ := h
  exact ⟨cell, by rw [hw.2.2.2.1 t (Array.getElem?_eq_some_iff.mp h1).1 h7]; exact h1, h2, h3, h4, h5, h6⟩
theorem j_alenU (hx : p.tables.exec = Jvm.exec) (hb : c.code = cc) {n : Nat} {f : Nat → Int32} (hU : jU s H a n f) (hdg : decode cc pc = .ok (.arraylength, 1))
    (kk : W p l e R s m args below meth c H locs cells slots Q (F0 m (pc + 1) ls (.int (nI n) :: rest))) : W p l e R s m args below meth c H locs cells slots Q (F0 m pc ls (.ref a :: rest)) := by
  obtain ⟨cell, h1, h2, h3, h4, h5, h6⟩ := hU
  exact W.alen hx hb h1 h2 h5 rfl rfl hdg kk
theorem j_cpy {Ts : List Cond} {nL index : Nat} {own : String} (hx : p.tables.exec = Jvm.exec) (hb : c.code = cc) (hml : c.maxLocals = nL) (hown : s.vm.findClass own = some m.cls) (hts : ∀ w ∈ Ts, w.before args s = true)
    (t1 : Cond.methodLink own index arraycopyName ∈ Ts) (t2 : Cond.native arraycopyName ∈ Ts) (t3 : Cond.static arraycopyName ∈ Ts) (t4 : Cond.initialized "java/lang/System" ∈ Ts) (hw : jW g z s H locs)
    {b n n1 : Nat} {f f1 : Nat → Int32} (hU : jU s H b n f) (hI : jI g H a n1 f1) (hza : z ≤ a) {sp dp k : Nat} (h4 : sp + k ≤ n) (h5 : dp + k ≤ n1) (hn : n < 2 ^ 31) (hn1 : n1 < 2 ^ 31)
    (hfr : 1 ≤ R.frames) (hlo : (rest.map fun v => v.category).sum + (nativeFrameWords "java/lang/System" "arraycopy" 5 + 11) ≤ R.locals) (hl : ls.size = nL) (hdg : decode cc pc = .ok (.invokestatic index, 3))
    (kk : ∀ (H1 : Heap) (locs1 : List Loc), jW g z s H1 locs1 → jI g H1 a n1 (va_cpy f f1 sp dp k) → (∀ q : Nat, q ≠ a → H1[q]? = H[q]?) → H1.size = H.size → W p l e R s m args below meth c H1 locs1 cells slots Q (F0 m (pc + 3) ls rest)) : W p l e R s m args below meth c H locs cells slots Q (F0 m pc ls (.int (nI k) :: .int (nI dp) :: .ref a :: .int (nI sp) :: .ref b :: rest)) := by
  intro T hT X
  obtain ⟨cell, h1, ⟨q1, k0, hk0, cm0, hkk0⟩, h3, q4, -, q6⟩ := hU
  have hc1 : H[a]? = some (vp_cell (g.2 0) (n1, .inl f1)) := hI
  obtain ⟨-, k1, hk1, cm1, hkk1⟩ := (hw.1.2 0 _ rfl).1 n1 (fun j => .int (f1 j))
  have es : (nI sp).toNatClampNeg = sp := nI_clamp (by omega)
  have ed : (nI dp).toNatClampNeg = dp := nI_clamp (by omega)
  have ek : (nI k).toNatClampNeg = k := nI_clamp (by omega)
  have is : (nI sp).toInt = (sp : Int) := nI_toInt (by omega)
  have id9 : (nI dp).toInt = (dp : Int) := nI_toInt (by omega)
  have ik : (nI k).toInt = (k : Int) := nI_toInt (by omega)
  obtain ⟨vm', X', step⟩ := X.arraycopy hx hown (hts _ t1) (hts _ t2) (hts _ t3) (hts _ t4) (src := b) (dst := a) (cs := cell) (cd := vp_cell (g.2 0) (n1, .inl f1)) (srcPos := nI sp) (destPos := nI dp) (n := nI k) (by rw [hT]; exact h1) (by rw [hT]; exact hc1)
    q1 (fun _ h => by cases h) h3 (fun h => by cases h) hk0 hk1 hkk0 hkk1 (by simp [refKind]) (nI_pos (by omega)) (nI_pos (by omega)) (nI_pos (by omega))
    (by rw [is, ik]; omega)
    (by rw [id9, ik]; show ¬ _ > ((arrV (g.2 0) n1 (fun j => .int (f1 j))).slots.size : Int); rw [arrV_size]; omega)
    (fun vm₁ _ i hi => by
      rw [ek] at hi
      have e9 : cell.slots.getD ((nI sp).toNatClampNeg + i) .null = .int (f (sp + i)) := by
        rw [es, Array.getD_eq_getD_getElem?, q6 _ (by omega)]
        rfl
      refine ⟨?_, ?_⟩
      · rw [e9]
        rfl
      · rw [e9]
        exact trivial)
    (g := F0 m pc ls (.int (nI k) :: .int (nI dp) :: .ref a :: .int (nI sp) :: .ref b :: rest)) rfl (by rw [hml]; exact hl) (rest := rest) rfl (by rw [hb]; exact hdg) hfr (by show 2 * 0 + _ + _ ≤ _; omega)
  have e1 : copied cell (vp_cell (g.2 0) (n1, .inl f1)) (nI sp) (nI dp) (nI k) = vp_cell (g.2 0) (n1, .inl (va_cpy f f1 (nI sp).toNatClampNeg (nI dp).toNatClampNeg (nI k).toNatClampNeg)) := va_copiedX (fun x => .int x) cell (g.2 0) f f1 q6 (by rw [es, ek]; exact h4)
  rw [es, ed, ek] at e1
  rw [e1] at X' step
  have hl9 : a < H.size := (Array.getElem?_eq_some_iff.mp hc1).1
  have hheap : ((T.setVm vm').setCell a (vp_cell (g.2 0) (n1, .inl (va_cpy f f1 sp dp k)))).heap = H.setIfInBounds a (vp_cell (g.2 0) (n1, .inl (va_cpy f f1 sp dp k))) := by rw [← hT]; rfl
  have oq : ∀ q : Nat, q ≠ a → (H.setIfInBounds a (vp_cell (g.2 0) (n1, .inl (va_cpy f f1 sp dp k))))[q]? = H[q]? := fun q hq => by simp [Array.getElem?_setIfInBounds, Ne.symm hq]
  obtain ⟨t, a1, b1⟩ := kk _ _ ⟨hw.1, hw.2.1, by simp; exact hw.2.2.1, fun q g1 g2 => by
      rw [oq q (fun e => g2 (by rw [e]; exact hza))]
      exact hw.2.2.2.1 q g1 g2, fun q hq => by
      rcases List.mem_append.mp hq with h | h
      · exact hw.2.2.2.2 q h
      · obtain ⟨y, -, hy⟩ := List.mem_map.mp h
        rw [← hy]
        exact hza⟩ (show (H.setIfInBounds a _)[a]? = some _ by simp [Array.getElem?_setIfInBounds, hl9]) oq (by simp) _ hheap X'
  exact ⟨t, step t a1, b1⟩
/-- a reference out of a row -/
theorem j_aaldR (hx : p.tables.exec = Jvm.exec) (hb : c.code = cc) (hw : jW g z s H locs) {n : Nat} {f : Nat → Option Nat} (hI : jR g H a n f) {i : Int32} {k b : Nat} (hi : i = nI k) (hk : k < n) (hn : n < 2 ^ 31) (hf : f k = some b) (hdg : decode cc pc = .ok (.aaload, 1))
    (kk : W p l e R s m args below meth c H locs cells slots Q (F0 m (pc + 1) ls (.ref b :: rest))) : W p l e R s m args below meth c H locs cells slots Q (F0 m pc ls (.int i :: .ref a :: rest)) :=
  j_aald hx hb hw hI hi hk hn hdg (by rw [hf]; exact kk)
/-- constant rows -/
theorem j_gets {n : String} {t index : Nat} (hx : p.tables.exec = Jvm.exec) (hb : c.code = cc) (hw : jW g z s H locs) (hZ : va_Z "NightTrains" n "[I" (.ref t) (jA z) s s.heap) (hown : s.vm.findClass RX4 = some m.cls) (hlink : (Cond.fieldLink RX4 index "NightTrains" n "[I").before args s = true) (hdg : decode cc pc = .ok (.getstatic index, 3))
    (kk : W p l e R s m args below meth c H locs cells slots Q (F0 m (pc + 3) ls (.ref t :: rest))) : W p l e R s m args below meth c H locs cells slots Q (F0 m pc ls rest) :=
  va_gets hx hb hZ hw.2.2 hown hlink (fun _ h => h) hdg kk
theorem j_ti {t n : Nat} {f : Nat → Int32} (hx : p.tables.exec = Jvm.exec) (hb : c.code = cc) (hw : jW g z s H locs) (hT : va_T .int t n (fun j => .int (f j)) (jA z) s s.heap) {i : Int32} {k : Nat} (hi : i = nI k) (hk : k < n) (hn : n < 2 ^ 31) (hdg : decode cc pc = .ok (.iaload, 1))
    (kk : W p l e R s m args below meth c H locs cells slots Q (F0 m (pc + 1) ls (.int (f k) :: rest))) : W p l e R s m args below meth c H locs cells slots Q (F0 m pc ls (.int i :: .ref t :: rest)) := by
  subst hi
  refine va_ti hx hb hT hw.2.2 (vp_in_nI hk hn) (v := .int (f k)) ?_ hdg kk
  rw [nI_clamp (by omega)]
end JW2
