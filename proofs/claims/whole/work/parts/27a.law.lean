/-! The law's body: its rows, and what holds at the head of its loop. -/
theorem MW.kept {g : jG} {H H1 : Heap} {M : Nat} {x0 : Int32} {w : Wd} (h : MW g H M x0 w) (hq : ∀ q : Nat, M ≤ q → q < M + 9 → H1[q]? = H[q]?) : MW g H1 M x0 w := by
  obtain ⟨x3, x4, x5, x14, sn, sc, rd, nw, tr, dy, kp, ik, tk, h0, h1, h2, h3, h4, h5, h6, h7, h8, hM⟩ := h
  exact ⟨x3, x4, x5, x14, sn, sc, rd, nw, tr, dy, kp, ik, tk, h0.kept (hq _ (by omega) (by omega)), h1.kept (hq _ (by omega) (by omega)), h2.kept (hq _ (by omega) (by omega)), h3.kept (hq _ (by omega) (by omega)), h4.kept (hq _ (by omega) (by omega)), h5.kept (hq _ (by omega) (by omega)), h6.kept (hq _ (by omega) (by omega)), h7.kept (hq _ (by omega) (by omega)), h8.kept (hq _ (by omega) (by omega)), hM⟩
theorem MW.rec9 {g : jG} {z : Nat} {s : State} {H : Heap} {locs : List Loc} {M : Nat} {x0 : Int32} {w : Wd} (h : MW g H M x0 w) (hw : jW g z s H locs) : ∃ cell : Cell, H[M]? = some cell ∧ cell.vm.isStatics = false ∧ s.vm.findClass RX5 = some cell.cls := by
  obtain ⟨x3, x4, x5, x14, sn, sc, rd, nw, tr, dy, kp, ik, tk, h0, -⟩ := h
  exact j_recv hw h0 rfl
def LI (g : jG) (z K : Nat) (H : Heap) (w : Wd) : Prop := CW g H z w ∧ (∃ x0, MW g H (z + 223) x0 w) ∧ (∃ fo, jL g H (z + 232) 1 fo) ∧ good K w ∧ z + 233 ≤ H.size
abbrev LL (b z i : Nat) : List (Nat × Value) := [(0, .ref b), (1, .ref z), (2, .ref (z + 223)), (3, .ref (z + 232)), (4, .int (nI i))]
theorem CW.okN {g : jG} {H : Heap} {A : Nat} {w : Wd} (h : CW g H A w) : okN w.2.1 := by
  obtain ⟨τ, Rt, h1, h2, h3, h4, h5, h6, h7⟩ := h
  exact h7
section JLW
variable {p : Program} {l : Launch} {e : Env} {R : Room} {s : State} {m : MethodId} {args : Array Value} {below : List Frame} {meth : Method} {c : Code} {H : Heap} {locs : List Loc} {cells slots : Nat} {Q : State → Prop}
variable {cc : ByteArray} {pc : Nat} {ls : Array Slot} {rest : List Value} {g : jG} {z a : Nat} {H0 : Heap}
theorem j_sc (hx : p.tables.exec = Jvm.exec) (hb : c.code = cc) (hw : jW g z s H locs) {b L : Nat} {xs : Nat → Int32} (hX : va_X b L xs s s.heap) (hbl : b < s.heap.size) (hbz : b < z) (hL : L ≤ 2560) {k : Nat} (hk : k < L) (hdg : decode cc pc = .ok (.iaload, 1))
    (kk : W p l e R s m args below meth c H locs cells slots Q (F0 m (pc + 1) ls (.int (xs k) :: rest))) : W p l e R s m args below meth c H locs cells slots Q (F0 m pc ls (.int (nI k) :: .ref b :: rest)) := by
  refine va_sld hx hb hX hbl (Nat.not_le.mpr hbz) hw.2.2 (vp_in_nI hk (by omega)) hdg ?_
  rw [nI_clamp (by omega)]
  exact kk
theorem j_HS {y : MethodName} {ws ws' Ts : List Cond} {fr lo n nL maxL index : Nat} {own : String} {bytes : ByteArray} {ret : Option FieldType} {hh : List (Nat × Nat × Nat × Nat)} {As : List Value} {P : Int32 → Heap → Prop} (hx : p.tables.exec = Jvm.exec) (hb : c.code = cc) (hml : c.maxLocals = nL) (hown : s.vm.findClass own = some m.cls) (hts : ∀ w ∈ Ts, w.before args s = true) (hw : jW g z s H locs) (hE : jE s)
    (hM : jMH l g z y ws fr lo As H (jN P)) (hG : GoodIn Ts (va_wsS own index y ws)) (hws : ws = Cond.codeWith y bytes maxL ret hh :: ws') (hd : y.cls ≠ "java/lang/invoke/MethodHandle" ∧ y.cls ≠ "java/lang/invoke/VarHandle" ∧ (parseMethodDescriptor y.desc).map (fun d => d.parameters.length) = some n) (hR : fr + 1 ≤ R.frames ∧ 8 + (maxL + 11) + lo ≤ R.locals) (hn : As.length = n) (hl : ls.size = nL)
    (hst : (rest.map fun v => v.category).sum ≤ 8) (hc : cells + 1 ≤ R.cells ∧ slots + 6 ≤ R.slots) (hdg : decode cc pc = .ok (.invokestatic index, 3))
    (kk : ∀ (r : Int32) (H1 : Heap) (locs1 : List Loc), P r H1 → jW g z s H1 locs1 → W p l e R s m args below meth c H1 locs1 (cells + 1) (slots + 6) Q (F0 m (pc + 3) ls (.int r :: rest))) {st0 : List Value} (hst0 : st0 = As.reverse ++ rest) : W p l e R s m args below meth c H locs cells slots Q (F0 m pc ls st0) := by
  subst hst0
  refine j_runA (mc := 1) (ms := 6) (av := As) (post' := jN P) (vx_runSW (As := As) (rest := rest) ⟨hx, hb, hml, hown, hts⟩ hM (vx_cwSW n hts hG hws rfl rfl hd hR) ⟨jPcX.blind, fun U hU hW => ⟨rfl, hU, hw.B hW hU, hE.go hW⟩⟩ rfl hn hl rfl (lv_room hst) hdg hc) hw (fun v H1 locs1 hp hw1 _ => ?_)
  obtain ⟨r, rfl, hr⟩ := hp
  exact kk r H1 locs1 hr hw1
end JLW
theorem and31 (x : Int32) : ∃ k : Nat, k < 32 ∧ x &&& 31 = nI k := by
  refine ⟨x.toBitVec.toNat &&& 31, Nat.lt_succ_of_le Nat.and_le_right, ?_⟩
  apply Int32.toBitVec_inj.mp
  apply BitVec.eq_of_toNat_eq
  show (x.toBitVec &&& 31#32).toNat = (BitVec.ofNat 32 (x.toBitVec.toNat &&& 31)).toNat
  have h : x.toBitVec.toNat &&& 31 ≤ 31 := Nat.and_le_right
  have h2 : (BitVec.ofNat 32 (x.toBitVec.toNat &&& 31)).toNat = x.toBitVec.toNat &&& 31 := by rw [BitVec.toNat_ofNat, Nat.mod_eq_of_lt (by omega)]
  rw [h2, BitVec.toNat_and]
  rfl
theorem hd_le {i L : Nat} (hL : L ≤ 2560) (hi : i ≤ 3000) (h : ¬ (nI L - nI 5 : Int32) < nI i) : i + 5 ≤ L := by
  rw [Int32.lt_iff_toInt_lt, pk_sub_toInt (by omega) (by omega), nI_toInt (by omega)] at h
  omega
