/-! Constructors: methods that make cells. -/
def jPcA (g : jG) (z : Nat) (av : List Value) (H0 : Heap) : Array Value → State → Prop := fun v U => v = av.toArray ∧ U.heap = H0 ∧ jB g z U ∧ va_AO RX2 U
theorem jPcA.blind {g : jG} {z : Nat} {av : List Value} {H0 : Heap} : FrameBlind (jPcA g z av H0) := fun a U f mk q => by
  obtain ⟨h1, h2, h3, h4⟩ := q
  obtain ⟨k1, k2, k3⟩ := jPc.blind (g := g) (z := z) (av := av) (H0 := H0) a U f mk ⟨h1, h2, h3⟩
  exact ⟨k1, k2, k3, va_AO.moved (u := U) (U := U.calling f mk a) (Vm.Alike.refl U.vm) h4⟩
abbrev jMA (l : Launch) (g : jG) (z : Nat) (y : MethodName) (ws : List Cond) (fr ce sl lo : Nat) (av : List Value) (H0 : Heap) (post : Option Value → Heap → Prop) : Prop :=
  Met l y ws { frames := fr, cells := ce, slots := sl, locals := lo } (jPcA g z av H0) (jQ z H0 post) ce sl (jA z)
theorem j_ofA {l : Launch} {g : jG} {z : Nat} {y : MethodName} {ws ws' : List Cond} {fr ce sl lo : Nat} {av : List Value} {H0 : Heap} {post : Option Value → Heap → Prop} {cc : ByteArray} {n : Nat} {ret : Option FieldType}
    (hy : plainName y.cls = true) (hw : ws = Cond.code y cc n ret :: ws') (hn : (lg_sl av).length ≤ n)
    (body : ∀ p e s m below meth c, p.tables.exec = Jvm.exec → c.code = cc → meth.sig.returnType = ret → c.maxLocals = n → s.vm.findClass y.cls = some m.cls → (∀ w ∈ ws, w.before av.toArray s = true) → meth.locks = false → (meth.name = y.name) → s.heap = H0 → jW g z s H0 [] → va_AO RX2 s →
      ∀ ls, lv_has ls n (lv_args 0 av) → W p l e { frames := fr, cells := ce, slots := sl, locals := lo } s m av.toArray below meth c H0 [] 0 0 (MQ below (jQ z H0 post) av.toArray s ce sl (jA z)) (F0 m 0 ls [])) :
    jMA l g z y ws fr ce sl lo av H0 post := by
  refine Met.ofW (cc := cc) (maxL := n) (ret := ret) hy hw ?_
  intro p e s m args below meth c s₁ B hml hv
  obtain ⟨rfl, hH, ⟨hK, hT⟩, hA⟩ := hv
  have hts := atoms_spec (ws := ws) B.pre
  have hl := lv_entry av (n := n) hn
  rw [lg_entry_eq]
  generalize (lg_sl av ++ List.replicate (n - (lg_sl av).length) Slot.unset).toArray = ls at hl ⊢
  rw [hH]
  exact body p e s m below meth c B.exec B.bytes B.returns hml (findClass_of_methodNamed B.named) hts B.notSynchronized (name_of_methodNamed B.named B.method).1 hH ⟨hK, hT, by rw [hH]; exact va_S.rf⟩ hA ls hl
/-- born: cells from a on, n of them; what lay below a lies there still -/
def jB9 (a n : Nat) (H0 H : Heap) : Prop := H.size = a + n ∧ ∀ q : Nat, q < a → H[q]? = H0[q]?
theorem jB9.rf {a n : Nat} {H : Heap} (h : H.size = a + n) : jB9 a n H H := ⟨h, fun _ _ => rfl⟩
theorem jB9.put {a n b : Nat} {H0 H H1 : Heap} (h : jB9 a n H0 H) (oq : ∀ q : Nat, q ≠ b → H1[q]? = H[q]?) (hs : H1.size = H.size) (hb : a ≤ b) : jB9 a n H0 H1 := ⟨by rw [hs, h.1], fun q hq => by rw [oq q (by omega)]; exact h.2 q hq⟩
theorem jB9.new {a n k : Nat} {H0 H H1 : Heap} (h : jB9 a n H0 H) (o1 : ∀ q : Nat, q < a + n → H1[q]? = H[q]?) (hs : H1.size = a + n + k) : jB9 a (n + k) H0 H1 := ⟨by omega, fun q hq => by rw [o1 q (by omega)]; exact h.2 q hq⟩
section JMK
variable {p : Program} {l : Launch} {e : Env} {R : Room} {s : State} {m : MethodId} {args : Array Value} {below : List Frame} {meth : Method} {c : Code} {H : Heap} {locs : List Loc} {cells slots : Nat} {Q : State → Prop}
variable {cc : ByteArray} {pc : Nat} {ls : Array Slot} {rest : List Value} {g : jG} {z a : Nat} {H0 : Heap} {post : Option Value → Heap → Prop}
theorem j_cs {c1 s1 : Nat} (hc : cells = c1) (hs : slots = s1) {f : JFrame} (k : W p l e R s m args below meth c H locs c1 s1 Q f) : W p l e R s m args below meth c H locs cells slots Q f := by subst hc; subst hs; exact k
theorem jW.push {H1 : Heap} (hw : jW g z s H locs) (hz : z ≤ s.heap.size) (hs : H.size ≤ H1.size) (o1 : ∀ q : Nat, q < H.size → H1[q]? = H[q]?) : jW g z s H1 locs :=
  ⟨hw.1, hw.2.1, Nat.le_trans hw.2.2.1 hs, fun x h1 h2 => (o1 x (Nat.lt_of_lt_of_le h1 hw.2.2.1)).trans (hw.2.2.2.1 x h1 h2), hw.2.2.2.2⟩
theorem j_oi {own : String} {idx : Nat} (hx : p.tables.exec = Jvm.exec) (hb : c.code = cc) {nL : Nat} (hml : c.maxLocals = nL) (hown : s.vm.findClass own = some m.cls) (h1 : (Cond.methodLink own idx objectInit).before args s = true) (h2 : (Cond.instanceMethod objectInit).before args s = true) (h3 : (Cond.code objectInit ⟨#[0xb1]⟩ 1 none).before args s = true)
    (hl : ls.size = nL) (hdg : decode cc pc = .ok (.invokespecial idx, 3)) (hfr : 1 ≤ R.frames) (hlo : 20 ≤ R.locals) (hst : (rest.map fun v => v.category).sum = 0)
    (k : W p l e R s m args below meth c H locs cells slots Q (F0 m (pc + 3) ls rest)) : W p l e R s m args below meth c H locs cells slots Q (F0 m pc ls (.ref a :: rest)) :=
  W.objInit hx hb hown h1 h2 h3 rfl (hl.trans hml.symm) rfl hdg hfr (by have : 2 * (F0 m pc ls (.ref a :: rest)).monitorRoom + (rest.map fun v => v.category).sum ≤ 8 := lv_room (by omega); omega) k
theorem j_new {own C : String} {T : u_T} {N ci index h : Nat} {Ts : List Cond} (hx : p.tables.exec = Jvm.exec) (hb : c.code = cc) (hts : ∀ w ∈ Ts, w.before args s = true) (hin : ∀ w ∈ u_ws C T N, w ∈ Ts) (ty : Nat → FieldType) (hty : ∀ k, k < N → parseFieldDescriptor (T k).2.2.1 = some (ty k)) (hown : s.vm.findClass own = some m.cls) (hcl : (Cond.classLink own index C).before args s = true) (hinst : (Cond.instantiable C N).before args s = true) (hini : (Cond.initialized C).before args s = true)
    (hw : jW g z s H locs) (hz : z ≤ s.heap.size) (hc : vwCl[ci]? = some (C, T, N)) {fs : List Value} (hfs : ∀ j, j < N → defaultValue (ty j) = vp_V fs j) (hh : H.size = h) (hcells : cells + 1 ≤ R.cells) (hslots : slots + N ≤ R.slots) (hdg : decode cc pc = .ok (.new index, 3))
    (kk : ∀ H1 : Heap, jW g z s H1 locs → jO g H1 h ci fs → (∀ q : Nat, q < h → H1[q]? = H[q]?) → H1.size = h + 1 → W p l e R s m args below meth c H1 locs (cells + 1) (slots + N) Q (F0 m (pc + 3) ls (.ref h :: rest))) : W p l e R s m args below meth c H locs cells slots Q (F0 m pc ls rest) := by
  have hKn := hw.1.1 ci _ hc
  refine W.newcK hx hb hown hcl hinst hini rfl hdg hcells hslots hKn.2.1 hh fun H1 kC hkC e1 z1 o1 => ?_
  exact kk H1 (hw.push hz (by omega) (fun q hq => o1 q (by omega))) ⟨_, hc, (u_born ty hts hin hKn hkC e1 hty).to hfs⟩ o1 z1
theorem j_newa {atype : ArrayType} (hx : p.tables.exec = Jvm.exec) (hb : c.code = cc) (harr : (Cond.arrayClass (newarray.typeOf atype)).before args s = true) (hw : jW g z s H locs) (hz : z ≤ s.heap.size) {n h : Nat} (hn : n < 100000000) (hby : n * componentBytes (newarray.typeOf atype) ≤ 536870912) (hh : H.size = h) (hcells : cells + 1 ≤ R.cells) (hslots : slots + n ≤ R.slots) (hdg : decode cc pc = .ok (.newarray atype, 2))
    {cB : ClassId} (hB : s.vm.findClass ("[" ++ (newarray.typeOf atype).toString) = some cB)
    (kk : ∀ H1 : Heap, jW g z s H1 locs → H1[h]? = some (arrV cB n (fun _ => defaultValue (newarray.typeOf atype))) → (∀ q : Nat, q < h → H1[q]? = H[q]?) → H1.size = h + 1 → W p l e R s m args below meth c H1 locs (cells + 1) (slots + n) Q (F0 m (pc + 2) ls (.ref h :: rest))) : W p l e R s m args below meth c H locs cells slots Q (F0 m pc ls (.int (nI n) :: rest)) := by
  refine va_newaK hx hb harr rfl hdg rfl (fun q => vp_in_nI (n := n) (N := n + 1) (by omega) (by omega) (Or.inl q)) (nI_clamp (by omega)) hby hcells hslots hh fun H1 cA e1 z1 o1 _ hNm => ?_
  have e : cA = cB := Option.some.inj (hNm.symm.trans hB)
  subst e
  exact kk H1 (hw.push hz (by omega) (fun q hq => o1 q (by omega))) e1 o1 z1
theorem j_newI (hx : p.tables.exec = Jvm.exec) (hb : c.code = cc) (harr : (Cond.arrayClass .int).before args s = true) (hw : jW g z s H locs) (hz : z ≤ s.heap.size) {n h : Nat} (hn : n < 100000) (hh : H.size = h) (hcells : cells + 1 ≤ R.cells) (hslots : slots + n ≤ R.slots) (hdg : decode cc pc = .ok (.newarray .int, 2))
    (kk : ∀ H1 : Heap, jW g z s H1 locs → jI g H1 h n (fun _ => nI 0) → (∀ q : Nat, q < h → H1[q]? = H[q]?) → H1.size = h + 1 → W p l e R s m args below meth c H1 locs (cells + 1) (slots + n) Q (F0 m (pc + 2) ls (.ref h :: rest))) : W p l e R s m args below meth c H locs cells slots Q (F0 m pc ls (.int (nI n) :: rest)) :=
  j_newa (atype := .int) hx hb harr hw hz (by omega) (by show n * 4 ≤ _; omega) hh hcells hslots hdg (hw.1.2 0 _ rfl).2 fun H1 h1 h2 h3 h4 => kk H1 h1 (by show H1[h]? = some (vp_cell _ _); rw [h2, vp_cell_i]; rfl) h3 h4
theorem j_newC (hx : p.tables.exec = Jvm.exec) (hb : c.code = cc) (harr : (Cond.arrayClass .char).before args s = true) (hw : jW g z s H locs) (hz : z ≤ s.heap.size) {n h : Nat} (hn : n < 100000) (hh : H.size = h) (hcells : cells + 1 ≤ R.cells) (hslots : slots + n ≤ R.slots) (hdg : decode cc pc = .ok (.newarray .char, 2))
    (kk : ∀ H1 : Heap, jW g z s H1 locs → jC g H1 h n (fun _ => nI 0) → (∀ q : Nat, q < h → H1[q]? = H[q]?) → H1.size = h + 1 → W p l e R s m args below meth c H1 locs (cells + 1) (slots + n) Q (F0 m (pc + 2) ls (.ref h :: rest))) : W p l e R s m args below meth c H locs cells slots Q (F0 m pc ls (.int (nI n) :: rest)) :=
  j_newa (atype := .char) hx hb harr hw hz (by omega) (by show n * 2 ≤ _; omega) hh hcells hslots hdg (hw.1.2 1 _ rfl).2 fun H1 h1 h2 h3 h4 => kk H1 h1 (by show H1[h]? = some (vp_cell _ _); rw [h2, vp_cell_i]; rfl) h3 h4
theorem j_newZ (hx : p.tables.exec = Jvm.exec) (hb : c.code = cc) (harr : (Cond.arrayClass .boolean).before args s = true) (hw : jW g z s H locs) (hz : z ≤ s.heap.size) {n h : Nat} (hn : n < 100000) (hh : H.size = h) (hcells : cells + 1 ≤ R.cells) (hslots : slots + n ≤ R.slots) (hdg : decode cc pc = .ok (.newarray .boolean, 2))
    (kk : ∀ H1 : Heap, jW g z s H1 locs → jZ g H1 h n (fun _ => nI 0) → (∀ q : Nat, q < h → H1[q]? = H[q]?) → H1.size = h + 1 → W p l e R s m args below meth c H1 locs (cells + 1) (slots + n) Q (F0 m (pc + 2) ls (.ref h :: rest))) : W p l e R s m args below meth c H locs cells slots Q (F0 m pc ls (.int (nI n) :: rest)) :=
  j_newa (atype := .boolean) hx hb harr hw hz (by omega) (by show n * 1 ≤ _; omega) hh hcells hslots hdg (hw.1.2 2 _ rfl).2 fun H1 h1 h2 h3 h4 => kk H1 h1 (by show H1[h]? = some (vp_cell _ _); rw [h2, vp_cell_i]; rfl) h3 h4
theorem j_newL (hx : p.tables.exec = Jvm.exec) (hb : c.code = cc) (harr : (Cond.arrayClass .long).before args s = true) (hw : jW g z s H locs) (hz : z ≤ s.heap.size) {n h : Nat} (hn : n < 100000) (hh : H.size = h) (hcells : cells + 1 ≤ R.cells) (hslots : slots + n ≤ R.slots) (hdg : decode cc pc = .ok (.newarray .long, 2))
    (kk : ∀ H1 : Heap, jW g z s H1 locs → jL g H1 h n (fun _ => 0) → (∀ q : Nat, q < h → H1[q]? = H[q]?) → H1.size = h + 1 → W p l e R s m args below meth c H1 locs (cells + 1) (slots + n) Q (F0 m (pc + 2) ls (.ref h :: rest))) : W p l e R s m args below meth c H locs cells slots Q (F0 m pc ls (.int (nI n) :: rest)) :=
  j_newa (atype := .long) hx hb harr hw hz (by omega) (by show n * 8 ≤ _; omega) hh hcells hslots hdg (hw.1.2 4 _ rfl).2 fun H1 h1 h2 h3 h4 => kk H1 h1 (by show H1[h]? = some (vp_cell _ _); rw [h2, vp_cell_l]; rfl) h3 h4
theorem j_newR {own : String} {index : Nat} (hx : p.tables.exec = Jvm.exec) (hb : c.code = cc) (hown : s.vm.findClass own = some m.cls) (hcl : (Cond.classLink own index RX2).before args s = true) (hAO : va_AO RX2 s) (hw : jW g z s H locs) (hz : z ≤ s.heap.size) {n h : Nat} (hn : n < 100000) (hh : H.size = h) (hcells : cells + 1 ≤ R.cells) (hslots : slots + n ≤ R.slots) (hdg : decode cc pc = .ok (.anewarray index, 3))
    (kk : ∀ H1 : Heap, jW g z s H1 locs → jR g H1 h n (fun _ => none) → (∀ q : Nat, q < h → H1[q]? = H[q]?) → H1.size = h + 1 → W p l e R s m args below meth c H1 locs (cells + 1) (slots + n) Q (F0 m (pc + 3) ls (.ref h :: rest))) : W p l e R s m args below meth c H locs cells slots Q (F0 m pc ls (.int (nI n) :: rest)) := by
  subst hh
  have hN : (nI n).toNatClampNeg = n := nI_clamp (by omega)
  refine W.anew hx hb hown hcl (va_AO.use hAO) rfl hdg rfl (fun q => vp_in_nI (n := n) (N := n + 1) (by omega) (by omega) (Or.inl q)) (by rw [hN]; omega) hcells (by rw [hN]; exact hslots) fun cA kA comp f1 f2 f3 f4 => ?_
  obtain ⟨kB, compB, -, -, -, f5⟩ := (hw.1.2 3 _ rfl).2
  have e : cA = g.2 3 := Option.some.inj (f1.symm.trans f5)
  subst e
  rw [hN]
  generalize hH1 : H.push ({ cls := g.2 3, slots := Array.replicate n .null, vm := .none } : Cell) = H1
  have z1 : H1.size = H.size + 1 := by rw [← hH1, Array.size_push]
  have e1 : H1[H.size]? = some (arrV (g.2 3) n (fun _ => .null)) := by rw [← hH1, Array.getElem?_push_size, ← arrV_new]
  have o1 : ∀ q : Nat, q < H.size → H1[q]? = H[q]? := fun q hq => by rw [← hH1, Array.getElem?_push, if_neg (Nat.ne_of_lt hq)]
  exact kk H1 (hw.push hz (by omega) o1) (by show H1[H.size]? = some (vp_cell _ _); rw [e1, vp_cell_q]; rfl) o1 z1
theorem j_putF {ci index N k : Nat} {own C : String} {T : u_T} {Ts : List Cond} {fs : List Value} {v : Value} (hx : p.tables.exec = Jvm.exec) (hb : c.code = cc) (hts : ∀ w ∈ Ts, w.before args s = true) (hin : ∀ w ∈ u_ws C T N, w ∈ Ts) (ty0 : Nat → FieldType) (hty : ∀ k, k < N → parseFieldDescriptor (T k).2.2.1 = some (ty0 k)) (hnm : ∀ a, a < N → ∀ b, b < N → a ≠ b → (T a).2.1 ≠ (T b).2.1) (hown : s.vm.findClass own = some m.cls) (hin2 : meth.name = "<init>") (hw : jW g z s H locs) (hO : jO g H a ci fs) (hza : z ≤ a) (hc : vwCl[ci]? = some (C, T, N)) (hk : k < N) (hlink : (Cond.fieldLink own index (T k).1 (T k).2.1 (T k).2.2.1).before args s = true) (hfin : (T k).2.2.2 = true) (hdecl : (T k).1 = own) {ty : FieldType} (hd : parseFieldDescriptor (T k).2.2.1 = some ty) (hn : narrow ty v = v) (hfit : fits ty v = true) (hl : k < fs.length) (hdg : decode cc pc = .ok (.putfield index, 3))
    (kk : ∀ (H1 : Heap) (locs1 : List Loc), jW g z s H1 locs1 → jO g H1 a ci (fs.set k v) → (∀ q : Nat, q ≠ a → H1[q]? = H[q]?) → H1.size = H.size → W p l e R s m args below meth c H1 locs1 cells slots Q (F0 m (pc + 3) ls rest)) : W p l e R s m args below meth c H locs cells slots Q (F0 m pc ls (v :: .ref a :: rest)) := by
  have hK := hw.1
  have hap := va_apart (own := own) hts hin ty0 hty hnm hK hc
  obtain ⟨r, h1, cell, q1, q2, q3, q4⟩ := id hO
  have hr : r = (C, T, N) := Option.some.inj (h1.symm.trans hc)
  subst hr
  obtain ⟨hS, hfc, kC, hkC, hkind⟩ := hK.1 ci _ hc
  obtain ⟨cf, kf, fi, f, hi, hsl⟩ := hS k hk
  have hlay := hts _ (hin _ (u_in_lay hk))
  unfold u_lay at hlay
  rw [if_pos hfin] at hlay
  have hst := (u_facts hfc hkC (u_lays hts hin hk) hi).1
  have hcf : m.cls = cf := by
    obtain ⟨_, _, c', _, _, _, -, -, hf', -, -, -, hown2, -⟩ := Cond.laysFinal_spec hlay
    have e1 : c' = cf := by have := hi.symm.trans hf'; simp at this; exact this.1.symm
    rw [hdecl] at hown2
    rw [← e1]; exact Option.some.inj (hown.symm.trans hown2)
  have h6 := u_fits hfc hkC hkind (Or.inr hlay) hi hd hn hfit
  refine W.putFinK hx hb hown hlink hi hst hcf hin2 (by rw [q2]; exact h6) q1 q3 (by rw [hsl]; exact k2_hasslot (q4 k hk)) rfl rfl hdg fun H' e1 e2 e3 => ?_
  rw [hsl] at e1 ⊢
  exact kk H' _ (hw.put e2 e3 hza) ⟨_, hc, t_OB.to (V := updV (vp_V fs) k v) ⟨_, e1, q2, q3, t_set q4 hap hk v⟩ (fun j _ => vp_updV_set hl v j)⟩ e3 e2
theorem j_astR {n v : Nat} {f : Nat → Option Nat} {vs : List Value} (hx : p.tables.exec = Jvm.exec) (hb : c.code = cc) (hw : jW g z s H locs) (hR : jR g H a n f) (hza : z ≤ a) (hV : jO g H v 2 vs) {k : Nat} (hk : k < n) (hn : n < 2 ^ 31) (hdg : decode cc pc = .ok (.aastore, 1))
    (kk : ∀ (H1 : Heap) (locs1 : List Loc), jW g z s H1 locs1 → jR g H1 a n (va_up f k (some v)) → (∀ q : Nat, q ≠ a → H1[q]? = H[q]?) → H1.size = H.size → W p l e R s m args below meth c H1 locs1 cells slots Q (F0 m (pc + 1) ls rest)) : W p l e R s m args below meth c H locs cells slots Q (F0 m pc ls (.ref v :: .int (nI k) :: .ref a :: rest)) := by
  have hin : vp_in (nI k) n := vp_in_nI hk hn
  have hcl : (nI k).toNatClampNeg = k := nI_clamp (by omega)
  obtain ⟨r', hr', cellV, g1, g2, g3, -⟩ := id hV
  have hcls := (hw.1.1 2 (RX2, TX2, 9) rfl).2
  obtain ⟨kA, comp, k1, k2, k3, -⟩ := (hw.1.2 3 _ rfl).2
  have hcomp : comp = g.1.1 2 := Option.some.inj (k3.symm.trans hcls.1)
  subst hcomp
  obtain ⟨kC, hkC, -⟩ := hcls.2
  have hlt : (nI k).toNatClampNeg < n := by rw [hcl]; exact hk
  refine W.aast hx hb (cell := vp_cell (g.2 3) (n, .inr (.inr (.inr (.inr f))))) hR (fun q h => by cases h) (fun h => by cases h) k1 k2 rfl hkC ⟨fun q => hin (Or.inl q), by show _ < (arrV _ _ _).slots.size; rw [arrV_size]; exact hlt⟩ g1 (fun q h => by rw [g3] at h; cases h) (by rw [g2]; exact hkC) (by rw [g2]; exact va_assign hcls) rfl rfl hdg fun H1 e zz oq => ?_
  rw [hcl] at e ⊢
  refine kk H1 _ (hw.put zz oq hza) ?_ oq zz
  show H1[a]? = some (vp_cell _ _)
  rw [e, vp_cell_q, vp_cell_q, arrV_store]
  congr 2
  funext q
  by_cases hq : q = k
  · subst hq
    simp [updV, va_up, va_rf]
  · simp [updV, va_up, hq]
theorem j_runA {mc ms : Nat} {post' : Option Value → Heap → Prop} {av : List Value} {a' : Array Value} {st0 : List Value} (hr : va_Run p l e R s m args below meth c H locs cells slots mc ms (F0 m pc ls st0) rest (jQ z H post' a') (jA z)) (hw : jW g z s H locs)
    (kk : ∀ (v : Option Value) (H1 : Heap) (locs1 : List Loc), post' v H1 → jW g z s H1 locs1 → H.size ≤ H1.size → W p l e R s m args below meth c H1 locs1 (cells + mc) (slots + ms) Q (F0 m (pc + 3) ls (v.toList ++ rest))) : W p l e R s m args below meth c H locs cells slots Q (F0 m pc ls st0) := by
  intro T hT X
  obtain ⟨v, st₀, t, T', L, h0, X', hL, e1, e2, ⟨v', hv, hp, hz, hk⟩, st⟩ := hr T hT X
  cases hv
  have hw1 : jW g z s T'.heap (locs ++ L) := ⟨hw.1, hw.2.1, Nat.le_trans hw.2.2.1 (by rw [e1]; exact hz), fun q h1 h2 => by rw [e1, hk q (Nat.lt_of_lt_of_le h1 hw.2.2.1) (Nat.not_le.mp h2)]; exact hw.2.2.2.1 q h1 h2, fun q hq => by
      rcases List.mem_append.mp hq with h | h
      · exact hw.2.2.2.2 q h
      · exact hL q h⟩
  obtain ⟨t2, a1, b1⟩ := kk v T'.heap (locs ++ L) (by rw [e1]; exact hp) hw1 (by rw [e1]; exact hz) T' rfl X'
  exact ⟨t2, st t2 a1, b1⟩
/-- a constructor is called -/
theorem j_IA {y : MethodName} {ws ws' Ts : List Cond} {fr ce sl lo nL maxL index : Nat} {own : String} {bytes : ByteArray} {P : Heap → Prop} (hx : p.tables.exec = Jvm.exec) (hb : c.code = cc) (hml : c.maxLocals = nL) (hown : s.vm.findClass own = some m.cls) (hts : ∀ w ∈ Ts, w.before args s = true) (hw : jW g z s H locs) (hAO : va_AO RX2 s)
    (hM : jMA l g z y ws fr ce sl lo [.ref a] H (jV P)) (hG : GoodIn Ts ws) (hws : ws = Cond.code y bytes maxL none :: ws') (hini : Cond.initialized y.cls ∈ Ts) (hlk : Cond.methodLink own index y ∈ Ts) (hinm : Cond.instanceMethod y ∈ Ts) (hy1 : y.name = "<init>") (hd : y.cls ≠ "java/lang/invoke/MethodHandle" ∧ y.cls ≠ "java/lang/invoke/VarHandle" ∧ (parseMethodDescriptor y.desc).map (fun d => d.parameters.length) = some 0) (hR : fr + 1 ≤ R.frames ∧ 8 + (maxL + 11) + lo ≤ R.locals) (hl : ls.size = nL)
    (hst : (rest.map fun v => v.category).sum ≤ 8) (hc : cells + ce ≤ R.cells ∧ slots + sl ≤ R.slots) (hdg : decode cc pc = .ok (.invokespecial index, 3))
    (kk : ∀ (H1 : Heap) (locs1 : List Loc), P H1 → jW g z s H1 locs1 → W p l e R s m args below meth c H1 locs1 (cells + ce) (slots + sl) Q (F0 m (pc + 3) ls rest)) : W p l e R s m args below meth c H locs cells slots Q (F0 m pc ls (.ref a :: rest)) :=
  j_runA (av := [.ref a]) (va_runI (As := []) (rest := rest) ⟨hx, hb, hml, hown, hts⟩ hM (cwI 0 hts hG hws rfl rfl (hts _ hini) (hts _ hlk) (hts _ hinm) hy1 hd hR) ⟨jPcA.blind, fun U hU hW => ⟨rfl, hU, hw.B hW hU, va_AO.moved hW.alike hAO⟩⟩ rfl rfl hl rfl (lv_room hst) hdg hc) hw (fun v H1 locs1 hp hw1 _ => by
    obtain ⟨rfl, hr⟩ := hp
    exact kk H1 locs1 hr hw1)
theorem j_IAn {y : MethodName} {ws ws' Ts : List Cond} {fr ce sl lo nL maxL index : Nat} {own host : String} {bytes : ByteArray} {P : Heap → Prop} (hx : p.tables.exec = Jvm.exec) (hb : c.code = cc) (hml : c.maxLocals = nL) (hown : s.vm.findClass own = some m.cls) (hts : ∀ w ∈ Ts, w.before args s = true) (hw : jW g z s H locs) (hAO : va_AO RX2 s)
    (hM : jMA l g z y ws fr ce sl lo [.ref a] H (jV P)) (hG : GoodIn Ts ws) (hws : ws = Cond.code y bytes maxL none :: ws') (hini : Cond.initialized y.cls ∈ Ts) (hlk : (own, index, y, host) ∈ jNm) (hinm : Cond.instanceMethod y ∈ Ts) (hy1 : y.name = "<init>") (hd : y.cls ≠ "java/lang/invoke/MethodHandle" ∧ y.cls ≠ "java/lang/invoke/VarHandle" ∧ (parseMethodDescriptor y.desc).map (fun d => d.parameters.length) = some 0) (hR : fr + 1 ≤ R.frames ∧ 8 + (maxL + 11) + lo ≤ R.locals) (hl : ls.size = nL)
    (hst : (rest.map fun v => v.category).sum ≤ 8) (hc : cells + ce ≤ R.cells ∧ slots + sl ≤ R.slots) (hdg : decode cc pc = .ok (.invokespecial index, 3))
    (kk : ∀ (H1 : Heap) (locs1 : List Loc), P H1 → jW g z s H1 locs1 → W p l e R s m args below meth c H1 locs1 (cells + ce) (slots + sl) Q (F0 m (pc + 3) ls rest)) : W p l e R s m args below meth c H locs cells slots Q (F0 m pc ls (.ref a :: rest)) :=
  j_runA (av := [.ref a]) (va_runIN (As := []) (rest := rest) ⟨hx, hb, hml, hown, hts⟩ hM ⟨va_cnB 0 hts hG hws rfl rfl (hw.2.1.2.2.2.2.1 _ hlk) (hts _ hini) hd hR, hy1, hts _ hinm⟩ ⟨jPcA.blind, fun U hU hW => ⟨rfl, hU, hw.B hW hU, va_AO.moved hW.alike hAO⟩⟩ rfl rfl hl rfl (lv_room hst) hdg hc) hw (fun v H1 locs1 hp hw1 _ => by
    obtain ⟨rfl, hr⟩ := hp
    exact kk H1 locs1 hr hw1)
end JMK
theorem dfX0 : ∀ j, j < 3 → defaultValue (tyX0 j) = vp_V [.null, .int (nI 0), .int (nI 0)] j := by
  intro j hj
  have hw9 : j = 0 ∨ j = 1 ∨ j = 2 := by omega
  rcases hw9 with rfl | rfl | rfl <;> rfl
theorem dfX1 : ∀ j, j < 2 → defaultValue (tyX1 j) = vp_V [.null, .int (nI 0)] j := by
  intro j hj
  have hw9 : j = 0 ∨ j = 1 := by omega
  rcases hw9 with rfl | rfl <;> rfl
theorem dfX2 : ∀ j, j < 9 → defaultValue (tyX2 j) = vp_V [.null, .null, .null, .null, .null, .null, .null, .null, .null] j := by
  intro j hj
  have hw9 : j = 0 ∨ j = 1 ∨ j = 2 ∨ j = 3 ∨ j = 4 ∨ j = 5 ∨ j = 6 ∨ j = 7 ∨ j = 8 := by omega
  rcases hw9 with rfl | rfl | rfl | rfl | rfl | rfl | rfl | rfl | rfl <;> rfl
theorem dfX3 : ∀ j, j < 2 → defaultValue (tyX3 j) = vp_V [.null, .int (nI 0)] j := by
  intro j hj
  have hw9 : j = 0 ∨ j = 1 := by omega
  rcases hw9 with rfl | rfl <;> rfl
theorem dfX4 : ∀ j, j < 6 → defaultValue (tyX4 j) = vp_V [.null, .null, .null, .null, .null, .null] j := by
  intro j hj
  have hw9 : j = 0 ∨ j = 1 ∨ j = 2 ∨ j = 3 ∨ j = 4 ∨ j = 5 := by omega
  rcases hw9 with rfl | rfl | rfl | rfl | rfl | rfl <;> rfl
theorem dfX5 : ∀ j, j < 16 → defaultValue (tyX5 j) = vp_V [.int (nI 0), .null, .int (nI 0), .int (nI 0), .int (nI 0), .int (nI 0), .null, .null, .null, .null, .int (nI 0), .null, .null, .null, .int (nI 0), .int (nI 0)] j := by
  intro j hj
  have hw9 : j = 0 ∨ j = 1 ∨ j = 2 ∨ j = 3 ∨ j = 4 ∨ j = 5 ∨ j = 6 ∨ j = 7 ∨ j = 8 ∨ j = 9 ∨ j = 10 ∨ j = 11 ∨ j = 12 ∨ j = 13 ∨ j = 14 ∨ j = 15 := by omega
  rcases hw9 with rfl | rfl | rfl | rfl | rfl | rfl | rfl | rfl | rfl | rfl | rfl | rfl | rfl | rfl | rfl | rfl <;> rfl
/-- stores in a row, twelve cells each -/
def jStk (g : jG) (H : Heap) (a k : Nat) : Prop := ∀ i, i < k → jSo g H (a + 12 * i) S0 (opnR S0)
theorem jStk.kept {g : jG} {H H1 : Heap} {a k : Nat} (h : jStk g H a k) (hq : ∀ q : Nat, a ≤ q → q < a + 12 * k → H1[q]? = H[q]?) : jStk g H1 a k := fun i hi => (h i hi).kept (fun q _ _ => hq q (by omega) (by omega))
theorem jStk.add {g : jG} {H : Heap} {a k b : Nat} (h : jStk g H a k) (hb : b = a + 12 * k) (h2 : jSo g H b S0 (opnR S0)) : jStk g H a (k + 1) := fun i hi => by
  by_cases q : i = k
  · subst q; rw [← hb]; exact h2
  · exact h i (by omega)
theorem jStk.nil {g : jG} {H : Heap} {a : Nat} : jStk g H a 0 := fun i hi => absurd hi (Nat.not_lt_zero _)
theorem jR.ext {g : jG} {H : Heap} {a n : Nat} {f f' : Nat → Option Nat} (h : jR g H a n f) (hf : ∀ j, j < n → f' j = f j) : jR g H a n f' := by
  show H[a]? = some (vp_cell _ _)
  have h' : H[a]? = some (vp_cell (g.2 3) (n, .inr (.inr (.inr (.inr f))))) := h
  rw [h', vp_cell_q, vp_cell_q]
  unfold arrV
  congr 2
  apply congrArg
  funext j
  show va_rf (f j.val) = va_rf (f' j.val)
  rw [hf j.val j.isLt]
theorem Sto_any : Sto (fun _ => nI 0) (fun _ => nI 0) (fun _ => nI 0) (fun _ => nI 0) (fun _ => nI 0) (fun _ => nI 0) (fun _ => nI 0) (fun k => if 14 ≤ k ∧ k < 30 then 1 else 0, (fun _ => nI 0), [], []) := by
  refine ⟨fun k hk => ?_, fun k _ => rfl, fun k hk => ?_, fun k hk => ?_, fun k hk => ?_, fun k hk => ?_, fun k _ _ _ _ => ?_⟩
  · show nI 0 = nI (if 14 ≤ k ∧ k < 30 then 1 else 0); rw [if_neg (by omega)]
  · show nI 0 = nI (if 14 ≤ 50 + k ∧ 50 + k < 30 then 1 else 0); rw [if_neg (by omega)]
  · show nI 0 = nI (if 14 ≤ 54 + k ∧ 54 + k < 30 then 1 else 0); rw [if_neg (by omega)]
  · show nI 0 = nI (if 14 ≤ 14 + k ∧ 14 + k < 30 then 1 else 0) - nI 1; rw [if_pos (by omega)]; decide
  · show nI 0 = nI (if 14 ≤ 30 + k ∧ 30 + k < 30 then 1 else 0); rw [if_neg (by omega)]
  · show nI 0 = nI (if 14 ≤ cnN k ∧ cnN k < 30 then 1 else 0); rw [if_neg (by have := cnN_ge (k := k); omega)]
theorem Rw_nil {f : Nat → Int32} : Rw f [] := fun i w r h => by simp at h
theorem up_s {f : Nat → Option Nat} {k : Nat} {v : Option Nat} : va_up f k v k = v := by simp [va_up]
theorem up_n {f : Nat → Option Nat} {k j : Nat} {v : Option Nat} (h : j ≠ k) : va_up f k v j = f j := by simp [va_up, h]
theorem up2 {f : Nat → Option Nat} {x y : Nat} (j : Nat) (hj : j < 2) : va_up (va_up f 0 (some x)) 1 (some y) j = some (if j = 0 then x else y) := by
  have hw9 : j = 0 ∨ j = 1 := by omega
  rcases hw9 with rfl | rfl
  · rw [up_n (by decide), up_s]; rfl
  · rw [up_s]; rfl
