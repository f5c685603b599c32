/-! THE ROWS OF THIS PROOF: one heap, pictures of its cells by address, everything below z stays -/
abbrev jG : Type := va_G × (Nat → ClassId)
def jTy (g : jG) : List (ClassId × FieldType) := [(g.2 0, .int), (g.2 1, .char), (g.2 2, .boolean), (g.2 3, .object "NightTrains$Store"), (g.2 4, .long)]
def jA (z : Nat) : Nat → Prop := fun q => z ≤ q
def jI (g : jG) (H : Heap) (a n : Nat) (f : Nat → Int32) : Prop := va_at g.1 vwCl (a, .inl (g.2 0, n, .inl f)) H
def jC (g : jG) (H : Heap) (a n : Nat) (f : Nat → Int32) : Prop := va_at g.1 vwCl (a, .inl (g.2 1, n, .inl f)) H
def jZ (g : jG) (H : Heap) (a n : Nat) (f : Nat → Int32) : Prop := va_at g.1 vwCl (a, .inl (g.2 2, n, .inl f)) H
def jR (g : jG) (H : Heap) (a n : Nat) (f : Nat → Option Nat) : Prop := va_at g.1 vwCl (a, .inl (g.2 3, n, .inr (.inr (.inr (.inr f))))) H
def jL (g : jG) (H : Heap) (a n : Nat) (f : Nat → Int64) : Prop := va_at g.1 vwCl (a, .inl (g.2 4, n, .inr (.inl f))) H
def jO (g : jG) (H : Heap) (a ci : Nat) (fs : List Value) : Prop := va_at g.1 vwCl (a, .inr (ci, fs)) H
theorem jI.kept {g : jG} {H H1 : Heap} {a n : Nat} {f : Nat → Int32} (h : jI g H a n f) (hq : H1[a]? = H[a]?) : jI g H1 a n f := va_at.kept (q := (a, _)) h hq
theorem jC.kept {g : jG} {H H1 : Heap} {a n : Nat} {f : Nat → Int32} (h : jC g H a n f) (hq : H1[a]? = H[a]?) : jC g H1 a n f := va_at.kept (q := (a, _)) h hq
theorem jZ.kept {g : jG} {H H1 : Heap} {a n : Nat} {f : Nat → Int32} (h : jZ g H a n f) (hq : H1[a]? = H[a]?) : jZ g H1 a n f := va_at.kept (q := (a, _)) h hq
theorem jR.kept {g : jG} {H H1 : Heap} {a n : Nat} {f : Nat → Option Nat} (h : jR g H a n f) (hq : H1[a]? = H[a]?) : jR g H1 a n f := va_at.kept (q := (a, _)) h hq
theorem jL.kept {g : jG} {H H1 : Heap} {a n : Nat} {f : Nat → Int64} (h : jL g H a n f) (hq : H1[a]? = H[a]?) : jL g H1 a n f := va_at.kept (q := (a, _)) h hq
theorem jO.kept {g : jG} {H H1 : Heap} {a ci : Nat} {fs : List Value} (h : jO g H a ci fs) (hq : H1[a]? = H[a]?) : jO g H1 a ci fs := va_at.kept (q := (a, _)) h hq
theorem jI.lt {g : jG} {H : Heap} {a n : Nat} {f : Nat → Int32} (h : jI g H a n f) : a < H.size := va_at.lt (q := (a, _)) h
theorem jC.lt {g : jG} {H : Heap} {a n : Nat} {f : Nat → Int32} (h : jC g H a n f) : a < H.size := va_at.lt (q := (a, _)) h
theorem jZ.lt {g : jG} {H : Heap} {a n : Nat} {f : Nat → Int32} (h : jZ g H a n f) : a < H.size := va_at.lt (q := (a, _)) h
theorem jR.lt {g : jG} {H : Heap} {a n : Nat} {f : Nat → Option Nat} (h : jR g H a n f) : a < H.size := va_at.lt (q := (a, _)) h
theorem jL.lt {g : jG} {H : Heap} {a n : Nat} {f : Nat → Int64} (h : jL g H a n f) : a < H.size := va_at.lt (q := (a, _)) h
theorem jO.lt {g : jG} {H : Heap} {a ci : Nat} {fs : List Value} (h : jO g H a ci fs) : a < H.size := va_at.lt (q := (a, _)) h
theorem jI.ext {g : jG} {H : Heap} {a n : Nat} {f f' : Nat → Int32} (h : jI g H a n f) (hf : ∀ j, j < n → f' j = f j) : jI g H a n f' := by
  show H[a]? = some (vp_cell _ _)
  have h' : H[a]? = some (vp_cell (g.2 0) (n, .inl f)) := h
  rw [h', vp_cell_i, vp_cell_i]
  unfold arrV
  congr 2
  apply congrArg
  funext j
  show Value.int (f j.val) = Value.int (f' j.val)
  rw [hf j.val j.isLt]
theorem jP1 {D : va_G} {cl : List vw_C} {q : Nat × va_E} {H : Heap} (h : va_at D cl q H) : va_P D cl [q] H := by
  intro k x hx
  match k, hx with
  | 0, hx => cases hx; exact h
  | k + 1, hx => simp at hx
/-- what lies below z and stays: the class's constant rows, what a throw wants, the texts -/
def jSt (z : Nat) (n : String) (f : Nat → Int32) (s : State) : Prop := ∃ t, va_Z "NightTrains" n "[I" (.ref t) (jA z) s s.heap ∧ va_T .int t 5 (fun j => .int (f j)) (jA z) s s.heap
def jLeast : Nat → Int32 := fun j => match j with | 1 => 1 | 2 => 1 | 3 => 1 | _ => 0
def jMost : Nat → Int32 := fun j => match j with | 0 => 4 | 1 => 6 | 2 => 9 | 3 => 9 | _ => 2
def jFirst : Nat → Int32 := fun j => match j with | 0 => 1 | 1 => 3 | 2 => 2 | 3 => 5 | _ => 0
def jX (z : Nat) (s : State) : Prop := vx_Zq Bundle.tN "UNASSIGNED_STACK" Bundle.steD (jA z) s s.heap ∧ vx_Zq Bundle.tN "SUPPRESSED_SENTINEL" Bundle.listD (jA z) s s.heap ∧ ∀ (k : Nat) (tx : String), Cond.stringRef "NightTrains" k tx ∈ tables_1 → ∃ sa, vk_R "NightTrains" k tx sa s
/-- a constant row at a known place -/
def jSa (z : Nat) (n : String) (t : Nat) (f : Nat → Int32) (s : State) : Prop := va_Z "NightTrains" n "[I" (.ref t) (jA z) s s.heap ∧ va_T .int t 5 (fun j => .int (f j)) (jA z) s s.heap
/-- links to private members of nest mates -/
def jNm : List (String × Nat × MethodName × String) := [(RX4, 9, yX3_init, RX4), (RX2, 32, yX1_init, RX4), (RX2, 49, yX4_copyAll, RX4), (RX3, 40, yX4_isSettingValue, RX4), (RX1, 19, yX4_copyAll, RX4), (RX2, 143, yX4_isSetting, RX4), (RX2, 80, yX4_isLot, RX4), (RX2, 87, yX4_isReader, RX4), (RX2, 98, yX4_isItem, RX4), (RX2, 101, yX4_isFee, RX4), (RX2, 133, yX4_isRaise, RX4), (RX2, 146, yX4_isSettingValue, RX4)]
def jNs (s : State) : Prop := (∀ q ∈ jNm, va_Nw (.methodLinkNest q.1 q.2.1 q.2.2.1 q.2.2.2) s) ∧ va_Nw (.fieldLinkNest RX2 46 RX4 "SETTING_FIRST" "[I" RX4) s
def jT (g : jG) (z : Nat) (s : State) : Prop := jSt z "SETTING_LEAST" jLeast s ∧ jSt z "SETTING_MOST" jMost s ∧ jSa z "SETTING_FIRST" (g.2 5) jFirst s ∧ jX z s ∧ jNs s
theorem jSt.go {z : Nat} {n : String} {f : Nat → Int32} {u U : State} (hW : u.WarmedH U.vm) (hq : ∀ q : Nat, q < u.heap.size → ¬ jA z q → U.heap[q]? = u.heap[q]?) (h : jSt z n f u) : jSt z n f U := by
  obtain ⟨t, h1, h2⟩ := h
  exact ⟨t, va_Z.moved hW.alike (h1.kept hq), va_T.moved hW.alike (h2.kept hq)⟩
theorem jT.go {g : jG} {z : Nat} {u U : State} (hW : u.WarmedH U.vm) (hq : ∀ q : Nat, q < u.heap.size → ¬ jA z q → U.heap[q]? = u.heap[q]?) (h : jT g z u) : jT g z U := by
  obtain ⟨h1, h2, ⟨h3, h3b⟩, ⟨h4, h5, h6⟩, h7, h8⟩ := h
  refine ⟨h1.go hW hq, h2.go hW hq, ⟨va_Z.moved hW.alike (h3.kept hq), va_T.moved hW.alike (h3b.kept hq)⟩, ⟨vx_Zq.moved hW.alike (h4.kept hq), vx_Zq.moved hW.alike (h5.kept hq), fun k tx hk => ?_⟩, fun q hq => va_Nw.warmM hW (h7 q hq), va_Nw.warmF hW h8⟩
  obtain ⟨sa, hs⟩ := h6 k tx hk
  exact ⟨sa, hs.warm hW⟩
/-- what the walk knows at any time -/
def jW (g : jG) (z : Nat) (s : State) (H : Heap) (locs : List Loc) : Prop := va_K g.1 vwCl (jTy g) s ∧ jT g z s ∧ va_S (jA z) s.heap H locs
def jB (g : jG) (z : Nat) (U : State) : Prop := va_K g.1 vwCl (jTy g) U ∧ jT g z U
theorem jW.B {g : jG} {z : Nat} {s U : State} {H : Heap} {locs : List Loc} (h : jW g z s H locs) (hW : s.WarmedH U.vm) (hH : U.heap = H) : jB g z U :=
  ⟨va_K.moved hW.alike h.1, h.2.1.go hW (fun q h1 h2 => by rw [hH]; exact h.2.2.2.1 q h1 h2)⟩
theorem jW.put {g : jG} {z : Nat} {s : State} {H H1 : Heap} {locs : List Loc} {a k : Nat} (h : jW g z s H locs) (e2 : H1.size = H.size) (e3 : ∀ q : Nat, q ≠ a → H1[q]? = H[q]?) (ha : z ≤ a) : jW g z s H1 (locs ++ [⟨a, k⟩]) := ⟨h.1, h.2.1, h.2.2.put e2 e3 ha⟩
/-- a method's start and end -/
def jPc (g : jG) (z : Nat) (av : List Value) (H0 : Heap) : Array Value → State → Prop := fun v U => v = av.toArray ∧ U.heap = H0 ∧ jB g z U
def jQ (z : Nat) (H0 : Heap) (post : Option Value → Heap → Prop) : Array Value → State → Outcome → State → Prop := fun _ _ oc t => ∃ v, oc = .returned v ∧ post v t.heap ∧ H0.size ≤ t.heap.size ∧ ∀ q : Nat, q < H0.size → q < z → t.heap[q]? = H0[q]?
def jV (post : Heap → Prop) : Option Value → Heap → Prop := fun v H => v = none ∧ post H
def jN (post : Int32 → Heap → Prop) : Option Value → Heap → Prop := fun v H => ∃ r, v = some (.int r) ∧ post r H
def jN64 (post : Int64 → Heap → Prop) : Option Value → Heap → Prop := fun v H => ∃ r, v = some (.long r) ∧ post r H
abbrev jM (l : Launch) (g : jG) (z : Nat) (y : MethodName) (ws : List Cond) (fr lo : Nat) (av : List Value) (H0 : Heap) (post : Option Value → Heap → Prop) : Prop :=
  Met l y ws { frames := fr, cells := 0, slots := 0, locals := lo } (jPc g z av H0) (jQ z H0 post) 0 0 (jA z)
abbrev jK (p : Program) (l : Launch) (e : Env) (fr lo : Nat) (s : State) (m : MethodId) (av : List Value) (below : List Frame) (meth : Method) (c : Code) (z : Nat) (H0 : Heap) (post : Option Value → Heap → Prop) (H : Heap) (locs : List Loc) (f : JFrame) : Prop :=
  W p l e { frames := fr, cells := 0, slots := 0, locals := lo } s m av.toArray below meth c H locs 0 0 (MQ below (jQ z H0 post) av.toArray s 0 0 (jA z)) f
/-- which cells a method has written: those from a on, n of them -/
def jF (a n : Nat) (H0 H : Heap) : Prop := H.size = H0.size ∧ ∀ q : Nat, (q < a ∨ a + n ≤ q) → H[q]? = H0[q]?
theorem jF.rf {a n : Nat} {H : Heap} : jF a n H H := ⟨rfl, fun _ _ => rfl⟩
theorem jF.put {a n b : Nat} {H0 H H1 : Heap} (h : jF a n H0 H) (oq : ∀ q : Nat, q ≠ b → H1[q]? = H[q]?) (hs : H1.size = H.size) (hb : a ≤ b ∧ b < a + n) : jF a n H0 H1 := ⟨by rw [hs, h.1], fun q hq => by rw [oq q (by omega)]; exact h.2 q hq⟩
theorem jF.step {a n b k : Nat} {H0 H H1 : Heap} (h : jF a n H0 H) (h2 : jF b k H H1) (hb : a ≤ b ∧ b + k ≤ a + n) : jF a n H0 H1 := ⟨by rw [h2.1, h.1], fun q hq => by rw [h2.2 q (by omega)]; exact h.2 q hq⟩
theorem jPc.blind {g : jG} {z : Nat} {av : List Value} {H0 : Heap} : FrameBlind (jPc g z av H0) := fun a U f mk q => by
  obtain ⟨h1, h2, h3, h4⟩ := q
  have hW : U.WarmedH (U.calling f mk a).vm := State.WarmedH.refl U
  exact ⟨h1, h2, va_K.moved (u := U) (U := U.calling f mk a) (Vm.Alike.refl U.vm) h3, h4.go hW (fun q _ _ => rfl)⟩
theorem j_of {l : Launch} {g : jG} {z : Nat} {y : MethodName} {ws ws' : List Cond} {fr lo : Nat} {av : List Value} {H0 : Heap} {post : Option Value → Heap → Prop} {cc : ByteArray} {n : Nat} {ret : Option FieldType}
    (hy : plainName y.cls = true) (hw : ws = Cond.code y cc n ret :: ws') (hn : (lg_sl av).length ≤ n)
    (body : ∀ p e s m below meth c, p.tables.exec = Jvm.exec → c.code = cc → meth.sig.returnType = ret → c.maxLocals = n → s.vm.findClass y.cls = some m.cls → (∀ w ∈ ws, w.before av.toArray s = true) → meth.locks = false → (meth.name = y.name) → s.heap = H0 → jW g z s H0 [] →
      ∀ ls, lv_has ls n (lv_args 0 av) → W p l e { frames := fr, cells := 0, slots := 0, locals := lo } s m av.toArray below meth c H0 [] 0 0 (MQ below (jQ z H0 post) av.toArray s 0 0 (jA z)) (F0 m 0 ls [])) :
    jM l g z y ws fr lo av H0 post := by
  refine Met.ofW (cc := cc) (maxL := n) (ret := ret) hy hw ?_
  intro p e s m args below meth c s₁ B hml hv
  obtain ⟨rfl, hH, hK, hT⟩ := hv
  have hts := atoms_spec (ws := ws) B.pre
  have hl := lv_entry av (n := n) hn
  rw [lg_entry_eq]
  generalize (lg_sl av ++ List.replicate (n - (lg_sl av).length) Slot.unset).toArray = ls at hl ⊢
  rw [hH]
  exact body p e s m below meth c B.exec B.bytes B.returns hml (findClass_of_methodNamed B.named) hts B.notSynchronized (name_of_methodNamed B.named B.method).1 hH ⟨hK, hT, by rw [hH]; exact va_S.rf⟩ ls hl
section JW
variable {p : Program} {l : Launch} {e : Env} {R : Room} {s : State} {m : MethodId} {args : Array Value} {below : List Frame} {meth : Method} {c : Code} {H : Heap} {locs : List Loc} {cells slots : Nat} {Q : State → Prop}
variable {cc : ByteArray} {pc : Nat} {ls : Array Slot} {rest : List Value} {g : jG} {z a : Nat} {H0 : Heap} {post : Option Value → Heap → Prop}
theorem j_end (hH : s.heap = H0) (hw : jW g z s H locs) {v : Option Value} (hp : post v H) : ∀ t : State, t.heap = H → s.WarmedH t.vm → jQ z H0 post args s (.returned v) t := fun t ht _ =>
  ⟨v, rfl, by rw [ht]; exact hp, by rw [ht, ← hH]; exact hw.2.2.1, fun q h1 h2 => by rw [ht, ← hH]; exact hw.2.2.2.1 q (by rw [hH]; exact h1) (Nat.not_le.mpr h2)⟩
theorem j_vret (hx : p.tables.exec = Jvm.exec) (hb : c.code = cc) (hr : meth.sig.returnType = none) (hlocks : meth.locks = false) (hH : s.heap = H0) (hw : jW g z s H locs) (hdg : decode cc pc = .ok (.return_, 1)) (hp : post none H) :
    W p l e R s m args below meth c H locs cells slots (MQ below (jQ z H0 post) args s cells slots (jA z)) (F0 m pc ls []) := W.vret hx hb hr (j_end hH hw hp) hw.2.2.2.2 hdg hlocks
theorem j_iret (hx : p.tables.exec = Jvm.exec) (hb : c.code = cc) (hr : meth.sig.returnType = some .int) (hlocks : meth.locks = false) (hH : s.heap = H0) (hw : jW g z s H locs) {v : Int32} (hdg : decode cc pc = .ok (.ireturn, 1)) (hp : post (some (.int v)) H) :
    W p l e R s m args below meth c H locs cells slots (MQ below (jQ z H0 post) args s cells slots (jA z)) (F0 m pc ls [.int v]) := W.iret hx hb hr (j_end hH hw hp) hw.2.2.2.2 hdg hlocks
theorem j_zret (hx : p.tables.exec = Jvm.exec) (hb : c.code = cc) (hr : meth.sig.returnType = some .boolean) (hlocks : meth.locks = false) (hH : s.heap = H0) (hw : jW g z s H locs) {v : Int32} (hv : v = 0 ∨ v = 1) (hdg : decode cc pc = .ok (.ireturn, 1)) (hp : post (some (.int v)) H) :
    W p l e R s m args below meth c H locs cells slots (MQ below (jQ z H0 post) args s cells slots (jA z)) (F0 m pc ls [.int v]) := W.zret hx hb hr (by rcases hv with rfl | rfl <;> rfl) (j_end hH hw hp) hw.2.2.2.2 hdg hlocks
theorem j_lret (hx : p.tables.exec = Jvm.exec) (hb : c.code = cc) (hr : meth.sig.returnType = some .long) (hlocks : meth.locks = false) (hH : s.heap = H0) (hw : jW g z s H locs) {v : Int64} (hdg : decode cc pc = .ok (.lreturn, 1)) (hp : post (some (.long v)) H) :
    W p l e R s m args below meth c H locs cells slots (MQ below (jQ z H0 post) args s cells slots (jA z)) (F0 m pc ls [.long v]) := W.lret hx hb hr (j_end hH hw hp) hw.2.2.2.2 hdg hlocks
/-- numbers that are naturals -/
theorem j_addN (hx : p.tables.exec = Jvm.exec) (hb : c.code = cc) {a b : Nat} (hdg : decode cc pc = .ok (.iadd, 1)) (k : W p l e R s m args below meth c H locs cells slots Q (F0 m (pc + 1) ls (.int (nI (a + b)) :: rest))) : W p l e R s m args below meth c H locs cells slots Q (F0 m pc ls (.int (nI b) :: .int (nI a) :: rest)) :=
  lv_iadd hx hb hdg (by rw [nI_add]; exact k)
theorem j_subN (hx : p.tables.exec = Jvm.exec) (hb : c.code = cc) {a b : Nat} (h : b ≤ a) (hdg : decode cc pc = .ok (.isub, 1)) (k : W p l e R s m args below meth c H locs cells slots Q (F0 m (pc + 1) ls (.int (nI (a - b)) :: rest))) : W p l e R s m args below meth c H locs cells slots Q (F0 m pc ls (.int (nI b) :: .int (nI a) :: rest)) :=
  lv_isub hx hb hdg (by rw [pk_sub h]; exact k)
theorem j_mulN (hx : p.tables.exec = Jvm.exec) (hb : c.code = cc) {a b : Nat} (hdg : decode cc pc = .ok (.imul, 1)) (k : W p l e R s m args below meth c H locs cells slots Q (F0 m (pc + 1) ls (.int (nI (a * b)) :: rest))) : W p l e R s m args below meth c H locs cells slots Q (F0 m pc ls (.int (nI b) :: .int (nI a) :: rest)) :=
  lv_imul hx hb hdg (by rw [pk_mul]; exact k)
theorem j_eq {x y : Int32} (h : x = y) (k : W p l e R s m args below meth c H locs cells slots Q (F0 m pc ls (.int y :: rest))) : W p l e R s m args below meth c H locs cells slots Q (F0 m pc ls (.int x :: rest)) := by rw [h]; exact k
/-- fields -/
theorem j_get {ci index N k : Nat} {own C : String} {T : u_T} {Ts : List Cond} {fs : List Value} {v : Value} (hx : p.tables.exec = Jvm.exec) (hb : c.code = cc) (hts : ∀ w ∈ Ts, w.before args s = true) (hin : ∀ w ∈ u_ws C T N, w ∈ Ts) (hown : s.vm.findClass own = some m.cls) (hw : jW g z s H locs) (hO : jO g H a ci fs) (hc : vwCl[ci]? = some (C, T, N)) (hk : k < N) (hlink : (Cond.fieldLink own index (T k).1 (T k).2.1 (T k).2.2.1).before args s = true) (hv : fs[k]? = some v) (hdg : decode cc pc = .ok (.getfield index, 3))
    (kk : W p l e R s m args below meth c H locs cells slots Q (F0 m (pc + 3) ls (v :: rest))) : W p l e R s m args below meth c H locs cells slots Q (F0 m pc ls (.ref a :: rest)) :=
  va_get hx hb hts hin hown hw.1 (jP1 hO) 0 rfl hc k hk hlink (fun _ h => h) hv hdg kk
theorem j_put {ci index N k : Nat} {own C : String} {T : u_T} {Ts : List Cond} {fs : List Value} {v : Value} (hx : p.tables.exec = Jvm.exec) (hb : c.code = cc) (hts : ∀ w ∈ Ts, w.before args s = true) (hin : ∀ w ∈ u_ws C T N, w ∈ Ts) (ty0 : Nat → FieldType) (hty : ∀ k, k < N → parseFieldDescriptor (T k).2.2.1 = some (ty0 k)) (hnm : ∀ a, a < N → ∀ b, b < N → a ≠ b → (T a).2.1 ≠ (T b).2.1) (hown : s.vm.findClass own = some m.cls) (hw : jW g z s H locs) (hO : jO g H a ci fs) (hza : z ≤ a) (hc : vwCl[ci]? = some (C, T, N)) (hk : k < N) (hlink : (Cond.fieldLink own index (T k).1 (T k).2.1 (T k).2.2.1).before args s = true) (hfin : (T k).2.2.2 = false) {ty : FieldType} (hd : parseFieldDescriptor (T k).2.2.1 = some ty) (hn : narrow ty v = v) (hfit : fits ty v = true) (hl : k < fs.length) (hdg : decode cc pc = .ok (.putfield index, 3))
    (kk : ∀ (H1 : Heap) (locs1 : List Loc), jW g z s H1 locs1 → jO g H1 a ci (fs.set k v) → (∀ q : Nat, q ≠ a → H1[q]? = H[q]?) → H1.size = H.size → W p l e R s m args below meth c H1 locs1 cells slots Q (F0 m (pc + 3) ls rest)) : W p l e R s m args below meth c H locs cells slots Q (F0 m pc ls (v :: .ref a :: rest)) := by
  have hK := hw.1
  have hap := va_apart (own := own) hts hin ty0 hty hnm hK hc
  obtain ⟨r, h1, cell, q1, q2, q3, q4⟩ := id hO
  have hr : r = (C, T, N) := Option.some.inj (h1.symm.trans hc)
  subst hr
  obtain ⟨hS, hfc, kC, hkC, hkind⟩ := hK.1 ci _ hc
  obtain ⟨cf, kf, fi, f, hi, hsl⟩ := hS k hk
  have hlay := hts _ (hin _ (u_in_lay hk))
  unfold u_lay at hlay
  rw [if_neg (by rw [hfin]; decide)] at hlay
  have hst := (u_facts hfc hkC (u_lays hts hin hk) hi).1
  have h6 := u_store hfc hkC hkind hlay hi hd hn hfit
  refine W.putK hx hb (f := f) ⟨hown, hlink, ⟨_, _, _, hi⟩, hst⟩ (by rw [q2]; exact h6) q1 q3 (by rw [hsl]; exact k2_hasslot (q4 k hk)) rfl rfl hdg fun H' e1 e2 e3 => ?_
  rw [hsl] at e1 ⊢
  exact kk H' _ (hw.put e2 e3 hza) ⟨_, hc, t_OB.to (V := updV (vp_V fs) k v) ⟨_, e1, q2, q3, t_set q4 hap hk v⟩ (fun j _ => vp_updV_set hl v j)⟩ e3 e2
/-- rows of numbers -/
theorem j_iald (hx : p.tables.exec = Jvm.exec) (hb : c.code = cc) (hw : jW g z s H locs) {n : Nat} {f : Nat → Int32} (hI : jI g H a n f) {i : Int32} {k : Nat} (hi : i = nI k) (hk : k < n) (hn : n < 2 ^ 31) (hdg : decode cc pc = .ok (.iaload, 1))
    (kk : W p l e R s m args below meth c H locs cells slots Q (F0 m (pc + 1) ls (.int (f k) :: rest))) : W p l e R s m args below meth c H locs cells slots Q (F0 m pc ls (.int i :: .ref a :: rest)) := by
  subst hi
  refine va_iald hx hb hw.1 (jP1 hI) 0 0 rfl rfl (vp_in_nI hk hn) hdg ?_
  rw [nI_clamp (by omega)]
  exact kk
theorem j_cald (hx : p.tables.exec = Jvm.exec) (hb : c.code = cc) (hw : jW g z s H locs) {n : Nat} {f : Nat → Int32} (hI : jC g H a n f) {i : Int32} {k : Nat} (hi : i = nI k) (hk : k < n) (hn : n < 2 ^ 31) (hdg : decode cc pc = .ok (.caload, 1))
    (kk : W p l e R s m args below meth c H locs cells slots Q (F0 m (pc + 1) ls (.int (f k) :: rest))) : W p l e R s m args below meth c H locs cells slots Q (F0 m pc ls (.int i :: .ref a :: rest)) := by
  subst hi
  refine va_cald hx hb hw.1 (jP1 hI) 0 1 rfl rfl (vp_in_nI hk hn) hdg ?_
  rw [nI_clamp (by omega)]
  exact kk
theorem j_zald (hx : p.tables.exec = Jvm.exec) (hb : c.code = cc) (hw : jW g z s H locs) {n : Nat} {f : Nat → Int32} (hI : jZ g H a n f) {i : Int32} {k : Nat} (hi : i = nI k) (hk : k < n) (hn : n < 2 ^ 31) (hdg : decode cc pc = .ok (.baload, 1))
    (kk : W p l e R s m args below meth c H locs cells slots Q (F0 m (pc + 1) ls (.int (f k) :: rest))) : W p l e R s m args below meth c H locs cells slots Q (F0 m pc ls (.int i :: .ref a :: rest)) := by
  subst hi
  refine va_zald hx hb hw.1 (jP1 hI) 0 2 rfl rfl (vp_in_nI hk hn) hdg ?_
  rw [nI_clamp (by omega)]
  exact kk
theorem j_lald (hx : p.tables.exec = Jvm.exec) (hb : c.code = cc) (hw : jW g z s H locs) {n : Nat} {f : Nat → Int64} (hI : jL g H a n f) {i : Int32} {k : Nat} (hi : i = nI k) (hk : k < n) (hn : n < 2 ^ 31) (hdg : decode cc pc = .ok (.laload, 1))
    (kk : W p l e R s m args below meth c H locs cells slots Q (F0 m (pc + 1) ls (.long (f k) :: rest))) : W p l e R s m args below meth c H locs cells slots Q (F0 m pc ls (.int i :: .ref a :: rest)) := by
  subst hi
  refine va_lald hx hb hw.1 (jP1 hI) 0 4 rfl rfl (vp_in_nI hk hn) hdg ?_
  rw [nI_clamp (by omega)]
  exact kk
theorem j_aald (hx : p.tables.exec = Jvm.exec) (hb : c.code = cc) (hw : jW g z s H locs) {n : Nat} {f : Nat → Option Nat} (hI : jR g H a n f) {i : Int32} {k : Nat} (hi : i = nI k) (hk : k < n) (hn : n < 2 ^ 31) (hdg : decode cc pc = .ok (.aaload, 1))
    (kk : W p l e R s m args below meth c H locs cells slots Q (F0 m (pc + 1) ls (va_rf (f k) :: rest))) : W p l e R s m args below meth c H locs cells slots Q (F0 m pc ls (.int i :: .ref a :: rest)) := by
  subst hi
  refine va_aldq hx hb hw.1 (jP1 hI) 0 3 rfl rfl (vp_in_nI hk hn) hdg ?_
  rw [nI_clamp (by omega)]
  exact kk
theorem j_iast (hx : p.tables.exec = Jvm.exec) (hb : c.code = cc) (hw : jW g z s H locs) {n : Nat} {f : Nat → Int32} (hI : jI g H a n f) (hza : z ≤ a) {i x : Int32} {k : Nat} (hi : i = nI k) (hk : k < n) (hn : n < 2 ^ 31) (hdg : decode cc pc = .ok (.iastore, 1))
    (kk : ∀ (H1 : Heap) (locs1 : List Loc), jW g z s H1 locs1 → jI g H1 a n (upd f k x) → (∀ q : Nat, q ≠ a → H1[q]? = H[q]?) → H1.size = H.size → W p l e R s m args below meth c H1 locs1 cells slots Q (F0 m (pc + 1) ls rest)) : W p l e R s m args below meth c H locs cells slots Q (F0 m pc ls (.int x :: .int i :: .ref a :: rest)) := by
  subst hi
  have hin : vp_in (nI k) n := vp_in_nI hk hn
  have hcl : (nI k).toNatClampNeg = k := nI_clamp (by omega)
  refine W.iast hx hb (cell := vp_cell (g.2 0) (n, .inl f)) hI ((hw.1.2 0 _ rfl).1 n (fun j => .int (f j))) (fun q => by cases q) (by show ¬ (_ ∨ (arrV _ _ _).slots.size ≤ _); rw [arrV_size]; exact hin) rfl rfl hdg fun H1 e zz oq => ?_
  rw [hcl] at e ⊢
  refine kk H1 _ (hw.put zz oq hza) ?_ oq zz
  show H1[a]? = some (vp_cell _ _)
  rw [e, vp_cell_i, vp_cell_i, arrV_store]
  congr 2
  funext q
  by_cases hq : q = k
  · subst hq
    simp [updV, upd]
  · simp [updV, upd, hq]
theorem j_cast (hx : p.tables.exec = Jvm.exec) (hb : c.code = cc) (hw : jW g z s H locs) {n : Nat} {f : Nat → Int32} (hI : jC g H a n f) (hza : z ≤ a) {i x : Int32} {k : Nat} (hi : i = nI k) (hk : k < n) (hn : n < 2 ^ 31) (hdg : decode cc pc = .ok (.castore, 1))
    (kk : ∀ (H1 : Heap) (locs1 : List Loc), jW g z s H1 locs1 → jC g H1 a n (upd f k (vp_nar .char x)) → (∀ q : Nat, q ≠ a → H1[q]? = H[q]?) → H1.size = H.size → W p l e R s m args below meth c H1 locs1 cells slots Q (F0 m (pc + 1) ls rest)) : W p l e R s m args below meth c H locs cells slots Q (F0 m pc ls (.int x :: .int i :: .ref a :: rest)) := by
  subst hi
  have hin : vp_in (nI k) n := vp_in_nI hk hn
  have hcl : (nI k).toNatClampNeg = k := nI_clamp (by omega)
  refine W.cast hx hb (cell := vp_cell (g.2 1) (n, .inl f)) hI ((hw.1.2 1 _ rfl).1 n (fun j => .int (f j))) (fun q => by cases q) (by show ¬ (_ ∨ (arrV _ _ _).slots.size ≤ _); rw [arrV_size]; exact hin) rfl rfl hdg fun H1 e zz oq => ?_
  rw [hcl] at e ⊢
  refine kk H1 _ (hw.put zz oq hza) ?_ oq zz
  show H1[a]? = some (vp_cell _ _)
  rw [e, vp_cell_i, vp_cell_i, arrV_store]
  congr 2
  funext q
  by_cases hq : q = k
  · subst hq
    simp [updV, upd, vp_nar]
    try rfl
  · simp [updV, upd, hq]
theorem j_zast (hx : p.tables.exec = Jvm.exec) (hb : c.code = cc) (hw : jW g z s H locs) {n : Nat} {f : Nat → Int32} (hI : jZ g H a n f) (hza : z ≤ a) {i x : Int32} {k : Nat} (hi : i = nI k) (hk : k < n) (hn : n < 2 ^ 31) (hdg : decode cc pc = .ok (.bastore, 1))
    (kk : ∀ (H1 : Heap) (locs1 : List Loc), jW g z s H1 locs1 → jZ g H1 a n (upd f k (vp_nar .boolean x)) → (∀ q : Nat, q ≠ a → H1[q]? = H[q]?) → H1.size = H.size → W p l e R s m args below meth c H1 locs1 cells slots Q (F0 m (pc + 1) ls rest)) : W p l e R s m args below meth c H locs cells slots Q (F0 m pc ls (.int x :: .int i :: .ref a :: rest)) := by
  subst hi
  have hin : vp_in (nI k) n := vp_in_nI hk hn
  have hcl : (nI k).toNatClampNeg = k := nI_clamp (by omega)
  refine W.zast hx hb (cell := vp_cell (g.2 2) (n, .inl f)) hI ((hw.1.2 2 _ rfl).1 n (fun j => .int (f j))) (fun q => by cases q) (by show ¬ (_ ∨ (arrV _ _ _).slots.size ≤ _); rw [arrV_size]; exact hin) rfl rfl hdg fun H1 e zz oq => ?_
  rw [hcl] at e ⊢
  refine kk H1 _ (hw.put zz oq hza) ?_ oq zz
  show H1[a]? = some (vp_cell _ _)
  rw [e, vp_cell_i, vp_cell_i, arrV_store]
  congr 2
  funext q
  by_cases hq : q = k
  · subst hq
    simp [updV, upd, vp_nar]
    try rfl
  · simp [updV, upd, hq]
theorem j_last (hx : p.tables.exec = Jvm.exec) (hb : c.code = cc) (hw : jW g z s H locs) {n : Nat} {f : Nat → Int64} (hI : jL g H a n f) (hza : z ≤ a) {i : Int32} {x : Int64} {k : Nat} (hi : i = nI k) (hk : k < n) (hn : n < 2 ^ 31) (hdg : decode cc pc = .ok (.lastore, 1))
    (kk : ∀ (H1 : Heap) (locs1 : List Loc), jW g z s H1 locs1 → jL g H1 a n (vp_updL f k x) → (∀ q : Nat, q ≠ a → H1[q]? = H[q]?) → H1.size = H.size → W p l e R s m args below meth c H1 locs1 cells slots Q (F0 m (pc + 1) ls rest)) : W p l e R s m args below meth c H locs cells slots Q (F0 m pc ls (.long x :: .int i :: .ref a :: rest)) := by
  subst hi
  have hin : vp_in (nI k) n := vp_in_nI hk hn
  have hcl : (nI k).toNatClampNeg = k := nI_clamp (by omega)
  refine W.last hx hb (cell := vp_cell (g.2 4) (n, .inr (.inl f))) hI ((hw.1.2 4 _ rfl).1 n (fun j => .long (f j))) (fun q => by cases q) (by show ¬ (_ ∨ (arrV _ _ _).slots.size ≤ _); rw [arrV_size]; exact hin) rfl rfl hdg fun H1 e zz oq => ?_
  rw [hcl] at e ⊢
  refine kk H1 _ (hw.put zz oq hza) ?_ oq zz
  show H1[a]? = some (vp_cell _ _)
  rw [e, vp_cell_l, vp_cell_l, arrV_store]
  congr 2
  funext q
  by_cases hq : q = k
  · subst hq
    simp [updV, vp_updL]
  · simp [updV, vp_updL, hq]
theorem j_alen (hx : p.tables.exec = Jvm.exec) (hb : c.code = cc) (hw : jW g z s H locs) {n : Nat} {f : Nat → Int32} (hI : jI g H a n f) (hdg : decode cc pc = .ok (.arraylength, 1))
    (kk : W p l e R s m args below meth c H locs cells slots Q (F0 m (pc + 1) ls (.int (nI n) :: rest))) : W p l e R s m args below meth c H locs cells slots Q (F0 m pc ls (.ref a :: rest)) :=
  va_alen hx hb hw.1 (jP1 hI) 0 0 rfl rfl rfl hdg kk
/-- calls -/
theorem j_recv {ci : Nat} {fs : List Value} {q : vw_C} (hw : jW g z s H locs) (hO : jO g H a ci fs) (hc : vwCl[ci]? = some q) : ∃ cell : Cell, H[a]? = some cell ∧ cell.vm.isStatics = false ∧ s.vm.findClass q.1 = some cell.cls := va_recv hw.1 (jP1 hO) hc (q0 := 0) rfl
theorem j_run {post' : Option Value → Heap → Prop} {av : List Value} {a' : Array Value} {st0 : List Value} (hr : va_Run p l e R s m args below meth c H locs cells slots 0 0 (F0 m pc ls st0) rest (jQ z H post' a') (jA z)) (hw : jW g z s H locs)
    (kk : ∀ (v : Option Value) (H1 : Heap) (locs1 : List Loc), post' v H1 → jW g z s H1 locs1 → H.size ≤ H1.size → W p l e R s m args below meth c H1 locs1 cells slots Q (F0 m (pc + 3) ls (v.toList ++ rest))) : W p l e R s m args below meth c H locs cells slots Q (F0 m pc ls st0) := by
  intro T hT X
  obtain ⟨v, st₀, t, T', L, h0, X', hL, e1, e2, ⟨v', hv, hp, hz, hk⟩, st⟩ := hr T hT X
  cases hv
  have hw1 : jW g z s T'.heap (locs ++ L) := ⟨hw.1, hw.2.1, Nat.le_trans hw.2.2.1 (by rw [e1]; exact hz), fun q h1 h2 => by rw [e1, hk q (Nat.lt_of_lt_of_le h1 hw.2.2.1) (Nat.not_le.mp h2)]; exact hw.2.2.2.1 q h1 h2, fun q hq => by
      rcases List.mem_append.mp hq with h | h
      · exact hw.2.2.2.2 q h
      · exact hL q h⟩
  obtain ⟨t2, a1, b1⟩ := kk v T'.heap (locs ++ L) (by rw [e1]; exact hp) hw1 (by rw [e1]; exact hz) T' rfl X'
  exact ⟨t2, st t2 a1, b1⟩
theorem j_S {y : MethodName} {ws ws' Ts : List Cond} {fr lo n nL maxL index : Nat} {own : String} {bytes : ByteArray} {ret : Option FieldType} {As : List Value} {post' : Option Value → Heap → Prop} (hx : p.tables.exec = Jvm.exec) (hb : c.code = cc) (hml : c.maxLocals = nL) (hown : s.vm.findClass own = some m.cls) (hts : ∀ w ∈ Ts, w.before args s = true) (hw : jW g z s H locs)
    (hM : jM l g z y ws fr lo As H post') (hG : GoodIn Ts (va_wsS own index y ws)) (hws : ws = Cond.code y bytes maxL ret :: ws') (hd : y.cls ≠ "java/lang/invoke/MethodHandle" ∧ y.cls ≠ "java/lang/invoke/VarHandle" ∧ (parseMethodDescriptor y.desc).map (fun d => d.parameters.length) = some n) (hR : fr + 1 ≤ R.frames ∧ 8 + (maxL + 11) + lo ≤ R.locals) (hn : As.length = n) (hl : ls.size = nL)
    (hst : (rest.map fun v => v.category).sum ≤ 8) (hc : cells ≤ R.cells ∧ slots ≤ R.slots) (hdg : decode cc pc = .ok (.invokestatic index, 3))
    (kk : ∀ (v : Option Value) (H1 : Heap) (locs1 : List Loc), post' v H1 → jW g z s H1 locs1 → H.size ≤ H1.size → W p l e R s m args below meth c H1 locs1 cells slots Q (F0 m (pc + 3) ls (v.toList ++ rest))) {st0 : List Value} (hst0 : st0 = As.reverse ++ rest) : W p l e R s m args below meth c H locs cells slots Q (F0 m pc ls st0) := by
  subst hst0
  refine j_run (av := As) (post' := post') (va_runS (As := As) (rest := rest) ⟨hx, hb, hml, hown, hts⟩ hM (va_cwS n hts hG hws rfl rfl hd hR) ⟨jPc.blind, fun U hU hW => ⟨rfl, hU, hw.B hW hU⟩⟩ rfl hn hl rfl (lv_room hst) hdg ⟨hc.1, hc.2⟩) hw kk
theorem j_V {y : MethodName} {ws ws' Ts : List Cond} {fr lo n nL maxL index : Nat} {own C : String} {bytes : ByteArray} {ret : Option FieldType} {As : List Value} {post' : Option Value → Heap → Prop} (hx : p.tables.exec = Jvm.exec) (hb : c.code = cc) (hml : c.maxLocals = nL) (hown : s.vm.findClass own = some m.cls) (hts : ∀ w ∈ Ts, w.before args s = true) (hw : jW g z s H locs)
    (hrec : ∃ cell : Cell, H[a]? = some cell ∧ cell.vm.isStatics = false ∧ s.vm.findClass C = some cell.cls)
    (hM : jM l g z y ws fr lo (.ref a :: As) H post') (hG : GoodIn Ts (wsV own index C y ws)) (hws : ws = Cond.code y bytes maxL ret :: ws') (hd : y.cls = C ∧ y.cls ≠ "java/lang/invoke/MethodHandle" ∧ y.cls ≠ "java/lang/invoke/VarHandle" ∧ (parseMethodDescriptor y.desc).map (fun d => d.parameters.length) = some n) (hR : fr + 1 ≤ R.frames ∧ 8 + (maxL + 11) + lo ≤ R.locals) (hn : As.length = n) (hl : ls.size = nL)
    (hst : (rest.map fun v => v.category).sum ≤ 8) (hc : cells ≤ R.cells ∧ slots ≤ R.slots) (hdg : decode cc pc = .ok (.invokevirtual index, 3))
    (kk : ∀ (v : Option Value) (H1 : Heap) (locs1 : List Loc), post' v H1 → jW g z s H1 locs1 → H.size ≤ H1.size → W p l e R s m args below meth c H1 locs1 cells slots Q (F0 m (pc + 3) ls (v.toList ++ rest))) {st0 : List Value} (hst0 : st0 = As.reverse ++ .ref a :: rest) : W p l e R s m args below meth c H locs cells slots Q (F0 m pc ls st0) := by
  subst hst0
  refine j_run (av := As) (post' := post') (va_runV (As := As) (rest := rest) ⟨hx, hb, hml, hown, hts⟩ hM (cwV n hts hG hws rfl rfl hd hR) ⟨jPc.blind, hrec, fun U hU hW => ⟨rfl, hU, hw.B hW hU⟩⟩ rfl hn hl rfl (lv_room hst) hdg ⟨hc.1, hc.2⟩) hw kk
/-- calls, by what comes back -/
theorem j_Sp {y : MethodName} {ws ws' Ts : List Cond} {fr lo n nL maxL index : Nat} {own : String} {bytes : ByteArray} {ret : Option FieldType} {As : List Value} {P : Int32 → Prop} (hx : p.tables.exec = Jvm.exec) (hb : c.code = cc) (hml : c.maxLocals = nL) (hown : s.vm.findClass own = some m.cls) (hts : ∀ w ∈ Ts, w.before args s = true) (hw : jW g z s H locs)
    (hM : jM l g z y ws fr lo As H (jN (fun r H1 => H1 = H ∧ P r))) (hG : GoodIn Ts (va_wsS own index y ws)) (hws : ws = Cond.code y bytes maxL ret :: ws') (hd : y.cls ≠ "java/lang/invoke/MethodHandle" ∧ y.cls ≠ "java/lang/invoke/VarHandle" ∧ (parseMethodDescriptor y.desc).map (fun d => d.parameters.length) = some n) (hR : fr + 1 ≤ R.frames ∧ 8 + (maxL + 11) + lo ≤ R.locals) (hn : As.length = n) (hl : ls.size = nL)
    (hst : (rest.map fun v => v.category).sum ≤ 8) (hc : cells ≤ R.cells ∧ slots ≤ R.slots) (hdg : decode cc pc = .ok (.invokestatic index, 3))
    (kk : ∀ (r : Int32) (locs1 : List Loc), P r → jW g z s H locs1 → W p l e R s m args below meth c H locs1 cells slots Q (F0 m (pc + 3) ls (.int r :: rest))) {st0 : List Value} (hst0 : st0 = As.reverse ++ rest) : W p l e R s m args below meth c H locs cells slots Q (F0 m pc ls st0) :=
  j_S hx hb hml hown hts hw hM hG hws hd hR hn hl hst hc hdg (fun v H1 locs1 hp hw1 _ => by
    obtain ⟨r, rfl, rfl, hr⟩ := hp
    exact kk r locs1 hr hw1) hst0
theorem j_Sl {y : MethodName} {ws ws' Ts : List Cond} {fr lo n nL maxL index : Nat} {own : String} {bytes : ByteArray} {ret : Option FieldType} {As : List Value} {P : Int64 → Prop} (hx : p.tables.exec = Jvm.exec) (hb : c.code = cc) (hml : c.maxLocals = nL) (hown : s.vm.findClass own = some m.cls) (hts : ∀ w ∈ Ts, w.before args s = true) (hw : jW g z s H locs)
    (hM : jM l g z y ws fr lo As H (jN64 (fun r H1 => H1 = H ∧ P r))) (hG : GoodIn Ts (va_wsS own index y ws)) (hws : ws = Cond.code y bytes maxL ret :: ws') (hd : y.cls ≠ "java/lang/invoke/MethodHandle" ∧ y.cls ≠ "java/lang/invoke/VarHandle" ∧ (parseMethodDescriptor y.desc).map (fun d => d.parameters.length) = some n) (hR : fr + 1 ≤ R.frames ∧ 8 + (maxL + 11) + lo ≤ R.locals) (hn : As.length = n) (hl : ls.size = nL)
    (hst : (rest.map fun v => v.category).sum ≤ 8) (hc : cells ≤ R.cells ∧ slots ≤ R.slots) (hdg : decode cc pc = .ok (.invokestatic index, 3))
    (kk : ∀ (r : Int64) (locs1 : List Loc), P r → jW g z s H locs1 → W p l e R s m args below meth c H locs1 cells slots Q (F0 m (pc + 3) ls (.long r :: rest))) {st0 : List Value} (hst0 : st0 = As.reverse ++ rest) : W p l e R s m args below meth c H locs cells slots Q (F0 m pc ls st0) :=
  j_S hx hb hml hown hts hw hM hG hws hd hR hn hl hst hc hdg (fun v H1 locs1 hp hw1 _ => by
    obtain ⟨r, rfl, rfl, hr⟩ := hp
    exact kk r locs1 hr hw1) hst0
theorem j_Si {y : MethodName} {ws ws' Ts : List Cond} {fr lo n nL maxL index : Nat} {own : String} {bytes : ByteArray} {ret : Option FieldType} {As : List Value} {P : Int32 → Heap → Prop} (hx : p.tables.exec = Jvm.exec) (hb : c.code = cc) (hml : c.maxLocals = nL) (hown : s.vm.findClass own = some m.cls) (hts : ∀ w ∈ Ts, w.before args s = true) (hw : jW g z s H locs)
    (hM : jM l g z y ws fr lo As H (jN P)) (hG : GoodIn Ts (va_wsS own index y ws)) (hws : ws = Cond.code y bytes maxL ret :: ws') (hd : y.cls ≠ "java/lang/invoke/MethodHandle" ∧ y.cls ≠ "java/lang/invoke/VarHandle" ∧ (parseMethodDescriptor y.desc).map (fun d => d.parameters.length) = some n) (hR : fr + 1 ≤ R.frames ∧ 8 + (maxL + 11) + lo ≤ R.locals) (hn : As.length = n) (hl : ls.size = nL)
    (hst : (rest.map fun v => v.category).sum ≤ 8) (hc : cells ≤ R.cells ∧ slots ≤ R.slots) (hdg : decode cc pc = .ok (.invokestatic index, 3))
    (kk : ∀ (r : Int32) (H1 : Heap) (locs1 : List Loc), P r H1 → jW g z s H1 locs1 → H.size ≤ H1.size → W p l e R s m args below meth c H1 locs1 cells slots Q (F0 m (pc + 3) ls (.int r :: rest))) {st0 : List Value} (hst0 : st0 = As.reverse ++ rest) : W p l e R s m args below meth c H locs cells slots Q (F0 m pc ls st0) :=
  j_S hx hb hml hown hts hw hM hG hws hd hR hn hl hst hc hdg (fun v H1 locs1 hp hw1 hz => by
    obtain ⟨r, rfl, hr⟩ := hp
    exact kk r H1 locs1 hr hw1 hz) hst0
theorem j_Sv {y : MethodName} {ws ws' Ts : List Cond} {fr lo n nL maxL index : Nat} {own : String} {bytes : ByteArray} {ret : Option FieldType} {As : List Value} {P : Heap → Prop} (hx : p.tables.exec = Jvm.exec) (hb : c.code = cc) (hml : c.maxLocals = nL) (hown : s.vm.findClass own = some m.cls) (hts : ∀ w ∈ Ts, w.before args s = true) (hw : jW g z s H locs)
    (hM : jM l g z y ws fr lo As H (jV P)) (hG : GoodIn Ts (va_wsS own index y ws)) (hws : ws = Cond.code y bytes maxL ret :: ws') (hd : y.cls ≠ "java/lang/invoke/MethodHandle" ∧ y.cls ≠ "java/lang/invoke/VarHandle" ∧ (parseMethodDescriptor y.desc).map (fun d => d.parameters.length) = some n) (hR : fr + 1 ≤ R.frames ∧ 8 + (maxL + 11) + lo ≤ R.locals) (hn : As.length = n) (hl : ls.size = nL)
    (hst : (rest.map fun v => v.category).sum ≤ 8) (hc : cells ≤ R.cells ∧ slots ≤ R.slots) (hdg : decode cc pc = .ok (.invokestatic index, 3))
    (kk : ∀ (H1 : Heap) (locs1 : List Loc), P H1 → jW g z s H1 locs1 → H.size ≤ H1.size → W p l e R s m args below meth c H1 locs1 cells slots Q (F0 m (pc + 3) ls rest)) {st0 : List Value} (hst0 : st0 = As.reverse ++ rest) : W p l e R s m args below meth c H locs cells slots Q (F0 m pc ls st0) :=
  j_S hx hb hml hown hts hw hM hG hws hd hR hn hl hst hc hdg (fun v H1 locs1 hp hw1 hz => by
    obtain ⟨rfl, hr⟩ := hp
    exact kk H1 locs1 hr hw1 hz) hst0
theorem j_Vp {y : MethodName} {ws ws' Ts : List Cond} {fr lo n nL maxL index : Nat} {own C : String} {bytes : ByteArray} {ret : Option FieldType} {As : List Value} {P : Int32 → Prop} (hx : p.tables.exec = Jvm.exec) (hb : c.code = cc) (hml : c.maxLocals = nL) (hown : s.vm.findClass own = some m.cls) (hts : ∀ w ∈ Ts, w.before args s = true) (hw : jW g z s H locs)
    (hrec : ∃ cell : Cell, H[a]? = some cell ∧ cell.vm.isStatics = false ∧ s.vm.findClass C = some cell.cls)
    (hM : jM l g z y ws fr lo (.ref a :: As) H (jN (fun r H1 => H1 = H ∧ P r))) (hG : GoodIn Ts (wsV own index C y ws)) (hws : ws = Cond.code y bytes maxL ret :: ws') (hd : y.cls = C ∧ y.cls ≠ "java/lang/invoke/MethodHandle" ∧ y.cls ≠ "java/lang/invoke/VarHandle" ∧ (parseMethodDescriptor y.desc).map (fun d => d.parameters.length) = some n) (hR : fr + 1 ≤ R.frames ∧ 8 + (maxL + 11) + lo ≤ R.locals) (hn : As.length = n) (hl : ls.size = nL)
    (hst : (rest.map fun v => v.category).sum ≤ 8) (hc : cells ≤ R.cells ∧ slots ≤ R.slots) (hdg : decode cc pc = .ok (.invokevirtual index, 3))
    (kk : ∀ (r : Int32) (locs1 : List Loc), P r → jW g z s H locs1 → W p l e R s m args below meth c H locs1 cells slots Q (F0 m (pc + 3) ls (.int r :: rest))) {st0 : List Value} (hst0 : st0 = As.reverse ++ .ref a :: rest) : W p l e R s m args below meth c H locs cells slots Q (F0 m pc ls st0) :=
  j_V hx hb hml hown hts hw hrec hM hG hws hd hR hn hl hst hc hdg (fun v H1 locs1 hp hw1 _ => by
    obtain ⟨r, rfl, rfl, hr⟩ := hp
    exact kk r locs1 hr hw1) hst0
theorem j_Vi {y : MethodName} {ws ws' Ts : List Cond} {fr lo n nL maxL index : Nat} {own C : String} {bytes : ByteArray} {ret : Option FieldType} {As : List Value} {P : Int32 → Heap → Prop} (hx : p.tables.exec = Jvm.exec) (hb : c.code = cc) (hml : c.maxLocals = nL) (hown : s.vm.findClass own = some m.cls) (hts : ∀ w ∈ Ts, w.before args s = true) (hw : jW g z s H locs)
    (hrec : ∃ cell : Cell, H[a]? = some cell ∧ cell.vm.isStatics = false ∧ s.vm.findClass C = some cell.cls)
    (hM : jM l g z y ws fr lo (.ref a :: As) H (jN P)) (hG : GoodIn Ts (wsV own index C y ws)) (hws : ws = Cond.code y bytes maxL ret :: ws') (hd : y.cls = C ∧ y.cls ≠ "java/lang/invoke/MethodHandle" ∧ y.cls ≠ "java/lang/invoke/VarHandle" ∧ (parseMethodDescriptor y.desc).map (fun d => d.parameters.length) = some n) (hR : fr + 1 ≤ R.frames ∧ 8 + (maxL + 11) + lo ≤ R.locals) (hn : As.length = n) (hl : ls.size = nL)
    (hst : (rest.map fun v => v.category).sum ≤ 8) (hc : cells ≤ R.cells ∧ slots ≤ R.slots) (hdg : decode cc pc = .ok (.invokevirtual index, 3))
    (kk : ∀ (r : Int32) (H1 : Heap) (locs1 : List Loc), P r H1 → jW g z s H1 locs1 → H.size ≤ H1.size → W p l e R s m args below meth c H1 locs1 cells slots Q (F0 m (pc + 3) ls (.int r :: rest))) {st0 : List Value} (hst0 : st0 = As.reverse ++ .ref a :: rest) : W p l e R s m args below meth c H locs cells slots Q (F0 m pc ls st0) :=
  j_V hx hb hml hown hts hw hrec hM hG hws hd hR hn hl hst hc hdg (fun v H1 locs1 hp hw1 hz => by
    obtain ⟨r, rfl, hr⟩ := hp
    exact kk r H1 locs1 hr hw1 hz) hst0
theorem j_Vv {y : MethodName} {ws ws' Ts : List Cond} {fr lo n nL maxL index : Nat} {own C : String} {bytes : ByteArray} {ret : Option FieldType} {As : List Value} {P : Heap → Prop} (hx : p.tables.exec = Jvm.exec) (hb : c.code = cc) (hml : c.maxLocals = nL) (hown : s.vm.findClass own = some m.cls) (hts : ∀ w ∈ Ts, w.before args s = true) (hw : jW g z s H locs)
    (hrec : ∃ cell : Cell, H[a]? = some cell ∧ cell.vm.isStatics = false ∧ s.vm.findClass C = some cell.cls)
    (hM : jM l g z y ws fr lo (.ref a :: As) H (jV P)) (hG : GoodIn Ts (wsV own index C y ws)) (hws : ws = Cond.code y bytes maxL ret :: ws') (hd : y.cls = C ∧ y.cls ≠ "java/lang/invoke/MethodHandle" ∧ y.cls ≠ "java/lang/invoke/VarHandle" ∧ (parseMethodDescriptor y.desc).map (fun d => d.parameters.length) = some n) (hR : fr + 1 ≤ R.frames ∧ 8 + (maxL + 11) + lo ≤ R.locals) (hn : As.length = n) (hl : ls.size = nL)
    (hst : (rest.map fun v => v.category).sum ≤ 8) (hc : cells ≤ R.cells ∧ slots ≤ R.slots) (hdg : decode cc pc = .ok (.invokevirtual index, 3))
    (kk : ∀ (H1 : Heap) (locs1 : List Loc), P H1 → jW g z s H1 locs1 → H.size ≤ H1.size → W p l e R s m args below meth c H1 locs1 cells slots Q (F0 m (pc + 3) ls rest)) {st0 : List Value} (hst0 : st0 = As.reverse ++ .ref a :: rest) : W p l e R s m args below meth c H locs cells slots Q (F0 m pc ls st0) :=
  j_V hx hb hml hown hts hw hrec hM hG hws hd hR hn hl hst hc hdg (fun v H1 locs1 hp hw1 hz => by
    obtain ⟨rfl, hr⟩ := hp
    exact kk H1 locs1 hr hw1 hz) hst0
/-- division by a natural -/
theorem j_divN (hx : p.tables.exec = Jvm.exec) (hb : c.code = cc) {a b : Nat} (h1 : a < 2 ^ 31) (h2 : 0 < b) (h3 : b < 2 ^ 31) (hdg : decode cc pc = .ok (.idiv, 1)) (k : W p l e R s m args below meth c H locs cells slots Q (F0 m (pc + 1) ls (.int (nI (a / b)) :: rest))) : W p l e R s m args below meth c H locs cells slots Q (F0 m pc ls (.int (nI b) :: .int (nI a) :: rest)) :=
  lv_idiv hx hb hdg (nI_ne0 h2 h3) (by rw [pk_div h1 h2 h3]; exact k)
theorem j_remN (hx : p.tables.exec = Jvm.exec) (hb : c.code = cc) {a b : Nat} (h1 : a < 2 ^ 31) (h2 : 0 < b) (h3 : b < 2 ^ 31) (hdg : decode cc pc = .ok (.irem, 1)) (k : W p l e R s m args below meth c H locs cells slots Q (F0 m (pc + 1) ls (.int (nI (a % b)) :: rest))) : W p l e R s m args below meth c H locs cells slots Q (F0 m pc ls (.int (nI b) :: .int (nI a) :: rest)) :=
  lv_irem hx hb hdg (nI_ne0 h2 h3) (by rw [pk_rem h1 h2 h3]; exact k)
-- branches on naturals
section JB
variable {a b tgt : Nat} {off : Int}
theorem jn_eq (hx : p.tables.exec = Jvm.exec) (hb : c.code = cc) (hdg : decode cc pc = .ok (.if_icmp .eq off, 3)) (ht : (pc : Int) + off = (tgt : Int)) (h1 : a < 2 ^ 31) (h2 : b < 2 ^ 31) (kt : a = b → W p l e R s m args below meth c H locs cells slots Q (F0 m tgt ls rest)) (kf : ¬ a = b → W p l e R s m args below meth c H locs cells slots Q (F0 m (pc + 3) ls rest)) : W p l e R s m args below meth c H locs cells slots Q (F0 m pc ls (.int (nI b) :: .int (nI a) :: rest)) :=
  lv_icmp_eq hx hb hdg ht (fun q => kt ((nI_eq h1 h2).mp q)) (fun q => kf (fun z => q ((nI_eq h1 h2).mpr z)))
theorem jn_ne (hx : p.tables.exec = Jvm.exec) (hb : c.code = cc) (hdg : decode cc pc = .ok (.if_icmp .ne off, 3)) (ht : (pc : Int) + off = (tgt : Int)) (h1 : a < 2 ^ 31) (h2 : b < 2 ^ 31) (kt : ¬ a = b → W p l e R s m args below meth c H locs cells slots Q (F0 m tgt ls rest)) (kf : a = b → W p l e R s m args below meth c H locs cells slots Q (F0 m (pc + 3) ls rest)) : W p l e R s m args below meth c H locs cells slots Q (F0 m pc ls (.int (nI b) :: .int (nI a) :: rest)) :=
  lv_icmp_ne hx hb hdg ht (fun q => kt (fun z => q ((nI_eq h1 h2).mpr z))) (fun q => kf ((nI_eq h1 h2).mp q))
theorem jn_lt (hx : p.tables.exec = Jvm.exec) (hb : c.code = cc) (hdg : decode cc pc = .ok (.if_icmp .lt off, 3)) (ht : (pc : Int) + off = (tgt : Int)) (h1 : a < 2 ^ 31) (h2 : b < 2 ^ 31) (kt : a < b → W p l e R s m args below meth c H locs cells slots Q (F0 m tgt ls rest)) (kf : ¬ a < b → W p l e R s m args below meth c H locs cells slots Q (F0 m (pc + 3) ls rest)) : W p l e R s m args below meth c H locs cells slots Q (F0 m pc ls (.int (nI b) :: .int (nI a) :: rest)) :=
  lv_icmp_lt hx hb hdg ht (fun q => kt ((nI_ltI h1 h2).mp q)) (fun q => kf (fun z => q ((nI_ltI h1 h2).mpr z)))
theorem jn_ge (hx : p.tables.exec = Jvm.exec) (hb : c.code = cc) (hdg : decode cc pc = .ok (.if_icmp .ge off, 3)) (ht : (pc : Int) + off = (tgt : Int)) (h1 : a < 2 ^ 31) (h2 : b < 2 ^ 31) (kt : b ≤ a → W p l e R s m args below meth c H locs cells slots Q (F0 m tgt ls rest)) (kf : ¬ b ≤ a → W p l e R s m args below meth c H locs cells slots Q (F0 m (pc + 3) ls rest)) : W p l e R s m args below meth c H locs cells slots Q (F0 m pc ls (.int (nI b) :: .int (nI a) :: rest)) :=
  lv_icmp_ge hx hb hdg ht (fun q => kt ((nI_leI h2 h1).mp q)) (fun q => kf (fun z => q ((nI_leI h2 h1).mpr z)))
theorem jn_gt (hx : p.tables.exec = Jvm.exec) (hb : c.code = cc) (hdg : decode cc pc = .ok (.if_icmp .gt off, 3)) (ht : (pc : Int) + off = (tgt : Int)) (h1 : a < 2 ^ 31) (h2 : b < 2 ^ 31) (kt : b < a → W p l e R s m args below meth c H locs cells slots Q (F0 m tgt ls rest)) (kf : ¬ b < a → W p l e R s m args below meth c H locs cells slots Q (F0 m (pc + 3) ls rest)) : W p l e R s m args below meth c H locs cells slots Q (F0 m pc ls (.int (nI b) :: .int (nI a) :: rest)) :=
  lv_icmp_gt hx hb hdg ht (fun q => kt ((nI_ltI h2 h1).mp q)) (fun q => kf (fun z => q ((nI_ltI h2 h1).mpr z)))
theorem jn_le (hx : p.tables.exec = Jvm.exec) (hb : c.code = cc) (hdg : decode cc pc = .ok (.if_icmp .le off, 3)) (ht : (pc : Int) + off = (tgt : Int)) (h1 : a < 2 ^ 31) (h2 : b < 2 ^ 31) (kt : a ≤ b → W p l e R s m args below meth c H locs cells slots Q (F0 m tgt ls rest)) (kf : ¬ a ≤ b → W p l e R s m args below meth c H locs cells slots Q (F0 m (pc + 3) ls rest)) : W p l e R s m args below meth c H locs cells slots Q (F0 m pc ls (.int (nI b) :: .int (nI a) :: rest)) :=
  lv_icmp_le hx hb hdg ht (fun q => kt ((nI_leI h1 h2).mp q)) (fun q => kf (fun z => q ((nI_leI h1 h2).mpr z)))
theorem jz_eq (hx : p.tables.exec = Jvm.exec) (hb : c.code = cc) (hdg : decode cc pc = .ok (.ifCond .eq off, 3)) (ht : (pc : Int) + off = (tgt : Int)) (h1 : a < 2 ^ 31) (kt : a = 0 → W p l e R s m args below meth c H locs cells slots Q (F0 m tgt ls rest)) (kf : ¬ a = 0 → W p l e R s m args below meth c H locs cells slots Q (F0 m (pc + 3) ls rest)) : W p l e R s m args below meth c H locs cells slots Q (F0 m pc ls (.int (nI a) :: rest)) :=
  lv_if_eq hx hb hdg ht (fun q => kt ((nI_eq h1 (by decide)).mp q)) (fun q => kf (fun z => q (by rw [z]; rfl)))
theorem jz_ne (hx : p.tables.exec = Jvm.exec) (hb : c.code = cc) (hdg : decode cc pc = .ok (.ifCond .ne off, 3)) (ht : (pc : Int) + off = (tgt : Int)) (h1 : a < 2 ^ 31) (kt : ¬ a = 0 → W p l e R s m args below meth c H locs cells slots Q (F0 m tgt ls rest)) (kf : a = 0 → W p l e R s m args below meth c H locs cells slots Q (F0 m (pc + 3) ls rest)) : W p l e R s m args below meth c H locs cells slots Q (F0 m pc ls (.int (nI a) :: rest)) :=
  lv_if_ne hx hb hdg ht (fun q => kt (fun z => q (by rw [z]; rfl))) (fun q => kf ((nI_eq h1 (by decide)).mp q))
theorem jz_lt (hx : p.tables.exec = Jvm.exec) (hb : c.code = cc) (hdg : decode cc pc = .ok (.ifCond .lt off, 3)) (ht : (pc : Int) + off = (tgt : Int)) (h1 : a < 2 ^ 31) (_kt : a < 0 → W p l e R s m args below meth c H locs cells slots Q (F0 m tgt ls rest)) (kf : ¬ a < 0 → W p l e R s m args below meth c H locs cells slots Q (F0 m (pc + 3) ls rest)) : W p l e R s m args below meth c H locs cells slots Q (F0 m pc ls (.int (nI a) :: rest)) :=
  lv_if_lt hx hb hdg ht (fun q => absurd q (nI_pos h1)) (fun _ => kf (Nat.not_lt_zero a))
theorem jz_ge (hx : p.tables.exec = Jvm.exec) (hb : c.code = cc) (hdg : decode cc pc = .ok (.ifCond .ge off, 3)) (ht : (pc : Int) + off = (tgt : Int)) (h1 : a < 2 ^ 31) (kt : 0 ≤ a → W p l e R s m args below meth c H locs cells slots Q (F0 m tgt ls rest)) (_kf : ¬ 0 ≤ a → W p l e R s m args below meth c H locs cells slots Q (F0 m (pc + 3) ls rest)) : W p l e R s m args below meth c H locs cells slots Q (F0 m pc ls (.int (nI a) :: rest)) :=
  lv_if_ge hx hb hdg ht (fun _ => kt (Nat.zero_le a)) (fun q => absurd (nI_pos' h1) q)
theorem jz_gt (hx : p.tables.exec = Jvm.exec) (hb : c.code = cc) (hdg : decode cc pc = .ok (.ifCond .gt off, 3)) (ht : (pc : Int) + off = (tgt : Int)) (h1 : a < 2 ^ 31) (kt : 0 < a → W p l e R s m args below meth c H locs cells slots Q (F0 m tgt ls rest)) (kf : ¬ 0 < a → W p l e R s m args below meth c H locs cells slots Q (F0 m (pc + 3) ls rest)) : W p l e R s m args below meth c H locs cells slots Q (F0 m pc ls (.int (nI a) :: rest)) :=
  lv_if_gt hx hb hdg ht (fun q => kt ((nI_ltI (a := 0) (by decide) h1).mp q)) (fun q => kf (fun z => q ((nI_ltI (a := 0) (by decide) h1).mpr z)))
theorem jz_le (hx : p.tables.exec = Jvm.exec) (hb : c.code = cc) (hdg : decode cc pc = .ok (.ifCond .le off, 3)) (ht : (pc : Int) + off = (tgt : Int)) (h1 : a < 2 ^ 31) (kt : a ≤ 0 → W p l e R s m args below meth c H locs cells slots Q (F0 m tgt ls rest)) (kf : ¬ a ≤ 0 → W p l e R s m args below meth c H locs cells slots Q (F0 m (pc + 3) ls rest)) : W p l e R s m args below meth c H locs cells slots Q (F0 m pc ls (.int (nI a) :: rest)) :=
  lv_if_le hx hb hdg ht (fun q => kt ((nI_leI (b := 0) h1 (by decide)).mp q)) (fun q => kf (fun z => q ((nI_leI (b := 0) h1 (by decide)).mpr z)))
end JB
theorem jl_eq {x y : Int64} {tgt : Nat} {off : Int} (hx : p.tables.exec = Jvm.exec) (hb : c.code = cc) (hdg : decode cc pc = .ok (.ifCond .eq off, 3)) (ht : (pc : Int) + off = (tgt : Int)) (kt : x = y → W p l e R s m args below meth c H locs cells slots Q (F0 m tgt ls rest)) (kf : ¬ x = y → W p l e R s m args below meth c H locs cells slots Q (F0 m (pc + 3) ls rest)) : W p l e R s m args below meth c H locs cells slots Q (F0 m pc ls (.int (lg_cmp x y) :: rest)) :=
  lv_if_eq hx hb hdg ht (fun q => kt ((lg_cmp_eq x y).mp q)) (fun q => kf (fun z => q ((lg_cmp_eq x y).mpr z)))
theorem jl_lt {x y : Int64} {tgt : Nat} {off : Int} (hx : p.tables.exec = Jvm.exec) (hb : c.code = cc) (hdg : decode cc pc = .ok (.ifCond .lt off, 3)) (ht : (pc : Int) + off = (tgt : Int)) (kt : x < y → W p l e R s m args below meth c H locs cells slots Q (F0 m tgt ls rest)) (kf : ¬ x < y → W p l e R s m args below meth c H locs cells slots Q (F0 m (pc + 3) ls rest)) : W p l e R s m args below meth c H locs cells slots Q (F0 m pc ls (.int (lg_cmp x y) :: rest)) :=
  lv_if_lt hx hb hdg ht (fun q => kt ((lg_cmp_lt x y).mp q)) (fun q => kf (fun z => q ((lg_cmp_lt x y).mpr z)))
theorem jl_gt {x y : Int64} {tgt : Nat} {off : Int} (hx : p.tables.exec = Jvm.exec) (hb : c.code = cc) (hdg : decode cc pc = .ok (.ifCond .gt off, 3)) (ht : (pc : Int) + off = (tgt : Int)) (kt : y < x → W p l e R s m args below meth c H locs cells slots Q (F0 m tgt ls rest)) (kf : ¬ y < x → W p l e R s m args below meth c H locs cells slots Q (F0 m (pc + 3) ls rest)) : W p l e R s m args below meth c H locs cells slots Q (F0 m pc ls (.int (lg_cmp x y) :: rest)) :=
  lv_if_gt hx hb hdg ht (fun q => kt ((lg_cmp_gt x y).mp q)) (fun q => kf (fun z => q ((lg_cmp_gt x y).mpr z)))
/-- branches on a natural -/
theorem j_lt_N {a b : Nat} (ha : a < 2 ^ 31) (hb : b < 2 ^ 31) : nI a < nI b ↔ a < b := nI_ltI ha hb
theorem j_le_N {a b : Nat} (ha : a < 2 ^ 31) (hb : b < 2 ^ 31) : nI a ≤ nI b ↔ a ≤ b := nI_leI ha hb
theorem j_eq_N {a b : Nat} (ha : a < 2 ^ 31) (hb : b < 2 ^ 31) : nI a = nI b ↔ a = b := nI_eq ha hb
end JW
