/-! The law's helpers: a call that may throw, told by a number. -/
abbrev Wd : Type := List Nat × Sg × List Sg × (Nat → Option Sg)
def CW (g : jG) (H : Heap) (A : Nat) (w : Wd) : Prop := CD g H A w.1 w.2.1 w.2.2.1 w.2.2.2
def MW (g : jG) (H : Heap) (M : Nat) (x0 : Int32) (w : Wd) : Prop := MD g H M x0 w.1 w.2.1 w.2.2.1 w.2.2.2
def opQ (f : Nat × Int32) (w : Wd) : Nat × Int32 × Wd := (f.1, f.2, w)
def opA (f : Nat × Int32 × Sg) (w : Wd) : Nat × Int32 × Wd := (f.1, f.2.1, (w.1, f.2.2, (if f.1 = 0 then pushH w.2.2.1 w.2.1 else w.2.2.1), w.2.2.2))
def opT (f : Nat × Int32 × List Nat) (w : Wd) : Nat × Int32 × Wd := (f.1, f.2.1, (f.2.2, w.2))
def opL (w : Wd) : Nat × Int32 × Wd := ((fLoad w.1).1, (fLoad w.1).2.1, (w.1, (if (fLoad w.1).1 = 0 then (fLoad w.1).2.2 else w.2.1), (if (fLoad w.1).1 = 0 then [] else w.2.2.1), (if (fLoad w.1).1 = 0 then (fun _ => none) else w.2.2.2)))
def opU (w : Wd) : Nat × Int32 × Wd := match w.2.2.1.getLast? with
  | none => (1, 0, w)
  | some s => (0, nI w.2.2.1.dropLast.length, (w.1, s, w.2.2.1.dropLast, w.2.2.2))
def opS (a : Int32) (w : Wd) : Nat × Int32 × Wd := match ix a 0 2 with
  | none => (1, 0, w)
  | some k => (0, nI (w.2.1.1 5), (w.1, w.2.1, w.2.2.1, fun j => if j = k then some w.2.1 else w.2.2.2 j))
def opR (a : Int32) (w : Wd) : Nat × Int32 × Wd := match ix a 0 2 with
  | none => (1, 0, w)
  | some k => match w.2.2.2 k with
    | none => (2, 0, w)
    | some s => (0, nI (s.1 5), (w.1, s, [], w.2.2.2))
theorem opQ_ok {f : Nat × Int32} {w : Wd} {r : Int32} (h : f = (0, r)) : opQ f w = (0, r, w) := by rw [h]; rfl
theorem opQ_no {f : Nat × Int32} {w : Wd} {k : Nat} (h : f = (k, 0)) : opQ f w = (k, 0, w) := by rw [h]; rfl
theorem opA_ok {f : Nat × Int32 × Sg} {tx : List Nat} {σ τ : Sg} {hi : List Sg} {sv : Nat → Option Sg} {r : Int32} (h : f = (0, r, τ)) : opA f (tx, σ, hi, sv) = (0, r, (tx, τ, pushH hi σ, sv)) := by rw [h]; rfl
theorem opA_no {f : Nat × Int32 × Sg} {tx : List Nat} {σ : Sg} {hi : List Sg} {sv : Nat → Option Sg} {k : Nat} (hk : k ≠ 0) (h : f = (k, 0, σ)) : opA f (tx, σ, hi, sv) = (k, 0, (tx, σ, hi, sv)) := by
  rw [h]; show (k, (0 : Int32), (tx, σ, (if k = 0 then pushH hi σ else hi), sv)) = _; rw [if_neg hk]
theorem opT_ok {f : Nat × Int32 × List Nat} {tx tx' : List Nat} {v : Sg × List Sg × (Nat → Option Sg)} {r : Int32} (h : f = (0, r, tx')) : opT f (tx, v) = (0, r, (tx', v)) := by rw [h]; rfl
theorem opT_no {f : Nat × Int32 × List Nat} {tx : List Nat} {v : Sg × List Sg × (Nat → Option Sg)} {k : Nat} (h : f = (k, 0, tx)) : opT f (tx, v) = (k, 0, (tx, v)) := by rw [h]; rfl
theorem opL_ok {tx : List Nat} {σ τ : Sg} {hi : List Sg} {sv : Nat → Option Sg} {r : Int32} (h : fLoad tx = (0, r, τ)) : opL (tx, σ, hi, sv) = (0, r, (tx, τ, [], fun _ => none)) := by
  unfold opL; rw [h]; rfl
theorem opL_no {tx : List Nat} {σ : Sg} {hi : List Sg} {sv : Nat → Option Sg} (h : (fLoad tx).1 = 1) : opL (tx, σ, hi, sv) = (1, (fLoad tx).2.1, (tx, σ, hi, sv)) := by
  unfold opL; rw [h]; rfl
theorem opU_ok {tx : List Nat} {σ s : Sg} {h : List Sg} {sv : Nat → Option Sg} : opU (tx, σ, h ++ [s], sv) = (0, nI h.length, (tx, s, h, sv)) := by
  unfold opU
  show (match (h ++ [s]).getLast? with | none => _ | some s' => _) = _
  rw [List.getLast?_concat]
  show (0, nI (h ++ [s]).dropLast.length, (tx, s, (h ++ [s]).dropLast, sv)) = _
  rw [List.dropLast_concat]
theorem opU_no {tx : List Nat} {σ : Sg} {sv : Nat → Option Sg} : opU (tx, σ, [], sv) = (1, 0, (tx, σ, [], sv)) := rfl
theorem opS_ok {a : Int32} {k : Nat} {tx : List Nat} {σ : Sg} {hi : List Sg} {sv : Nat → Option Sg} (h : ix a 0 2 = some k) : opS a (tx, σ, hi, sv) = (0, nI (σ.1 5), (tx, σ, hi, fun j => if j = k then some σ else sv j)) := by unfold opS; rw [h]
theorem opS_no {a : Int32} {w : Wd} (h : ix a 0 2 = none) : opS a w = (1, 0, w) := by unfold opS; rw [h]
theorem opR_ok {a : Int32} {k : Nat} {tx : List Nat} {σ s : Sg} {hi : List Sg} {sv : Nat → Option Sg} (h : ix a 0 2 = some k) (hs : sv k = some s) : opR a (tx, σ, hi, sv) = (0, nI (s.1 5), (tx, s, [], sv)) := by unfold opR; rw [h]; simp only [hs]
theorem opR_no {a : Int32} {w : Wd} (h : ix a 0 2 = none) : opR a w = (1, 0, w) := by unfold opR; rw [h]
theorem opR_no2 {a : Int32} {k : Nat} {tx : List Nat} {σ : Sg} {hi : List Sg} {sv : Nat → Option Sg} (h : ix a 0 2 = some k) (hs : sv k = none) : opR a (tx, σ, hi, sv) = (2, 0, (tx, σ, hi, sv)) := by unfold opR; rw [h]; simp only [hs]
/-- what a helper says -/
def hP (g : jG) (H0 H1 : Heap) (A o : Nat) (O : Nat × Int32 × Wd) (r : Int32) : Prop := O.1 < 4 ∧ r = nI O.1 ∧ CW g H1 A O.2.2 ∧ (∃ fo, jL g H1 o 1 fo ∧ (O.1 = 0 → fo 0 = O.2.1.toInt64)) ∧ H0.size ≤ H1.size ∧ ∀ q : Nat, q < H0.size → (q < A ∨ A + 223 ≤ q) → q ≠ o → H1[q]? = H0[q]?
abbrev jMH (l : Launch) (g : jG) (z : Nat) (y : MethodName) (ws : List Cond) (fr lo : Nat) (av : List Value) (H0 : Heap) (post : Option Value → Heap → Prop) : Prop :=
  Met l y ws { frames := fr, cells := 1, slots := 6, locals := lo } (jPcX g z av H0) (jQ z H0 post) 1 6 (jA z)
theorem j_ofH {l : Launch} {g : jG} {z : Nat} {y : MethodName} {ws ws' : List Cond} {fr lo : Nat} {av : List Value} {H0 : Heap} {post : Option Value → Heap → Prop} {cc : ByteArray} {n : Nat} {ret : Option FieldType} {hh : List (Nat × Nat × Nat × Nat)}
    (hy : plainName y.cls = true) (hw : ws = Cond.codeWith y cc n ret hh :: ws') (hn : (lg_sl av).length ≤ n)
    (body : ∀ p e s m below meth c, p.tables.exec = Jvm.exec → c.code = cc → meth.sig.returnType = ret → c.maxLocals = n → s.vm.findClass y.cls = some m.cls → (∀ w ∈ ws, w.before av.toArray s = true) → meth.locks = false → (meth.name = y.name) → s.heap = H0 → jW g z s H0 [] → jE s → c.exceptionTable.toList = tableOf hh →
      ∀ ls, lv_has ls n (lv_args 0 av) → W p l e { frames := fr, cells := 1, slots := 6, locals := lo } s m av.toArray below meth c H0 [] 0 0 (MQ below (jQ z H0 post) av.toArray s 1 6 (jA z)) (F0 m 0 ls [])) :
    jMH l g z y ws fr lo av H0 post := by
  refine va_MetW (cc := cc) (maxL := n) (ret := ret) (hh := hh) hy hw ?_
  intro p e s m args below meth c s₁ B hml hv
  obtain ⟨rfl, hH, ⟨hK, hT⟩, hE⟩ := hv
  have hts := atoms_spec (ws := ws) B.pre
  have hex := vx_table (x := y) B (hts _ (by rw [hw]; exact List.mem_cons_self))
  have hl := lv_entry av (n := n) hn
  rw [lg_entry_eq]
  generalize (lg_sl av ++ List.replicate (n - (lg_sl av).length) Slot.unset).toArray = ls at hl ⊢
  rw [hH]
  exact body p e s m below meth c B.exec B.bytes B.returns hml (findClass_of_methodNamed B.named) hts B.notSynchronized (name_of_methodNamed B.named B.method).1 hH ⟨hK, hT, by rw [hH]; exact va_S.rf⟩ hE hex ls hl
section JVX
variable {p : Program} {l : Launch} {e : Env} {R : Room} {s : State} {m : MethodId} {args : Array Value} {below : List Frame} {meth : Method} {c : Code} {H : Heap} {locs : List Loc} {cells slots : Nat} {Q : State → Prop}
variable {cc : ByteArray} {pc : Nat} {ls : Array Slot} {rest : List Value} {g : jG} {z a : Nat} {H0 : Heap} {xp : String → Prop}
theorem j_VX {y : MethodName} {ws ws' Ts : List Cond} {fr lo n nL maxL index : Nat} {own C : String} {bytes : ByteArray} {ret : Option FieldType} {As : List Value} {P : Int32 → Heap → Prop} (hx : p.tables.exec = Jvm.exec) (hb : c.code = cc) (hml : c.maxLocals = nL) (hown : s.vm.findClass own = some m.cls) (hts : ∀ w ∈ Ts, w.before args s = true) (hw : jW g z s H locs) (hE : jE s)
    (hrec : ∃ cell : Cell, H[a]? = some cell ∧ cell.vm.isStatics = false ∧ s.vm.findClass C = some cell.cls)
    (hM : jMX l g z y ws fr lo (.ref a :: As) H (jN P) xp) (hG : GoodIn Ts (wsV own index C y ws)) (hws : ws = Cond.code y bytes maxL ret :: ws') (hd : y.cls = C ∧ y.cls ≠ "java/lang/invoke/MethodHandle" ∧ y.cls ≠ "java/lang/invoke/VarHandle" ∧ (parseMethodDescriptor y.desc).map (fun d => d.parameters.length) = some n) (hR : fr + 1 ≤ R.frames ∧ 8 + (maxL + 11) + lo ≤ R.locals) (hn : As.length = n) (hl : ls.size = nL)
    (hst : (rest.map fun v => v.category).sum ≤ 8) (hc : cells + 1 ≤ R.cells ∧ slots + 6 ≤ R.slots) (hdg : decode cc pc = .ok (.invokevirtual index, 3))
    (kk : ∀ (r : Int32) (H1 : Heap) (locs1 : List Loc), P r H1 → jW g z s H1 locs1 → W p l e R s m args below meth c H1 locs1 (cells + 1) (slots + 6) Q (F0 m (pc + 3) ls (.int r :: rest)))
    (kx : ∀ (E : String) (ce : Cell) (q9 : Addr) (H1 : Heap) (locs1 : List Loc), xp E → H.size ≤ H1.size → (∀ q : Nat, q < H.size → H1[q]? = H[q]?) → jW g z s H1 locs1 → H1[q9]? = some ce → ce.vm = .none → s.vm.findClass E = some ce.cls → vx_W p l e R s m args below meth c H1 locs1 (cells + 1) (slots + 6) Q (F0 m pc ls rest) q9)
    {st0 : List Value} (hst0 : st0 = As.reverse ++ .ref a :: rest) : W p l e R s m args below meth c H locs cells slots Q (F0 m pc ls st0) := by
  subst hst0
  have hr := vx_runV (l := l) (p := p) (e := e) (R := R) (below := below) (meth := meth) (H := H) (locs := locs) (cells := cells) (slots := slots) (g := F0 m pc ls (As.reverse ++ .ref a :: rest)) (As := As) (rest := rest) ⟨hx, hb, hml, hown, hts⟩ hM (cwV n hts hG hws rfl rfl hd hR) ⟨jPcX.blind, hrec, fun U hU hW => ⟨rfl, hU, hw.B hW hU, hE.go hW⟩⟩ rfl hn hl rfl (lv_room hst) hdg hc
  intro T hT X
  rcases hr T hT X with ⟨v, st₀, t, T', L, h0, X', hL, e1, e2, ⟨v', hv, hp, hz, hk⟩, st⟩ | ⟨q, st₀, t, T', L, E, ce, h0, X', hL, e1, e2, ⟨hxp, hz, hk⟩, hce, hcv, hcl, st⟩
  · cases hv
    obtain ⟨r, rfl, hr9⟩ := hp
    have hw1 : jW g z s T'.heap (locs ++ L) := ⟨hw.1, hw.2.1, Nat.le_trans hw.2.2.1 (by rw [e1]; exact hz), fun q h1 h2 => by rw [e1, hk q (Nat.lt_of_lt_of_le h1 hw.2.2.1) (Nat.not_le.mp h2)]; exact hw.2.2.2.1 q h1 h2, fun q hq => by
        rcases List.mem_append.mp hq with h | h
        · exact hw.2.2.2.2 q h
        · exact hL q h⟩
    obtain ⟨t2, a1, b1⟩ := kk r T'.heap (locs ++ L) (by rw [e1]; exact hr9) hw1 T' rfl X'
    exact ⟨t2, st t2 a1, b1⟩
  · have hw1 : jW g z s T'.heap (locs ++ L) := ⟨hw.1, hw.2.1, Nat.le_trans hw.2.2.1 (by rw [e1]; exact hz), fun q h1 h2 => by rw [e1, hk q (Nat.lt_of_lt_of_le h1 hw.2.2.1)]; exact hw.2.2.2.1 q h1 h2, fun q hq => by
        rcases List.mem_append.mp hq with h | h
        · exact hw.2.2.2.2 q h
        · exact hL q h⟩
    obtain ⟨t2, a1, b1⟩ := kx E ce q T'.heap (locs ++ L) hxp (by rw [e1]; exact hz) (fun q hq => by rw [e1]; exact hk q hq) hw1 (by rw [e1]; exact hce) hcv hcl T' rfl X'
    exact ⟨t2, st.trans a1, b1⟩
end JVX
theorem hP_ok {g : jG} {H0 H1 H2 : Heap} {A o : Nat} {O : Nat × Int32 × Wd} {r : Int32} {w' : Wd} {fo : Nat → Int64} (e : O = (0, r, w')) (hC : CW g H1 A w') (hf : jF A 223 H0 H1) (ho : o < A ∨ A + 223 ≤ o) (hL : jL g H2 o 1 (vp_updL fo 0 r.toInt64)) (oq : ∀ q : Nat, q ≠ o → H2[q]? = H1[q]?) (hs : H2.size = H1.size) : hP g H0 H2 A o O (nI 0) := by
  subst e
  exact ⟨Nat.zero_lt_succ _, rfl, CD.kept hC (fun q h1 h2 => oq q (by omega)), ⟨_, hL, fun _ => by simp [vp_updL]⟩, by rw [hs, hf.1]; exact Nat.le_refl _, fun q _ h2 h3 => by rw [oq q h3]; exact hf.2 q h2⟩
theorem hP_no {g : jG} {H0 H1 : Heap} {A o k : Nat} {O : Nat × Int32 × Wd} {v : Int32} {w : Wd} {fo : Nat → Int64} (hk : k ≠ 0) (hk4 : k < 4) (e : O = (k, v, w)) (hC : CW g H0 A w) (hsz : A + 223 ≤ H0.size) (hL : jL g H0 o 1 fo) (hs : H0.size ≤ H1.size) (hq : ∀ q : Nat, q < H0.size → H1[q]? = H0[q]?) : hP g H0 H1 A o O (nI k) := by
  subst e
  exact ⟨hk4, rfl, CD.kept hC (fun q h1 h2 => hq q (by omega)), ⟨fo, hL.kept (hq _ hL.lt), fun h => absurd h hk⟩, hs, fun q h1 _ _ => hq q h1⟩
