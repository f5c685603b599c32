set_option maxHeartbeats 4000000 in
set_option maxRecDepth 100000 in
theorem k_0 {p : Program} {l : Launch} {e : Env} {s : State} {m : MethodId} {below : List Frame} {meth : Method} {c : Code} {H : Heap} {locs : List Loc} {cells slots : Nat} {Q : State → Prop} {ls : Array Slot} {g : jG} {z b L i K : Nat} {xs : Nat → Int32} {w : Wd} (hl0 : l.stackTraces = false) (hx : p.tables.exec = Jvm.exec) (hb : c.code = cL_law) (hml : c.maxLocals = 7) (hown : s.vm.findClass RL = some m.cls) (hts : ∀ w ∈ wsL_law, w.before #[Value.ref b] s = true) (hE : jE s) (hX : va_X b L xs s s.heap) (hzs : s.heap.size = z) (hbz : b < z) (hL : L ≤ 2560) (hi5 : i + 5 ≤ L) (hK4 : 3600000 ≤ K) (hK : K < 2 ^ 29) (hw : jW g z s H locs) (hI : LI g z K H w) (hl : lv_has ls 7 (LL b z i)) (hc : cells + 1 ≤ 601024 ∧ slots + 6 ≤ 7293034) (kk : ∀ (H1 : Heap) (locs1 : List Loc) (w1 : Wd) (ls1 : Array Slot), jW g z s H1 locs1 → LI g z (K + 100000) H1 w1 → lv_has ls1 7 (LL b z i) → W p l e room_1 s m #[Value.ref b] below meth c H1 locs1 (cells + 1) (slots + 6) Q (F0 m 1696 ls1 [])) : W p l e room_1 s m #[Value.ref b] below meth c H locs cells slots Q (F0 m 160 ls []) := by
  obtain ⟨hC, ⟨x0, hM⟩, ⟨fo, hLo⟩, hG, hsz⟩ := hI
  obtain ⟨tx, σ, hi, sv⟩ := w
  have hN := hC.okN
  have hzl : z ≤ H.size := by omega
  have hbl : b < s.heap.size := by omega
  refine lv_aload_n hx hb dL_law_160 rfl (lv_at hl 1 rfl) ?_
  refine lv_aload_n hx hb dL_law_161 rfl (lv_at hl 0 rfl) ?_
  refine lv_iload hx hb dL_law_162 (lv_at hl 4 rfl) ?_
  refine lv_iconst (v := nI 1) hx hb dL_law_164 (by decide) ?_
  refine j_addN hx hb dL_law_165 ?_
  refine j_sc hx hb hw hX hbl hbz hL (k := i + 1) (by omega) dL_law_166 ?_
  refine lv_aload_n hx hb dL_law_167 rfl (lv_at hl 3 rfl) ?_
  refine j_HS (n := 3) (As := [.ref z, .int (xs (i + 1)), .ref (z + 232)]) (rest := []) hx hb hml hown hts hw hE (h_append l hl0 g z H z (z + 232) (xs (i + 1)) tx σ hi sv fo (Nat.le_refl _) (by omega) (by omega) (by omega) hC hLo) gL_law_L_append rfl (by decide +kernel) ⟨Nat.le_of_ble_eq_true rfl, Nat.le_of_ble_eq_true rfl⟩ rfl hl.1 (Nat.le_of_ble_eq_true rfl) hc dL_law_168 (fun r H1 locs hp hw => ?_) rfl
  obtain ⟨O, hO⟩ : ∃ O, O = opT (fAppend tx (xs (i + 1))) (tx, σ, hi, sv) := ⟨_, rfl⟩
  rw [← hO] at hp
  obtain ⟨hO4, rfl, hC, ⟨fo, hLo, hfo⟩, hs9, hq9⟩ := hp
  have hM := hM.kept (fun q h1 h2 => hq9 q (by omega) (by omega) (by omega))
  have hG1 : good (K + 100000) O.2.2 := by rw [hO]; exact good_T hG
  refine lv_istore (lv' := [(5, .int _), (0, .ref _), (1, .ref _), (2, .ref _), (3, .ref _), (4, .int _)]) hx hb dL_law_171 hl (by decide) rfl (fun ls hl => ?_)
  refine lv_aload_n hx hb dL_law_173 rfl (lv_at hl 3 rfl) ?_
  refine lv_aload_n hx hb dL_law_174 rfl (lv_at hl 1 rfl) ?_
  refine lv_iload hx hb dL_law_175 (lv_at hl 5 rfl) ?_
  refine lv_iconst (v := nI 1) hx hb dL_law_177 (by decide) ?_
  refine j_addN hx hb dL_law_178 ?_
  refine j_sc hx hb hw hX hbl hbz hL (k := i + 1) (by omega) dL_law_179 ?_
  refine j_Vi (n := 1) (As := [.int (xs (i + 1))]) hx hb hml hown hts hw (hM.rec9 hw) (c_X5_append l g z H1 (z + 223) (xs (i + 1)) x0 tx σ hi sv (by omega) hM) gL_law_X5_append rfl (by decide +kernel) ⟨Nat.le_of_ble_eq_true rfl, Nat.le_of_ble_eq_true rfl⟩ rfl hl.1 (Nat.le_of_ble_eq_true rfl) ⟨by show _ ≤ 601024; omega, by show _ ≤ 7293034; omega⟩ dL_law_180 (fun r H2 locs hp hw _ => ?_) rfl
  obtain ⟨hrr, hM, hf⟩ := hp
  have hrr : O.1 = 0 → r = O.2.1 := by rw [hO]; exact hrr
  have hM : MW g H2 (z + 223) (nI O.1) O.2.2 := by rw [hO]; exact hM
  have hC := CD.kept hC (fun q h1 h2 => hf.2 q (by omega))
  have hLo := hLo.kept (hf.2 _ (by omega))
  have hsz2 := hf.1
  refine lv_istore (lv' := [(6, .int _), (5, .int _), (0, .ref _), (1, .ref _), (2, .ref _), (3, .ref _), (4, .int _)]) hx hb dL_law_183 hl (by decide) rfl (fun ls hl => ?_)
  refine lv_aload_n hx hb dL_law_185 rfl (lv_at hl 4 rfl) ?_
  obtain ⟨x3, x4, x5, x14, sn, sc, rd, nw, tr, dy, kp, ik, tk, h0, h1, h2, h3, h4, h5, h6, h7, h8, hMI⟩ := id hM
  refine j_Vp (n := 0) (As := []) hx hb hml hown hts hw (hM.rec9 hw) (c_X5_thrown l g z H2 (z + 223) _ _ _ _ _ _ _ _ h0) gL_law_X5_thrown rfl (by decide +kernel) ⟨Nat.le_of_ble_eq_true rfl, Nat.le_of_ble_eq_true rfl⟩ rfl hl.1 (Nat.le_of_ble_eq_true rfl) ⟨by show _ ≤ 601024; omega, by show _ ≤ 7293034; omega⟩ dL_law_186 (fun r2 locs hr2 hw => ?_) rfl
  obtain rfl : r2 = nI O.1 := hr2
  refine lv_iload hx hb dL_law_189 (lv_at hl 1 rfl) ?_
  refine lv_icmp_eq (tgt := 196) hx hb dL_law_191 (by decide) (fun _ => ?_) (fun q => absurd rfl q)
  refine lv_iload hx hb dL_law_196 (lv_at hl 1 rfl) ?_
  refine jz_ne (tgt := 213) hx hb dL_law_198 (by decide) (by omega) (fun _ => ?_) (fun hz0 => ?_)
  · refine lv_goto (tgt := 1696) hx hb dL_law_213 (by decide) ?_
    exact kk H2 locs O.2.2 ls hw ⟨hC, ⟨_, hM⟩, ⟨_, hLo⟩, hG1, by omega⟩ (lv_sub hl [2, 3, 4, 5, 6] rfl)
  · have hrr := hrr hz0
    have hfo := hfo hz0
    refine lv_aload_n hx hb dL_law_201 rfl (lv_at hl 5 rfl) ?_
    refine lv_iconst (v := nI 0) hx hb dL_law_202 (by decide) ?_
    refine j_lald hx hb hw hLo (k := 0) rfl (by decide) (by decide) dL_law_203 ?_
    rw [hfo]
    refine lv_iload hx hb dL_law_204 (lv_at hl 0 rfl) ?_
    rw [hrr]
    refine lv_i2l (v := O.2.1.toInt64) hx hb dL_law_206 rfl ?_
    refine W.lcmp hx hb dL_law_207 ?_
    refine jl_eq (tgt := 213) hx hb dL_law_208 (by decide) (fun _ => ?_) (fun q => absurd rfl q)
    refine lv_goto (tgt := 1696) hx hb dL_law_213 (by decide) ?_
    exact kk H2 locs O.2.2 ls hw ⟨hC, ⟨_, hM⟩, ⟨_, hLo⟩, hG1, by omega⟩ (lv_sub hl [2, 3, 4, 5, 6] rfl)

set_option maxHeartbeats 4000000 in
set_option maxRecDepth 100000 in
theorem k_1 {p : Program} {l : Launch} {e : Env} {s : State} {m : MethodId} {below : List Frame} {meth : Method} {c : Code} {H : Heap} {locs : List Loc} {cells slots : Nat} {Q : State → Prop} {ls : Array Slot} {g : jG} {z b L i K : Nat} {xs : Nat → Int32} {w : Wd} (hl0 : l.stackTraces = false) (hx : p.tables.exec = Jvm.exec) (hb : c.code = cL_law) (hml : c.maxLocals = 7) (hown : s.vm.findClass RL = some m.cls) (hts : ∀ w ∈ wsL_law, w.before #[Value.ref b] s = true) (hE : jE s) (hX : va_X b L xs s s.heap) (hzs : s.heap.size = z) (hbz : b < z) (hL : L ≤ 2560) (hi5 : i + 5 ≤ L) (hK4 : 3600000 ≤ K) (hK : K < 2 ^ 29) (hw : jW g z s H locs) (hI : LI g z K H w) (hl : lv_has ls 7 (LL b z i)) (hc : cells + 1 ≤ 601024 ∧ slots + 6 ≤ 7293034) (kk : ∀ (H1 : Heap) (locs1 : List Loc) (w1 : Wd) (ls1 : Array Slot), jW g z s H1 locs1 → LI g z (K + 100000) H1 w1 → lv_has ls1 7 (LL b z i) → W p l e room_1 s m #[Value.ref b] below meth c H1 locs1 (cells + 1) (slots + 6) Q (F0 m 1696 ls1 [])) : W p l e room_1 s m #[Value.ref b] below meth c H locs cells slots Q (F0 m 216 ls []) := by
  obtain ⟨hC, ⟨x0, hM⟩, ⟨fo, hLo⟩, hG, hsz⟩ := hI
  obtain ⟨tx, σ, hi, sv⟩ := w
  have hN := hC.okN
  have hzl : z ≤ H.size := by omega
  have hbl : b < s.heap.size := by omega
  refine lv_aload_n hx hb dL_law_216 rfl (lv_at hl 1 rfl) ?_
  refine j_Vi (n := 0) (As := []) hx hb hml hown hts hw (CD.rec9 hC hw) (c_X4_clearText l g z H z tx σ hi sv (Nat.le_refl _) hC) gL_law_X4_clearText rfl (by decide +kernel) ⟨Nat.le_of_ble_eq_true rfl, Nat.le_of_ble_eq_true rfl⟩ rfl hl.1 (Nat.le_of_ble_eq_true rfl) ⟨by show _ ≤ 601024; omega, by show _ ≤ 7293034; omega⟩ dL_law_217 (fun r H1 locs hp hw _ => ?_) rfl
  obtain ⟨rfl, hC, hf⟩ := hp
  have hM := hM.kept (fun q h1 h2 => hf.2 q (by omega))
  have hLo := hLo.kept (hf.2 _ (by omega))
  have hs9 := hf.1
  refine lv_aload_n hx hb dL_law_220 rfl (lv_at hl 2 rfl) ?_
  refine j_Vi (n := 0) (As := []) hx hb hml hown hts hw (hM.rec9 hw) (c_X5_clearText l g z H1 (z + 223) x0 tx σ hi sv (by omega) hM) gL_law_X5_clearText rfl (by decide +kernel) ⟨Nat.le_of_ble_eq_true rfl, Nat.le_of_ble_eq_true rfl⟩ rfl hl.1 (Nat.le_of_ble_eq_true rfl) ⟨by show _ ≤ 601024; omega, by show _ ≤ 7293034; omega⟩ dL_law_221 (fun r H2 locs hp hw _ => ?_) rfl
  obtain ⟨rfl, hM, hf⟩ := hp
  have hC := CD.kept hC (fun q h1 h2 => hf.2 q (by omega))
  have hLo := hLo.kept (hf.2 _ (by omega))
  have hsz2 := hf.1
  refine lv_icmp_eq (tgt := 1696) hx hb dL_law_224 (by decide) (fun _ => ?_) (fun q => absurd rfl q)
  refine W.widen (Nat.le_add_right _ 1) (Nat.le_add_right _ 6) ?_
  exact kk H2 locs ([], σ, hi, sv) ls hw ⟨hC, ⟨_, hM⟩, ⟨_, hLo⟩, ⟨hG.1.mono (by omega), fun s hs => (hG.2.1 s hs).mono (by omega), fun k s hs => (hG.2.2 k s hs).mono (by omega)⟩, by omega⟩ hl

set_option maxHeartbeats 4000000 in
set_option maxRecDepth 100000 in
theorem k_2 {p : Program} {l : Launch} {e : Env} {s : State} {m : MethodId} {below : List Frame} {meth : Method} {c : Code} {H : Heap} {locs : List Loc} {cells slots : Nat} {Q : State → Prop} {ls : Array Slot} {g : jG} {z b L i K : Nat} {xs : Nat → Int32} {w : Wd} (hl0 : l.stackTraces = false) (hx : p.tables.exec = Jvm.exec) (hb : c.code = cL_law) (hml : c.maxLocals = 7) (hown : s.vm.findClass RL = some m.cls) (hts : ∀ w ∈ wsL_law, w.before #[Value.ref b] s = true) (hE : jE s) (hX : va_X b L xs s s.heap) (hzs : s.heap.size = z) (hbz : b < z) (hL : L ≤ 2560) (hi5 : i + 5 ≤ L) (hK4 : 3600000 ≤ K) (hK : K < 2 ^ 29) (hw : jW g z s H locs) (hI : LI g z K H w) (hl : lv_has ls 7 (LL b z i)) (hc : cells + 1 ≤ 601024 ∧ slots + 6 ≤ 7293034) (kk : ∀ (H1 : Heap) (locs1 : List Loc) (w1 : Wd) (ls1 : Array Slot), jW g z s H1 locs1 → LI g z (K + 100000) H1 w1 → lv_has ls1 7 (LL b z i) → W p l e room_1 s m #[Value.ref b] below meth c H1 locs1 (cells + 1) (slots + 6) Q (F0 m 1696 ls1 [])) : W p l e room_1 s m #[Value.ref b] below meth c H locs cells slots Q (F0 m 229 ls []) := by
  obtain ⟨hC, ⟨x0, hM⟩, ⟨fo, hLo⟩, hG, hsz⟩ := hI
  obtain ⟨tx, σ, hi, sv⟩ := w
  have hN := hC.okN
  have hzl : z ≤ H.size := by omega
  have hbl : b < s.heap.size := by omega
  refine lv_aload_n hx hb dL_law_229 rfl (lv_at hl 1 rfl) ?_
  refine j_Vi (n := 0) (As := []) hx hb hml hown hts hw (CD.rec9 hC hw) (c_X4_errorPosition l g z H z tx σ hi sv (Nat.le_refl _) hC) gL_law_X4_errorPosition rfl (by decide +kernel) ⟨Nat.le_of_ble_eq_true rfl, Nat.le_of_ble_eq_true rfl⟩ rfl hl.1 (Nat.le_of_ble_eq_true rfl) ⟨by show _ ≤ 601024; omega, by show _ ≤ 7293034; omega⟩ dL_law_230 (fun r H1 locs hp hw _ => ?_) rfl
  obtain ⟨rfl, hC, hf⟩ := hp
  have hM := hM.kept (fun q h1 h2 => hf.2 q (by omega))
  have hLo := hLo.kept (hf.2 _ (by omega))
  have hs9 := hf.1
  refine lv_aload_n hx hb dL_law_233 rfl (lv_at hl 2 rfl) ?_
  refine j_Vi (n := 0) (As := []) hx hb hml hown hts hw (hM.rec9 hw) (c_X5_errorPosition l g z H1 (z + 223) x0 tx σ hi sv (by omega) hM) gL_law_X5_errorPosition rfl (by decide +kernel) ⟨Nat.le_of_ble_eq_true rfl, Nat.le_of_ble_eq_true rfl⟩ rfl hl.1 (Nat.le_of_ble_eq_true rfl) ⟨by show _ ≤ 601024; omega, by show _ ≤ 7293034; omega⟩ dL_law_234 (fun r H2 locs hp hw _ => ?_) rfl
  obtain ⟨rfl, hM, hf⟩ := hp
  have hC := CD.kept hC (fun q h1 h2 => hf.2 q (by omega))
  have hLo := hLo.kept (hf.2 _ (by omega))
  have hsz2 := hf.1
  refine lv_icmp_eq (tgt := 1696) hx hb dL_law_237 (by decide) (fun _ => ?_) (fun q => absurd rfl q)
  refine W.widen (Nat.le_add_right _ 1) (Nat.le_add_right _ 6) ?_
  exact kk H2 locs (tx, σ, hi, sv) ls hw ⟨hC, ⟨_, hM⟩, ⟨_, hLo⟩, ⟨hG.1.mono (by omega), fun s hs => (hG.2.1 s hs).mono (by omega), fun k s hs => (hG.2.2 k s hs).mono (by omega)⟩, by omega⟩ hl

set_option maxHeartbeats 4000000 in
set_option maxRecDepth 100000 in
theorem k_3 {p : Program} {l : Launch} {e : Env} {s : State} {m : MethodId} {below : List Frame} {meth : Method} {c : Code} {H : Heap} {locs : List Loc} {cells slots : Nat} {Q : State → Prop} {ls : Array Slot} {g : jG} {z b L i K : Nat} {xs : Nat → Int32} {w : Wd} (hl0 : l.stackTraces = false) (hx : p.tables.exec = Jvm.exec) (hb : c.code = cL_law) (hml : c.maxLocals = 7) (hown : s.vm.findClass RL = some m.cls) (hts : ∀ w ∈ wsL_law, w.before #[Value.ref b] s = true) (hE : jE s) (hX : va_X b L xs s s.heap) (hzs : s.heap.size = z) (hbz : b < z) (hL : L ≤ 2560) (hi5 : i + 5 ≤ L) (hK4 : 3600000 ≤ K) (hK : K < 2 ^ 29) (hw : jW g z s H locs) (hI : LI g z K H w) (hl : lv_has ls 7 (LL b z i)) (hc : cells + 1 ≤ 601024 ∧ slots + 6 ≤ 7293034) (kk : ∀ (H1 : Heap) (locs1 : List Loc) (w1 : Wd) (ls1 : Array Slot), jW g z s H1 locs1 → LI g z (K + 100000) H1 w1 → lv_has ls1 7 (LL b z i) → W p l e room_1 s m #[Value.ref b] below meth c H1 locs1 (cells + 1) (slots + 6) Q (F0 m 1696 ls1 [])) : W p l e room_1 s m #[Value.ref b] below meth c H locs cells slots Q (F0 m 242 ls []) := by
  obtain ⟨hC, ⟨x0, hM⟩, ⟨fo, hLo⟩, hG, hsz⟩ := hI
  obtain ⟨tx, σ, hi, sv⟩ := w
  have hN := hC.okN
  have hzl : z ≤ H.size := by omega
  have hbl : b < s.heap.size := by omega
  refine lv_aload_n hx hb dL_law_242 rfl (lv_at hl 1 rfl) ?_
  refine lv_aload_n hx hb dL_law_243 rfl (lv_at hl 3 rfl) ?_
  refine j_HS (n := 2) (As := [.ref z, .ref (z + 232)]) (rest := []) hx hb hml hown hts hw hE (h_load l hl0 g z H z (z + 232)  tx σ hi sv fo (Nat.le_refl _) (by omega) (by omega) (by omega) hC hLo) gL_law_L_load rfl (by decide +kernel) ⟨Nat.le_of_ble_eq_true rfl, Nat.le_of_ble_eq_true rfl⟩ rfl hl.1 (Nat.le_of_ble_eq_true rfl) hc dL_law_244 (fun r H1 locs hp hw => ?_) rfl
  obtain ⟨O, hO⟩ : ∃ O, O = opL (tx, σ, hi, sv) := ⟨_, rfl⟩
  rw [← hO] at hp
  obtain ⟨hO4, rfl, hC, ⟨fo, hLo, hfo⟩, hs9, hq9⟩ := hp
  have hM := hM.kept (fun q h1 h2 => hq9 q (by omega) (by omega) (by omega))
  have hG1 : good (K + 100000) O.2.2 := by rw [hO]; exact good_L hG hK4
  refine lv_istore (lv' := [(5, .int _), (0, .ref _), (1, .ref _), (2, .ref _), (3, .ref _), (4, .int _)]) hx hb dL_law_247 hl (by decide) rfl (fun ls hl => ?_)
  refine lv_aload_n hx hb dL_law_249 rfl (lv_at hl 3 rfl) ?_
  refine j_Vi (n := 0) (As := []) hx hb hml hown hts hw (hM.rec9 hw) (c_X5_load l g z H1 (z + 223)  x0 tx σ hi sv (by omega) hM) gL_law_X5_load rfl (by decide +kernel) ⟨Nat.le_of_ble_eq_true rfl, Nat.le_of_ble_eq_true rfl⟩ rfl hl.1 (Nat.le_of_ble_eq_true rfl) ⟨by show _ ≤ 601024; omega, by show _ ≤ 7293034; omega⟩ dL_law_250 (fun r H2 locs hp hw _ => ?_) rfl
  obtain ⟨hrr, hM, hf⟩ := hp
  have hrr : O.1 = 0 → r = O.2.1 := by rw [hO]; exact hrr
  have hM : MW g H2 (z + 223) (nI O.1) O.2.2 := by rw [hO]; exact hM
  have hC := CD.kept hC (fun q h1 h2 => hf.2 q (by omega))
  have hLo := hLo.kept (hf.2 _ (by omega))
  have hsz2 := hf.1
  refine lv_istore (lv' := [(6, .int _), (5, .int _), (0, .ref _), (1, .ref _), (2, .ref _), (3, .ref _), (4, .int _)]) hx hb dL_law_253 hl (by decide) rfl (fun ls hl => ?_)
  refine lv_aload_n hx hb dL_law_255 rfl (lv_at hl 4 rfl) ?_
  obtain ⟨x3, x4, x5, x14, sn, sc, rd, nw, tr, dy, kp, ik, tk, h0, h1, h2, h3, h4, h5, h6, h7, h8, hMI⟩ := id hM
  refine j_Vp (n := 0) (As := []) hx hb hml hown hts hw (hM.rec9 hw) (c_X5_thrown l g z H2 (z + 223) _ _ _ _ _ _ _ _ h0) gL_law_X5_thrown rfl (by decide +kernel) ⟨Nat.le_of_ble_eq_true rfl, Nat.le_of_ble_eq_true rfl⟩ rfl hl.1 (Nat.le_of_ble_eq_true rfl) ⟨by show _ ≤ 601024; omega, by show _ ≤ 7293034; omega⟩ dL_law_256 (fun r2 locs hr2 hw => ?_) rfl
  obtain rfl : r2 = nI O.1 := hr2
  refine lv_iload hx hb dL_law_259 (lv_at hl 1 rfl) ?_
  refine lv_icmp_eq (tgt := 266) hx hb dL_law_261 (by decide) (fun _ => ?_) (fun q => absurd rfl q)
  refine lv_iload hx hb dL_law_266 (lv_at hl 1 rfl) ?_
  refine jz_ne (tgt := 283) hx hb dL_law_268 (by decide) (by omega) (fun _ => ?_) (fun hz0 => ?_)
  · refine lv_goto (tgt := 1696) hx hb dL_law_283 (by decide) ?_
    exact kk H2 locs O.2.2 ls hw ⟨hC, ⟨_, hM⟩, ⟨_, hLo⟩, hG1, by omega⟩ (lv_sub hl [2, 3, 4, 5, 6] rfl)
  · have hrr := hrr hz0
    have hfo := hfo hz0
    refine lv_aload_n hx hb dL_law_271 rfl (lv_at hl 5 rfl) ?_
    refine lv_iconst (v := nI 0) hx hb dL_law_272 (by decide) ?_
    refine j_lald hx hb hw hLo (k := 0) rfl (by decide) (by decide) dL_law_273 ?_
    rw [hfo]
    refine lv_iload hx hb dL_law_274 (lv_at hl 0 rfl) ?_
    rw [hrr]
    refine lv_i2l (v := O.2.1.toInt64) hx hb dL_law_276 rfl ?_
    refine W.lcmp hx hb dL_law_277 ?_
    refine jl_eq (tgt := 283) hx hb dL_law_278 (by decide) (fun _ => ?_) (fun q => absurd rfl q)
    refine lv_goto (tgt := 1696) hx hb dL_law_283 (by decide) ?_
    exact kk H2 locs O.2.2 ls hw ⟨hC, ⟨_, hM⟩, ⟨_, hLo⟩, hG1, by omega⟩ (lv_sub hl [2, 3, 4, 5, 6] rfl)

set_option maxHeartbeats 4000000 in
set_option maxRecDepth 100000 in
theorem k_4 {p : Program} {l : Launch} {e : Env} {s : State} {m : MethodId} {below : List Frame} {meth : Method} {c : Code} {H : Heap} {locs : List Loc} {cells slots : Nat} {Q : State → Prop} {ls : Array Slot} {g : jG} {z b L i K : Nat} {xs : Nat → Int32} {w : Wd} (hl0 : l.stackTraces = false) (hx : p.tables.exec = Jvm.exec) (hb : c.code = cL_law) (hml : c.maxLocals = 7) (hown : s.vm.findClass RL = some m.cls) (hts : ∀ w ∈ wsL_law, w.before #[Value.ref b] s = true) (hE : jE s) (hX : va_X b L xs s s.heap) (hzs : s.heap.size = z) (hbz : b < z) (hL : L ≤ 2560) (hi5 : i + 5 ≤ L) (hK4 : 3600000 ≤ K) (hK : K < 2 ^ 29) (hw : jW g z s H locs) (hI : LI g z K H w) (hl : lv_has ls 7 (LL b z i)) (hc : cells + 1 ≤ 601024 ∧ slots + 6 ≤ 7293034) (kk : ∀ (H1 : Heap) (locs1 : List Loc) (w1 : Wd) (ls1 : Array Slot), jW g z s H1 locs1 → LI g z (K + 100000) H1 w1 → lv_has ls1 7 (LL b z i) → W p l e room_1 s m #[Value.ref b] below meth c H1 locs1 (cells + 1) (slots + 6) Q (F0 m 1696 ls1 [])) : W p l e room_1 s m #[Value.ref b] below meth c H locs cells slots Q (F0 m 286 ls []) := by
  obtain ⟨hC, ⟨x0, hM⟩, ⟨fo, hLo⟩, hG, hsz⟩ := hI
  obtain ⟨tx, σ, hi, sv⟩ := w
  have hN := hC.okN
  have hzl : z ≤ H.size := by omega
  have hbl : b < s.heap.size := by omega
  refine lv_aload_n hx hb dL_law_286 rfl (lv_at hl 1 rfl) ?_
  refine lv_aload_n hx hb dL_law_287 rfl (lv_at hl 0 rfl) ?_
  refine lv_iload hx hb dL_law_288 (lv_at hl 4 rfl) ?_
  refine lv_iconst (v := nI 1) hx hb dL_law_290 (by decide) ?_
  refine j_addN hx hb dL_law_291 ?_
  refine j_sc hx hb hw hX hbl hbz hL (k := i + 1) (by omega) dL_law_292 ?_
  refine lv_aload_n hx hb dL_law_293 rfl (lv_at hl 3 rfl) ?_
  refine j_HS (n := 3) (As := [.ref z, .int (xs (i + 1)), .ref (z + 232)]) (rest := []) hx hb hml hown hts hw hE (h_about l hl0 g z H z (z + 232) (xs (i + 1)) tx σ hi sv fo (Nat.le_refl _) (by omega) (by omega) (by omega) hC hLo) gL_law_L_about rfl (by decide +kernel) ⟨Nat.le_of_ble_eq_true rfl, Nat.le_of_ble_eq_true rfl⟩ rfl hl.1 (Nat.le_of_ble_eq_true rfl) hc dL_law_294 (fun r H1 locs hp hw => ?_) rfl
  obtain ⟨O, hO⟩ : ∃ O, O = opQ (fAbout σ (xs (i + 1))) (tx, σ, hi, sv) := ⟨_, rfl⟩
  rw [← hO] at hp
  obtain ⟨hO4, rfl, hC, ⟨fo, hLo, hfo⟩, hs9, hq9⟩ := hp
  have hM := hM.kept (fun q h1 h2 => hq9 q (by omega) (by omega) (by omega))
  have hG1 : good (K + 100000) O.2.2 := by rw [hO]; exact good_Q hG
  refine lv_istore (lv' := [(5, .int _), (0, .ref _), (1, .ref _), (2, .ref _), (3, .ref _), (4, .int _)]) hx hb dL_law_297 hl (by decide) rfl (fun ls hl => ?_)
  refine lv_aload_n hx hb dL_law_299 rfl (lv_at hl 3 rfl) ?_
  refine lv_aload_n hx hb dL_law_300 rfl (lv_at hl 1 rfl) ?_
  refine lv_iload hx hb dL_law_301 (lv_at hl 5 rfl) ?_
  refine lv_iconst (v := nI 1) hx hb dL_law_303 (by decide) ?_
  refine j_addN hx hb dL_law_304 ?_
  refine j_sc hx hb hw hX hbl hbz hL (k := i + 1) (by omega) dL_law_305 ?_
  refine j_Vi (n := 1) (As := [.int (xs (i + 1))]) hx hb hml hown hts hw (hM.rec9 hw) (c_X5_about l g z H1 (z + 223) (xs (i + 1)) x0 tx σ hi sv (by omega) hM) gL_law_X5_about rfl (by decide +kernel) ⟨Nat.le_of_ble_eq_true rfl, Nat.le_of_ble_eq_true rfl⟩ rfl hl.1 (Nat.le_of_ble_eq_true rfl) ⟨by show _ ≤ 601024; omega, by show _ ≤ 7293034; omega⟩ dL_law_306 (fun r H2 locs hp hw _ => ?_) rfl
  obtain ⟨hrr, hM, hf⟩ := hp
  have hrr : O.1 = 0 → r = O.2.1 := by rw [hO]; exact hrr
  have hM : MW g H2 (z + 223) (nI O.1) O.2.2 := by rw [hO]; exact hM
  have hC := CD.kept hC (fun q h1 h2 => hf.2 q (by omega))
  have hLo := hLo.kept (hf.2 _ (by omega))
  have hsz2 := hf.1
  refine lv_istore (lv' := [(6, .int _), (5, .int _), (0, .ref _), (1, .ref _), (2, .ref _), (3, .ref _), (4, .int _)]) hx hb dL_law_309 hl (by decide) rfl (fun ls hl => ?_)
  refine lv_aload_n hx hb dL_law_311 rfl (lv_at hl 4 rfl) ?_
  obtain ⟨x3, x4, x5, x14, sn, sc, rd, nw, tr, dy, kp, ik, tk, h0, h1, h2, h3, h4, h5, h6, h7, h8, hMI⟩ := id hM
  refine j_Vp (n := 0) (As := []) hx hb hml hown hts hw (hM.rec9 hw) (c_X5_thrown l g z H2 (z + 223) _ _ _ _ _ _ _ _ h0) gL_law_X5_thrown rfl (by decide +kernel) ⟨Nat.le_of_ble_eq_true rfl, Nat.le_of_ble_eq_true rfl⟩ rfl hl.1 (Nat.le_of_ble_eq_true rfl) ⟨by show _ ≤ 601024; omega, by show _ ≤ 7293034; omega⟩ dL_law_312 (fun r2 locs hr2 hw => ?_) rfl
  obtain rfl : r2 = nI O.1 := hr2
  refine lv_iload hx hb dL_law_315 (lv_at hl 1 rfl) ?_
  refine lv_icmp_eq (tgt := 322) hx hb dL_law_317 (by decide) (fun _ => ?_) (fun q => absurd rfl q)
  refine lv_iload hx hb dL_law_322 (lv_at hl 1 rfl) ?_
  refine jz_ne (tgt := 339) hx hb dL_law_324 (by decide) (by omega) (fun _ => ?_) (fun hz0 => ?_)
  · refine lv_goto (tgt := 1696) hx hb dL_law_339 (by decide) ?_
    exact kk H2 locs O.2.2 ls hw ⟨hC, ⟨_, hM⟩, ⟨_, hLo⟩, hG1, by omega⟩ (lv_sub hl [2, 3, 4, 5, 6] rfl)
  · have hrr := hrr hz0
    have hfo := hfo hz0
    refine lv_aload_n hx hb dL_law_327 rfl (lv_at hl 5 rfl) ?_
    refine lv_iconst (v := nI 0) hx hb dL_law_328 (by decide) ?_
    refine j_lald hx hb hw hLo (k := 0) rfl (by decide) (by decide) dL_law_329 ?_
    rw [hfo]
    refine lv_iload hx hb dL_law_330 (lv_at hl 0 rfl) ?_
    rw [hrr]
    refine lv_i2l (v := O.2.1.toInt64) hx hb dL_law_332 rfl ?_
    refine W.lcmp hx hb dL_law_333 ?_
    refine jl_eq (tgt := 339) hx hb dL_law_334 (by decide) (fun _ => ?_) (fun q => absurd rfl q)
    refine lv_goto (tgt := 1696) hx hb dL_law_339 (by decide) ?_
    exact kk H2 locs O.2.2 ls hw ⟨hC, ⟨_, hM⟩, ⟨_, hLo⟩, hG1, by omega⟩ (lv_sub hl [2, 3, 4, 5, 6] rfl)

set_option maxHeartbeats 4000000 in
set_option maxRecDepth 100000 in
theorem k_5 {p : Program} {l : Launch} {e : Env} {s : State} {m : MethodId} {below : List Frame} {meth : Method} {c : Code} {H : Heap} {locs : List Loc} {cells slots : Nat} {Q : State → Prop} {ls : Array Slot} {g : jG} {z b L i K : Nat} {xs : Nat → Int32} {w : Wd} (hl0 : l.stackTraces = false) (hx : p.tables.exec = Jvm.exec) (hb : c.code = cL_law) (hml : c.maxLocals = 7) (hown : s.vm.findClass RL = some m.cls) (hts : ∀ w ∈ wsL_law, w.before #[Value.ref b] s = true) (hE : jE s) (hX : va_X b L xs s s.heap) (hzs : s.heap.size = z) (hbz : b < z) (hL : L ≤ 2560) (hi5 : i + 5 ≤ L) (hK4 : 3600000 ≤ K) (hK : K < 2 ^ 29) (hw : jW g z s H locs) (hI : LI g z K H w) (hl : lv_has ls 7 (LL b z i)) (hc : cells + 1 ≤ 601024 ∧ slots + 6 ≤ 7293034) (kk : ∀ (H1 : Heap) (locs1 : List Loc) (w1 : Wd) (ls1 : Array Slot), jW g z s H1 locs1 → LI g z (K + 100000) H1 w1 → lv_has ls1 7 (LL b z i) → W p l e room_1 s m #[Value.ref b] below meth c H1 locs1 (cells + 1) (slots + 6) Q (F0 m 1696 ls1 [])) : W p l e room_1 s m #[Value.ref b] below meth c H locs cells slots Q (F0 m 342 ls []) := by
  obtain ⟨hC, ⟨x0, hM⟩, ⟨fo, hLo⟩, hG, hsz⟩ := hI
  obtain ⟨tx, σ, hi, sv⟩ := w
  have hN := hC.okN
  have hzl : z ≤ H.size := by omega
  have hbl : b < s.heap.size := by omega
  refine lv_aload_n hx hb dL_law_342 rfl (lv_at hl 1 rfl) ?_
  refine lv_aload_n hx hb dL_law_343 rfl (lv_at hl 0 rfl) ?_
  refine lv_iload hx hb dL_law_344 (lv_at hl 4 rfl) ?_
  refine lv_iconst (v := nI 1) hx hb dL_law_346 (by decide) ?_
  refine j_addN hx hb dL_law_347 ?_
  refine j_sc hx hb hw hX hbl hbz hL (k := i + 1) (by omega) dL_law_348 ?_
  refine lv_aload_n hx hb dL_law_349 rfl (lv_at hl 0 rfl) ?_
  refine lv_iload hx hb dL_law_350 (lv_at hl 4 rfl) ?_
  refine lv_iconst (v := nI 2) hx hb dL_law_352 (by decide) ?_
  refine j_addN hx hb dL_law_353 ?_
  refine j_sc hx hb hw hX hbl hbz hL (k := i + 2) (by omega) dL_law_354 ?_
  refine lv_aload_n hx hb dL_law_355 rfl (lv_at hl 3 rfl) ?_
  refine j_HS (n := 4) (As := [.ref z, .int (xs (i + 1)), .int (xs (i + 2)), .ref (z + 232)]) (rest := []) hx hb hml hown hts hw hE (h_order l hl0 g z H z (z + 232) (xs (i + 1)) (xs (i + 2)) tx σ hi sv fo (Nat.le_refl _) (by omega) (by omega) (by omega) hC hLo) gL_law_L_order rfl (by decide +kernel) ⟨Nat.le_of_ble_eq_true rfl, Nat.le_of_ble_eq_true rfl⟩ rfl hl.1 (Nat.le_of_ble_eq_true rfl) hc dL_law_356 (fun r H1 locs hp hw => ?_) rfl
  obtain ⟨O, hO⟩ : ∃ O, O = opQ (fOrder σ (xs (i + 1)) (xs (i + 2))) (tx, σ, hi, sv) := ⟨_, rfl⟩
  rw [← hO] at hp
  obtain ⟨hO4, rfl, hC, ⟨fo, hLo, hfo⟩, hs9, hq9⟩ := hp
  have hM := hM.kept (fun q h1 h2 => hq9 q (by omega) (by omega) (by omega))
  have hG1 : good (K + 100000) O.2.2 := by rw [hO]; exact good_Q hG
  refine lv_istore (lv' := [(5, .int _), (0, .ref _), (1, .ref _), (2, .ref _), (3, .ref _), (4, .int _)]) hx hb dL_law_359 hl (by decide) rfl (fun ls hl => ?_)
  refine lv_aload_n hx hb dL_law_361 rfl (lv_at hl 3 rfl) ?_
  refine lv_aload_n hx hb dL_law_362 rfl (lv_at hl 1 rfl) ?_
  refine lv_iload hx hb dL_law_363 (lv_at hl 5 rfl) ?_
  refine lv_iconst (v := nI 1) hx hb dL_law_365 (by decide) ?_
  refine j_addN hx hb dL_law_366 ?_
  refine j_sc hx hb hw hX hbl hbz hL (k := i + 1) (by omega) dL_law_367 ?_
  refine lv_aload_n hx hb dL_law_368 rfl (lv_at hl 1 rfl) ?_
  refine lv_iload hx hb dL_law_369 (lv_at hl 5 rfl) ?_
  refine lv_iconst (v := nI 2) hx hb dL_law_371 (by decide) ?_
  refine j_addN hx hb dL_law_372 ?_
  refine j_sc hx hb hw hX hbl hbz hL (k := i + 2) (by omega) dL_law_373 ?_
  refine j_Vi (n := 2) (As := [.int (xs (i + 1)), .int (xs (i + 2))]) hx hb hml hown hts hw (hM.rec9 hw) (c_X5_order l g z H1 (z + 223) (xs (i + 1)) (xs (i + 2)) x0 tx σ hi sv (by omega) hM) gL_law_X5_order rfl (by decide +kernel) ⟨Nat.le_of_ble_eq_true rfl, Nat.le_of_ble_eq_true rfl⟩ rfl hl.1 (Nat.le_of_ble_eq_true rfl) ⟨by show _ ≤ 601024; omega, by show _ ≤ 7293034; omega⟩ dL_law_374 (fun r H2 locs hp hw _ => ?_) rfl
  obtain ⟨hrr, hM, hf⟩ := hp
  have hrr : O.1 = 0 → r = O.2.1 := by rw [hO]; exact hrr
  have hM : MW g H2 (z + 223) (nI O.1) O.2.2 := by rw [hO]; exact hM
  have hC := CD.kept hC (fun q h1 h2 => hf.2 q (by omega))
  have hLo := hLo.kept (hf.2 _ (by omega))
  have hsz2 := hf.1
  refine lv_istore (lv' := [(6, .int _), (5, .int _), (0, .ref _), (1, .ref _), (2, .ref _), (3, .ref _), (4, .int _)]) hx hb dL_law_377 hl (by decide) rfl (fun ls hl => ?_)
  refine lv_aload_n hx hb dL_law_379 rfl (lv_at hl 4 rfl) ?_
  obtain ⟨x3, x4, x5, x14, sn, sc, rd, nw, tr, dy, kp, ik, tk, h0, h1, h2, h3, h4, h5, h6, h7, h8, hMI⟩ := id hM
  refine j_Vp (n := 0) (As := []) hx hb hml hown hts hw (hM.rec9 hw) (c_X5_thrown l g z H2 (z + 223) _ _ _ _ _ _ _ _ h0) gL_law_X5_thrown rfl (by decide +kernel) ⟨Nat.le_of_ble_eq_true rfl, Nat.le_of_ble_eq_true rfl⟩ rfl hl.1 (Nat.le_of_ble_eq_true rfl) ⟨by show _ ≤ 601024; omega, by show _ ≤ 7293034; omega⟩ dL_law_380 (fun r2 locs hr2 hw => ?_) rfl
  obtain rfl : r2 = nI O.1 := hr2
  refine lv_iload hx hb dL_law_383 (lv_at hl 1 rfl) ?_
  refine lv_icmp_eq (tgt := 390) hx hb dL_law_385 (by decide) (fun _ => ?_) (fun q => absurd rfl q)
  refine lv_iload hx hb dL_law_390 (lv_at hl 1 rfl) ?_
  refine jz_ne (tgt := 407) hx hb dL_law_392 (by decide) (by omega) (fun _ => ?_) (fun hz0 => ?_)
  · refine lv_goto (tgt := 1696) hx hb dL_law_407 (by decide) ?_
    exact kk H2 locs O.2.2 ls hw ⟨hC, ⟨_, hM⟩, ⟨_, hLo⟩, hG1, by omega⟩ (lv_sub hl [2, 3, 4, 5, 6] rfl)
  · have hrr := hrr hz0
    have hfo := hfo hz0
    refine lv_aload_n hx hb dL_law_395 rfl (lv_at hl 5 rfl) ?_
    refine lv_iconst (v := nI 0) hx hb dL_law_396 (by decide) ?_
    refine j_lald hx hb hw hLo (k := 0) rfl (by decide) (by decide) dL_law_397 ?_
    rw [hfo]
    refine lv_iload hx hb dL_law_398 (lv_at hl 0 rfl) ?_
    rw [hrr]
    refine lv_i2l (v := O.2.1.toInt64) hx hb dL_law_400 rfl ?_
    refine W.lcmp hx hb dL_law_401 ?_
    refine jl_eq (tgt := 407) hx hb dL_law_402 (by decide) (fun _ => ?_) (fun q => absurd rfl q)
    refine lv_goto (tgt := 1696) hx hb dL_law_407 (by decide) ?_
    exact kk H2 locs O.2.2 ls hw ⟨hC, ⟨_, hM⟩, ⟨_, hLo⟩, hG1, by omega⟩ (lv_sub hl [2, 3, 4, 5, 6] rfl)

set_option maxHeartbeats 4000000 in
set_option maxRecDepth 100000 in
theorem k_6 {p : Program} {l : Launch} {e : Env} {s : State} {m : MethodId} {below : List Frame} {meth : Method} {c : Code} {H : Heap} {locs : List Loc} {cells slots : Nat} {Q : State → Prop} {ls : Array Slot} {g : jG} {z b L i K : Nat} {xs : Nat → Int32} {w : Wd} (hl0 : l.stackTraces = false) (hx : p.tables.exec = Jvm.exec) (hb : c.code = cL_law) (hml : c.maxLocals = 7) (hown : s.vm.findClass RL = some m.cls) (hts : ∀ w ∈ wsL_law, w.before #[Value.ref b] s = true) (hE : jE s) (hX : va_X b L xs s s.heap) (hzs : s.heap.size = z) (hbz : b < z) (hL : L ≤ 2560) (hi5 : i + 5 ≤ L) (hK4 : 3600000 ≤ K) (hK : K < 2 ^ 29) (hw : jW g z s H locs) (hI : LI g z K H w) (hl : lv_has ls 7 (LL b z i)) (hc : cells + 1 ≤ 601024 ∧ slots + 6 ≤ 7293034) (kk : ∀ (H1 : Heap) (locs1 : List Loc) (w1 : Wd) (ls1 : Array Slot), jW g z s H1 locs1 → LI g z (K + 100000) H1 w1 → lv_has ls1 7 (LL b z i) → W p l e room_1 s m #[Value.ref b] below meth c H1 locs1 (cells + 1) (slots + 6) Q (F0 m 1696 ls1 [])) : W p l e room_1 s m #[Value.ref b] below meth c H locs cells slots Q (F0 m 410 ls []) := by
  obtain ⟨hC, ⟨x0, hM⟩, ⟨fo, hLo⟩, hG, hsz⟩ := hI
  obtain ⟨tx, σ, hi, sv⟩ := w
  have hN := hC.okN
  have hzl : z ≤ H.size := by omega
  have hbl : b < s.heap.size := by omega
  refine lv_aload_n hx hb dL_law_410 rfl (lv_at hl 1 rfl) ?_
  refine lv_aload_n hx hb dL_law_411 rfl (lv_at hl 0 rfl) ?_
  refine lv_iload hx hb dL_law_412 (lv_at hl 4 rfl) ?_
  refine lv_iconst (v := nI 1) hx hb dL_law_414 (by decide) ?_
  refine j_addN hx hb dL_law_415 ?_
  refine j_sc hx hb hw hX hbl hbz hL (k := i + 1) (by omega) dL_law_416 ?_
  refine lv_aload_n hx hb dL_law_417 rfl (lv_at hl 0 rfl) ?_
  refine lv_iload hx hb dL_law_418 (lv_at hl 4 rfl) ?_
  refine lv_iconst (v := nI 2) hx hb dL_law_420 (by decide) ?_
  refine j_addN hx hb dL_law_421 ?_
  refine j_sc hx hb hw hX hbl hbz hL (k := i + 2) (by omega) dL_law_422 ?_
  refine lv_aload_n hx hb dL_law_423 rfl (lv_at hl 3 rfl) ?_
  refine j_HS (n := 4) (As := [.ref z, .int (xs (i + 1)), .int (xs (i + 2)), .ref (z + 232)]) (rest := []) hx hb hml hown hts hw hE (h_lot l hl0 g z H z (z + 232) (xs (i + 1)) (xs (i + 2)) tx σ hi sv fo (Nat.le_refl _) (by omega) (by omega) (by omega) hC hLo) gL_law_L_lot rfl (by decide +kernel) ⟨Nat.le_of_ble_eq_true rfl, Nat.le_of_ble_eq_true rfl⟩ rfl hl.1 (Nat.le_of_ble_eq_true rfl) hc dL_law_424 (fun r H1 locs hp hw => ?_) rfl
  obtain ⟨O, hO⟩ : ∃ O, O = opQ (fLot σ (xs (i + 1)) (xs (i + 2))) (tx, σ, hi, sv) := ⟨_, rfl⟩
  rw [← hO] at hp
  obtain ⟨hO4, rfl, hC, ⟨fo, hLo, hfo⟩, hs9, hq9⟩ := hp
  have hM := hM.kept (fun q h1 h2 => hq9 q (by omega) (by omega) (by omega))
  have hG1 : good (K + 100000) O.2.2 := by rw [hO]; exact good_Q hG
  refine lv_istore (lv' := [(5, .int _), (0, .ref _), (1, .ref _), (2, .ref _), (3, .ref _), (4, .int _)]) hx hb dL_law_427 hl (by decide) rfl (fun ls hl => ?_)
  refine lv_aload_n hx hb dL_law_429 rfl (lv_at hl 3 rfl) ?_
  refine lv_aload_n hx hb dL_law_430 rfl (lv_at hl 1 rfl) ?_
  refine lv_iload hx hb dL_law_431 (lv_at hl 5 rfl) ?_
  refine lv_iconst (v := nI 1) hx hb dL_law_433 (by decide) ?_
  refine j_addN hx hb dL_law_434 ?_
  refine j_sc hx hb hw hX hbl hbz hL (k := i + 1) (by omega) dL_law_435 ?_
  refine lv_aload_n hx hb dL_law_436 rfl (lv_at hl 1 rfl) ?_
  refine lv_iload hx hb dL_law_437 (lv_at hl 5 rfl) ?_
  refine lv_iconst (v := nI 2) hx hb dL_law_439 (by decide) ?_
  refine j_addN hx hb dL_law_440 ?_
  refine j_sc hx hb hw hX hbl hbz hL (k := i + 2) (by omega) dL_law_441 ?_
  refine j_Vi (n := 2) (As := [.int (xs (i + 1)), .int (xs (i + 2))]) hx hb hml hown hts hw (hM.rec9 hw) (c_X5_lot l g z H1 (z + 223) (xs (i + 1)) (xs (i + 2)) x0 tx σ hi sv (by omega) hM) gL_law_X5_lot rfl (by decide +kernel) ⟨Nat.le_of_ble_eq_true rfl, Nat.le_of_ble_eq_true rfl⟩ rfl hl.1 (Nat.le_of_ble_eq_true rfl) ⟨by show _ ≤ 601024; omega, by show _ ≤ 7293034; omega⟩ dL_law_442 (fun r H2 locs hp hw _ => ?_) rfl
  obtain ⟨hrr, hM, hf⟩ := hp
  have hrr : O.1 = 0 → r = O.2.1 := by rw [hO]; exact hrr
  have hM : MW g H2 (z + 223) (nI O.1) O.2.2 := by rw [hO]; exact hM
  have hC := CD.kept hC (fun q h1 h2 => hf.2 q (by omega))
  have hLo := hLo.kept (hf.2 _ (by omega))
  have hsz2 := hf.1
  refine lv_istore (lv' := [(6, .int _), (5, .int _), (0, .ref _), (1, .ref _), (2, .ref _), (3, .ref _), (4, .int _)]) hx hb dL_law_445 hl (by decide) rfl (fun ls hl => ?_)
  refine lv_aload_n hx hb dL_law_447 rfl (lv_at hl 4 rfl) ?_
  obtain ⟨x3, x4, x5, x14, sn, sc, rd, nw, tr, dy, kp, ik, tk, h0, h1, h2, h3, h4, h5, h6, h7, h8, hMI⟩ := id hM
  refine j_Vp (n := 0) (As := []) hx hb hml hown hts hw (hM.rec9 hw) (c_X5_thrown l g z H2 (z + 223) _ _ _ _ _ _ _ _ h0) gL_law_X5_thrown rfl (by decide +kernel) ⟨Nat.le_of_ble_eq_true rfl, Nat.le_of_ble_eq_true rfl⟩ rfl hl.1 (Nat.le_of_ble_eq_true rfl) ⟨by show _ ≤ 601024; omega, by show _ ≤ 7293034; omega⟩ dL_law_448 (fun r2 locs hr2 hw => ?_) rfl
  obtain rfl : r2 = nI O.1 := hr2
  refine lv_iload hx hb dL_law_451 (lv_at hl 1 rfl) ?_
  refine lv_icmp_eq (tgt := 458) hx hb dL_law_453 (by decide) (fun _ => ?_) (fun q => absurd rfl q)
  refine lv_iload hx hb dL_law_458 (lv_at hl 1 rfl) ?_
  refine jz_ne (tgt := 475) hx hb dL_law_460 (by decide) (by omega) (fun _ => ?_) (fun hz0 => ?_)
  · refine lv_goto (tgt := 1696) hx hb dL_law_475 (by decide) ?_
    exact kk H2 locs O.2.2 ls hw ⟨hC, ⟨_, hM⟩, ⟨_, hLo⟩, hG1, by omega⟩ (lv_sub hl [2, 3, 4, 5, 6] rfl)
  · have hrr := hrr hz0
    have hfo := hfo hz0
    refine lv_aload_n hx hb dL_law_463 rfl (lv_at hl 5 rfl) ?_
    refine lv_iconst (v := nI 0) hx hb dL_law_464 (by decide) ?_
    refine j_lald hx hb hw hLo (k := 0) rfl (by decide) (by decide) dL_law_465 ?_
    rw [hfo]
    refine lv_iload hx hb dL_law_466 (lv_at hl 0 rfl) ?_
    rw [hrr]
    refine lv_i2l (v := O.2.1.toInt64) hx hb dL_law_468 rfl ?_
    refine W.lcmp hx hb dL_law_469 ?_
    refine jl_eq (tgt := 475) hx hb dL_law_470 (by decide) (fun _ => ?_) (fun q => absurd rfl q)
    refine lv_goto (tgt := 1696) hx hb dL_law_475 (by decide) ?_
    exact kk H2 locs O.2.2 ls hw ⟨hC, ⟨_, hM⟩, ⟨_, hLo⟩, hG1, by omega⟩ (lv_sub hl [2, 3, 4, 5, 6] rfl)

set_option maxHeartbeats 4000000 in
set_option maxRecDepth 100000 in
theorem k_7 {p : Program} {l : Launch} {e : Env} {s : State} {m : MethodId} {below : List Frame} {meth : Method} {c : Code} {H : Heap} {locs : List Loc} {cells slots : Nat} {Q : State → Prop} {ls : Array Slot} {g : jG} {z b L i K : Nat} {xs : Nat → Int32} {w : Wd} (hl0 : l.stackTraces = false) (hx : p.tables.exec = Jvm.exec) (hb : c.code = cL_law) (hml : c.maxLocals = 7) (hown : s.vm.findClass RL = some m.cls) (hts : ∀ w ∈ wsL_law, w.before #[Value.ref b] s = true) (hE : jE s) (hX : va_X b L xs s s.heap) (hzs : s.heap.size = z) (hbz : b < z) (hL : L ≤ 2560) (hi5 : i + 5 ≤ L) (hK4 : 3600000 ≤ K) (hK : K < 2 ^ 29) (hw : jW g z s H locs) (hI : LI g z K H w) (hl : lv_has ls 7 (LL b z i)) (hc : cells + 1 ≤ 601024 ∧ slots + 6 ≤ 7293034) (kk : ∀ (H1 : Heap) (locs1 : List Loc) (w1 : Wd) (ls1 : Array Slot), jW g z s H1 locs1 → LI g z (K + 100000) H1 w1 → lv_has ls1 7 (LL b z i) → W p l e room_1 s m #[Value.ref b] below meth c H1 locs1 (cells + 1) (slots + 6) Q (F0 m 1696 ls1 [])) : W p l e room_1 s m #[Value.ref b] below meth c H locs cells slots Q (F0 m 478 ls []) := by
  obtain ⟨hC, ⟨x0, hM⟩, ⟨fo, hLo⟩, hG, hsz⟩ := hI
  obtain ⟨tx, σ, hi, sv⟩ := w
  have hN := hC.okN
  have hzl : z ≤ H.size := by omega
  have hbl : b < s.heap.size := by omega
  refine lv_aload_n hx hb dL_law_478 rfl (lv_at hl 1 rfl) ?_
  refine lv_aload_n hx hb dL_law_479 rfl (lv_at hl 0 rfl) ?_
  refine lv_iload hx hb dL_law_480 (lv_at hl 4 rfl) ?_
  refine lv_iconst (v := nI 1) hx hb dL_law_482 (by decide) ?_
  refine j_addN hx hb dL_law_483 ?_
  refine j_sc hx hb hw hX hbl hbz hL (k := i + 1) (by omega) dL_law_484 ?_
  refine lv_aload_n hx hb dL_law_485 rfl (lv_at hl 0 rfl) ?_
  refine lv_iload hx hb dL_law_486 (lv_at hl 4 rfl) ?_
  refine lv_iconst (v := nI 2) hx hb dL_law_488 (by decide) ?_
  refine j_addN hx hb dL_law_489 ?_
  refine j_sc hx hb hw hX hbl hbz hL (k := i + 2) (by omega) dL_law_490 ?_
  refine lv_aload_n hx hb dL_law_491 rfl (lv_at hl 3 rfl) ?_
  refine j_HS (n := 4) (As := [.ref z, .int (xs (i + 1)), .int (xs (i + 2)), .ref (z + 232)]) (rest := []) hx hb hml hown hts hw hE (h_reader l hl0 g z H z (z + 232) (xs (i + 1)) (xs (i + 2)) tx σ hi sv fo (Nat.le_refl _) (by omega) (by omega) (by omega) hC hLo) gL_law_L_reader rfl (by decide +kernel) ⟨Nat.le_of_ble_eq_true rfl, Nat.le_of_ble_eq_true rfl⟩ rfl hl.1 (Nat.le_of_ble_eq_true rfl) hc dL_law_492 (fun r H1 locs hp hw => ?_) rfl
  obtain ⟨O, hO⟩ : ∃ O, O = opQ (fReader σ (xs (i + 1)) (xs (i + 2))) (tx, σ, hi, sv) := ⟨_, rfl⟩
  rw [← hO] at hp
  obtain ⟨hO4, rfl, hC, ⟨fo, hLo, hfo⟩, hs9, hq9⟩ := hp
  have hM := hM.kept (fun q h1 h2 => hq9 q (by omega) (by omega) (by omega))
  have hG1 : good (K + 100000) O.2.2 := by rw [hO]; exact good_Q hG
  refine lv_istore (lv' := [(5, .int _), (0, .ref _), (1, .ref _), (2, .ref _), (3, .ref _), (4, .int _)]) hx hb dL_law_495 hl (by decide) rfl (fun ls hl => ?_)
  refine lv_aload_n hx hb dL_law_497 rfl (lv_at hl 3 rfl) ?_
  refine lv_aload_n hx hb dL_law_498 rfl (lv_at hl 1 rfl) ?_
  refine lv_iload hx hb dL_law_499 (lv_at hl 5 rfl) ?_
  refine lv_iconst (v := nI 1) hx hb dL_law_501 (by decide) ?_
  refine j_addN hx hb dL_law_502 ?_
  refine j_sc hx hb hw hX hbl hbz hL (k := i + 1) (by omega) dL_law_503 ?_
  refine lv_aload_n hx hb dL_law_504 rfl (lv_at hl 1 rfl) ?_
  refine lv_iload hx hb dL_law_505 (lv_at hl 5 rfl) ?_
  refine lv_iconst (v := nI 2) hx hb dL_law_507 (by decide) ?_
  refine j_addN hx hb dL_law_508 ?_
  refine j_sc hx hb hw hX hbl hbz hL (k := i + 2) (by omega) dL_law_509 ?_
  refine j_Vi (n := 2) (As := [.int (xs (i + 1)), .int (xs (i + 2))]) hx hb hml hown hts hw (hM.rec9 hw) (c_X5_reader l g z H1 (z + 223) (xs (i + 1)) (xs (i + 2)) x0 tx σ hi sv (by omega) hM) gL_law_X5_reader rfl (by decide +kernel) ⟨Nat.le_of_ble_eq_true rfl, Nat.le_of_ble_eq_true rfl⟩ rfl hl.1 (Nat.le_of_ble_eq_true rfl) ⟨by show _ ≤ 601024; omega, by show _ ≤ 7293034; omega⟩ dL_law_510 (fun r H2 locs hp hw _ => ?_) rfl
  obtain ⟨hrr, hM, hf⟩ := hp
  have hrr : O.1 = 0 → r = O.2.1 := by rw [hO]; exact hrr
  have hM : MW g H2 (z + 223) (nI O.1) O.2.2 := by rw [hO]; exact hM
  have hC := CD.kept hC (fun q h1 h2 => hf.2 q (by omega))
  have hLo := hLo.kept (hf.2 _ (by omega))
  have hsz2 := hf.1
  refine lv_istore (lv' := [(6, .int _), (5, .int _), (0, .ref _), (1, .ref _), (2, .ref _), (3, .ref _), (4, .int _)]) hx hb dL_law_513 hl (by decide) rfl (fun ls hl => ?_)
  refine lv_aload_n hx hb dL_law_515 rfl (lv_at hl 4 rfl) ?_
  obtain ⟨x3, x4, x5, x14, sn, sc, rd, nw, tr, dy, kp, ik, tk, h0, h1, h2, h3, h4, h5, h6, h7, h8, hMI⟩ := id hM
  refine j_Vp (n := 0) (As := []) hx hb hml hown hts hw (hM.rec9 hw) (c_X5_thrown l g z H2 (z + 223) _ _ _ _ _ _ _ _ h0) gL_law_X5_thrown rfl (by decide +kernel) ⟨Nat.le_of_ble_eq_true rfl, Nat.le_of_ble_eq_true rfl⟩ rfl hl.1 (Nat.le_of_ble_eq_true rfl) ⟨by show _ ≤ 601024; omega, by show _ ≤ 7293034; omega⟩ dL_law_516 (fun r2 locs hr2 hw => ?_) rfl
  obtain rfl : r2 = nI O.1 := hr2
  refine lv_iload hx hb dL_law_519 (lv_at hl 1 rfl) ?_
  refine lv_icmp_eq (tgt := 526) hx hb dL_law_521 (by decide) (fun _ => ?_) (fun q => absurd rfl q)
  refine lv_iload hx hb dL_law_526 (lv_at hl 1 rfl) ?_
  refine jz_ne (tgt := 543) hx hb dL_law_528 (by decide) (by omega) (fun _ => ?_) (fun hz0 => ?_)
  · refine lv_goto (tgt := 1696) hx hb dL_law_543 (by decide) ?_
    exact kk H2 locs O.2.2 ls hw ⟨hC, ⟨_, hM⟩, ⟨_, hLo⟩, hG1, by omega⟩ (lv_sub hl [2, 3, 4, 5, 6] rfl)
  · have hrr := hrr hz0
    have hfo := hfo hz0
    refine lv_aload_n hx hb dL_law_531 rfl (lv_at hl 5 rfl) ?_
    refine lv_iconst (v := nI 0) hx hb dL_law_532 (by decide) ?_
    refine j_lald hx hb hw hLo (k := 0) rfl (by decide) (by decide) dL_law_533 ?_
    rw [hfo]
    refine lv_iload hx hb dL_law_534 (lv_at hl 0 rfl) ?_
    rw [hrr]
    refine lv_i2l (v := O.2.1.toInt64) hx hb dL_law_536 rfl ?_
    refine W.lcmp hx hb dL_law_537 ?_
    refine jl_eq (tgt := 543) hx hb dL_law_538 (by decide) (fun _ => ?_) (fun q => absurd rfl q)
    refine lv_goto (tgt := 1696) hx hb dL_law_543 (by decide) ?_
    exact kk H2 locs O.2.2 ls hw ⟨hC, ⟨_, hM⟩, ⟨_, hLo⟩, hG1, by omega⟩ (lv_sub hl [2, 3, 4, 5, 6] rfl)

set_option maxHeartbeats 4000000 in
set_option maxRecDepth 100000 in
theorem k_8 {p : Program} {l : Launch} {e : Env} {s : State} {m : MethodId} {below : List Frame} {meth : Method} {c : Code} {H : Heap} {locs : List Loc} {cells slots : Nat} {Q : State → Prop} {ls : Array Slot} {g : jG} {z b L i K : Nat} {xs : Nat → Int32} {w : Wd} (hl0 : l.stackTraces = false) (hx : p.tables.exec = Jvm.exec) (hb : c.code = cL_law) (hml : c.maxLocals = 7) (hown : s.vm.findClass RL = some m.cls) (hts : ∀ w ∈ wsL_law, w.before #[Value.ref b] s = true) (hE : jE s) (hX : va_X b L xs s s.heap) (hzs : s.heap.size = z) (hbz : b < z) (hL : L ≤ 2560) (hi5 : i + 5 ≤ L) (hK4 : 3600000 ≤ K) (hK : K < 2 ^ 29) (hw : jW g z s H locs) (hI : LI g z K H w) (hl : lv_has ls 7 (LL b z i)) (hc : cells + 1 ≤ 601024 ∧ slots + 6 ≤ 7293034) (kk : ∀ (H1 : Heap) (locs1 : List Loc) (w1 : Wd) (ls1 : Array Slot), jW g z s H1 locs1 → LI g z (K + 100000) H1 w1 → lv_has ls1 7 (LL b z i) → W p l e room_1 s m #[Value.ref b] below meth c H1 locs1 (cells + 1) (slots + 6) Q (F0 m 1696 ls1 [])) : W p l e room_1 s m #[Value.ref b] below meth c H locs cells slots Q (F0 m 546 ls []) := by
  obtain ⟨hC, ⟨x0, hM⟩, ⟨fo, hLo⟩, hG, hsz⟩ := hI
  obtain ⟨tx, σ, hi, sv⟩ := w
  have hN := hC.okN
  have hzl : z ≤ H.size := by omega
  have hbl : b < s.heap.size := by omega
  refine lv_aload_n hx hb dL_law_546 rfl (lv_at hl 1 rfl) ?_
  refine lv_aload_n hx hb dL_law_547 rfl (lv_at hl 0 rfl) ?_
  refine lv_iload hx hb dL_law_548 (lv_at hl 4 rfl) ?_
  refine lv_iconst (v := nI 1) hx hb dL_law_550 (by decide) ?_
  refine j_addN hx hb dL_law_551 ?_
  refine j_sc hx hb hw hX hbl hbz hL (k := i + 1) (by omega) dL_law_552 ?_
  refine lv_aload_n hx hb dL_law_553 rfl (lv_at hl 0 rfl) ?_
  refine lv_iload hx hb dL_law_554 (lv_at hl 4 rfl) ?_
  refine lv_iconst (v := nI 2) hx hb dL_law_556 (by decide) ?_
  refine j_addN hx hb dL_law_557 ?_
  refine j_sc hx hb hw hX hbl hbz hL (k := i + 2) (by omega) dL_law_558 ?_
  refine lv_aload_n hx hb dL_law_559 rfl (lv_at hl 3 rfl) ?_
  refine j_HS (n := 4) (As := [.ref z, .int (xs (i + 1)), .int (xs (i + 2)), .ref (z + 232)]) (rest := []) hx hb hml hown hts hw hE (h_delivered l hl0 g z H z (z + 232) (xs (i + 1)) (xs (i + 2)) tx σ hi sv fo (Nat.le_refl _) (by omega) (by omega) (by omega) hC hLo) gL_law_L_delivered rfl (by decide +kernel) ⟨Nat.le_of_ble_eq_true rfl, Nat.le_of_ble_eq_true rfl⟩ rfl hl.1 (Nat.le_of_ble_eq_true rfl) hc dL_law_560 (fun r H1 locs hp hw => ?_) rfl
  obtain ⟨O, hO⟩ : ∃ O, O = opQ (fDel σ (xs (i + 1)) (xs (i + 2))) (tx, σ, hi, sv) := ⟨_, rfl⟩
  rw [← hO] at hp
  obtain ⟨hO4, rfl, hC, ⟨fo, hLo, hfo⟩, hs9, hq9⟩ := hp
  have hM := hM.kept (fun q h1 h2 => hq9 q (by omega) (by omega) (by omega))
  have hG1 : good (K + 100000) O.2.2 := by rw [hO]; exact good_Q hG
  refine lv_istore (lv' := [(5, .int _), (0, .ref _), (1, .ref _), (2, .ref _), (3, .ref _), (4, .int _)]) hx hb dL_law_563 hl (by decide) rfl (fun ls hl => ?_)
  refine lv_aload_n hx hb dL_law_565 rfl (lv_at hl 3 rfl) ?_
  refine lv_aload_n hx hb dL_law_566 rfl (lv_at hl 1 rfl) ?_
  refine lv_iload hx hb dL_law_567 (lv_at hl 5 rfl) ?_
  refine lv_iconst (v := nI 1) hx hb dL_law_569 (by decide) ?_
  refine j_addN hx hb dL_law_570 ?_
  refine j_sc hx hb hw hX hbl hbz hL (k := i + 1) (by omega) dL_law_571 ?_
  refine lv_aload_n hx hb dL_law_572 rfl (lv_at hl 1 rfl) ?_
  refine lv_iload hx hb dL_law_573 (lv_at hl 5 rfl) ?_
  refine lv_iconst (v := nI 2) hx hb dL_law_575 (by decide) ?_
  refine j_addN hx hb dL_law_576 ?_
  refine j_sc hx hb hw hX hbl hbz hL (k := i + 2) (by omega) dL_law_577 ?_
  refine j_Vi (n := 2) (As := [.int (xs (i + 1)), .int (xs (i + 2))]) hx hb hml hown hts hw (hM.rec9 hw) (c_X5_delivered l g z H1 (z + 223) (xs (i + 1)) (xs (i + 2)) x0 tx σ hi sv (by omega) hM) gL_law_X5_delivered rfl (by decide +kernel) ⟨Nat.le_of_ble_eq_true rfl, Nat.le_of_ble_eq_true rfl⟩ rfl hl.1 (Nat.le_of_ble_eq_true rfl) ⟨by show _ ≤ 601024; omega, by show _ ≤ 7293034; omega⟩ dL_law_578 (fun r H2 locs hp hw _ => ?_) rfl
  obtain ⟨hrr, hM, hf⟩ := hp
  have hrr : O.1 = 0 → r = O.2.1 := by rw [hO]; exact hrr
  have hM : MW g H2 (z + 223) (nI O.1) O.2.2 := by rw [hO]; exact hM
  have hC := CD.kept hC (fun q h1 h2 => hf.2 q (by omega))
  have hLo := hLo.kept (hf.2 _ (by omega))
  have hsz2 := hf.1
  refine lv_istore (lv' := [(6, .int _), (5, .int _), (0, .ref _), (1, .ref _), (2, .ref _), (3, .ref _), (4, .int _)]) hx hb dL_law_581 hl (by decide) rfl (fun ls hl => ?_)
  refine lv_aload_n hx hb dL_law_583 rfl (lv_at hl 4 rfl) ?_
  obtain ⟨x3, x4, x5, x14, sn, sc, rd, nw, tr, dy, kp, ik, tk, h0, h1, h2, h3, h4, h5, h6, h7, h8, hMI⟩ := id hM
  refine j_Vp (n := 0) (As := []) hx hb hml hown hts hw (hM.rec9 hw) (c_X5_thrown l g z H2 (z + 223) _ _ _ _ _ _ _ _ h0) gL_law_X5_thrown rfl (by decide +kernel) ⟨Nat.le_of_ble_eq_true rfl, Nat.le_of_ble_eq_true rfl⟩ rfl hl.1 (Nat.le_of_ble_eq_true rfl) ⟨by show _ ≤ 601024; omega, by show _ ≤ 7293034; omega⟩ dL_law_584 (fun r2 locs hr2 hw => ?_) rfl
  obtain rfl : r2 = nI O.1 := hr2
  refine lv_iload hx hb dL_law_587 (lv_at hl 1 rfl) ?_
  refine lv_icmp_eq (tgt := 594) hx hb dL_law_589 (by decide) (fun _ => ?_) (fun q => absurd rfl q)
  refine lv_iload hx hb dL_law_594 (lv_at hl 1 rfl) ?_
  refine jz_ne (tgt := 611) hx hb dL_law_596 (by decide) (by omega) (fun _ => ?_) (fun hz0 => ?_)
  · refine lv_goto (tgt := 1696) hx hb dL_law_611 (by decide) ?_
    exact kk H2 locs O.2.2 ls hw ⟨hC, ⟨_, hM⟩, ⟨_, hLo⟩, hG1, by omega⟩ (lv_sub hl [2, 3, 4, 5, 6] rfl)
  · have hrr := hrr hz0
    have hfo := hfo hz0
    refine lv_aload_n hx hb dL_law_599 rfl (lv_at hl 5 rfl) ?_
    refine lv_iconst (v := nI 0) hx hb dL_law_600 (by decide) ?_
    refine j_lald hx hb hw hLo (k := 0) rfl (by decide) (by decide) dL_law_601 ?_
    rw [hfo]
    refine lv_iload hx hb dL_law_602 (lv_at hl 0 rfl) ?_
    rw [hrr]
    refine lv_i2l (v := O.2.1.toInt64) hx hb dL_law_604 rfl ?_
    refine W.lcmp hx hb dL_law_605 ?_
    refine jl_eq (tgt := 611) hx hb dL_law_606 (by decide) (fun _ => ?_) (fun q => absurd rfl q)
    refine lv_goto (tgt := 1696) hx hb dL_law_611 (by decide) ?_
    exact kk H2 locs O.2.2 ls hw ⟨hC, ⟨_, hM⟩, ⟨_, hLo⟩, hG1, by omega⟩ (lv_sub hl [2, 3, 4, 5, 6] rfl)

set_option maxHeartbeats 4000000 in
set_option maxRecDepth 100000 in
theorem k_9 {p : Program} {l : Launch} {e : Env} {s : State} {m : MethodId} {below : List Frame} {meth : Method} {c : Code} {H : Heap} {locs : List Loc} {cells slots : Nat} {Q : State → Prop} {ls : Array Slot} {g : jG} {z b L i K : Nat} {xs : Nat → Int32} {w : Wd} (hl0 : l.stackTraces = false) (hx : p.tables.exec = Jvm.exec) (hb : c.code = cL_law) (hml : c.maxLocals = 7) (hown : s.vm.findClass RL = some m.cls) (hts : ∀ w ∈ wsL_law, w.before #[Value.ref b] s = true) (hE : jE s) (hX : va_X b L xs s s.heap) (hzs : s.heap.size = z) (hbz : b < z) (hL : L ≤ 2560) (hi5 : i + 5 ≤ L) (hK4 : 3600000 ≤ K) (hK : K < 2 ^ 29) (hw : jW g z s H locs) (hI : LI g z K H w) (hl : lv_has ls 7 (LL b z i)) (hc : cells + 1 ≤ 601024 ∧ slots + 6 ≤ 7293034) (kk : ∀ (H1 : Heap) (locs1 : List Loc) (w1 : Wd) (ls1 : Array Slot), jW g z s H1 locs1 → LI g z (K + 100000) H1 w1 → lv_has ls1 7 (LL b z i) → W p l e room_1 s m #[Value.ref b] below meth c H1 locs1 (cells + 1) (slots + 6) Q (F0 m 1696 ls1 [])) : W p l e room_1 s m #[Value.ref b] below meth c H locs cells slots Q (F0 m 614 ls []) := by
  obtain ⟨hC, ⟨x0, hM⟩, ⟨fo, hLo⟩, hG, hsz⟩ := hI
  obtain ⟨tx, σ, hi, sv⟩ := w
  have hN := hC.okN
  have hzl : z ≤ H.size := by omega
  have hbl : b < s.heap.size := by omega
  refine lv_aload_n hx hb dL_law_614 rfl (lv_at hl 1 rfl) ?_
  refine lv_aload_n hx hb dL_law_615 rfl (lv_at hl 0 rfl) ?_
  refine lv_iload hx hb dL_law_616 (lv_at hl 4 rfl) ?_
  refine lv_iconst (v := nI 1) hx hb dL_law_618 (by decide) ?_
  refine j_addN hx hb dL_law_619 ?_
  refine j_sc hx hb hw hX hbl hbz hL (k := i + 1) (by omega) dL_law_620 ?_
  refine lv_aload_n hx hb dL_law_621 rfl (lv_at hl 3 rfl) ?_
  refine j_HS (n := 3) (As := [.ref z, .int (xs (i + 1)), .ref (z + 232)]) (rest := []) hx hb hml hown hts hw hE (h_setting l hl0 g z H z (z + 232) (xs (i + 1)) tx σ hi sv fo (Nat.le_refl _) (by omega) (by omega) (by omega) hC hLo) gL_law_L_setting rfl (by decide +kernel) ⟨Nat.le_of_ble_eq_true rfl, Nat.le_of_ble_eq_true rfl⟩ rfl hl.1 (Nat.le_of_ble_eq_true rfl) hc dL_law_622 (fun r H1 locs hp hw => ?_) rfl
  obtain ⟨O, hO⟩ : ∃ O, O = opQ (fSetting σ (xs (i + 1))) (tx, σ, hi, sv) := ⟨_, rfl⟩
  rw [← hO] at hp
  obtain ⟨hO4, rfl, hC, ⟨fo, hLo, hfo⟩, hs9, hq9⟩ := hp
  have hM := hM.kept (fun q h1 h2 => hq9 q (by omega) (by omega) (by omega))
  have hG1 : good (K + 100000) O.2.2 := by rw [hO]; exact good_Q hG
  refine lv_istore (lv' := [(5, .int _), (0, .ref _), (1, .ref _), (2, .ref _), (3, .ref _), (4, .int _)]) hx hb dL_law_625 hl (by decide) rfl (fun ls hl => ?_)
  refine lv_aload_n hx hb dL_law_627 rfl (lv_at hl 3 rfl) ?_
  refine lv_aload_n hx hb dL_law_628 rfl (lv_at hl 1 rfl) ?_
  refine lv_iload hx hb dL_law_629 (lv_at hl 5 rfl) ?_
  refine lv_iconst (v := nI 1) hx hb dL_law_631 (by decide) ?_
  refine j_addN hx hb dL_law_632 ?_
  refine j_sc hx hb hw hX hbl hbz hL (k := i + 1) (by omega) dL_law_633 ?_
  refine j_Vi (n := 1) (As := [.int (xs (i + 1))]) hx hb hml hown hts hw (hM.rec9 hw) (c_X5_setting l g z H1 (z + 223) (xs (i + 1)) x0 tx σ hi sv (by omega) hM) gL_law_X5_setting rfl (by decide +kernel) ⟨Nat.le_of_ble_eq_true rfl, Nat.le_of_ble_eq_true rfl⟩ rfl hl.1 (Nat.le_of_ble_eq_true rfl) ⟨by show _ ≤ 601024; omega, by show _ ≤ 7293034; omega⟩ dL_law_634 (fun r H2 locs hp hw _ => ?_) rfl
  obtain ⟨hrr, hM, hf⟩ := hp
  have hrr : O.1 = 0 → r = O.2.1 := by rw [hO]; exact hrr
  have hM : MW g H2 (z + 223) (nI O.1) O.2.2 := by rw [hO]; exact hM
  have hC := CD.kept hC (fun q h1 h2 => hf.2 q (by omega))
  have hLo := hLo.kept (hf.2 _ (by omega))
  have hsz2 := hf.1
  refine lv_istore (lv' := [(6, .int _), (5, .int _), (0, .ref _), (1, .ref _), (2, .ref _), (3, .ref _), (4, .int _)]) hx hb dL_law_637 hl (by decide) rfl (fun ls hl => ?_)
  refine lv_aload_n hx hb dL_law_639 rfl (lv_at hl 4 rfl) ?_
  obtain ⟨x3, x4, x5, x14, sn, sc, rd, nw, tr, dy, kp, ik, tk, h0, h1, h2, h3, h4, h5, h6, h7, h8, hMI⟩ := id hM
  refine j_Vp (n := 0) (As := []) hx hb hml hown hts hw (hM.rec9 hw) (c_X5_thrown l g z H2 (z + 223) _ _ _ _ _ _ _ _ h0) gL_law_X5_thrown rfl (by decide +kernel) ⟨Nat.le_of_ble_eq_true rfl, Nat.le_of_ble_eq_true rfl⟩ rfl hl.1 (Nat.le_of_ble_eq_true rfl) ⟨by show _ ≤ 601024; omega, by show _ ≤ 7293034; omega⟩ dL_law_640 (fun r2 locs hr2 hw => ?_) rfl
  obtain rfl : r2 = nI O.1 := hr2
  refine lv_iload hx hb dL_law_643 (lv_at hl 1 rfl) ?_
  refine lv_icmp_eq (tgt := 650) hx hb dL_law_645 (by decide) (fun _ => ?_) (fun q => absurd rfl q)
  refine lv_iload hx hb dL_law_650 (lv_at hl 1 rfl) ?_
  refine jz_ne (tgt := 667) hx hb dL_law_652 (by decide) (by omega) (fun _ => ?_) (fun hz0 => ?_)
  · refine lv_goto (tgt := 1696) hx hb dL_law_667 (by decide) ?_
    exact kk H2 locs O.2.2 ls hw ⟨hC, ⟨_, hM⟩, ⟨_, hLo⟩, hG1, by omega⟩ (lv_sub hl [2, 3, 4, 5, 6] rfl)
  · have hrr := hrr hz0
    have hfo := hfo hz0
    refine lv_aload_n hx hb dL_law_655 rfl (lv_at hl 5 rfl) ?_
    refine lv_iconst (v := nI 0) hx hb dL_law_656 (by decide) ?_
    refine j_lald hx hb hw hLo (k := 0) rfl (by decide) (by decide) dL_law_657 ?_
    rw [hfo]
    refine lv_iload hx hb dL_law_658 (lv_at hl 0 rfl) ?_
    rw [hrr]
    refine lv_i2l (v := O.2.1.toInt64) hx hb dL_law_660 rfl ?_
    refine W.lcmp hx hb dL_law_661 ?_
    refine jl_eq (tgt := 667) hx hb dL_law_662 (by decide) (fun _ => ?_) (fun q => absurd rfl q)
    refine lv_goto (tgt := 1696) hx hb dL_law_667 (by decide) ?_
    exact kk H2 locs O.2.2 ls hw ⟨hC, ⟨_, hM⟩, ⟨_, hLo⟩, hG1, by omega⟩ (lv_sub hl [2, 3, 4, 5, 6] rfl)

set_option maxHeartbeats 4000000 in
set_option maxRecDepth 100000 in
theorem k_10 {p : Program} {l : Launch} {e : Env} {s : State} {m : MethodId} {below : List Frame} {meth : Method} {c : Code} {H : Heap} {locs : List Loc} {cells slots : Nat} {Q : State → Prop} {ls : Array Slot} {g : jG} {z b L i K : Nat} {xs : Nat → Int32} {w : Wd} (hl0 : l.stackTraces = false) (hx : p.tables.exec = Jvm.exec) (hb : c.code = cL_law) (hml : c.maxLocals = 7) (hown : s.vm.findClass RL = some m.cls) (hts : ∀ w ∈ wsL_law, w.before #[Value.ref b] s = true) (hE : jE s) (hX : va_X b L xs s s.heap) (hzs : s.heap.size = z) (hbz : b < z) (hL : L ≤ 2560) (hi5 : i + 5 ≤ L) (hK4 : 3600000 ≤ K) (hK : K < 2 ^ 29) (hw : jW g z s H locs) (hI : LI g z K H w) (hl : lv_has ls 7 (LL b z i)) (hc : cells + 1 ≤ 601024 ∧ slots + 6 ≤ 7293034) (kk : ∀ (H1 : Heap) (locs1 : List Loc) (w1 : Wd) (ls1 : Array Slot), jW g z s H1 locs1 → LI g z (K + 100000) H1 w1 → lv_has ls1 7 (LL b z i) → W p l e room_1 s m #[Value.ref b] below meth c H1 locs1 (cells + 1) (slots + 6) Q (F0 m 1696 ls1 [])) : W p l e room_1 s m #[Value.ref b] below meth c H locs cells slots Q (F0 m 670 ls []) := by
  obtain ⟨hC, ⟨x0, hM⟩, ⟨fo, hLo⟩, hG, hsz⟩ := hI
  obtain ⟨tx, σ, hi, sv⟩ := w
  have hN := hC.okN
  have hzl : z ≤ H.size := by omega
  have hbl : b < s.heap.size := by omega
  refine lv_aload_n hx hb dL_law_670 rfl (lv_at hl 1 rfl) ?_
  refine lv_aload_n hx hb dL_law_671 rfl (lv_at hl 0 rfl) ?_
  refine lv_iload hx hb dL_law_672 (lv_at hl 4 rfl) ?_
  refine lv_iconst (v := nI 1) hx hb dL_law_674 (by decide) ?_
  refine j_addN hx hb dL_law_675 ?_
  refine j_sc hx hb hw hX hbl hbz hL (k := i + 1) (by omega) dL_law_676 ?_
  refine lv_aload_n hx hb dL_law_677 rfl (lv_at hl 0 rfl) ?_
  refine lv_iload hx hb dL_law_678 (lv_at hl 4 rfl) ?_
  refine lv_iconst (v := nI 2) hx hb dL_law_680 (by decide) ?_
  refine j_addN hx hb dL_law_681 ?_
  refine j_sc hx hb hw hX hbl hbz hL (k := i + 2) (by omega) dL_law_682 ?_
  refine lv_aload_n hx hb dL_law_683 rfl (lv_at hl 0 rfl) ?_
  refine lv_iload hx hb dL_law_684 (lv_at hl 4 rfl) ?_
  refine lv_iconst (v := nI 3) hx hb dL_law_686 (by decide) ?_
  refine j_addN hx hb dL_law_687 ?_
  refine j_sc hx hb hw hX hbl hbz hL (k := i + 3) (by omega) dL_law_688 ?_
  refine lv_aload_n hx hb dL_law_689 rfl (lv_at hl 0 rfl) ?_
  refine lv_iload hx hb dL_law_690 (lv_at hl 4 rfl) ?_
  refine lv_iconst (v := nI 4) hx hb dL_law_692 (by decide) ?_
  refine j_addN hx hb dL_law_693 ?_
  refine j_sc hx hb hw hX hbl hbz hL (k := i + 4) (by omega) dL_law_694 ?_
  refine lv_aload_n hx hb dL_law_695 rfl (lv_at hl 3 rfl) ?_
  refine j_HS (n := 6) (As := [.ref z, .int (xs (i + 1)), .int (xs (i + 2)), .int (xs (i + 3)), .int (xs (i + 4)), .ref (z + 232)]) (rest := []) hx hb hml hown hts hw hE (h_ask l hl0 g z H z (z + 232) (xs (i + 1)) (xs (i + 2)) (xs (i + 3)) (xs (i + 4)) tx σ hi sv fo (Nat.le_refl _) (by omega) (by omega) (by omega) hC hLo) gL_law_L_ask rfl (by decide +kernel) ⟨Nat.le_of_ble_eq_true rfl, Nat.le_of_ble_eq_true rfl⟩ rfl hl.1 (Nat.le_of_ble_eq_true rfl) hc dL_law_696 (fun r H1 locs hp hw => ?_) rfl
  obtain ⟨O, hO⟩ : ∃ O, O = opA (fAsk σ (xs (i + 1)) (xs (i + 2)) (xs (i + 3)) (xs (i + 4))) (tx, σ, hi, sv) := ⟨_, rfl⟩
  rw [← hO] at hp
  obtain ⟨hO4, rfl, hC, ⟨fo, hLo, hfo⟩, hs9, hq9⟩ := hp
  have hM := hM.kept (fun q h1 h2 => hq9 q (by omega) (by omega) (by omega))
  have hG1 : good (K + 100000) O.2.2 := by rw [hO]; exact good_A hG (gS_ask hG.1)
  refine lv_istore (lv' := [(5, .int _), (0, .ref _), (1, .ref _), (2, .ref _), (3, .ref _), (4, .int _)]) hx hb dL_law_699 hl (by decide) rfl (fun ls hl => ?_)
  refine lv_aload_n hx hb dL_law_701 rfl (lv_at hl 3 rfl) ?_
  refine lv_aload_n hx hb dL_law_702 rfl (lv_at hl 1 rfl) ?_
  refine lv_iload hx hb dL_law_703 (lv_at hl 5 rfl) ?_
  refine lv_iconst (v := nI 1) hx hb dL_law_705 (by decide) ?_
  refine j_addN hx hb dL_law_706 ?_
  refine j_sc hx hb hw hX hbl hbz hL (k := i + 1) (by omega) dL_law_707 ?_
  refine lv_aload_n hx hb dL_law_708 rfl (lv_at hl 1 rfl) ?_
  refine lv_iload hx hb dL_law_709 (lv_at hl 5 rfl) ?_
  refine lv_iconst (v := nI 2) hx hb dL_law_711 (by decide) ?_
  refine j_addN hx hb dL_law_712 ?_
  refine j_sc hx hb hw hX hbl hbz hL (k := i + 2) (by omega) dL_law_713 ?_
  refine lv_aload_n hx hb dL_law_714 rfl (lv_at hl 1 rfl) ?_
  refine lv_iload hx hb dL_law_715 (lv_at hl 5 rfl) ?_
  refine lv_iconst (v := nI 3) hx hb dL_law_717 (by decide) ?_
  refine j_addN hx hb dL_law_718 ?_
  refine j_sc hx hb hw hX hbl hbz hL (k := i + 3) (by omega) dL_law_719 ?_
  refine lv_aload_n hx hb dL_law_720 rfl (lv_at hl 1 rfl) ?_
  refine lv_iload hx hb dL_law_721 (lv_at hl 5 rfl) ?_
  refine lv_iconst (v := nI 4) hx hb dL_law_723 (by decide) ?_
  refine j_addN hx hb dL_law_724 ?_
  refine j_sc hx hb hw hX hbl hbz hL (k := i + 4) (by omega) dL_law_725 ?_
  refine j_Vi (n := 4) (As := [.int (xs (i + 1)), .int (xs (i + 2)), .int (xs (i + 3)), .int (xs (i + 4))]) hx hb hml hown hts hw (hM.rec9 hw) (c_X5_ask l g z H1 (z + 223) (xs (i + 1)) (xs (i + 2)) (xs (i + 3)) (xs (i + 4)) x0 tx σ hi sv (by omega) hM) gL_law_X5_ask rfl (by decide +kernel) ⟨Nat.le_of_ble_eq_true rfl, Nat.le_of_ble_eq_true rfl⟩ rfl hl.1 (Nat.le_of_ble_eq_true rfl) ⟨by show _ ≤ 601024; omega, by show _ ≤ 7293034; omega⟩ dL_law_726 (fun r H2 locs hp hw _ => ?_) rfl
  obtain ⟨hrr, hM, hf⟩ := hp
  have hrr : O.1 = 0 → r = O.2.1 := by rw [hO]; exact hrr
  have hM : MW g H2 (z + 223) (nI O.1) O.2.2 := by rw [hO]; exact hM
  have hC := CD.kept hC (fun q h1 h2 => hf.2 q (by omega))
  have hLo := hLo.kept (hf.2 _ (by omega))
  have hsz2 := hf.1
  refine lv_istore (lv' := [(6, .int _), (5, .int _), (0, .ref _), (1, .ref _), (2, .ref _), (3, .ref _), (4, .int _)]) hx hb dL_law_729 hl (by decide) rfl (fun ls hl => ?_)
  refine lv_aload_n hx hb dL_law_731 rfl (lv_at hl 4 rfl) ?_
  obtain ⟨x3, x4, x5, x14, sn, sc, rd, nw, tr, dy, kp, ik, tk, h0, h1, h2, h3, h4, h5, h6, h7, h8, hMI⟩ := id hM
  refine j_Vp (n := 0) (As := []) hx hb hml hown hts hw (hM.rec9 hw) (c_X5_thrown l g z H2 (z + 223) _ _ _ _ _ _ _ _ h0) gL_law_X5_thrown rfl (by decide +kernel) ⟨Nat.le_of_ble_eq_true rfl, Nat.le_of_ble_eq_true rfl⟩ rfl hl.1 (Nat.le_of_ble_eq_true rfl) ⟨by show _ ≤ 601024; omega, by show _ ≤ 7293034; omega⟩ dL_law_732 (fun r2 locs hr2 hw => ?_) rfl
  obtain rfl : r2 = nI O.1 := hr2
  refine lv_iload hx hb dL_law_735 (lv_at hl 1 rfl) ?_
  refine lv_icmp_eq (tgt := 742) hx hb dL_law_737 (by decide) (fun _ => ?_) (fun q => absurd rfl q)
  refine lv_iload hx hb dL_law_742 (lv_at hl 1 rfl) ?_
  refine jz_ne (tgt := 759) hx hb dL_law_744 (by decide) (by omega) (fun _ => ?_) (fun hz0 => ?_)
  · refine lv_goto (tgt := 1696) hx hb dL_law_759 (by decide) ?_
    exact kk H2 locs O.2.2 ls hw ⟨hC, ⟨_, hM⟩, ⟨_, hLo⟩, hG1, by omega⟩ (lv_sub hl [2, 3, 4, 5, 6] rfl)
  · have hrr := hrr hz0
    have hfo := hfo hz0
    refine lv_aload_n hx hb dL_law_747 rfl (lv_at hl 5 rfl) ?_
    refine lv_iconst (v := nI 0) hx hb dL_law_748 (by decide) ?_
    refine j_lald hx hb hw hLo (k := 0) rfl (by decide) (by decide) dL_law_749 ?_
    rw [hfo]
    refine lv_iload hx hb dL_law_750 (lv_at hl 0 rfl) ?_
    rw [hrr]
    refine lv_i2l (v := O.2.1.toInt64) hx hb dL_law_752 rfl ?_
    refine W.lcmp hx hb dL_law_753 ?_
    refine jl_eq (tgt := 759) hx hb dL_law_754 (by decide) (fun _ => ?_) (fun q => absurd rfl q)
    refine lv_goto (tgt := 1696) hx hb dL_law_759 (by decide) ?_
    exact kk H2 locs O.2.2 ls hw ⟨hC, ⟨_, hM⟩, ⟨_, hLo⟩, hG1, by omega⟩ (lv_sub hl [2, 3, 4, 5, 6] rfl)

set_option maxHeartbeats 4000000 in
set_option maxRecDepth 100000 in
theorem k_11 {p : Program} {l : Launch} {e : Env} {s : State} {m : MethodId} {below : List Frame} {meth : Method} {c : Code} {H : Heap} {locs : List Loc} {cells slots : Nat} {Q : State → Prop} {ls : Array Slot} {g : jG} {z b L i K : Nat} {xs : Nat → Int32} {w : Wd} (hl0 : l.stackTraces = false) (hx : p.tables.exec = Jvm.exec) (hb : c.code = cL_law) (hml : c.maxLocals = 7) (hown : s.vm.findClass RL = some m.cls) (hts : ∀ w ∈ wsL_law, w.before #[Value.ref b] s = true) (hE : jE s) (hX : va_X b L xs s s.heap) (hzs : s.heap.size = z) (hbz : b < z) (hL : L ≤ 2560) (hi5 : i + 5 ≤ L) (hK4 : 3600000 ≤ K) (hK : K < 2 ^ 29) (hw : jW g z s H locs) (hI : LI g z K H w) (hl : lv_has ls 7 (LL b z i)) (hc : cells + 1 ≤ 601024 ∧ slots + 6 ≤ 7293034) (kk : ∀ (H1 : Heap) (locs1 : List Loc) (w1 : Wd) (ls1 : Array Slot), jW g z s H1 locs1 → LI g z (K + 100000) H1 w1 → lv_has ls1 7 (LL b z i) → W p l e room_1 s m #[Value.ref b] below meth c H1 locs1 (cells + 1) (slots + 6) Q (F0 m 1696 ls1 [])) : W p l e room_1 s m #[Value.ref b] below meth c H locs cells slots Q (F0 m 762 ls []) := by
  obtain ⟨hC, ⟨x0, hM⟩, ⟨fo, hLo⟩, hG, hsz⟩ := hI
  obtain ⟨tx, σ, hi, sv⟩ := w
  have hN := hC.okN
  have hzl : z ≤ H.size := by omega
  have hbl : b < s.heap.size := by omega
  refine lv_aload_n hx hb dL_law_762 rfl (lv_at hl 1 rfl) ?_
  refine lv_aload_n hx hb dL_law_763 rfl (lv_at hl 0 rfl) ?_
  refine lv_iload hx hb dL_law_764 (lv_at hl 4 rfl) ?_
  refine lv_iconst (v := nI 1) hx hb dL_law_766 (by decide) ?_
  refine j_addN hx hb dL_law_767 ?_
  refine j_sc hx hb hw hX hbl hbz hL (k := i + 1) (by omega) dL_law_768 ?_
  refine lv_aload_n hx hb dL_law_769 rfl (lv_at hl 3 rfl) ?_
  refine j_HS (n := 3) (As := [.ref z, .int (xs (i + 1)), .ref (z + 232)]) (rest := []) hx hb hml hown hts hw hE (h_cancel l hl0 g z H z (z + 232) (xs (i + 1)) tx σ hi sv fo (Nat.le_refl _) (by omega) (by omega) (by omega) hC hLo) gL_law_L_cancel rfl (by decide +kernel) ⟨Nat.le_of_ble_eq_true rfl, Nat.le_of_ble_eq_true rfl⟩ rfl hl.1 (Nat.le_of_ble_eq_true rfl) hc dL_law_770 (fun r H1 locs hp hw => ?_) rfl
  obtain ⟨O, hO⟩ : ∃ O, O = opA (fCancel σ (xs (i + 1))) (tx, σ, hi, sv) := ⟨_, rfl⟩
  rw [← hO] at hp
  obtain ⟨hO4, rfl, hC, ⟨fo, hLo, hfo⟩, hs9, hq9⟩ := hp
  have hM := hM.kept (fun q h1 h2 => hq9 q (by omega) (by omega) (by omega))
  have hG1 : good (K + 100000) O.2.2 := by rw [hO]; exact good_A hG (gS_cancel hG.1)
  refine lv_istore (lv' := [(5, .int _), (0, .ref _), (1, .ref _), (2, .ref _), (3, .ref _), (4, .int _)]) hx hb dL_law_773 hl (by decide) rfl (fun ls hl => ?_)
  refine lv_aload_n hx hb dL_law_775 rfl (lv_at hl 3 rfl) ?_
  refine lv_aload_n hx hb dL_law_776 rfl (lv_at hl 1 rfl) ?_
  refine lv_iload hx hb dL_law_777 (lv_at hl 5 rfl) ?_
  refine lv_iconst (v := nI 1) hx hb dL_law_779 (by decide) ?_
  refine j_addN hx hb dL_law_780 ?_
  refine j_sc hx hb hw hX hbl hbz hL (k := i + 1) (by omega) dL_law_781 ?_
  refine j_Vi (n := 1) (As := [.int (xs (i + 1))]) hx hb hml hown hts hw (hM.rec9 hw) (c_X5_cancel l g z H1 (z + 223) (xs (i + 1)) x0 tx σ hi sv (by omega) hM) gL_law_X5_cancel rfl (by decide +kernel) ⟨Nat.le_of_ble_eq_true rfl, Nat.le_of_ble_eq_true rfl⟩ rfl hl.1 (Nat.le_of_ble_eq_true rfl) ⟨by show _ ≤ 601024; omega, by show _ ≤ 7293034; omega⟩ dL_law_782 (fun r H2 locs hp hw _ => ?_) rfl
  obtain ⟨hrr, hM, hf⟩ := hp
  have hrr : O.1 = 0 → r = O.2.1 := by rw [hO]; exact hrr
  have hM : MW g H2 (z + 223) (nI O.1) O.2.2 := by rw [hO]; exact hM
  have hC := CD.kept hC (fun q h1 h2 => hf.2 q (by omega))
  have hLo := hLo.kept (hf.2 _ (by omega))
  have hsz2 := hf.1
  refine lv_istore (lv' := [(6, .int _), (5, .int _), (0, .ref _), (1, .ref _), (2, .ref _), (3, .ref _), (4, .int _)]) hx hb dL_law_785 hl (by decide) rfl (fun ls hl => ?_)
  refine lv_aload_n hx hb dL_law_787 rfl (lv_at hl 4 rfl) ?_
  obtain ⟨x3, x4, x5, x14, sn, sc, rd, nw, tr, dy, kp, ik, tk, h0, h1, h2, h3, h4, h5, h6, h7, h8, hMI⟩ := id hM
  refine j_Vp (n := 0) (As := []) hx hb hml hown hts hw (hM.rec9 hw) (c_X5_thrown l g z H2 (z + 223) _ _ _ _ _ _ _ _ h0) gL_law_X5_thrown rfl (by decide +kernel) ⟨Nat.le_of_ble_eq_true rfl, Nat.le_of_ble_eq_true rfl⟩ rfl hl.1 (Nat.le_of_ble_eq_true rfl) ⟨by show _ ≤ 601024; omega, by show _ ≤ 7293034; omega⟩ dL_law_788 (fun r2 locs hr2 hw => ?_) rfl
  obtain rfl : r2 = nI O.1 := hr2
  refine lv_iload hx hb dL_law_791 (lv_at hl 1 rfl) ?_
  refine lv_icmp_eq (tgt := 798) hx hb dL_law_793 (by decide) (fun _ => ?_) (fun q => absurd rfl q)
  refine lv_iload hx hb dL_law_798 (lv_at hl 1 rfl) ?_
  refine jz_ne (tgt := 815) hx hb dL_law_800 (by decide) (by omega) (fun _ => ?_) (fun hz0 => ?_)
  · refine lv_goto (tgt := 1696) hx hb dL_law_815 (by decide) ?_
    exact kk H2 locs O.2.2 ls hw ⟨hC, ⟨_, hM⟩, ⟨_, hLo⟩, hG1, by omega⟩ (lv_sub hl [2, 3, 4, 5, 6] rfl)
  · have hrr := hrr hz0
    have hfo := hfo hz0
    refine lv_aload_n hx hb dL_law_803 rfl (lv_at hl 5 rfl) ?_
    refine lv_iconst (v := nI 0) hx hb dL_law_804 (by decide) ?_
    refine j_lald hx hb hw hLo (k := 0) rfl (by decide) (by decide) dL_law_805 ?_
    rw [hfo]
    refine lv_iload hx hb dL_law_806 (lv_at hl 0 rfl) ?_
    rw [hrr]
    refine lv_i2l (v := O.2.1.toInt64) hx hb dL_law_808 rfl ?_
    refine W.lcmp hx hb dL_law_809 ?_
    refine jl_eq (tgt := 815) hx hb dL_law_810 (by decide) (fun _ => ?_) (fun q => absurd rfl q)
    refine lv_goto (tgt := 1696) hx hb dL_law_815 (by decide) ?_
    exact kk H2 locs O.2.2 ls hw ⟨hC, ⟨_, hM⟩, ⟨_, hLo⟩, hG1, by omega⟩ (lv_sub hl [2, 3, 4, 5, 6] rfl)

set_option maxHeartbeats 4000000 in
set_option maxRecDepth 100000 in
theorem k_12 {p : Program} {l : Launch} {e : Env} {s : State} {m : MethodId} {below : List Frame} {meth : Method} {c : Code} {H : Heap} {locs : List Loc} {cells slots : Nat} {Q : State → Prop} {ls : Array Slot} {g : jG} {z b L i K : Nat} {xs : Nat → Int32} {w : Wd} (hl0 : l.stackTraces = false) (hx : p.tables.exec = Jvm.exec) (hb : c.code = cL_law) (hml : c.maxLocals = 7) (hown : s.vm.findClass RL = some m.cls) (hts : ∀ w ∈ wsL_law, w.before #[Value.ref b] s = true) (hE : jE s) (hX : va_X b L xs s s.heap) (hzs : s.heap.size = z) (hbz : b < z) (hL : L ≤ 2560) (hi5 : i + 5 ≤ L) (hK4 : 3600000 ≤ K) (hK : K < 2 ^ 29) (hw : jW g z s H locs) (hI : LI g z K H w) (hl : lv_has ls 7 (LL b z i)) (hc : cells + 1 ≤ 601024 ∧ slots + 6 ≤ 7293034) (kk : ∀ (H1 : Heap) (locs1 : List Loc) (w1 : Wd) (ls1 : Array Slot), jW g z s H1 locs1 → LI g z (K + 100000) H1 w1 → lv_has ls1 7 (LL b z i) → W p l e room_1 s m #[Value.ref b] below meth c H1 locs1 (cells + 1) (slots + 6) Q (F0 m 1696 ls1 [])) : W p l e room_1 s m #[Value.ref b] below meth c H locs cells slots Q (F0 m 818 ls []) := by
  obtain ⟨hC, ⟨x0, hM⟩, ⟨fo, hLo⟩, hG, hsz⟩ := hI
  obtain ⟨tx, σ, hi, sv⟩ := w
  have hN := hC.okN
  have hzl : z ≤ H.size := by omega
  have hbl : b < s.heap.size := by omega
  refine lv_aload_n hx hb dL_law_818 rfl (lv_at hl 1 rfl) ?_
  refine lv_aload_n hx hb dL_law_819 rfl (lv_at hl 0 rfl) ?_
  refine lv_iload hx hb dL_law_820 (lv_at hl 4 rfl) ?_
  refine lv_iconst (v := nI 1) hx hb dL_law_822 (by decide) ?_
  refine j_addN hx hb dL_law_823 ?_
  refine j_sc hx hb hw hX hbl hbz hL (k := i + 1) (by omega) dL_law_824 ?_
  refine lv_aload_n hx hb dL_law_825 rfl (lv_at hl 0 rfl) ?_
  refine lv_iload hx hb dL_law_826 (lv_at hl 4 rfl) ?_
  refine lv_iconst (v := nI 2) hx hb dL_law_828 (by decide) ?_
  refine j_addN hx hb dL_law_829 ?_
  refine j_sc hx hb hw hX hbl hbz hL (k := i + 2) (by omega) dL_law_830 ?_
  refine lv_aload_n hx hb dL_law_831 rfl (lv_at hl 3 rfl) ?_
  refine j_HS (n := 4) (As := [.ref z, .int (xs (i + 1)), .int (xs (i + 2)), .ref (z + 232)]) (rest := []) hx hb hml hown hts hw hE (h_raise l hl0 g z H z (z + 232) (xs (i + 1)) (xs (i + 2)) tx σ hi sv fo (Nat.le_refl _) (by omega) (by omega) (by omega) hC hLo) gL_law_L_raise rfl (by decide +kernel) ⟨Nat.le_of_ble_eq_true rfl, Nat.le_of_ble_eq_true rfl⟩ rfl hl.1 (Nat.le_of_ble_eq_true rfl) hc dL_law_832 (fun r H1 locs hp hw => ?_) rfl
  obtain ⟨O, hO⟩ : ∃ O, O = opA (fRaise σ (xs (i + 1)) (xs (i + 2))) (tx, σ, hi, sv) := ⟨_, rfl⟩
  rw [← hO] at hp
  obtain ⟨hO4, rfl, hC, ⟨fo, hLo, hfo⟩, hs9, hq9⟩ := hp
  have hM := hM.kept (fun q h1 h2 => hq9 q (by omega) (by omega) (by omega))
  have hG1 : good (K + 100000) O.2.2 := by rw [hO]; exact good_A hG (gS_raise hG.1)
  refine lv_istore (lv' := [(5, .int _), (0, .ref _), (1, .ref _), (2, .ref _), (3, .ref _), (4, .int _)]) hx hb dL_law_835 hl (by decide) rfl (fun ls hl => ?_)
  refine lv_aload_n hx hb dL_law_837 rfl (lv_at hl 3 rfl) ?_
  refine lv_aload_n hx hb dL_law_838 rfl (lv_at hl 1 rfl) ?_
  refine lv_iload hx hb dL_law_839 (lv_at hl 5 rfl) ?_
  refine lv_iconst (v := nI 1) hx hb dL_law_841 (by decide) ?_
  refine j_addN hx hb dL_law_842 ?_
  refine j_sc hx hb hw hX hbl hbz hL (k := i + 1) (by omega) dL_law_843 ?_
  refine lv_aload_n hx hb dL_law_844 rfl (lv_at hl 1 rfl) ?_
  refine lv_iload hx hb dL_law_845 (lv_at hl 5 rfl) ?_
  refine lv_iconst (v := nI 2) hx hb dL_law_847 (by decide) ?_
  refine j_addN hx hb dL_law_848 ?_
  refine j_sc hx hb hw hX hbl hbz hL (k := i + 2) (by omega) dL_law_849 ?_
  refine j_Vi (n := 2) (As := [.int (xs (i + 1)), .int (xs (i + 2))]) hx hb hml hown hts hw (hM.rec9 hw) (c_X5_raise l g z H1 (z + 223) (xs (i + 1)) (xs (i + 2)) x0 tx σ hi sv (by omega) hM) gL_law_X5_raise rfl (by decide +kernel) ⟨Nat.le_of_ble_eq_true rfl, Nat.le_of_ble_eq_true rfl⟩ rfl hl.1 (Nat.le_of_ble_eq_true rfl) ⟨by show _ ≤ 601024; omega, by show _ ≤ 7293034; omega⟩ dL_law_850 (fun r H2 locs hp hw _ => ?_) rfl
  obtain ⟨hrr, hM, hf⟩ := hp
  have hrr : O.1 = 0 → r = O.2.1 := by rw [hO]; exact hrr
  have hM : MW g H2 (z + 223) (nI O.1) O.2.2 := by rw [hO]; exact hM
  have hC := CD.kept hC (fun q h1 h2 => hf.2 q (by omega))
  have hLo := hLo.kept (hf.2 _ (by omega))
  have hsz2 := hf.1
  refine lv_istore (lv' := [(6, .int _), (5, .int _), (0, .ref _), (1, .ref _), (2, .ref _), (3, .ref _), (4, .int _)]) hx hb dL_law_853 hl (by decide) rfl (fun ls hl => ?_)
  refine lv_aload_n hx hb dL_law_855 rfl (lv_at hl 4 rfl) ?_
  obtain ⟨x3, x4, x5, x14, sn, sc, rd, nw, tr, dy, kp, ik, tk, h0, h1, h2, h3, h4, h5, h6, h7, h8, hMI⟩ := id hM
  refine j_Vp (n := 0) (As := []) hx hb hml hown hts hw (hM.rec9 hw) (c_X5_thrown l g z H2 (z + 223) _ _ _ _ _ _ _ _ h0) gL_law_X5_thrown rfl (by decide +kernel) ⟨Nat.le_of_ble_eq_true rfl, Nat.le_of_ble_eq_true rfl⟩ rfl hl.1 (Nat.le_of_ble_eq_true rfl) ⟨by show _ ≤ 601024; omega, by show _ ≤ 7293034; omega⟩ dL_law_856 (fun r2 locs hr2 hw => ?_) rfl
  obtain rfl : r2 = nI O.1 := hr2
  refine lv_iload hx hb dL_law_859 (lv_at hl 1 rfl) ?_
  refine lv_icmp_eq (tgt := 866) hx hb dL_law_861 (by decide) (fun _ => ?_) (fun q => absurd rfl q)
  refine lv_iload hx hb dL_law_866 (lv_at hl 1 rfl) ?_
  refine jz_ne (tgt := 883) hx hb dL_law_868 (by decide) (by omega) (fun _ => ?_) (fun hz0 => ?_)
  · refine lv_goto (tgt := 1696) hx hb dL_law_883 (by decide) ?_
    exact kk H2 locs O.2.2 ls hw ⟨hC, ⟨_, hM⟩, ⟨_, hLo⟩, hG1, by omega⟩ (lv_sub hl [2, 3, 4, 5, 6] rfl)
  · have hrr := hrr hz0
    have hfo := hfo hz0
    refine lv_aload_n hx hb dL_law_871 rfl (lv_at hl 5 rfl) ?_
    refine lv_iconst (v := nI 0) hx hb dL_law_872 (by decide) ?_
    refine j_lald hx hb hw hLo (k := 0) rfl (by decide) (by decide) dL_law_873 ?_
    rw [hfo]
    refine lv_iload hx hb dL_law_874 (lv_at hl 0 rfl) ?_
    rw [hrr]
    refine lv_i2l (v := O.2.1.toInt64) hx hb dL_law_876 rfl ?_
    refine W.lcmp hx hb dL_law_877 ?_
    refine jl_eq (tgt := 883) hx hb dL_law_878 (by decide) (fun _ => ?_) (fun q => absurd rfl q)
    refine lv_goto (tgt := 1696) hx hb dL_law_883 (by decide) ?_
    exact kk H2 locs O.2.2 ls hw ⟨hC, ⟨_, hM⟩, ⟨_, hLo⟩, hG1, by omega⟩ (lv_sub hl [2, 3, 4, 5, 6] rfl)

set_option maxHeartbeats 4000000 in
set_option maxRecDepth 100000 in
theorem k_13 {p : Program} {l : Launch} {e : Env} {s : State} {m : MethodId} {below : List Frame} {meth : Method} {c : Code} {H : Heap} {locs : List Loc} {cells slots : Nat} {Q : State → Prop} {ls : Array Slot} {g : jG} {z b L i K : Nat} {xs : Nat → Int32} {w : Wd} (hl0 : l.stackTraces = false) (hx : p.tables.exec = Jvm.exec) (hb : c.code = cL_law) (hml : c.maxLocals = 7) (hown : s.vm.findClass RL = some m.cls) (hts : ∀ w ∈ wsL_law, w.before #[Value.ref b] s = true) (hE : jE s) (hX : va_X b L xs s s.heap) (hzs : s.heap.size = z) (hbz : b < z) (hL : L ≤ 2560) (hi5 : i + 5 ≤ L) (hK4 : 3600000 ≤ K) (hK : K < 2 ^ 29) (hw : jW g z s H locs) (hI : LI g z K H w) (hl : lv_has ls 7 (LL b z i)) (hc : cells + 1 ≤ 601024 ∧ slots + 6 ≤ 7293034) (kk : ∀ (H1 : Heap) (locs1 : List Loc) (w1 : Wd) (ls1 : Array Slot), jW g z s H1 locs1 → LI g z (K + 100000) H1 w1 → lv_has ls1 7 (LL b z i) → W p l e room_1 s m #[Value.ref b] below meth c H1 locs1 (cells + 1) (slots + 6) Q (F0 m 1696 ls1 [])) : W p l e room_1 s m #[Value.ref b] below meth c H locs cells slots Q (F0 m 886 ls []) := by
  obtain ⟨hC, ⟨x0, hM⟩, ⟨fo, hLo⟩, hG, hsz⟩ := hI
  obtain ⟨tx, σ, hi, sv⟩ := w
  have hN := hC.okN
  have hzl : z ≤ H.size := by omega
  have hbl : b < s.heap.size := by omega
  refine lv_aload_n hx hb dL_law_886 rfl (lv_at hl 1 rfl) ?_
  refine lv_aload_n hx hb dL_law_887 rfl (lv_at hl 0 rfl) ?_
  refine lv_iload hx hb dL_law_888 (lv_at hl 4 rfl) ?_
  refine lv_iconst (v := nI 1) hx hb dL_law_890 (by decide) ?_
  refine j_addN hx hb dL_law_891 ?_
  refine j_sc hx hb hw hX hbl hbz hL (k := i + 1) (by omega) dL_law_892 ?_
  refine lv_aload_n hx hb dL_law_893 rfl (lv_at hl 3 rfl) ?_
  refine j_HS (n := 3) (As := [.ref z, .int (xs (i + 1)), .ref (z + 232)]) (rest := []) hx hb hml hown hts hw hE (h_nights l hl0 g z H z (z + 232) (xs (i + 1)) tx σ hi sv fo K hG.1.1 hK (Nat.le_refl _) (by omega) (by omega) (by omega) hC hLo) gL_law_L_nights rfl (by decide +kernel) ⟨Nat.le_of_ble_eq_true rfl, Nat.le_of_ble_eq_true rfl⟩ rfl hl.1 (Nat.le_of_ble_eq_true rfl) hc dL_law_894 (fun r H1 locs hp hw => ?_) rfl
  obtain ⟨O, hO⟩ : ∃ O, O = opA (fNights σ (xs (i + 1))) (tx, σ, hi, sv) := ⟨_, rfl⟩
  rw [← hO] at hp
  obtain ⟨hO4, rfl, hC, ⟨fo, hLo, hfo⟩, hs9, hq9⟩ := hp
  have hM := hM.kept (fun q h1 h2 => hq9 q (by omega) (by omega) (by omega))
  have hG1 : good (K + 100000) O.2.2 := by rw [hO]; exact good_A hG (gS_nights hN hG.1)
  refine lv_istore (lv' := [(5, .int _), (0, .ref _), (1, .ref _), (2, .ref _), (3, .ref _), (4, .int _)]) hx hb dL_law_897 hl (by decide) rfl (fun ls hl => ?_)
  refine lv_aload_n hx hb dL_law_899 rfl (lv_at hl 3 rfl) ?_
  refine lv_aload_n hx hb dL_law_900 rfl (lv_at hl 1 rfl) ?_
  refine lv_iload hx hb dL_law_901 (lv_at hl 5 rfl) ?_
  refine lv_iconst (v := nI 1) hx hb dL_law_903 (by decide) ?_
  refine j_addN hx hb dL_law_904 ?_
  refine j_sc hx hb hw hX hbl hbz hL (k := i + 1) (by omega) dL_law_905 ?_
  refine j_Vi (n := 1) (As := [.int (xs (i + 1))]) hx hb hml hown hts hw (hM.rec9 hw) (c_X5_nights l g z H1 (z + 223) (xs (i + 1)) x0 tx σ hi sv (by omega) hM) gL_law_X5_nights rfl (by decide +kernel) ⟨Nat.le_of_ble_eq_true rfl, Nat.le_of_ble_eq_true rfl⟩ rfl hl.1 (Nat.le_of_ble_eq_true rfl) ⟨by show _ ≤ 601024; omega, by show _ ≤ 7293034; omega⟩ dL_law_906 (fun r H2 locs hp hw _ => ?_) rfl
  obtain ⟨hrr, hM, hf⟩ := hp
  have hrr : O.1 = 0 → r = O.2.1 := by rw [hO]; exact hrr
  have hM : MW g H2 (z + 223) (nI O.1) O.2.2 := by rw [hO]; exact hM
  have hC := CD.kept hC (fun q h1 h2 => hf.2 q (by omega))
  have hLo := hLo.kept (hf.2 _ (by omega))
  have hsz2 := hf.1
  refine lv_istore (lv' := [(6, .int _), (5, .int _), (0, .ref _), (1, .ref _), (2, .ref _), (3, .ref _), (4, .int _)]) hx hb dL_law_909 hl (by decide) rfl (fun ls hl => ?_)
  refine lv_aload_n hx hb dL_law_911 rfl (lv_at hl 4 rfl) ?_
  obtain ⟨x3, x4, x5, x14, sn, sc, rd, nw, tr, dy, kp, ik, tk, h0, h1, h2, h3, h4, h5, h6, h7, h8, hMI⟩ := id hM
  refine j_Vp (n := 0) (As := []) hx hb hml hown hts hw (hM.rec9 hw) (c_X5_thrown l g z H2 (z + 223) _ _ _ _ _ _ _ _ h0) gL_law_X5_thrown rfl (by decide +kernel) ⟨Nat.le_of_ble_eq_true rfl, Nat.le_of_ble_eq_true rfl⟩ rfl hl.1 (Nat.le_of_ble_eq_true rfl) ⟨by show _ ≤ 601024; omega, by show _ ≤ 7293034; omega⟩ dL_law_912 (fun r2 locs hr2 hw => ?_) rfl
  obtain rfl : r2 = nI O.1 := hr2
  refine lv_iload hx hb dL_law_915 (lv_at hl 1 rfl) ?_
  refine lv_icmp_eq (tgt := 922) hx hb dL_law_917 (by decide) (fun _ => ?_) (fun q => absurd rfl q)
  refine lv_iload hx hb dL_law_922 (lv_at hl 1 rfl) ?_
  refine jz_ne (tgt := 939) hx hb dL_law_924 (by decide) (by omega) (fun _ => ?_) (fun hz0 => ?_)
  · refine lv_goto (tgt := 1696) hx hb dL_law_939 (by decide) ?_
    exact kk H2 locs O.2.2 ls hw ⟨hC, ⟨_, hM⟩, ⟨_, hLo⟩, hG1, by omega⟩ (lv_sub hl [2, 3, 4, 5, 6] rfl)
  · have hrr := hrr hz0
    have hfo := hfo hz0
    refine lv_aload_n hx hb dL_law_927 rfl (lv_at hl 5 rfl) ?_
    refine lv_iconst (v := nI 0) hx hb dL_law_928 (by decide) ?_
    refine j_lald hx hb hw hLo (k := 0) rfl (by decide) (by decide) dL_law_929 ?_
    rw [hfo]
    refine lv_iload hx hb dL_law_930 (lv_at hl 0 rfl) ?_
    rw [hrr]
    refine lv_i2l (v := O.2.1.toInt64) hx hb dL_law_932 rfl ?_
    refine W.lcmp hx hb dL_law_933 ?_
    refine jl_eq (tgt := 939) hx hb dL_law_934 (by decide) (fun _ => ?_) (fun q => absurd rfl q)
    refine lv_goto (tgt := 1696) hx hb dL_law_939 (by decide) ?_
    exact kk H2 locs O.2.2 ls hw ⟨hC, ⟨_, hM⟩, ⟨_, hLo⟩, hG1, by omega⟩ (lv_sub hl [2, 3, 4, 5, 6] rfl)
