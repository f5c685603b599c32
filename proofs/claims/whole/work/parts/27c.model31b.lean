set_option maxHeartbeats 4000000 in
set_option maxRecDepth 100000 in
theorem k_14 {p : Program} {l : Launch} {e : Env} {s : State} {m : MethodId} {below : List Frame} {meth : Method} {c : Code} {H : Heap} {locs : List Loc} {cells slots : Nat} {Q : State → Prop} {ls : Array Slot} {g : jG} {z b L i K : Nat} {xs : Nat → Int32} {w : Wd} (hl0 : l.stackTraces = false) (hx : p.tables.exec = Jvm.exec) (hb : c.code = cL_law) (hml : c.maxLocals = 7) (hown : s.vm.findClass RL = some m.cls) (hts : ∀ w ∈ wsL_law, w.before #[Value.ref b] s = true) (hE : jE s) (hX : va_X b L xs s s.heap) (hzs : s.heap.size = z) (hbz : b < z) (hL : L ≤ 2560) (hi5 : i + 5 ≤ L) (hK4 : 3600000 ≤ K) (hK : K < 2 ^ 29) (hw : jW g z s H locs) (hI : LI g z K H w) (hl : lv_has ls 7 (LL b z i)) (hc : cells + 1 ≤ 601024 ∧ slots + 6 ≤ 7293034) (kk : ∀ (H1 : Heap) (locs1 : List Loc) (w1 : Wd) (ls1 : Array Slot), jW g z s H1 locs1 → LI g z (K + 100000) H1 w1 → lv_has ls1 7 (LL b z i) → W p l e room_1 s m #[Value.ref b] below meth c H1 locs1 (cells + 1) (slots + 6) Q (F0 m 1696 ls1 [])) : W p l e room_1 s m #[Value.ref b] below meth c H locs cells slots Q (F0 m 942 ls []) := by
  obtain ⟨hC, ⟨x0, hM⟩, ⟨fo, hLo⟩, hG, hsz⟩ := hI
  obtain ⟨tx, σ, hi, sv⟩ := w
  have hN := hC.okN
  have hzl : z ≤ H.size := by omega
  have hbl : b < s.heap.size := by omega
  refine lv_aload_n hx hb dL_law_942 rfl (lv_at hl 1 rfl) ?_
  refine lv_aload_n hx hb dL_law_943 rfl (lv_at hl 0 rfl) ?_
  refine lv_iload hx hb dL_law_944 (lv_at hl 4 rfl) ?_
  refine lv_iconst (v := nI 1) hx hb dL_law_946 (by decide) ?_
  refine j_addN hx hb dL_law_947 ?_
  refine j_sc hx hb hw hX hbl hbz hL (k := i + 1) (by omega) dL_law_948 ?_
  refine lv_aload_n hx hb dL_law_949 rfl (lv_at hl 0 rfl) ?_
  refine lv_iload hx hb dL_law_950 (lv_at hl 4 rfl) ?_
  refine lv_iconst (v := nI 2) hx hb dL_law_952 (by decide) ?_
  refine j_addN hx hb dL_law_953 ?_
  refine j_sc hx hb hw hX hbl hbz hL (k := i + 2) (by omega) dL_law_954 ?_
  refine lv_aload_n hx hb dL_law_955 rfl (lv_at hl 3 rfl) ?_
  refine j_HS (n := 4) (As := [.ref z, .int (xs (i + 1)), .int (xs (i + 2)), .ref (z + 232)]) (rest := []) hx hb hml hown hts hw hE (h_give l hl0 g z H z (z + 232) (xs (i + 1)) (xs (i + 2)) tx σ hi sv fo (Nat.le_refl _) (by omega) (by omega) (by omega) hC hLo) gL_law_L_give rfl (by decide +kernel) ⟨Nat.le_of_ble_eq_true rfl, Nat.le_of_ble_eq_true rfl⟩ rfl hl.1 (Nat.le_of_ble_eq_true rfl) hc dL_law_956 (fun r H1 locs hp hw => ?_) rfl
  obtain ⟨O, hO⟩ : ∃ O, O = opA (fGive σ (xs (i + 1)) (xs (i + 2))) (tx, σ, hi, sv) := ⟨_, rfl⟩
  rw [← hO] at hp
  obtain ⟨hO4, rfl, hC, ⟨fo, hLo, hfo⟩, hs9, hq9⟩ := hp
  have hM := hM.kept (fun q h1 h2 => hq9 q (by omega) (by omega) (by omega))
  have hG1 : good (K + 100000) O.2.2 := by rw [hO]; exact good_A hG (gS_give hG.1)
  refine lv_istore (lv' := [(5, .int _), (0, .ref _), (1, .ref _), (2, .ref _), (3, .ref _), (4, .int _)]) hx hb dL_law_959 hl (by decide) rfl (fun ls hl => ?_)
  refine lv_aload_n hx hb dL_law_961 rfl (lv_at hl 3 rfl) ?_
  refine lv_aload_n hx hb dL_law_962 rfl (lv_at hl 1 rfl) ?_
  refine lv_iload hx hb dL_law_963 (lv_at hl 5 rfl) ?_
  refine lv_iconst (v := nI 1) hx hb dL_law_965 (by decide) ?_
  refine j_addN hx hb dL_law_966 ?_
  refine j_sc hx hb hw hX hbl hbz hL (k := i + 1) (by omega) dL_law_967 ?_
  refine lv_aload_n hx hb dL_law_968 rfl (lv_at hl 1 rfl) ?_
  refine lv_iload hx hb dL_law_969 (lv_at hl 5 rfl) ?_
  refine lv_iconst (v := nI 2) hx hb dL_law_971 (by decide) ?_
  refine j_addN hx hb dL_law_972 ?_
  refine j_sc hx hb hw hX hbl hbz hL (k := i + 2) (by omega) dL_law_973 ?_
  refine j_Vi (n := 2) (As := [.int (xs (i + 1)), .int (xs (i + 2))]) hx hb hml hown hts hw (hM.rec9 hw) (c_X5_give l g z H1 (z + 223) (xs (i + 1)) (xs (i + 2)) x0 tx σ hi sv (by omega) hM) gL_law_X5_give rfl (by decide +kernel) ⟨Nat.le_of_ble_eq_true rfl, Nat.le_of_ble_eq_true rfl⟩ rfl hl.1 (Nat.le_of_ble_eq_true rfl) ⟨by show _ ≤ 601024; omega, by show _ ≤ 7293034; omega⟩ dL_law_974 (fun r H2 locs hp hw _ => ?_) rfl
  obtain ⟨hrr, hM, hf⟩ := hp
  have hrr : O.1 = 0 → r = O.2.1 := by rw [hO]; exact hrr
  have hM : MW g H2 (z + 223) (nI O.1) O.2.2 := by rw [hO]; exact hM
  have hC := CD.kept hC (fun q h1 h2 => hf.2 q (by omega))
  have hLo := hLo.kept (hf.2 _ (by omega))
  have hsz2 := hf.1
  refine lv_istore (lv' := [(6, .int _), (5, .int _), (0, .ref _), (1, .ref _), (2, .ref _), (3, .ref _), (4, .int _)]) hx hb dL_law_977 hl (by decide) rfl (fun ls hl => ?_)
  refine lv_aload_n hx hb dL_law_979 rfl (lv_at hl 4 rfl) ?_
  obtain ⟨x3, x4, x5, x14, sn, sc, rd, nw, tr, dy, kp, ik, tk, h0, h1, h2, h3, h4, h5, h6, h7, h8, hMI⟩ := id hM
  refine j_Vp (n := 0) (As := []) hx hb hml hown hts hw (hM.rec9 hw) (c_X5_thrown l g z H2 (z + 223) _ _ _ _ _ _ _ _ h0) gL_law_X5_thrown rfl (by decide +kernel) ⟨Nat.le_of_ble_eq_true rfl, Nat.le_of_ble_eq_true rfl⟩ rfl hl.1 (Nat.le_of_ble_eq_true rfl) ⟨by show _ ≤ 601024; omega, by show _ ≤ 7293034; omega⟩ dL_law_980 (fun r2 locs hr2 hw => ?_) rfl
  obtain rfl : r2 = nI O.1 := hr2
  refine lv_iload hx hb dL_law_983 (lv_at hl 1 rfl) ?_
  refine lv_icmp_eq (tgt := 990) hx hb dL_law_985 (by decide) (fun _ => ?_) (fun q => absurd rfl q)
  refine lv_iload hx hb dL_law_990 (lv_at hl 1 rfl) ?_
  refine jz_ne (tgt := 1007) hx hb dL_law_992 (by decide) (by omega) (fun _ => ?_) (fun hz0 => ?_)
  · refine lv_goto (tgt := 1696) hx hb dL_law_1007 (by decide) ?_
    exact kk H2 locs O.2.2 ls hw ⟨hC, ⟨_, hM⟩, ⟨_, hLo⟩, hG1, by omega⟩ (lv_sub hl [2, 3, 4, 5, 6] rfl)
  · have hrr := hrr hz0
    have hfo := hfo hz0
    refine lv_aload_n hx hb dL_law_995 rfl (lv_at hl 5 rfl) ?_
    refine lv_iconst (v := nI 0) hx hb dL_law_996 (by decide) ?_
    refine j_lald hx hb hw hLo (k := 0) rfl (by decide) (by decide) dL_law_997 ?_
    rw [hfo]
    refine lv_iload hx hb dL_law_998 (lv_at hl 0 rfl) ?_
    rw [hrr]
    refine lv_i2l (v := O.2.1.toInt64) hx hb dL_law_1000 rfl ?_
    refine W.lcmp hx hb dL_law_1001 ?_
    refine jl_eq (tgt := 1007) hx hb dL_law_1002 (by decide) (fun _ => ?_) (fun q => absurd rfl q)
    refine lv_goto (tgt := 1696) hx hb dL_law_1007 (by decide) ?_
    exact kk H2 locs O.2.2 ls hw ⟨hC, ⟨_, hM⟩, ⟨_, hLo⟩, hG1, by omega⟩ (lv_sub hl [2, 3, 4, 5, 6] rfl)

set_option maxHeartbeats 4000000 in
set_option maxRecDepth 100000 in
theorem k_15 {p : Program} {l : Launch} {e : Env} {s : State} {m : MethodId} {below : List Frame} {meth : Method} {c : Code} {H : Heap} {locs : List Loc} {cells slots : Nat} {Q : State → Prop} {ls : Array Slot} {g : jG} {z b L i K : Nat} {xs : Nat → Int32} {w : Wd} (hl0 : l.stackTraces = false) (hx : p.tables.exec = Jvm.exec) (hb : c.code = cL_law) (hml : c.maxLocals = 7) (hown : s.vm.findClass RL = some m.cls) (hts : ∀ w ∈ wsL_law, w.before #[Value.ref b] s = true) (hE : jE s) (hX : va_X b L xs s s.heap) (hzs : s.heap.size = z) (hbz : b < z) (hL : L ≤ 2560) (hi5 : i + 5 ≤ L) (hK4 : 3600000 ≤ K) (hK : K < 2 ^ 29) (hw : jW g z s H locs) (hI : LI g z K H w) (hl : lv_has ls 7 (LL b z i)) (hc : cells + 1 ≤ 601024 ∧ slots + 6 ≤ 7293034) (kk : ∀ (H1 : Heap) (locs1 : List Loc) (w1 : Wd) (ls1 : Array Slot), jW g z s H1 locs1 → LI g z (K + 100000) H1 w1 → lv_has ls1 7 (LL b z i) → W p l e room_1 s m #[Value.ref b] below meth c H1 locs1 (cells + 1) (slots + 6) Q (F0 m 1696 ls1 [])) : W p l e room_1 s m #[Value.ref b] below meth c H locs cells slots Q (F0 m 1010 ls []) := by
  obtain ⟨hC, ⟨x0, hM⟩, ⟨fo, hLo⟩, hG, hsz⟩ := hI
  obtain ⟨tx, σ, hi, sv⟩ := w
  have hN := hC.okN
  have hzl : z ≤ H.size := by omega
  have hbl : b < s.heap.size := by omega
  refine lv_aload_n hx hb dL_law_1010 rfl (lv_at hl 1 rfl) ?_
  refine lv_aload_n hx hb dL_law_1011 rfl (lv_at hl 0 rfl) ?_
  refine lv_iload hx hb dL_law_1012 (lv_at hl 4 rfl) ?_
  refine lv_iconst (v := nI 1) hx hb dL_law_1014 (by decide) ?_
  refine j_addN hx hb dL_law_1015 ?_
  refine j_sc hx hb hw hX hbl hbz hL (k := i + 1) (by omega) dL_law_1016 ?_
  refine lv_aload_n hx hb dL_law_1017 rfl (lv_at hl 0 rfl) ?_
  refine lv_iload hx hb dL_law_1018 (lv_at hl 4 rfl) ?_
  refine lv_iconst (v := nI 2) hx hb dL_law_1020 (by decide) ?_
  refine j_addN hx hb dL_law_1021 ?_
  refine j_sc hx hb hw hX hbl hbz hL (k := i + 2) (by omega) dL_law_1022 ?_
  refine lv_aload_n hx hb dL_law_1023 rfl (lv_at hl 3 rfl) ?_
  refine j_HS (n := 4) (As := [.ref z, .int (xs (i + 1)), .int (xs (i + 2)), .ref (z + 232)]) (rest := []) hx hb hml hown hts hw hE (h_set l hl0 g z H z (z + 232) (xs (i + 1)) (xs (i + 2)) tx σ hi sv fo (Nat.le_refl _) (by omega) (by omega) (by omega) hC hLo) gL_law_L_set rfl (by decide +kernel) ⟨Nat.le_of_ble_eq_true rfl, Nat.le_of_ble_eq_true rfl⟩ rfl hl.1 (Nat.le_of_ble_eq_true rfl) hc dL_law_1024 (fun r H1 locs hp hw => ?_) rfl
  obtain ⟨O, hO⟩ : ∃ O, O = opA (fSet σ (xs (i + 1)) (xs (i + 2))) (tx, σ, hi, sv) := ⟨_, rfl⟩
  rw [← hO] at hp
  obtain ⟨hO4, rfl, hC, ⟨fo, hLo, hfo⟩, hs9, hq9⟩ := hp
  have hM := hM.kept (fun q h1 h2 => hq9 q (by omega) (by omega) (by omega))
  have hG1 : good (K + 100000) O.2.2 := by rw [hO]; exact good_A hG (gS_set hG.1)
  refine lv_istore (lv' := [(5, .int _), (0, .ref _), (1, .ref _), (2, .ref _), (3, .ref _), (4, .int _)]) hx hb dL_law_1027 hl (by decide) rfl (fun ls hl => ?_)
  refine lv_aload_n hx hb dL_law_1029 rfl (lv_at hl 3 rfl) ?_
  refine lv_aload_n hx hb dL_law_1030 rfl (lv_at hl 1 rfl) ?_
  refine lv_iload hx hb dL_law_1031 (lv_at hl 5 rfl) ?_
  refine lv_iconst (v := nI 1) hx hb dL_law_1033 (by decide) ?_
  refine j_addN hx hb dL_law_1034 ?_
  refine j_sc hx hb hw hX hbl hbz hL (k := i + 1) (by omega) dL_law_1035 ?_
  refine lv_aload_n hx hb dL_law_1036 rfl (lv_at hl 1 rfl) ?_
  refine lv_iload hx hb dL_law_1037 (lv_at hl 5 rfl) ?_
  refine lv_iconst (v := nI 2) hx hb dL_law_1039 (by decide) ?_
  refine j_addN hx hb dL_law_1040 ?_
  refine j_sc hx hb hw hX hbl hbz hL (k := i + 2) (by omega) dL_law_1041 ?_
  refine j_Vi (n := 2) (As := [.int (xs (i + 1)), .int (xs (i + 2))]) hx hb hml hown hts hw (hM.rec9 hw) (c_X5_set l g z H1 (z + 223) (xs (i + 1)) (xs (i + 2)) x0 tx σ hi sv (by omega) hM) gL_law_X5_set rfl (by decide +kernel) ⟨Nat.le_of_ble_eq_true rfl, Nat.le_of_ble_eq_true rfl⟩ rfl hl.1 (Nat.le_of_ble_eq_true rfl) ⟨by show _ ≤ 601024; omega, by show _ ≤ 7293034; omega⟩ dL_law_1042 (fun r H2 locs hp hw _ => ?_) rfl
  obtain ⟨hrr, hM, hf⟩ := hp
  have hrr : O.1 = 0 → r = O.2.1 := by rw [hO]; exact hrr
  have hM : MW g H2 (z + 223) (nI O.1) O.2.2 := by rw [hO]; exact hM
  have hC := CD.kept hC (fun q h1 h2 => hf.2 q (by omega))
  have hLo := hLo.kept (hf.2 _ (by omega))
  have hsz2 := hf.1
  refine lv_istore (lv' := [(6, .int _), (5, .int _), (0, .ref _), (1, .ref _), (2, .ref _), (3, .ref _), (4, .int _)]) hx hb dL_law_1045 hl (by decide) rfl (fun ls hl => ?_)
  refine lv_aload_n hx hb dL_law_1047 rfl (lv_at hl 4 rfl) ?_
  obtain ⟨x3, x4, x5, x14, sn, sc, rd, nw, tr, dy, kp, ik, tk, h0, h1, h2, h3, h4, h5, h6, h7, h8, hMI⟩ := id hM
  refine j_Vp (n := 0) (As := []) hx hb hml hown hts hw (hM.rec9 hw) (c_X5_thrown l g z H2 (z + 223) _ _ _ _ _ _ _ _ h0) gL_law_X5_thrown rfl (by decide +kernel) ⟨Nat.le_of_ble_eq_true rfl, Nat.le_of_ble_eq_true rfl⟩ rfl hl.1 (Nat.le_of_ble_eq_true rfl) ⟨by show _ ≤ 601024; omega, by show _ ≤ 7293034; omega⟩ dL_law_1048 (fun r2 locs hr2 hw => ?_) rfl
  obtain rfl : r2 = nI O.1 := hr2
  refine lv_iload hx hb dL_law_1051 (lv_at hl 1 rfl) ?_
  refine lv_icmp_eq (tgt := 1058) hx hb dL_law_1053 (by decide) (fun _ => ?_) (fun q => absurd rfl q)
  refine lv_iload hx hb dL_law_1058 (lv_at hl 1 rfl) ?_
  refine jz_ne (tgt := 1075) hx hb dL_law_1060 (by decide) (by omega) (fun _ => ?_) (fun hz0 => ?_)
  · refine lv_goto (tgt := 1696) hx hb dL_law_1075 (by decide) ?_
    exact kk H2 locs O.2.2 ls hw ⟨hC, ⟨_, hM⟩, ⟨_, hLo⟩, hG1, by omega⟩ (lv_sub hl [2, 3, 4, 5, 6] rfl)
  · have hrr := hrr hz0
    have hfo := hfo hz0
    refine lv_aload_n hx hb dL_law_1063 rfl (lv_at hl 5 rfl) ?_
    refine lv_iconst (v := nI 0) hx hb dL_law_1064 (by decide) ?_
    refine j_lald hx hb hw hLo (k := 0) rfl (by decide) (by decide) dL_law_1065 ?_
    rw [hfo]
    refine lv_iload hx hb dL_law_1066 (lv_at hl 0 rfl) ?_
    rw [hrr]
    refine lv_i2l (v := O.2.1.toInt64) hx hb dL_law_1068 rfl ?_
    refine W.lcmp hx hb dL_law_1069 ?_
    refine jl_eq (tgt := 1075) hx hb dL_law_1070 (by decide) (fun _ => ?_) (fun q => absurd rfl q)
    refine lv_goto (tgt := 1696) hx hb dL_law_1075 (by decide) ?_
    exact kk H2 locs O.2.2 ls hw ⟨hC, ⟨_, hM⟩, ⟨_, hLo⟩, hG1, by omega⟩ (lv_sub hl [2, 3, 4, 5, 6] rfl)

set_option maxHeartbeats 4000000 in
set_option maxRecDepth 100000 in
theorem k_16 {p : Program} {l : Launch} {e : Env} {s : State} {m : MethodId} {below : List Frame} {meth : Method} {c : Code} {H : Heap} {locs : List Loc} {cells slots : Nat} {Q : State → Prop} {ls : Array Slot} {g : jG} {z b L i K : Nat} {xs : Nat → Int32} {w : Wd} (hl0 : l.stackTraces = false) (hx : p.tables.exec = Jvm.exec) (hb : c.code = cL_law) (hml : c.maxLocals = 7) (hown : s.vm.findClass RL = some m.cls) (hts : ∀ w ∈ wsL_law, w.before #[Value.ref b] s = true) (hE : jE s) (hX : va_X b L xs s s.heap) (hzs : s.heap.size = z) (hbz : b < z) (hL : L ≤ 2560) (hi5 : i + 5 ≤ L) (hK4 : 3600000 ≤ K) (hK : K < 2 ^ 29) (hw : jW g z s H locs) (hI : LI g z K H w) (hl : lv_has ls 7 (LL b z i)) (hc : cells + 1 ≤ 601024 ∧ slots + 6 ≤ 7293034) (kk : ∀ (H1 : Heap) (locs1 : List Loc) (w1 : Wd) (ls1 : Array Slot), jW g z s H1 locs1 → LI g z (K + 100000) H1 w1 → lv_has ls1 7 (LL b z i) → W p l e room_1 s m #[Value.ref b] below meth c H1 locs1 (cells + 1) (slots + 6) Q (F0 m 1696 ls1 [])) : W p l e room_1 s m #[Value.ref b] below meth c H locs cells slots Q (F0 m 1078 ls []) := by
  obtain ⟨hC, ⟨x0, hM⟩, ⟨fo, hLo⟩, hG, hsz⟩ := hI
  obtain ⟨tx, σ, hi, sv⟩ := w
  have hN := hC.okN
  have hzl : z ≤ H.size := by omega
  have hbl : b < s.heap.size := by omega
  refine lv_aload_n hx hb dL_law_1078 rfl (lv_at hl 1 rfl) ?_
  refine lv_aload_n hx hb dL_law_1079 rfl (lv_at hl 3 rfl) ?_
  refine j_HS (n := 2) (As := [.ref z, .ref (z + 232)]) (rest := []) hx hb hml hown hts hw hE (h_undo l hl0 g z H z (z + 232)  tx σ hi sv fo (Nat.le_refl _) (by omega) (by omega) (by omega) hC hLo) gL_law_L_undo rfl (by decide +kernel) ⟨Nat.le_of_ble_eq_true rfl, Nat.le_of_ble_eq_true rfl⟩ rfl hl.1 (Nat.le_of_ble_eq_true rfl) hc dL_law_1080 (fun r H1 locs hp hw => ?_) rfl
  obtain ⟨O, hO⟩ : ∃ O, O = opU (tx, σ, hi, sv) := ⟨_, rfl⟩
  rw [← hO] at hp
  obtain ⟨hO4, rfl, hC, ⟨fo, hLo, hfo⟩, hs9, hq9⟩ := hp
  have hM := hM.kept (fun q h1 h2 => hq9 q (by omega) (by omega) (by omega))
  have hG1 : good (K + 100000) O.2.2 := by rw [hO]; exact good_U hG
  refine lv_istore (lv' := [(5, .int _), (0, .ref _), (1, .ref _), (2, .ref _), (3, .ref _), (4, .int _)]) hx hb dL_law_1083 hl (by decide) rfl (fun ls hl => ?_)
  refine lv_aload_n hx hb dL_law_1085 rfl (lv_at hl 3 rfl) ?_
  refine j_Vi (n := 0) (As := []) hx hb hml hown hts hw (hM.rec9 hw) (c_X5_undo l g z H1 (z + 223)  x0 tx σ hi sv (by omega) hM) gL_law_X5_undo rfl (by decide +kernel) ⟨Nat.le_of_ble_eq_true rfl, Nat.le_of_ble_eq_true rfl⟩ rfl hl.1 (Nat.le_of_ble_eq_true rfl) ⟨by show _ ≤ 601024; omega, by show _ ≤ 7293034; omega⟩ dL_law_1086 (fun r H2 locs hp hw _ => ?_) rfl
  obtain ⟨hp, hf⟩ := hp
  obtain ⟨hrr, hM⟩ : (O.1 = 0 → r = O.2.1) ∧ MW g H2 (z + 223) (nI O.1) O.2.2 := by
    rcases hp with ⟨rfl, hM⟩ | ⟨h9, s9, rfl, rfl, hM⟩
    · rw [hO, opU_no]; exact ⟨(fun h => by cases h), hM⟩
    · rw [hO, opU_ok]; exact ⟨fun _ => rfl, hM⟩
  have hC := CD.kept hC (fun q h1 h2 => hf.2 q (by omega))
  have hLo := hLo.kept (hf.2 _ (by omega))
  have hsz2 := hf.1
  refine lv_istore (lv' := [(6, .int _), (5, .int _), (0, .ref _), (1, .ref _), (2, .ref _), (3, .ref _), (4, .int _)]) hx hb dL_law_1089 hl (by decide) rfl (fun ls hl => ?_)
  refine lv_aload_n hx hb dL_law_1091 rfl (lv_at hl 4 rfl) ?_
  obtain ⟨x3, x4, x5, x14, sn, sc, rd, nw, tr, dy, kp, ik, tk, h0, h1, h2, h3, h4, h5, h6, h7, h8, hMI⟩ := id hM
  refine j_Vp (n := 0) (As := []) hx hb hml hown hts hw (hM.rec9 hw) (c_X5_thrown l g z H2 (z + 223) _ _ _ _ _ _ _ _ h0) gL_law_X5_thrown rfl (by decide +kernel) ⟨Nat.le_of_ble_eq_true rfl, Nat.le_of_ble_eq_true rfl⟩ rfl hl.1 (Nat.le_of_ble_eq_true rfl) ⟨by show _ ≤ 601024; omega, by show _ ≤ 7293034; omega⟩ dL_law_1092 (fun r2 locs hr2 hw => ?_) rfl
  obtain rfl : r2 = nI O.1 := hr2
  refine lv_iload hx hb dL_law_1095 (lv_at hl 1 rfl) ?_
  refine lv_icmp_eq (tgt := 1102) hx hb dL_law_1097 (by decide) (fun _ => ?_) (fun q => absurd rfl q)
  refine lv_iload hx hb dL_law_1102 (lv_at hl 1 rfl) ?_
  refine jz_ne (tgt := 1119) hx hb dL_law_1104 (by decide) (by omega) (fun _ => ?_) (fun hz0 => ?_)
  · refine lv_goto (tgt := 1696) hx hb dL_law_1119 (by decide) ?_
    exact kk H2 locs O.2.2 ls hw ⟨hC, ⟨_, hM⟩, ⟨_, hLo⟩, hG1, by omega⟩ (lv_sub hl [2, 3, 4, 5, 6] rfl)
  · have hrr := hrr hz0
    have hfo := hfo hz0
    refine lv_aload_n hx hb dL_law_1107 rfl (lv_at hl 5 rfl) ?_
    refine lv_iconst (v := nI 0) hx hb dL_law_1108 (by decide) ?_
    refine j_lald hx hb hw hLo (k := 0) rfl (by decide) (by decide) dL_law_1109 ?_
    rw [hfo]
    refine lv_iload hx hb dL_law_1110 (lv_at hl 0 rfl) ?_
    rw [hrr]
    refine lv_i2l (v := O.2.1.toInt64) hx hb dL_law_1112 rfl ?_
    refine W.lcmp hx hb dL_law_1113 ?_
    refine jl_eq (tgt := 1119) hx hb dL_law_1114 (by decide) (fun _ => ?_) (fun q => absurd rfl q)
    refine lv_goto (tgt := 1696) hx hb dL_law_1119 (by decide) ?_
    exact kk H2 locs O.2.2 ls hw ⟨hC, ⟨_, hM⟩, ⟨_, hLo⟩, hG1, by omega⟩ (lv_sub hl [2, 3, 4, 5, 6] rfl)

set_option maxHeartbeats 4000000 in
set_option maxRecDepth 100000 in
theorem k_17 {p : Program} {l : Launch} {e : Env} {s : State} {m : MethodId} {below : List Frame} {meth : Method} {c : Code} {H : Heap} {locs : List Loc} {cells slots : Nat} {Q : State → Prop} {ls : Array Slot} {g : jG} {z b L i K : Nat} {xs : Nat → Int32} {w : Wd} (hl0 : l.stackTraces = false) (hx : p.tables.exec = Jvm.exec) (hb : c.code = cL_law) (hml : c.maxLocals = 7) (hown : s.vm.findClass RL = some m.cls) (hts : ∀ w ∈ wsL_law, w.before #[Value.ref b] s = true) (hE : jE s) (hX : va_X b L xs s s.heap) (hzs : s.heap.size = z) (hbz : b < z) (hL : L ≤ 2560) (hi5 : i + 5 ≤ L) (hK4 : 3600000 ≤ K) (hK : K < 2 ^ 29) (hw : jW g z s H locs) (hI : LI g z K H w) (hl : lv_has ls 7 (LL b z i)) (hc : cells + 1 ≤ 601024 ∧ slots + 6 ≤ 7293034) (kk : ∀ (H1 : Heap) (locs1 : List Loc) (w1 : Wd) (ls1 : Array Slot), jW g z s H1 locs1 → LI g z (K + 100000) H1 w1 → lv_has ls1 7 (LL b z i) → W p l e room_1 s m #[Value.ref b] below meth c H1 locs1 (cells + 1) (slots + 6) Q (F0 m 1696 ls1 [])) : W p l e room_1 s m #[Value.ref b] below meth c H locs cells slots Q (F0 m 1122 ls []) := by
  obtain ⟨hC, ⟨x0, hM⟩, ⟨fo, hLo⟩, hG, hsz⟩ := hI
  obtain ⟨tx, σ, hi, sv⟩ := w
  have hN := hC.okN
  have hzl : z ≤ H.size := by omega
  have hbl : b < s.heap.size := by omega
  refine lv_aload_n hx hb dL_law_1122 rfl (lv_at hl 1 rfl) ?_
  refine lv_aload_n hx hb dL_law_1123 rfl (lv_at hl 0 rfl) ?_
  refine lv_iload hx hb dL_law_1124 (lv_at hl 4 rfl) ?_
  refine lv_iconst (v := nI 1) hx hb dL_law_1126 (by decide) ?_
  refine j_addN hx hb dL_law_1127 ?_
  refine j_sc hx hb hw hX hbl hbz hL (k := i + 1) (by omega) dL_law_1128 ?_
  refine lv_aload_n hx hb dL_law_1129 rfl (lv_at hl 3 rfl) ?_
  refine j_HS (n := 3) (As := [.ref z, .int (xs (i + 1)), .ref (z + 232)]) (rest := []) hx hb hml hown hts hw hE (h_arrives l hl0 g z H z (z + 232) (xs (i + 1)) tx σ hi sv fo K hG.1.1 hK hG.1.2 (Nat.le_refl _) (by omega) (by omega) (by omega) hC hLo) gL_law_L_arrives rfl (by decide +kernel) ⟨Nat.le_of_ble_eq_true rfl, Nat.le_of_ble_eq_true rfl⟩ rfl hl.1 (Nat.le_of_ble_eq_true rfl) hc dL_law_1130 (fun r H1 locs hp hw => ?_) rfl
  obtain ⟨O, hO⟩ : ∃ O, O = opQ (fArrives σ (xs (i + 1))) (tx, σ, hi, sv) := ⟨_, rfl⟩
  rw [← hO] at hp
  obtain ⟨hO4, rfl, hC, ⟨fo, hLo, hfo⟩, hs9, hq9⟩ := hp
  have hM := hM.kept (fun q h1 h2 => hq9 q (by omega) (by omega) (by omega))
  have hG1 : good (K + 100000) O.2.2 := by rw [hO]; exact good_Q hG
  refine lv_istore (lv' := [(5, .int _), (0, .ref _), (1, .ref _), (2, .ref _), (3, .ref _), (4, .int _)]) hx hb dL_law_1133 hl (by decide) rfl (fun ls hl => ?_)
  refine lv_aload_n hx hb dL_law_1135 rfl (lv_at hl 3 rfl) ?_
  refine lv_aload_n hx hb dL_law_1136 rfl (lv_at hl 1 rfl) ?_
  refine lv_iload hx hb dL_law_1137 (lv_at hl 5 rfl) ?_
  refine lv_iconst (v := nI 1) hx hb dL_law_1139 (by decide) ?_
  refine j_addN hx hb dL_law_1140 ?_
  refine j_sc hx hb hw hX hbl hbz hL (k := i + 1) (by omega) dL_law_1141 ?_
  refine j_Vi (n := 1) (As := [.int (xs (i + 1))]) hx hb hml hown hts hw (hM.rec9 hw) (c_X5_arrives l g z H1 (z + 223) (xs (i + 1)) x0 tx σ hi sv (by omega) hM) gL_law_X5_arrives rfl (by decide +kernel) ⟨Nat.le_of_ble_eq_true rfl, Nat.le_of_ble_eq_true rfl⟩ rfl hl.1 (Nat.le_of_ble_eq_true rfl) ⟨by show _ ≤ 601024; omega, by show _ ≤ 7293034; omega⟩ dL_law_1142 (fun r H2 locs hp hw _ => ?_) rfl
  obtain ⟨hrr, hM, hf⟩ := hp
  have hrr : O.1 = 0 → r = O.2.1 := by rw [hO]; exact hrr
  have hM : MW g H2 (z + 223) (nI O.1) O.2.2 := by rw [hO]; exact hM
  have hC := CD.kept hC (fun q h1 h2 => hf.2 q (by omega))
  have hLo := hLo.kept (hf.2 _ (by omega))
  have hsz2 := hf.1
  refine lv_istore (lv' := [(6, .int _), (5, .int _), (0, .ref _), (1, .ref _), (2, .ref _), (3, .ref _), (4, .int _)]) hx hb dL_law_1145 hl (by decide) rfl (fun ls hl => ?_)
  refine lv_aload_n hx hb dL_law_1147 rfl (lv_at hl 4 rfl) ?_
  obtain ⟨x3, x4, x5, x14, sn, sc, rd, nw, tr, dy, kp, ik, tk, h0, h1, h2, h3, h4, h5, h6, h7, h8, hMI⟩ := id hM
  refine j_Vp (n := 0) (As := []) hx hb hml hown hts hw (hM.rec9 hw) (c_X5_thrown l g z H2 (z + 223) _ _ _ _ _ _ _ _ h0) gL_law_X5_thrown rfl (by decide +kernel) ⟨Nat.le_of_ble_eq_true rfl, Nat.le_of_ble_eq_true rfl⟩ rfl hl.1 (Nat.le_of_ble_eq_true rfl) ⟨by show _ ≤ 601024; omega, by show _ ≤ 7293034; omega⟩ dL_law_1148 (fun r2 locs hr2 hw => ?_) rfl
  obtain rfl : r2 = nI O.1 := hr2
  refine lv_iload hx hb dL_law_1151 (lv_at hl 1 rfl) ?_
  refine lv_icmp_eq (tgt := 1158) hx hb dL_law_1153 (by decide) (fun _ => ?_) (fun q => absurd rfl q)
  refine lv_iload hx hb dL_law_1158 (lv_at hl 1 rfl) ?_
  refine jz_ne (tgt := 1175) hx hb dL_law_1160 (by decide) (by omega) (fun _ => ?_) (fun hz0 => ?_)
  · refine lv_goto (tgt := 1696) hx hb dL_law_1175 (by decide) ?_
    exact kk H2 locs O.2.2 ls hw ⟨hC, ⟨_, hM⟩, ⟨_, hLo⟩, hG1, by omega⟩ (lv_sub hl [2, 3, 4, 5, 6] rfl)
  · have hrr := hrr hz0
    have hfo := hfo hz0
    refine lv_aload_n hx hb dL_law_1163 rfl (lv_at hl 5 rfl) ?_
    refine lv_iconst (v := nI 0) hx hb dL_law_1164 (by decide) ?_
    refine j_lald hx hb hw hLo (k := 0) rfl (by decide) (by decide) dL_law_1165 ?_
    rw [hfo]
    refine lv_iload hx hb dL_law_1166 (lv_at hl 0 rfl) ?_
    rw [hrr]
    refine lv_i2l (v := O.2.1.toInt64) hx hb dL_law_1168 rfl ?_
    refine W.lcmp hx hb dL_law_1169 ?_
    refine jl_eq (tgt := 1175) hx hb dL_law_1170 (by decide) (fun _ => ?_) (fun q => absurd rfl q)
    refine lv_goto (tgt := 1696) hx hb dL_law_1175 (by decide) ?_
    exact kk H2 locs O.2.2 ls hw ⟨hC, ⟨_, hM⟩, ⟨_, hLo⟩, hG1, by omega⟩ (lv_sub hl [2, 3, 4, 5, 6] rfl)

set_option maxHeartbeats 4000000 in
set_option maxRecDepth 100000 in
theorem k_18 {p : Program} {l : Launch} {e : Env} {s : State} {m : MethodId} {below : List Frame} {meth : Method} {c : Code} {H : Heap} {locs : List Loc} {cells slots : Nat} {Q : State → Prop} {ls : Array Slot} {g : jG} {z b L i K : Nat} {xs : Nat → Int32} {w : Wd} (hl0 : l.stackTraces = false) (hx : p.tables.exec = Jvm.exec) (hb : c.code = cL_law) (hml : c.maxLocals = 7) (hown : s.vm.findClass RL = some m.cls) (hts : ∀ w ∈ wsL_law, w.before #[Value.ref b] s = true) (hE : jE s) (hX : va_X b L xs s s.heap) (hzs : s.heap.size = z) (hbz : b < z) (hL : L ≤ 2560) (hi5 : i + 5 ≤ L) (hK4 : 3600000 ≤ K) (hK : K < 2 ^ 29) (hw : jW g z s H locs) (hI : LI g z K H w) (hl : lv_has ls 7 (LL b z i)) (hc : cells + 1 ≤ 601024 ∧ slots + 6 ≤ 7293034) (kk : ∀ (H1 : Heap) (locs1 : List Loc) (w1 : Wd) (ls1 : Array Slot), jW g z s H1 locs1 → LI g z (K + 100000) H1 w1 → lv_has ls1 7 (LL b z i) → W p l e room_1 s m #[Value.ref b] below meth c H1 locs1 (cells + 1) (slots + 6) Q (F0 m 1696 ls1 [])) : W p l e room_1 s m #[Value.ref b] below meth c H locs cells slots Q (F0 m 1178 ls []) := by
  obtain ⟨hC, ⟨x0, hM⟩, ⟨fo, hLo⟩, hG, hsz⟩ := hI
  obtain ⟨tx, σ, hi, sv⟩ := w
  have hN := hC.okN
  have hzl : z ≤ H.size := by omega
  have hbl : b < s.heap.size := by omega
  refine lv_aload_n hx hb dL_law_1178 rfl (lv_at hl 1 rfl) ?_
  refine lv_aload_n hx hb dL_law_1179 rfl (lv_at hl 0 rfl) ?_
  refine lv_iload hx hb dL_law_1180 (lv_at hl 4 rfl) ?_
  refine lv_iconst (v := nI 1) hx hb dL_law_1182 (by decide) ?_
  refine j_addN hx hb dL_law_1183 ?_
  refine j_sc hx hb hw hX hbl hbz hL (k := i + 1) (by omega) dL_law_1184 ?_
  refine lv_aload_n hx hb dL_law_1185 rfl (lv_at hl 3 rfl) ?_
  refine j_HS (n := 3) (As := [.ref z, .int (xs (i + 1)), .ref (z + 232)]) (rest := []) hx hb hml hown hts hw hE (h_next l hl0 g z H z (z + 232) (xs (i + 1)) tx σ hi sv fo (Nat.le_refl _) (by omega) (by omega) (by omega) hC hLo) gL_law_L_next rfl (by decide +kernel) ⟨Nat.le_of_ble_eq_true rfl, Nat.le_of_ble_eq_true rfl⟩ rfl hl.1 (Nat.le_of_ble_eq_true rfl) hc dL_law_1186 (fun r H1 locs hp hw => ?_) rfl
  obtain ⟨O, hO⟩ : ∃ O, O = opQ (fNext σ (xs (i + 1))) (tx, σ, hi, sv) := ⟨_, rfl⟩
  rw [← hO] at hp
  obtain ⟨hO4, rfl, hC, ⟨fo, hLo, hfo⟩, hs9, hq9⟩ := hp
  have hM := hM.kept (fun q h1 h2 => hq9 q (by omega) (by omega) (by omega))
  have hG1 : good (K + 100000) O.2.2 := by rw [hO]; exact good_Q hG
  refine lv_istore (lv' := [(5, .int _), (0, .ref _), (1, .ref _), (2, .ref _), (3, .ref _), (4, .int _)]) hx hb dL_law_1189 hl (by decide) rfl (fun ls hl => ?_)
  refine lv_aload_n hx hb dL_law_1191 rfl (lv_at hl 3 rfl) ?_
  refine lv_aload_n hx hb dL_law_1192 rfl (lv_at hl 1 rfl) ?_
  refine lv_iload hx hb dL_law_1193 (lv_at hl 5 rfl) ?_
  refine lv_iconst (v := nI 1) hx hb dL_law_1195 (by decide) ?_
  refine j_addN hx hb dL_law_1196 ?_
  refine j_sc hx hb hw hX hbl hbz hL (k := i + 1) (by omega) dL_law_1197 ?_
  refine j_Vi (n := 1) (As := [.int (xs (i + 1))]) hx hb hml hown hts hw (hM.rec9 hw) (c_X5_next l g z H1 (z + 223) (xs (i + 1)) x0 tx σ hi sv (by omega) hM) gL_law_X5_next rfl (by decide +kernel) ⟨Nat.le_of_ble_eq_true rfl, Nat.le_of_ble_eq_true rfl⟩ rfl hl.1 (Nat.le_of_ble_eq_true rfl) ⟨by show _ ≤ 601024; omega, by show _ ≤ 7293034; omega⟩ dL_law_1198 (fun r H2 locs hp hw _ => ?_) rfl
  obtain ⟨hrr, hM, hf⟩ := hp
  have hrr : O.1 = 0 → r = O.2.1 := by rw [hO]; exact hrr
  have hM : MW g H2 (z + 223) (nI O.1) O.2.2 := by rw [hO]; exact hM
  have hC := CD.kept hC (fun q h1 h2 => hf.2 q (by omega))
  have hLo := hLo.kept (hf.2 _ (by omega))
  have hsz2 := hf.1
  refine lv_istore (lv' := [(6, .int _), (5, .int _), (0, .ref _), (1, .ref _), (2, .ref _), (3, .ref _), (4, .int _)]) hx hb dL_law_1201 hl (by decide) rfl (fun ls hl => ?_)
  refine lv_aload_n hx hb dL_law_1203 rfl (lv_at hl 4 rfl) ?_
  obtain ⟨x3, x4, x5, x14, sn, sc, rd, nw, tr, dy, kp, ik, tk, h0, h1, h2, h3, h4, h5, h6, h7, h8, hMI⟩ := id hM
  refine j_Vp (n := 0) (As := []) hx hb hml hown hts hw (hM.rec9 hw) (c_X5_thrown l g z H2 (z + 223) _ _ _ _ _ _ _ _ h0) gL_law_X5_thrown rfl (by decide +kernel) ⟨Nat.le_of_ble_eq_true rfl, Nat.le_of_ble_eq_true rfl⟩ rfl hl.1 (Nat.le_of_ble_eq_true rfl) ⟨by show _ ≤ 601024; omega, by show _ ≤ 7293034; omega⟩ dL_law_1204 (fun r2 locs hr2 hw => ?_) rfl
  obtain rfl : r2 = nI O.1 := hr2
  refine lv_iload hx hb dL_law_1207 (lv_at hl 1 rfl) ?_
  refine lv_icmp_eq (tgt := 1214) hx hb dL_law_1209 (by decide) (fun _ => ?_) (fun q => absurd rfl q)
  refine lv_iload hx hb dL_law_1214 (lv_at hl 1 rfl) ?_
  refine jz_ne (tgt := 1231) hx hb dL_law_1216 (by decide) (by omega) (fun _ => ?_) (fun hz0 => ?_)
  · refine lv_goto (tgt := 1696) hx hb dL_law_1231 (by decide) ?_
    exact kk H2 locs O.2.2 ls hw ⟨hC, ⟨_, hM⟩, ⟨_, hLo⟩, hG1, by omega⟩ (lv_sub hl [2, 3, 4, 5, 6] rfl)
  · have hrr := hrr hz0
    have hfo := hfo hz0
    refine lv_aload_n hx hb dL_law_1219 rfl (lv_at hl 5 rfl) ?_
    refine lv_iconst (v := nI 0) hx hb dL_law_1220 (by decide) ?_
    refine j_lald hx hb hw hLo (k := 0) rfl (by decide) (by decide) dL_law_1221 ?_
    rw [hfo]
    refine lv_iload hx hb dL_law_1222 (lv_at hl 0 rfl) ?_
    rw [hrr]
    refine lv_i2l (v := O.2.1.toInt64) hx hb dL_law_1224 rfl ?_
    refine W.lcmp hx hb dL_law_1225 ?_
    refine jl_eq (tgt := 1231) hx hb dL_law_1226 (by decide) (fun _ => ?_) (fun q => absurd rfl q)
    refine lv_goto (tgt := 1696) hx hb dL_law_1231 (by decide) ?_
    exact kk H2 locs O.2.2 ls hw ⟨hC, ⟨_, hM⟩, ⟨_, hLo⟩, hG1, by omega⟩ (lv_sub hl [2, 3, 4, 5, 6] rfl)

set_option maxHeartbeats 4000000 in
set_option maxRecDepth 100000 in
theorem k_19 {p : Program} {l : Launch} {e : Env} {s : State} {m : MethodId} {below : List Frame} {meth : Method} {c : Code} {H : Heap} {locs : List Loc} {cells slots : Nat} {Q : State → Prop} {ls : Array Slot} {g : jG} {z b L i K : Nat} {xs : Nat → Int32} {w : Wd} (hl0 : l.stackTraces = false) (hx : p.tables.exec = Jvm.exec) (hb : c.code = cL_law) (hml : c.maxLocals = 7) (hown : s.vm.findClass RL = some m.cls) (hts : ∀ w ∈ wsL_law, w.before #[Value.ref b] s = true) (hE : jE s) (hX : va_X b L xs s s.heap) (hzs : s.heap.size = z) (hbz : b < z) (hL : L ≤ 2560) (hi5 : i + 5 ≤ L) (hK4 : 3600000 ≤ K) (hK : K < 2 ^ 29) (hw : jW g z s H locs) (hI : LI g z K H w) (hl : lv_has ls 7 (LL b z i)) (hc : cells + 1 ≤ 601024 ∧ slots + 6 ≤ 7293034) (kk : ∀ (H1 : Heap) (locs1 : List Loc) (w1 : Wd) (ls1 : Array Slot), jW g z s H1 locs1 → LI g z (K + 100000) H1 w1 → lv_has ls1 7 (LL b z i) → W p l e room_1 s m #[Value.ref b] below meth c H1 locs1 (cells + 1) (slots + 6) Q (F0 m 1696 ls1 [])) : W p l e room_1 s m #[Value.ref b] below meth c H locs cells slots Q (F0 m 1234 ls []) := by
  obtain ⟨hC, ⟨x0, hM⟩, ⟨fo, hLo⟩, hG, hsz⟩ := hI
  obtain ⟨tx, σ, hi, sv⟩ := w
  have hN := hC.okN
  have hzl : z ≤ H.size := by omega
  have hbl : b < s.heap.size := by omega
  refine lv_aload_n hx hb dL_law_1234 rfl (lv_at hl 1 rfl) ?_
  refine lv_aload_n hx hb dL_law_1235 rfl (lv_at hl 0 rfl) ?_
  refine lv_iload hx hb dL_law_1236 (lv_at hl 4 rfl) ?_
  refine lv_iconst (v := nI 1) hx hb dL_law_1238 (by decide) ?_
  refine j_addN hx hb dL_law_1239 ?_
  refine j_sc hx hb hw hX hbl hbz hL (k := i + 1) (by omega) dL_law_1240 ?_
  refine lv_aload_n hx hb dL_law_1241 rfl (lv_at hl 3 rfl) ?_
  refine j_HS (n := 3) (As := [.ref z, .int (xs (i + 1)), .ref (z + 232)]) (rest := []) hx hb hml hown hts hw hE (h_feeFor l hl0 g z H z (z + 232) (xs (i + 1)) tx σ hi sv fo K hG.1.1 hK hG.1.2 (Nat.le_refl _) (by omega) (by omega) (by omega) hC hLo) gL_law_L_feeFor rfl (by decide +kernel) ⟨Nat.le_of_ble_eq_true rfl, Nat.le_of_ble_eq_true rfl⟩ rfl hl.1 (Nat.le_of_ble_eq_true rfl) hc dL_law_1242 (fun r H1 locs hp hw => ?_) rfl
  obtain ⟨O, hO⟩ : ∃ O, O = opQ (fFee σ (xs (i + 1))) (tx, σ, hi, sv) := ⟨_, rfl⟩
  rw [← hO] at hp
  obtain ⟨hO4, rfl, hC, ⟨fo, hLo, hfo⟩, hs9, hq9⟩ := hp
  have hM := hM.kept (fun q h1 h2 => hq9 q (by omega) (by omega) (by omega))
  have hG1 : good (K + 100000) O.2.2 := by rw [hO]; exact good_Q hG
  refine lv_istore (lv' := [(5, .int _), (0, .ref _), (1, .ref _), (2, .ref _), (3, .ref _), (4, .int _)]) hx hb dL_law_1245 hl (by decide) rfl (fun ls hl => ?_)
  refine lv_aload_n hx hb dL_law_1247 rfl (lv_at hl 3 rfl) ?_
  refine lv_aload_n hx hb dL_law_1248 rfl (lv_at hl 1 rfl) ?_
  refine lv_iload hx hb dL_law_1249 (lv_at hl 5 rfl) ?_
  refine lv_iconst (v := nI 1) hx hb dL_law_1251 (by decide) ?_
  refine j_addN hx hb dL_law_1252 ?_
  refine j_sc hx hb hw hX hbl hbz hL (k := i + 1) (by omega) dL_law_1253 ?_
  refine j_Vi (n := 1) (As := [.int (xs (i + 1))]) hx hb hml hown hts hw (hM.rec9 hw) (c_X5_feeFor l g z H1 (z + 223) (xs (i + 1)) x0 tx σ hi sv (by omega) hM) gL_law_X5_feeFor rfl (by decide +kernel) ⟨Nat.le_of_ble_eq_true rfl, Nat.le_of_ble_eq_true rfl⟩ rfl hl.1 (Nat.le_of_ble_eq_true rfl) ⟨by show _ ≤ 601024; omega, by show _ ≤ 7293034; omega⟩ dL_law_1254 (fun r H2 locs hp hw _ => ?_) rfl
  obtain ⟨hrr, hM, hf⟩ := hp
  have hrr : O.1 = 0 → r = O.2.1 := by rw [hO]; exact hrr
  have hM : MW g H2 (z + 223) (nI O.1) O.2.2 := by rw [hO]; exact hM
  have hC := CD.kept hC (fun q h1 h2 => hf.2 q (by omega))
  have hLo := hLo.kept (hf.2 _ (by omega))
  have hsz2 := hf.1
  refine lv_istore (lv' := [(6, .int _), (5, .int _), (0, .ref _), (1, .ref _), (2, .ref _), (3, .ref _), (4, .int _)]) hx hb dL_law_1257 hl (by decide) rfl (fun ls hl => ?_)
  refine lv_aload_n hx hb dL_law_1259 rfl (lv_at hl 4 rfl) ?_
  obtain ⟨x3, x4, x5, x14, sn, sc, rd, nw, tr, dy, kp, ik, tk, h0, h1, h2, h3, h4, h5, h6, h7, h8, hMI⟩ := id hM
  refine j_Vp (n := 0) (As := []) hx hb hml hown hts hw (hM.rec9 hw) (c_X5_thrown l g z H2 (z + 223) _ _ _ _ _ _ _ _ h0) gL_law_X5_thrown rfl (by decide +kernel) ⟨Nat.le_of_ble_eq_true rfl, Nat.le_of_ble_eq_true rfl⟩ rfl hl.1 (Nat.le_of_ble_eq_true rfl) ⟨by show _ ≤ 601024; omega, by show _ ≤ 7293034; omega⟩ dL_law_1260 (fun r2 locs hr2 hw => ?_) rfl
  obtain rfl : r2 = nI O.1 := hr2
  refine lv_iload hx hb dL_law_1263 (lv_at hl 1 rfl) ?_
  refine lv_icmp_eq (tgt := 1270) hx hb dL_law_1265 (by decide) (fun _ => ?_) (fun q => absurd rfl q)
  refine lv_iload hx hb dL_law_1270 (lv_at hl 1 rfl) ?_
  refine jz_ne (tgt := 1287) hx hb dL_law_1272 (by decide) (by omega) (fun _ => ?_) (fun hz0 => ?_)
  · refine lv_goto (tgt := 1696) hx hb dL_law_1287 (by decide) ?_
    exact kk H2 locs O.2.2 ls hw ⟨hC, ⟨_, hM⟩, ⟨_, hLo⟩, hG1, by omega⟩ (lv_sub hl [2, 3, 4, 5, 6] rfl)
  · have hrr := hrr hz0
    have hfo := hfo hz0
    refine lv_aload_n hx hb dL_law_1275 rfl (lv_at hl 5 rfl) ?_
    refine lv_iconst (v := nI 0) hx hb dL_law_1276 (by decide) ?_
    refine j_lald hx hb hw hLo (k := 0) rfl (by decide) (by decide) dL_law_1277 ?_
    rw [hfo]
    refine lv_iload hx hb dL_law_1278 (lv_at hl 0 rfl) ?_
    rw [hrr]
    refine lv_i2l (v := O.2.1.toInt64) hx hb dL_law_1280 rfl ?_
    refine W.lcmp hx hb dL_law_1281 ?_
    refine jl_eq (tgt := 1287) hx hb dL_law_1282 (by decide) (fun _ => ?_) (fun q => absurd rfl q)
    refine lv_goto (tgt := 1696) hx hb dL_law_1287 (by decide) ?_
    exact kk H2 locs O.2.2 ls hw ⟨hC, ⟨_, hM⟩, ⟨_, hLo⟩, hG1, by omega⟩ (lv_sub hl [2, 3, 4, 5, 6] rfl)

set_option maxHeartbeats 4000000 in
set_option maxRecDepth 100000 in
theorem k_20 {p : Program} {l : Launch} {e : Env} {s : State} {m : MethodId} {below : List Frame} {meth : Method} {c : Code} {H : Heap} {locs : List Loc} {cells slots : Nat} {Q : State → Prop} {ls : Array Slot} {g : jG} {z b L i K : Nat} {xs : Nat → Int32} {w : Wd} (hl0 : l.stackTraces = false) (hx : p.tables.exec = Jvm.exec) (hb : c.code = cL_law) (hml : c.maxLocals = 7) (hown : s.vm.findClass RL = some m.cls) (hts : ∀ w ∈ wsL_law, w.before #[Value.ref b] s = true) (hE : jE s) (hX : va_X b L xs s s.heap) (hzs : s.heap.size = z) (hbz : b < z) (hL : L ≤ 2560) (hi5 : i + 5 ≤ L) (hK4 : 3600000 ≤ K) (hK : K < 2 ^ 29) (hw : jW g z s H locs) (hI : LI g z K H w) (hl : lv_has ls 7 (LL b z i)) (hc : cells + 1 ≤ 601024 ∧ slots + 6 ≤ 7293034) (kk : ∀ (H1 : Heap) (locs1 : List Loc) (w1 : Wd) (ls1 : Array Slot), jW g z s H1 locs1 → LI g z (K + 100000) H1 w1 → lv_has ls1 7 (LL b z i) → W p l e room_1 s m #[Value.ref b] below meth c H1 locs1 (cells + 1) (slots + 6) Q (F0 m 1696 ls1 [])) : W p l e room_1 s m #[Value.ref b] below meth c H locs cells slots Q (F0 m 1290 ls []) := by
  obtain ⟨hC, ⟨x0, hM⟩, ⟨fo, hLo⟩, hG, hsz⟩ := hI
  obtain ⟨tx, σ, hi, sv⟩ := w
  have hN := hC.okN
  have hzl : z ≤ H.size := by omega
  have hbl : b < s.heap.size := by omega
  refine lv_aload_n hx hb dL_law_1290 rfl (lv_at hl 1 rfl) ?_
  refine lv_aload_n hx hb dL_law_1291 rfl (lv_at hl 0 rfl) ?_
  refine lv_iload hx hb dL_law_1292 (lv_at hl 4 rfl) ?_
  refine lv_iconst (v := nI 1) hx hb dL_law_1294 (by decide) ?_
  refine j_addN hx hb dL_law_1295 ?_
  refine j_sc hx hb hw hX hbl hbz hL (k := i + 1) (by omega) dL_law_1296 ?_
  refine lv_aload_n hx hb dL_law_1297 rfl (lv_at hl 0 rfl) ?_
  refine lv_iload hx hb dL_law_1298 (lv_at hl 4 rfl) ?_
  refine lv_iconst (v := nI 2) hx hb dL_law_1300 (by decide) ?_
  refine j_addN hx hb dL_law_1301 ?_
  refine j_sc hx hb hw hX hbl hbz hL (k := i + 2) (by omega) dL_law_1302 ?_
  refine lv_aload_n hx hb dL_law_1303 rfl (lv_at hl 3 rfl) ?_
  refine j_HS (n := 4) (As := [.ref z, .int (xs (i + 1)), .int (xs (i + 2)), .ref (z + 232)]) (rest := []) hx hb hml hown hts hw hE (h_would l hl0 g z H z (z + 232) (xs (i + 1)) (xs (i + 2)) tx σ hi sv fo K hG.1.1 hK (Nat.le_refl _) (by omega) (by omega) (by omega) hC hLo) gL_law_L_would rfl (by decide +kernel) ⟨Nat.le_of_ble_eq_true rfl, Nat.le_of_ble_eq_true rfl⟩ rfl hl.1 (Nat.le_of_ble_eq_true rfl) hc dL_law_1304 (fun r H1 locs hp hw => ?_) rfl
  obtain ⟨O, hO⟩ : ∃ O, O = opQ (fWould σ (xs (i + 1)) (xs (i + 2))) (tx, σ, hi, sv) := ⟨_, rfl⟩
  rw [← hO] at hp
  obtain ⟨hO4, rfl, hC, ⟨fo, hLo, hfo⟩, hs9, hq9⟩ := hp
  have hM := hM.kept (fun q h1 h2 => hq9 q (by omega) (by omega) (by omega))
  have hG1 : good (K + 100000) O.2.2 := by rw [hO]; exact good_Q hG
  refine lv_istore (lv' := [(5, .int _), (0, .ref _), (1, .ref _), (2, .ref _), (3, .ref _), (4, .int _)]) hx hb dL_law_1307 hl (by decide) rfl (fun ls hl => ?_)
  refine lv_aload_n hx hb dL_law_1309 rfl (lv_at hl 3 rfl) ?_
  refine lv_aload_n hx hb dL_law_1310 rfl (lv_at hl 1 rfl) ?_
  refine lv_iload hx hb dL_law_1311 (lv_at hl 5 rfl) ?_
  refine lv_iconst (v := nI 1) hx hb dL_law_1313 (by decide) ?_
  refine j_addN hx hb dL_law_1314 ?_
  refine j_sc hx hb hw hX hbl hbz hL (k := i + 1) (by omega) dL_law_1315 ?_
  refine lv_aload_n hx hb dL_law_1316 rfl (lv_at hl 1 rfl) ?_
  refine lv_iload hx hb dL_law_1317 (lv_at hl 5 rfl) ?_
  refine lv_iconst (v := nI 2) hx hb dL_law_1319 (by decide) ?_
  refine j_addN hx hb dL_law_1320 ?_
  refine j_sc hx hb hw hX hbl hbz hL (k := i + 2) (by omega) dL_law_1321 ?_
  refine j_Vi (n := 2) (As := [.int (xs (i + 1)), .int (xs (i + 2))]) hx hb hml hown hts hw (hM.rec9 hw) (c_X5_would l g z H1 (z + 223) (xs (i + 1)) (xs (i + 2)) x0 tx σ hi sv (by omega) hM) gL_law_X5_would rfl (by decide +kernel) ⟨Nat.le_of_ble_eq_true rfl, Nat.le_of_ble_eq_true rfl⟩ rfl hl.1 (Nat.le_of_ble_eq_true rfl) ⟨by show _ ≤ 601024; omega, by show _ ≤ 7293034; omega⟩ dL_law_1322 (fun r H2 locs hp hw _ => ?_) rfl
  obtain ⟨hrr, hM, hf⟩ := hp
  have hrr : O.1 = 0 → r = O.2.1 := by rw [hO]; exact hrr
  have hM : MW g H2 (z + 223) (nI O.1) O.2.2 := by rw [hO]; exact hM
  have hC := CD.kept hC (fun q h1 h2 => hf.2 q (by omega))
  have hLo := hLo.kept (hf.2 _ (by omega))
  have hsz2 := hf.1
  refine lv_istore (lv' := [(6, .int _), (5, .int _), (0, .ref _), (1, .ref _), (2, .ref _), (3, .ref _), (4, .int _)]) hx hb dL_law_1325 hl (by decide) rfl (fun ls hl => ?_)
  refine lv_aload_n hx hb dL_law_1327 rfl (lv_at hl 4 rfl) ?_
  obtain ⟨x3, x4, x5, x14, sn, sc, rd, nw, tr, dy, kp, ik, tk, h0, h1, h2, h3, h4, h5, h6, h7, h8, hMI⟩ := id hM
  refine j_Vp (n := 0) (As := []) hx hb hml hown hts hw (hM.rec9 hw) (c_X5_thrown l g z H2 (z + 223) _ _ _ _ _ _ _ _ h0) gL_law_X5_thrown rfl (by decide +kernel) ⟨Nat.le_of_ble_eq_true rfl, Nat.le_of_ble_eq_true rfl⟩ rfl hl.1 (Nat.le_of_ble_eq_true rfl) ⟨by show _ ≤ 601024; omega, by show _ ≤ 7293034; omega⟩ dL_law_1328 (fun r2 locs hr2 hw => ?_) rfl
  obtain rfl : r2 = nI O.1 := hr2
  refine lv_iload hx hb dL_law_1331 (lv_at hl 1 rfl) ?_
  refine lv_icmp_eq (tgt := 1338) hx hb dL_law_1333 (by decide) (fun _ => ?_) (fun q => absurd rfl q)
  refine lv_iload hx hb dL_law_1338 (lv_at hl 1 rfl) ?_
  refine jz_ne (tgt := 1355) hx hb dL_law_1340 (by decide) (by omega) (fun _ => ?_) (fun hz0 => ?_)
  · refine lv_goto (tgt := 1696) hx hb dL_law_1355 (by decide) ?_
    exact kk H2 locs O.2.2 ls hw ⟨hC, ⟨_, hM⟩, ⟨_, hLo⟩, hG1, by omega⟩ (lv_sub hl [2, 3, 4, 5, 6] rfl)
  · have hrr := hrr hz0
    have hfo := hfo hz0
    refine lv_aload_n hx hb dL_law_1343 rfl (lv_at hl 5 rfl) ?_
    refine lv_iconst (v := nI 0) hx hb dL_law_1344 (by decide) ?_
    refine j_lald hx hb hw hLo (k := 0) rfl (by decide) (by decide) dL_law_1345 ?_
    rw [hfo]
    refine lv_iload hx hb dL_law_1346 (lv_at hl 0 rfl) ?_
    rw [hrr]
    refine lv_i2l (v := O.2.1.toInt64) hx hb dL_law_1348 rfl ?_
    refine W.lcmp hx hb dL_law_1349 ?_
    refine jl_eq (tgt := 1355) hx hb dL_law_1350 (by decide) (fun _ => ?_) (fun q => absurd rfl q)
    refine lv_goto (tgt := 1696) hx hb dL_law_1355 (by decide) ?_
    exact kk H2 locs O.2.2 ls hw ⟨hC, ⟨_, hM⟩, ⟨_, hLo⟩, hG1, by omega⟩ (lv_sub hl [2, 3, 4, 5, 6] rfl)

set_option maxHeartbeats 4000000 in
set_option maxRecDepth 100000 in
theorem k_21 {p : Program} {l : Launch} {e : Env} {s : State} {m : MethodId} {below : List Frame} {meth : Method} {c : Code} {H : Heap} {locs : List Loc} {cells slots : Nat} {Q : State → Prop} {ls : Array Slot} {g : jG} {z b L i K : Nat} {xs : Nat → Int32} {w : Wd} (hl0 : l.stackTraces = false) (hx : p.tables.exec = Jvm.exec) (hb : c.code = cL_law) (hml : c.maxLocals = 7) (hown : s.vm.findClass RL = some m.cls) (hts : ∀ w ∈ wsL_law, w.before #[Value.ref b] s = true) (hE : jE s) (hX : va_X b L xs s s.heap) (hzs : s.heap.size = z) (hbz : b < z) (hL : L ≤ 2560) (hi5 : i + 5 ≤ L) (hK4 : 3600000 ≤ K) (hK : K < 2 ^ 29) (hw : jW g z s H locs) (hI : LI g z K H w) (hl : lv_has ls 7 (LL b z i)) (hc : cells + 1 ≤ 601024 ∧ slots + 6 ≤ 7293034) (kk : ∀ (H1 : Heap) (locs1 : List Loc) (w1 : Wd) (ls1 : Array Slot), jW g z s H1 locs1 → LI g z (K + 100000) H1 w1 → lv_has ls1 7 (LL b z i) → W p l e room_1 s m #[Value.ref b] below meth c H1 locs1 (cells + 1) (slots + 6) Q (F0 m 1696 ls1 [])) : W p l e room_1 s m #[Value.ref b] below meth c H locs cells slots Q (F0 m 1358 ls []) := by
  obtain ⟨hC, ⟨x0, hM⟩, ⟨fo, hLo⟩, hG, hsz⟩ := hI
  obtain ⟨tx, σ, hi, sv⟩ := w
  have hN := hC.okN
  have hzl : z ≤ H.size := by omega
  have hbl : b < s.heap.size := by omega
  refine lv_aload_n hx hb dL_law_1358 rfl (lv_at hl 1 rfl) ?_
  refine j_Vi (n := 0) (As := []) hx hb hml hown hts hw (CD.rec9 hC hw) (c_X4_bestRule l g z H z tx σ hi sv K (Nat.le_refl _) hC hG.1.1 hK) gL_law_X4_bestRule rfl (by decide +kernel) ⟨Nat.le_of_ble_eq_true rfl, Nat.le_of_ble_eq_true rfl⟩ rfl hl.1 (Nat.le_of_ble_eq_true rfl) ⟨by show _ ≤ 601024; omega, by show _ ≤ 7293034; omega⟩ dL_law_1359 (fun r H1 locs hp hw _ => ?_) rfl
  obtain ⟨rfl, hC, hf⟩ := hp
  have hM := hM.kept (fun q h1 h2 => hf.2 q (by omega))
  have hLo := hLo.kept (hf.2 _ (by omega))
  have hs9 := hf.1
  refine lv_aload_n hx hb dL_law_1362 rfl (lv_at hl 2 rfl) ?_
  refine j_Vi (n := 0) (As := []) hx hb hml hown hts hw (hM.rec9 hw) (c_X5_bestRule l g z H1 (z + 223) x0 tx σ hi sv (by omega) hM) gL_law_X5_bestRule rfl (by decide +kernel) ⟨Nat.le_of_ble_eq_true rfl, Nat.le_of_ble_eq_true rfl⟩ rfl hl.1 (Nat.le_of_ble_eq_true rfl) ⟨by show _ ≤ 601024; omega, by show _ ≤ 7293034; omega⟩ dL_law_1363 (fun r H2 locs hp hw _ => ?_) rfl
  obtain ⟨rfl, hM, hf⟩ := hp
  have hC := CD.kept hC (fun q h1 h2 => hf.2 q (by omega))
  have hLo := hLo.kept (hf.2 _ (by omega))
  have hsz2 := hf.1
  refine lv_icmp_eq (tgt := 1696) hx hb dL_law_1366 (by decide) (fun _ => ?_) (fun q => absurd rfl q)
  refine W.widen (Nat.le_add_right _ 1) (Nat.le_add_right _ 6) ?_
  exact kk H2 locs (tx, σ, hi, sv) ls hw ⟨hC, ⟨_, hM⟩, ⟨_, hLo⟩, ⟨hG.1.mono (by omega), fun s hs => (hG.2.1 s hs).mono (by omega), fun k s hs => (hG.2.2 k s hs).mono (by omega)⟩, by omega⟩ hl

set_option maxHeartbeats 4000000 in
set_option maxRecDepth 100000 in
theorem k_22 {p : Program} {l : Launch} {e : Env} {s : State} {m : MethodId} {below : List Frame} {meth : Method} {c : Code} {H : Heap} {locs : List Loc} {cells slots : Nat} {Q : State → Prop} {ls : Array Slot} {g : jG} {z b L i K : Nat} {xs : Nat → Int32} {w : Wd} (hl0 : l.stackTraces = false) (hx : p.tables.exec = Jvm.exec) (hb : c.code = cL_law) (hml : c.maxLocals = 7) (hown : s.vm.findClass RL = some m.cls) (hts : ∀ w ∈ wsL_law, w.before #[Value.ref b] s = true) (hE : jE s) (hX : va_X b L xs s s.heap) (hzs : s.heap.size = z) (hbz : b < z) (hL : L ≤ 2560) (hi5 : i + 5 ≤ L) (hK4 : 3600000 ≤ K) (hK : K < 2 ^ 29) (hw : jW g z s H locs) (hI : LI g z K H w) (hl : lv_has ls 7 (LL b z i)) (hc : cells + 1 ≤ 601024 ∧ slots + 6 ≤ 7293034) (kk : ∀ (H1 : Heap) (locs1 : List Loc) (w1 : Wd) (ls1 : Array Slot), jW g z s H1 locs1 → LI g z (K + 100000) H1 w1 → lv_has ls1 7 (LL b z i) → W p l e room_1 s m #[Value.ref b] below meth c H1 locs1 (cells + 1) (slots + 6) Q (F0 m 1696 ls1 [])) : W p l e room_1 s m #[Value.ref b] below meth c H locs cells slots Q (F0 m 1371 ls []) := by
  obtain ⟨hC, ⟨x0, hM⟩, ⟨fo, hLo⟩, hG, hsz⟩ := hI
  obtain ⟨tx, σ, hi, sv⟩ := w
  have hN := hC.okN
  have hzl : z ≤ H.size := by omega
  have hbl : b < s.heap.size := by omega
  refine lv_aload_n hx hb dL_law_1371 rfl (lv_at hl 1 rfl) ?_
  refine j_Vi (n := 0) (As := []) hx hb hml hown hts hw (CD.rec9 hC hw) (c_X4_leastRoom l g z H z tx σ hi sv K (Nat.le_refl _) hC hG.1.1 hK) gL_law_X4_leastRoom rfl (by decide +kernel) ⟨Nat.le_of_ble_eq_true rfl, Nat.le_of_ble_eq_true rfl⟩ rfl hl.1 (Nat.le_of_ble_eq_true rfl) ⟨by show _ ≤ 601024; omega, by show _ ≤ 7293034; omega⟩ dL_law_1372 (fun r H1 locs hp hw _ => ?_) rfl
  obtain ⟨rfl, hC, hf⟩ := hp
  have hM := hM.kept (fun q h1 h2 => hf.2 q (by omega))
  have hLo := hLo.kept (hf.2 _ (by omega))
  have hs9 := hf.1
  refine lv_aload_n hx hb dL_law_1375 rfl (lv_at hl 2 rfl) ?_
  refine j_Vi (n := 0) (As := []) hx hb hml hown hts hw (hM.rec9 hw) (c_X5_leastRoom l g z H1 (z + 223) x0 tx σ hi sv (by omega) hM) gL_law_X5_leastRoom rfl (by decide +kernel) ⟨Nat.le_of_ble_eq_true rfl, Nat.le_of_ble_eq_true rfl⟩ rfl hl.1 (Nat.le_of_ble_eq_true rfl) ⟨by show _ ≤ 601024; omega, by show _ ≤ 7293034; omega⟩ dL_law_1376 (fun r H2 locs hp hw _ => ?_) rfl
  obtain ⟨rfl, hM, hf⟩ := hp
  have hC := CD.kept hC (fun q h1 h2 => hf.2 q (by omega))
  have hLo := hLo.kept (hf.2 _ (by omega))
  have hsz2 := hf.1
  refine lv_icmp_eq (tgt := 1696) hx hb dL_law_1379 (by decide) (fun _ => ?_) (fun q => absurd rfl q)
  refine W.widen (Nat.le_add_right _ 1) (Nat.le_add_right _ 6) ?_
  exact kk H2 locs (tx, σ, hi, sv) ls hw ⟨hC, ⟨_, hM⟩, ⟨_, hLo⟩, ⟨hG.1.mono (by omega), fun s hs => (hG.2.1 s hs).mono (by omega), fun k s hs => (hG.2.2 k s hs).mono (by omega)⟩, by omega⟩ hl

set_option maxHeartbeats 4000000 in
set_option maxRecDepth 100000 in
theorem k_23 {p : Program} {l : Launch} {e : Env} {s : State} {m : MethodId} {below : List Frame} {meth : Method} {c : Code} {H : Heap} {locs : List Loc} {cells slots : Nat} {Q : State → Prop} {ls : Array Slot} {g : jG} {z b L i K : Nat} {xs : Nat → Int32} {w : Wd} (hl0 : l.stackTraces = false) (hx : p.tables.exec = Jvm.exec) (hb : c.code = cL_law) (hml : c.maxLocals = 7) (hown : s.vm.findClass RL = some m.cls) (hts : ∀ w ∈ wsL_law, w.before #[Value.ref b] s = true) (hE : jE s) (hX : va_X b L xs s s.heap) (hzs : s.heap.size = z) (hbz : b < z) (hL : L ≤ 2560) (hi5 : i + 5 ≤ L) (hK4 : 3600000 ≤ K) (hK : K < 2 ^ 29) (hw : jW g z s H locs) (hI : LI g z K H w) (hl : lv_has ls 7 (LL b z i)) (hc : cells + 1 ≤ 601024 ∧ slots + 6 ≤ 7293034) (kk : ∀ (H1 : Heap) (locs1 : List Loc) (w1 : Wd) (ls1 : Array Slot), jW g z s H1 locs1 → LI g z (K + 100000) H1 w1 → lv_has ls1 7 (LL b z i) → W p l e room_1 s m #[Value.ref b] below meth c H1 locs1 (cells + 1) (slots + 6) Q (F0 m 1696 ls1 [])) : W p l e room_1 s m #[Value.ref b] below meth c H locs cells slots Q (F0 m 1384 ls []) := by
  obtain ⟨hC, ⟨x0, hM⟩, ⟨fo, hLo⟩, hG, hsz⟩ := hI
  obtain ⟨tx, σ, hi, sv⟩ := w
  have hN := hC.okN
  have hzl : z ≤ H.size := by omega
  have hbl : b < s.heap.size := by omega
  refine lv_aload_n hx hb dL_law_1384 rfl (lv_at hl 1 rfl) ?_
  refine lv_aload_n hx hb dL_law_1385 rfl (lv_at hl 0 rfl) ?_
  refine lv_iload hx hb dL_law_1386 (lv_at hl 4 rfl) ?_
  refine lv_iconst (v := nI 1) hx hb dL_law_1388 (by decide) ?_
  refine j_addN hx hb dL_law_1389 ?_
  refine j_sc hx hb hw hX hbl hbz hL (k := i + 1) (by omega) dL_law_1390 ?_
  refine lv_aload_n hx hb dL_law_1391 rfl (lv_at hl 0 rfl) ?_
  refine lv_iload hx hb dL_law_1392 (lv_at hl 4 rfl) ?_
  refine lv_iconst (v := nI 2) hx hb dL_law_1394 (by decide) ?_
  refine j_addN hx hb dL_law_1395 ?_
  refine j_sc hx hb hw hX hbl hbz hL (k := i + 2) (by omega) dL_law_1396 ?_
  refine lv_i2l (v := (xs (i + 2)).toInt64) hx hb dL_law_1397 rfl ?_
  refine lv_bipush (v := nI 32) hx hb dL_law_1398 (by decide) ?_
  refine lv_lshl (v := ((xs (i + 2)).toInt64 <<< ((nI (32)).toInt64 &&& 63))) hx hb dL_law_1400 rfl ?_
  refine lv_aload_n hx hb dL_law_1401 rfl (lv_at hl 0 rfl) ?_
  refine lv_iload hx hb dL_law_1402 (lv_at hl 4 rfl) ?_
  refine lv_iconst (v := nI 3) hx hb dL_law_1404 (by decide) ?_
  refine j_addN hx hb dL_law_1405 ?_
  refine j_sc hx hb hw hX hbl hbz hL (k := i + 3) (by omega) dL_law_1406 ?_
  refine lv_i2l (v := (xs (i + 3)).toInt64) hx hb dL_law_1407 rfl ?_
  refine lv_ldc2 (v := 4294967295) hx hb hown (hts (.constantLong RL 176 (4294967295)) (by decide +kernel)) dL_law_1408 ?_
  refine lv_land hx hb dL_law_1411 ?_
  refine lv_lor hx hb dL_law_1412 ?_
  refine lv_aload_n hx hb dL_law_1413 rfl (lv_at hl 3 rfl) ?_
  refine j_HS (n := 4) (As := [.ref z, .int (xs (i + 1)), .long (((xs (i + 2)).toInt64 <<< ((nI (32)).toInt64 &&& 63)) ||| ((xs (i + 3)).toInt64 &&& 4294967295)), .ref (z + 232)]) (rest := []) hx hb hml hown hts hw hE (h_runScript l hl0 g z H z (z + 232) (xs (i + 1)) (((xs (i + 2)).toInt64 <<< ((nI (32)).toInt64 &&& 63)) ||| ((xs (i + 3)).toInt64 &&& 4294967295)) tx σ hi sv fo K hG.1.1 hK (Nat.le_refl _) (by omega) (by omega) (by omega) hC hLo) gL_law_L_runScript rfl (by decide +kernel) ⟨Nat.le_of_ble_eq_true rfl, Nat.le_of_ble_eq_true rfl⟩ rfl hl.1 (Nat.le_of_ble_eq_true rfl) hc dL_law_1414 (fun r H1 locs hp hw => ?_) rfl
  obtain ⟨O, hO⟩ : ∃ O, O = opQ (fScript σ (xs (i + 1)) (((xs (i + 2)).toInt64 <<< ((nI (32)).toInt64 &&& 63)) ||| ((xs (i + 3)).toInt64 &&& 4294967295))) (tx, σ, hi, sv) := ⟨_, rfl⟩
  rw [← hO] at hp
  obtain ⟨hO4, rfl, hC, ⟨fo, hLo, hfo⟩, hs9, hq9⟩ := hp
  have hM := hM.kept (fun q h1 h2 => hq9 q (by omega) (by omega) (by omega))
  have hG1 : good (K + 100000) O.2.2 := by rw [hO]; exact good_Q hG
  refine lv_istore (lv' := [(5, .int _), (0, .ref _), (1, .ref _), (2, .ref _), (3, .ref _), (4, .int _)]) hx hb dL_law_1417 hl (by decide) rfl (fun ls hl => ?_)
  refine lv_aload_n hx hb dL_law_1419 rfl (lv_at hl 3 rfl) ?_
  refine lv_aload_n hx hb dL_law_1420 rfl (lv_at hl 1 rfl) ?_
  refine lv_iload hx hb dL_law_1421 (lv_at hl 5 rfl) ?_
  refine lv_iconst (v := nI 1) hx hb dL_law_1423 (by decide) ?_
  refine j_addN hx hb dL_law_1424 ?_
  refine j_sc hx hb hw hX hbl hbz hL (k := i + 1) (by omega) dL_law_1425 ?_
  refine lv_aload_n hx hb dL_law_1426 rfl (lv_at hl 1 rfl) ?_
  refine lv_iload hx hb dL_law_1427 (lv_at hl 5 rfl) ?_
  refine lv_iconst (v := nI 2) hx hb dL_law_1429 (by decide) ?_
  refine j_addN hx hb dL_law_1430 ?_
  refine j_sc hx hb hw hX hbl hbz hL (k := i + 2) (by omega) dL_law_1431 ?_
  refine lv_i2l (v := (xs (i + 2)).toInt64) hx hb dL_law_1432 rfl ?_
  refine lv_bipush (v := nI 32) hx hb dL_law_1433 (by decide) ?_
  refine lv_lshl (v := ((xs (i + 2)).toInt64 <<< ((nI (32)).toInt64 &&& 63))) hx hb dL_law_1435 rfl ?_
  refine lv_aload_n hx hb dL_law_1436 rfl (lv_at hl 1 rfl) ?_
  refine lv_iload hx hb dL_law_1437 (lv_at hl 5 rfl) ?_
  refine lv_iconst (v := nI 3) hx hb dL_law_1439 (by decide) ?_
  refine j_addN hx hb dL_law_1440 ?_
  refine j_sc hx hb hw hX hbl hbz hL (k := i + 3) (by omega) dL_law_1441 ?_
  refine lv_i2l (v := (xs (i + 3)).toInt64) hx hb dL_law_1442 rfl ?_
  refine lv_ldc2 (v := 4294967295) hx hb hown (hts (.constantLong RL 176 (4294967295)) (by decide +kernel)) dL_law_1443 ?_
  refine lv_land hx hb dL_law_1446 ?_
  refine lv_lor hx hb dL_law_1447 ?_
  refine j_Vi (n := 2) (As := [.int (xs (i + 1)), .long (((xs (i + 2)).toInt64 <<< ((nI (32)).toInt64 &&& 63)) ||| ((xs (i + 3)).toInt64 &&& 4294967295))]) hx hb hml hown hts hw (hM.rec9 hw) (c_X5_runScript l g z H1 (z + 223) (xs (i + 1)) (((xs (i + 2)).toInt64 <<< ((nI (32)).toInt64 &&& 63)) ||| ((xs (i + 3)).toInt64 &&& 4294967295)) x0 tx σ hi sv (by omega) hM) gL_law_X5_runScript rfl (by decide +kernel) ⟨Nat.le_of_ble_eq_true rfl, Nat.le_of_ble_eq_true rfl⟩ rfl hl.1 (Nat.le_of_ble_eq_true rfl) ⟨by show _ ≤ 601024; omega, by show _ ≤ 7293034; omega⟩ dL_law_1448 (fun r H2 locs hp hw _ => ?_) rfl
  obtain ⟨hrr, hM, hf⟩ := hp
  have hrr : O.1 = 0 → r = O.2.1 := by rw [hO]; exact hrr
  have hM : MW g H2 (z + 223) (nI O.1) O.2.2 := by rw [hO]; exact hM
  have hC := CD.kept hC (fun q h1 h2 => hf.2 q (by omega))
  have hLo := hLo.kept (hf.2 _ (by omega))
  have hsz2 := hf.1
  refine lv_istore (lv' := [(6, .int _), (5, .int _), (0, .ref _), (1, .ref _), (2, .ref _), (3, .ref _), (4, .int _)]) hx hb dL_law_1451 hl (by decide) rfl (fun ls hl => ?_)
  refine lv_aload_n hx hb dL_law_1453 rfl (lv_at hl 4 rfl) ?_
  obtain ⟨x3, x4, x5, x14, sn, sc, rd, nw, tr, dy, kp, ik, tk, h0, h1, h2, h3, h4, h5, h6, h7, h8, hMI⟩ := id hM
  refine j_Vp (n := 0) (As := []) hx hb hml hown hts hw (hM.rec9 hw) (c_X5_thrown l g z H2 (z + 223) _ _ _ _ _ _ _ _ h0) gL_law_X5_thrown rfl (by decide +kernel) ⟨Nat.le_of_ble_eq_true rfl, Nat.le_of_ble_eq_true rfl⟩ rfl hl.1 (Nat.le_of_ble_eq_true rfl) ⟨by show _ ≤ 601024; omega, by show _ ≤ 7293034; omega⟩ dL_law_1454 (fun r2 locs hr2 hw => ?_) rfl
  obtain rfl : r2 = nI O.1 := hr2
  refine lv_iload hx hb dL_law_1457 (lv_at hl 1 rfl) ?_
  refine lv_icmp_eq (tgt := 1464) hx hb dL_law_1459 (by decide) (fun _ => ?_) (fun q => absurd rfl q)
  refine lv_iload hx hb dL_law_1464 (lv_at hl 1 rfl) ?_
  refine jz_ne (tgt := 1481) hx hb dL_law_1466 (by decide) (by omega) (fun _ => ?_) (fun hz0 => ?_)
  · refine lv_goto (tgt := 1696) hx hb dL_law_1481 (by decide) ?_
    exact kk H2 locs O.2.2 ls hw ⟨hC, ⟨_, hM⟩, ⟨_, hLo⟩, hG1, by omega⟩ (lv_sub hl [2, 3, 4, 5, 6] rfl)
  · have hrr := hrr hz0
    have hfo := hfo hz0
    refine lv_aload_n hx hb dL_law_1469 rfl (lv_at hl 5 rfl) ?_
    refine lv_iconst (v := nI 0) hx hb dL_law_1470 (by decide) ?_
    refine j_lald hx hb hw hLo (k := 0) rfl (by decide) (by decide) dL_law_1471 ?_
    rw [hfo]
    refine lv_iload hx hb dL_law_1472 (lv_at hl 0 rfl) ?_
    rw [hrr]
    refine lv_i2l (v := O.2.1.toInt64) hx hb dL_law_1474 rfl ?_
    refine W.lcmp hx hb dL_law_1475 ?_
    refine jl_eq (tgt := 1481) hx hb dL_law_1476 (by decide) (fun _ => ?_) (fun q => absurd rfl q)
    refine lv_goto (tgt := 1696) hx hb dL_law_1481 (by decide) ?_
    exact kk H2 locs O.2.2 ls hw ⟨hC, ⟨_, hM⟩, ⟨_, hLo⟩, hG1, by omega⟩ (lv_sub hl [2, 3, 4, 5, 6] rfl)

set_option maxHeartbeats 4000000 in
set_option maxRecDepth 100000 in
theorem k_24 {p : Program} {l : Launch} {e : Env} {s : State} {m : MethodId} {below : List Frame} {meth : Method} {c : Code} {H : Heap} {locs : List Loc} {cells slots : Nat} {Q : State → Prop} {ls : Array Slot} {g : jG} {z b L i K : Nat} {xs : Nat → Int32} {w : Wd} (hl0 : l.stackTraces = false) (hx : p.tables.exec = Jvm.exec) (hb : c.code = cL_law) (hml : c.maxLocals = 7) (hown : s.vm.findClass RL = some m.cls) (hts : ∀ w ∈ wsL_law, w.before #[Value.ref b] s = true) (hE : jE s) (hX : va_X b L xs s s.heap) (hzs : s.heap.size = z) (hbz : b < z) (hL : L ≤ 2560) (hi5 : i + 5 ≤ L) (hK4 : 3600000 ≤ K) (hK : K < 2 ^ 29) (hw : jW g z s H locs) (hI : LI g z K H w) (hl : lv_has ls 7 (LL b z i)) (hc : cells + 1 ≤ 601024 ∧ slots + 6 ≤ 7293034) (kk : ∀ (H1 : Heap) (locs1 : List Loc) (w1 : Wd) (ls1 : Array Slot), jW g z s H1 locs1 → LI g z (K + 100000) H1 w1 → lv_has ls1 7 (LL b z i) → W p l e room_1 s m #[Value.ref b] below meth c H1 locs1 (cells + 1) (slots + 6) Q (F0 m 1696 ls1 [])) : W p l e room_1 s m #[Value.ref b] below meth c H locs cells slots Q (F0 m 1484 ls []) := by
  obtain ⟨hC, ⟨x0, hM⟩, ⟨fo, hLo⟩, hG, hsz⟩ := hI
  obtain ⟨tx, σ, hi, sv⟩ := w
  have hN := hC.okN
  have hzl : z ≤ H.size := by omega
  have hbl : b < s.heap.size := by omega
  refine lv_aload_n hx hb dL_law_1484 rfl (lv_at hl 1 rfl) ?_
  refine lv_aload_n hx hb dL_law_1485 rfl (lv_at hl 0 rfl) ?_
  refine lv_iload hx hb dL_law_1486 (lv_at hl 4 rfl) ?_
  refine lv_iconst (v := nI 1) hx hb dL_law_1488 (by decide) ?_
  refine j_addN hx hb dL_law_1489 ?_
  refine j_sc hx hb hw hX hbl hbz hL (k := i + 1) (by omega) dL_law_1490 ?_
  refine lv_i2l (v := (xs (i + 1)).toInt64) hx hb dL_law_1491 rfl ?_
  refine lv_bipush (v := nI 32) hx hb dL_law_1492 (by decide) ?_
  refine lv_lshl (v := ((xs (i + 1)).toInt64 <<< ((nI (32)).toInt64 &&& 63))) hx hb dL_law_1494 rfl ?_
  refine lv_aload_n hx hb dL_law_1495 rfl (lv_at hl 0 rfl) ?_
  refine lv_iload hx hb dL_law_1496 (lv_at hl 4 rfl) ?_
  refine lv_iconst (v := nI 2) hx hb dL_law_1498 (by decide) ?_
  refine j_addN hx hb dL_law_1499 ?_
  refine j_sc hx hb hw hX hbl hbz hL (k := i + 2) (by omega) dL_law_1500 ?_
  refine lv_i2l (v := (xs (i + 2)).toInt64) hx hb dL_law_1501 rfl ?_
  refine lv_ldc2 (v := 4294967295) hx hb hown (hts (.constantLong RL 176 (4294967295)) (by decide +kernel)) dL_law_1502 ?_
  refine lv_land hx hb dL_law_1505 ?_
  refine lv_lor hx hb dL_law_1506 ?_
  refine lv_aload_n hx hb dL_law_1507 rfl (lv_at hl 0 rfl) ?_
  refine lv_iload hx hb dL_law_1508 (lv_at hl 4 rfl) ?_
  refine lv_iconst (v := nI 3) hx hb dL_law_1510 (by decide) ?_
  refine j_addN hx hb dL_law_1511 ?_
  refine j_sc hx hb hw hX hbl hbz hL (k := i + 3) (by omega) dL_law_1512 ?_
  refine lv_aload_n hx hb dL_law_1513 rfl (lv_at hl 3 rfl) ?_
  refine j_HS (n := 4) (As := [.ref z, .long (((xs (i + 1)).toInt64 <<< ((nI (32)).toInt64 &&& 63)) ||| ((xs (i + 2)).toInt64 &&& 4294967295)), .int (xs (i + 3)), .ref (z + 232)]) (rest := []) hx hb hml hown hts hw hE (h_simulate l hl0 g z H z (z + 232) (((xs (i + 1)).toInt64 <<< ((nI (32)).toInt64 &&& 63)) ||| ((xs (i + 2)).toInt64 &&& 4294967295)) (xs (i + 3)) tx σ hi sv fo K hG.1.1 hK (Nat.le_refl _) (by omega) (by omega) (by omega) hC hLo) gL_law_L_simulate rfl (by decide +kernel) ⟨Nat.le_of_ble_eq_true rfl, Nat.le_of_ble_eq_true rfl⟩ rfl hl.1 (Nat.le_of_ble_eq_true rfl) hc dL_law_1514 (fun r H1 locs hp hw => ?_) rfl
  obtain ⟨O, hO⟩ : ∃ O, O = opQ (fSim σ (((xs (i + 1)).toInt64 <<< ((nI (32)).toInt64 &&& 63)) ||| ((xs (i + 2)).toInt64 &&& 4294967295)) (xs (i + 3))) (tx, σ, hi, sv) := ⟨_, rfl⟩
  rw [← hO] at hp
  obtain ⟨hO4, rfl, hC, ⟨fo, hLo, hfo⟩, hs9, hq9⟩ := hp
  have hM := hM.kept (fun q h1 h2 => hq9 q (by omega) (by omega) (by omega))
  have hG1 : good (K + 100000) O.2.2 := by rw [hO]; exact good_Q hG
  refine lv_istore (lv' := [(5, .int _), (0, .ref _), (1, .ref _), (2, .ref _), (3, .ref _), (4, .int _)]) hx hb dL_law_1517 hl (by decide) rfl (fun ls hl => ?_)
  refine lv_aload_n hx hb dL_law_1519 rfl (lv_at hl 3 rfl) ?_
  refine lv_aload_n hx hb dL_law_1520 rfl (lv_at hl 1 rfl) ?_
  refine lv_iload hx hb dL_law_1521 (lv_at hl 5 rfl) ?_
  refine lv_iconst (v := nI 1) hx hb dL_law_1523 (by decide) ?_
  refine j_addN hx hb dL_law_1524 ?_
  refine j_sc hx hb hw hX hbl hbz hL (k := i + 1) (by omega) dL_law_1525 ?_
  refine lv_i2l (v := (xs (i + 1)).toInt64) hx hb dL_law_1526 rfl ?_
  refine lv_bipush (v := nI 32) hx hb dL_law_1527 (by decide) ?_
  refine lv_lshl (v := ((xs (i + 1)).toInt64 <<< ((nI (32)).toInt64 &&& 63))) hx hb dL_law_1529 rfl ?_
  refine lv_aload_n hx hb dL_law_1530 rfl (lv_at hl 1 rfl) ?_
  refine lv_iload hx hb dL_law_1531 (lv_at hl 5 rfl) ?_
  refine lv_iconst (v := nI 2) hx hb dL_law_1533 (by decide) ?_
  refine j_addN hx hb dL_law_1534 ?_
  refine j_sc hx hb hw hX hbl hbz hL (k := i + 2) (by omega) dL_law_1535 ?_
  refine lv_i2l (v := (xs (i + 2)).toInt64) hx hb dL_law_1536 rfl ?_
  refine lv_ldc2 (v := 4294967295) hx hb hown (hts (.constantLong RL 176 (4294967295)) (by decide +kernel)) dL_law_1537 ?_
  refine lv_land hx hb dL_law_1540 ?_
  refine lv_lor hx hb dL_law_1541 ?_
  refine lv_aload_n hx hb dL_law_1542 rfl (lv_at hl 1 rfl) ?_
  refine lv_iload hx hb dL_law_1543 (lv_at hl 5 rfl) ?_
  refine lv_iconst (v := nI 3) hx hb dL_law_1545 (by decide) ?_
  refine j_addN hx hb dL_law_1546 ?_
  refine j_sc hx hb hw hX hbl hbz hL (k := i + 3) (by omega) dL_law_1547 ?_
  refine j_Vi (n := 2) (As := [.long (((xs (i + 1)).toInt64 <<< ((nI (32)).toInt64 &&& 63)) ||| ((xs (i + 2)).toInt64 &&& 4294967295)), .int (xs (i + 3))]) hx hb hml hown hts hw (hM.rec9 hw) (c_X5_simulate l g z H1 (z + 223) (((xs (i + 1)).toInt64 <<< ((nI (32)).toInt64 &&& 63)) ||| ((xs (i + 2)).toInt64 &&& 4294967295)) (xs (i + 3)) x0 tx σ hi sv (by omega) hM) gL_law_X5_simulate rfl (by decide +kernel) ⟨Nat.le_of_ble_eq_true rfl, Nat.le_of_ble_eq_true rfl⟩ rfl hl.1 (Nat.le_of_ble_eq_true rfl) ⟨by show _ ≤ 601024; omega, by show _ ≤ 7293034; omega⟩ dL_law_1548 (fun r H2 locs hp hw _ => ?_) rfl
  obtain ⟨hrr, hM, hf⟩ := hp
  have hrr : O.1 = 0 → r = O.2.1 := by rw [hO]; exact hrr
  have hM : MW g H2 (z + 223) (nI O.1) O.2.2 := by rw [hO]; exact hM
  have hC := CD.kept hC (fun q h1 h2 => hf.2 q (by omega))
  have hLo := hLo.kept (hf.2 _ (by omega))
  have hsz2 := hf.1
  refine lv_istore (lv' := [(6, .int _), (5, .int _), (0, .ref _), (1, .ref _), (2, .ref _), (3, .ref _), (4, .int _)]) hx hb dL_law_1551 hl (by decide) rfl (fun ls hl => ?_)
  refine lv_aload_n hx hb dL_law_1553 rfl (lv_at hl 4 rfl) ?_
  obtain ⟨x3, x4, x5, x14, sn, sc, rd, nw, tr, dy, kp, ik, tk, h0, h1, h2, h3, h4, h5, h6, h7, h8, hMI⟩ := id hM
  refine j_Vp (n := 0) (As := []) hx hb hml hown hts hw (hM.rec9 hw) (c_X5_thrown l g z H2 (z + 223) _ _ _ _ _ _ _ _ h0) gL_law_X5_thrown rfl (by decide +kernel) ⟨Nat.le_of_ble_eq_true rfl, Nat.le_of_ble_eq_true rfl⟩ rfl hl.1 (Nat.le_of_ble_eq_true rfl) ⟨by show _ ≤ 601024; omega, by show _ ≤ 7293034; omega⟩ dL_law_1554 (fun r2 locs hr2 hw => ?_) rfl
  obtain rfl : r2 = nI O.1 := hr2
  refine lv_iload hx hb dL_law_1557 (lv_at hl 1 rfl) ?_
  refine lv_icmp_eq (tgt := 1564) hx hb dL_law_1559 (by decide) (fun _ => ?_) (fun q => absurd rfl q)
  refine lv_iload hx hb dL_law_1564 (lv_at hl 1 rfl) ?_
  refine jz_ne (tgt := 1581) hx hb dL_law_1566 (by decide) (by omega) (fun _ => ?_) (fun hz0 => ?_)
  · refine lv_goto (tgt := 1696) hx hb dL_law_1581 (by decide) ?_
    exact kk H2 locs O.2.2 ls hw ⟨hC, ⟨_, hM⟩, ⟨_, hLo⟩, hG1, by omega⟩ (lv_sub hl [2, 3, 4, 5, 6] rfl)
  · have hrr := hrr hz0
    have hfo := hfo hz0
    refine lv_aload_n hx hb dL_law_1569 rfl (lv_at hl 5 rfl) ?_
    refine lv_iconst (v := nI 0) hx hb dL_law_1570 (by decide) ?_
    refine j_lald hx hb hw hLo (k := 0) rfl (by decide) (by decide) dL_law_1571 ?_
    rw [hfo]
    refine lv_iload hx hb dL_law_1572 (lv_at hl 0 rfl) ?_
    rw [hrr]
    refine lv_i2l (v := O.2.1.toInt64) hx hb dL_law_1574 rfl ?_
    refine W.lcmp hx hb dL_law_1575 ?_
    refine jl_eq (tgt := 1581) hx hb dL_law_1576 (by decide) (fun _ => ?_) (fun q => absurd rfl q)
    refine lv_goto (tgt := 1696) hx hb dL_law_1581 (by decide) ?_
    exact kk H2 locs O.2.2 ls hw ⟨hC, ⟨_, hM⟩, ⟨_, hLo⟩, hG1, by omega⟩ (lv_sub hl [2, 3, 4, 5, 6] rfl)

set_option maxHeartbeats 4000000 in
set_option maxRecDepth 100000 in
theorem k_25 {p : Program} {l : Launch} {e : Env} {s : State} {m : MethodId} {below : List Frame} {meth : Method} {c : Code} {H : Heap} {locs : List Loc} {cells slots : Nat} {Q : State → Prop} {ls : Array Slot} {g : jG} {z b L i K : Nat} {xs : Nat → Int32} {w : Wd} (hl0 : l.stackTraces = false) (hx : p.tables.exec = Jvm.exec) (hb : c.code = cL_law) (hml : c.maxLocals = 7) (hown : s.vm.findClass RL = some m.cls) (hts : ∀ w ∈ wsL_law, w.before #[Value.ref b] s = true) (hE : jE s) (hX : va_X b L xs s s.heap) (hzs : s.heap.size = z) (hbz : b < z) (hL : L ≤ 2560) (hi5 : i + 5 ≤ L) (hK4 : 3600000 ≤ K) (hK : K < 2 ^ 29) (hw : jW g z s H locs) (hI : LI g z K H w) (hl : lv_has ls 7 (LL b z i)) (hc : cells + 1 ≤ 601024 ∧ slots + 6 ≤ 7293034) (kk : ∀ (H1 : Heap) (locs1 : List Loc) (w1 : Wd) (ls1 : Array Slot), jW g z s H1 locs1 → LI g z (K + 100000) H1 w1 → lv_has ls1 7 (LL b z i) → W p l e room_1 s m #[Value.ref b] below meth c H1 locs1 (cells + 1) (slots + 6) Q (F0 m 1696 ls1 [])) : W p l e room_1 s m #[Value.ref b] below meth c H locs cells slots Q (F0 m 1584 ls []) := by
  obtain ⟨hC, ⟨x0, hM⟩, ⟨fo, hLo⟩, hG, hsz⟩ := hI
  obtain ⟨tx, σ, hi, sv⟩ := w
  have hN := hC.okN
  have hzl : z ≤ H.size := by omega
  have hbl : b < s.heap.size := by omega
  refine lv_aload_n hx hb dL_law_1584 rfl (lv_at hl 1 rfl) ?_
  refine lv_aload_n hx hb dL_law_1585 rfl (lv_at hl 0 rfl) ?_
  refine lv_iload hx hb dL_law_1586 (lv_at hl 4 rfl) ?_
  refine lv_iconst (v := nI 1) hx hb dL_law_1588 (by decide) ?_
  refine j_addN hx hb dL_law_1589 ?_
  refine j_sc hx hb hw hX hbl hbz hL (k := i + 1) (by omega) dL_law_1590 ?_
  refine lv_aload_n hx hb dL_law_1591 rfl (lv_at hl 3 rfl) ?_
  refine j_HS (n := 3) (As := [.ref z, .int (xs (i + 1)), .ref (z + 232)]) (rest := []) hx hb hml hown hts hw hE (h_save l hl0 g z H z (z + 232) (xs (i + 1)) tx σ hi sv fo (Nat.le_refl _) (by omega) (by omega) (by omega) hC hLo) gL_law_L_save rfl (by decide +kernel) ⟨Nat.le_of_ble_eq_true rfl, Nat.le_of_ble_eq_true rfl⟩ rfl hl.1 (Nat.le_of_ble_eq_true rfl) hc dL_law_1592 (fun r H1 locs hp hw => ?_) rfl
  obtain ⟨O, hO⟩ : ∃ O, O = opS (xs (i + 1)) (tx, σ, hi, sv) := ⟨_, rfl⟩
  rw [← hO] at hp
  obtain ⟨hO4, rfl, hC, ⟨fo, hLo, hfo⟩, hs9, hq9⟩ := hp
  have hM := hM.kept (fun q h1 h2 => hq9 q (by omega) (by omega) (by omega))
  have hG1 : good (K + 100000) O.2.2 := by rw [hO]; exact good_S hG
  refine lv_istore (lv' := [(5, .int _), (0, .ref _), (1, .ref _), (2, .ref _), (3, .ref _), (4, .int _)]) hx hb dL_law_1595 hl (by decide) rfl (fun ls hl => ?_)
  refine lv_aload_n hx hb dL_law_1597 rfl (lv_at hl 3 rfl) ?_
  refine lv_aload_n hx hb dL_law_1598 rfl (lv_at hl 1 rfl) ?_
  refine lv_iload hx hb dL_law_1599 (lv_at hl 5 rfl) ?_
  refine lv_iconst (v := nI 1) hx hb dL_law_1601 (by decide) ?_
  refine j_addN hx hb dL_law_1602 ?_
  refine j_sc hx hb hw hX hbl hbz hL (k := i + 1) (by omega) dL_law_1603 ?_
  refine j_Vi (n := 1) (As := [.int (xs (i + 1))]) hx hb hml hown hts hw (hM.rec9 hw) (c_X5_save l g z H1 (z + 223) (xs (i + 1)) x0 tx σ hi sv (by omega) hM) gL_law_X5_save rfl (by decide +kernel) ⟨Nat.le_of_ble_eq_true rfl, Nat.le_of_ble_eq_true rfl⟩ rfl hl.1 (Nat.le_of_ble_eq_true rfl) ⟨by show _ ≤ 601024; omega, by show _ ≤ 7293034; omega⟩ dL_law_1604 (fun r H2 locs hp hw _ => ?_) rfl
  obtain ⟨hp, hf⟩ := hp
  obtain ⟨hrr, hM⟩ : (O.1 = 0 → r = O.2.1) ∧ MW g H2 (z + 223) (nI O.1) O.2.2 := by
    rcases hp with ⟨hk9, hM⟩ | ⟨k9, hk9, rfl, hM⟩
    · rw [hO, opS_no hk9]; exact ⟨(fun h => by cases h), hM⟩
    · rw [hO, opS_ok hk9]; exact ⟨fun _ => rfl, hM⟩
  have hC := CD.kept hC (fun q h1 h2 => hf.2 q (by omega))
  have hLo := hLo.kept (hf.2 _ (by omega))
  have hsz2 := hf.1
  refine lv_istore (lv' := [(6, .int _), (5, .int _), (0, .ref _), (1, .ref _), (2, .ref _), (3, .ref _), (4, .int _)]) hx hb dL_law_1607 hl (by decide) rfl (fun ls hl => ?_)
  refine lv_aload_n hx hb dL_law_1609 rfl (lv_at hl 4 rfl) ?_
  obtain ⟨x3, x4, x5, x14, sn, sc, rd, nw, tr, dy, kp, ik, tk, h0, h1, h2, h3, h4, h5, h6, h7, h8, hMI⟩ := id hM
  refine j_Vp (n := 0) (As := []) hx hb hml hown hts hw (hM.rec9 hw) (c_X5_thrown l g z H2 (z + 223) _ _ _ _ _ _ _ _ h0) gL_law_X5_thrown rfl (by decide +kernel) ⟨Nat.le_of_ble_eq_true rfl, Nat.le_of_ble_eq_true rfl⟩ rfl hl.1 (Nat.le_of_ble_eq_true rfl) ⟨by show _ ≤ 601024; omega, by show _ ≤ 7293034; omega⟩ dL_law_1610 (fun r2 locs hr2 hw => ?_) rfl
  obtain rfl : r2 = nI O.1 := hr2
  refine lv_iload hx hb dL_law_1613 (lv_at hl 1 rfl) ?_
  refine lv_icmp_eq (tgt := 1620) hx hb dL_law_1615 (by decide) (fun _ => ?_) (fun q => absurd rfl q)
  refine lv_iload hx hb dL_law_1620 (lv_at hl 1 rfl) ?_
  refine jz_ne (tgt := 1637) hx hb dL_law_1622 (by decide) (by omega) (fun _ => ?_) (fun hz0 => ?_)
  · refine lv_goto (tgt := 1696) hx hb dL_law_1637 (by decide) ?_
    exact kk H2 locs O.2.2 ls hw ⟨hC, ⟨_, hM⟩, ⟨_, hLo⟩, hG1, by omega⟩ (lv_sub hl [2, 3, 4, 5, 6] rfl)
  · have hrr := hrr hz0
    have hfo := hfo hz0
    refine lv_aload_n hx hb dL_law_1625 rfl (lv_at hl 5 rfl) ?_
    refine lv_iconst (v := nI 0) hx hb dL_law_1626 (by decide) ?_
    refine j_lald hx hb hw hLo (k := 0) rfl (by decide) (by decide) dL_law_1627 ?_
    rw [hfo]
    refine lv_iload hx hb dL_law_1628 (lv_at hl 0 rfl) ?_
    rw [hrr]
    refine lv_i2l (v := O.2.1.toInt64) hx hb dL_law_1630 rfl ?_
    refine W.lcmp hx hb dL_law_1631 ?_
    refine jl_eq (tgt := 1637) hx hb dL_law_1632 (by decide) (fun _ => ?_) (fun q => absurd rfl q)
    refine lv_goto (tgt := 1696) hx hb dL_law_1637 (by decide) ?_
    exact kk H2 locs O.2.2 ls hw ⟨hC, ⟨_, hM⟩, ⟨_, hLo⟩, hG1, by omega⟩ (lv_sub hl [2, 3, 4, 5, 6] rfl)

set_option maxHeartbeats 4000000 in
set_option maxRecDepth 100000 in
theorem k_26 {p : Program} {l : Launch} {e : Env} {s : State} {m : MethodId} {below : List Frame} {meth : Method} {c : Code} {H : Heap} {locs : List Loc} {cells slots : Nat} {Q : State → Prop} {ls : Array Slot} {g : jG} {z b L i K : Nat} {xs : Nat → Int32} {w : Wd} (hl0 : l.stackTraces = false) (hx : p.tables.exec = Jvm.exec) (hb : c.code = cL_law) (hml : c.maxLocals = 7) (hown : s.vm.findClass RL = some m.cls) (hts : ∀ w ∈ wsL_law, w.before #[Value.ref b] s = true) (hE : jE s) (hX : va_X b L xs s s.heap) (hzs : s.heap.size = z) (hbz : b < z) (hL : L ≤ 2560) (hi5 : i + 5 ≤ L) (hK4 : 3600000 ≤ K) (hK : K < 2 ^ 29) (hw : jW g z s H locs) (hI : LI g z K H w) (hl : lv_has ls 7 (LL b z i)) (hc : cells + 1 ≤ 601024 ∧ slots + 6 ≤ 7293034) (kk : ∀ (H1 : Heap) (locs1 : List Loc) (w1 : Wd) (ls1 : Array Slot), jW g z s H1 locs1 → LI g z (K + 100000) H1 w1 → lv_has ls1 7 (LL b z i) → W p l e room_1 s m #[Value.ref b] below meth c H1 locs1 (cells + 1) (slots + 6) Q (F0 m 1696 ls1 [])) : W p l e room_1 s m #[Value.ref b] below meth c H locs cells slots Q (F0 m 1640 ls []) := by
  obtain ⟨hC, ⟨x0, hM⟩, ⟨fo, hLo⟩, hG, hsz⟩ := hI
  obtain ⟨tx, σ, hi, sv⟩ := w
  have hN := hC.okN
  have hzl : z ≤ H.size := by omega
  have hbl : b < s.heap.size := by omega
  refine lv_aload_n hx hb dL_law_1640 rfl (lv_at hl 1 rfl) ?_
  refine lv_aload_n hx hb dL_law_1641 rfl (lv_at hl 0 rfl) ?_
  refine lv_iload hx hb dL_law_1642 (lv_at hl 4 rfl) ?_
  refine lv_iconst (v := nI 1) hx hb dL_law_1644 (by decide) ?_
  refine j_addN hx hb dL_law_1645 ?_
  refine j_sc hx hb hw hX hbl hbz hL (k := i + 1) (by omega) dL_law_1646 ?_
  refine lv_aload_n hx hb dL_law_1647 rfl (lv_at hl 3 rfl) ?_
  refine j_HS (n := 3) (As := [.ref z, .int (xs (i + 1)), .ref (z + 232)]) (rest := []) hx hb hml hown hts hw hE (h_restore l hl0 g z H z (z + 232) (xs (i + 1)) tx σ hi sv fo (Nat.le_refl _) (by omega) (by omega) (by omega) hC hLo) gL_law_L_restore rfl (by decide +kernel) ⟨Nat.le_of_ble_eq_true rfl, Nat.le_of_ble_eq_true rfl⟩ rfl hl.1 (Nat.le_of_ble_eq_true rfl) hc dL_law_1648 (fun r H1 locs hp hw => ?_) rfl
  obtain ⟨O, hO⟩ : ∃ O, O = opR (xs (i + 1)) (tx, σ, hi, sv) := ⟨_, rfl⟩
  rw [← hO] at hp
  obtain ⟨hO4, rfl, hC, ⟨fo, hLo, hfo⟩, hs9, hq9⟩ := hp
  have hM := hM.kept (fun q h1 h2 => hq9 q (by omega) (by omega) (by omega))
  have hG1 : good (K + 100000) O.2.2 := by rw [hO]; exact good_R hG
  refine lv_istore (lv' := [(5, .int _), (0, .ref _), (1, .ref _), (2, .ref _), (3, .ref _), (4, .int _)]) hx hb dL_law_1651 hl (by decide) rfl (fun ls hl => ?_)
  refine lv_aload_n hx hb dL_law_1653 rfl (lv_at hl 3 rfl) ?_
  refine lv_aload_n hx hb dL_law_1654 rfl (lv_at hl 1 rfl) ?_
  refine lv_iload hx hb dL_law_1655 (lv_at hl 5 rfl) ?_
  refine lv_iconst (v := nI 1) hx hb dL_law_1657 (by decide) ?_
  refine j_addN hx hb dL_law_1658 ?_
  refine j_sc hx hb hw hX hbl hbz hL (k := i + 1) (by omega) dL_law_1659 ?_
  refine j_Vi (n := 1) (As := [.int (xs (i + 1))]) hx hb hml hown hts hw (hM.rec9 hw) (c_X5_restore l g z H1 (z + 223) (xs (i + 1)) x0 tx σ hi sv (by omega) hM) gL_law_X5_restore rfl (by decide +kernel) ⟨Nat.le_of_ble_eq_true rfl, Nat.le_of_ble_eq_true rfl⟩ rfl hl.1 (Nat.le_of_ble_eq_true rfl) ⟨by show _ ≤ 601024; omega, by show _ ≤ 7293034; omega⟩ dL_law_1660 (fun r H2 locs hp hw _ => ?_) rfl
  obtain ⟨hp, hf⟩ := hp
  obtain ⟨hrr, hM⟩ : (O.1 = 0 → r = O.2.1) ∧ MW g H2 (z + 223) (nI O.1) O.2.2 := by
    rcases hp with ⟨hk9, hM⟩ | ⟨k9, hk9, ⟨hs8, hM⟩ | ⟨s9, hs8, rfl, hM⟩⟩
    · rw [hO, opR_no hk9]; exact ⟨(fun h => by cases h), hM⟩
    · rw [hO, opR_no2 hk9 hs8]; exact ⟨(fun h => by cases h), hM⟩
    · rw [hO, opR_ok hk9 hs8]; exact ⟨fun _ => rfl, hM⟩
  have hC := CD.kept hC (fun q h1 h2 => hf.2 q (by omega))
  have hLo := hLo.kept (hf.2 _ (by omega))
  have hsz2 := hf.1
  refine lv_istore (lv' := [(6, .int _), (5, .int _), (0, .ref _), (1, .ref _), (2, .ref _), (3, .ref _), (4, .int _)]) hx hb dL_law_1663 hl (by decide) rfl (fun ls hl => ?_)
  refine lv_aload_n hx hb dL_law_1665 rfl (lv_at hl 4 rfl) ?_
  obtain ⟨x3, x4, x5, x14, sn, sc, rd, nw, tr, dy, kp, ik, tk, h0, h1, h2, h3, h4, h5, h6, h7, h8, hMI⟩ := id hM
  refine j_Vp (n := 0) (As := []) hx hb hml hown hts hw (hM.rec9 hw) (c_X5_thrown l g z H2 (z + 223) _ _ _ _ _ _ _ _ h0) gL_law_X5_thrown rfl (by decide +kernel) ⟨Nat.le_of_ble_eq_true rfl, Nat.le_of_ble_eq_true rfl⟩ rfl hl.1 (Nat.le_of_ble_eq_true rfl) ⟨by show _ ≤ 601024; omega, by show _ ≤ 7293034; omega⟩ dL_law_1666 (fun r2 locs hr2 hw => ?_) rfl
  obtain rfl : r2 = nI O.1 := hr2
  refine lv_iload hx hb dL_law_1669 (lv_at hl 1 rfl) ?_
  refine lv_icmp_eq (tgt := 1676) hx hb dL_law_1671 (by decide) (fun _ => ?_) (fun q => absurd rfl q)
  refine lv_iload hx hb dL_law_1676 (lv_at hl 1 rfl) ?_
  refine jz_ne (tgt := 1693) hx hb dL_law_1678 (by decide) (by omega) (fun _ => ?_) (fun hz0 => ?_)
  · refine lv_goto (tgt := 1696) hx hb dL_law_1693 (by decide) ?_
    exact kk H2 locs O.2.2 ls hw ⟨hC, ⟨_, hM⟩, ⟨_, hLo⟩, hG1, by omega⟩ (lv_sub hl [2, 3, 4, 5, 6] rfl)
  · have hrr := hrr hz0
    have hfo := hfo hz0
    refine lv_aload_n hx hb dL_law_1681 rfl (lv_at hl 5 rfl) ?_
    refine lv_iconst (v := nI 0) hx hb dL_law_1682 (by decide) ?_
    refine j_lald hx hb hw hLo (k := 0) rfl (by decide) (by decide) dL_law_1683 ?_
    rw [hfo]
    refine lv_iload hx hb dL_law_1684 (lv_at hl 0 rfl) ?_
    rw [hrr]
    refine lv_i2l (v := O.2.1.toInt64) hx hb dL_law_1686 rfl ?_
    refine W.lcmp hx hb dL_law_1687 ?_
    refine jl_eq (tgt := 1693) hx hb dL_law_1688 (by decide) (fun _ => ?_) (fun q => absurd rfl q)
    refine lv_goto (tgt := 1696) hx hb dL_law_1693 (by decide) ?_
    exact kk H2 locs O.2.2 ls hw ⟨hC, ⟨_, hM⟩, ⟨_, hLo⟩, hG1, by omega⟩ (lv_sub hl [2, 3, 4, 5, 6] rfl)
