/-! THE CLAIM OUT OF ONE WALK OF THE LAW'S BODY. Your part is whole_start (and what it stands on); all else here is the same for every law, but numbers. -/
def R_law : String := "NightTrainsLaw"
def lw_P (b : Addr) (xs : List Int32) (args : Array Value) (s : State) : Prop := args = #[.ref b] ∧ s.IntsAt b xs ∧ xs.length ≤ 2560 ∧ (Jvm.Cond.and given_1 narrow_1).before args s = true
def lw_Q (_ : Array Value) (s : State) (o : Outcome) (t : State) : Prop := o = .returned (some (.int 1)) ∧ Framed s o t [] 601024 7293034
def lw_Z (below : List Frame) (a : Array Value) (s : State) : State → Prop := fun t => ∃ o, t.status = .running ∧ Ended t below o ∧ lw_Q a s o t
/-- the law's own end, with 1 on the stack, nothing written that was there before, its room as the claim has it -/
theorem lw_ret {p : Program} {l : Launch} {e : Env} {s : State} {m : MethodId} {below : List Frame} {meth : Method} {c : Code} {b : Nat} (hx : p.tables.exec = Jvm.exec) (hb : c.code = code) (hr : meth.sig.returnType = ret) (hlocks : meth.locks = false) {pc : Nat} {H : Heap} {ls : Array Slot} (hdg : decode code pc = .ok (.ireturn, 1)) : W p l e room_1 s m #[Value.ref b] below meth c H [] 601024 7293034 (lw_Z below #[Value.ref b] s) (F0 m pc ls [.int 1]) := by
  intro T hT X
  obtain ⟨fs, hret, hrun, hended, hW, hframe⟩ := X.leave (v := some (.int 1)) (hlocks := hlocks) (fun h => by rw [hr] at h; cases h)
  have hmeth' : T.vm.method? m = some meth := X.method'
  refine ⟨T.setFrames fs, ?_, .returned (some (.int 1)), hrun, hended, rfl, ⟨_, rfl⟩, hW, hframe⟩
  jvm_step X.here [X.here.top, hx, hb, hdg, hmeth', hr, ret, narrow_b1]
  (try refine ⟨rfl, ?_⟩); (try refine ⟨rfl, ?_⟩)
  first | (intro acts; rw [hret _ acts rfl rfl rfl]) | rw [hret _ _ rfl rfl rfl]
  exact Steps.refl _
/-- what holds at the law's entry: the machine, the code, the tables' words (any of lw_tbl by 'hts w (by decide +kernel)'), the script of L ints xs at the cell b, what the Statement gives of the start (any of its parts by flat_of_before) -/
def lw_At (p : Program) (s : State) (m : MethodId) (meth : Method) (c : Code) (b L : Nat) (xs : Nat → Int32) : Prop :=
  p.tables.exec = Jvm.exec ∧ c.code = code ∧ meth.sig.returnType = ret ∧ c.maxLocals = 7 ∧ s.vm.findClass R_law = some m.cls ∧ (∀ w ∈ lw_tbl, w.before #[Value.ref b] s = true) ∧ va_X b L xs s s.heap ∧ b < s.heap.size ∧ meth.locks = false ∧ (Jvm.Cond.and given_1 narrow_1).before #[Value.ref b] s = true
set_option maxHeartbeats 4000000 in
set_option maxRecDepth 100000 in
theorem law_loop {p : Program} {l : Launch} {e : Env} {s : State} {m : MethodId} {below : List Frame} {meth : Method} {c : Code} {g : jG} {z b L : Nat} {xs : Nat → Int32} (hl0 : l.stackTraces = false) (hx : p.tables.exec = Jvm.exec) (hb : c.code = cL_law) (hr : meth.sig.returnType = ret) (hml : c.maxLocals = 7) (hown : s.vm.findClass RL = some m.cls) (hts : ∀ w ∈ wsL_law, w.before #[Value.ref b] s = true) (hlocks : meth.locks = false) (hE : jE s) (hX : va_X b L xs s s.heap) (hzs : s.heap.size = z) (hbz : b < z) (hL : L ≤ 2560) : ∀ (n j i K cells slots : Nat) (H : Heap) (locs : List Loc) (w : Wd) (ls : Array Slot), j + n = 600 → i = 5 * j → K = 4000000 + 100000 * j → cells = 233 + j → slots = 9863 + 6 * j → i ≤ L + 5 → jW g z s H locs → LI g z K H w → lv_has ls 7 (LL b z i) → W p l e room_1 s m #[Value.ref b] below meth c H locs cells slots (lw_Z below #[Value.ref b] s) (F0 m 23 ls []) := by
  intro n
  induction n with
  | zero => intros; omega
  | succ n ih =>
    intro j i K cells slots H locs w ls hjn hij hKj hcj hsj hiL hw hI hl
    have hbl : b < s.heap.size := by omega
    refine lv_iload hx hb dL_law_23 (lv_at hl 4 rfl) ?_
    refine lv_aload_n hx hb dL_law_25 rfl (lv_at hl 0 rfl) ?_
    refine va_slen hx hb hX hbl (Nat.not_le.mpr hbz) hw.2.2 dL_law_26 ?_
    refine lv_iconst (v := nI 5) hx hb dL_law_27 (by decide) ?_
    refine lv_isub hx hb dL_law_28 ?_
    refine lv_icmp_gt (tgt := 1702) hx hb dL_law_29 (by decide) (fun _ => ?_) (fun hge => ?_)
    · refine lv_iconst (v := 1) hx hb dL_law_1702 (by decide) ?_
      refine W.widen (show cells ≤ 601024 by omega) (show slots ≤ 7293034 by omega) (va_forget (fun q hq => ?_) (lw_ret hx hb hr hlocks dL_law_1703))
      rw [hzs]; exact hw.2.2.2.2 q hq
    · have hi5 : i + 5 ≤ L := hd_le hL (by omega) hge
      have go : ∀ (H1 : Heap) (locs1 : List Loc) (w1 : Wd) (ls1 : Array Slot), jW g z s H1 locs1 → LI g z (K + 100000) H1 w1 → lv_has ls1 7 (LL b z i) → W p l e room_1 s m #[Value.ref b] below meth c H1 locs1 (cells + 1) (slots + 6) (lw_Z below #[Value.ref b] s) (F0 m 1696 ls1 []) := by
        intro H1 locs1 w1 ls1 hw hI hl
        refine lv_iinc (v := nI (i + 5)) (lv' := [(4, .int _), (0, .ref _), (1, .ref _), (2, .ref _), (3, .ref _)]) hx hb dL_law_1696 hl (k := 4) rfl (nI_add _ 5) (by decide) rfl (fun ls hl => ?_)
        refine lv_goto (tgt := 23) hx hb dL_law_1699 (by decide) ?_
        exact ih (j + 1) (i + 5) (K + 100000) (cells + 1) (slots + 6) H1 locs1 w1 ls (by omega) (by omega) (by omega) (by omega) (by omega) (by omega) hw hI (lv_sub hl [1, 2, 3, 4, 0] rfl)
      refine lv_aload_n hx hb dL_law_32 rfl (lv_at hl 0 rfl) ?_
      refine lv_iload hx hb dL_law_33 (lv_at hl 4 rfl) ?_
      refine j_sc hx hb hw hX hbl hbz hL (k := i) (by omega) dL_law_35 ?_
      refine lv_bipush (v := 31) hx hb dL_law_36 (by decide) ?_
      refine lv_iand hx hb dL_law_38 ?_
      obtain ⟨k, hk, hk9⟩ := and31 (xs i)
      rw [hk9]
      have hw9 : k = 0 ∨ k = 1 ∨ k = 2 ∨ k = 3 ∨ k = 4 ∨ k = 5 ∨ k = 6 ∨ k = 7 ∨ k = 8 ∨ k = 9 ∨ k = 10 ∨ k = 11 ∨ k = 12 ∨ k = 13 ∨ k = 14 ∨ k = 15 ∨ k = 16 ∨ k = 17 ∨ k = 18 ∨ k = 19 ∨ k = 20 ∨ k = 21 ∨ k = 22 ∨ k = 23 ∨ k = 24 ∨ k = 25 ∨ k = 26 ∨ k = 27 ∨ k = 28 ∨ k = 29 ∨ k = 30 ∨ k = 31 := by omega
      rcases hw9 with rfl | rfl | rfl | rfl | rfl | rfl | rfl | rfl | rfl | rfl | rfl | rfl | rfl | rfl | rfl | rfl | rfl | rfl | rfl | rfl | rfl | rfl | rfl | rfl | rfl | rfl | rfl | rfl | rfl | rfl | rfl | rfl
      · refine lv_tableIn (tgt := 160) hx hb dL_law_39 (by decide) (by decide) (off := 121) (by decide) (by decide) ?_
        exact k_0 hl0 hx hb hml hown hts hE hX hzs hbz hL hi5 (by omega) (by omega) hw hI hl ⟨by omega, by omega⟩ go
      · refine lv_tableIn (tgt := 216) hx hb dL_law_39 (by decide) (by decide) (off := 177) (by decide) (by decide) ?_
        exact k_1 hl0 hx hb hml hown hts hE hX hzs hbz hL hi5 (by omega) (by omega) hw hI hl ⟨by omega, by omega⟩ go
      · refine lv_tableIn (tgt := 229) hx hb dL_law_39 (by decide) (by decide) (off := 190) (by decide) (by decide) ?_
        exact k_2 hl0 hx hb hml hown hts hE hX hzs hbz hL hi5 (by omega) (by omega) hw hI hl ⟨by omega, by omega⟩ go
      · refine lv_tableIn (tgt := 242) hx hb dL_law_39 (by decide) (by decide) (off := 203) (by decide) (by decide) ?_
        exact k_3 hl0 hx hb hml hown hts hE hX hzs hbz hL hi5 (by omega) (by omega) hw hI hl ⟨by omega, by omega⟩ go
      · refine lv_tableIn (tgt := 286) hx hb dL_law_39 (by decide) (by decide) (off := 247) (by decide) (by decide) ?_
        exact k_4 hl0 hx hb hml hown hts hE hX hzs hbz hL hi5 (by omega) (by omega) hw hI hl ⟨by omega, by omega⟩ go
      · refine lv_tableIn (tgt := 342) hx hb dL_law_39 (by decide) (by decide) (off := 303) (by decide) (by decide) ?_
        exact k_5 hl0 hx hb hml hown hts hE hX hzs hbz hL hi5 (by omega) (by omega) hw hI hl ⟨by omega, by omega⟩ go
      · refine lv_tableIn (tgt := 410) hx hb dL_law_39 (by decide) (by decide) (off := 371) (by decide) (by decide) ?_
        exact k_6 hl0 hx hb hml hown hts hE hX hzs hbz hL hi5 (by omega) (by omega) hw hI hl ⟨by omega, by omega⟩ go
      · refine lv_tableIn (tgt := 478) hx hb dL_law_39 (by decide) (by decide) (off := 439) (by decide) (by decide) ?_
        exact k_7 hl0 hx hb hml hown hts hE hX hzs hbz hL hi5 (by omega) (by omega) hw hI hl ⟨by omega, by omega⟩ go
      · refine lv_tableIn (tgt := 546) hx hb dL_law_39 (by decide) (by decide) (off := 507) (by decide) (by decide) ?_
        exact k_8 hl0 hx hb hml hown hts hE hX hzs hbz hL hi5 (by omega) (by omega) hw hI hl ⟨by omega, by omega⟩ go
      · refine lv_tableIn (tgt := 614) hx hb dL_law_39 (by decide) (by decide) (off := 575) (by decide) (by decide) ?_
        exact k_9 hl0 hx hb hml hown hts hE hX hzs hbz hL hi5 (by omega) (by omega) hw hI hl ⟨by omega, by omega⟩ go
      · refine lv_tableIn (tgt := 670) hx hb dL_law_39 (by decide) (by decide) (off := 631) (by decide) (by decide) ?_
        exact k_10 hl0 hx hb hml hown hts hE hX hzs hbz hL hi5 (by omega) (by omega) hw hI hl ⟨by omega, by omega⟩ go
      · refine lv_tableIn (tgt := 762) hx hb dL_law_39 (by decide) (by decide) (off := 723) (by decide) (by decide) ?_
        exact k_11 hl0 hx hb hml hown hts hE hX hzs hbz hL hi5 (by omega) (by omega) hw hI hl ⟨by omega, by omega⟩ go
      · refine lv_tableIn (tgt := 818) hx hb dL_law_39 (by decide) (by decide) (off := 779) (by decide) (by decide) ?_
        exact k_12 hl0 hx hb hml hown hts hE hX hzs hbz hL hi5 (by omega) (by omega) hw hI hl ⟨by omega, by omega⟩ go
      · refine lv_tableIn (tgt := 886) hx hb dL_law_39 (by decide) (by decide) (off := 847) (by decide) (by decide) ?_
        exact k_13 hl0 hx hb hml hown hts hE hX hzs hbz hL hi5 (by omega) (by omega) hw hI hl ⟨by omega, by omega⟩ go
      · refine lv_tableIn (tgt := 942) hx hb dL_law_39 (by decide) (by decide) (off := 903) (by decide) (by decide) ?_
        exact k_14 hl0 hx hb hml hown hts hE hX hzs hbz hL hi5 (by omega) (by omega) hw hI hl ⟨by omega, by omega⟩ go
      · refine lv_tableIn (tgt := 1010) hx hb dL_law_39 (by decide) (by decide) (off := 971) (by decide) (by decide) ?_
        exact k_15 hl0 hx hb hml hown hts hE hX hzs hbz hL hi5 (by omega) (by omega) hw hI hl ⟨by omega, by omega⟩ go
      · refine lv_tableIn (tgt := 1078) hx hb dL_law_39 (by decide) (by decide) (off := 1039) (by decide) (by decide) ?_
        exact k_16 hl0 hx hb hml hown hts hE hX hzs hbz hL hi5 (by omega) (by omega) hw hI hl ⟨by omega, by omega⟩ go
      · refine lv_tableIn (tgt := 1122) hx hb dL_law_39 (by decide) (by decide) (off := 1083) (by decide) (by decide) ?_
        exact k_17 hl0 hx hb hml hown hts hE hX hzs hbz hL hi5 (by omega) (by omega) hw hI hl ⟨by omega, by omega⟩ go
      · refine lv_tableIn (tgt := 1178) hx hb dL_law_39 (by decide) (by decide) (off := 1139) (by decide) (by decide) ?_
        exact k_18 hl0 hx hb hml hown hts hE hX hzs hbz hL hi5 (by omega) (by omega) hw hI hl ⟨by omega, by omega⟩ go
      · refine lv_tableIn (tgt := 1234) hx hb dL_law_39 (by decide) (by decide) (off := 1195) (by decide) (by decide) ?_
        exact k_19 hl0 hx hb hml hown hts hE hX hzs hbz hL hi5 (by omega) (by omega) hw hI hl ⟨by omega, by omega⟩ go
      · refine lv_tableIn (tgt := 1290) hx hb dL_law_39 (by decide) (by decide) (off := 1251) (by decide) (by decide) ?_
        exact k_20 hl0 hx hb hml hown hts hE hX hzs hbz hL hi5 (by omega) (by omega) hw hI hl ⟨by omega, by omega⟩ go
      · refine lv_tableIn (tgt := 1358) hx hb dL_law_39 (by decide) (by decide) (off := 1319) (by decide) (by decide) ?_
        exact k_21 hl0 hx hb hml hown hts hE hX hzs hbz hL hi5 (by omega) (by omega) hw hI hl ⟨by omega, by omega⟩ go
      · refine lv_tableIn (tgt := 1371) hx hb dL_law_39 (by decide) (by decide) (off := 1332) (by decide) (by decide) ?_
        exact k_22 hl0 hx hb hml hown hts hE hX hzs hbz hL hi5 (by omega) (by omega) hw hI hl ⟨by omega, by omega⟩ go
      · refine lv_tableIn (tgt := 1384) hx hb dL_law_39 (by decide) (by decide) (off := 1345) (by decide) (by decide) ?_
        exact k_23 hl0 hx hb hml hown hts hE hX hzs hbz hL hi5 (by omega) (by omega) hw hI hl ⟨by omega, by omega⟩ go
      · refine lv_tableIn (tgt := 1484) hx hb dL_law_39 (by decide) (by decide) (off := 1445) (by decide) (by decide) ?_
        exact k_24 hl0 hx hb hml hown hts hE hX hzs hbz hL hi5 (by omega) (by omega) hw hI hl ⟨by omega, by omega⟩ go
      · refine lv_tableIn (tgt := 1584) hx hb dL_law_39 (by decide) (by decide) (off := 1545) (by decide) (by decide) ?_
        exact k_25 hl0 hx hb hml hown hts hE hX hzs hbz hL hi5 (by omega) (by omega) hw hI hl ⟨by omega, by omega⟩ go
      · refine lv_tableIn (tgt := 1640) hx hb dL_law_39 (by decide) (by decide) (off := 1601) (by decide) (by decide) ?_
        exact k_26 hl0 hx hb hml hown hts hE hX hzs hbz hL hi5 (by omega) (by omega) hw hI hl ⟨by omega, by omega⟩ go
      · refine lv_tableOut (tgt := 1696) hx hb dL_law_39 (Or.inr (by decide)) (by decide) ?_
        exact W.widen (Nat.le_add_right _ 1) (Nat.le_add_right _ 6) (go H locs w ls hw ⟨hI.1, hI.2.1, hI.2.2.1, hI.2.2.2.1.mono (by omega), hI.2.2.2.2⟩ hl)
      · refine lv_tableOut (tgt := 1696) hx hb dL_law_39 (Or.inr (by decide)) (by decide) ?_
        exact W.widen (Nat.le_add_right _ 1) (Nat.le_add_right _ 6) (go H locs w ls hw ⟨hI.1, hI.2.1, hI.2.2.1, hI.2.2.2.1.mono (by omega), hI.2.2.2.2⟩ hl)
      · refine lv_tableOut (tgt := 1696) hx hb dL_law_39 (Or.inr (by decide)) (by decide) ?_
        exact W.widen (Nat.le_add_right _ 1) (Nat.le_add_right _ 6) (go H locs w ls hw ⟨hI.1, hI.2.1, hI.2.2.1, hI.2.2.2.1.mono (by omega), hI.2.2.2.2⟩ hl)
      · refine lv_tableOut (tgt := 1696) hx hb dL_law_39 (Or.inr (by decide)) (by decide) ?_
        exact W.widen (Nat.le_add_right _ 1) (Nat.le_add_right _ 6) (go H locs w ls hw ⟨hI.1, hI.2.1, hI.2.2.1, hI.2.2.2.1.mono (by omega), hI.2.2.2.2⟩ hl)
      · refine lv_tableOut (tgt := 1696) hx hb dL_law_39 (Or.inr (by decide)) (by decide) ?_
        exact W.widen (Nat.le_add_right _ 1) (Nat.le_add_right _ 6) (go H locs w ls hw ⟨hI.1, hI.2.1, hI.2.2.1, hI.2.2.2.1.mono (by omega), hI.2.2.2.2⟩ hl)
set_option maxHeartbeats 4000000 in
set_option maxRecDepth 100000 in

theorem whole_start {p : Program} {e : Env} {s : State} {m : MethodId} {below : List Frame} {meth : Method} {c : Code} (l : Launch) (hflags : l.flags = flags0) {b L : Nat} {xs : Nat → Int32} (hL : L ≤ 2560) (C0 : lw_At p s m meth c b L xs) : W p l e room_1 s m #[Value.ref b] below meth c s.heap [] 0 0 (lw_Z below #[Value.ref b] s) (entryFrame m ([Value.ref b] : List Value).toArray 7) := by
  obtain ⟨hx, hb, hr, hml, hown0, hts0, hX, hbl, hlocks, hgv⟩ := C0
  have hown : s.vm.findClass RL = some m.cls := hown0
  have hl0 : l.stackTraces = false := by unfold Launch.stackTraces; rw [hflags]; decide +kernel
  obtain ⟨g, ⟨hK, hT⟩, hE, hAO⟩ := entry hts0 hgv
  have hts : ∀ w ∈ wsL_law, w.before #[Value.ref b] s = true := fun w h => hts0 w (wsL_law_in w h)
  have hl := lv_entry [Value.ref b] (n := 7) (Nat.le_of_ble_eq_true rfl)
  rw [lg_entry_eq]
  generalize (lg_sl [Value.ref b] ++ List.replicate (7 - (lg_sl [Value.ref b]).length) Slot.unset).toArray = ls at hl ⊢
  have hl : lv_has ls 7 [(0, .ref b)] := hl
  obtain ⟨z, hzs⟩ : ∃ z, s.heap.size = z := ⟨_, rfl⟩
  have hw : jW g s.heap.size s s.heap [] := ⟨hK, hT, va_S.rf⟩
  rw [hzs] at hw
  have hbz : b < z := by omega
  have hzl : z ≤ s.heap.size := by omega
  have hb : c.code = cL_law := hb
  have hin4 : ∀ w ∈ u_ws RX4 TX4 6, w ∈ wsL_law := inlX4
  have hin5 : ∀ w ∈ u_ws RX5 TX5 16, w ∈ wsL_law := inlX5
  refine j_new (ci := 4) (T := TX4) (N := 6) (fs := [.null, .null, .null, .null, .null, .null]) (h := z) hx hb hts hin4 tyX4 tyX4_ok hown (hts (.classLink RL 8 RX4) (by decide +kernel)) (hts (.instantiable RX4 6) (by decide +kernel)) (hts (.initialized RX4) (by decide +kernel)) hw hzl rfl dfX4 hzs (Nat.le_of_ble_eq_true rfl) (Nat.le_of_ble_eq_true rfl) dL_law_0 (fun H1 hw hO o1 hs1 => ?_)
  refine lv_dup hx hb dL_law_3 rfl ?_
  refine j_IA hx hb hml hown hts hw hAO (c_X4_init l g z H1 z (Nat.le_refl _) hO hs1) gL_law_X4_init rfl (by decide +kernel) (by decide +kernel) (by decide +kernel) rfl (by decide +kernel) ⟨Nat.le_of_ble_eq_true rfl, Nat.le_of_ble_eq_true rfl⟩ hl.1 (Nat.le_of_ble_eq_true rfl) ⟨Nat.le_of_ble_eq_true rfl, Nat.le_of_ble_eq_true rfl⟩ dL_law_4 (fun H2 locs hp hw => ?_)
  obtain ⟨hC, hb9⟩ := hp
  have hs2 := hb9.1
  refine lv_astore_n (lv' := [(1, .ref _), (0, .ref _)]) hx hb dL_law_7 rfl hl (by decide) rfl (fun ls hl => ?_)
  refine j_new (ci := 5) (T := TX5) (N := 16) (fs := [.int (nI 0), .null, .int (nI 0), .int (nI 0), .int (nI 0), .int (nI 0), .null, .null, .null, .null, .int (nI 0), .null, .null, .null, .int (nI 0), .int (nI 0)]) (h := z + 223) hx hb hts hin5 tyX5 tyX5_ok hown (hts (.classLink RL 91 RX5) (by decide +kernel)) (hts (.instantiable RX5 16) (by decide +kernel)) (hts (.initialized RX5) (by decide +kernel)) hw hzl rfl dfX5 hs2 (Nat.le_of_ble_eq_true rfl) (Nat.le_of_ble_eq_true rfl) dL_law_8 (fun H3 hw hO o3 hs3 => ?_)
  have hC := CD.kept hC (fun q h1 h2 => o3 q (by omega))
  refine lv_dup hx hb dL_law_11 rfl ?_
  refine j_IA hx hb hml hown hts hw hAO (c_X5_init l g z H3 (z + 223) (by omega) hO hs3) gL_law_X5_init rfl (by decide +kernel) (by decide +kernel) (by decide +kernel) rfl (by decide +kernel) ⟨Nat.le_of_ble_eq_true rfl, Nat.le_of_ble_eq_true rfl⟩ hl.1 (Nat.le_of_ble_eq_true rfl) ⟨Nat.le_of_ble_eq_true rfl, Nat.le_of_ble_eq_true rfl⟩ dL_law_12 (fun H4 locs hp hw => ?_)
  obtain ⟨hM, hb9⟩ := hp
  have hs4 := hb9.1
  have hC := CD.kept hC (fun q h1 h2 => hb9.2 q (by omega))
  refine lv_astore_n (lv' := [(2, .ref _), (1, .ref _), (0, .ref _)]) hx hb dL_law_15 rfl hl (by decide) rfl (fun ls hl => ?_)
  refine lv_iconst (v := nI 1) hx hb dL_law_16 (by decide) ?_
  refine j_newL (n := 1) (h := z + 232) hx hb (hts (.arrayClass .long) (by decide +kernel)) hw hzl (by decide) (by omega) (Nat.le_of_ble_eq_true rfl) (Nat.le_of_ble_eq_true rfl) dL_law_17 (fun H5 hw hLo o5 hs5 => ?_)
  have hC := CD.kept hC (fun q h1 h2 => o5 q (by omega))
  have hM : MW g H5 (z + 223) (nI 0) ([], S0, [], fun _ => none) := MW.kept (H := H4) hM (fun q h1 h2 => o5 q (by omega))
  refine lv_astore_n (lv' := [(3, .ref _), (2, .ref _), (1, .ref _), (0, .ref _)]) hx hb dL_law_19 rfl hl (by decide) rfl (fun ls hl => ?_)
  refine lv_iconst (v := nI 0) hx hb dL_law_20 (by decide) ?_
  refine lv_istore (lv' := [(4, .int _), (3, .ref _), (2, .ref _), (1, .ref _), (0, .ref _)]) hx hb dL_law_21 hl (by decide) rfl (fun ls hl => ?_)
  exact law_loop hl0 hx hb hr hml hown hts hlocks hE hX hzs hbz hL 600 0 0 4000000 _ _ H5 _ ([], S0, [], fun _ => none) ls rfl rfl rfl rfl rfl (by omega) hw ⟨hC, ⟨_, hM⟩, ⟨_, hLo⟩, good_0, by omega⟩ (lv_sub hl [4, 3, 2, 1, 0] rfl)
set_option maxHeartbeats 4000000 in
theorem lw_walk (l : Launch) (hflags : l.flags = flags0) (b : Addr) (xs : List Int32) : MetFree l x (headSpec (Jvm.Cond.code x code maxLocals ret :: tables_1) room_1) (lw_P b xs) (fun _ _ _ _ _ => True) lw_Q := by
  refine MetFree.of_bodyS (code := code) (maxLocals := maxLocals) (ret := ret) (by decide) ?_ ?_
  · intro args s m h hn
    obtain ⟨meth, c, h1, h2, h3, h4, h5, h6, -, -⟩ := Cond.code_spec hn (atoms_spec (ws := Jvm.Cond.code x code maxLocals ret :: tables_1) h _ List.mem_cons_self)
    exact ⟨meth, c, h1, h2, h3, h4, h5, h6⟩
  · intro p e s m args below meth c s₁ B hml0 hP _
    obtain ⟨rfl, hx, hbd, hgv⟩ := hP
    obtain ⟨scr, harrAt, hlist, hof, hsmall⟩ := hx
    obtain ⟨hcb, hkn, -, -⟩ := State.arrayAt?_spec harrAt
    have hown : s.vm.findClass R_law = some m.cls := findClass_of_methodNamed B.named
    have hts0 : ∀ c ∈ (Jvm.Cond.code x code maxLocals ret :: tables_1), c.before #[Value.ref b] s = true := atoms_spec (ws := Jvm.Cond.code x code maxLocals ret :: tables_1) B.pre
    have hts : ∀ w ∈ lw_tbl, w.before #[Value.ref b] s = true := k2_hts_sels lw_privs (fun w hw => hts0 w (List.mem_cons_of_mem _ hw)) lw_privs_ok
    have hml : c.maxLocals = 7 := B.maxLocals_eq (hts0 _ List.mem_cons_self)
    have X₀ : Stand p l e room_1 s m #[Value.ref b] below meth c s₁ [] 0 0 := Stand.of_body B
    have hh0 : s₁.heap = s.heap := by rw [B.state]; rfl
    have hsz : scr.slots.size = xs.length := by rw [← Array.length_toList, hlist, List.length_map]
    have hval : ∀ j : Nat, j < xs.length → scr.slots[j]? = some (.int (xs.getD j 0)) := fun j hj => by
      rw [← Array.getElem?_toList, hlist]
      simp [hj]
    have hbl : b < s.heap.size := (Array.getElem?_eq_some_iff.mp hcb).1
    have hX : va_X b xs.length (fun j => xs.getD j 0) s s.heap := ⟨scr, hcb, hof, hkn, hsz, hval⟩
    have K : W p l e room_1 s m #[Value.ref b] below meth c s₁.heap [] 0 0 (lw_Z below #[Value.ref b] s) (entryFrame m ([Value.ref b] : List Value).toArray 7) := by
      rw [hh0]
      exact whole_start l hflags hbd ⟨B.exec, B.bytes, B.returns, hml, hown, hts, hX, hbl, B.notSynchronized, hgv⟩
    obtain ⟨t, a1, o, b1, b2, b3⟩ := K s₁ rfl X₀
    exact ⟨t, o, a1, b1, b2, b3⟩
theorem lw_pre_spec {args : Array Value} {s : State} (h : (Jvm.Cond.and given_1 narrow_1).before args s = true) (hr : rest_1_c.before args s = true) : ∃ (b : Addr) (xs : List Int32), lw_P b xs args s := by
  have hs := flat_of_before _ h
  have hq := flat_of_before _ hr
  have hc : (Cond.count 1).before args s = true := hs _ (by decide +kernel)
  have harr : (Cond.arrayOf (.arg 0) .int).before args s = true := hs _ (by decide +kernel)
  have hle : (Cond.le (.length (.arg 0)) (.int 2560)).before args s = true := hs _ (by decide +kernel)
  have hlen : (Cond.isInt (.length (.arg 0))).before args s = true := hq _ (by decide +kernel)
  have hall : (Cond.all (.arg 0) (.isInt (.elem (.arg 0) (.index 0)))).before args s = true := hq _ (by decide +kernel)
  obtain ⟨b, xs, hb, hx⟩ := State.ints_of_pre rfl harr hlen hall
  have hsm : xs.length < 2 ^ 31 := hx.choose_spec.2.2.2
  have hev : (Term.length (.arg 0)).eval args s none [] s = some (.int xs.length.toInt32) := hx.length_eval hb
  have hv := Cond.le_ints hev (show (Term.int 2560).eval args s none [] s = some (.int 2560) from rfl)
  have hd : xs.length.toInt32 ≤ 2560 := by
    simpa [Cond.before, Cond.holds, hv] using hle
  have hN : xs.length ≤ 2560 := (Int32.ofNat_le_ofNat hsm (by decide)).mp (show Int32.ofNat xs.length ≤ Int32.ofNat 2560 from hd)
  exact ⟨b, xs, Cond.one_arg hc (show args[0]? = some (.ref b) from hb), hx, hN, h⟩
theorem lw_comes (l : Launch) (hflags : l.flags = flags0) : Comes l x (Jvm.Cond.code x code maxLocals ret :: tables_1) room_1 (fun tb e args s => Calls_1 tb e args s ∧ rest_1 tb e args s ∧ Pre_1 tb e args s)
    (fun _ _ args s o t => lw_Q args s o t) := by
  intro p e ha hc hk s m args below hf hfit hheap happ hpre
  obtain ⟨b, xs, hP⟩ := lw_pre_spec hpre.2.2 hpre.2.1
  obtain ⟨k, o, h1, h2, h3, hQ⟩ := lw_walk l hflags b xs p e ha hc hk s m args below hf ((Spec.applies_iff_loose hf).mp happ).1 hP trivial
  exact ⟨k, o, h1, h2, h3, hQ⟩
theorem lw_frame {s t : State} {o : Outcome} {args : Array Value} (h : Framed s o t [] 601024 7293034) :
    Framed s o t (fieldLocs frame_1_writes args s ++ arrayLocs frame_1_arrays args s ++ staticLocs frame_1_statics s) 601024 7293034 := h
theorem lw_limb (L : Cond) (hL : ∀ (args : Array Value) (s t : State), L.after args s (.returned (some (.int 1))) t = true) :
    ArmFor flags0 classFile x code maxLocals ret World_1 tables_1 room_1 Calls_1 rest_1 Pre_1
      (fun tb e a s o t => postC L tb e a s o t ∧ Framed s o t (fieldLocs frame_1_writes a s ++ arrayLocs frame_1_arrays a s ++ staticLocs frame_1_statics s) 601024 7293034) := by
  intro l hflags _ _ p e ha hc hk s m args below hf hfit hheap happ hpre
  obtain ⟨k, o, h1, h2, h3, rfl, hF⟩ := lw_comes l hflags p e ha hc hk s m args below hf hfit hheap happ hpre
  exact ⟨k, _, h1, h2, h3, hL args s _, lw_frame hF⟩
theorem i_vc : Claimed_1_1 ∧ Claimed_1_2 := ⟨lw_limb limb_1_1 (fun args s t => by simp [limb_1_1, Cond.after, Cond.holds, Cond.value]), lw_limb limb_1_2 (fun args s t => Cond.after_iff.mpr (by
  first | (rw [show limb_1_2 = Cond.eq .result (.int 1) from rfl, Cond.eq_ints (x := 1) (y := 1) rfl rfl]; simp; done) | (simp [limb_1_2, Cond.value, Term.eval]; done)))⟩
