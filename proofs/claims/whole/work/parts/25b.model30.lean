theorem CD.rec9 {g : jG} {z : Nat} {s : State} {H : Heap} {locs : List Loc} {A : Nat} {tx : List Nat} {σ : Sg} {hi : List Sg} {sv : Nat → Option Sg} (h : CD g H A tx σ hi sv) (hw : jW g z s H locs) : ∃ cell : Cell, H[A]? = some cell ∧ cell.vm.isStatics = false ∧ s.vm.findClass RX4 = some cell.cls := by
  obtain ⟨τ, Rt, h1, -⟩ := h
  exact j_recv hw h1 rfl
set_option maxHeartbeats 4000000 in
set_option maxRecDepth 100000 in
theorem h_append (l : Launch) (hl0 : l.stackTraces = false) (g : jG) (z : Nat) (H0 : Heap) (A o : Nat) (ac : Int32) (tx : List Nat) (σ : Sg) (hi : List Sg) (sv : Nat → Option Sg) (fo : Nat → Int64) (hz : z ≤ A) (hzo : z ≤ o) (ho : o < A ∨ A + 223 ≤ o) (hsz : A + 223 ≤ H0.size) (hCD : CD g H0 A tx σ hi sv) (hL : jL g H0 o 1 fo) : jMH l g z yL_append wsL_append 7 103 [.ref A, .int ac, .ref o] H0 (jN (fun r H1 => hP g H0 H1 A o (opT (fAppend tx ac) (tx, σ, hi, sv)) r)) := by
  refine j_ofH (cc := cL_append) (n := 4) (ret := some .int) (by decide) rfl (Nat.le_of_ble_eq_true rfl) ?_
  intro p e s m below meth c hx hb hr hml hown hts hlocks hname hH hw hE hex ls hl
  have hl : lv_has ls 4 [(0, .ref A), (1, .int ac), (2, .ref o)] := hl
  refine lv_aload_n hx hb dL_append_0 rfl (lv_at hl 2 rfl) ?_
  refine lv_iconst (v := nI 0) hx hb dL_append_1 (by decide) ?_
  refine lv_aload_n hx hb dL_append_2 rfl (lv_at hl 0 rfl) ?_
  refine lv_iload_n hx hb dL_append_3 rfl (lv_at hl 1 rfl) ?_
  refine j_VX (n := 1) (As := [.int ac]) (rest := [.int (nI 0), .ref o]) hx hb hml hown hts hw hE (hCD.rec9 hw) (c_X4_append l hl0 g z H0 A ac tx σ hi sv hz hCD ) gL_append_X4_append rfl (by decide +kernel) ⟨Nat.le_of_ble_eq_true rfl, Nat.le_of_ble_eq_true rfl⟩ rfl hl.1 (Nat.le_of_ble_eq_true rfl) ⟨Nat.le_of_ble_eq_true rfl, Nat.le_of_ble_eq_true rfl⟩ dL_append_4 (fun r H locs hp hw => ?_) (fun E ce q9 H locs hp hs9 hq9 hw hce hcv hcl => ?_) rfl
  · obtain ⟨he, hC, hf⟩ := hp
    have hL := hL.kept (hf.2 o ho)
    refine lv_i2l hx hb dL_append_7 rfl ?_
    refine j_last hx hb hw hL hzo (k := 0) rfl (by decide) (by decide) dL_append_8 (fun H2 locs hw hL oq hsz2 => ?_)
    refine lv_goto (tgt := 18) hx hb dL_append_9 (by decide) ?_
    refine lv_iconst (v := nI 0) hx hb dL_append_18 (by decide) ?_
    refine j_iret hx hb hr hlocks hH hw dL_append_19 ?_
    exact ⟨_, rfl, hP_ok (opT_ok he) hC hf ho hL oq hsz2⟩
  · rcases hp with ⟨he, rfl⟩ | ⟨he, rfl⟩
    · refine vx_catch (own := RL) (name := "java/lang/IllegalArgumentException") hown [] ⟨0, 9, 12, 13⟩ [⟨0, 9, 15, 15⟩] (hex.trans rfl) (fun _ h => absurd h List.not_mem_nil) (by decide) (by decide) (hts (.classLink RL 13 "java/lang/IllegalArgumentException") (by decide +kernel)) (va_Nw.use rfl (hE.1 "java/lang/IllegalArgumentException" (by decide +kernel))) hce hcv hcl ?_
      refine lv_astore_n (lv' := [(3, .ref _), (0, .ref _), (1, .int _), (2, .ref _)]) hx hb dL_append_12 rfl hl (by decide) rfl (fun ls hl => ?_)
      refine lv_iconst (v := nI 1) hx hb dL_append_13 (by decide) ?_
      refine j_iret hx hb hr hlocks hH hw dL_append_14 ?_
      exact ⟨_, rfl, hP_no (k := 1) (by decide) (by decide) (opT_no he) hCD hsz hL hs9 hq9⟩
    · refine vx_catch (own := RL) (name := "java/lang/IllegalStateException") hown [⟨0, 9, 12, 13⟩] ⟨0, 9, 15, 15⟩ [] (hex.trans rfl) (List.forall_mem_cons.mpr ⟨Or.inr ⟨by decide, "java/lang/IllegalArgumentException", hts (.classLink RL 13 "java/lang/IllegalArgumentException") (by decide +kernel), hE.2.1 ("java/lang/IllegalStateException", "java/lang/IllegalArgumentException") (by decide +kernel)⟩, fun _ h => absurd h List.not_mem_nil⟩) (by decide) (by decide) (hts (.classLink RL 15 "java/lang/IllegalStateException") (by decide +kernel)) (va_Nw.use rfl (hE.1 "java/lang/IllegalStateException" (by decide +kernel))) hce hcv hcl ?_
      refine lv_astore_n (lv' := [(3, .ref _), (0, .ref _), (1, .int _), (2, .ref _)]) hx hb dL_append_15 rfl hl (by decide) rfl (fun ls hl => ?_)
      refine lv_iconst (v := nI 2) hx hb dL_append_16 (by decide) ?_
      refine j_iret hx hb hr hlocks hH hw dL_append_17 ?_
      exact ⟨_, rfl, hP_no (k := 2) (by decide) (by decide) (opT_no he) hCD hsz hL hs9 hq9⟩

set_option maxHeartbeats 4000000 in
set_option maxRecDepth 100000 in
theorem h_load (l : Launch) (hl0 : l.stackTraces = false) (g : jG) (z : Nat) (H0 : Heap) (A o : Nat)  (tx : List Nat) (σ : Sg) (hi : List Sg) (sv : Nat → Option Sg) (fo : Nat → Int64) (hz : z ≤ A) (hzo : z ≤ o) (ho : o < A ∨ A + 223 ≤ o) (hsz : A + 223 ≤ H0.size) (hCD : CD g H0 A tx σ hi sv) (hL : jL g H0 o 1 fo) : jMH l g z yL_load wsL_load 9 217 [.ref A, .ref o] H0 (jN (fun r H1 => hP g H0 H1 A o (opL (tx, σ, hi, sv)) r)) := by
  refine j_ofH (cc := cL_load) (n := 3) (ret := some .int) (by decide) rfl (Nat.le_of_ble_eq_true rfl) ?_
  intro p e s m below meth c hx hb hr hml hown hts hlocks hname hH hw hE hex ls hl
  have hl : lv_has ls 3 [(0, .ref A), (1, .ref o)] := hl
  refine lv_aload_n hx hb dL_load_0 rfl (lv_at hl 1 rfl) ?_
  refine lv_iconst (v := nI 0) hx hb dL_load_1 (by decide) ?_
  refine lv_aload_n hx hb dL_load_2 rfl (lv_at hl 0 rfl) ?_
  refine j_VX (n := 0) (As := []) (rest := [.int (nI 0), .ref o]) hx hb hml hown hts hw hE (hCD.rec9 hw) (c_X4_load l hl0 g z H0 A tx σ hi sv hz hCD ) gL_load_X4_load rfl (by decide +kernel) ⟨Nat.le_of_ble_eq_true rfl, Nat.le_of_ble_eq_true rfl⟩ rfl hl.1 (Nat.le_of_ble_eq_true rfl) ⟨Nat.le_of_ble_eq_true rfl, Nat.le_of_ble_eq_true rfl⟩ dL_load_3 (fun r H locs hp hw => ?_) (fun E ce q9 H locs hp hs9 hq9 hw hce hcv hcl => ?_) rfl
  · obtain ⟨he, hC, hf⟩ := hp
    have hL := hL.kept (hf.2 o ho)
    refine lv_i2l hx hb dL_load_6 rfl ?_
    refine j_last hx hb hw hL hzo (k := 0) rfl (by decide) (by decide) dL_load_7 (fun H2 locs hw hL oq hsz2 => ?_)
    refine lv_goto (tgt := 14) hx hb dL_load_8 (by decide) ?_
    refine lv_iconst (v := nI 0) hx hb dL_load_14 (by decide) ?_
    refine j_iret hx hb hr hlocks hH hw dL_load_15 ?_
    exact ⟨_, rfl, hP_ok (opL_ok he) hC hf ho hL oq hsz2⟩
  · obtain ⟨he, rfl⟩ := hp
    refine vx_catch (own := RL) (name := "java/lang/IllegalStateException") hown [] ⟨0, 8, 11, 15⟩ [] (hex.trans rfl) (fun _ h => absurd h List.not_mem_nil) (by decide) (by decide) (hts (.classLink RL 15 "java/lang/IllegalStateException") (by decide +kernel)) (va_Nw.use rfl (hE.1 "java/lang/IllegalStateException" (by decide +kernel))) hce hcv hcl ?_
    refine lv_astore_n (lv' := [(2, .ref _), (0, .ref _), (1, .ref _)]) hx hb dL_load_11 rfl hl (by decide) rfl (fun ls hl => ?_)
    refine lv_iconst (v := nI 1) hx hb dL_load_12 (by decide) ?_
    refine j_iret hx hb hr hlocks hH hw dL_load_13 ?_
    exact ⟨_, rfl, hP_no (k := 1) (by decide) (by decide) (opL_no he) hCD hsz hL hs9 hq9⟩

set_option maxHeartbeats 4000000 in
set_option maxRecDepth 100000 in
theorem h_about (l : Launch) (hl0 : l.stackTraces = false) (g : jG) (z : Nat) (H0 : Heap) (A o : Nat) (what : Int32) (tx : List Nat) (σ : Sg) (hi : List Sg) (sv : Nat → Option Sg) (fo : Nat → Int64) (hz : z ≤ A) (hzo : z ≤ o) (ho : o < A ∨ A + 223 ≤ o) (hsz : A + 223 ≤ H0.size) (hCD : CD g H0 A tx σ hi sv) (hL : jL g H0 o 1 fo) : jMH l g z yL_about wsL_about 7 103 [.ref A, .int what, .ref o] H0 (jN (fun r H1 => hP g H0 H1 A o (opQ (fAbout σ what) (tx, σ, hi, sv)) r)) := by
  refine j_ofH (cc := cL_about) (n := 4) (ret := some .int) (by decide) rfl (Nat.le_of_ble_eq_true rfl) ?_
  intro p e s m below meth c hx hb hr hml hown hts hlocks hname hH hw hE hex ls hl
  have hl : lv_has ls 4 [(0, .ref A), (1, .int what), (2, .ref o)] := hl
  refine lv_aload_n hx hb dL_about_0 rfl (lv_at hl 2 rfl) ?_
  refine lv_iconst (v := nI 0) hx hb dL_about_1 (by decide) ?_
  refine lv_aload_n hx hb dL_about_2 rfl (lv_at hl 0 rfl) ?_
  refine lv_iload_n hx hb dL_about_3 rfl (lv_at hl 1 rfl) ?_
  refine j_VX (n := 1) (As := [.int what]) (rest := [.int (nI 0), .ref o]) hx hb hml hown hts hw hE (hCD.rec9 hw) (c_X4_about l hl0 g z H0 A what tx σ hi sv hz hCD ) gL_about_X4_about rfl (by decide +kernel) ⟨Nat.le_of_ble_eq_true rfl, Nat.le_of_ble_eq_true rfl⟩ rfl hl.1 (Nat.le_of_ble_eq_true rfl) ⟨Nat.le_of_ble_eq_true rfl, Nat.le_of_ble_eq_true rfl⟩ dL_about_4 (fun r H locs hp hw => ?_) (fun E ce q9 H locs hp hs9 hq9 hw hce hcv hcl => ?_) rfl
  · obtain ⟨he, hC, hf⟩ := hp
    have hL := hL.kept (hf.2 o ho)
    refine lv_i2l hx hb dL_about_7 rfl ?_
    refine j_last hx hb hw hL hzo (k := 0) rfl (by decide) (by decide) dL_about_8 (fun H2 locs hw hL oq hsz2 => ?_)
    refine lv_goto (tgt := 15) hx hb dL_about_9 (by decide) ?_
    refine lv_iconst (v := nI 0) hx hb dL_about_15 (by decide) ?_
    refine j_iret hx hb hr hlocks hH hw dL_about_16 ?_
    exact ⟨_, rfl, hP_ok (opQ_ok he) hC hf ho hL oq hsz2⟩
  · obtain ⟨he, rfl⟩ := hp
    refine vx_catch (own := RL) (name := "java/lang/IllegalArgumentException") hown [] ⟨0, 9, 12, 13⟩ [] (hex.trans rfl) (fun _ h => absurd h List.not_mem_nil) (by decide) (by decide) (hts (.classLink RL 13 "java/lang/IllegalArgumentException") (by decide +kernel)) (va_Nw.use rfl (hE.1 "java/lang/IllegalArgumentException" (by decide +kernel))) hce hcv hcl ?_
    refine lv_astore_n (lv' := [(3, .ref _), (0, .ref _), (1, .int _), (2, .ref _)]) hx hb dL_about_12 rfl hl (by decide) rfl (fun ls hl => ?_)
    refine lv_iconst (v := nI 1) hx hb dL_about_13 (by decide) ?_
    refine j_iret hx hb hr hlocks hH hw dL_about_14 ?_
    exact ⟨_, rfl, hP_no (k := 1) (by decide) (by decide) (opQ_no he) hCD hsz hL hs9 hq9⟩

set_option maxHeartbeats 4000000 in
set_option maxRecDepth 100000 in
theorem h_order (l : Launch) (hl0 : l.stackTraces = false) (g : jG) (z : Nat) (H0 : Heap) (A o : Nat) (i : Int32) (what : Int32) (tx : List Nat) (σ : Sg) (hi : List Sg) (sv : Nat → Option Sg) (fo : Nat → Int64) (hz : z ≤ A) (hzo : z ≤ o) (ho : o < A ∨ A + 223 ≤ o) (hsz : A + 223 ≤ H0.size) (hCD : CD g H0 A tx σ hi sv) (hL : jL g H0 o 1 fo) : jMH l g z yL_order wsL_order 7 104 [.ref A, .int i, .int what, .ref o] H0 (jN (fun r H1 => hP g H0 H1 A o (opQ (fOrder σ i what) (tx, σ, hi, sv)) r)) := by
  refine j_ofH (cc := cL_order) (n := 5) (ret := some .int) (by decide) rfl (Nat.le_of_ble_eq_true rfl) ?_
  intro p e s m below meth c hx hb hr hml hown hts hlocks hname hH hw hE hex ls hl
  have hl : lv_has ls 5 [(0, .ref A), (1, .int i), (2, .int what), (3, .ref o)] := hl
  refine lv_aload_n hx hb dL_order_0 rfl (lv_at hl 3 rfl) ?_
  refine lv_iconst (v := nI 0) hx hb dL_order_1 (by decide) ?_
  refine lv_aload_n hx hb dL_order_2 rfl (lv_at hl 0 rfl) ?_
  refine lv_iload_n hx hb dL_order_3 rfl (lv_at hl 1 rfl) ?_
  refine lv_iload_n hx hb dL_order_4 rfl (lv_at hl 2 rfl) ?_
  refine j_VX (n := 2) (As := [.int i, .int what]) (rest := [.int (nI 0), .ref o]) hx hb hml hown hts hw hE (hCD.rec9 hw) (c_X4_order l hl0 g z H0 A i what tx σ hi sv hz hCD ) gL_order_X4_order rfl (by decide +kernel) ⟨Nat.le_of_ble_eq_true rfl, Nat.le_of_ble_eq_true rfl⟩ rfl hl.1 (Nat.le_of_ble_eq_true rfl) ⟨Nat.le_of_ble_eq_true rfl, Nat.le_of_ble_eq_true rfl⟩ dL_order_5 (fun r H locs hp hw => ?_) (fun E ce q9 H locs hp hs9 hq9 hw hce hcv hcl => ?_) rfl
  · obtain ⟨he, hC, hf⟩ := hp
    have hL := hL.kept (hf.2 o ho)
    refine lv_i2l hx hb dL_order_8 rfl ?_
    refine j_last hx hb hw hL hzo (k := 0) rfl (by decide) (by decide) dL_order_9 (fun H2 locs hw hL oq hsz2 => ?_)
    refine lv_goto (tgt := 21) hx hb dL_order_10 (by decide) ?_
    refine lv_iconst (v := nI 0) hx hb dL_order_21 (by decide) ?_
    refine j_iret hx hb hr hlocks hH hw dL_order_22 ?_
    exact ⟨_, rfl, hP_ok (opQ_ok he) hC hf ho hL oq hsz2⟩
  · rcases hp with ⟨he, rfl⟩ | ⟨he, rfl⟩
    · refine vx_catch (own := RL) (name := "java/lang/IndexOutOfBoundsException") hown [] ⟨0, 10, 13, 28⟩ [⟨0, 10, 17, 13⟩] (hex.trans rfl) (fun _ h => absurd h List.not_mem_nil) (by decide) (by decide) (hts (.classLink RL 28 "java/lang/IndexOutOfBoundsException") (by decide +kernel)) (va_Nw.use rfl (hE.1 "java/lang/IndexOutOfBoundsException" (by decide +kernel))) hce hcv hcl ?_
      refine lv_astore (lv' := [(4, .ref _), (0, .ref _), (1, .int _), (2, .int _), (3, .ref _)]) hx hb dL_order_13 hl (by decide) rfl (fun ls hl => ?_)
      refine lv_iconst (v := nI 1) hx hb dL_order_15 (by decide) ?_
      refine j_iret hx hb hr hlocks hH hw dL_order_16 ?_
      exact ⟨_, rfl, hP_no (k := 1) (by decide) (by decide) (opQ_no he) hCD hsz hL hs9 hq9⟩
    · refine vx_catch (own := RL) (name := "java/lang/IllegalArgumentException") hown [⟨0, 10, 13, 28⟩] ⟨0, 10, 17, 13⟩ [] (hex.trans rfl) (List.forall_mem_cons.mpr ⟨Or.inr ⟨by decide, "java/lang/IndexOutOfBoundsException", hts (.classLink RL 28 "java/lang/IndexOutOfBoundsException") (by decide +kernel), hE.2.1 ("java/lang/IllegalArgumentException", "java/lang/IndexOutOfBoundsException") (by decide +kernel)⟩, fun _ h => absurd h List.not_mem_nil⟩) (by decide) (by decide) (hts (.classLink RL 13 "java/lang/IllegalArgumentException") (by decide +kernel)) (va_Nw.use rfl (hE.1 "java/lang/IllegalArgumentException" (by decide +kernel))) hce hcv hcl ?_
      refine lv_astore (lv' := [(4, .ref _), (0, .ref _), (1, .int _), (2, .int _), (3, .ref _)]) hx hb dL_order_17 hl (by decide) rfl (fun ls hl => ?_)
      refine lv_iconst (v := nI 2) hx hb dL_order_19 (by decide) ?_
      refine j_iret hx hb hr hlocks hH hw dL_order_20 ?_
      exact ⟨_, rfl, hP_no (k := 2) (by decide) (by decide) (opQ_no he) hCD hsz hL hs9 hq9⟩

set_option maxHeartbeats 4000000 in
set_option maxRecDepth 100000 in
theorem h_lot (l : Launch) (hl0 : l.stackTraces = false) (g : jG) (z : Nat) (H0 : Heap) (A o : Nat) (al : Int32) (what : Int32) (tx : List Nat) (σ : Sg) (hi : List Sg) (sv : Nat → Option Sg) (fo : Nat → Int64) (hz : z ≤ A) (hzo : z ≤ o) (ho : o < A ∨ A + 223 ≤ o) (hsz : A + 223 ≤ H0.size) (hCD : CD g H0 A tx σ hi sv) (hL : jL g H0 o 1 fo) : jMH l g z yL_lot wsL_lot 7 104 [.ref A, .int al, .int what, .ref o] H0 (jN (fun r H1 => hP g H0 H1 A o (opQ (fLot σ al what) (tx, σ, hi, sv)) r)) := by
  refine j_ofH (cc := cL_lot) (n := 5) (ret := some .int) (by decide) rfl (Nat.le_of_ble_eq_true rfl) ?_
  intro p e s m below meth c hx hb hr hml hown hts hlocks hname hH hw hE hex ls hl
  have hl : lv_has ls 5 [(0, .ref A), (1, .int al), (2, .int what), (3, .ref o)] := hl
  refine lv_aload_n hx hb dL_lot_0 rfl (lv_at hl 3 rfl) ?_
  refine lv_iconst (v := nI 0) hx hb dL_lot_1 (by decide) ?_
  refine lv_aload_n hx hb dL_lot_2 rfl (lv_at hl 0 rfl) ?_
  refine lv_iload_n hx hb dL_lot_3 rfl (lv_at hl 1 rfl) ?_
  refine lv_iload_n hx hb dL_lot_4 rfl (lv_at hl 2 rfl) ?_
  refine j_VX (n := 2) (As := [.int al, .int what]) (rest := [.int (nI 0), .ref o]) hx hb hml hown hts hw hE (hCD.rec9 hw) (c_X4_lot l hl0 g z H0 A al what tx σ hi sv hz hCD ) gL_lot_X4_lot rfl (by decide +kernel) ⟨Nat.le_of_ble_eq_true rfl, Nat.le_of_ble_eq_true rfl⟩ rfl hl.1 (Nat.le_of_ble_eq_true rfl) ⟨Nat.le_of_ble_eq_true rfl, Nat.le_of_ble_eq_true rfl⟩ dL_lot_5 (fun r H locs hp hw => ?_) (fun E ce q9 H locs hp hs9 hq9 hw hce hcv hcl => ?_) rfl
  · obtain ⟨he, hC, hf⟩ := hp
    have hL := hL.kept (hf.2 o ho)
    refine lv_i2l hx hb dL_lot_8 rfl ?_
    refine j_last hx hb hw hL hzo (k := 0) rfl (by decide) (by decide) dL_lot_9 (fun H2 locs hw hL oq hsz2 => ?_)
    refine lv_goto (tgt := 21) hx hb dL_lot_10 (by decide) ?_
    refine lv_iconst (v := nI 0) hx hb dL_lot_21 (by decide) ?_
    refine j_iret hx hb hr hlocks hH hw dL_lot_22 ?_
    exact ⟨_, rfl, hP_ok (opQ_ok he) hC hf ho hL oq hsz2⟩
  · rcases hp with ⟨he, rfl⟩ | ⟨he, rfl⟩
    · refine vx_catch (own := RL) (name := "java/lang/IndexOutOfBoundsException") hown [] ⟨0, 10, 13, 28⟩ [⟨0, 10, 17, 13⟩] (hex.trans rfl) (fun _ h => absurd h List.not_mem_nil) (by decide) (by decide) (hts (.classLink RL 28 "java/lang/IndexOutOfBoundsException") (by decide +kernel)) (va_Nw.use rfl (hE.1 "java/lang/IndexOutOfBoundsException" (by decide +kernel))) hce hcv hcl ?_
      refine lv_astore (lv' := [(4, .ref _), (0, .ref _), (1, .int _), (2, .int _), (3, .ref _)]) hx hb dL_lot_13 hl (by decide) rfl (fun ls hl => ?_)
      refine lv_iconst (v := nI 1) hx hb dL_lot_15 (by decide) ?_
      refine j_iret hx hb hr hlocks hH hw dL_lot_16 ?_
      exact ⟨_, rfl, hP_no (k := 1) (by decide) (by decide) (opQ_no he) hCD hsz hL hs9 hq9⟩
    · refine vx_catch (own := RL) (name := "java/lang/IllegalArgumentException") hown [⟨0, 10, 13, 28⟩] ⟨0, 10, 17, 13⟩ [] (hex.trans rfl) (List.forall_mem_cons.mpr ⟨Or.inr ⟨by decide, "java/lang/IndexOutOfBoundsException", hts (.classLink RL 28 "java/lang/IndexOutOfBoundsException") (by decide +kernel), hE.2.1 ("java/lang/IllegalArgumentException", "java/lang/IndexOutOfBoundsException") (by decide +kernel)⟩, fun _ h => absurd h List.not_mem_nil⟩) (by decide) (by decide) (hts (.classLink RL 13 "java/lang/IllegalArgumentException") (by decide +kernel)) (va_Nw.use rfl (hE.1 "java/lang/IllegalArgumentException" (by decide +kernel))) hce hcv hcl ?_
      refine lv_astore (lv' := [(4, .ref _), (0, .ref _), (1, .int _), (2, .int _), (3, .ref _)]) hx hb dL_lot_17 hl (by decide) rfl (fun ls hl => ?_)
      refine lv_iconst (v := nI 2) hx hb dL_lot_19 (by decide) ?_
      refine j_iret hx hb hr hlocks hH hw dL_lot_20 ?_
      exact ⟨_, rfl, hP_no (k := 2) (by decide) (by decide) (opQ_no he) hCD hsz hL hs9 hq9⟩

set_option maxHeartbeats 4000000 in
set_option maxRecDepth 100000 in
theorem h_reader (l : Launch) (hl0 : l.stackTraces = false) (g : jG) (z : Nat) (H0 : Heap) (A o : Nat) (ac : Int32) (what : Int32) (tx : List Nat) (σ : Sg) (hi : List Sg) (sv : Nat → Option Sg) (fo : Nat → Int64) (hz : z ≤ A) (hzo : z ≤ o) (ho : o < A ∨ A + 223 ≤ o) (hsz : A + 223 ≤ H0.size) (hCD : CD g H0 A tx σ hi sv) (hL : jL g H0 o 1 fo) : jMH l g z yL_reader wsL_reader 7 104 [.ref A, .int ac, .int what, .ref o] H0 (jN (fun r H1 => hP g H0 H1 A o (opQ (fReader σ ac what) (tx, σ, hi, sv)) r)) := by
  refine j_ofH (cc := cL_reader) (n := 5) (ret := some .int) (by decide) rfl (Nat.le_of_ble_eq_true rfl) ?_
  intro p e s m below meth c hx hb hr hml hown hts hlocks hname hH hw hE hex ls hl
  have hl : lv_has ls 5 [(0, .ref A), (1, .int ac), (2, .int what), (3, .ref o)] := hl
  refine lv_aload_n hx hb dL_reader_0 rfl (lv_at hl 3 rfl) ?_
  refine lv_iconst (v := nI 0) hx hb dL_reader_1 (by decide) ?_
  refine lv_aload_n hx hb dL_reader_2 rfl (lv_at hl 0 rfl) ?_
  refine lv_iload_n hx hb dL_reader_3 rfl (lv_at hl 1 rfl) ?_
  refine lv_iload_n hx hb dL_reader_4 rfl (lv_at hl 2 rfl) ?_
  refine j_VX (n := 2) (As := [.int ac, .int what]) (rest := [.int (nI 0), .ref o]) hx hb hml hown hts hw hE (hCD.rec9 hw) (c_X4_reader l hl0 g z H0 A ac what tx σ hi sv hz hCD ) gL_reader_X4_reader rfl (by decide +kernel) ⟨Nat.le_of_ble_eq_true rfl, Nat.le_of_ble_eq_true rfl⟩ rfl hl.1 (Nat.le_of_ble_eq_true rfl) ⟨Nat.le_of_ble_eq_true rfl, Nat.le_of_ble_eq_true rfl⟩ dL_reader_5 (fun r H locs hp hw => ?_) (fun E ce q9 H locs hp hs9 hq9 hw hce hcv hcl => ?_) rfl
  · obtain ⟨he, hC, hf⟩ := hp
    have hL := hL.kept (hf.2 o ho)
    refine lv_i2l hx hb dL_reader_8 rfl ?_
    refine j_last hx hb hw hL hzo (k := 0) rfl (by decide) (by decide) dL_reader_9 (fun H2 locs hw hL oq hsz2 => ?_)
    refine lv_goto (tgt := 21) hx hb dL_reader_10 (by decide) ?_
    refine lv_iconst (v := nI 0) hx hb dL_reader_21 (by decide) ?_
    refine j_iret hx hb hr hlocks hH hw dL_reader_22 ?_
    exact ⟨_, rfl, hP_ok (opQ_ok he) hC hf ho hL oq hsz2⟩
  · rcases hp with ⟨he, rfl⟩ | ⟨he, rfl⟩
    · refine vx_catch (own := RL) (name := "java/lang/IndexOutOfBoundsException") hown [] ⟨0, 10, 13, 28⟩ [⟨0, 10, 17, 13⟩] (hex.trans rfl) (fun _ h => absurd h List.not_mem_nil) (by decide) (by decide) (hts (.classLink RL 28 "java/lang/IndexOutOfBoundsException") (by decide +kernel)) (va_Nw.use rfl (hE.1 "java/lang/IndexOutOfBoundsException" (by decide +kernel))) hce hcv hcl ?_
      refine lv_astore (lv' := [(4, .ref _), (0, .ref _), (1, .int _), (2, .int _), (3, .ref _)]) hx hb dL_reader_13 hl (by decide) rfl (fun ls hl => ?_)
      refine lv_iconst (v := nI 1) hx hb dL_reader_15 (by decide) ?_
      refine j_iret hx hb hr hlocks hH hw dL_reader_16 ?_
      exact ⟨_, rfl, hP_no (k := 1) (by decide) (by decide) (opQ_no he) hCD hsz hL hs9 hq9⟩
    · refine vx_catch (own := RL) (name := "java/lang/IllegalArgumentException") hown [⟨0, 10, 13, 28⟩] ⟨0, 10, 17, 13⟩ [] (hex.trans rfl) (List.forall_mem_cons.mpr ⟨Or.inr ⟨by decide, "java/lang/IndexOutOfBoundsException", hts (.classLink RL 28 "java/lang/IndexOutOfBoundsException") (by decide +kernel), hE.2.1 ("java/lang/IllegalArgumentException", "java/lang/IndexOutOfBoundsException") (by decide +kernel)⟩, fun _ h => absurd h List.not_mem_nil⟩) (by decide) (by decide) (hts (.classLink RL 13 "java/lang/IllegalArgumentException") (by decide +kernel)) (va_Nw.use rfl (hE.1 "java/lang/IllegalArgumentException" (by decide +kernel))) hce hcv hcl ?_
      refine lv_astore (lv' := [(4, .ref _), (0, .ref _), (1, .int _), (2, .int _), (3, .ref _)]) hx hb dL_reader_17 hl (by decide) rfl (fun ls hl => ?_)
      refine lv_iconst (v := nI 2) hx hb dL_reader_19 (by decide) ?_
      refine j_iret hx hb hr hlocks hH hw dL_reader_20 ?_
      exact ⟨_, rfl, hP_no (k := 2) (by decide) (by decide) (opQ_no he) hCD hsz hL hs9 hq9⟩

set_option maxHeartbeats 4000000 in
set_option maxRecDepth 100000 in
theorem h_delivered (l : Launch) (hl0 : l.stackTraces = false) (g : jG) (z : Nat) (H0 : Heap) (A o : Nat) (k : Int32) (what : Int32) (tx : List Nat) (σ : Sg) (hi : List Sg) (sv : Nat → Option Sg) (fo : Nat → Int64) (hz : z ≤ A) (hzo : z ≤ o) (ho : o < A ∨ A + 223 ≤ o) (hsz : A + 223 ≤ H0.size) (hCD : CD g H0 A tx σ hi sv) (hL : jL g H0 o 1 fo) : jMH l g z yL_delivered wsL_delivered 7 104 [.ref A, .int k, .int what, .ref o] H0 (jN (fun r H1 => hP g H0 H1 A o (opQ (fDel σ k what) (tx, σ, hi, sv)) r)) := by
  refine j_ofH (cc := cL_delivered) (n := 5) (ret := some .int) (by decide) rfl (Nat.le_of_ble_eq_true rfl) ?_
  intro p e s m below meth c hx hb hr hml hown hts hlocks hname hH hw hE hex ls hl
  have hl : lv_has ls 5 [(0, .ref A), (1, .int k), (2, .int what), (3, .ref o)] := hl
  refine lv_aload_n hx hb dL_delivered_0 rfl (lv_at hl 3 rfl) ?_
  refine lv_iconst (v := nI 0) hx hb dL_delivered_1 (by decide) ?_
  refine lv_aload_n hx hb dL_delivered_2 rfl (lv_at hl 0 rfl) ?_
  refine lv_iload_n hx hb dL_delivered_3 rfl (lv_at hl 1 rfl) ?_
  refine lv_iload_n hx hb dL_delivered_4 rfl (lv_at hl 2 rfl) ?_
  refine j_VX (n := 2) (As := [.int k, .int what]) (rest := [.int (nI 0), .ref o]) hx hb hml hown hts hw hE (hCD.rec9 hw) (c_X4_delivered l hl0 g z H0 A k what tx σ hi sv hz hCD ) gL_delivered_X4_delivered rfl (by decide +kernel) ⟨Nat.le_of_ble_eq_true rfl, Nat.le_of_ble_eq_true rfl⟩ rfl hl.1 (Nat.le_of_ble_eq_true rfl) ⟨Nat.le_of_ble_eq_true rfl, Nat.le_of_ble_eq_true rfl⟩ dL_delivered_5 (fun r H locs hp hw => ?_) (fun E ce q9 H locs hp hs9 hq9 hw hce hcv hcl => ?_) rfl
  · obtain ⟨he, hC, hf⟩ := hp
    have hL := hL.kept (hf.2 o ho)
    refine lv_i2l hx hb dL_delivered_8 rfl ?_
    refine j_last hx hb hw hL hzo (k := 0) rfl (by decide) (by decide) dL_delivered_9 (fun H2 locs hw hL oq hsz2 => ?_)
    refine lv_goto (tgt := 17) hx hb dL_delivered_10 (by decide) ?_
    refine lv_iconst (v := nI 0) hx hb dL_delivered_17 (by decide) ?_
    refine j_iret hx hb hr hlocks hH hw dL_delivered_18 ?_
    exact ⟨_, rfl, hP_ok (opQ_ok he) hC hf ho hL oq hsz2⟩
  · obtain ⟨he, rfl⟩ := hp
    refine vx_catch (own := RL) (name := "java/lang/IllegalArgumentException") hown [] ⟨0, 10, 13, 13⟩ [] (hex.trans rfl) (fun _ h => absurd h List.not_mem_nil) (by decide) (by decide) (hts (.classLink RL 13 "java/lang/IllegalArgumentException") (by decide +kernel)) (va_Nw.use rfl (hE.1 "java/lang/IllegalArgumentException" (by decide +kernel))) hce hcv hcl ?_
    refine lv_astore (lv' := [(4, .ref _), (0, .ref _), (1, .int _), (2, .int _), (3, .ref _)]) hx hb dL_delivered_13 hl (by decide) rfl (fun ls hl => ?_)
    refine lv_iconst (v := nI 1) hx hb dL_delivered_15 (by decide) ?_
    refine j_iret hx hb hr hlocks hH hw dL_delivered_16 ?_
    exact ⟨_, rfl, hP_no (k := 1) (by decide) (by decide) (opQ_no he) hCD hsz hL hs9 hq9⟩

set_option maxHeartbeats 4000000 in
set_option maxRecDepth 100000 in
theorem h_setting (l : Launch) (hl0 : l.stackTraces = false) (g : jG) (z : Nat) (H0 : Heap) (A o : Nat) (what : Int32) (tx : List Nat) (σ : Sg) (hi : List Sg) (sv : Nat → Option Sg) (fo : Nat → Int64) (hz : z ≤ A) (hzo : z ≤ o) (ho : o < A ∨ A + 223 ≤ o) (hsz : A + 223 ≤ H0.size) (hCD : CD g H0 A tx σ hi sv) (hL : jL g H0 o 1 fo) : jMH l g z yL_setting wsL_setting 7 103 [.ref A, .int what, .ref o] H0 (jN (fun r H1 => hP g H0 H1 A o (opQ (fSetting σ what) (tx, σ, hi, sv)) r)) := by
  refine j_ofH (cc := cL_setting) (n := 4) (ret := some .int) (by decide) rfl (Nat.le_of_ble_eq_true rfl) ?_
  intro p e s m below meth c hx hb hr hml hown hts hlocks hname hH hw hE hex ls hl
  have hl : lv_has ls 4 [(0, .ref A), (1, .int what), (2, .ref o)] := hl
  refine lv_aload_n hx hb dL_setting_0 rfl (lv_at hl 2 rfl) ?_
  refine lv_iconst (v := nI 0) hx hb dL_setting_1 (by decide) ?_
  refine lv_aload_n hx hb dL_setting_2 rfl (lv_at hl 0 rfl) ?_
  refine lv_iload_n hx hb dL_setting_3 rfl (lv_at hl 1 rfl) ?_
  refine j_VX (n := 1) (As := [.int what]) (rest := [.int (nI 0), .ref o]) hx hb hml hown hts hw hE (hCD.rec9 hw) (c_X4_setting l hl0 g z H0 A what tx σ hi sv hz hCD ) gL_setting_X4_setting rfl (by decide +kernel) ⟨Nat.le_of_ble_eq_true rfl, Nat.le_of_ble_eq_true rfl⟩ rfl hl.1 (Nat.le_of_ble_eq_true rfl) ⟨Nat.le_of_ble_eq_true rfl, Nat.le_of_ble_eq_true rfl⟩ dL_setting_4 (fun r H locs hp hw => ?_) (fun E ce q9 H locs hp hs9 hq9 hw hce hcv hcl => ?_) rfl
  · obtain ⟨he, hC, hf⟩ := hp
    have hL := hL.kept (hf.2 o ho)
    refine lv_i2l hx hb dL_setting_7 rfl ?_
    refine j_last hx hb hw hL hzo (k := 0) rfl (by decide) (by decide) dL_setting_8 (fun H2 locs hw hL oq hsz2 => ?_)
    refine lv_goto (tgt := 15) hx hb dL_setting_9 (by decide) ?_
    refine lv_iconst (v := nI 0) hx hb dL_setting_15 (by decide) ?_
    refine j_iret hx hb hr hlocks hH hw dL_setting_16 ?_
    exact ⟨_, rfl, hP_ok (opQ_ok he) hC hf ho hL oq hsz2⟩
  · obtain ⟨he, rfl⟩ := hp
    refine vx_catch (own := RL) (name := "java/lang/IllegalArgumentException") hown [] ⟨0, 9, 12, 13⟩ [] (hex.trans rfl) (fun _ h => absurd h List.not_mem_nil) (by decide) (by decide) (hts (.classLink RL 13 "java/lang/IllegalArgumentException") (by decide +kernel)) (va_Nw.use rfl (hE.1 "java/lang/IllegalArgumentException" (by decide +kernel))) hce hcv hcl ?_
    refine lv_astore_n (lv' := [(3, .ref _), (0, .ref _), (1, .int _), (2, .ref _)]) hx hb dL_setting_12 rfl hl (by decide) rfl (fun ls hl => ?_)
    refine lv_iconst (v := nI 1) hx hb dL_setting_13 (by decide) ?_
    refine j_iret hx hb hr hlocks hH hw dL_setting_14 ?_
    exact ⟨_, rfl, hP_no (k := 1) (by decide) (by decide) (opQ_no he) hCD hsz hL hs9 hq9⟩

set_option maxHeartbeats 4000000 in
set_option maxRecDepth 100000 in
theorem h_ask (l : Launch) (hl0 : l.stackTraces = false) (g : jG) (z : Nat) (H0 : Heap) (A o : Nat) (ac : Int32) (al : Int32) (ai : Int32) (af : Int32) (tx : List Nat) (σ : Sg) (hi : List Sg) (sv : Nat → Option Sg) (fo : Nat → Int64) (hz : z ≤ A) (hzo : z ≤ o) (ho : o < A ∨ A + 223 ≤ o) (hsz : A + 223 ≤ H0.size) (hCD : CD g H0 A tx σ hi sv) (hL : jL g H0 o 1 fo) : jMH l g z yL_ask wsL_ask 7 168 [.ref A, .int ac, .int al, .int ai, .int af, .ref o] H0 (jN (fun r H1 => hP g H0 H1 A o (opA (fAsk σ ac al ai af) (tx, σ, hi, sv)) r)) := by
  refine j_ofH (cc := cL_ask) (n := 7) (ret := some .int) (by decide) rfl (Nat.le_of_ble_eq_true rfl) ?_
  intro p e s m below meth c hx hb hr hml hown hts hlocks hname hH hw hE hex ls hl
  have hl : lv_has ls 7 [(0, .ref A), (1, .int ac), (2, .int al), (3, .int ai), (4, .int af), (5, .ref o)] := hl
  refine lv_aload hx hb dL_ask_0 (lv_at hl 5 rfl) ?_
  refine lv_iconst (v := nI 0) hx hb dL_ask_2 (by decide) ?_
  refine lv_aload_n hx hb dL_ask_3 rfl (lv_at hl 0 rfl) ?_
  refine lv_iload_n hx hb dL_ask_4 rfl (lv_at hl 1 rfl) ?_
  refine lv_iload_n hx hb dL_ask_5 rfl (lv_at hl 2 rfl) ?_
  refine lv_iload_n hx hb dL_ask_6 rfl (lv_at hl 3 rfl) ?_
  refine lv_iload hx hb dL_ask_7 (lv_at hl 4 rfl) ?_
  refine j_VX (n := 4) (As := [.int ac, .int al, .int ai, .int af]) (rest := [.int (nI 0), .ref o]) hx hb hml hown hts hw hE (hCD.rec9 hw) (c_X4_ask l hl0 g z H0 A ac al ai af tx σ hi sv hz hCD ) gL_ask_X4_ask rfl (by decide +kernel) ⟨Nat.le_of_ble_eq_true rfl, Nat.le_of_ble_eq_true rfl⟩ rfl hl.1 (Nat.le_of_ble_eq_true rfl) ⟨Nat.le_of_ble_eq_true rfl, Nat.le_of_ble_eq_true rfl⟩ dL_ask_9 (fun r H locs hp hw => ?_) (fun E ce q9 H locs hp hs9 hq9 hw hce hcv hcl => ?_) rfl
  · obtain ⟨he, hC, hf⟩ := hp
    have hL := hL.kept (hf.2 o ho)
    refine lv_i2l hx hb dL_ask_12 rfl ?_
    refine j_last hx hb hw hL hzo (k := 0) rfl (by decide) (by decide) dL_ask_13 (fun H2 locs hw hL oq hsz2 => ?_)
    refine lv_goto (tgt := 29) hx hb dL_ask_14 (by decide) ?_
    refine lv_iconst (v := nI 0) hx hb dL_ask_29 (by decide) ?_
    refine j_iret hx hb hr hlocks hH hw dL_ask_30 ?_
    exact ⟨_, rfl, hP_ok (opA_ok he) hC hf ho hL oq hsz2⟩
  · rcases hp with ⟨he, rfl⟩ | ⟨he, rfl⟩ | ⟨he, rfl⟩
    · refine vx_catch (own := RL) (name := "java/lang/IndexOutOfBoundsException") hown [] ⟨0, 14, 17, 28⟩ [⟨0, 14, 21, 13⟩, ⟨0, 14, 25, 15⟩] (hex.trans rfl) (fun _ h => absurd h List.not_mem_nil) (by decide) (by decide) (hts (.classLink RL 28 "java/lang/IndexOutOfBoundsException") (by decide +kernel)) (va_Nw.use rfl (hE.1 "java/lang/IndexOutOfBoundsException" (by decide +kernel))) hce hcv hcl ?_
      refine lv_astore (lv' := [(6, .ref _), (0, .ref _), (1, .int _), (2, .int _), (3, .int _), (4, .int _), (5, .ref _)]) hx hb dL_ask_17 hl (by decide) rfl (fun ls hl => ?_)
      refine lv_iconst (v := nI 1) hx hb dL_ask_19 (by decide) ?_
      refine j_iret hx hb hr hlocks hH hw dL_ask_20 ?_
      exact ⟨_, rfl, hP_no (k := 1) (by decide) (by decide) (opA_no (by decide) he) hCD hsz hL hs9 hq9⟩
    · refine vx_catch (own := RL) (name := "java/lang/IllegalArgumentException") hown [⟨0, 14, 17, 28⟩] ⟨0, 14, 21, 13⟩ [⟨0, 14, 25, 15⟩] (hex.trans rfl) (List.forall_mem_cons.mpr ⟨Or.inr ⟨by decide, "java/lang/IndexOutOfBoundsException", hts (.classLink RL 28 "java/lang/IndexOutOfBoundsException") (by decide +kernel), hE.2.1 ("java/lang/IllegalArgumentException", "java/lang/IndexOutOfBoundsException") (by decide +kernel)⟩, fun _ h => absurd h List.not_mem_nil⟩) (by decide) (by decide) (hts (.classLink RL 13 "java/lang/IllegalArgumentException") (by decide +kernel)) (va_Nw.use rfl (hE.1 "java/lang/IllegalArgumentException" (by decide +kernel))) hce hcv hcl ?_
      refine lv_astore (lv' := [(6, .ref _), (0, .ref _), (1, .int _), (2, .int _), (3, .int _), (4, .int _), (5, .ref _)]) hx hb dL_ask_21 hl (by decide) rfl (fun ls hl => ?_)
      refine lv_iconst (v := nI 2) hx hb dL_ask_23 (by decide) ?_
      refine j_iret hx hb hr hlocks hH hw dL_ask_24 ?_
      exact ⟨_, rfl, hP_no (k := 2) (by decide) (by decide) (opA_no (by decide) he) hCD hsz hL hs9 hq9⟩
    · refine vx_catch (own := RL) (name := "java/lang/IllegalStateException") hown [⟨0, 14, 17, 28⟩, ⟨0, 14, 21, 13⟩] ⟨0, 14, 25, 15⟩ [] (hex.trans rfl) (List.forall_mem_cons.mpr ⟨Or.inr ⟨by decide, "java/lang/IndexOutOfBoundsException", hts (.classLink RL 28 "java/lang/IndexOutOfBoundsException") (by decide +kernel), hE.2.1 ("java/lang/IllegalStateException", "java/lang/IndexOutOfBoundsException") (by decide +kernel)⟩, List.forall_mem_cons.mpr ⟨Or.inr ⟨by decide, "java/lang/IllegalArgumentException", hts (.classLink RL 13 "java/lang/IllegalArgumentException") (by decide +kernel), hE.2.1 ("java/lang/IllegalStateException", "java/lang/IllegalArgumentException") (by decide +kernel)⟩, fun _ h => absurd h List.not_mem_nil⟩⟩) (by decide) (by decide) (hts (.classLink RL 15 "java/lang/IllegalStateException") (by decide +kernel)) (va_Nw.use rfl (hE.1 "java/lang/IllegalStateException" (by decide +kernel))) hce hcv hcl ?_
      refine lv_astore (lv' := [(6, .ref _), (0, .ref _), (1, .int _), (2, .int _), (3, .int _), (4, .int _), (5, .ref _)]) hx hb dL_ask_25 hl (by decide) rfl (fun ls hl => ?_)
      refine lv_iconst (v := nI 3) hx hb dL_ask_27 (by decide) ?_
      refine j_iret hx hb hr hlocks hH hw dL_ask_28 ?_
      exact ⟨_, rfl, hP_no (k := 3) (by decide) (by decide) (opA_no (by decide) he) hCD hsz hL hs9 hq9⟩

set_option maxHeartbeats 4000000 in
set_option maxRecDepth 100000 in
theorem h_cancel (l : Launch) (hl0 : l.stackTraces = false) (g : jG) (z : Nat) (H0 : Heap) (A o : Nat) (i : Int32) (tx : List Nat) (σ : Sg) (hi : List Sg) (sv : Nat → Option Sg) (fo : Nat → Int64) (hz : z ≤ A) (hzo : z ≤ o) (ho : o < A ∨ A + 223 ≤ o) (hsz : A + 223 ≤ H0.size) (hCD : CD g H0 A tx σ hi sv) (hL : jL g H0 o 1 fo) : jMH l g z yL_cancel wsL_cancel 7 165 [.ref A, .int i, .ref o] H0 (jN (fun r H1 => hP g H0 H1 A o (opA (fCancel σ i) (tx, σ, hi, sv)) r)) := by
  refine j_ofH (cc := cL_cancel) (n := 4) (ret := some .int) (by decide) rfl (Nat.le_of_ble_eq_true rfl) ?_
  intro p e s m below meth c hx hb hr hml hown hts hlocks hname hH hw hE hex ls hl
  have hl : lv_has ls 4 [(0, .ref A), (1, .int i), (2, .ref o)] := hl
  refine lv_aload_n hx hb dL_cancel_0 rfl (lv_at hl 2 rfl) ?_
  refine lv_iconst (v := nI 0) hx hb dL_cancel_1 (by decide) ?_
  refine lv_aload_n hx hb dL_cancel_2 rfl (lv_at hl 0 rfl) ?_
  refine lv_iload_n hx hb dL_cancel_3 rfl (lv_at hl 1 rfl) ?_
  refine j_VX (n := 1) (As := [.int i]) (rest := [.int (nI 0), .ref o]) hx hb hml hown hts hw hE (hCD.rec9 hw) (c_X4_cancel l hl0 g z H0 A i tx σ hi sv hz hCD ) gL_cancel_X4_cancel rfl (by decide +kernel) ⟨Nat.le_of_ble_eq_true rfl, Nat.le_of_ble_eq_true rfl⟩ rfl hl.1 (Nat.le_of_ble_eq_true rfl) ⟨Nat.le_of_ble_eq_true rfl, Nat.le_of_ble_eq_true rfl⟩ dL_cancel_4 (fun r H locs hp hw => ?_) (fun E ce q9 H locs hp hs9 hq9 hw hce hcv hcl => ?_) rfl
  · obtain ⟨he, hC, hf⟩ := hp
    have hL := hL.kept (hf.2 o ho)
    refine lv_i2l hx hb dL_cancel_7 rfl ?_
    refine j_last hx hb hw hL hzo (k := 0) rfl (by decide) (by decide) dL_cancel_8 (fun H2 locs hw hL oq hsz2 => ?_)
    refine lv_goto (tgt := 15) hx hb dL_cancel_9 (by decide) ?_
    refine lv_iconst (v := nI 0) hx hb dL_cancel_15 (by decide) ?_
    refine j_iret hx hb hr hlocks hH hw dL_cancel_16 ?_
    exact ⟨_, rfl, hP_ok (opA_ok he) hC hf ho hL oq hsz2⟩
  · obtain ⟨he, rfl⟩ := hp
    refine vx_catch (own := RL) (name := "java/lang/IndexOutOfBoundsException") hown [] ⟨0, 9, 12, 28⟩ [] (hex.trans rfl) (fun _ h => absurd h List.not_mem_nil) (by decide) (by decide) (hts (.classLink RL 28 "java/lang/IndexOutOfBoundsException") (by decide +kernel)) (va_Nw.use rfl (hE.1 "java/lang/IndexOutOfBoundsException" (by decide +kernel))) hce hcv hcl ?_
    refine lv_astore_n (lv' := [(3, .ref _), (0, .ref _), (1, .int _), (2, .ref _)]) hx hb dL_cancel_12 rfl hl (by decide) rfl (fun ls hl => ?_)
    refine lv_iconst (v := nI 1) hx hb dL_cancel_13 (by decide) ?_
    refine j_iret hx hb hr hlocks hH hw dL_cancel_14 ?_
    exact ⟨_, rfl, hP_no (k := 1) (by decide) (by decide) (opA_no (by decide) he) hCD hsz hL hs9 hq9⟩

set_option maxHeartbeats 4000000 in
set_option maxRecDepth 100000 in
theorem h_raise (l : Launch) (hl0 : l.stackTraces = false) (g : jG) (z : Nat) (H0 : Heap) (A o : Nat) (i : Int32) (y : Int32) (tx : List Nat) (σ : Sg) (hi : List Sg) (sv : Nat → Option Sg) (fo : Nat → Int64) (hz : z ≤ A) (hzo : z ≤ o) (ho : o < A ∨ A + 223 ≤ o) (hsz : A + 223 ≤ H0.size) (hCD : CD g H0 A tx σ hi sv) (hL : jL g H0 o 1 fo) : jMH l g z yL_raise wsL_raise 7 166 [.ref A, .int i, .int y, .ref o] H0 (jN (fun r H1 => hP g H0 H1 A o (opA (fRaise σ i y) (tx, σ, hi, sv)) r)) := by
  refine j_ofH (cc := cL_raise) (n := 5) (ret := some .int) (by decide) rfl (Nat.le_of_ble_eq_true rfl) ?_
  intro p e s m below meth c hx hb hr hml hown hts hlocks hname hH hw hE hex ls hl
  have hl : lv_has ls 5 [(0, .ref A), (1, .int i), (2, .int y), (3, .ref o)] := hl
  refine lv_aload_n hx hb dL_raise_0 rfl (lv_at hl 3 rfl) ?_
  refine lv_iconst (v := nI 0) hx hb dL_raise_1 (by decide) ?_
  refine lv_aload_n hx hb dL_raise_2 rfl (lv_at hl 0 rfl) ?_
  refine lv_iload_n hx hb dL_raise_3 rfl (lv_at hl 1 rfl) ?_
  refine lv_iload_n hx hb dL_raise_4 rfl (lv_at hl 2 rfl) ?_
  refine j_VX (n := 2) (As := [.int i, .int y]) (rest := [.int (nI 0), .ref o]) hx hb hml hown hts hw hE (hCD.rec9 hw) (c_X4_raise l hl0 g z H0 A i y tx σ hi sv hz hCD ) gL_raise_X4_raise rfl (by decide +kernel) ⟨Nat.le_of_ble_eq_true rfl, Nat.le_of_ble_eq_true rfl⟩ rfl hl.1 (Nat.le_of_ble_eq_true rfl) ⟨Nat.le_of_ble_eq_true rfl, Nat.le_of_ble_eq_true rfl⟩ dL_raise_5 (fun r H locs hp hw => ?_) (fun E ce q9 H locs hp hs9 hq9 hw hce hcv hcl => ?_) rfl
  · obtain ⟨he, hC, hf⟩ := hp
    have hL := hL.kept (hf.2 o ho)
    refine lv_i2l hx hb dL_raise_8 rfl ?_
    refine j_last hx hb hw hL hzo (k := 0) rfl (by decide) (by decide) dL_raise_9 (fun H2 locs hw hL oq hsz2 => ?_)
    refine lv_goto (tgt := 25) hx hb dL_raise_10 (by decide) ?_
    refine lv_iconst (v := nI 0) hx hb dL_raise_25 (by decide) ?_
    refine j_iret hx hb hr hlocks hH hw dL_raise_26 ?_
    exact ⟨_, rfl, hP_ok (opA_ok he) hC hf ho hL oq hsz2⟩
  · rcases hp with ⟨he, rfl⟩ | ⟨he, rfl⟩ | ⟨he, rfl⟩
    · refine vx_catch (own := RL) (name := "java/lang/IndexOutOfBoundsException") hown [] ⟨0, 10, 13, 28⟩ [⟨0, 10, 17, 13⟩, ⟨0, 10, 21, 15⟩] (hex.trans rfl) (fun _ h => absurd h List.not_mem_nil) (by decide) (by decide) (hts (.classLink RL 28 "java/lang/IndexOutOfBoundsException") (by decide +kernel)) (va_Nw.use rfl (hE.1 "java/lang/IndexOutOfBoundsException" (by decide +kernel))) hce hcv hcl ?_
      refine lv_astore (lv' := [(4, .ref _), (0, .ref _), (1, .int _), (2, .int _), (3, .ref _)]) hx hb dL_raise_13 hl (by decide) rfl (fun ls hl => ?_)
      refine lv_iconst (v := nI 1) hx hb dL_raise_15 (by decide) ?_
      refine j_iret hx hb hr hlocks hH hw dL_raise_16 ?_
      exact ⟨_, rfl, hP_no (k := 1) (by decide) (by decide) (opA_no (by decide) he) hCD hsz hL hs9 hq9⟩
    · refine vx_catch (own := RL) (name := "java/lang/IllegalArgumentException") hown [⟨0, 10, 13, 28⟩] ⟨0, 10, 17, 13⟩ [⟨0, 10, 21, 15⟩] (hex.trans rfl) (List.forall_mem_cons.mpr ⟨Or.inr ⟨by decide, "java/lang/IndexOutOfBoundsException", hts (.classLink RL 28 "java/lang/IndexOutOfBoundsException") (by decide +kernel), hE.2.1 ("java/lang/IllegalArgumentException", "java/lang/IndexOutOfBoundsException") (by decide +kernel)⟩, fun _ h => absurd h List.not_mem_nil⟩) (by decide) (by decide) (hts (.classLink RL 13 "java/lang/IllegalArgumentException") (by decide +kernel)) (va_Nw.use rfl (hE.1 "java/lang/IllegalArgumentException" (by decide +kernel))) hce hcv hcl ?_
      refine lv_astore (lv' := [(4, .ref _), (0, .ref _), (1, .int _), (2, .int _), (3, .ref _)]) hx hb dL_raise_17 hl (by decide) rfl (fun ls hl => ?_)
      refine lv_iconst (v := nI 2) hx hb dL_raise_19 (by decide) ?_
      refine j_iret hx hb hr hlocks hH hw dL_raise_20 ?_
      exact ⟨_, rfl, hP_no (k := 2) (by decide) (by decide) (opA_no (by decide) he) hCD hsz hL hs9 hq9⟩
    · refine vx_catch (own := RL) (name := "java/lang/IllegalStateException") hown [⟨0, 10, 13, 28⟩, ⟨0, 10, 17, 13⟩] ⟨0, 10, 21, 15⟩ [] (hex.trans rfl) (List.forall_mem_cons.mpr ⟨Or.inr ⟨by decide, "java/lang/IndexOutOfBoundsException", hts (.classLink RL 28 "java/lang/IndexOutOfBoundsException") (by decide +kernel), hE.2.1 ("java/lang/IllegalStateException", "java/lang/IndexOutOfBoundsException") (by decide +kernel)⟩, List.forall_mem_cons.mpr ⟨Or.inr ⟨by decide, "java/lang/IllegalArgumentException", hts (.classLink RL 13 "java/lang/IllegalArgumentException") (by decide +kernel), hE.2.1 ("java/lang/IllegalStateException", "java/lang/IllegalArgumentException") (by decide +kernel)⟩, fun _ h => absurd h List.not_mem_nil⟩⟩) (by decide) (by decide) (hts (.classLink RL 15 "java/lang/IllegalStateException") (by decide +kernel)) (va_Nw.use rfl (hE.1 "java/lang/IllegalStateException" (by decide +kernel))) hce hcv hcl ?_
      refine lv_astore (lv' := [(4, .ref _), (0, .ref _), (1, .int _), (2, .int _), (3, .ref _)]) hx hb dL_raise_21 hl (by decide) rfl (fun ls hl => ?_)
      refine lv_iconst (v := nI 3) hx hb dL_raise_23 (by decide) ?_
      refine j_iret hx hb hr hlocks hH hw dL_raise_24 ?_
      exact ⟨_, rfl, hP_no (k := 3) (by decide) (by decide) (opA_no (by decide) he) hCD hsz hL hs9 hq9⟩

set_option maxHeartbeats 4000000 in
set_option maxRecDepth 100000 in
theorem h_nights (l : Launch) (hl0 : l.stackTraces = false) (g : jG) (z : Nat) (H0 : Heap) (A o : Nat) (n : Int32) (tx : List Nat) (σ : Sg) (hi : List Sg) (sv : Nat → Option Sg) (fo : Nat → Int64) (K : Nat) (hlim : lim K σ) (hK : K < 2 ^ 29) (hz : z ≤ A) (hzo : z ≤ o) (ho : o < A ∨ A + 223 ≤ o) (hsz : A + 223 ≤ H0.size) (hCD : CD g H0 A tx σ hi sv) (hL : jL g H0 o 1 fo) : jMH l g z yL_nights wsL_nights 8 196 [.ref A, .int n, .ref o] H0 (jN (fun r H1 => hP g H0 H1 A o (opA (fNights σ n) (tx, σ, hi, sv)) r)) := by
  refine j_ofH (cc := cL_nights) (n := 4) (ret := some .int) (by decide) rfl (Nat.le_of_ble_eq_true rfl) ?_
  intro p e s m below meth c hx hb hr hml hown hts hlocks hname hH hw hE hex ls hl
  have hl : lv_has ls 4 [(0, .ref A), (1, .int n), (2, .ref o)] := hl
  refine lv_aload_n hx hb dL_nights_0 rfl (lv_at hl 2 rfl) ?_
  refine lv_iconst (v := nI 0) hx hb dL_nights_1 (by decide) ?_
  refine lv_aload_n hx hb dL_nights_2 rfl (lv_at hl 0 rfl) ?_
  refine lv_iload_n hx hb dL_nights_3 rfl (lv_at hl 1 rfl) ?_
  refine j_VX (n := 1) (As := [.int n]) (rest := [.int (nI 0), .ref o]) hx hb hml hown hts hw hE (hCD.rec9 hw) (c_X4_nights l hl0 g z H0 A n tx σ hi sv K hz hCD hlim hK) gL_nights_X4_nights rfl (by decide +kernel) ⟨Nat.le_of_ble_eq_true rfl, Nat.le_of_ble_eq_true rfl⟩ rfl hl.1 (Nat.le_of_ble_eq_true rfl) ⟨Nat.le_of_ble_eq_true rfl, Nat.le_of_ble_eq_true rfl⟩ dL_nights_4 (fun r H locs hp hw => ?_) (fun E ce q9 H locs hp hs9 hq9 hw hce hcv hcl => ?_) rfl
  · obtain ⟨he, hC, hf⟩ := hp
    have hL := hL.kept (hf.2 o ho)
    refine lv_i2l hx hb dL_nights_7 rfl ?_
    refine j_last hx hb hw hL hzo (k := 0) rfl (by decide) (by decide) dL_nights_8 (fun H2 locs hw hL oq hsz2 => ?_)
    refine lv_goto (tgt := 15) hx hb dL_nights_9 (by decide) ?_
    refine lv_iconst (v := nI 0) hx hb dL_nights_15 (by decide) ?_
    refine j_iret hx hb hr hlocks hH hw dL_nights_16 ?_
    exact ⟨_, rfl, hP_ok (opA_ok he) hC hf ho hL oq hsz2⟩
  · obtain ⟨he, rfl⟩ := hp
    refine vx_catch (own := RL) (name := "java/lang/IllegalArgumentException") hown [] ⟨0, 9, 12, 13⟩ [] (hex.trans rfl) (fun _ h => absurd h List.not_mem_nil) (by decide) (by decide) (hts (.classLink RL 13 "java/lang/IllegalArgumentException") (by decide +kernel)) (va_Nw.use rfl (hE.1 "java/lang/IllegalArgumentException" (by decide +kernel))) hce hcv hcl ?_
    refine lv_astore_n (lv' := [(3, .ref _), (0, .ref _), (1, .int _), (2, .ref _)]) hx hb dL_nights_12 rfl hl (by decide) rfl (fun ls hl => ?_)
    refine lv_iconst (v := nI 1) hx hb dL_nights_13 (by decide) ?_
    refine j_iret hx hb hr hlocks hH hw dL_nights_14 ?_
    exact ⟨_, rfl, hP_no (k := 1) (by decide) (by decide) (opA_no (by decide) he) hCD hsz hL hs9 hq9⟩

set_option maxHeartbeats 4000000 in
set_option maxRecDepth 100000 in
theorem h_give (l : Launch) (hl0 : l.stackTraces = false) (g : jG) (z : Nat) (H0 : Heap) (A o : Nat) (cu : Int32) (v : Int32) (tx : List Nat) (σ : Sg) (hi : List Sg) (sv : Nat → Option Sg) (fo : Nat → Int64) (hz : z ≤ A) (hzo : z ≤ o) (ho : o < A ∨ A + 223 ≤ o) (hsz : A + 223 ≤ H0.size) (hCD : CD g H0 A tx σ hi sv) (hL : jL g H0 o 1 fo) : jMH l g z yL_give wsL_give 7 166 [.ref A, .int cu, .int v, .ref o] H0 (jN (fun r H1 => hP g H0 H1 A o (opA (fGive σ cu v) (tx, σ, hi, sv)) r)) := by
  refine j_ofH (cc := cL_give) (n := 5) (ret := some .int) (by decide) rfl (Nat.le_of_ble_eq_true rfl) ?_
  intro p e s m below meth c hx hb hr hml hown hts hlocks hname hH hw hE hex ls hl
  have hl : lv_has ls 5 [(0, .ref A), (1, .int cu), (2, .int v), (3, .ref o)] := hl
  refine lv_aload_n hx hb dL_give_0 rfl (lv_at hl 3 rfl) ?_
  refine lv_iconst (v := nI 0) hx hb dL_give_1 (by decide) ?_
  refine lv_aload_n hx hb dL_give_2 rfl (lv_at hl 0 rfl) ?_
  refine lv_iload_n hx hb dL_give_3 rfl (lv_at hl 1 rfl) ?_
  refine lv_iload_n hx hb dL_give_4 rfl (lv_at hl 2 rfl) ?_
  refine j_VX (n := 2) (As := [.int cu, .int v]) (rest := [.int (nI 0), .ref o]) hx hb hml hown hts hw hE (hCD.rec9 hw) (c_X4_give l hl0 g z H0 A cu v tx σ hi sv hz hCD ) gL_give_X4_give rfl (by decide +kernel) ⟨Nat.le_of_ble_eq_true rfl, Nat.le_of_ble_eq_true rfl⟩ rfl hl.1 (Nat.le_of_ble_eq_true rfl) ⟨Nat.le_of_ble_eq_true rfl, Nat.le_of_ble_eq_true rfl⟩ dL_give_5 (fun r H locs hp hw => ?_) (fun E ce q9 H locs hp hs9 hq9 hw hce hcv hcl => ?_) rfl
  · obtain ⟨he, hC, hf⟩ := hp
    have hL := hL.kept (hf.2 o ho)
    refine lv_i2l hx hb dL_give_8 rfl ?_
    refine j_last hx hb hw hL hzo (k := 0) rfl (by decide) (by decide) dL_give_9 (fun H2 locs hw hL oq hsz2 => ?_)
    refine lv_goto (tgt := 21) hx hb dL_give_10 (by decide) ?_
    refine lv_iconst (v := nI 0) hx hb dL_give_21 (by decide) ?_
    refine j_iret hx hb hr hlocks hH hw dL_give_22 ?_
    exact ⟨_, rfl, hP_ok (opA_ok he) hC hf ho hL oq hsz2⟩
  · rcases hp with ⟨he, rfl⟩ | ⟨he, rfl⟩
    · refine vx_catch (own := RL) (name := "java/lang/IndexOutOfBoundsException") hown [] ⟨0, 10, 13, 28⟩ [⟨0, 10, 17, 13⟩] (hex.trans rfl) (fun _ h => absurd h List.not_mem_nil) (by decide) (by decide) (hts (.classLink RL 28 "java/lang/IndexOutOfBoundsException") (by decide +kernel)) (va_Nw.use rfl (hE.1 "java/lang/IndexOutOfBoundsException" (by decide +kernel))) hce hcv hcl ?_
      refine lv_astore (lv' := [(4, .ref _), (0, .ref _), (1, .int _), (2, .int _), (3, .ref _)]) hx hb dL_give_13 hl (by decide) rfl (fun ls hl => ?_)
      refine lv_iconst (v := nI 1) hx hb dL_give_15 (by decide) ?_
      refine j_iret hx hb hr hlocks hH hw dL_give_16 ?_
      exact ⟨_, rfl, hP_no (k := 1) (by decide) (by decide) (opA_no (by decide) he) hCD hsz hL hs9 hq9⟩
    · refine vx_catch (own := RL) (name := "java/lang/IllegalArgumentException") hown [⟨0, 10, 13, 28⟩] ⟨0, 10, 17, 13⟩ [] (hex.trans rfl) (List.forall_mem_cons.mpr ⟨Or.inr ⟨by decide, "java/lang/IndexOutOfBoundsException", hts (.classLink RL 28 "java/lang/IndexOutOfBoundsException") (by decide +kernel), hE.2.1 ("java/lang/IllegalArgumentException", "java/lang/IndexOutOfBoundsException") (by decide +kernel)⟩, fun _ h => absurd h List.not_mem_nil⟩) (by decide) (by decide) (hts (.classLink RL 13 "java/lang/IllegalArgumentException") (by decide +kernel)) (va_Nw.use rfl (hE.1 "java/lang/IllegalArgumentException" (by decide +kernel))) hce hcv hcl ?_
      refine lv_astore (lv' := [(4, .ref _), (0, .ref _), (1, .int _), (2, .int _), (3, .ref _)]) hx hb dL_give_17 hl (by decide) rfl (fun ls hl => ?_)
      refine lv_iconst (v := nI 2) hx hb dL_give_19 (by decide) ?_
      refine j_iret hx hb hr hlocks hH hw dL_give_20 ?_
      exact ⟨_, rfl, hP_no (k := 2) (by decide) (by decide) (opA_no (by decide) he) hCD hsz hL hs9 hq9⟩

set_option maxHeartbeats 4000000 in
set_option maxRecDepth 100000 in
theorem h_set (l : Launch) (hl0 : l.stackTraces = false) (g : jG) (z : Nat) (H0 : Heap) (A o : Nat) (what : Int32) (v : Int32) (tx : List Nat) (σ : Sg) (hi : List Sg) (sv : Nat → Option Sg) (fo : Nat → Int64) (hz : z ≤ A) (hzo : z ≤ o) (ho : o < A ∨ A + 223 ≤ o) (hsz : A + 223 ≤ H0.size) (hCD : CD g H0 A tx σ hi sv) (hL : jL g H0 o 1 fo) : jMH l g z yL_set wsL_set 7 167 [.ref A, .int what, .int v, .ref o] H0 (jN (fun r H1 => hP g H0 H1 A o (opA (fSet σ what v) (tx, σ, hi, sv)) r)) := by
  refine j_ofH (cc := cL_set) (n := 5) (ret := some .int) (by decide) rfl (Nat.le_of_ble_eq_true rfl) ?_
  intro p e s m below meth c hx hb hr hml hown hts hlocks hname hH hw hE hex ls hl
  have hl : lv_has ls 5 [(0, .ref A), (1, .int what), (2, .int v), (3, .ref o)] := hl
  refine lv_aload_n hx hb dL_set_0 rfl (lv_at hl 3 rfl) ?_
  refine lv_iconst (v := nI 0) hx hb dL_set_1 (by decide) ?_
  refine lv_aload_n hx hb dL_set_2 rfl (lv_at hl 0 rfl) ?_
  refine lv_iload_n hx hb dL_set_3 rfl (lv_at hl 1 rfl) ?_
  refine lv_iload_n hx hb dL_set_4 rfl (lv_at hl 2 rfl) ?_
  refine j_VX (n := 2) (As := [.int what, .int v]) (rest := [.int (nI 0), .ref o]) hx hb hml hown hts hw hE (hCD.rec9 hw) (c_X4_set l hl0 g z H0 A what v tx σ hi sv hz hCD ) gL_set_X4_set rfl (by decide +kernel) ⟨Nat.le_of_ble_eq_true rfl, Nat.le_of_ble_eq_true rfl⟩ rfl hl.1 (Nat.le_of_ble_eq_true rfl) ⟨Nat.le_of_ble_eq_true rfl, Nat.le_of_ble_eq_true rfl⟩ dL_set_5 (fun r H locs hp hw => ?_) (fun E ce q9 H locs hp hs9 hq9 hw hce hcv hcl => ?_) rfl
  · obtain ⟨he, hC, hf⟩ := hp
    have hL := hL.kept (hf.2 o ho)
    refine lv_i2l hx hb dL_set_8 rfl ?_
    refine j_last hx hb hw hL hzo (k := 0) rfl (by decide) (by decide) dL_set_9 (fun H2 locs hw hL oq hsz2 => ?_)
    refine lv_goto (tgt := 17) hx hb dL_set_10 (by decide) ?_
    refine lv_iconst (v := nI 0) hx hb dL_set_17 (by decide) ?_
    refine j_iret hx hb hr hlocks hH hw dL_set_18 ?_
    exact ⟨_, rfl, hP_ok (opA_ok he) hC hf ho hL oq hsz2⟩
  · obtain ⟨he, rfl⟩ := hp
    refine vx_catch (own := RL) (name := "java/lang/IllegalArgumentException") hown [] ⟨0, 10, 13, 13⟩ [] (hex.trans rfl) (fun _ h => absurd h List.not_mem_nil) (by decide) (by decide) (hts (.classLink RL 13 "java/lang/IllegalArgumentException") (by decide +kernel)) (va_Nw.use rfl (hE.1 "java/lang/IllegalArgumentException" (by decide +kernel))) hce hcv hcl ?_
    refine lv_astore (lv' := [(4, .ref _), (0, .ref _), (1, .int _), (2, .int _), (3, .ref _)]) hx hb dL_set_13 hl (by decide) rfl (fun ls hl => ?_)
    refine lv_iconst (v := nI 1) hx hb dL_set_15 (by decide) ?_
    refine j_iret hx hb hr hlocks hH hw dL_set_16 ?_
    exact ⟨_, rfl, hP_no (k := 1) (by decide) (by decide) (opA_no (by decide) he) hCD hsz hL hs9 hq9⟩

set_option maxHeartbeats 4000000 in
set_option maxRecDepth 100000 in
theorem h_undo (l : Launch) (hl0 : l.stackTraces = false) (g : jG) (z : Nat) (H0 : Heap) (A o : Nat)  (tx : List Nat) (σ : Sg) (hi : List Sg) (sv : Nat → Option Sg) (fo : Nat → Int64) (hz : z ≤ A) (hzo : z ≤ o) (ho : o < A ∨ A + 223 ≤ o) (hsz : A + 223 ≤ H0.size) (hCD : CD g H0 A tx σ hi sv) (hL : jL g H0 o 1 fo) : jMH l g z yL_undo wsL_undo 7 164 [.ref A, .ref o] H0 (jN (fun r H1 => hP g H0 H1 A o (opU (tx, σ, hi, sv)) r)) := by
  refine j_ofH (cc := cL_undo) (n := 3) (ret := some .int) (by decide) rfl (Nat.le_of_ble_eq_true rfl) ?_
  intro p e s m below meth c hx hb hr hml hown hts hlocks hname hH hw hE hex ls hl
  have hl : lv_has ls 3 [(0, .ref A), (1, .ref o)] := hl
  refine lv_aload_n hx hb dL_undo_0 rfl (lv_at hl 1 rfl) ?_
  refine lv_iconst (v := nI 0) hx hb dL_undo_1 (by decide) ?_
  refine lv_aload_n hx hb dL_undo_2 rfl (lv_at hl 0 rfl) ?_
  refine j_VX (n := 0) (As := []) (rest := [.int (nI 0), .ref o]) hx hb hml hown hts hw hE (hCD.rec9 hw) (c_X4_undo l hl0 g z H0 A tx σ hi sv hz hCD ) gL_undo_X4_undo rfl (by decide +kernel) ⟨Nat.le_of_ble_eq_true rfl, Nat.le_of_ble_eq_true rfl⟩ rfl hl.1 (Nat.le_of_ble_eq_true rfl) ⟨Nat.le_of_ble_eq_true rfl, Nat.le_of_ble_eq_true rfl⟩ dL_undo_3 (fun r H locs hp hw => ?_) (fun E ce q9 H locs hp hs9 hq9 hw hce hcv hcl => ?_) rfl
  · obtain ⟨h9, s9, rfl, rfl, hC, hf⟩ := hp
    have hL := hL.kept (hf.2 o ho)
    refine lv_i2l hx hb dL_undo_6 rfl ?_
    refine j_last hx hb hw hL hzo (k := 0) rfl (by decide) (by decide) dL_undo_7 (fun H2 locs hw hL oq hsz2 => ?_)
    refine lv_goto (tgt := 14) hx hb dL_undo_8 (by decide) ?_
    refine lv_iconst (v := nI 0) hx hb dL_undo_14 (by decide) ?_
    refine j_iret hx hb hr hlocks hH hw dL_undo_15 ?_
    exact ⟨_, rfl, hP_ok (opU_ok) hC hf ho hL oq hsz2⟩
  · obtain ⟨rfl, rfl⟩ := hp
    refine vx_catch (own := RL) (name := "java/lang/IllegalStateException") hown [] ⟨0, 8, 11, 15⟩ [] (hex.trans rfl) (fun _ h => absurd h List.not_mem_nil) (by decide) (by decide) (hts (.classLink RL 15 "java/lang/IllegalStateException") (by decide +kernel)) (va_Nw.use rfl (hE.1 "java/lang/IllegalStateException" (by decide +kernel))) hce hcv hcl ?_
    refine lv_astore_n (lv' := [(2, .ref _), (0, .ref _), (1, .ref _)]) hx hb dL_undo_11 rfl hl (by decide) rfl (fun ls hl => ?_)
    refine lv_iconst (v := nI 1) hx hb dL_undo_12 (by decide) ?_
    refine j_iret hx hb hr hlocks hH hw dL_undo_13 ?_
    exact ⟨_, rfl, hP_no (k := 1) (by decide) (by decide) (opU_no) hCD hsz hL hs9 hq9⟩

set_option maxHeartbeats 4000000 in
set_option maxRecDepth 100000 in
theorem h_arrives (l : Launch) (hl0 : l.stackTraces = false) (g : jG) (z : Nat) (H0 : Heap) (A o : Nat) (ai : Int32) (tx : List Nat) (σ : Sg) (hi : List Sg) (sv : Nat → Option Sg) (fo : Nat → Int64) (K : Nat) (hlim : lim K σ) (hK : K < 2 ^ 29) (hflat : flat σ) (hz : z ≤ A) (hzo : z ≤ o) (ho : o < A ∨ A + 223 ≤ o) (hsz : A + 223 ≤ H0.size) (hCD : CD g H0 A tx σ hi sv) (hL : jL g H0 o 1 fo) : jMH l g z yL_arrives wsL_arrives 8 198 [.ref A, .int ai, .ref o] H0 (jN (fun r H1 => hP g H0 H1 A o (opQ (fArrives σ ai) (tx, σ, hi, sv)) r)) := by
  refine j_ofH (cc := cL_arrives) (n := 4) (ret := some .int) (by decide) rfl (Nat.le_of_ble_eq_true rfl) ?_
  intro p e s m below meth c hx hb hr hml hown hts hlocks hname hH hw hE hex ls hl
  have hl : lv_has ls 4 [(0, .ref A), (1, .int ai), (2, .ref o)] := hl
  refine lv_aload_n hx hb dL_arrives_0 rfl (lv_at hl 2 rfl) ?_
  refine lv_iconst (v := nI 0) hx hb dL_arrives_1 (by decide) ?_
  refine lv_aload_n hx hb dL_arrives_2 rfl (lv_at hl 0 rfl) ?_
  refine lv_iload_n hx hb dL_arrives_3 rfl (lv_at hl 1 rfl) ?_
  refine j_VX (n := 1) (As := [.int ai]) (rest := [.int (nI 0), .ref o]) hx hb hml hown hts hw hE (hCD.rec9 hw) (c_X4_arrives l hl0 g z H0 A ai tx σ hi sv K hz hCD hlim hK hflat) gL_arrives_X4_arrives rfl (by decide +kernel) ⟨Nat.le_of_ble_eq_true rfl, Nat.le_of_ble_eq_true rfl⟩ rfl hl.1 (Nat.le_of_ble_eq_true rfl) ⟨Nat.le_of_ble_eq_true rfl, Nat.le_of_ble_eq_true rfl⟩ dL_arrives_4 (fun r H locs hp hw => ?_) (fun E ce q9 H locs hp hs9 hq9 hw hce hcv hcl => ?_) rfl
  · obtain ⟨he, hC, hf⟩ := hp
    have hL := hL.kept (hf.2 o ho)
    refine lv_i2l hx hb dL_arrives_7 rfl ?_
    refine j_last hx hb hw hL hzo (k := 0) rfl (by decide) (by decide) dL_arrives_8 (fun H2 locs hw hL oq hsz2 => ?_)
    refine lv_goto (tgt := 15) hx hb dL_arrives_9 (by decide) ?_
    refine lv_iconst (v := nI 0) hx hb dL_arrives_15 (by decide) ?_
    refine j_iret hx hb hr hlocks hH hw dL_arrives_16 ?_
    exact ⟨_, rfl, hP_ok (opQ_ok he) hC hf ho hL oq hsz2⟩
  · obtain ⟨he, rfl⟩ := hp
    refine vx_catch (own := RL) (name := "java/lang/IndexOutOfBoundsException") hown [] ⟨0, 9, 12, 28⟩ [] (hex.trans rfl) (fun _ h => absurd h List.not_mem_nil) (by decide) (by decide) (hts (.classLink RL 28 "java/lang/IndexOutOfBoundsException") (by decide +kernel)) (va_Nw.use rfl (hE.1 "java/lang/IndexOutOfBoundsException" (by decide +kernel))) hce hcv hcl ?_
    refine lv_astore_n (lv' := [(3, .ref _), (0, .ref _), (1, .int _), (2, .ref _)]) hx hb dL_arrives_12 rfl hl (by decide) rfl (fun ls hl => ?_)
    refine lv_iconst (v := nI 1) hx hb dL_arrives_13 (by decide) ?_
    refine j_iret hx hb hr hlocks hH hw dL_arrives_14 ?_
    exact ⟨_, rfl, hP_no (k := 1) (by decide) (by decide) (opQ_no he) hCD hsz hL hs9 hq9⟩

set_option maxHeartbeats 4000000 in
set_option maxRecDepth 100000 in
theorem h_next (l : Launch) (hl0 : l.stackTraces = false) (g : jG) (z : Nat) (H0 : Heap) (A o : Nat) (ak : Int32) (tx : List Nat) (σ : Sg) (hi : List Sg) (sv : Nat → Option Sg) (fo : Nat → Int64) (hz : z ≤ A) (hzo : z ≤ o) (ho : o < A ∨ A + 223 ≤ o) (hsz : A + 223 ≤ H0.size) (hCD : CD g H0 A tx σ hi sv) (hL : jL g H0 o 1 fo) : jMH l g z yL_next wsL_next 7 152 [.ref A, .int ak, .ref o] H0 (jN (fun r H1 => hP g H0 H1 A o (opQ (fNext σ ak) (tx, σ, hi, sv)) r)) := by
  refine j_ofH (cc := cL_next) (n := 4) (ret := some .int) (by decide) rfl (Nat.le_of_ble_eq_true rfl) ?_
  intro p e s m below meth c hx hb hr hml hown hts hlocks hname hH hw hE hex ls hl
  have hl : lv_has ls 4 [(0, .ref A), (1, .int ak), (2, .ref o)] := hl
  refine lv_aload_n hx hb dL_next_0 rfl (lv_at hl 2 rfl) ?_
  refine lv_iconst (v := nI 0) hx hb dL_next_1 (by decide) ?_
  refine lv_aload_n hx hb dL_next_2 rfl (lv_at hl 0 rfl) ?_
  refine lv_iload_n hx hb dL_next_3 rfl (lv_at hl 1 rfl) ?_
  refine j_VX (n := 1) (As := [.int ak]) (rest := [.int (nI 0), .ref o]) hx hb hml hown hts hw hE (hCD.rec9 hw) (c_X4_next l hl0 g z H0 A ak tx σ hi sv hz hCD ) gL_next_X4_next rfl (by decide +kernel) ⟨Nat.le_of_ble_eq_true rfl, Nat.le_of_ble_eq_true rfl⟩ rfl hl.1 (Nat.le_of_ble_eq_true rfl) ⟨Nat.le_of_ble_eq_true rfl, Nat.le_of_ble_eq_true rfl⟩ dL_next_4 (fun r H locs hp hw => ?_) (fun E ce q9 H locs hp hs9 hq9 hw hce hcv hcl => ?_) rfl
  · obtain ⟨he, hC, hf⟩ := hp
    have hL := hL.kept (hf.2 o ho)
    refine lv_i2l hx hb dL_next_7 rfl ?_
    refine j_last hx hb hw hL hzo (k := 0) rfl (by decide) (by decide) dL_next_8 (fun H2 locs hw hL oq hsz2 => ?_)
    refine lv_goto (tgt := 15) hx hb dL_next_9 (by decide) ?_
    refine lv_iconst (v := nI 0) hx hb dL_next_15 (by decide) ?_
    refine j_iret hx hb hr hlocks hH hw dL_next_16 ?_
    exact ⟨_, rfl, hP_ok (opQ_ok he) hC hf ho hL oq hsz2⟩
  · obtain ⟨he, rfl⟩ := hp
    refine vx_catch (own := RL) (name := "java/lang/IllegalArgumentException") hown [] ⟨0, 9, 12, 13⟩ [] (hex.trans rfl) (fun _ h => absurd h List.not_mem_nil) (by decide) (by decide) (hts (.classLink RL 13 "java/lang/IllegalArgumentException") (by decide +kernel)) (va_Nw.use rfl (hE.1 "java/lang/IllegalArgumentException" (by decide +kernel))) hce hcv hcl ?_
    refine lv_astore_n (lv' := [(3, .ref _), (0, .ref _), (1, .int _), (2, .ref _)]) hx hb dL_next_12 rfl hl (by decide) rfl (fun ls hl => ?_)
    refine lv_iconst (v := nI 1) hx hb dL_next_13 (by decide) ?_
    refine j_iret hx hb hr hlocks hH hw dL_next_14 ?_
    exact ⟨_, rfl, hP_no (k := 1) (by decide) (by decide) (opQ_no he) hCD hsz hL hs9 hq9⟩

set_option maxHeartbeats 4000000 in
set_option maxRecDepth 100000 in
theorem h_feeFor (l : Launch) (hl0 : l.stackTraces = false) (g : jG) (z : Nat) (H0 : Heap) (A o : Nat) (al : Int32) (tx : List Nat) (σ : Sg) (hi : List Sg) (sv : Nat → Option Sg) (fo : Nat → Int64) (K : Nat) (hlim : lim K σ) (hK : K < 2 ^ 29) (hflat : flat σ) (hz : z ≤ A) (hzo : z ≤ o) (ho : o < A ∨ A + 223 ≤ o) (hsz : A + 223 ≤ H0.size) (hCD : CD g H0 A tx σ hi sv) (hL : jL g H0 o 1 fo) : jMH l g z yL_feeFor wsL_feeFor 8 196 [.ref A, .int al, .ref o] H0 (jN (fun r H1 => hP g H0 H1 A o (opQ (fFee σ al) (tx, σ, hi, sv)) r)) := by
  refine j_ofH (cc := cL_feeFor) (n := 4) (ret := some .int) (by decide) rfl (Nat.le_of_ble_eq_true rfl) ?_
  intro p e s m below meth c hx hb hr hml hown hts hlocks hname hH hw hE hex ls hl
  have hl : lv_has ls 4 [(0, .ref A), (1, .int al), (2, .ref o)] := hl
  refine lv_aload_n hx hb dL_feeFor_0 rfl (lv_at hl 2 rfl) ?_
  refine lv_iconst (v := nI 0) hx hb dL_feeFor_1 (by decide) ?_
  refine lv_aload_n hx hb dL_feeFor_2 rfl (lv_at hl 0 rfl) ?_
  refine lv_iload_n hx hb dL_feeFor_3 rfl (lv_at hl 1 rfl) ?_
  refine j_VX (n := 1) (As := [.int al]) (rest := [.int (nI 0), .ref o]) hx hb hml hown hts hw hE (hCD.rec9 hw) (c_X4_feeFor l hl0 g z H0 A al tx σ hi sv K hz hCD hlim hK hflat) gL_feeFor_X4_feeFor rfl (by decide +kernel) ⟨Nat.le_of_ble_eq_true rfl, Nat.le_of_ble_eq_true rfl⟩ rfl hl.1 (Nat.le_of_ble_eq_true rfl) ⟨Nat.le_of_ble_eq_true rfl, Nat.le_of_ble_eq_true rfl⟩ dL_feeFor_4 (fun r H locs hp hw => ?_) (fun E ce q9 H locs hp hs9 hq9 hw hce hcv hcl => ?_) rfl
  · obtain ⟨he, hC, hf⟩ := hp
    have hL := hL.kept (hf.2 o ho)
    refine lv_i2l hx hb dL_feeFor_7 rfl ?_
    refine j_last hx hb hw hL hzo (k := 0) rfl (by decide) (by decide) dL_feeFor_8 (fun H2 locs hw hL oq hsz2 => ?_)
    refine lv_goto (tgt := 15) hx hb dL_feeFor_9 (by decide) ?_
    refine lv_iconst (v := nI 0) hx hb dL_feeFor_15 (by decide) ?_
    refine j_iret hx hb hr hlocks hH hw dL_feeFor_16 ?_
    exact ⟨_, rfl, hP_ok (opQ_ok he) hC hf ho hL oq hsz2⟩
  · obtain ⟨he, rfl⟩ := hp
    refine vx_catch (own := RL) (name := "java/lang/IndexOutOfBoundsException") hown [] ⟨0, 9, 12, 28⟩ [] (hex.trans rfl) (fun _ h => absurd h List.not_mem_nil) (by decide) (by decide) (hts (.classLink RL 28 "java/lang/IndexOutOfBoundsException") (by decide +kernel)) (va_Nw.use rfl (hE.1 "java/lang/IndexOutOfBoundsException" (by decide +kernel))) hce hcv hcl ?_
    refine lv_astore_n (lv' := [(3, .ref _), (0, .ref _), (1, .int _), (2, .ref _)]) hx hb dL_feeFor_12 rfl hl (by decide) rfl (fun ls hl => ?_)
    refine lv_iconst (v := nI 1) hx hb dL_feeFor_13 (by decide) ?_
    refine j_iret hx hb hr hlocks hH hw dL_feeFor_14 ?_
    exact ⟨_, rfl, hP_no (k := 1) (by decide) (by decide) (opQ_no he) hCD hsz hL hs9 hq9⟩

set_option maxHeartbeats 4000000 in
set_option maxRecDepth 100000 in
theorem h_would (l : Launch) (hl0 : l.stackTraces = false) (g : jG) (z : Nat) (H0 : Heap) (A o : Nat) (an : Int32) (what : Int32) (tx : List Nat) (σ : Sg) (hi : List Sg) (sv : Nat → Option Sg) (fo : Nat → Int64) (K : Nat) (hlim : lim K σ) (hK : K < 2 ^ 29) (hz : z ≤ A) (hzo : z ≤ o) (ho : o < A ∨ A + 223 ≤ o) (hsz : A + 223 ≤ H0.size) (hCD : CD g H0 A tx σ hi sv) (hL : jL g H0 o 1 fo) : jMH l g z yL_would wsL_would 8 197 [.ref A, .int an, .int what, .ref o] H0 (jN (fun r H1 => hP g H0 H1 A o (opQ (fWould σ an what) (tx, σ, hi, sv)) r)) := by
  refine j_ofH (cc := cL_would) (n := 5) (ret := some .int) (by decide) rfl (Nat.le_of_ble_eq_true rfl) ?_
  intro p e s m below meth c hx hb hr hml hown hts hlocks hname hH hw hE hex ls hl
  have hl : lv_has ls 5 [(0, .ref A), (1, .int an), (2, .int what), (3, .ref o)] := hl
  refine lv_aload_n hx hb dL_would_0 rfl (lv_at hl 3 rfl) ?_
  refine lv_iconst (v := nI 0) hx hb dL_would_1 (by decide) ?_
  refine lv_aload_n hx hb dL_would_2 rfl (lv_at hl 0 rfl) ?_
  refine lv_iload_n hx hb dL_would_3 rfl (lv_at hl 1 rfl) ?_
  refine lv_iload_n hx hb dL_would_4 rfl (lv_at hl 2 rfl) ?_
  refine j_VX (n := 2) (As := [.int an, .int what]) (rest := [.int (nI 0), .ref o]) hx hb hml hown hts hw hE (hCD.rec9 hw) (c_X4_would l hl0 g z H0 A an what tx σ hi sv K hz hCD hlim hK) gL_would_X4_would rfl (by decide +kernel) ⟨Nat.le_of_ble_eq_true rfl, Nat.le_of_ble_eq_true rfl⟩ rfl hl.1 (Nat.le_of_ble_eq_true rfl) ⟨Nat.le_of_ble_eq_true rfl, Nat.le_of_ble_eq_true rfl⟩ dL_would_5 (fun r H locs hp hw => ?_) (fun E ce q9 H locs hp hs9 hq9 hw hce hcv hcl => ?_) rfl
  · obtain ⟨he, hC, hf⟩ := hp
    have hL := hL.kept (hf.2 o ho)
    refine lv_i2l hx hb dL_would_8 rfl ?_
    refine j_last hx hb hw hL hzo (k := 0) rfl (by decide) (by decide) dL_would_9 (fun H2 locs hw hL oq hsz2 => ?_)
    refine lv_goto (tgt := 17) hx hb dL_would_10 (by decide) ?_
    refine lv_iconst (v := nI 0) hx hb dL_would_17 (by decide) ?_
    refine j_iret hx hb hr hlocks hH hw dL_would_18 ?_
    exact ⟨_, rfl, hP_ok (opQ_ok he) hC hf ho hL oq hsz2⟩
  · obtain ⟨he, rfl⟩ := hp
    refine vx_catch (own := RL) (name := "java/lang/IllegalArgumentException") hown [] ⟨0, 10, 13, 13⟩ [] (hex.trans rfl) (fun _ h => absurd h List.not_mem_nil) (by decide) (by decide) (hts (.classLink RL 13 "java/lang/IllegalArgumentException") (by decide +kernel)) (va_Nw.use rfl (hE.1 "java/lang/IllegalArgumentException" (by decide +kernel))) hce hcv hcl ?_
    refine lv_astore (lv' := [(4, .ref _), (0, .ref _), (1, .int _), (2, .int _), (3, .ref _)]) hx hb dL_would_13 hl (by decide) rfl (fun ls hl => ?_)
    refine lv_iconst (v := nI 1) hx hb dL_would_15 (by decide) ?_
    refine j_iret hx hb hr hlocks hH hw dL_would_16 ?_
    exact ⟨_, rfl, hP_no (k := 1) (by decide) (by decide) (opQ_no he) hCD hsz hL hs9 hq9⟩

set_option maxHeartbeats 4000000 in
set_option maxRecDepth 100000 in
theorem h_runScript (l : Launch) (hl0 : l.stackTraces = false) (g : jG) (z : Nat) (H0 : Heap) (A o : Nat) (an : Int32) (told : Int64) (tx : List Nat) (σ : Sg) (hi : List Sg) (sv : Nat → Option Sg) (fo : Nat → Int64) (K : Nat) (hlim : lim K σ) (hK : K < 2 ^ 29) (hz : z ≤ A) (hzo : z ≤ o) (ho : o < A ∨ A + 223 ≤ o) (hsz : A + 223 ≤ H0.size) (hCD : CD g H0 A tx σ hi sv) (hL : jL g H0 o 1 fo) : jMH l g z yL_runScript wsL_runScript 9 223 [.ref A, .int an, .long told, .ref o] H0 (jN (fun r H1 => hP g H0 H1 A o (opQ (fScript σ an told) (tx, σ, hi, sv)) r)) := by
  refine j_ofH (cc := cL_runScript) (n := 6) (ret := some .int) (by decide) rfl (Nat.le_of_ble_eq_true rfl) ?_
  intro p e s m below meth c hx hb hr hml hown hts hlocks hname hH hw hE hex ls hl
  have hl : lv_has ls 6 [(0, .ref A), (1, .int an), (2, .long told), (4, .ref o)] := hl
  refine lv_aload hx hb dL_runScript_0 (lv_at hl 3 rfl) ?_
  refine lv_iconst (v := nI 0) hx hb dL_runScript_2 (by decide) ?_
  refine lv_aload_n hx hb dL_runScript_3 rfl (lv_at hl 0 rfl) ?_
  refine lv_iload_n hx hb dL_runScript_4 rfl (lv_at hl 1 rfl) ?_
  refine lv_lload_n hx hb dL_runScript_5 rfl (lv_at hl 2 rfl) ?_
  refine j_VX (n := 2) (As := [.int an, .long told]) (rest := [.int (nI 0), .ref o]) hx hb hml hown hts hw hE (hCD.rec9 hw) (c_X4_runScript l hl0 g z H0 A an told tx σ hi sv K hz hCD hlim hK) gL_runScript_X4_runScript rfl (by decide +kernel) ⟨Nat.le_of_ble_eq_true rfl, Nat.le_of_ble_eq_true rfl⟩ rfl hl.1 (Nat.le_of_ble_eq_true rfl) ⟨Nat.le_of_ble_eq_true rfl, Nat.le_of_ble_eq_true rfl⟩ dL_runScript_6 (fun r H locs hp hw => ?_) (fun E ce q9 H locs hp hs9 hq9 hw hce hcv hcl => ?_) rfl
  · obtain ⟨he, hC, hf⟩ := hp
    have hL := hL.kept (hf.2 o ho)
    refine lv_i2l hx hb dL_runScript_9 rfl ?_
    refine j_last hx hb hw hL hzo (k := 0) rfl (by decide) (by decide) dL_runScript_10 (fun H2 locs hw hL oq hsz2 => ?_)
    refine lv_goto (tgt := 18) hx hb dL_runScript_11 (by decide) ?_
    refine lv_iconst (v := nI 0) hx hb dL_runScript_18 (by decide) ?_
    refine j_iret hx hb hr hlocks hH hw dL_runScript_19 ?_
    exact ⟨_, rfl, hP_ok (opQ_ok he) hC hf ho hL oq hsz2⟩
  · obtain ⟨he, rfl⟩ := hp
    refine vx_catch (own := RL) (name := "java/lang/IllegalArgumentException") hown [] ⟨0, 11, 14, 13⟩ [] (hex.trans rfl) (fun _ h => absurd h List.not_mem_nil) (by decide) (by decide) (hts (.classLink RL 13 "java/lang/IllegalArgumentException") (by decide +kernel)) (va_Nw.use rfl (hE.1 "java/lang/IllegalArgumentException" (by decide +kernel))) hce hcv hcl ?_
    refine lv_astore (lv' := [(5, .ref _), (0, .ref _), (1, .int _), (2, .long _), (4, .ref _)]) hx hb dL_runScript_14 hl (by decide) rfl (fun ls hl => ?_)
    refine lv_iconst (v := nI 1) hx hb dL_runScript_16 (by decide) ?_
    refine j_iret hx hb hr hlocks hH hw dL_runScript_17 ?_
    exact ⟨_, rfl, hP_no (k := 1) (by decide) (by decide) (opQ_no he) hCD hsz hL hs9 hq9⟩

set_option maxHeartbeats 4000000 in
set_option maxRecDepth 100000 in
theorem h_simulate (l : Launch) (hl0 : l.stackTraces = false) (g : jG) (z : Nat) (H0 : Heap) (A o : Nat) (seed : Int64) (am : Int32) (tx : List Nat) (σ : Sg) (hi : List Sg) (sv : Nat → Option Sg) (fo : Nat → Int64) (K : Nat) (hlim : lim K σ) (hK : K < 2 ^ 29) (hz : z ≤ A) (hzo : z ≤ o) (ho : o < A ∨ A + 223 ≤ o) (hsz : A + 223 ≤ H0.size) (hCD : CD g H0 A tx σ hi sv) (hL : jL g H0 o 1 fo) : jMH l g z yL_simulate wsL_simulate 9 221 [.ref A, .long seed, .int am, .ref o] H0 (jN (fun r H1 => hP g H0 H1 A o (opQ (fSim σ seed am) (tx, σ, hi, sv)) r)) := by
  refine j_ofH (cc := cL_simulate) (n := 6) (ret := some .int) (by decide) rfl (Nat.le_of_ble_eq_true rfl) ?_
  intro p e s m below meth c hx hb hr hml hown hts hlocks hname hH hw hE hex ls hl
  have hl : lv_has ls 6 [(0, .ref A), (1, .long seed), (3, .int am), (4, .ref o)] := hl
  refine lv_aload hx hb dL_simulate_0 (lv_at hl 3 rfl) ?_
  refine lv_iconst (v := nI 0) hx hb dL_simulate_2 (by decide) ?_
  refine lv_aload_n hx hb dL_simulate_3 rfl (lv_at hl 0 rfl) ?_
  refine lv_lload_n hx hb dL_simulate_4 rfl (lv_at hl 1 rfl) ?_
  refine lv_iload_n hx hb dL_simulate_5 rfl (lv_at hl 2 rfl) ?_
  refine j_VX (n := 2) (As := [.long seed, .int am]) (rest := [.int (nI 0), .ref o]) hx hb hml hown hts hw hE (hCD.rec9 hw) (c_X4_simulate l hl0 g z H0 A seed am tx σ hi sv K hz hCD hlim hK) gL_simulate_X4_simulate rfl (by decide +kernel) ⟨Nat.le_of_ble_eq_true rfl, Nat.le_of_ble_eq_true rfl⟩ rfl hl.1 (Nat.le_of_ble_eq_true rfl) ⟨Nat.le_of_ble_eq_true rfl, Nat.le_of_ble_eq_true rfl⟩ dL_simulate_6 (fun r H locs hp hw => ?_) (fun E ce q9 H locs hp hs9 hq9 hw hce hcv hcl => ?_) rfl
  · obtain ⟨he, hC, hf⟩ := hp
    have hL := hL.kept (hf.2 o ho)
    refine lv_i2l hx hb dL_simulate_9 rfl ?_
    refine j_last hx hb hw hL hzo (k := 0) rfl (by decide) (by decide) dL_simulate_10 (fun H2 locs hw hL oq hsz2 => ?_)
    refine lv_goto (tgt := 18) hx hb dL_simulate_11 (by decide) ?_
    refine lv_iconst (v := nI 0) hx hb dL_simulate_18 (by decide) ?_
    refine j_iret hx hb hr hlocks hH hw dL_simulate_19 ?_
    exact ⟨_, rfl, hP_ok (opQ_ok he) hC hf ho hL oq hsz2⟩
  · obtain ⟨he, rfl⟩ := hp
    refine vx_catch (own := RL) (name := "java/lang/IllegalArgumentException") hown [] ⟨0, 11, 14, 13⟩ [] (hex.trans rfl) (fun _ h => absurd h List.not_mem_nil) (by decide) (by decide) (hts (.classLink RL 13 "java/lang/IllegalArgumentException") (by decide +kernel)) (va_Nw.use rfl (hE.1 "java/lang/IllegalArgumentException" (by decide +kernel))) hce hcv hcl ?_
    refine lv_astore (lv' := [(5, .ref _), (0, .ref _), (1, .long _), (3, .int _), (4, .ref _)]) hx hb dL_simulate_14 hl (by decide) rfl (fun ls hl => ?_)
    refine lv_iconst (v := nI 1) hx hb dL_simulate_16 (by decide) ?_
    refine j_iret hx hb hr hlocks hH hw dL_simulate_17 ?_
    exact ⟨_, rfl, hP_no (k := 1) (by decide) (by decide) (opQ_no he) hCD hsz hL hs9 hq9⟩

set_option maxHeartbeats 4000000 in
set_option maxRecDepth 100000 in
theorem h_save (l : Launch) (hl0 : l.stackTraces = false) (g : jG) (z : Nat) (H0 : Heap) (A o : Nat) (asl : Int32) (tx : List Nat) (σ : Sg) (hi : List Sg) (sv : Nat → Option Sg) (fo : Nat → Int64) (hz : z ≤ A) (hzo : z ≤ o) (ho : o < A ∨ A + 223 ≤ o) (hsz : A + 223 ≤ H0.size) (hCD : CD g H0 A tx σ hi sv) (hL : jL g H0 o 1 fo) : jMH l g z yL_save wsL_save 7 144 [.ref A, .int asl, .ref o] H0 (jN (fun r H1 => hP g H0 H1 A o (opS asl (tx, σ, hi, sv)) r)) := by
  refine j_ofH (cc := cL_save) (n := 4) (ret := some .int) (by decide) rfl (Nat.le_of_ble_eq_true rfl) ?_
  intro p e s m below meth c hx hb hr hml hown hts hlocks hname hH hw hE hex ls hl
  have hl : lv_has ls 4 [(0, .ref A), (1, .int asl), (2, .ref o)] := hl
  refine lv_aload_n hx hb dL_save_0 rfl (lv_at hl 2 rfl) ?_
  refine lv_iconst (v := nI 0) hx hb dL_save_1 (by decide) ?_
  refine lv_aload_n hx hb dL_save_2 rfl (lv_at hl 0 rfl) ?_
  refine lv_iload_n hx hb dL_save_3 rfl (lv_at hl 1 rfl) ?_
  refine j_VX (n := 1) (As := [.int asl]) (rest := [.int (nI 0), .ref o]) hx hb hml hown hts hw hE (hCD.rec9 hw) (c_X4_save l hl0 g z H0 A asl tx σ hi sv hz hCD ) gL_save_X4_save rfl (by decide +kernel) ⟨Nat.le_of_ble_eq_true rfl, Nat.le_of_ble_eq_true rfl⟩ rfl hl.1 (Nat.le_of_ble_eq_true rfl) ⟨Nat.le_of_ble_eq_true rfl, Nat.le_of_ble_eq_true rfl⟩ dL_save_4 (fun r H locs hp hw => ?_) (fun E ce q9 H locs hp hs9 hq9 hw hce hcv hcl => ?_) rfl
  · obtain ⟨k9, hk9, rfl, hC, hf⟩ := hp
    have hL := hL.kept (hf.2 o ho)
    refine lv_i2l hx hb dL_save_7 rfl ?_
    refine j_last hx hb hw hL hzo (k := 0) rfl (by decide) (by decide) dL_save_8 (fun H2 locs hw hL oq hsz2 => ?_)
    refine lv_goto (tgt := 15) hx hb dL_save_9 (by decide) ?_
    refine lv_iconst (v := nI 0) hx hb dL_save_15 (by decide) ?_
    refine j_iret hx hb hr hlocks hH hw dL_save_16 ?_
    exact ⟨_, rfl, hP_ok (opS_ok hk9) hC hf ho hL oq hsz2⟩
  · obtain ⟨he, rfl⟩ := hp
    refine vx_catch (own := RL) (name := "java/lang/IndexOutOfBoundsException") hown [] ⟨0, 9, 12, 28⟩ [] (hex.trans rfl) (fun _ h => absurd h List.not_mem_nil) (by decide) (by decide) (hts (.classLink RL 28 "java/lang/IndexOutOfBoundsException") (by decide +kernel)) (va_Nw.use rfl (hE.1 "java/lang/IndexOutOfBoundsException" (by decide +kernel))) hce hcv hcl ?_
    refine lv_astore_n (lv' := [(3, .ref _), (0, .ref _), (1, .int _), (2, .ref _)]) hx hb dL_save_12 rfl hl (by decide) rfl (fun ls hl => ?_)
    refine lv_iconst (v := nI 1) hx hb dL_save_13 (by decide) ?_
    refine j_iret hx hb hr hlocks hH hw dL_save_14 ?_
    exact ⟨_, rfl, hP_no (k := 1) (by decide) (by decide) (opS_no he) hCD hsz hL hs9 hq9⟩

set_option maxHeartbeats 4000000 in
set_option maxRecDepth 100000 in
theorem h_restore (l : Launch) (hl0 : l.stackTraces = false) (g : jG) (z : Nat) (H0 : Heap) (A o : Nat) (asl : Int32) (tx : List Nat) (σ : Sg) (hi : List Sg) (sv : Nat → Option Sg) (fo : Nat → Int64) (hz : z ≤ A) (hzo : z ≤ o) (ho : o < A ∨ A + 223 ≤ o) (hsz : A + 223 ≤ H0.size) (hCD : CD g H0 A tx σ hi sv) (hL : jL g H0 o 1 fo) : jMH l g z yL_restore wsL_restore 7 144 [.ref A, .int asl, .ref o] H0 (jN (fun r H1 => hP g H0 H1 A o (opR asl (tx, σ, hi, sv)) r)) := by
  refine j_ofH (cc := cL_restore) (n := 4) (ret := some .int) (by decide) rfl (Nat.le_of_ble_eq_true rfl) ?_
  intro p e s m below meth c hx hb hr hml hown hts hlocks hname hH hw hE hex ls hl
  have hl : lv_has ls 4 [(0, .ref A), (1, .int asl), (2, .ref o)] := hl
  refine lv_aload_n hx hb dL_restore_0 rfl (lv_at hl 2 rfl) ?_
  refine lv_iconst (v := nI 0) hx hb dL_restore_1 (by decide) ?_
  refine lv_aload_n hx hb dL_restore_2 rfl (lv_at hl 0 rfl) ?_
  refine lv_iload_n hx hb dL_restore_3 rfl (lv_at hl 1 rfl) ?_
  refine j_VX (n := 1) (As := [.int asl]) (rest := [.int (nI 0), .ref o]) hx hb hml hown hts hw hE (hCD.rec9 hw) (c_X4_restore l hl0 g z H0 A asl tx σ hi sv hz hCD ) gL_restore_X4_restore rfl (by decide +kernel) ⟨Nat.le_of_ble_eq_true rfl, Nat.le_of_ble_eq_true rfl⟩ rfl hl.1 (Nat.le_of_ble_eq_true rfl) ⟨Nat.le_of_ble_eq_true rfl, Nat.le_of_ble_eq_true rfl⟩ dL_restore_4 (fun r H locs hp hw => ?_) (fun E ce q9 H locs hp hs9 hq9 hw hce hcv hcl => ?_) rfl
  · obtain ⟨k9, hk9, s9, hs9, rfl, hC, hf⟩ := hp
    have hL := hL.kept (hf.2 o ho)
    refine lv_i2l hx hb dL_restore_7 rfl ?_
    refine j_last hx hb hw hL hzo (k := 0) rfl (by decide) (by decide) dL_restore_8 (fun H2 locs hw hL oq hsz2 => ?_)
    refine lv_goto (tgt := 18) hx hb dL_restore_9 (by decide) ?_
    refine lv_iconst (v := nI 0) hx hb dL_restore_18 (by decide) ?_
    refine j_iret hx hb hr hlocks hH hw dL_restore_19 ?_
    exact ⟨_, rfl, hP_ok (opR_ok hk9 hs9) hC hf ho hL oq hsz2⟩
  · rcases hp with ⟨he, rfl⟩ | ⟨he, rfl⟩
    · refine vx_catch (own := RL) (name := "java/lang/IndexOutOfBoundsException") hown [] ⟨0, 9, 12, 28⟩ [⟨0, 9, 15, 15⟩] (hex.trans rfl) (fun _ h => absurd h List.not_mem_nil) (by decide) (by decide) (hts (.classLink RL 28 "java/lang/IndexOutOfBoundsException") (by decide +kernel)) (va_Nw.use rfl (hE.1 "java/lang/IndexOutOfBoundsException" (by decide +kernel))) hce hcv hcl ?_
      refine lv_astore_n (lv' := [(3, .ref _), (0, .ref _), (1, .int _), (2, .ref _)]) hx hb dL_restore_12 rfl hl (by decide) rfl (fun ls hl => ?_)
      refine lv_iconst (v := nI 1) hx hb dL_restore_13 (by decide) ?_
      refine j_iret hx hb hr hlocks hH hw dL_restore_14 ?_
      exact ⟨_, rfl, hP_no (k := 1) (by decide) (by decide) (opR_no he) hCD hsz hL hs9 hq9⟩
    · obtain ⟨k9, hk9, hs8⟩ := he
      refine vx_catch (own := RL) (name := "java/lang/IllegalStateException") hown [⟨0, 9, 12, 28⟩] ⟨0, 9, 15, 15⟩ [] (hex.trans rfl) (List.forall_mem_cons.mpr ⟨Or.inr ⟨by decide, "java/lang/IndexOutOfBoundsException", hts (.classLink RL 28 "java/lang/IndexOutOfBoundsException") (by decide +kernel), hE.2.1 ("java/lang/IllegalStateException", "java/lang/IndexOutOfBoundsException") (by decide +kernel)⟩, fun _ h => absurd h List.not_mem_nil⟩) (by decide) (by decide) (hts (.classLink RL 15 "java/lang/IllegalStateException") (by decide +kernel)) (va_Nw.use rfl (hE.1 "java/lang/IllegalStateException" (by decide +kernel))) hce hcv hcl ?_
      refine lv_astore_n (lv' := [(3, .ref _), (0, .ref _), (1, .int _), (2, .ref _)]) hx hb dL_restore_15 rfl hl (by decide) rfl (fun ls hl => ?_)
      refine lv_iconst (v := nI 2) hx hb dL_restore_16 (by decide) ?_
      refine j_iret hx hb hr hlocks hH hw dL_restore_17 ?_
      exact ⟨_, rfl, hP_no (k := 2) (by decide) (by decide) (opR_no2 hk9 hs8) hCD hsz hL hs9 hq9⟩
