abbrev q_X5_isWatched (g : jG) (H0 : Heap) (M : Nat) (σ : Sg) (f : Nat → Int32) (x0 : Int32) (x2 : Int32) (x3 : Int32) (x4 : Int32) (x5 : Int32) (x10 : Int32) (x14 : Int32) (sn : Bool) : Option Value → Heap → Prop := jN (fun r H1 => H1 = H0 ∧ (r = bI (anyW σ.2.2.1)))
set_option maxHeartbeats 4000000 in
set_option maxRecDepth 100000 in
theorem c_X5_isWatched (l : Launch) (g : jG) (z : Nat) (H0 : Heap) (M : Nat) (σ : Sg) (f : Nat → Int32) (x0 : Int32) (x2 : Int32) (x3 : Int32) (x4 : Int32) (x5 : Int32) (x10 : Int32) (x14 : Int32) (sn : Bool) (hO : jO g H0 M 5 [.int x0, .ref (M + 1), .int x2, .int x3, .int x4, .int x5, .ref (M + 2), .ref (M + 3), .ref (M + 4), .ref (M + 5), .int x10, .ref (M + 6), .ref (M + 7), .ref (M + 8), .int x14, .int (bI sn)]) (hTr : jI g H0 (M + 4) 235 f) (hR : Row f σ) (hs : okS σ) : jM l g z yX5_isWatched wsX5_isWatched 1 21 [.ref M] H0 (q_X5_isWatched g H0 M σ f x0 x2 x3 x4 x5 x10 x14 sn) := by
  refine j_of (cc := cX5_isWatched) (n := 3) (ret := some .boolean) (by decide) rfl (Nat.le_of_ble_eq_true rfl) ?_
  intro p e s m below meth c hx hb hr hml hown hts hlocks hname hH hw ls hl
  have hl : lv_has ls 3 [(0, .ref M)] := hl
  have hinX5 : ∀ w ∈ u_ws RX5 TX5 16, w ∈ wsX5_isWatched := by decide +kernel
  have hn := hs.2.2.1
  refine lv_iconst (v := (nI (0))) hx hb dX5_isWatched_0 (by decide) ?_
  refine lv_istore_n (lv' := [(1, .int _), (0, .ref _)]) hx hb dX5_isWatched_1 rfl hl (by decide) rfl (fun ls hl => ?_)
  refine lv_iconst (v := (nI (0))) hx hb dX5_isWatched_2 (by decide) ?_
  refine lv_istore_n (lv' := [(2, .int _), (1, .int _), (0, .ref _)]) hx hb dX5_isWatched_3 rfl hl (by decide) rfl (fun ls hl => ?_)
  have lp4 : ∀ (n4 : Nat) (k : Nat) (x1 : Int32) (hk : k ≤ σ.2.2.1.length) (hx1 : x1 = bI (anyW (σ.2.2.1.take k))) (hmu4 : σ.2.2.1.length - k < n4) (locs : List Loc) (hw : jW g z s H0 locs) (ls : Array Slot) (hl : lv_has ls 3 [(0, .ref M), (1, .int x1), (2, .int (nI (k)))]), jK p l e 1 21 s m [.ref M] below meth c z H0 (q_X5_isWatched g H0 M σ f x0 x2 x3 x4 x5 x10 x14 sn) H0 locs (F0 m 4 ls []) := by
    intro n4
    induction n4 with
    | zero => intros; omega
    | succ n4 ih4 =>
      intro k x1 hk hx1 hmu4 locs hw  ls hl
      refine lv_iload_n hx hb dX5_isWatched_4 rfl (lv_at hl 2 rfl) ?_
      refine lv_aload_n hx hb dX5_isWatched_5 rfl (lv_at hl 0 rfl) ?_
      refine j_get (T := TX5) (N := 16) (k := 8) hx hb hts hinX5 hown hw hO rfl (by decide) (hts (.fieldLink RX5 19 "NightTrainsModel" "trial" "[I") (by decide +kernel)) rfl dX5_isWatched_6 ?_
      refine lv_bipush (v := (nI (6))) hx hb dX5_isWatched_9 (by decide) ?_
      refine j_iald hx hb hw hTr (k := 6) rfl (by omega) (by omega) dX5_isWatched_11 ?_
      refine j_eq (y := nI (σ.2.2.1.length)) hR.2.2.1 ?_
      refine jn_ge (tgt := 45) hx hb dX5_isWatched_12 (by decide) (by omega) (by omega) (fun c12 => ?_) (fun c12 => ?_)
      · refine lv_iload_n hx hb dX5_isWatched_45 rfl (lv_at hl 1 rfl) ?_
        refine j_zret hx hb hr hlocks hH hw (by rw [hx1]; exact bI_01 _) dX5_isWatched_46 ?_
        have hk9 : k = σ.2.2.1.length := by omega
        subst hk9
        rw [List.take_length] at hx1
        exact ⟨_, rfl, rfl, hx1⟩
      · obtain ⟨o, ho⟩ := getO (L := σ.2.2.1) (k := k) (by omega)
        have hoo := hs.2.2.2.1 o (memO ho)
        have ho5 := hoo.2.2.2.2.2
        refine lv_iload_n hx hb dX5_isWatched_15 rfl (lv_at hl 1 rfl) ?_
        refine lv_if_ne (tgt := 33) hx hb dX5_isWatched_16 (by decide) (fun c16 => ?_) (fun c16 => ?_)
        · refine lv_iconst (v := (nI (1))) hx hb dX5_isWatched_33 (by decide) ?_
          refine lv_goto (tgt := 38) hx hb dX5_isWatched_34 (by decide) ?_
          refine lv_istore_n (lv' := [(1, .int _), (0, .ref _), (2, .int _)]) hx hb dX5_isWatched_38 rfl hl (by decide) rfl (fun ls hl => ?_)
          refine lv_iinc (v := nI (k + 1)) (lv' := [(2, .int _), (1, .int _), (0, .ref _)]) hx hb dX5_isWatched_39 hl (k := 2) rfl (nI_add _ 1) (by decide) rfl (fun ls hl => ?_)
          refine lv_goto (tgt := 4) hx hb dX5_isWatched_42 (by decide) ?_
          exact ih4  (k + 1) _ (by first | assumption | omega) (by rw [hx1] at c16; rw [anyW_take ho, bI_ne c16]; rfl) (by omega) _ hw _ (lv_sub hl [2, 1, 0] rfl)
        · refine lv_aload_n hx hb dX5_isWatched_19 rfl (lv_at hl 0 rfl) ?_
          refine j_get (T := TX5) (N := 16) (k := 8) hx hb hts hinX5 hown hw hO rfl (by decide) (hts (.fieldLink RX5 19 "NightTrainsModel" "trial" "[I") (by decide +kernel)) rfl dX5_isWatched_20 ?_
          refine lv_iload_n hx hb dX5_isWatched_23 rfl (lv_at hl 2 rfl) ?_
          refine lv_iconst (v := (nI (5))) hx hb dX5_isWatched_24 (by decide) ?_
          refine j_Sp (n := 2) (As := [.int (nI (k)), .int (nI (5))]) hx hb hml hown hts hw (c_X5_at l g z H0 (k) (5)   ) gX5_isWatched_X5_at rfl (by decide +kernel) ⟨Nat.le_of_ble_eq_true rfl, Nat.le_of_ble_eq_true rfl⟩ rfl hl.1 (Nat.le_of_ble_eq_true rfl) ⟨Nat.zero_le _, Nat.zero_le _⟩ dX5_isWatched_25 (fun r1 locs hr1 hw => ?_) rfl
          obtain rfl : r1 = (nI (109 + 6 * (k) + (5))) := hr1
          refine j_iald hx hb hw hTr (k := 109 + 6 * (k) + (5)) rfl (by omega) (by omega) dX5_isWatched_28 ?_
          refine j_eq (y := nI (o 5)) (hR.o ho 5 (by omega) (by omega)) ?_
          refine lv_iconst (v := (nI (1))) hx hb dX5_isWatched_29 (by decide) ?_
          refine jn_ne (tgt := 37) hx hb dX5_isWatched_30 (by decide) (by omega) (by omega) (fun c30 => ?_) (fun c30 => ?_)
          · refine lv_iconst (v := (nI (0))) hx hb dX5_isWatched_37 (by decide) ?_
            refine lv_istore_n (lv' := [(1, .int _), (0, .ref _), (2, .int _)]) hx hb dX5_isWatched_38 rfl hl (by decide) rfl (fun ls hl => ?_)
            refine lv_iinc (v := nI (k + 1)) (lv' := [(2, .int _), (1, .int _), (0, .ref _)]) hx hb dX5_isWatched_39 hl (k := 2) rfl (nI_add _ 1) (by decide) rfl (fun ls hl => ?_)
            refine lv_goto (tgt := 4) hx hb dX5_isWatched_42 (by decide) ?_
            exact ih4  (k + 1) _ (by first | assumption | omega) (by rw [hx1] at c16; rw [anyW_take ho, bI_eq c16, decide_eq_false c30]; rfl) (by omega) _ hw _ (lv_sub hl [2, 1, 0] rfl)
          · refine lv_iconst (v := (nI (1))) hx hb dX5_isWatched_33 (by decide) ?_
            refine lv_goto (tgt := 38) hx hb dX5_isWatched_34 (by decide) ?_
            refine lv_istore_n (lv' := [(1, .int _), (0, .ref _), (2, .int _)]) hx hb dX5_isWatched_38 rfl hl (by decide) rfl (fun ls hl => ?_)
            refine lv_iinc (v := nI (k + 1)) (lv' := [(2, .int _), (1, .int _), (0, .ref _)]) hx hb dX5_isWatched_39 hl (k := 2) rfl (nI_add _ 1) (by decide) rfl (fun ls hl => ?_)
            refine lv_goto (tgt := 4) hx hb dX5_isWatched_42 (by decide) ?_
            exact ih4  (k + 1) _ (by first | assumption | omega) (by rw [anyW_take ho, decide_eq_true c30, Bool.or_true]; rfl) (by omega) _ hw _ (lv_sub hl [2, 1, 0] rfl)
  exact lp4 (σ.2.2.1.length - (0) + 1) (0) _ (by first | assumption | omega) rfl (by omega) _ hw _ (lv_sub hl [2, 1, 0] rfl)

abbrev q_X5_goOn (g : jG) (H0 : Heap) (M : Nat) (σ : Sg) (f : Nat → Int32) (x0 : Int32) (x2 : Int32) (x3 : Int32) (x4 : Int32) (x5 : Int32) (x10 : Int32) (x14 : Int32) (sn : Bool) (tk0 : Nat → Int32) : Option Value → Heap → Prop := jV (fun H1 => rTo3 g M (M + 4) (goS 10 σ) H0 H1 ∧ ∃ y14 sn1 tk, jO g H1 M 5 [.int x0, .ref (M + 1), .int x2, .int x3, .int x4, .int x5, .ref (M + 2), .ref (M + 3), .ref (M + 4), .ref (M + 5), .int x10, .ref (M + 6), .ref (M + 7), .ref (M + 8), .int y14, .int (bI sn1)] ∧ jI g H1 (M + 8) 16 tk)
set_option maxHeartbeats 4000000 in
set_option maxRecDepth 100000 in
theorem c_X5_goOn (l : Launch) (g : jG) (z : Nat) (H0 : Heap) (M : Nat) (σ : Sg) (f : Nat → Int32) (x0 : Int32) (x2 : Int32) (x3 : Int32) (x4 : Int32) (x5 : Int32) (x10 : Int32) (x14 : Int32) (sn : Bool) (tk0 : Nat → Int32) (hzM : z ≤ M) (hO : jO g H0 M 5 [.int x0, .ref (M + 1), .int x2, .int x3, .int x4, .int x5, .ref (M + 2), .ref (M + 3), .ref (M + 4), .ref (M + 5), .int x10, .ref (M + 6), .ref (M + 7), .ref (M + 8), .int x14, .int (bI sn)]) (hTr : jI g H0 (M + 4) 235 f) (hT8 : jI g H0 (M + 8) 16 tk0) (hR : Row f σ) (hs : okS σ) (hcalm : ∀ o ∈ σ.2.2.1, o 4 < 9) : jM l g z yX5_goOn wsX5_goOn 4 95 [.ref M] H0 (q_X5_goOn g H0 M σ f x0 x2 x3 x4 x5 x10 x14 sn tk0) := by
  refine j_of (cc := cX5_goOn) (n := 1) (ret := none) (by decide) rfl (Nat.le_of_ble_eq_true rfl) ?_
  intro p e s m below meth c hx hb hr hml hown hts hlocks hname hH hw ls hl
  have hl : lv_has ls 1 [(0, .ref M)] := hl
  have hinX5 : ∀ w ∈ u_ws RX5 TX5 16, w ∈ wsX5_goOn := by decide +kernel
  have hf : jF3 M (M + 4) (M + 8) H0 H0 := jF3.rf
  have lp0 : ∀ (n0 : Nat) (k : Nat) (q : Nat) (σk : Sg) (fk : Nat → Int32) (y14 : Int32) (b : Bool) (tk : Nat → Int32) (hkq : k + q = 10) (hG : goS q σk = goS 10 σ) (hold : old k σk) (hcm : ∀ o ∈ σk.2.2.1, o 4 < 9) (hR : Row fk σk) (hs : okS σk) (hmu0 : q < n0) (H : Heap) (locs : List Loc) (hw : jW g z s H locs) (hf : jF3 M (M + 4) (M + 8) H0 H) (hTr : jI g H (M + 4) 235 fk) (hO : jO g H M 5 [.int x0, .ref (M + 1), .int x2, .int x3, .int x4, .int x5, .ref (M + 2), .ref (M + 3), .ref (M + 4), .ref (M + 5), .int x10, .ref (M + 6), .ref (M + 7), .ref (M + 8), .int y14, .int (bI b)]) (hT8 : jI g H (M + 8) 16 tk) (ls : Array Slot) (hl : lv_has ls 1 [(0, .ref M)]), jK p l e 4 95 s m [.ref M] below meth c z H0 (q_X5_goOn g H0 M σ f x0 x2 x3 x4 x5 x10 x14 sn tk0) H locs (F0 m 0 ls []) := by
    intro n0
    induction n0 with
    | zero => intros; omega
    | succ n0 ih0 =>
      intro k q σk fk y14 b tk hkq hG hold hcm hR hs hmu0 H locs hw hf hTr hO hT8 ls hl
      have hn := hs.2.2.1
      refine lv_aload_n hx hb dX5_goOn_0 rfl (lv_at hl 0 rfl) ?_
      refine j_get (T := TX5) (N := 16) (k := 8) hx hb hts hinX5 hown hw hO rfl (by decide) (hts (.fieldLink RX5 19 "NightTrainsModel" "trial" "[I") (by decide +kernel)) rfl dX5_goOn_1 ?_
      refine lv_bipush (v := (nI (6))) hx hb dX5_goOn_4 (by decide) ?_
      refine j_iald hx hb hw hTr (k := 6) rfl (by omega) (by omega) dX5_goOn_6 ?_
      refine j_eq (y := nI (σk.2.2.1.length)) hR.2.2.1 ?_
      refine jz_le (tgt := 21) hx hb dX5_goOn_7 (by decide) (by omega) (fun c7 => ?_) (fun c7 => ?_)
      · rw [goS_stop (by omega)] at hG
        subst hG
        refine j_vret hx hb hr hlocks hH hw dX5_goOn_21 ?_
        exact ⟨rfl, ⟨⟨_, hTr, hR⟩, hs, hf⟩, y14, b, tk, hO, hT8⟩
      · have hk9 := old_lt hold hcm (fun e => by rw [e] at c7; exact absurd c7 (by decide))
        obtain ⟨q, rfl⟩ : ∃ q1, q = q1 + 1 := ⟨q - 1, by omega⟩
        have hs9 := hs
        refine lv_aload_n hx hb dX5_goOn_10 rfl (lv_at hl 0 rfl) ?_
        refine lv_aload_n hx hb dX5_goOn_11 rfl (lv_at hl 0 rfl) ?_
        refine j_get (T := TX5) (N := 16) (k := 8) hx hb hts hinX5 hown hw hO rfl (by decide) (hts (.fieldLink RX5 19 "NightTrainsModel" "trial" "[I") (by decide +kernel)) rfl dX5_goOn_12 ?_
        refine j_Vv (n := 1) (As := [.ref (M + 4)]) hx hb hml hown hts hw (j_recv hw hO rfl) (c_X5_night l g z H M (M + 4) (σk) fk x0 x2 x3 x4 x5 x10 y14 b tk hzM (by omega) (by omega) hO hTr hT8 hR hs hcm) gX5_goOn_X5_night rfl (by decide +kernel) ⟨Nat.le_of_ble_eq_true rfl, Nat.le_of_ble_eq_true rfl⟩ rfl hl.1 (Nat.le_of_ble_eq_true rfl) ⟨Nat.zero_le _, Nat.zero_le _⟩ dX5_goOn_15 (fun H locs hr1 hw hsz => ?_) rfl
        obtain ⟨⟨⟨f2, hTr, hR⟩, hs, hf2⟩, hO, tk3, hT8, htk3⟩ := hr1
        have hf := hf.cat hf2
        refine lv_goto (tgt := 0) hx hb dX5_goOn_18 (by decide) ?_
        exact ih0  (k + 1) q (nightS (σk)) f2 (nI ((trl ((σk).1 0) (σk)).length)) (b || trw ((σk).1 0) (σk)) tk3 (by first | assumption | omega) (by rw [← goS_go (by omega)]; exact hG) (night_old hold) (night_calm hs9) hR hs (by omega) H _ hw hf hTr hO hT8 _ (lv_sub hl [0] rfl)
  exact lp0 (10 + 1) 0 10 σ f x14 sn tk0 (by first | assumption | omega) rfl (fun _ _ => Nat.zero_le _) hcalm hR hs (by omega) H0 _ hw hf hTr hO hT8 _ (lv_sub hl [0] rfl)

abbrev q_X5_arrives (g : jG) (H0 : Heap) (M : Nat) (ai : Int32) (x0 : Int32) (tx : List Nat) (σ : Sg) (hi : List Sg) (sv : Nat → Option Sg) : Option Value → Heap → Prop := jN (fun r H1 => ((fArrives σ ai).1 = 0 → r = (fArrives σ ai).2) ∧ MD g H1 M (nI (fArrives σ ai).1) tx σ hi sv ∧ jF M 9 H0 H1)
set_option maxHeartbeats 4000000 in
set_option maxRecDepth 100000 in
theorem c_X5_arrives (l : Launch) (g : jG) (z : Nat) (H0 : Heap) (M : Nat) (ai : Int32) (x0 : Int32) (tx : List Nat) (σ : Sg) (hi : List Sg) (sv : Nat → Option Sg) (hzM : z ≤ M) (hMD : MD g H0 M x0 tx σ hi sv) : jM l g z yX5_arrives wsX5_arrives 4 95 [.ref M, .int ai] H0 (q_X5_arrives g H0 M ai x0 tx σ hi sv) := by
  refine j_of (cc := cX5_arrives) (n := 3) (ret := some .int) (by decide) rfl (Nat.le_of_ble_eq_true rfl) ?_
  intro p e s m below meth c hx hb hr hml hown hts hlocks hname hH hw ls hl
  have hl : lv_has ls 3 [(0, .ref M), (1, .int ai)] := hl
  have hinX5 : ∀ w ∈ u_ws RX5 TX5 16, w ∈ wsX5_arrives := by decide +kernel
  have hf : jF M 9 H0 H0 := jF.rf
  obtain ⟨x3, x4, x5, x14, sn, sc, rd, nw, tr, dy, kp, ik, tk, hO, hSc, hRd, hA, hTr, hDy, hKp, hIk, hT8, hMI⟩ := hMD
  obtain ⟨htx, hsc, hR, hN, hhi, hdy, hkp⟩ := id hMI
  obtain ⟨hs, hcalm, h20⟩ := id hN
  refine lv_aload_n hx hb dX5_arrives_0 rfl (lv_at hl 0 rfl) ?_
  refine lv_aload_n hx hb dX5_arrives_1 rfl (lv_at hl 0 rfl) ?_
  refine lv_iload_n hx hb dX5_arrives_2 rfl (lv_at hl 1 rfl) ?_
  refine j_Vp (n := 1) (As := [.int ai]) hx hb hml hown hts hw (j_recv hw hO rfl) (c_X5_isOrder l g z H0 M ai (σ) nw x0 (nI (tx.length)) x3 x4 x5 (nI (hi.length)) x14 _ hzM hO hA hR hs) gX5_arrives_X5_isOrder rfl (by decide +kernel) ⟨Nat.le_of_ble_eq_true rfl, Nat.le_of_ble_eq_true rfl⟩ rfl hl.1 (Nat.le_of_ble_eq_true rfl) ⟨Nat.zero_le _, Nat.zero_le _⟩ dX5_arrives_3 (fun r1 locs hr1 hw => ?_) rfl
  rcases hr1 with ⟨rfl, q, hq, hqa, hqn, rfl⟩ | ⟨rfl, hq⟩
  · refine jz_eq (tgt := 13) hx hb dX5_arrives_6 (by decide) (by omega) (fun c6 => absurd c6 (by omega)) (fun c6 => ?_)
    refine lv_iconst (v := (nI (0))) hx hb dX5_arrives_9 (by decide) ?_
    refine lv_goto (tgt := 14) hx hb dX5_arrives_10 (by decide) ?_
    refine j_Vi (n := 1) (As := [.int (nI (0))]) hx hb hml hown hts hw (j_recv hw hO rfl) (c_X5_refused l g z H0 M (0) x0 (nI (tx.length)) x3 x4 x5 (nI (hi.length)) x14 _ hzM hO (by first | assumption | omega)) gX5_arrives_X5_refused rfl (by decide +kernel) ⟨Nat.le_of_ble_eq_true rfl, Nat.le_of_ble_eq_true rfl⟩ rfl hl.1 (Nat.le_of_ble_eq_true rfl) ⟨Nat.zero_le _, Nat.zero_le _⟩ dX5_arrives_14 (fun r2 H locs hr2 hw hsz => ?_) rfl
    obtain ⟨hr2, hO, hf2⟩ := hr2
    obtain rfl : r2 = nI 0 := hr2
    have hO : jO g H M 5 [.int (nI (0)), .ref (M + 1), .int (nI (tx.length)), .int x3, .int x4, .int x5, .ref (M + 2), .ref (M + 3), .ref (M + 4), .ref (M + 5), .int (nI (hi.length)), .ref (M + 6), .ref (M + 7), .ref (M + 8), .int x14, .int (bI sn)] := hO
    have hSc := hSc.kept (hf2.2 _ (by omega))
    have hRd := hRd.kept (hf2.2 _ (by omega))
    have hA := hA.kept (hf2.2 _ (by omega))
    have hTr := hTr.kept (hf2.2 _ (by omega))
    have hDy := hDy.kept (hf2.2 _ (by omega))
    have hKp := hKp.kept (hf2.2 _ (by omega))
    have hIk := hIk.kept (hf2.2 _ (by omega))
    have hT8 := hT8.kept (hf2.2 _ (by omega))
    have hf := hf.step hf2 (by omega)
    refine jz_eq (tgt := 22) hx hb dX5_arrives_17 (by decide) (by omega) (fun c17 => ?_) (fun c17 => absurd c17 (by omega))
    refine lv_aload_n hx hb dX5_arrives_22 rfl (lv_at hl 0 rfl) ?_
    refine j_Vv (n := 0) (As := []) hx hb hml hown hts hw (j_recv hw hO rfl) (c_X5_tryIt l g z H M (σ) nw tr (nI (0)) (nI (tx.length)) x3 x4 x5 (nI (hi.length)) x14 _ hzM hTr hO hA hR hs) gX5_arrives_X5_tryIt rfl (by decide +kernel) ⟨Nat.le_of_ble_eq_true rfl, Nat.le_of_ble_eq_true rfl⟩ rfl hl.1 (Nat.le_of_ble_eq_true rfl) ⟨Nat.zero_le _, Nat.zero_le _⟩ dX5_arrives_23 (fun H locs hr3 hw hsz => ?_) rfl
    obtain ⟨⟨f4, hTr, hRt⟩, hst, hf2⟩ := hr3
    have hO := hO.kept (hf2.2 _ (by omega))
    have hSc := hSc.kept (hf2.2 _ (by omega))
    have hRd := hRd.kept (hf2.2 _ (by omega))
    have hA := hA.kept (hf2.2 _ (by omega))
    have hDy := hDy.kept (hf2.2 _ (by omega))
    have hKp := hKp.kept (hf2.2 _ (by omega))
    have hIk := hIk.kept (hf2.2 _ (by omega))
    have hT8 := hT8.kept (hf2.2 _ (by omega))
    have hf := hf.step hf2 (by omega)
    obtain ⟨o, ho⟩ := getO hqn
    have hn21 := hs.2.2.1
    refine lv_aload_n hx hb dX5_arrives_26 rfl (lv_at hl 0 rfl) ?_
    refine j_get (T := TX5) (N := 16) (k := 8) hx hb hts hinX5 hown hw hO rfl (by decide) (hts (.fieldLink RX5 19 "NightTrainsModel" "trial" "[I") (by decide +kernel)) rfl dX5_arrives_27 ?_
    refine lv_iload_n hx hb dX5_arrives_30 rfl (lv_at hl 1 rfl) ?_
    refine lv_iconst (v := (nI (5))) hx hb dX5_arrives_31 (by decide) ?_
    refine j_Sp (n := 2) (As := [.int (nI (q)), .int (nI (5))]) hx hb hml hown hts hw (c_X5_at l g z H (q) (5)   ) gX5_arrives_X5_at rfl (by decide +kernel) ⟨Nat.le_of_ble_eq_true rfl, Nat.le_of_ble_eq_true rfl⟩ rfl hl.1 (Nat.le_of_ble_eq_true rfl) ⟨Nat.zero_le _, Nat.zero_le _⟩ dX5_arrives_32 (fun r5 locs hr5 hw => ?_) rfl
    obtain rfl : r5 = (nI (109 + 6 * (q) + (5))) := hr5
    refine lv_iconst (v := (nI (1))) hx hb dX5_arrives_35 (by decide) ?_
    refine j_iast hx hb hw hTr (by omega) (k := 109 + 6 * (q) + (5)) rfl (by omega) (by omega) dX5_arrives_36 (fun H locs hw hTr oq hsz => ?_)
    obtain ⟨f6, ef6⟩ : ∃ y9, y9 = upd f4 (109 + 6 * (q) + (5)) (nI (1)) := ⟨_, rfl⟩
    rw [← ef6] at hTr
    have hO := hO.kept (oq _ (by omega))
    have hSc := hSc.kept (oq _ (by omega))
    have hRd := hRd.kept (oq _ (by omega))
    have hA := hA.kept (oq _ (by omega))
    have hDy := hDy.kept (oq _ (by omega))
    have hKp := hKp.kept (oq _ (by omega))
    have hIk := hIk.kept (oq _ (by omega))
    have hT8 := hT8.kept (oq _ (by omega))
    have hf := hf.put oq hsz (by omega)
    have hRt := hRt.so hst (i := q) (w := 5) (v := 1) ho (by omega) rfl rfl
    rw [← ef6] at hRt
    have hRt : Row _ (watchS σ q o) := hRt
    have hst : okS (watchS σ q o) := okS_watch hs ho
    refine lv_aload_n hx hb dX5_arrives_37 rfl (lv_at hl 0 rfl) ?_
    refine lv_iconst (v := (nI (0))) hx hb dX5_arrives_38 (by decide) ?_
    refine j_put (T := TX5) (N := 16) (k := 15) (ty := .boolean) hx hb hts hinX5 tyX5 tyX5_ok nmX5 hown hw hO hzM rfl (by decide) (hts (.fieldLink RX5 93 "NightTrainsModel" "isSeen" "Z") (by decide +kernel)) rfl (by decide +kernel) rfl rfl (Nat.le_of_ble_eq_true rfl) dX5_arrives_39 (fun H locs hw hO oq hsz => ?_)
    have hO : jO g H M 5 [.int _, .ref _, .int _, .int _, .int _, .int _, .ref _, .ref _, .ref _, .ref _, .int _, .ref _, .ref _, .ref _, .int _, .int _] := hO
    have hSc := hSc.kept (oq _ (by omega))
    have hRd := hRd.kept (oq _ (by omega))
    have hA := hA.kept (oq _ (by omega))
    have hTr := hTr.kept (oq _ (by omega))
    have hDy := hDy.kept (oq _ (by omega))
    have hKp := hKp.kept (oq _ (by omega))
    have hIk := hIk.kept (oq _ (by omega))
    have hT8 := hT8.kept (oq _ (by omega))
    have hf := hf.put oq hsz (by omega)
    refine lv_iconst (v := (nI (0))) hx hb dX5_arrives_42 (by decide) ?_
    refine lv_istore_n (lv' := [(2, .int _), (0, .ref _), (1, .int _)]) hx hb dX5_arrives_43 rfl hl (by decide) rfl (fun ls hl => ?_)
    have lp44 : ∀ (n44 : Nat) (k : Nat) (d : Nat) (σk : Sg) (fk : Nat → Int32) (y14 : Int32) (b : Bool) (tk : Nat → Int32) (hkq : k + d = 10) (hG : arv d σk k b = arv 10 (watchS σ q o) 0 false) (hold : old k σk) (hcm : ∀ o ∈ σk.2.2.1, o 4 < 9) (hRt : Row fk σk) (hst : okS σk) (hmu44 : d < n44) (H : Heap) (locs : List Loc) (hw : jW g z s H locs) (hf : jF M 9 H0 H) (hSc : jI g H (M + 1) 120 sc) (hRd : jI g H (M + 2) 235 rd) (hA : jI g H (M + 3) 235 nw) (hDy : jI g H (M + 5) 3290 dy) (hKp : jI g H (M + 6) 470 kp) (hIk : jZ g H (M + 7) 2 ik) (hTr : jI g H (M + 4) 235 fk) (hO : jO g H M 5 [.int (nI (0)), .ref (M + 1), .int (nI (tx.length)), .int x3, .int x4, .int x5, .ref (M + 2), .ref (M + 3), .ref (M + 4), .ref (M + 5), .int (nI (hi.length)), .ref (M + 6), .ref (M + 7), .ref (M + 8), .int y14, .int (bI b)]) (hT8 : jI g H (M + 8) 16 tk) (ls : Array Slot) (hl : lv_has ls 3 [(0, .ref M), (1, .int (nI (q))), (2, .int (nI (k)))]), jK p l e 4 95 s m [.ref M, .int (nI (q))] below meth c z H0 (q_X5_arrives g H0 M (nI (q)) x0 tx σ hi sv) H locs (F0 m 44 ls []) := by
      intro n44
      induction n44 with
      | zero => intros; omega
      | succ n44 ih44 =>
        intro k d σk fk y14 b tk hkq hG hold hcm hRt hst hmu44 H locs hw hf hSc hRd hA hDy hKp hIk hTr hO hT8 ls hl
        have hn9 := hst.2.2.1
        refine lv_aload_n hx hb dX5_arrives_44 rfl (lv_at hl 0 rfl) ?_
        refine j_Vp (n := 0) (As := []) hx hb hml hown hts hw (j_recv hw hO rfl) (c_X5_isWatched l g z H M (σk) fk (nI (0)) (nI (tx.length)) x3 x4 x5 (nI (hi.length)) y14 _  hO hTr hRt hst) gX5_arrives_X5_isWatched rfl (by decide +kernel) ⟨Nat.le_of_ble_eq_true rfl, Nat.le_of_ble_eq_true rfl⟩ rfl hl.1 (Nat.le_of_ble_eq_true rfl) ⟨Nat.zero_le _, Nat.zero_le _⟩ dX5_arrives_45 (fun r7 locs hr7 hw => ?_) rfl
        obtain rfl : r7 = (bI (anyW (σk).2.2.1)) := hr7
        refine lv_if_eq (tgt := 65) hx hb dX5_arrives_48 (by decide) (fun c48 => ?_) (fun c48 => ?_)
        · rw [arv_stop (bI_eq c48)] at hG
          refine lv_aload_n hx hb dX5_arrives_65 rfl (lv_at hl 0 rfl) ?_
          refine j_get (T := TX5) (N := 16) (k := 15) hx hb hts hinX5 hown hw hO rfl (by decide) (hts (.fieldLink RX5 93 "NightTrainsModel" "isSeen" "Z") (by decide +kernel)) rfl dX5_arrives_66 ?_
          refine lv_if_eq (tgt := 76) hx hb dX5_arrives_69 (by decide) (fun c69 => ?_) (fun c69 => ?_)
          · refine lv_iconst (v := (-1)) hx hb dX5_arrives_76 (by decide) ?_
            refine j_iret hx hb hr hlocks hH hw dX5_arrives_77 ?_
            have e9 : fArrives σ (nI (q)) = (0, -1) := by simp only [fArrives, hq, ho]; rw [← hG]; show (0, if b = true then nI k else -1) = _; rw [bI_eq c69]; rfl
            exact ⟨_, rfl, by rw [e9]; exact ⟨fun _ => rfl, ⟨x3, x4, x5, y14, b, sc, rd, nw, fk, dy, kp, ik, tk, hO, hSc, hRd, hA, hTr, hDy, hKp, hIk, hT8, hMI⟩, hf⟩⟩
          · refine lv_iload_n hx hb dX5_arrives_72 rfl (lv_at hl 2 rfl) ?_
            refine lv_goto (tgt := 77) hx hb dX5_arrives_73 (by decide) ?_
            refine j_iret hx hb hr hlocks hH hw dX5_arrives_77 ?_
            have e9 : fArrives σ (nI (q)) = (0, nI k) := by simp only [fArrives, hq, ho]; rw [← hG]; show (0, if b = true then nI k else -1) = _; rw [bI_ne c69]; rfl
            exact ⟨_, rfl, by rw [e9]; exact ⟨fun _ => rfl, ⟨x3, x4, x5, y14, b, sc, rd, nw, fk, dy, kp, ik, tk, hO, hSc, hRd, hA, hTr, hDy, hKp, hIk, hT8, hMI⟩, hf⟩⟩
        · have hyw := bI_ne c48
          have hk9 := old_lt hold hcm (fun e => by rw [e] at hyw; cases hyw)
          obtain ⟨d, rfl⟩ : ∃ d1, d = d1 + 1 := ⟨d - 1, by omega⟩
          have hs9 := hst
          refine lv_aload_n hx hb dX5_arrives_51 rfl (lv_at hl 0 rfl) ?_
          refine lv_aload_n hx hb dX5_arrives_52 rfl (lv_at hl 0 rfl) ?_
          refine j_get (T := TX5) (N := 16) (k := 8) hx hb hts hinX5 hown hw hO rfl (by decide) (hts (.fieldLink RX5 19 "NightTrainsModel" "trial" "[I") (by decide +kernel)) rfl dX5_arrives_53 ?_
          refine j_Vv (n := 1) (As := [.ref (M + 4)]) hx hb hml hown hts hw (j_recv hw hO rfl) (c_X5_night l g z H M (M + 4) (σk) fk (nI (0)) (nI (tx.length)) x3 x4 x5 (nI (hi.length)) y14 b tk hzM (by omega) (by omega) hO hTr hT8 hRt hst hcm) gX5_arrives_X5_night rfl (by decide +kernel) ⟨Nat.le_of_ble_eq_true rfl, Nat.le_of_ble_eq_true rfl⟩ rfl hl.1 (Nat.le_of_ble_eq_true rfl) ⟨Nat.zero_le _, Nat.zero_le _⟩ dX5_arrives_56 (fun H locs hr8 hw hsz => ?_) rfl
          obtain ⟨⟨⟨f9, hTr, hRt⟩, hst, hf2⟩, hO, tk10, hT8, htk10⟩ := hr8
          have hSc := hSc.kept (hf2.2 _ (by omega) (by omega) (by omega))
          have hRd := hRd.kept (hf2.2 _ (by omega) (by omega) (by omega))
          have hA := hA.kept (hf2.2 _ (by omega) (by omega) (by omega))
          have hDy := hDy.kept (hf2.2 _ (by omega) (by omega) (by omega))
          have hKp := hKp.kept (hf2.2 _ (by omega) (by omega) (by omega))
          have hIk := hIk.kept (hf2.2 _ (by omega) (by omega) (by omega))
          have hf := hf.three hf2 (by omega) (by omega) (by omega)
          refine lv_iinc (v := nI (k + 1)) (lv' := [(2, .int _), (0, .ref _), (1, .int _)]) hx hb dX5_arrives_59 hl (k := 2) rfl (nI_add _ 1) (by decide) rfl (fun ls hl => ?_)
          refine lv_goto (tgt := 44) hx hb dX5_arrives_62 (by decide) ?_
          exact ih44  (k + 1) d (nightS (σk)) f9 (nI ((trl ((σk).1 0) (σk)).length)) (b || trw ((σk).1 0) (σk)) tk10 (by first | assumption | omega) (by rw [← arv_go hyw]; exact hG) (night_old hold) (night_calm hs9) hRt hst (by omega) H _ hw hf hSc hRd hA hDy hKp hIk hTr hO hT8 _ (lv_sub hl [1, 2, 0] rfl)
    exact lp44 (10 + 1) 0 10 (watchS σ q o) f6 x14 false tk (by first | assumption | omega) rfl (fun _ _ => Nat.zero_le _) (calm_watch hcalm ho) hRt hst (by omega) H _ hw hf hSc hRd hA hDy hKp hIk hTr hO hT8 _ (lv_sub hl [1, 2, 0] rfl)
  · refine jz_eq (tgt := 13) hx hb dX5_arrives_6 (by decide) (by omega) (fun c6 => ?_) (fun c6 => absurd c6 (by omega))
    refine lv_iconst (v := (nI (1))) hx hb dX5_arrives_13 (by decide) ?_
    refine j_Vi (n := 1) (As := [.int (nI (1))]) hx hb hml hown hts hw (j_recv hw hO rfl) (c_X5_refused l g z H0 M (1) x0 (nI (tx.length)) x3 x4 x5 (nI (hi.length)) x14 _ hzM hO (by first | assumption | omega)) gX5_arrives_X5_refused rfl (by decide +kernel) ⟨Nat.le_of_ble_eq_true rfl, Nat.le_of_ble_eq_true rfl⟩ rfl hl.1 (Nat.le_of_ble_eq_true rfl) ⟨Nat.zero_le _, Nat.zero_le _⟩ dX5_arrives_14 (fun r11 H locs hr11 hw hsz => ?_) rfl
    obtain ⟨hr11, hO, hf2⟩ := hr11
    obtain rfl : r11 = nI 1 := hr11
    have hO : jO g H M 5 [.int (nI (1)), .ref (M + 1), .int (nI (tx.length)), .int x3, .int x4, .int x5, .ref (M + 2), .ref (M + 3), .ref (M + 4), .ref (M + 5), .int (nI (hi.length)), .ref (M + 6), .ref (M + 7), .ref (M + 8), .int x14, .int (bI sn)] := hO
    have hSc := hSc.kept (hf2.2 _ (by omega))
    have hRd := hRd.kept (hf2.2 _ (by omega))
    have hA := hA.kept (hf2.2 _ (by omega))
    have hTr := hTr.kept (hf2.2 _ (by omega))
    have hDy := hDy.kept (hf2.2 _ (by omega))
    have hKp := hKp.kept (hf2.2 _ (by omega))
    have hIk := hIk.kept (hf2.2 _ (by omega))
    have hT8 := hT8.kept (hf2.2 _ (by omega))
    have hf := hf.step hf2 (by omega)
    refine jz_eq (tgt := 22) hx hb dX5_arrives_17 (by decide) (by omega) (fun c17 => absurd c17 (by omega)) (fun c17 => ?_)
    refine lv_iconst (v := (nI (0))) hx hb dX5_arrives_20 (by decide) ?_
    refine j_iret hx hb hr hlocks hH hw dX5_arrives_21 ?_
    have e9 : fArrives σ ai = (1, 0) := by simp only [fArrives, hq]
    exact ⟨_, rfl, by rw [e9]; exact ⟨fun h9 => absurd h9 (Nat.succ_ne_zero _), ⟨x3, x4, x5, x14, sn, sc, rd, nw, tr, dy, kp, ik, tk, hO, hSc, hRd, hA, hTr, hDy, hKp, hIk, hT8, hMI⟩, hf⟩⟩
