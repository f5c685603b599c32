abbrev q_X5_readText (g : jG) (H0 : Heap) (M : Nat) (x0 : Int32) (x3 : Int32) (x4 : Int32) (x5 : Int32) (x10 : Int32) (x14 : Int32) (sn : Bool) (tx : List Nat) (sc : Nat → Int32) (f : Nat → Int32) (tk0 : Nat → Int32) : Option Value → Heap → Prop := jN (fun r H1 => r = fErr tx ∧ ∃ x3 x4 y14 sn1 f1 tk, jO g H1 M 5 [.int x0, .ref (M + 1), .int (nI tx.length), .int x3, .int x4, .int (nI (rdText tx).2.2.1), .ref (M + 2), .ref (M + 3), .ref (M + 4), .ref (M + 5), .int x10, .ref (M + 6), .ref (M + 7), .ref (M + 8), .int y14, .int (bI sn1)] ∧ jI g H1 (M + 2) 235 f1 ∧ Row f1 (rdText tx).2.2.2 ∧ okN (rdText tx).2.2.2 ∧ jI g H1 (M + 8) 16 tk ∧ jF3 M (M + 2) (M + 8) H0 H1)
set_option maxHeartbeats 4000000 in
set_option maxRecDepth 100000 in
theorem c_X5_readText (l : Launch) (g : jG) (z : Nat) (H0 : Heap) (M : Nat) (x0 : Int32) (x3 : Int32) (x4 : Int32) (x5 : Int32) (x10 : Int32) (x14 : Int32) (sn : Bool) (tx : List Nat) (sc : Nat → Int32) (f : Nat → Int32) (tk0 : Nat → Int32) (hzM : z ≤ M) (hO : jO g H0 M 5 [.int x0, .ref (M + 1), .int (nI (tx.length)), .int x3, .int x4, .int x5, .ref (M + 2), .ref (M + 3), .ref (M + 4), .ref (M + 5), .int x10, .ref (M + 6), .ref (M + 7), .ref (M + 8), .int x14, .int (bI sn)]) (hSc : jI g H0 (M + 1) 120 sc) (hA : jI g H0 (M + 2) 235 f) (hT8 : jI g H0 (M + 8) 16 tk0) (hsc : tIs sc tx) (htx : tx.length ≤ 120) : jM l g z yX5_readText wsX5_readText 6 140 [.ref M] H0 (q_X5_readText g H0 M x0 x3 x4 x5 x10 x14 sn tx sc f tk0) := by
  refine j_of (cc := cX5_readText) (n := 2) (ret := some .int) (by decide) rfl (Nat.le_of_ble_eq_true rfl) ?_
  intro p e s m below meth c hx hb hr hml hown hts hlocks hname hH hw ls hl
  have hl : lv_has ls 2 [(0, .ref M)] := hl
  have hinX5 : ∀ w ∈ u_ws RX5 TX5 16, w ∈ wsX5_readText := by decide +kernel
  have hf : jF3 M (M + 2) (M + 8) H0 H0 := jF3.rf
  refine lv_aload_n hx hb dX5_readText_0 rfl (lv_at hl 0 rfl) ?_
  refine lv_iconst (v := (nI (0))) hx hb dX5_readText_1 (by decide) ?_
  refine j_put (T := TX5) (N := 16) (k := 3) (ty := .int) hx hb hts hinX5 tyX5 tyX5_ok nmX5 hown hw hO hzM rfl (by decide) (hts (.fieldLink RX5 122 "NightTrainsModel" "spot" "I") (by decide +kernel)) rfl (by decide +kernel) rfl rfl (Nat.le_of_ble_eq_true rfl) dX5_readText_2 (fun H locs hw hO oq hsz => ?_)
  have hO : jO g H M 5 [.int _, .ref _, .int _, .int _, .int _, .int _, .ref _, .ref _, .ref _, .ref _, .int _, .ref _, .ref _, .ref _, .int _, .int _] := hO
  have hSc := hSc.kept (oq _ (by omega))
  have hA := hA.kept (oq _ (by omega))
  have hT8 := hT8.kept (oq _ (by omega))
  have hf := hf.put oq hsz (by omega)
  refine lv_aload_n hx hb dX5_readText_5 rfl (lv_at hl 0 rfl) ?_
  refine lv_iconst (v := (nI (1))) hx hb dX5_readText_6 (by decide) ?_
  refine j_put (T := TX5) (N := 16) (k := 4) (ty := .boolean) hx hb hts hinX5 tyX5 tyX5_ok nmX5 hown hw hO hzM rfl (by decide) (hts (.fieldLink RX5 125 "NightTrainsModel" "isGood" "Z") (by decide +kernel)) rfl (by decide +kernel) rfl rfl (Nat.le_of_ble_eq_true rfl) dX5_readText_7 (fun H locs hw hO oq hsz => ?_)
  have hO : jO g H M 5 [.int _, .ref _, .int _, .int _, .int _, .int _, .ref _, .ref _, .ref _, .ref _, .int _, .ref _, .ref _, .ref _, .int _, .int _] := hO
  have hSc := hSc.kept (oq _ (by omega))
  have hA := hA.kept (oq _ (by omega))
  have hT8 := hT8.kept (oq _ (by omega))
  have hf := hf.put oq hsz (by omega)
  refine lv_aload_n hx hb dX5_readText_10 rfl (lv_at hl 0 rfl) ?_
  refine lv_iconst (v := (nI (0))) hx hb dX5_readText_11 (by decide) ?_
  refine j_put (T := TX5) (N := 16) (k := 5) (ty := .int) hx hb hts hinX5 tyX5 tyX5_ok nmX5 hown hw hO hzM rfl (by decide) (hts (.fieldLink RX5 141 "NightTrainsModel" "leftOut" "I") (by decide +kernel)) rfl (by decide +kernel) rfl rfl (Nat.le_of_ble_eq_true rfl) dX5_readText_12 (fun H locs hw hO oq hsz => ?_)
  have hO : jO g H M 5 [.int _, .ref _, .int _, .int _, .int _, .int _, .ref _, .ref _, .ref _, .ref _, .int _, .ref _, .ref _, .ref _, .int _, .int _] := hO
  have hSc := hSc.kept (oq _ (by omega))
  have hA := hA.kept (oq _ (by omega))
  have hT8 := hT8.kept (oq _ (by omega))
  have hf := hf.put oq hsz (by omega)
  refine lv_aload_n hx hb dX5_readText_15 rfl (lv_at hl 0 rfl) ?_
  refine j_get (T := TX5) (N := 16) (k := 6) hx hb hts hinX5 hown hw hO rfl (by decide) (hts (.fieldLink RX5 13 "NightTrainsModel" "read" "[I") (by decide +kernel)) rfl dX5_readText_16 ?_
  refine j_Sv (n := 1) (As := [.ref (M + 2)]) hx hb hml hown hts hw (c_X5_clean l g z H (M + 2) f (by omega) hA ) gX5_readText_X5_clean rfl (by decide +kernel) ⟨Nat.le_of_ble_eq_true rfl, Nat.le_of_ble_eq_true rfl⟩ rfl hl.1 (Nat.le_of_ble_eq_true rfl) ⟨Nat.zero_le _, Nat.zero_le _⟩ dX5_readText_19 (fun H locs hr1 hw hsz => ?_) rfl
  obtain ⟨f2, hA, hR9, hf2⟩ := hr1
  have hO := hO.kept (hf2.2 _ (by omega))
  have hSc := hSc.kept (hf2.2 _ (by omega))
  have hT8 := hT8.kept (hf2.2 _ (by omega))
  have hf := hf.step hf2 (by omega)
  refine lv_aload_n hx hb dX5_readText_22 rfl (lv_at hl 0 rfl) ?_
  refine lv_aload_n hx hb dX5_readText_23 rfl (lv_at hl 0 rfl) ?_
  refine lv_bipush (v := (nI (68))) hx hb dX5_readText_24 (by decide) ?_
  refine j_Vp (n := 1) (As := [.int (nI (68))]) hx hb hml hown hts hw (j_recv hw hO rfl) (c_X5_isNext l g z H M (68) x0 (nI (0)) x10 x14 _ _ (0) (nI (1)) sc  hO hSc (by first | assumption | omega) (by first | assumption | omega) (by first | assumption | omega) (by first | assumption | omega)) gX5_readText_X5_isNext rfl (by decide +kernel) ⟨Nat.le_of_ble_eq_true rfl, Nat.le_of_ble_eq_true rfl⟩ rfl hl.1 (Nat.le_of_ble_eq_true rfl) ⟨Nat.zero_le _, Nat.zero_le _⟩ dX5_readText_26 (fun r3 locs h68 hw => ?_) rfl
  rcases h68 with ⟨rfl, h68⟩ | ⟨rfl, h68⟩
  · refine j_Vv (n := 1) (As := [.int (nI (1))]) hx hb hml hown hts hw (j_recv hw hO rfl) (c_X5_acceptG l g z H M (1) x0 (nI (0)) x10 x14 _ _ (0) hzM hO (by first | assumption | omega)) gX5_readText_X5_accept rfl (by decide +kernel) ⟨Nat.le_of_ble_eq_true rfl, Nat.le_of_ble_eq_true rfl⟩ rfl hl.1 (Nat.le_of_ble_eq_true rfl) ⟨Nat.zero_le _, Nat.zero_le _⟩ dX5_readText_29 (fun H locs hr4 hw hsz => ?_) rfl
    obtain ⟨hO, hf2⟩ := hr4
    have hO : jO g H M 5 [.int x0, .ref (M + 1), .int (nI (tx.length)), .int (nI (1)), .int (nI (1)), .int (nI (0)), .ref (M + 2), .ref (M + 3), .ref (M + 4), .ref (M + 5), .int x10, .ref (M + 6), .ref (M + 7), .ref (M + 8), .int x14, .int (bI sn)] := hO
    have hSc := hSc.kept (hf2.2 _ (by omega))
    have hA := hA.kept (hf2.2 _ (by omega))
    have hT8 := hT8.kept (hf2.2 _ (by omega))
    have hf := hf.step hf2 (by omega)
    refine lv_iconst (v := (nI (0))) hx hb dX5_readText_32 (by decide) ?_
    refine lv_istore_n (lv' := [(1, .int _), (0, .ref _)]) hx hb dX5_readText_33 rfl hl (by decide) rfl (fun ls hl => ?_)
    have lp34 : ∀ (n34 : Nat) (k : Nat) (sp : Nat) (gd : Bool) (σk : Sg) (fk : Nat → Int32) (hk : k ≤ 5) (hHd : hdS tx k = (sp, gd, σk)) (hN : okN σk) (hR : Row fk σk) (hsp : sp ≤ tx.length) (hmu34 : 5 - k < n34) (H : Heap) (locs : List Loc) (hw : jW g z s H locs) (hf : jF3 M (M + 2) (M + 8) H0 H) (hO : jO g H M 5 [.int x0, .ref (M + 1), .int (nI (tx.length)), .int (nI (sp)), .int (bI gd), .int (nI (0)), .ref (M + 2), .ref (M + 3), .ref (M + 4), .ref (M + 5), .int x10, .ref (M + 6), .ref (M + 7), .ref (M + 8), .int x14, .int (bI sn)]) (hSc : jI g H (M + 1) 120 sc) (hA : jI g H (M + 2) 235 fk) (hT8 : jI g H (M + 8) 16 tk0) (ls : Array Slot) (hl : lv_has ls 2 [(0, .ref M), (1, .int (nI (k)))]), jK p l e 6 140 s m [.ref M] below meth c z H0 (q_X5_readText g H0 M x0 x3 x4 x5 x10 x14 sn tx sc f tk0) H locs (F0 m 34 ls []) := by
      intro n34
      induction n34 with
      | zero => intros; omega
      | succ n34 ih34 =>
        intro k sp gd σk fk hk hHd hN hR hsp hmu34 H locs hw hf hO hSc hA hT8 ls hl
        have lp63 : ∀ (n63 : Nat) (sp : Nat) (lo : Nat) (gd : Bool) (σk : Sg) (fk : Nat → Int32) (d : Nat) (y14 : Int32) (b : Bool) (tk : Nat → Int32) (hG : cont tx gd d sp lo σk = rdText tx) (hN : okN σk) (hR : Row fk σk) (hsp : sp ≤ tx.length) (hd5 : gd = true → tx.length ≤ sp + d) (hmu63 : d < n63) (H : Heap) (locs : List Loc) (hw : jW g z s H locs) (hf : jF3 M (M + 2) (M + 8) H0 H) (hO : jO g H M 5 [.int x0, .ref (M + 1), .int (nI (tx.length)), .int (nI (sp)), .int (bI gd), .int (nI (lo)), .ref (M + 2), .ref (M + 3), .ref (M + 4), .ref (M + 5), .int x10, .ref (M + 6), .ref (M + 7), .ref (M + 8), .int y14, .int (bI b)]) (hSc : jI g H (M + 1) 120 sc) (hA : jI g H (M + 2) 235 fk) (hT8 : jI g H (M + 8) 16 tk) (ls : Array Slot) (hl : lv_has ls 2 [(0, .ref M)]), jK p l e 6 140 s m [.ref M] below meth c z H0 (q_X5_readText g H0 M x0 x3 x4 x5 x10 x14 sn tx sc f tk0) H locs (F0 m 63 ls []) := by
          intro n63
          induction n63 with
          | zero => intros; omega
          | succ n63 ih63 =>
            intro sp lo gd σk fk d y14 b tk hG hN hR hsp hd5 hmu63 H locs hw hf hO hSc hA hT8 ls hl
            rcases gd with _ | _
            · have hO : jO g H M 5 [.int x0, .ref (M + 1), .int (nI (tx.length)), .int (nI (sp)), .int (nI (0)), .int (nI (lo)), .ref (M + 2), .ref (M + 3), .ref (M + 4), .ref (M + 5), .int x10, .ref (M + 6), .ref (M + 7), .ref (M + 8), .int y14, .int (bI b)] := hO
              refine lv_aload_n hx hb dX5_readText_63 rfl (lv_at hl 0 rfl) ?_
              refine j_get (T := TX5) (N := 16) (k := 4) hx hb hts hinX5 hown hw hO rfl (by decide) (hts (.fieldLink RX5 125 "NightTrainsModel" "isGood" "Z") (by decide +kernel)) rfl dX5_readText_64 ?_
              refine jz_eq (tgt := 88) hx hb dX5_readText_67 (by decide) (by omega) (fun c67 => ?_) (fun c67 => absurd c67 (by omega))
              refine lv_aload_n hx hb dX5_readText_88 rfl (lv_at hl 0 rfl) ?_
              refine j_get (T := TX5) (N := 16) (k := 4) hx hb hts hinX5 hown hw hO rfl (by decide) (hts (.fieldLink RX5 125 "NightTrainsModel" "isGood" "Z") (by decide +kernel)) rfl dX5_readText_89 ?_
              refine jz_eq (tgt := 99) hx hb dX5_readText_92 (by decide) (by omega) (fun c92 => ?_) (fun c92 => absurd c92 (by omega))
              refine lv_aload_n hx hb dX5_readText_99 rfl (lv_at hl 0 rfl) ?_
              refine j_get (T := TX5) (N := 16) (k := 3) hx hb hts hinX5 hown hw hO rfl (by decide) (hts (.fieldLink RX5 122 "NightTrainsModel" "spot" "I") (by decide +kernel)) rfl dX5_readText_100 ?_
              refine j_iret hx hb hr hlocks hH hw dX5_readText_103 ?_
              have e9 : rdText tx = (sp, false, lo, σk) := by rw [← hG]; rfl
              exact ⟨_, rfl, by unfold fErr; rw [e9]; rfl, by rw [e9]; exact ⟨_, _, _, _, _, _, hO, hA, hR, hN, hT8, hf⟩⟩
            · have hO : jO g H M 5 [.int x0, .ref (M + 1), .int (nI (tx.length)), .int (nI (sp)), .int (nI (1)), .int (nI (lo)), .ref (M + 2), .ref (M + 3), .ref (M + 4), .ref (M + 5), .int x10, .ref (M + 6), .ref (M + 7), .ref (M + 8), .int y14, .int (bI b)] := hO
              refine lv_aload_n hx hb dX5_readText_63 rfl (lv_at hl 0 rfl) ?_
              refine j_get (T := TX5) (N := 16) (k := 4) hx hb hts hinX5 hown hw hO rfl (by decide) (hts (.fieldLink RX5 125 "NightTrainsModel" "isGood" "Z") (by decide +kernel)) rfl dX5_readText_64 ?_
              refine jz_eq (tgt := 88) hx hb dX5_readText_67 (by decide) (by omega) (fun c67 => absurd c67 (by omega)) (fun c67 => ?_)
              refine lv_aload_n hx hb dX5_readText_70 rfl (lv_at hl 0 rfl) ?_
              refine j_get (T := TX5) (N := 16) (k := 3) hx hb hts hinX5 hown hw hO rfl (by decide) (hts (.fieldLink RX5 122 "NightTrainsModel" "spot" "I") (by decide +kernel)) rfl dX5_readText_71 ?_
              refine lv_aload_n hx hb dX5_readText_74 rfl (lv_at hl 0 rfl) ?_
              refine j_get (T := TX5) (N := 16) (k := 2) hx hb hts hinX5 hown hw hO rfl (by decide) (hts (.fieldLink RX5 115 "NightTrainsModel" "scriptSize" "I") (by decide +kernel)) rfl dX5_readText_75 ?_
              refine jn_ge (tgt := 88) hx hb dX5_readText_78 (by decide) (by omega) (by omega) (fun c78 => ?_) (fun c78 => ?_)
              · refine lv_aload_n hx hb dX5_readText_88 rfl (lv_at hl 0 rfl) ?_
                refine j_get (T := TX5) (N := 16) (k := 4) hx hb hts hinX5 hown hw hO rfl (by decide) (hts (.fieldLink RX5 125 "NightTrainsModel" "isGood" "Z") (by decide +kernel)) rfl dX5_readText_89 ?_
                refine jz_eq (tgt := 99) hx hb dX5_readText_92 (by decide) (by omega) (fun c92 => absurd c92 (by omega)) (fun c92 => ?_)
                refine lv_iconst (v := (-1)) hx hb dX5_readText_95 (by decide) ?_
                refine lv_goto (tgt := 103) hx hb dX5_readText_96 (by decide) ?_
                refine j_iret hx hb hr hlocks hH hw dX5_readText_103 ?_
                have e9 : rdText tx = (sp, true, lo, σk) := by rw [← hG]; exact cont_end (by omega)
                exact ⟨_, rfl, by unfold fErr; rw [e9]; rfl, by rw [e9]; exact ⟨_, _, _, _, _, _, hO, hA, hR, hN, hT8, hf⟩⟩
              · obtain ⟨d, rfl⟩ : ∃ d1, d = d1 + 1 := ⟨d - 1, by have := hd5 rfl; omega⟩
                have hd6 := hd5 rfl
                refine lv_aload_n hx hb dX5_readText_81 rfl (lv_at hl 0 rfl) ?_
                refine j_Vv (n := 0) (As := []) hx hb hml hown hts hw (j_recv hw hO rfl) (c_X5_readCommand l g z H M (σk) fk x0 x10 y14 b _ (sp) (lo) sc tk hzM hO hSc hA hT8 (by first | assumption | omega) (by first | assumption | omega) (by first | assumption | omega) hR (by first | assumption | omega)) gX5_readText_X5_readCommand rfl (by decide +kernel) ⟨Nat.le_of_ble_eq_true rfl, Nat.le_of_ble_eq_true rfl⟩ rfl hl.1 (Nat.le_of_ble_eq_true rfl) ⟨Nat.zero_le _, Nat.zero_le _⟩ dX5_readText_82 (fun H locs hr5 hw hsz => ?_) rfl
                obtain ⟨s1, gd1, lo1, σ1, y14g, sng, tk7, hrd, hO, ⟨f6, hA, hR⟩, hT8, hf2⟩ := hr5
                have hSc := hSc.kept (hf2.2 _ (by omega) (by omega) (by omega))
                have hf := hf.cat hf2
                have hN := okN_rdOne (tx := tx) (sp := sp) (lo := lo) hN
                have hle := rdOne_le (by omega) hrd
                rw [hrd] at hN
                refine lv_goto (tgt := 63) hx hb dX5_readText_85 (by decide) ?_
                exact ih63  s1 lo1 gd1 σ1 f6 d y14g sng tk7 (by rw [← cont_go (by omega) hrd]; exact hG) hN hR hle.1 (fun q => by have := hle.2 q; omega) (by omega) H _ hw hf hO hSc hA hT8 _ (lv_sub hl [0] rfl)
        refine lv_iload_n hx hb dX5_readText_34 rfl (lv_at hl 1 rfl) ?_
        refine lv_iconst (v := (nI (5))) hx hb dX5_readText_35 (by decide) ?_
        refine jn_ge (tgt := 63) hx hb dX5_readText_36 (by decide) (by omega) (by omega) (fun c36 => ?_) (fun c36 => ?_)
        · exact lp63 (120 + 1) sp 0 gd σk fk 120 x14 sn tk0 (rdText_of (by have h5 : k = 5 := (by omega); rw [← h5]; exact hHd)).symm hN hR hsp (fun _ => by omega) (by omega) H _ hw hf hO hSc hA hT8 _ (lv_sub hl [0] rfl)
        · rcases gd with _ | _
          · have hO : jO g H M 5 [.int x0, .ref (M + 1), .int (nI (tx.length)), .int (nI (sp)), .int (nI (0)), .int (nI (0)), .ref (M + 2), .ref (M + 3), .ref (M + 4), .ref (M + 5), .int x10, .ref (M + 6), .ref (M + 7), .ref (M + 8), .int x14, .int (bI sn)] := hO
            refine lv_aload_n hx hb dX5_readText_39 rfl (lv_at hl 0 rfl) ?_
            refine j_get (T := TX5) (N := 16) (k := 6) hx hb hts hinX5 hown hw hO rfl (by decide) (hts (.fieldLink RX5 13 "NightTrainsModel" "read" "[I") (by decide +kernel)) rfl dX5_readText_40 ?_
            refine lv_iload_n hx hb dX5_readText_43 rfl (lv_at hl 1 rfl) ?_
            refine lv_aload_n hx hb dX5_readText_44 rfl (lv_at hl 0 rfl) ?_
            refine lv_iload_n hx hb dX5_readText_45 rfl (lv_at hl 1 rfl) ?_
            have hlh := loS_hiS (show k < 5 by omega)
            refine j_Sp (n := 1) (As := [.int (nI (k))]) hx hb hml hown hts hw (c_X5_least l g z H (k)   (by first | assumption | omega)) gX5_readText_X5_least rfl (by decide +kernel) ⟨Nat.le_of_ble_eq_true rfl, Nat.le_of_ble_eq_true rfl⟩ rfl hl.1 (Nat.le_of_ble_eq_true rfl) ⟨Nat.zero_le _, Nat.zero_le _⟩ dX5_readText_46 (fun r8 locs hr8 hw => ?_) rfl
            obtain rfl : r8 = (nI (loS (k))) := hr8
            refine lv_iload_n hx hb dX5_readText_49 rfl (lv_at hl 1 rfl) ?_
            refine j_Sp (n := 1) (As := [.int (nI (k))]) hx hb hml hown hts hw (c_X5_most l g z H (k)   (by first | assumption | omega)) gX5_readText_X5_most rfl (by decide +kernel) ⟨Nat.le_of_ble_eq_true rfl, Nat.le_of_ble_eq_true rfl⟩ rfl hl.1 (Nat.le_of_ble_eq_true rfl) ⟨Nat.zero_le _, Nat.zero_le _⟩ dX5_readText_50 (fun r9 locs hr9 hw => ?_) rfl
            obtain rfl : r9 = (nI (hiS (k))) := hr9
            refine j_Vi (n := 2) (As := [.int (nI (loS (k))), .int (nI (hiS (k)))]) hx hb hml hown hts hw (j_recv hw hO rfl) (c_X5_digitB l g z H M (loS (k)) (hiS (k)) x0 (nI (0)) x10 x14 _ _ (sp) sc hzM hO hSc (by first | assumption | omega) (by first | assumption | omega) (by first | assumption | omega) (by first | assumption | omega) (by first | assumption | omega)) gX5_readText_X5_digit rfl (by decide +kernel) ⟨Nat.le_of_ble_eq_true rfl, Nat.le_of_ble_eq_true rfl⟩ rfl hl.1 (Nat.le_of_ble_eq_true rfl) ⟨Nat.zero_le _, Nat.zero_le _⟩ dX5_readText_53 (fun r10 H locs hr10 hw hsz => ?_) rfl
            obtain ⟨rfl, hO, hf2⟩ := hr10
            have hO : jO g H M 5 [.int x0, .ref (M + 1), .int (nI (tx.length)), .int (nI (sp)), .int (nI (0)), .int (nI (0)), .ref (M + 2), .ref (M + 3), .ref (M + 4), .ref (M + 5), .int x10, .ref (M + 6), .ref (M + 7), .ref (M + 8), .int x14, .int (bI sn)] := hO
            have hSc := hSc.kept (hf2.2 _ (by omega))
            have hA := hA.kept (hf2.2 _ (by omega))
            have hT8 := hT8.kept (hf2.2 _ (by omega))
            have hf := hf.step hf2 (by omega)
            refine j_iast hx hb hw hA (by omega) (k := k) rfl (by omega) (by omega) dX5_readText_56 (fun H locs hw hA oq hsz => ?_)
            obtain ⟨f11, ef11⟩ : ∃ y9, y9 = upd fk (k) (nI (loS (k))) := ⟨_, rfl⟩
            rw [← ef11] at hA
            have hO := hO.kept (oq _ (by omega))
            have hSc := hSc.kept (oq _ (by omega))
            have hT8 := hT8.kept (oq _ (by omega))
            have hf := hf.put oq hsz (by omega)
            have hHd := hdS_b hHd
            have hN := hN.set (k := k) (u := loS k) (by omega) (Nat.le_refl _) (loS_hiS (by omega)).1
            have hR := hR.sn (k := k) (v := (loS k)) (by omega) rfl
            rw [← ef11] at hR
            refine lv_iinc (v := nI (k + 1)) (lv' := [(1, .int _), (0, .ref _)]) hx hb dX5_readText_57 hl (k := 1) rfl (nI_add _ 1) (by decide) rfl (fun ls hl => ?_)
            refine lv_goto (tgt := 34) hx hb dX5_readText_60 (by decide) ?_
            exact ih34  (k + 1) sp false (upn σk k (loS k)) f11 (by first | assumption | omega) hHd hN hR (by omega) (by omega) H _ hw hf hO hSc hA hT8 _ (lv_sub hl [1, 0] rfl)
          · have hO : jO g H M 5 [.int x0, .ref (M + 1), .int (nI (tx.length)), .int (nI (sp)), .int (nI (1)), .int (nI (0)), .ref (M + 2), .ref (M + 3), .ref (M + 4), .ref (M + 5), .int x10, .ref (M + 6), .ref (M + 7), .ref (M + 8), .int x14, .int (bI sn)] := hO
            refine lv_aload_n hx hb dX5_readText_39 rfl (lv_at hl 0 rfl) ?_
            refine j_get (T := TX5) (N := 16) (k := 6) hx hb hts hinX5 hown hw hO rfl (by decide) (hts (.fieldLink RX5 13 "NightTrainsModel" "read" "[I") (by decide +kernel)) rfl dX5_readText_40 ?_
            refine lv_iload_n hx hb dX5_readText_43 rfl (lv_at hl 1 rfl) ?_
            refine lv_aload_n hx hb dX5_readText_44 rfl (lv_at hl 0 rfl) ?_
            refine lv_iload_n hx hb dX5_readText_45 rfl (lv_at hl 1 rfl) ?_
            have hlh := loS_hiS (show k < 5 by omega)
            refine j_Sp (n := 1) (As := [.int (nI (k))]) hx hb hml hown hts hw (c_X5_least l g z H (k)   (by first | assumption | omega)) gX5_readText_X5_least rfl (by decide +kernel) ⟨Nat.le_of_ble_eq_true rfl, Nat.le_of_ble_eq_true rfl⟩ rfl hl.1 (Nat.le_of_ble_eq_true rfl) ⟨Nat.zero_le _, Nat.zero_le _⟩ dX5_readText_46 (fun r12 locs hr12 hw => ?_) rfl
            obtain rfl : r12 = (nI (loS (k))) := hr12
            refine lv_iload_n hx hb dX5_readText_49 rfl (lv_at hl 1 rfl) ?_
            refine j_Sp (n := 1) (As := [.int (nI (k))]) hx hb hml hown hts hw (c_X5_most l g z H (k)   (by first | assumption | omega)) gX5_readText_X5_most rfl (by decide +kernel) ⟨Nat.le_of_ble_eq_true rfl, Nat.le_of_ble_eq_true rfl⟩ rfl hl.1 (Nat.le_of_ble_eq_true rfl) ⟨Nat.zero_le _, Nat.zero_le _⟩ dX5_readText_50 (fun r13 locs hr13 hw => ?_) rfl
            obtain rfl : r13 = (nI (hiS (k))) := hr13
            refine j_Vi (n := 2) (As := [.int (nI (loS (k))), .int (nI (hiS (k)))]) hx hb hml hown hts hw (j_recv hw hO rfl) (c_X5_digitG l g z H M (loS (k)) (hiS (k)) x0 (nI (0)) x10 x14 _ _ (sp) sc hzM hO hSc (by first | assumption | omega) (by first | assumption | omega) (by first | assumption | omega) (by first | assumption | omega) (by first | assumption | omega)) gX5_readText_X5_digit rfl (by decide +kernel) ⟨Nat.le_of_ble_eq_true rfl, Nat.le_of_ble_eq_true rfl⟩ rfl hl.1 (Nat.le_of_ble_eq_true rfl) ⟨Nat.zero_le _, Nat.zero_le _⟩ dX5_readText_53 (fun r14 H locs hr14 hw hsz => ?_) rfl
            rcases hr14 with ⟨v, gvd, rfl, gva, gvb, gvs, hO, hf2⟩ | ⟨gvd, rfl, hO, hf2⟩
            · have hO : jO g H M 5 [.int x0, .ref (M + 1), .int (nI (tx.length)), .int (nI ((sp + 1))), .int (nI (1)), .int (nI (0)), .ref (M + 2), .ref (M + 3), .ref (M + 4), .ref (M + 5), .int x10, .ref (M + 6), .ref (M + 7), .ref (M + 8), .int x14, .int (bI sn)] := hO
              have hSc := hSc.kept (hf2.2 _ (by omega))
              have hA := hA.kept (hf2.2 _ (by omega))
              have hT8 := hT8.kept (hf2.2 _ (by omega))
              have hf := hf.step hf2 (by omega)
              refine j_iast hx hb hw hA (by omega) (k := k) rfl (by omega) (by omega) dX5_readText_56 (fun H locs hw hA oq hsz => ?_)
              obtain ⟨f15, ef15⟩ : ∃ y9, y9 = upd fk (k) (nI (v)) := ⟨_, rfl⟩
              rw [← ef15] at hA
              have hO := hO.kept (oq _ (by omega))
              have hSc := hSc.kept (oq _ (by omega))
              have hT8 := hT8.kept (oq _ (by omega))
              have hf := hf.put oq hsz (by omega)
              have hHd := hdS_g1 hHd gvd
              have hN := hN.set (k := k) (u := v) (by omega) gva gvb
              have hR := hR.sn (k := k) (v := v) (by omega) rfl
              rw [← ef15] at hR
              refine lv_iinc (v := nI (k + 1)) (lv' := [(1, .int _), (0, .ref _)]) hx hb dX5_readText_57 hl (k := 1) rfl (nI_add _ 1) (by decide) rfl (fun ls hl => ?_)
              refine lv_goto (tgt := 34) hx hb dX5_readText_60 (by decide) ?_
              exact ih34  (k + 1) (sp + 1) true (upn σk k v) f15 (by first | assumption | omega) hHd hN hR (by omega) (by omega) H _ hw hf hO hSc hA hT8 _ (lv_sub hl [1, 0] rfl)
            · have hO : jO g H M 5 [.int x0, .ref (M + 1), .int (nI (tx.length)), .int (nI (sp)), .int (nI (0)), .int (nI (0)), .ref (M + 2), .ref (M + 3), .ref (M + 4), .ref (M + 5), .int x10, .ref (M + 6), .ref (M + 7), .ref (M + 8), .int x14, .int (bI sn)] := hO
              have hSc := hSc.kept (hf2.2 _ (by omega))
              have hA := hA.kept (hf2.2 _ (by omega))
              have hT8 := hT8.kept (hf2.2 _ (by omega))
              have hf := hf.step hf2 (by omega)
              refine j_iast hx hb hw hA (by omega) (k := k) rfl (by omega) (by omega) dX5_readText_56 (fun H locs hw hA oq hsz => ?_)
              obtain ⟨f16, ef16⟩ : ∃ y9, y9 = upd fk (k) (nI (loS (k))) := ⟨_, rfl⟩
              rw [← ef16] at hA
              have hO := hO.kept (oq _ (by omega))
              have hSc := hSc.kept (oq _ (by omega))
              have hT8 := hT8.kept (oq _ (by omega))
              have hf := hf.put oq hsz (by omega)
              have hHd := hdS_g0 hHd gvd
              have hN := hN.set (k := k) (u := loS k) (by omega) (Nat.le_refl _) (loS_hiS (by omega)).1
              have hR := hR.sn (k := k) (v := (loS k)) (by omega) rfl
              rw [← ef16] at hR
              refine lv_iinc (v := nI (k + 1)) (lv' := [(1, .int _), (0, .ref _)]) hx hb dX5_readText_57 hl (k := 1) rfl (nI_add _ 1) (by decide) rfl (fun ls hl => ?_)
              refine lv_goto (tgt := 34) hx hb dX5_readText_60 (by decide) ?_
              exact ih34  (k + 1) sp false (upn σk k (loS k)) f16 (by first | assumption | omega) hHd hN hR (by omega) (by omega) H _ hw hf hO hSc hA hT8 _ (lv_sub hl [1, 0] rfl)
    exact lp34 (5 - 0 + 1) 0 1 true S0 f2 (by first | assumption | omega) (if_pos h68) okN_S0 hR9 (Nat.pos_of_ne_zero (fun q => by rw [ch_out (by omega)] at h68; cases h68)) (by omega) H _ hw hf hO hSc hA hT8 _ (lv_sub hl [1, 0] rfl)
  · refine j_Vv (n := 1) (As := [.int (nI (0))]) hx hb hml hown hts hw (j_recv hw hO rfl) (c_X5_acceptG l g z H M (0) x0 (nI (0)) x10 x14 _ _ (0) hzM hO (by first | assumption | omega)) gX5_readText_X5_accept rfl (by decide +kernel) ⟨Nat.le_of_ble_eq_true rfl, Nat.le_of_ble_eq_true rfl⟩ rfl hl.1 (Nat.le_of_ble_eq_true rfl) ⟨Nat.zero_le _, Nat.zero_le _⟩ dX5_readText_29 (fun H locs hr17 hw hsz => ?_) rfl
    obtain ⟨hO, hf2⟩ := hr17
    have hO : jO g H M 5 [.int x0, .ref (M + 1), .int (nI (tx.length)), .int (nI (0)), .int (nI (0)), .int (nI (0)), .ref (M + 2), .ref (M + 3), .ref (M + 4), .ref (M + 5), .int x10, .ref (M + 6), .ref (M + 7), .ref (M + 8), .int x14, .int (bI sn)] := hO
    have hSc := hSc.kept (hf2.2 _ (by omega))
    have hA := hA.kept (hf2.2 _ (by omega))
    have hT8 := hT8.kept (hf2.2 _ (by omega))
    have hf := hf.step hf2 (by omega)
    refine lv_iconst (v := (nI (0))) hx hb dX5_readText_32 (by decide) ?_
    refine lv_istore_n (lv' := [(1, .int _), (0, .ref _)]) hx hb dX5_readText_33 rfl hl (by decide) rfl (fun ls hl => ?_)
    have lp34 : ∀ (n34 : Nat) (k : Nat) (sp : Nat) (gd : Bool) (σk : Sg) (fk : Nat → Int32) (hk : k ≤ 5) (hHd : hdS tx k = (sp, gd, σk)) (hN : okN σk) (hR : Row fk σk) (hsp : sp ≤ tx.length) (hmu34 : 5 - k < n34) (H : Heap) (locs : List Loc) (hw : jW g z s H locs) (hf : jF3 M (M + 2) (M + 8) H0 H) (hO : jO g H M 5 [.int x0, .ref (M + 1), .int (nI (tx.length)), .int (nI (sp)), .int (bI gd), .int (nI (0)), .ref (M + 2), .ref (M + 3), .ref (M + 4), .ref (M + 5), .int x10, .ref (M + 6), .ref (M + 7), .ref (M + 8), .int x14, .int (bI sn)]) (hSc : jI g H (M + 1) 120 sc) (hA : jI g H (M + 2) 235 fk) (hT8 : jI g H (M + 8) 16 tk0) (ls : Array Slot) (hl : lv_has ls 2 [(0, .ref M), (1, .int (nI (k)))]), jK p l e 6 140 s m [.ref M] below meth c z H0 (q_X5_readText g H0 M x0 x3 x4 x5 x10 x14 sn tx sc f tk0) H locs (F0 m 34 ls []) := by
      intro n34
      induction n34 with
      | zero => intros; omega
      | succ n34 ih34 =>
        intro k sp gd σk fk hk hHd hN hR hsp hmu34 H locs hw hf hO hSc hA hT8 ls hl
        have lp63 : ∀ (n63 : Nat) (sp : Nat) (lo : Nat) (gd : Bool) (σk : Sg) (fk : Nat → Int32) (d : Nat) (y14 : Int32) (b : Bool) (tk : Nat → Int32) (hG : cont tx gd d sp lo σk = rdText tx) (hN : okN σk) (hR : Row fk σk) (hsp : sp ≤ tx.length) (hd5 : gd = true → tx.length ≤ sp + d) (hmu63 : d < n63) (H : Heap) (locs : List Loc) (hw : jW g z s H locs) (hf : jF3 M (M + 2) (M + 8) H0 H) (hO : jO g H M 5 [.int x0, .ref (M + 1), .int (nI (tx.length)), .int (nI (sp)), .int (bI gd), .int (nI (lo)), .ref (M + 2), .ref (M + 3), .ref (M + 4), .ref (M + 5), .int x10, .ref (M + 6), .ref (M + 7), .ref (M + 8), .int y14, .int (bI b)]) (hSc : jI g H (M + 1) 120 sc) (hA : jI g H (M + 2) 235 fk) (hT8 : jI g H (M + 8) 16 tk) (ls : Array Slot) (hl : lv_has ls 2 [(0, .ref M)]), jK p l e 6 140 s m [.ref M] below meth c z H0 (q_X5_readText g H0 M x0 x3 x4 x5 x10 x14 sn tx sc f tk0) H locs (F0 m 63 ls []) := by
          intro n63
          induction n63 with
          | zero => intros; omega
          | succ n63 ih63 =>
            intro sp lo gd σk fk d y14 b tk hG hN hR hsp hd5 hmu63 H locs hw hf hO hSc hA hT8 ls hl
            rcases gd with _ | _
            · have hO : jO g H M 5 [.int x0, .ref (M + 1), .int (nI (tx.length)), .int (nI (sp)), .int (nI (0)), .int (nI (lo)), .ref (M + 2), .ref (M + 3), .ref (M + 4), .ref (M + 5), .int x10, .ref (M + 6), .ref (M + 7), .ref (M + 8), .int y14, .int (bI b)] := hO
              refine lv_aload_n hx hb dX5_readText_63 rfl (lv_at hl 0 rfl) ?_
              refine j_get (T := TX5) (N := 16) (k := 4) hx hb hts hinX5 hown hw hO rfl (by decide) (hts (.fieldLink RX5 125 "NightTrainsModel" "isGood" "Z") (by decide +kernel)) rfl dX5_readText_64 ?_
              refine jz_eq (tgt := 88) hx hb dX5_readText_67 (by decide) (by omega) (fun c67 => ?_) (fun c67 => absurd c67 (by omega))
              refine lv_aload_n hx hb dX5_readText_88 rfl (lv_at hl 0 rfl) ?_
              refine j_get (T := TX5) (N := 16) (k := 4) hx hb hts hinX5 hown hw hO rfl (by decide) (hts (.fieldLink RX5 125 "NightTrainsModel" "isGood" "Z") (by decide +kernel)) rfl dX5_readText_89 ?_
              refine jz_eq (tgt := 99) hx hb dX5_readText_92 (by decide) (by omega) (fun c92 => ?_) (fun c92 => absurd c92 (by omega))
              refine lv_aload_n hx hb dX5_readText_99 rfl (lv_at hl 0 rfl) ?_
              refine j_get (T := TX5) (N := 16) (k := 3) hx hb hts hinX5 hown hw hO rfl (by decide) (hts (.fieldLink RX5 122 "NightTrainsModel" "spot" "I") (by decide +kernel)) rfl dX5_readText_100 ?_
              refine j_iret hx hb hr hlocks hH hw dX5_readText_103 ?_
              have e9 : rdText tx = (sp, false, lo, σk) := by rw [← hG]; rfl
              exact ⟨_, rfl, by unfold fErr; rw [e9]; rfl, by rw [e9]; exact ⟨_, _, _, _, _, _, hO, hA, hR, hN, hT8, hf⟩⟩
            · have hO : jO g H M 5 [.int x0, .ref (M + 1), .int (nI (tx.length)), .int (nI (sp)), .int (nI (1)), .int (nI (lo)), .ref (M + 2), .ref (M + 3), .ref (M + 4), .ref (M + 5), .int x10, .ref (M + 6), .ref (M + 7), .ref (M + 8), .int y14, .int (bI b)] := hO
              refine lv_aload_n hx hb dX5_readText_63 rfl (lv_at hl 0 rfl) ?_
              refine j_get (T := TX5) (N := 16) (k := 4) hx hb hts hinX5 hown hw hO rfl (by decide) (hts (.fieldLink RX5 125 "NightTrainsModel" "isGood" "Z") (by decide +kernel)) rfl dX5_readText_64 ?_
              refine jz_eq (tgt := 88) hx hb dX5_readText_67 (by decide) (by omega) (fun c67 => absurd c67 (by omega)) (fun c67 => ?_)
              refine lv_aload_n hx hb dX5_readText_70 rfl (lv_at hl 0 rfl) ?_
              refine j_get (T := TX5) (N := 16) (k := 3) hx hb hts hinX5 hown hw hO rfl (by decide) (hts (.fieldLink RX5 122 "NightTrainsModel" "spot" "I") (by decide +kernel)) rfl dX5_readText_71 ?_
              refine lv_aload_n hx hb dX5_readText_74 rfl (lv_at hl 0 rfl) ?_
              refine j_get (T := TX5) (N := 16) (k := 2) hx hb hts hinX5 hown hw hO rfl (by decide) (hts (.fieldLink RX5 115 "NightTrainsModel" "scriptSize" "I") (by decide +kernel)) rfl dX5_readText_75 ?_
              refine jn_ge (tgt := 88) hx hb dX5_readText_78 (by decide) (by omega) (by omega) (fun c78 => ?_) (fun c78 => ?_)
              · refine lv_aload_n hx hb dX5_readText_88 rfl (lv_at hl 0 rfl) ?_
                refine j_get (T := TX5) (N := 16) (k := 4) hx hb hts hinX5 hown hw hO rfl (by decide) (hts (.fieldLink RX5 125 "NightTrainsModel" "isGood" "Z") (by decide +kernel)) rfl dX5_readText_89 ?_
                refine jz_eq (tgt := 99) hx hb dX5_readText_92 (by decide) (by omega) (fun c92 => absurd c92 (by omega)) (fun c92 => ?_)
                refine lv_iconst (v := (-1)) hx hb dX5_readText_95 (by decide) ?_
                refine lv_goto (tgt := 103) hx hb dX5_readText_96 (by decide) ?_
                refine j_iret hx hb hr hlocks hH hw dX5_readText_103 ?_
                have e9 : rdText tx = (sp, true, lo, σk) := by rw [← hG]; exact cont_end (by omega)
                exact ⟨_, rfl, by unfold fErr; rw [e9]; rfl, by rw [e9]; exact ⟨_, _, _, _, _, _, hO, hA, hR, hN, hT8, hf⟩⟩
              · obtain ⟨d, rfl⟩ : ∃ d1, d = d1 + 1 := ⟨d - 1, by have := hd5 rfl; omega⟩
                have hd6 := hd5 rfl
                refine lv_aload_n hx hb dX5_readText_81 rfl (lv_at hl 0 rfl) ?_
                refine j_Vv (n := 0) (As := []) hx hb hml hown hts hw (j_recv hw hO rfl) (c_X5_readCommand l g z H M (σk) fk x0 x10 y14 b _ (sp) (lo) sc tk hzM hO hSc hA hT8 (by first | assumption | omega) (by first | assumption | omega) (by first | assumption | omega) hR (by first | assumption | omega)) gX5_readText_X5_readCommand rfl (by decide +kernel) ⟨Nat.le_of_ble_eq_true rfl, Nat.le_of_ble_eq_true rfl⟩ rfl hl.1 (Nat.le_of_ble_eq_true rfl) ⟨Nat.zero_le _, Nat.zero_le _⟩ dX5_readText_82 (fun H locs hr18 hw hsz => ?_) rfl
                obtain ⟨s1, gd1, lo1, σ1, y14g, sng, tk20, hrd, hO, ⟨f19, hA, hR⟩, hT8, hf2⟩ := hr18
                have hSc := hSc.kept (hf2.2 _ (by omega) (by omega) (by omega))
                have hf := hf.cat hf2
                have hN := okN_rdOne (tx := tx) (sp := sp) (lo := lo) hN
                have hle := rdOne_le (by omega) hrd
                rw [hrd] at hN
                refine lv_goto (tgt := 63) hx hb dX5_readText_85 (by decide) ?_
                exact ih63  s1 lo1 gd1 σ1 f19 d y14g sng tk20 (by rw [← cont_go (by omega) hrd]; exact hG) hN hR hle.1 (fun q => by have := hle.2 q; omega) (by omega) H _ hw hf hO hSc hA hT8 _ (lv_sub hl [0] rfl)
        refine lv_iload_n hx hb dX5_readText_34 rfl (lv_at hl 1 rfl) ?_
        refine lv_iconst (v := (nI (5))) hx hb dX5_readText_35 (by decide) ?_
        refine jn_ge (tgt := 63) hx hb dX5_readText_36 (by decide) (by omega) (by omega) (fun c36 => ?_) (fun c36 => ?_)
        · exact lp63 (120 + 1) sp 0 gd σk fk 120 x14 sn tk0 (rdText_of (by have h5 : k = 5 := (by omega); rw [← h5]; exact hHd)).symm hN hR hsp (fun _ => by omega) (by omega) H _ hw hf hO hSc hA hT8 _ (lv_sub hl [0] rfl)
        · rcases gd with _ | _
          · have hO : jO g H M 5 [.int x0, .ref (M + 1), .int (nI (tx.length)), .int (nI (sp)), .int (nI (0)), .int (nI (0)), .ref (M + 2), .ref (M + 3), .ref (M + 4), .ref (M + 5), .int x10, .ref (M + 6), .ref (M + 7), .ref (M + 8), .int x14, .int (bI sn)] := hO
            refine lv_aload_n hx hb dX5_readText_39 rfl (lv_at hl 0 rfl) ?_
            refine j_get (T := TX5) (N := 16) (k := 6) hx hb hts hinX5 hown hw hO rfl (by decide) (hts (.fieldLink RX5 13 "NightTrainsModel" "read" "[I") (by decide +kernel)) rfl dX5_readText_40 ?_
            refine lv_iload_n hx hb dX5_readText_43 rfl (lv_at hl 1 rfl) ?_
            refine lv_aload_n hx hb dX5_readText_44 rfl (lv_at hl 0 rfl) ?_
            refine lv_iload_n hx hb dX5_readText_45 rfl (lv_at hl 1 rfl) ?_
            have hlh := loS_hiS (show k < 5 by omega)
            refine j_Sp (n := 1) (As := [.int (nI (k))]) hx hb hml hown hts hw (c_X5_least l g z H (k)   (by first | assumption | omega)) gX5_readText_X5_least rfl (by decide +kernel) ⟨Nat.le_of_ble_eq_true rfl, Nat.le_of_ble_eq_true rfl⟩ rfl hl.1 (Nat.le_of_ble_eq_true rfl) ⟨Nat.zero_le _, Nat.zero_le _⟩ dX5_readText_46 (fun r21 locs hr21 hw => ?_) rfl
            obtain rfl : r21 = (nI (loS (k))) := hr21
            refine lv_iload_n hx hb dX5_readText_49 rfl (lv_at hl 1 rfl) ?_
            refine j_Sp (n := 1) (As := [.int (nI (k))]) hx hb hml hown hts hw (c_X5_most l g z H (k)   (by first | assumption | omega)) gX5_readText_X5_most rfl (by decide +kernel) ⟨Nat.le_of_ble_eq_true rfl, Nat.le_of_ble_eq_true rfl⟩ rfl hl.1 (Nat.le_of_ble_eq_true rfl) ⟨Nat.zero_le _, Nat.zero_le _⟩ dX5_readText_50 (fun r22 locs hr22 hw => ?_) rfl
            obtain rfl : r22 = (nI (hiS (k))) := hr22
            refine j_Vi (n := 2) (As := [.int (nI (loS (k))), .int (nI (hiS (k)))]) hx hb hml hown hts hw (j_recv hw hO rfl) (c_X5_digitB l g z H M (loS (k)) (hiS (k)) x0 (nI (0)) x10 x14 _ _ (sp) sc hzM hO hSc (by first | assumption | omega) (by first | assumption | omega) (by first | assumption | omega) (by first | assumption | omega) (by first | assumption | omega)) gX5_readText_X5_digit rfl (by decide +kernel) ⟨Nat.le_of_ble_eq_true rfl, Nat.le_of_ble_eq_true rfl⟩ rfl hl.1 (Nat.le_of_ble_eq_true rfl) ⟨Nat.zero_le _, Nat.zero_le _⟩ dX5_readText_53 (fun r23 H locs hr23 hw hsz => ?_) rfl
            obtain ⟨rfl, hO, hf2⟩ := hr23
            have hO : jO g H M 5 [.int x0, .ref (M + 1), .int (nI (tx.length)), .int (nI (sp)), .int (nI (0)), .int (nI (0)), .ref (M + 2), .ref (M + 3), .ref (M + 4), .ref (M + 5), .int x10, .ref (M + 6), .ref (M + 7), .ref (M + 8), .int x14, .int (bI sn)] := hO
            have hSc := hSc.kept (hf2.2 _ (by omega))
            have hA := hA.kept (hf2.2 _ (by omega))
            have hT8 := hT8.kept (hf2.2 _ (by omega))
            have hf := hf.step hf2 (by omega)
            refine j_iast hx hb hw hA (by omega) (k := k) rfl (by omega) (by omega) dX5_readText_56 (fun H locs hw hA oq hsz => ?_)
            obtain ⟨f24, ef24⟩ : ∃ y9, y9 = upd fk (k) (nI (loS (k))) := ⟨_, rfl⟩
            rw [← ef24] at hA
            have hO := hO.kept (oq _ (by omega))
            have hSc := hSc.kept (oq _ (by omega))
            have hT8 := hT8.kept (oq _ (by omega))
            have hf := hf.put oq hsz (by omega)
            have hHd := hdS_b hHd
            have hN := hN.set (k := k) (u := loS k) (by omega) (Nat.le_refl _) (loS_hiS (by omega)).1
            have hR := hR.sn (k := k) (v := (loS k)) (by omega) rfl
            rw [← ef24] at hR
            refine lv_iinc (v := nI (k + 1)) (lv' := [(1, .int _), (0, .ref _)]) hx hb dX5_readText_57 hl (k := 1) rfl (nI_add _ 1) (by decide) rfl (fun ls hl => ?_)
            refine lv_goto (tgt := 34) hx hb dX5_readText_60 (by decide) ?_
            exact ih34  (k + 1) sp false (upn σk k (loS k)) f24 (by first | assumption | omega) hHd hN hR (by omega) (by omega) H _ hw hf hO hSc hA hT8 _ (lv_sub hl [1, 0] rfl)
          · have hO : jO g H M 5 [.int x0, .ref (M + 1), .int (nI (tx.length)), .int (nI (sp)), .int (nI (1)), .int (nI (0)), .ref (M + 2), .ref (M + 3), .ref (M + 4), .ref (M + 5), .int x10, .ref (M + 6), .ref (M + 7), .ref (M + 8), .int x14, .int (bI sn)] := hO
            refine lv_aload_n hx hb dX5_readText_39 rfl (lv_at hl 0 rfl) ?_
            refine j_get (T := TX5) (N := 16) (k := 6) hx hb hts hinX5 hown hw hO rfl (by decide) (hts (.fieldLink RX5 13 "NightTrainsModel" "read" "[I") (by decide +kernel)) rfl dX5_readText_40 ?_
            refine lv_iload_n hx hb dX5_readText_43 rfl (lv_at hl 1 rfl) ?_
            refine lv_aload_n hx hb dX5_readText_44 rfl (lv_at hl 0 rfl) ?_
            refine lv_iload_n hx hb dX5_readText_45 rfl (lv_at hl 1 rfl) ?_
            have hlh := loS_hiS (show k < 5 by omega)
            refine j_Sp (n := 1) (As := [.int (nI (k))]) hx hb hml hown hts hw (c_X5_least l g z H (k)   (by first | assumption | omega)) gX5_readText_X5_least rfl (by decide +kernel) ⟨Nat.le_of_ble_eq_true rfl, Nat.le_of_ble_eq_true rfl⟩ rfl hl.1 (Nat.le_of_ble_eq_true rfl) ⟨Nat.zero_le _, Nat.zero_le _⟩ dX5_readText_46 (fun r25 locs hr25 hw => ?_) rfl
            obtain rfl : r25 = (nI (loS (k))) := hr25
            refine lv_iload_n hx hb dX5_readText_49 rfl (lv_at hl 1 rfl) ?_
            refine j_Sp (n := 1) (As := [.int (nI (k))]) hx hb hml hown hts hw (c_X5_most l g z H (k)   (by first | assumption | omega)) gX5_readText_X5_most rfl (by decide +kernel) ⟨Nat.le_of_ble_eq_true rfl, Nat.le_of_ble_eq_true rfl⟩ rfl hl.1 (Nat.le_of_ble_eq_true rfl) ⟨Nat.zero_le _, Nat.zero_le _⟩ dX5_readText_50 (fun r26 locs hr26 hw => ?_) rfl
            obtain rfl : r26 = (nI (hiS (k))) := hr26
            refine j_Vi (n := 2) (As := [.int (nI (loS (k))), .int (nI (hiS (k)))]) hx hb hml hown hts hw (j_recv hw hO rfl) (c_X5_digitG l g z H M (loS (k)) (hiS (k)) x0 (nI (0)) x10 x14 _ _ (sp) sc hzM hO hSc (by first | assumption | omega) (by first | assumption | omega) (by first | assumption | omega) (by first | assumption | omega) (by first | assumption | omega)) gX5_readText_X5_digit rfl (by decide +kernel) ⟨Nat.le_of_ble_eq_true rfl, Nat.le_of_ble_eq_true rfl⟩ rfl hl.1 (Nat.le_of_ble_eq_true rfl) ⟨Nat.zero_le _, Nat.zero_le _⟩ dX5_readText_53 (fun r27 H locs hr27 hw hsz => ?_) rfl
            rcases hr27 with ⟨v, gvd, rfl, gva, gvb, gvs, hO, hf2⟩ | ⟨gvd, rfl, hO, hf2⟩
            · have hO : jO g H M 5 [.int x0, .ref (M + 1), .int (nI (tx.length)), .int (nI ((sp + 1))), .int (nI (1)), .int (nI (0)), .ref (M + 2), .ref (M + 3), .ref (M + 4), .ref (M + 5), .int x10, .ref (M + 6), .ref (M + 7), .ref (M + 8), .int x14, .int (bI sn)] := hO
              have hSc := hSc.kept (hf2.2 _ (by omega))
              have hA := hA.kept (hf2.2 _ (by omega))
              have hT8 := hT8.kept (hf2.2 _ (by omega))
              have hf := hf.step hf2 (by omega)
              refine j_iast hx hb hw hA (by omega) (k := k) rfl (by omega) (by omega) dX5_readText_56 (fun H locs hw hA oq hsz => ?_)
              obtain ⟨f28, ef28⟩ : ∃ y9, y9 = upd fk (k) (nI (v)) := ⟨_, rfl⟩
              rw [← ef28] at hA
              have hO := hO.kept (oq _ (by omega))
              have hSc := hSc.kept (oq _ (by omega))
              have hT8 := hT8.kept (oq _ (by omega))
              have hf := hf.put oq hsz (by omega)
              have hHd := hdS_g1 hHd gvd
              have hN := hN.set (k := k) (u := v) (by omega) gva gvb
              have hR := hR.sn (k := k) (v := v) (by omega) rfl
              rw [← ef28] at hR
              refine lv_iinc (v := nI (k + 1)) (lv' := [(1, .int _), (0, .ref _)]) hx hb dX5_readText_57 hl (k := 1) rfl (nI_add _ 1) (by decide) rfl (fun ls hl => ?_)
              refine lv_goto (tgt := 34) hx hb dX5_readText_60 (by decide) ?_
              exact ih34  (k + 1) (sp + 1) true (upn σk k v) f28 (by first | assumption | omega) hHd hN hR (by omega) (by omega) H _ hw hf hO hSc hA hT8 _ (lv_sub hl [1, 0] rfl)
            · have hO : jO g H M 5 [.int x0, .ref (M + 1), .int (nI (tx.length)), .int (nI (sp)), .int (nI (0)), .int (nI (0)), .ref (M + 2), .ref (M + 3), .ref (M + 4), .ref (M + 5), .int x10, .ref (M + 6), .ref (M + 7), .ref (M + 8), .int x14, .int (bI sn)] := hO
              have hSc := hSc.kept (hf2.2 _ (by omega))
              have hA := hA.kept (hf2.2 _ (by omega))
              have hT8 := hT8.kept (hf2.2 _ (by omega))
              have hf := hf.step hf2 (by omega)
              refine j_iast hx hb hw hA (by omega) (k := k) rfl (by omega) (by omega) dX5_readText_56 (fun H locs hw hA oq hsz => ?_)
              obtain ⟨f29, ef29⟩ : ∃ y9, y9 = upd fk (k) (nI (loS (k))) := ⟨_, rfl⟩
              rw [← ef29] at hA
              have hO := hO.kept (oq _ (by omega))
              have hSc := hSc.kept (oq _ (by omega))
              have hT8 := hT8.kept (oq _ (by omega))
              have hf := hf.put oq hsz (by omega)
              have hHd := hdS_g0 hHd gvd
              have hN := hN.set (k := k) (u := loS k) (by omega) (Nat.le_refl _) (loS_hiS (by omega)).1
              have hR := hR.sn (k := k) (v := (loS k)) (by omega) rfl
              rw [← ef29] at hR
              refine lv_iinc (v := nI (k + 1)) (lv' := [(1, .int _), (0, .ref _)]) hx hb dX5_readText_57 hl (k := 1) rfl (nI_add _ 1) (by decide) rfl (fun ls hl => ?_)
              refine lv_goto (tgt := 34) hx hb dX5_readText_60 (by decide) ?_
              exact ih34  (k + 1) sp false (upn σk k (loS k)) f29 (by first | assumption | omega) hHd hN hR (by omega) (by omega) H _ hw hf hO hSc hA hT8 _ (lv_sub hl [1, 0] rfl)
    exact lp34 (5 - 0 + 1) 0 0 false S0 f2 (by first | assumption | omega) (if_neg h68) okN_S0 hR9 (Nat.zero_le _) (by omega) H _ hw hf hO hSc hA hT8 _ (lv_sub hl [1, 0] rfl)

abbrev q_X5_errorPosition (g : jG) (H0 : Heap) (M : Nat) (x0 : Int32) (tx : List Nat) (σ : Sg) (hi : List Sg) (sv : Nat → Option Sg) : Option Value → Heap → Prop := jN (fun r H1 => r = fErr tx ∧ MD g H1 M (nI 0) tx σ hi sv ∧ jF M 9 H0 H1)
set_option maxHeartbeats 4000000 in
set_option maxRecDepth 100000 in
theorem c_X5_errorPosition (l : Launch) (g : jG) (z : Nat) (H0 : Heap) (M : Nat) (x0 : Int32) (tx : List Nat) (σ : Sg) (hi : List Sg) (sv : Nat → Option Sg) (hzM : z ≤ M) (hMD : MD g H0 M x0 tx σ hi sv) : jM l g z yX5_errorPosition wsX5_errorPosition 7 161 [.ref M] H0 (q_X5_errorPosition g H0 M x0 tx σ hi sv) := by
  refine j_of (cc := cX5_errorPosition) (n := 1) (ret := some .int) (by decide) rfl (Nat.le_of_ble_eq_true rfl) ?_
  intro p e s m below meth c hx hb hr hml hown hts hlocks hname hH hw ls hl
  have hl : lv_has ls 1 [(0, .ref M)] := hl
  have hinX5 : ∀ w ∈ u_ws RX5 TX5 16, w ∈ wsX5_errorPosition := by decide +kernel
  have hf : jF M 9 H0 H0 := jF.rf
  obtain ⟨x3, x4, x5, x14, sn, sc, rd, nw, tr, dy, kp, ik, tk, hO, hSc, hRd, hA, hTr, hDy, hKp, hIk, hT8, hMI⟩ := hMD
  obtain ⟨htx, hsc, hR, hN, hhi, hdy, hkp⟩ := id hMI
  obtain ⟨hs, hcalm, h20⟩ := id hN
  refine lv_aload_n hx hb dX5_errorPosition_0 rfl (lv_at hl 0 rfl) ?_
  refine lv_iconst (v := (nI (0))) hx hb dX5_errorPosition_1 (by decide) ?_
  refine j_put (T := TX5) (N := 16) (k := 0) (ty := .int) hx hb hts hinX5 tyX5 tyX5_ok nmX5 hown hw hO hzM rfl (by decide) (hts (.fieldLink RX5 39 "NightTrainsModel" "refusal" "I") (by decide +kernel)) rfl (by decide +kernel) rfl rfl (Nat.le_of_ble_eq_true rfl) dX5_errorPosition_2 (fun H locs hw hO oq hsz => ?_)
  have hO : jO g H M 5 [.int _, .ref _, .int _, .int _, .int _, .int _, .ref _, .ref _, .ref _, .ref _, .int _, .ref _, .ref _, .ref _, .int _, .int _] := hO
  have hSc := hSc.kept (oq _ (by omega))
  have hRd := hRd.kept (oq _ (by omega))
  have hA := hA.kept (oq _ (by omega))
  have hTr := hTr.kept (oq _ (by omega))
  have hDy := hDy.kept (oq _ (by omega))
  have hKp := hKp.kept (oq _ (by omega))
  have hIk := hIk.kept (oq _ (by omega))
  have hT8 := hT8.kept (oq _ (by omega))
  have hf := hf.put oq hsz (by omega)
  refine lv_aload_n hx hb dX5_errorPosition_5 rfl (lv_at hl 0 rfl) ?_
  refine j_Vi (n := 0) (As := []) hx hb hml hown hts hw (j_recv hw hO rfl) (c_X5_readText l g z H M (nI (0)) x3 x4 x5 (nI (hi.length)) x14 _ _ sc rd tk hzM hO hSc hRd hT8 (by first | assumption | omega) htx) gX5_errorPosition_X5_readText rfl (by decide +kernel) ⟨Nat.le_of_ble_eq_true rfl, Nat.le_of_ble_eq_true rfl⟩ rfl hl.1 (Nat.le_of_ble_eq_true rfl) ⟨Nat.zero_le _, Nat.zero_le _⟩ dX5_errorPosition_6 (fun r1 H locs hr1 hw hsz => ?_) rfl
  obtain ⟨hr1, y3g, y4g, y14g, sng, f2, tk3, hO, hRd, hRr, hNr, hT8, hf2⟩ := hr1
  have hSc := hSc.kept (hf2.2 _ (by omega) (by omega) (by omega))
  have hA := hA.kept (hf2.2 _ (by omega) (by omega) (by omega))
  have hTr := hTr.kept (hf2.2 _ (by omega) (by omega) (by omega))
  have hDy := hDy.kept (hf2.2 _ (by omega) (by omega) (by omega))
  have hKp := hKp.kept (hf2.2 _ (by omega) (by omega) (by omega))
  have hIk := hIk.kept (hf2.2 _ (by omega) (by omega) (by omega))
  have hf := hf.three hf2 (by omega) (by omega) (by omega)
  refine j_iret hx hb hr hlocks hH hw dX5_errorPosition_9 ?_
  exact ⟨_, rfl, hr1, ⟨y3g, y4g, (nI ((rdText tx).2.2.1)), y14g, sng, sc, f2, nw, tr, dy, kp, ik, tk3, hO, hSc, hRd, hA, hTr, hDy, hKp, hIk, hT8, hMI⟩, hf⟩

abbrev q_X5_load (g : jG) (H0 : Heap) (M : Nat) (x0 : Int32) (tx : List Nat) (σ : Sg) (hi : List Sg) (sv : Nat → Option Sg) : Option Value → Heap → Prop := jN (fun r H1 => ((fLoad tx).1 = 0 → r = (fLoad tx).2.1) ∧ MD g H1 M (nI (fLoad tx).1) tx (if (fLoad tx).1 = 0 then (fLoad tx).2.2 else σ) (if (fLoad tx).1 = 0 then [] else hi) (if (fLoad tx).1 = 0 then (fun _ => none) else sv) ∧ jF M 9 H0 H1)
set_option maxHeartbeats 4000000 in
set_option maxRecDepth 100000 in
theorem c_X5_load (l : Launch) (g : jG) (z : Nat) (H0 : Heap) (M : Nat) (x0 : Int32) (tx : List Nat) (σ : Sg) (hi : List Sg) (sv : Nat → Option Sg) (hzM : z ≤ M) (hMD : MD g H0 M x0 tx σ hi sv) : jM l g z yX5_load wsX5_load 7 161 [.ref M] H0 (q_X5_load g H0 M x0 tx σ hi sv) := by
  refine j_of (cc := cX5_load) (n := 1) (ret := some .int) (by decide) rfl (Nat.le_of_ble_eq_true rfl) ?_
  intro p e s m below meth c hx hb hr hml hown hts hlocks hname hH hw ls hl
  have hl : lv_has ls 1 [(0, .ref M)] := hl
  have hinX5 : ∀ w ∈ u_ws RX5 TX5 16, w ∈ wsX5_load := by decide +kernel
  have hf : jF M 9 H0 H0 := jF.rf
  obtain ⟨x3, x4, x5, x14, sn, sc, rd, nw, tr, dy, kp, ik, tk, hO, hSc, hRd, hA, hTr, hDy, hKp, hIk, hT8, hMI⟩ := hMD
  obtain ⟨htx, hsc, hR, hN, hhi, hdy, hkp⟩ := id hMI
  obtain ⟨hs, hcalm, h20⟩ := id hN
  refine lv_aload_n hx hb dX5_load_0 rfl (lv_at hl 0 rfl) ?_
  refine lv_aload_n hx hb dX5_load_1 rfl (lv_at hl 0 rfl) ?_
  refine j_Vi (n := 0) (As := []) hx hb hml hown hts hw (j_recv hw hO rfl) (c_X5_readText l g z H0 M x0 x3 x4 x5 (nI (hi.length)) x14 _ _ sc rd tk hzM hO hSc hRd hT8 (by first | assumption | omega) htx) gX5_load_X5_readText rfl (by decide +kernel) ⟨Nat.le_of_ble_eq_true rfl, Nat.le_of_ble_eq_true rfl⟩ rfl hl.1 (Nat.le_of_ble_eq_true rfl) ⟨Nat.zero_le _, Nat.zero_le _⟩ dX5_load_2 (fun r1 H locs hr1 hw hsz => ?_) rfl
  obtain ⟨hr1, y3g, y4g, y14g, sng, f2, tk3, hO, hRd, hRr, hNr, hT8, hf2⟩ := hr1
  have hSc := hSc.kept (hf2.2 _ (by omega) (by omega) (by omega))
  have hA := hA.kept (hf2.2 _ (by omega) (by omega) (by omega))
  have hTr := hTr.kept (hf2.2 _ (by omega) (by omega) (by omega))
  have hDy := hDy.kept (hf2.2 _ (by omega) (by omega) (by omega))
  have hKp := hKp.kept (hf2.2 _ (by omega) (by omega) (by omega))
  have hIk := hIk.kept (hf2.2 _ (by omega) (by omega) (by omega))
  have hf := hf.three hf2 (by omega) (by omega) (by omega)
  cases hg9 : (rdText tx).2.1 with
    | false =>
      have hv9 : r1 = nI (rdText tx).1 := by rw [hr1]; unfold fErr; rw [hg9]; rfl
      subst hv9
      refine lv_iconst (v := (-1)) hx hb dX5_load_5 (by decide) ?_
      refine lv_icmp_ne (tgt := 13) hx hb dX5_load_6 (by decide) (fun c6 => ?_) (fun c6 => absurd c6 (nI_ne_m1 (by have := rdText_le (tx := tx); omega)))
      refine lv_iconst (v := (nI (1))) hx hb dX5_load_13 (by decide) ?_
      refine j_Vi (n := 1) (As := [.int (nI (1))]) hx hb hml hown hts hw (j_recv hw hO rfl) (c_X5_refused l g z H M (1) x0 (nI (tx.length)) y3g y4g (nI ((rdText tx).2.2.1)) (nI (hi.length)) y14g _ hzM hO (by first | assumption | omega)) gX5_load_X5_refused rfl (by decide +kernel) ⟨Nat.le_of_ble_eq_true rfl, Nat.le_of_ble_eq_true rfl⟩ rfl hl.1 (Nat.le_of_ble_eq_true rfl) ⟨Nat.zero_le _, Nat.zero_le _⟩ dX5_load_14 (fun r4 H locs hr4 hw hsz => ?_) rfl
      obtain ⟨hr4, hO, hf2⟩ := hr4
      obtain rfl : r4 = nI 1 := hr4
      have hO : jO g H M 5 [.int (nI (1)), .ref (M + 1), .int (nI (tx.length)), .int y3g, .int y4g, .int (nI ((rdText tx).2.2.1)), .ref (M + 2), .ref (M + 3), .ref (M + 4), .ref (M + 5), .int (nI (hi.length)), .ref (M + 6), .ref (M + 7), .ref (M + 8), .int y14g, .int (bI sng)] := hO
      have hSc := hSc.kept (hf2.2 _ (by omega))
      have hRd := hRd.kept (hf2.2 _ (by omega))
      have hA := hA.kept (hf2.2 _ (by omega))
      have hTr := hTr.kept (hf2.2 _ (by omega))
      have hDy := hDy.kept (hf2.2 _ (by omega))
      have hKp := hKp.kept (hf2.2 _ (by omega))
      have hIk := hIk.kept (hf2.2 _ (by omega))
      have hT8 := hT8.kept (hf2.2 _ (by omega))
      have hf := hf.step hf2 (by omega)
      refine jz_eq (tgt := 22) hx hb dX5_load_17 (by decide) (by omega) (fun c17 => absurd c17 (by omega)) (fun c17 => ?_)
      refine lv_iconst (v := (nI (0))) hx hb dX5_load_20 (by decide) ?_
      refine j_iret hx hb hr hlocks hH hw dX5_load_21 ?_
      have e9 : fLoad tx = (1, 0, (rdText tx).2.2.2) := by unfold fLoad; rw [hg9]; rfl
      exact ⟨_, rfl, by rw [e9]; exact ⟨fun h9 => absurd h9 (Nat.succ_ne_zero _), ⟨y3g, y4g, (nI ((rdText tx).2.2.1)), y14g, sng, sc, f2, nw, tr, dy, kp, ik, tk3, hO, hSc, hRd, hA, hTr, hDy, hKp, hIk, hT8, hMI⟩, hf⟩⟩
    | true =>
      have hv9 : r1 = -1 := by rw [hr1]; unfold fErr; rw [hg9]; rfl
      subst hv9
      refine lv_iconst (v := (-1)) hx hb dX5_load_5 (by decide) ?_
      refine lv_icmp_ne (tgt := 13) hx hb dX5_load_6 (by decide) (fun c6 => absurd c6 (fun h => h rfl)) (fun c6 => ?_)
      refine lv_iconst (v := (nI (0))) hx hb dX5_load_9 (by decide) ?_
      refine lv_goto (tgt := 14) hx hb dX5_load_10 (by decide) ?_
      refine j_Vi (n := 1) (As := [.int (nI (0))]) hx hb hml hown hts hw (j_recv hw hO rfl) (c_X5_refused l g z H M (0) x0 (nI (tx.length)) y3g y4g (nI ((rdText tx).2.2.1)) (nI (hi.length)) y14g _ hzM hO (by first | assumption | omega)) gX5_load_X5_refused rfl (by decide +kernel) ⟨Nat.le_of_ble_eq_true rfl, Nat.le_of_ble_eq_true rfl⟩ rfl hl.1 (Nat.le_of_ble_eq_true rfl) ⟨Nat.zero_le _, Nat.zero_le _⟩ dX5_load_14 (fun r5 H locs hr5 hw hsz => ?_) rfl
      obtain ⟨hr5, hO, hf2⟩ := hr5
      obtain rfl : r5 = nI 0 := hr5
      have hO : jO g H M 5 [.int (nI (0)), .ref (M + 1), .int (nI (tx.length)), .int y3g, .int y4g, .int (nI ((rdText tx).2.2.1)), .ref (M + 2), .ref (M + 3), .ref (M + 4), .ref (M + 5), .int (nI (hi.length)), .ref (M + 6), .ref (M + 7), .ref (M + 8), .int y14g, .int (bI sng)] := hO
      have hSc := hSc.kept (hf2.2 _ (by omega))
      have hRd := hRd.kept (hf2.2 _ (by omega))
      have hA := hA.kept (hf2.2 _ (by omega))
      have hTr := hTr.kept (hf2.2 _ (by omega))
      have hDy := hDy.kept (hf2.2 _ (by omega))
      have hKp := hKp.kept (hf2.2 _ (by omega))
      have hIk := hIk.kept (hf2.2 _ (by omega))
      have hT8 := hT8.kept (hf2.2 _ (by omega))
      have hf := hf.step hf2 (by omega)
      refine jz_eq (tgt := 22) hx hb dX5_load_17 (by decide) (by omega) (fun c17 => ?_) (fun c17 => absurd c17 (by omega))
      refine lv_aload_n hx hb dX5_load_22 rfl (lv_at hl 0 rfl) ?_
      refine j_get (T := TX5) (N := 16) (k := 6) hx hb hts hinX5 hown hw hO rfl (by decide) (hts (.fieldLink RX5 13 "NightTrainsModel" "read" "[I") (by decide +kernel)) rfl dX5_load_23 ?_
      refine lv_iconst (v := (nI (0))) hx hb dX5_load_26 (by decide) ?_
      refine lv_aload_n hx hb dX5_load_27 rfl (lv_at hl 0 rfl) ?_
      refine j_get (T := TX5) (N := 16) (k := 7) hx hb hts hinX5 hown hw hO rfl (by decide) (hts (.fieldLink RX5 16 "NightTrainsModel" "now" "[I") (by decide +kernel)) rfl dX5_load_28 ?_
      refine lv_iconst (v := (nI (0))) hx hb dX5_load_31 (by decide) ?_
      refine lv_sipush (v := (nI (235))) hx hb dX5_load_32 (by decide) ?_
      refine j_Sv (n := 5) (As := [.ref (M + 2), .int (nI (0)), .ref (M + 3), .int (nI (0)), .int (nI (235))]) hx hb hml hown hts hw (c_X5_copyD l g z H (M + 2) (0) (M + 3) (0) (235) 235 nw 235 f2 (by omega) (by omega) hA hRd (by first | assumption | omega) (by first | assumption | omega) (by first | assumption | omega) (by first | assumption | omega)) gX5_load_X5_copy rfl (by decide +kernel) ⟨Nat.le_of_ble_eq_true rfl, Nat.le_of_ble_eq_true rfl⟩ rfl hl.1 (Nat.le_of_ble_eq_true rfl) ⟨Nat.zero_le _, Nat.zero_le _⟩ dX5_load_35 (fun H locs hr6 hw hsz => ?_) rfl
      obtain ⟨hA, hf2⟩ := hr6
      obtain ⟨f7, ef7⟩ : ∃ y9, y9 = va_cpy f2 nw (0) (0) (235) := ⟨_, rfl⟩
      rw [← ef7] at hA
      have hO := hO.kept (hf2.2 _ (by omega))
      have hSc := hSc.kept (hf2.2 _ (by omega))
      have hRd := hRd.kept (hf2.2 _ (by omega))
      have hTr := hTr.kept (hf2.2 _ (by omega))
      have hDy := hDy.kept (hf2.2 _ (by omega))
      have hKp := hKp.kept (hf2.2 _ (by omega))
      have hIk := hIk.kept (hf2.2 _ (by omega))
      have hT8 := hT8.kept (hf2.2 _ (by omega))
      have hf := hf.step hf2 (by omega)
      refine lv_aload_n hx hb dX5_load_38 rfl (lv_at hl 0 rfl) ?_
      refine lv_iconst (v := (nI (0))) hx hb dX5_load_39 (by decide) ?_
      refine j_put (T := TX5) (N := 16) (k := 10) (ty := .int) hx hb hts hinX5 tyX5 tyX5_ok nmX5 hown hw hO hzM rfl (by decide) (hts (.fieldLink RX5 45 "NightTrainsModel" "acts" "I") (by decide +kernel)) rfl (by decide +kernel) rfl rfl (Nat.le_of_ble_eq_true rfl) dX5_load_40 (fun H locs hw hO oq hsz => ?_)
      have hO : jO g H M 5 [.int _, .ref _, .int _, .int _, .int _, .int _, .ref _, .ref _, .ref _, .ref _, .int _, .ref _, .ref _, .ref _, .int _, .int _] := hO
      have hSc := hSc.kept (oq _ (by omega))
      have hRd := hRd.kept (oq _ (by omega))
      have hA := hA.kept (oq _ (by omega))
      have hTr := hTr.kept (oq _ (by omega))
      have hDy := hDy.kept (oq _ (by omega))
      have hKp := hKp.kept (oq _ (by omega))
      have hIk := hIk.kept (oq _ (by omega))
      have hT8 := hT8.kept (oq _ (by omega))
      have hf := hf.put oq hsz (by omega)
      refine lv_aload_n hx hb dX5_load_43 rfl (lv_at hl 0 rfl) ?_
      refine j_get (T := TX5) (N := 16) (k := 12) hx hb hts hinX5 hown hw hO rfl (by decide) (hts (.fieldLink RX5 28 "NightTrainsModel" "isKept" "[Z") (by decide +kernel)) rfl dX5_load_44 ?_
      refine lv_iconst (v := (nI (0))) hx hb dX5_load_47 (by decide) ?_
      refine lv_iconst (v := (nI (0))) hx hb dX5_load_48 (by decide) ?_
      refine j_zast hx hb hw hIk (by omega) (k := 0) rfl (by omega) (by omega) dX5_load_49 (fun H locs hw hIk oq hsz => ?_)
      obtain ⟨f8, ef8⟩ : ∃ y9, y9 = upd ik (0) (vp_nar .boolean (nI (0))) := ⟨_, rfl⟩
      rw [← ef8] at hIk
      have hO := hO.kept (oq _ (by omega))
      have hSc := hSc.kept (oq _ (by omega))
      have hRd := hRd.kept (oq _ (by omega))
      have hA := hA.kept (oq _ (by omega))
      have hTr := hTr.kept (oq _ (by omega))
      have hDy := hDy.kept (oq _ (by omega))
      have hKp := hKp.kept (oq _ (by omega))
      have hT8 := hT8.kept (oq _ (by omega))
      have hf := hf.put oq hsz (by omega)
      refine lv_aload_n hx hb dX5_load_50 rfl (lv_at hl 0 rfl) ?_
      refine j_get (T := TX5) (N := 16) (k := 12) hx hb hts hinX5 hown hw hO rfl (by decide) (hts (.fieldLink RX5 28 "NightTrainsModel" "isKept" "[Z") (by decide +kernel)) rfl dX5_load_51 ?_
      refine lv_iconst (v := (nI (1))) hx hb dX5_load_54 (by decide) ?_
      refine lv_iconst (v := (nI (0))) hx hb dX5_load_55 (by decide) ?_
      refine j_zast hx hb hw hIk (by omega) (k := 1) rfl (by omega) (by omega) dX5_load_56 (fun H locs hw hIk oq hsz => ?_)
      obtain ⟨f9, ef9⟩ : ∃ y9, y9 = upd f8 (1) (vp_nar .boolean (nI (0))) := ⟨_, rfl⟩
      rw [← ef9] at hIk
      have hO := hO.kept (oq _ (by omega))
      have hSc := hSc.kept (oq _ (by omega))
      have hRd := hRd.kept (oq _ (by omega))
      have hA := hA.kept (oq _ (by omega))
      have hTr := hTr.kept (oq _ (by omega))
      have hDy := hDy.kept (oq _ (by omega))
      have hKp := hKp.kept (oq _ (by omega))
      have hT8 := hT8.kept (oq _ (by omega))
      have hf := hf.put oq hsz (by omega)
      refine lv_aload_n hx hb dX5_load_57 rfl (lv_at hl 0 rfl) ?_
      refine j_get (T := TX5) (N := 16) (k := 5) hx hb hts hinX5 hown hw hO rfl (by decide) (hts (.fieldLink RX5 141 "NightTrainsModel" "leftOut" "I") (by decide +kernel)) rfl dX5_load_58 ?_
      refine j_iret hx hb hr hlocks hH hw dX5_load_61 ?_
      have e9 : fLoad tx = (0, nI (rdText tx).2.2.1, (rdText tx).2.2.2) := by unfold fLoad; rw [hg9]; rfl
      have hR9 : Row f7 (rdText tx).2.2.2 := by rw [ef7]; exact Row.cpy0 hNr.1 hRr
      have hK9 : Kep kp f9 (fun _ => none) := fun k hk => Or.inl ⟨rfl, by rw [ef9, ef8]; exact ik_two hk⟩
      exact ⟨_, rfl, by rw [e9]; exact ⟨fun _ => rfl, ⟨y3g, y4g, (nI ((rdText tx).2.2.1)), y14g, sng, sc, f2, f7, tr, dy, kp, f9, tk3, hO, hSc, hRd, hA, hTr, hDy, hKp, hIk, hT8, ⟨hMI.1, hMI.2.1, hR9, hNr, Nat.zero_le _, (fun i s h => by cases i <;> cases h), hK9⟩⟩, hf⟩⟩
