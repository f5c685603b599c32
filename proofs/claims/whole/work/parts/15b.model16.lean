abbrev q_X5_clean (g : jG) (H0 : Heap) (row : Nat) (f : Nat → Int32) : Option Value → Heap → Prop := jV (fun H1 => ∃ f1, jI g H1 row 235 f1 ∧ Row f1 S0 ∧ jF row 1 H0 H1)
set_option maxHeartbeats 4000000 in
set_option maxRecDepth 100000 in
theorem c_X5_clean (l : Launch) (g : jG) (z : Nat) (H0 : Heap) (row : Nat) (f : Nat → Int32) (hz : z ≤ row) (hA : jI g H0 row 235 f) : jM l g z yX5_clean wsX5_clean 0 0 [.ref row] H0 (q_X5_clean g H0 row f) := by
  refine j_of (cc := cX5_clean) (n := 2) (ret := none) (by decide) rfl (Nat.le_of_ble_eq_true rfl) ?_
  intro p e s m below meth c hx hb hr hml hown hts hlocks hname hH hw ls hl
  have hl : lv_has ls 2 [(0, .ref row)] := hl
  have hf : jF row 1 H0 H0 := jF.rf
  refine lv_iconst (v := (nI (0))) hx hb dX5_clean_0 (by decide) ?_
  refine lv_istore_n (lv' := [(1, .int _), (0, .ref _)]) hx hb dX5_clean_1 rfl hl (by decide) rfl (fun ls hl => ?_)
  have lp2 : ∀ (n2 : Nat) (k : Nat) (fk : Nat → Int32) (hk : k ≤ 235) (h0 : ∀ j, j < k → fk j = nI 0) (hmu2 : 235 - k < n2) (H : Heap) (locs : List Loc) (hw : jW g z s H locs) (hf : jF row 1 H0 H) (hA : jI g H row 235 fk) (ls : Array Slot) (hl : lv_has ls 2 [(0, .ref row), (1, .int (nI (k)))]), jK p l e 0 0 s m [.ref row] below meth c z H0 (q_X5_clean g H0 row f) H locs (F0 m 2 ls []) := by
    intro n2
    induction n2 with
    | zero => intros; omega
    | succ n2 ih2 =>
      intro k fk hk h0 hmu2 H locs hw hf hA ls hl
      have lp37 : ∀ (n37 : Nat) (k : Nat) (fk : Nat → Int32) (hk : k ≤ 4) (h1 : ∀ j, j < 235 → (j < 46 ∨ 50 ≤ j) → fk j = nI (clnN j)) (h2 : ∀ i, i < k → fk (46 + i) = nI 50) (hmu37 : 4 - k < n37) (H : Heap) (locs : List Loc) (hw : jW g z s H locs) (hf : jF row 1 H0 H) (hA : jI g H row 235 fk) (ls : Array Slot) (hl : lv_has ls 2 [(0, .ref row), (1, .int (nI (k)))]), jK p l e 0 0 s m [.ref row] below meth c z H0 (q_X5_clean g H0 row f) H locs (F0 m 37 ls []) := by
        intro n37
        induction n37 with
        | zero => intros; omega
        | succ n37 ih37 =>
          intro k fk hk h1 h2 hmu37 H locs hw hf hA ls hl
          refine lv_iload_n hx hb dX5_clean_37 rfl (lv_at hl 1 rfl) ?_
          refine lv_iconst (v := (nI (4))) hx hb dX5_clean_38 (by decide) ?_
          refine jn_ge (tgt := 56) hx hb dX5_clean_39 (by decide) (by omega) (by omega) (fun c39 => ?_) (fun c39 => ?_)
          · refine j_vret hx hb hr hlocks hH hw dX5_clean_56 ?_
            exact ⟨rfl, _, hA, Row_S0 h1 (fun c hc => h2 c (by omega)), hf⟩
          · refine lv_aload_n hx hb dX5_clean_42 rfl (lv_at hl 0 rfl) ?_
            refine lv_bipush (v := (nI (46))) hx hb dX5_clean_43 (by decide) ?_
            refine lv_iload_n hx hb dX5_clean_45 rfl (lv_at hl 1 rfl) ?_
            refine j_addN hx hb dX5_clean_46 ?_
            refine lv_bipush (v := (nI (50))) hx hb dX5_clean_47 (by decide) ?_
            refine j_iast hx hb hw hA hz (k := (46 + k)) rfl (by omega) (by omega) dX5_clean_49 (fun H locs hw hA oq hsz => ?_)
            obtain ⟨f1, ef1⟩ : ∃ y9, y9 = upd fk ((46 + k)) (nI (50)) := ⟨_, rfl⟩
            rw [← ef1] at hA
            have hf := hf.put oq hsz (by omega)
            refine lv_iinc (v := nI (k + 1)) (lv' := [(1, .int _), (0, .ref _)]) hx hb dX5_clean_50 hl (k := 1) rfl (nI_add _ 1) (by decide) rfl (fun ls hl => ?_)
            refine lv_goto (tgt := 37) hx hb dX5_clean_53 (by decide) ?_
            exact ih37  (k + 1) f1 (by first | assumption | omega) (fun j h h9 => by rw [ef1, pk_un (by omega)]; exact h1 j h h9) (fun j h => by rw [ef1]; by_cases q : j = k; rw [q, pk_us]; rw [pk_un (by omega)]; exact h2 j (by omega)) (by omega) H _ hw hf hA _ (lv_sub hl [1, 0] rfl)
      refine lv_iload_n hx hb dX5_clean_2 rfl (lv_at hl 1 rfl) ?_
      refine lv_sipush (v := (nI (235))) hx hb dX5_clean_3 (by decide) ?_
      refine jn_ge (tgt := 19) hx hb dX5_clean_6 (by decide) (by omega) (by omega) (fun c6 => ?_) (fun c6 => ?_)
      · refine lv_aload_n hx hb dX5_clean_19 rfl (lv_at hl 0 rfl) ?_
        refine lv_iconst (v := (nI (0))) hx hb dX5_clean_20 (by decide) ?_
        refine lv_iconst (v := (nI (1))) hx hb dX5_clean_21 (by decide) ?_
        refine j_iast hx hb hw hA hz (k := 0) rfl (by omega) (by omega) dX5_clean_22 (fun H locs hw hA oq hsz => ?_)
        obtain ⟨f2, ef2⟩ : ∃ y9, y9 = upd fk (0) (nI (1)) := ⟨_, rfl⟩
        rw [← ef2] at hA
        have hf := hf.put oq hsz (by omega)
        refine lv_aload_n hx hb dX5_clean_23 rfl (lv_at hl 0 rfl) ?_
        refine lv_iconst (v := (nI (1))) hx hb dX5_clean_24 (by decide) ?_
        refine lv_iconst (v := (nI (3))) hx hb dX5_clean_25 (by decide) ?_
        refine j_iast hx hb hw hA hz (k := 1) rfl (by omega) (by omega) dX5_clean_26 (fun H locs hw hA oq hsz => ?_)
        obtain ⟨f3, ef3⟩ : ∃ y9, y9 = upd f2 (1) (nI (3)) := ⟨_, rfl⟩
        rw [← ef3] at hA
        have hf := hf.put oq hsz (by omega)
        refine lv_aload_n hx hb dX5_clean_27 rfl (lv_at hl 0 rfl) ?_
        refine lv_iconst (v := (nI (2))) hx hb dX5_clean_28 (by decide) ?_
        refine lv_iconst (v := (nI (2))) hx hb dX5_clean_29 (by decide) ?_
        refine j_iast hx hb hw hA hz (k := 2) rfl (by omega) (by omega) dX5_clean_30 (fun H locs hw hA oq hsz => ?_)
        obtain ⟨f4, ef4⟩ : ∃ y9, y9 = upd f3 (2) (nI (2)) := ⟨_, rfl⟩
        rw [← ef4] at hA
        have hf := hf.put oq hsz (by omega)
        refine lv_aload_n hx hb dX5_clean_31 rfl (lv_at hl 0 rfl) ?_
        refine lv_iconst (v := (nI (3))) hx hb dX5_clean_32 (by decide) ?_
        refine lv_iconst (v := (nI (5))) hx hb dX5_clean_33 (by decide) ?_
        refine j_iast hx hb hw hA hz (k := 3) rfl (by omega) (by omega) dX5_clean_34 (fun H locs hw hA oq hsz => ?_)
        obtain ⟨f5, ef5⟩ : ∃ y9, y9 = upd f4 (3) (nI (5)) := ⟨_, rfl⟩
        rw [← ef5] at hA
        have hf := hf.put oq hsz (by omega)
        refine lv_iconst (v := (nI (0))) hx hb dX5_clean_35 (by decide) ?_
        refine lv_istore_n (lv' := [(1, .int _), (0, .ref _)]) hx hb dX5_clean_36 rfl hl (by decide) rfl (fun ls hl => ?_)
        exact lp37 (4 - 0 + 1) 0 f5 (by first | assumption | omega) (cln_4 h0 ef2 ef3 ef4 ef5 (by omega)) (fun j h => absurd h (Nat.not_lt_zero j)) (by omega) H _ hw hf hA _ (lv_sub hl [1, 0] rfl)
      · refine lv_aload_n hx hb dX5_clean_9 rfl (lv_at hl 0 rfl) ?_
        refine lv_iload_n hx hb dX5_clean_10 rfl (lv_at hl 1 rfl) ?_
        refine lv_iconst (v := (nI (0))) hx hb dX5_clean_11 (by decide) ?_
        refine j_iast hx hb hw hA hz (k := k) rfl (by omega) (by omega) dX5_clean_12 (fun H locs hw hA oq hsz => ?_)
        obtain ⟨f6, ef6⟩ : ∃ y9, y9 = upd fk (k) (nI (0)) := ⟨_, rfl⟩
        rw [← ef6] at hA
        have hf := hf.put oq hsz (by omega)
        refine lv_iinc (v := nI (k + 1)) (lv' := [(1, .int _), (0, .ref _)]) hx hb dX5_clean_13 hl (k := 1) rfl (nI_add _ 1) (by decide) rfl (fun ls hl => ?_)
        refine lv_goto (tgt := 2) hx hb dX5_clean_16 (by decide) ?_
        exact ih2  (k + 1) f6 (by first | assumption | omega) (fun j h => by rw [ef6]; by_cases q : j = k; rw [q, pk_us]; rw [pk_un q]; exact h0 j (by omega)) (by omega) H _ hw hf hA _ (lv_sub hl [1, 0] rfl)
  exact lp2 (235 - 0 + 1) 0 f (by first | assumption | omega) (fun j h => absurd h (Nat.not_lt_zero j)) (by omega) H0 _ hw hf hA _ (lv_sub hl [1, 0] rfl)

abbrev q_X5_acceptG (g : jG) (H0 : Heap) (M : Nat) (b : Nat) (x0 : Int32) (x5 : Int32) (x10 : Int32) (x14 : Int32) (sn : Bool) (tx : List Nat) (sp : Nat) : Option Value → Heap → Prop := jV (fun H1 => jO g H1 M 5 [.int x0, .ref (M + 1), .int (nI tx.length), .int (nI (sp + b)), .int (nI b), .int x5, .ref (M + 2), .ref (M + 3), .ref (M + 4), .ref (M + 5), .int x10, .ref (M + 6), .ref (M + 7), .ref (M + 8), .int x14, .int (bI sn)] ∧ jF M 1 H0 H1)
set_option maxHeartbeats 4000000 in
set_option maxRecDepth 100000 in
theorem c_X5_acceptG (l : Launch) (g : jG) (z : Nat) (H0 : Heap) (M : Nat) (b : Nat) (x0 : Int32) (x5 : Int32) (x10 : Int32) (x14 : Int32) (sn : Bool) (tx : List Nat) (sp : Nat) (hzM : z ≤ M) (hO : jO g H0 M 5 [.int x0, .ref (M + 1), .int (nI (tx.length)), .int (nI (sp)), .int (nI (1)), .int x5, .ref (M + 2), .ref (M + 3), .ref (M + 4), .ref (M + 5), .int x10, .ref (M + 6), .ref (M + 7), .ref (M + 8), .int x14, .int (bI sn)]) (hb2 : b ≤ 1) : jM l g z yX5_accept wsX5_accept 0 0 [.ref M, .int (nI (b))] H0 (q_X5_acceptG g H0 M b x0 x5 x10 x14 sn tx sp) := by
  refine j_of (cc := cX5_accept) (n := 2) (ret := none) (by decide) rfl (Nat.le_of_ble_eq_true rfl) ?_
  intro p e s m below meth c hx hb hr hml hown hts hlocks hname hH hw ls hl
  have hl : lv_has ls 2 [(0, .ref M), (1, .int (nI (b)))] := hl
  have hinX5 : ∀ w ∈ u_ws RX5 TX5 16, w ∈ wsX5_accept := by decide +kernel
  have hf : jF M 1 H0 H0 := jF.rf
  refine lv_aload_n hx hb dX5_accept_0 rfl (lv_at hl 0 rfl) ?_
  refine lv_aload_n hx hb dX5_accept_1 rfl (lv_at hl 0 rfl) ?_
  refine j_get (T := TX5) (N := 16) (k := 4) hx hb hts hinX5 hown hw hO rfl (by decide) (hts (.fieldLink RX5 125 "NightTrainsModel" "isGood" "Z") (by decide +kernel)) rfl dX5_accept_2 ?_
  refine jz_eq (tgt := 16) hx hb dX5_accept_5 (by decide) (by omega) (fun c5 => absurd c5 (by omega)) (fun c5 => ?_)
  refine lv_iload_n hx hb dX5_accept_8 rfl (lv_at hl 1 rfl) ?_
  refine jz_eq (tgt := 16) hx hb dX5_accept_9 (by decide) (by omega) (fun c9 => ?_) (fun c9 => ?_)
  · refine lv_iconst (v := (nI (0))) hx hb dX5_accept_16 (by decide) ?_
    refine j_put (T := TX5) (N := 16) (k := 4) (ty := .boolean) hx hb hts hinX5 tyX5 tyX5_ok nmX5 hown hw hO hzM rfl (by decide) (hts (.fieldLink RX5 125 "NightTrainsModel" "isGood" "Z") (by decide +kernel)) rfl (by decide +kernel) rfl rfl (Nat.le_of_ble_eq_true rfl) dX5_accept_17 (fun H locs hw hO oq hsz => ?_)
    have hO : jO g H M 5 [.int _, .ref _, .int _, .int _, .int _, .int _, .ref _, .ref _, .ref _, .ref _, .int _, .ref _, .ref _, .ref _, .int _, .int _] := hO
    have hf := hf.put oq hsz (by omega)
    refine lv_aload_n hx hb dX5_accept_20 rfl (lv_at hl 0 rfl) ?_
    refine lv_dup hx hb dX5_accept_21 rfl ?_
    refine j_get (T := TX5) (N := 16) (k := 3) hx hb hts hinX5 hown hw hO rfl (by decide) (hts (.fieldLink RX5 122 "NightTrainsModel" "spot" "I") (by decide +kernel)) rfl dX5_accept_22 ?_
    refine lv_aload_n hx hb dX5_accept_25 rfl (lv_at hl 0 rfl) ?_
    refine j_get (T := TX5) (N := 16) (k := 4) hx hb hts hinX5 hown hw hO rfl (by decide) (hts (.fieldLink RX5 125 "NightTrainsModel" "isGood" "Z") (by decide +kernel)) rfl dX5_accept_26 ?_
    refine jz_eq (tgt := 36) hx hb dX5_accept_29 (by decide) (by omega) (fun c29 => ?_) (fun c29 => absurd c29 (by omega))
    refine lv_iconst (v := (nI (0))) hx hb dX5_accept_36 (by decide) ?_
    refine j_addN hx hb dX5_accept_37 ?_
    refine j_put (T := TX5) (N := 16) (k := 3) (ty := .int) hx hb hts hinX5 tyX5 tyX5_ok nmX5 hown hw hO hzM rfl (by decide) (hts (.fieldLink RX5 122 "NightTrainsModel" "spot" "I") (by decide +kernel)) rfl (by decide +kernel) rfl rfl (Nat.le_of_ble_eq_true rfl) dX5_accept_38 (fun H locs hw hO oq hsz => ?_)
    have hO : jO g H M 5 [.int _, .ref _, .int _, .int _, .int _, .int _, .ref _, .ref _, .ref _, .ref _, .int _, .ref _, .ref _, .ref _, .int _, .int _] := hO
    have hf := hf.put oq hsz (by omega)
    refine j_vret hx hb hr hlocks hH hw dX5_accept_41 ?_
    obtain rfl : b = 0 := (by omega)
    exact ⟨rfl, hO, hf⟩
  · refine lv_iconst (v := (nI (1))) hx hb dX5_accept_12 (by decide) ?_
    refine lv_goto (tgt := 17) hx hb dX5_accept_13 (by decide) ?_
    refine j_put (T := TX5) (N := 16) (k := 4) (ty := .boolean) hx hb hts hinX5 tyX5 tyX5_ok nmX5 hown hw hO hzM rfl (by decide) (hts (.fieldLink RX5 125 "NightTrainsModel" "isGood" "Z") (by decide +kernel)) rfl (by decide +kernel) rfl rfl (Nat.le_of_ble_eq_true rfl) dX5_accept_17 (fun H locs hw hO oq hsz => ?_)
    have hO : jO g H M 5 [.int _, .ref _, .int _, .int _, .int _, .int _, .ref _, .ref _, .ref _, .ref _, .int _, .ref _, .ref _, .ref _, .int _, .int _] := hO
    have hf := hf.put oq hsz (by omega)
    refine lv_aload_n hx hb dX5_accept_20 rfl (lv_at hl 0 rfl) ?_
    refine lv_dup hx hb dX5_accept_21 rfl ?_
    refine j_get (T := TX5) (N := 16) (k := 3) hx hb hts hinX5 hown hw hO rfl (by decide) (hts (.fieldLink RX5 122 "NightTrainsModel" "spot" "I") (by decide +kernel)) rfl dX5_accept_22 ?_
    refine lv_aload_n hx hb dX5_accept_25 rfl (lv_at hl 0 rfl) ?_
    refine j_get (T := TX5) (N := 16) (k := 4) hx hb hts hinX5 hown hw hO rfl (by decide) (hts (.fieldLink RX5 125 "NightTrainsModel" "isGood" "Z") (by decide +kernel)) rfl dX5_accept_26 ?_
    refine jz_eq (tgt := 36) hx hb dX5_accept_29 (by decide) (by omega) (fun c29 => absurd c29 (by omega)) (fun c29 => ?_)
    refine lv_iconst (v := (nI (1))) hx hb dX5_accept_32 (by decide) ?_
    refine lv_goto (tgt := 37) hx hb dX5_accept_33 (by decide) ?_
    refine j_addN hx hb dX5_accept_37 ?_
    refine j_put (T := TX5) (N := 16) (k := 3) (ty := .int) hx hb hts hinX5 tyX5 tyX5_ok nmX5 hown hw hO hzM rfl (by decide) (hts (.fieldLink RX5 122 "NightTrainsModel" "spot" "I") (by decide +kernel)) rfl (by decide +kernel) rfl rfl (Nat.le_of_ble_eq_true rfl) dX5_accept_38 (fun H locs hw hO oq hsz => ?_)
    have hO : jO g H M 5 [.int _, .ref _, .int _, .int _, .int _, .int _, .ref _, .ref _, .ref _, .ref _, .int _, .ref _, .ref _, .ref _, .int _, .int _] := hO
    have hf := hf.put oq hsz (by omega)
    refine j_vret hx hb hr hlocks hH hw dX5_accept_41 ?_
    obtain rfl : b = 1 := (by omega)
    exact ⟨rfl, hO, hf⟩

abbrev q_X5_acceptB (g : jG) (H0 : Heap) (M : Nat) (b : Nat) (x0 : Int32) (x5 : Int32) (x10 : Int32) (x14 : Int32) (sn : Bool) (tx : List Nat) (sp : Nat) : Option Value → Heap → Prop := jV (fun H1 => jO g H1 M 5 [.int x0, .ref (M + 1), .int (nI tx.length), .int (nI sp), .int (nI 0), .int x5, .ref (M + 2), .ref (M + 3), .ref (M + 4), .ref (M + 5), .int x10, .ref (M + 6), .ref (M + 7), .ref (M + 8), .int x14, .int (bI sn)] ∧ jF M 1 H0 H1)
set_option maxHeartbeats 4000000 in
set_option maxRecDepth 100000 in
theorem c_X5_acceptB (l : Launch) (g : jG) (z : Nat) (H0 : Heap) (M : Nat) (b : Nat) (x0 : Int32) (x5 : Int32) (x10 : Int32) (x14 : Int32) (sn : Bool) (tx : List Nat) (sp : Nat) (hzM : z ≤ M) (hO : jO g H0 M 5 [.int x0, .ref (M + 1), .int (nI (tx.length)), .int (nI (sp)), .int (nI (0)), .int x5, .ref (M + 2), .ref (M + 3), .ref (M + 4), .ref (M + 5), .int x10, .ref (M + 6), .ref (M + 7), .ref (M + 8), .int x14, .int (bI sn)]) (hb2 : b ≤ 1) : jM l g z yX5_accept wsX5_accept 0 0 [.ref M, .int (nI (b))] H0 (q_X5_acceptB g H0 M b x0 x5 x10 x14 sn tx sp) := by
  refine j_of (cc := cX5_accept) (n := 2) (ret := none) (by decide) rfl (Nat.le_of_ble_eq_true rfl) ?_
  intro p e s m below meth c hx hb hr hml hown hts hlocks hname hH hw ls hl
  have hl : lv_has ls 2 [(0, .ref M), (1, .int (nI (b)))] := hl
  have hinX5 : ∀ w ∈ u_ws RX5 TX5 16, w ∈ wsX5_accept := by decide +kernel
  have hf : jF M 1 H0 H0 := jF.rf
  refine lv_aload_n hx hb dX5_accept_0 rfl (lv_at hl 0 rfl) ?_
  refine lv_aload_n hx hb dX5_accept_1 rfl (lv_at hl 0 rfl) ?_
  refine j_get (T := TX5) (N := 16) (k := 4) hx hb hts hinX5 hown hw hO rfl (by decide) (hts (.fieldLink RX5 125 "NightTrainsModel" "isGood" "Z") (by decide +kernel)) rfl dX5_accept_2 ?_
  refine jz_eq (tgt := 16) hx hb dX5_accept_5 (by decide) (by omega) (fun c5 => ?_) (fun c5 => absurd c5 (by omega))
  refine lv_iconst (v := (nI (0))) hx hb dX5_accept_16 (by decide) ?_
  refine j_put (T := TX5) (N := 16) (k := 4) (ty := .boolean) hx hb hts hinX5 tyX5 tyX5_ok nmX5 hown hw hO hzM rfl (by decide) (hts (.fieldLink RX5 125 "NightTrainsModel" "isGood" "Z") (by decide +kernel)) rfl (by decide +kernel) rfl rfl (Nat.le_of_ble_eq_true rfl) dX5_accept_17 (fun H locs hw hO oq hsz => ?_)
  have hO : jO g H M 5 [.int _, .ref _, .int _, .int _, .int _, .int _, .ref _, .ref _, .ref _, .ref _, .int _, .ref _, .ref _, .ref _, .int _, .int _] := hO
  have hf := hf.put oq hsz (by omega)
  refine lv_aload_n hx hb dX5_accept_20 rfl (lv_at hl 0 rfl) ?_
  refine lv_dup hx hb dX5_accept_21 rfl ?_
  refine j_get (T := TX5) (N := 16) (k := 3) hx hb hts hinX5 hown hw hO rfl (by decide) (hts (.fieldLink RX5 122 "NightTrainsModel" "spot" "I") (by decide +kernel)) rfl dX5_accept_22 ?_
  refine lv_aload_n hx hb dX5_accept_25 rfl (lv_at hl 0 rfl) ?_
  refine j_get (T := TX5) (N := 16) (k := 4) hx hb hts hinX5 hown hw hO rfl (by decide) (hts (.fieldLink RX5 125 "NightTrainsModel" "isGood" "Z") (by decide +kernel)) rfl dX5_accept_26 ?_
  refine jz_eq (tgt := 36) hx hb dX5_accept_29 (by decide) (by omega) (fun c29 => ?_) (fun c29 => absurd c29 (by omega))
  refine lv_iconst (v := (nI (0))) hx hb dX5_accept_36 (by decide) ?_
  refine j_addN hx hb dX5_accept_37 ?_
  refine j_put (T := TX5) (N := 16) (k := 3) (ty := .int) hx hb hts hinX5 tyX5 tyX5_ok nmX5 hown hw hO hzM rfl (by decide) (hts (.fieldLink RX5 122 "NightTrainsModel" "spot" "I") (by decide +kernel)) rfl (by decide +kernel) rfl rfl (Nat.le_of_ble_eq_true rfl) dX5_accept_38 (fun H locs hw hO oq hsz => ?_)
  have hO : jO g H M 5 [.int _, .ref _, .int _, .int _, .int _, .int _, .ref _, .ref _, .ref _, .ref _, .int _, .ref _, .ref _, .ref _, .int _, .int _] := hO
  have hf := hf.put oq hsz (by omega)
  refine j_vret hx hb hr hlocks hH hw dX5_accept_41 ?_
  exact ⟨rfl, hO, hf⟩

abbrev q_X5_isNext (g : jG) (H0 : Heap) (M : Nat) (cc : Nat) (x0 : Int32) (x5 : Int32) (x10 : Int32) (x14 : Int32) (sn : Bool) (tx : List Nat) (sp : Nat) (x4 : Int32) (sc : Nat → Int32) : Option Value → Heap → Prop := jN (fun r H1 => H1 = H0 ∧ ((r = nI 1 ∧ ch tx sp = cc) ∨ (r = nI 0 ∧ ¬ ch tx sp = cc)))
set_option maxHeartbeats 4000000 in
set_option maxRecDepth 100000 in
theorem c_X5_isNext (l : Launch) (g : jG) (z : Nat) (H0 : Heap) (M : Nat) (cc : Nat) (x0 : Int32) (x5 : Int32) (x10 : Int32) (x14 : Int32) (sn : Bool) (tx : List Nat) (sp : Nat) (x4 : Int32) (sc : Nat → Int32) (hO : jO g H0 M 5 [.int x0, .ref (M + 1), .int (nI (tx.length)), .int (nI (sp)), .int x4, .int x5, .ref (M + 2), .ref (M + 3), .ref (M + 4), .ref (M + 5), .int x10, .ref (M + 6), .ref (M + 7), .ref (M + 8), .int x14, .int (bI sn)]) (hSc : jI g H0 (M + 1) 120 sc) (hsc : tIs sc tx) (htx : tx.length ≤ 120) (hsp : sp ≤ tx.length) (hcc : cc < 256) : jM l g z yX5_isNext wsX5_isNext 0 0 [.ref M, .int (nI (cc))] H0 (q_X5_isNext g H0 M cc x0 x5 x10 x14 sn tx sp x4 sc) := by
  refine j_of (cc := cX5_isNext) (n := 2) (ret := some .boolean) (by decide) rfl (Nat.le_of_ble_eq_true rfl) ?_
  intro p e s m below meth c hx hb hr hml hown hts hlocks hname hH hw ls hl
  have hl : lv_has ls 2 [(0, .ref M), (1, .int (nI (cc)))] := hl
  have hinX5 : ∀ w ∈ u_ws RX5 TX5 16, w ∈ wsX5_isNext := by decide +kernel
  refine lv_aload_n hx hb dX5_isNext_0 rfl (lv_at hl 0 rfl) ?_
  refine j_get (T := TX5) (N := 16) (k := 3) hx hb hts hinX5 hown hw hO rfl (by decide) (hts (.fieldLink RX5 122 "NightTrainsModel" "spot" "I") (by decide +kernel)) rfl dX5_isNext_1 ?_
  refine lv_aload_n hx hb dX5_isNext_4 rfl (lv_at hl 0 rfl) ?_
  refine j_get (T := TX5) (N := 16) (k := 2) hx hb hts hinX5 hown hw hO rfl (by decide) (hts (.fieldLink RX5 115 "NightTrainsModel" "scriptSize" "I") (by decide +kernel)) rfl dX5_isNext_5 ?_
  refine jn_ge (tgt := 28) hx hb dX5_isNext_8 (by decide) (by omega) (by omega) (fun c8 => ?_) (fun c8 => ?_)
  · refine lv_iconst (v := (nI (0))) hx hb dX5_isNext_28 (by decide) ?_
    refine j_zret hx hb hr hlocks hH hw (Or.inl rfl) dX5_isNext_29 ?_
    exact ⟨_, rfl, rfl, Or.inr ⟨rfl, by first | exact c21 | (rw [ch_out (by omega)]; omega)⟩⟩
  · have hch := hsc.ch (show sp < tx.length by omega)
    have hch2 := hch.2
    refine lv_aload_n hx hb dX5_isNext_11 rfl (lv_at hl 0 rfl) ?_
    refine j_get (T := TX5) (N := 16) (k := 1) hx hb hts hinX5 hown hw hO rfl (by decide) (hts (.fieldLink RX5 7 "NightTrainsModel" "script" "[I") (by decide +kernel)) rfl dX5_isNext_12 ?_
    refine lv_aload_n hx hb dX5_isNext_15 rfl (lv_at hl 0 rfl) ?_
    refine j_get (T := TX5) (N := 16) (k := 3) hx hb hts hinX5 hown hw hO rfl (by decide) (hts (.fieldLink RX5 122 "NightTrainsModel" "spot" "I") (by decide +kernel)) rfl dX5_isNext_16 ?_
    refine j_iald hx hb hw hSc (k := sp) rfl (by omega) (by omega) dX5_isNext_19 ?_
    refine j_eq (y := nI (ch tx sp)) hch.1 ?_
    refine lv_iload_n hx hb dX5_isNext_20 rfl (lv_at hl 1 rfl) ?_
    refine jn_ne (tgt := 28) hx hb dX5_isNext_21 (by decide) (by omega) (by omega) (fun c21 => ?_) (fun c21 => ?_)
    · refine lv_iconst (v := (nI (0))) hx hb dX5_isNext_28 (by decide) ?_
      refine j_zret hx hb hr hlocks hH hw (Or.inl rfl) dX5_isNext_29 ?_
      exact ⟨_, rfl, rfl, Or.inr ⟨rfl, by first | exact c21 | (rw [ch_out (by omega)]; omega)⟩⟩
    · refine lv_iconst (v := (nI (1))) hx hb dX5_isNext_24 (by decide) ?_
      refine lv_goto (tgt := 29) hx hb dX5_isNext_25 (by decide) ?_
      refine j_zret hx hb hr hlocks hH hw (Or.inr rfl) dX5_isNext_29 ?_
      exact ⟨_, rfl, rfl, Or.inl ⟨rfl, c21⟩⟩

abbrev q_X5_digitG (g : jG) (H0 : Heap) (M : Nat) (dl : Nat) (dh : Nat) (x0 : Int32) (x5 : Int32) (x10 : Int32) (x14 : Int32) (sn : Bool) (tx : List Nat) (sp : Nat) (sc : Nat → Int32) : Option Value → Heap → Prop := jN (fun r H1 => (∃ u, dgt tx sp dl dh = some u ∧ r = nI u ∧ dl ≤ u ∧ u ≤ dh ∧ sp < tx.length ∧ jO g H1 M 5 [.int x0, .ref (M + 1), .int (nI tx.length), .int (nI (sp + 1)), .int (nI 1), .int x5, .ref (M + 2), .ref (M + 3), .ref (M + 4), .ref (M + 5), .int x10, .ref (M + 6), .ref (M + 7), .ref (M + 8), .int x14, .int (bI sn)] ∧ jF M 1 H0 H1) ∨ (dgt tx sp dl dh = none ∧ r = nI dl ∧ jO g H1 M 5 [.int x0, .ref (M + 1), .int (nI tx.length), .int (nI sp), .int (nI 0), .int x5, .ref (M + 2), .ref (M + 3), .ref (M + 4), .ref (M + 5), .int x10, .ref (M + 6), .ref (M + 7), .ref (M + 8), .int x14, .int (bI sn)] ∧ jF M 1 H0 H1))
set_option maxHeartbeats 4000000 in
set_option maxRecDepth 100000 in
theorem c_X5_digitG (l : Launch) (g : jG) (z : Nat) (H0 : Heap) (M : Nat) (dl : Nat) (dh : Nat) (x0 : Int32) (x5 : Int32) (x10 : Int32) (x14 : Int32) (sn : Bool) (tx : List Nat) (sp : Nat) (sc : Nat → Int32) (hzM : z ≤ M) (hO : jO g H0 M 5 [.int x0, .ref (M + 1), .int (nI (tx.length)), .int (nI (sp)), .int (nI (1)), .int x5, .ref (M + 2), .ref (M + 3), .ref (M + 4), .ref (M + 5), .int x10, .ref (M + 6), .ref (M + 7), .ref (M + 8), .int x14, .int (bI sn)]) (hSc : jI g H0 (M + 1) 120 sc) (hsc : tIs sc tx) (htx : tx.length ≤ 120) (hsp : sp ≤ tx.length) (hlh : dl ≤ dh) (hd9 : dh ≤ 9) : jM l g z yX5_digit wsX5_digit 1 25 [.ref M, .int (nI (dl)), .int (nI (dh))] H0 (q_X5_digitG g H0 M dl dh x0 x5 x10 x14 sn tx sp sc) := by
  refine j_of (cc := cX5_digit) (n := 4) (ret := some .int) (by decide) rfl (Nat.le_of_ble_eq_true rfl) ?_
  intro p e s m below meth c hx hb hr hml hown hts hlocks hname hH hw ls hl
  have hl : lv_has ls 4 [(0, .ref M), (1, .int (nI (dl))), (2, .int (nI (dh)))] := hl
  have hinX5 : ∀ w ∈ u_ws RX5 TX5 16, w ∈ wsX5_digit := by decide +kernel
  have hf : jF M 1 H0 H0 := jF.rf
  refine lv_aload_n hx hb dX5_digit_0 rfl (lv_at hl 0 rfl) ?_
  refine j_get (T := TX5) (N := 16) (k := 3) hx hb hts hinX5 hown hw hO rfl (by decide) (hts (.fieldLink RX5 122 "NightTrainsModel" "spot" "I") (by decide +kernel)) rfl dX5_digit_1 ?_
  refine lv_aload_n hx hb dX5_digit_4 rfl (lv_at hl 0 rfl) ?_
  refine j_get (T := TX5) (N := 16) (k := 2) hx hb hts hinX5 hown hw hO rfl (by decide) (hts (.fieldLink RX5 115 "NightTrainsModel" "scriptSize" "I") (by decide +kernel)) rfl dX5_digit_5 ?_
  refine jn_ge (tgt := 26) hx hb dX5_digit_8 (by decide) (by omega) (by omega) (fun c8 => ?_) (fun c8 => ?_)
  · refine lv_iconst (v := (-1)) hx hb dX5_digit_26 (by decide) ?_
    refine lv_topi (fun y1 ey1 => ?_)
    have hdv : dv tx sp y1 := Or.inr ⟨by omega, ey1⟩
    refine lv_istore_n (lv' := [(3, .int _), (0, .ref _), (1, .int _), (2, .int _)]) hx hb dX5_digit_27 rfl hl (by decide) rfl (fun ls hl => ?_)
    refine lv_aload_n hx hb dX5_digit_28 rfl (lv_at hl 1 rfl) ?_
    refine lv_iload_n hx hb dX5_digit_29 rfl (lv_at hl 0 rfl) ?_
    refine lv_i2l (v := y1.toInt64) hx hb dX5_digit_30 rfl ?_
    refine lv_lconst (v := 0) hx hb dX5_digit_31 (by decide) ?_
    refine lv_ldc2 (v := 9) hx hb hown (hts (.constantLong RX5 128 (9)) (by decide +kernel)) dX5_digit_32 ?_
    refine j_Sp (n := 3) (As := [.long y1.toInt64, .long 0, .long 9]) hx hb hml hown hts hw (c_X5_in l g z H0 y1.toInt64 0 9   ) gX5_digit_X5_in rfl (by decide +kernel) ⟨Nat.le_of_ble_eq_true rfl, Nat.le_of_ble_eq_true rfl⟩ rfl hl.1 (Nat.le_of_ble_eq_true rfl) ⟨Nat.zero_le _, Nat.zero_le _⟩ dX5_digit_35 (fun r2 locs hr2 hw => ?_) rfl
    rcases in_ix (x := y1) (a := 0) (n := 10) (by decide) (by decide) hr2 with ⟨rfl, u, hu, hua, hun, rfl⟩ | ⟨rfl, hu⟩
    · refine jz_eq (tgt := 57) hx hb dX5_digit_38 (by decide) (by omega) (fun c38 => absurd c38 (by omega)) (fun c38 => ?_)
      refine lv_iload_n hx hb dX5_digit_41 rfl (lv_at hl 0 rfl) ?_
      refine lv_i2l (v := (nI (u)).toInt64) hx hb dX5_digit_42 rfl ?_
      refine lv_iload_n hx hb dX5_digit_43 rfl (lv_at hl 2 rfl) ?_
      refine lv_i2l (v := (nI (dl)).toInt64) hx hb dX5_digit_44 rfl ?_
      refine lv_iload_n hx hb dX5_digit_45 rfl (lv_at hl 3 rfl) ?_
      refine lv_i2l (v := (nI (dh)).toInt64) hx hb dX5_digit_46 rfl ?_
      refine j_Sp (n := 3) (As := [.long (nI (u)).toInt64, .long (nI (dl)).toInt64, .long (nI (dh)).toInt64]) hx hb hml hown hts hw (c_X5_in l g z H0 (nI (u)).toInt64 (nI (dl)).toInt64 (nI (dh)).toInt64   ) gX5_digit_X5_in rfl (by decide +kernel) ⟨Nat.le_of_ble_eq_true rfl, Nat.le_of_ble_eq_true rfl⟩ rfl hl.1 (Nat.le_of_ble_eq_true rfl) ⟨Nat.zero_le _, Nat.zero_le _⟩ dX5_digit_47 (fun r3 locs hin9 hw => ?_) rfl
      rcases hin9 with ⟨rfl, hin9⟩ | ⟨rfl, hin9⟩
      · refine jz_eq (tgt := 57) hx hb dX5_digit_50 (by decide) (by omega) (fun c50 => absurd c50 (by omega)) (fun c50 => ?_)
        refine lv_iconst (v := (nI (1))) hx hb dX5_digit_53 (by decide) ?_
        refine lv_goto (tgt := 58) hx hb dX5_digit_54 (by decide) ?_
        refine j_Vv (n := 1) (As := [.int (nI (1))]) hx hb hml hown hts hw (j_recv hw hO rfl) (c_X5_acceptG l g z H0 M (1) x0 x5 x10 x14 _ _ (sp) hzM hO (by first | assumption | omega)) gX5_digit_X5_accept rfl (by decide +kernel) ⟨Nat.le_of_ble_eq_true rfl, Nat.le_of_ble_eq_true rfl⟩ rfl hl.1 (Nat.le_of_ble_eq_true rfl) ⟨Nat.zero_le _, Nat.zero_le _⟩ dX5_digit_58 (fun H locs hr4 hw hsz => ?_) rfl
        obtain ⟨hO, hf2⟩ := hr4
        have hO : jO g H M 5 [.int x0, .ref (M + 1), .int (nI (tx.length)), .int (nI ((sp + 1))), .int (nI (1)), .int x5, .ref (M + 2), .ref (M + 3), .ref (M + 4), .ref (M + 5), .int x10, .ref (M + 6), .ref (M + 7), .ref (M + 8), .int x14, .int (bI sn)] := hO
        have hSc := hSc.kept (hf2.2 _ (by omega))
        have hf := hf.step hf2 (by omega)
        refine lv_aload_n hx hb dX5_digit_61 rfl (lv_at hl 1 rfl) ?_
        refine j_get (T := TX5) (N := 16) (k := 4) hx hb hts hinX5 hown hw hO rfl (by decide) (hts (.fieldLink RX5 125 "NightTrainsModel" "isGood" "Z") (by decide +kernel)) rfl dX5_digit_62 ?_
        refine jz_eq (tgt := 72) hx hb dX5_digit_65 (by decide) (by omega) (fun c65 => absurd c65 (by omega)) (fun c65 => ?_)
        refine lv_iload_n hx hb dX5_digit_68 rfl (lv_at hl 0 rfl) ?_
        refine lv_goto (tgt := 73) hx hb dX5_digit_69 (by decide) ?_
        refine j_iret hx hb hr hlocks hH hw dX5_digit_73 ?_
        exact ⟨_, rfl, Or.inl ⟨u, dgt_yes hdv hun ((le64 (by omega) (by omega)).mp hin9.1) ((le64 (by omega) (by omega)).mp hin9.2), rfl, (le64 (by omega) (by omega)).mp hin9.1, (le64 (by omega) (by omega)).mp hin9.2, (dv_ge hdv (by omega)).1, hO, hf⟩⟩
      · refine jz_eq (tgt := 57) hx hb dX5_digit_50 (by decide) (by omega) (fun c50 => ?_) (fun c50 => absurd c50 (by omega))
        refine lv_iconst (v := (nI (0))) hx hb dX5_digit_57 (by decide) ?_
        refine j_Vv (n := 1) (As := [.int (nI (0))]) hx hb hml hown hts hw (j_recv hw hO rfl) (c_X5_acceptG l g z H0 M (0) x0 x5 x10 x14 _ _ (sp) hzM hO (by first | assumption | omega)) gX5_digit_X5_accept rfl (by decide +kernel) ⟨Nat.le_of_ble_eq_true rfl, Nat.le_of_ble_eq_true rfl⟩ rfl hl.1 (Nat.le_of_ble_eq_true rfl) ⟨Nat.zero_le _, Nat.zero_le _⟩ dX5_digit_58 (fun H locs hr5 hw hsz => ?_) rfl
        obtain ⟨hO, hf2⟩ := hr5
        have hO : jO g H M 5 [.int x0, .ref (M + 1), .int (nI (tx.length)), .int (nI (sp)), .int (nI (0)), .int x5, .ref (M + 2), .ref (M + 3), .ref (M + 4), .ref (M + 5), .int x10, .ref (M + 6), .ref (M + 7), .ref (M + 8), .int x14, .int (bI sn)] := hO
        have hSc := hSc.kept (hf2.2 _ (by omega))
        have hf := hf.step hf2 (by omega)
        refine lv_aload_n hx hb dX5_digit_61 rfl (lv_at hl 1 rfl) ?_
        refine j_get (T := TX5) (N := 16) (k := 4) hx hb hts hinX5 hown hw hO rfl (by decide) (hts (.fieldLink RX5 125 "NightTrainsModel" "isGood" "Z") (by decide +kernel)) rfl dX5_digit_62 ?_
        refine jz_eq (tgt := 72) hx hb dX5_digit_65 (by decide) (by omega) (fun c65 => ?_) (fun c65 => absurd c65 (by omega))
        refine lv_iload_n hx hb dX5_digit_72 rfl (lv_at hl 2 rfl) ?_
        refine j_iret hx hb hr hlocks hH hw dX5_digit_73 ?_
        exact ⟨_, rfl, Or.inr ⟨dgt_no2 hdv hun (fun q => hin9 ⟨(le64 (by omega) (by omega)).mpr q.1, (le64 (by omega) (by omega)).mpr q.2⟩), rfl, hO, hf⟩⟩
    · refine jz_eq (tgt := 57) hx hb dX5_digit_38 (by decide) (by omega) (fun c38 => ?_) (fun c38 => absurd c38 (by omega))
      refine lv_iconst (v := (nI (0))) hx hb dX5_digit_57 (by decide) ?_
      refine j_Vv (n := 1) (As := [.int (nI (0))]) hx hb hml hown hts hw (j_recv hw hO rfl) (c_X5_acceptG l g z H0 M (0) x0 x5 x10 x14 _ _ (sp) hzM hO (by first | assumption | omega)) gX5_digit_X5_accept rfl (by decide +kernel) ⟨Nat.le_of_ble_eq_true rfl, Nat.le_of_ble_eq_true rfl⟩ rfl hl.1 (Nat.le_of_ble_eq_true rfl) ⟨Nat.zero_le _, Nat.zero_le _⟩ dX5_digit_58 (fun H locs hr6 hw hsz => ?_) rfl
      obtain ⟨hO, hf2⟩ := hr6
      have hO : jO g H M 5 [.int x0, .ref (M + 1), .int (nI (tx.length)), .int (nI (sp)), .int (nI (0)), .int x5, .ref (M + 2), .ref (M + 3), .ref (M + 4), .ref (M + 5), .int x10, .ref (M + 6), .ref (M + 7), .ref (M + 8), .int x14, .int (bI sn)] := hO
      have hSc := hSc.kept (hf2.2 _ (by omega))
      have hf := hf.step hf2 (by omega)
      refine lv_aload_n hx hb dX5_digit_61 rfl (lv_at hl 1 rfl) ?_
      refine j_get (T := TX5) (N := 16) (k := 4) hx hb hts hinX5 hown hw hO rfl (by decide) (hts (.fieldLink RX5 125 "NightTrainsModel" "isGood" "Z") (by decide +kernel)) rfl dX5_digit_62 ?_
      refine jz_eq (tgt := 72) hx hb dX5_digit_65 (by decide) (by omega) (fun c65 => ?_) (fun c65 => absurd c65 (by omega))
      refine lv_iload_n hx hb dX5_digit_72 rfl (lv_at hl 2 rfl) ?_
      refine j_iret hx hb hr hlocks hH hw dX5_digit_73 ?_
      exact ⟨_, rfl, Or.inr ⟨dgt_no1 hdv hu hd9, rfl, hO, hf⟩⟩
  · have hch := hsc.ch (show sp < tx.length by omega)
    have hch2 := hch.2
    refine lv_aload_n hx hb dX5_digit_11 rfl (lv_at hl 0 rfl) ?_
    refine j_get (T := TX5) (N := 16) (k := 1) hx hb hts hinX5 hown hw hO rfl (by decide) (hts (.fieldLink RX5 7 "NightTrainsModel" "script" "[I") (by decide +kernel)) rfl dX5_digit_12 ?_
    refine lv_aload_n hx hb dX5_digit_15 rfl (lv_at hl 0 rfl) ?_
    refine j_get (T := TX5) (N := 16) (k := 3) hx hb hts hinX5 hown hw hO rfl (by decide) (hts (.fieldLink RX5 122 "NightTrainsModel" "spot" "I") (by decide +kernel)) rfl dX5_digit_16 ?_
    refine j_iald hx hb hw hSc (k := sp) rfl (by omega) (by omega) dX5_digit_19 ?_
    refine j_eq (y := nI (ch tx sp)) hch.1 ?_
    refine lv_bipush (v := (nI (48))) hx hb dX5_digit_20 (by decide) ?_
    refine lv_isub hx hb dX5_digit_22 ?_
    refine lv_goto (tgt := 27) hx hb dX5_digit_23 (by decide) ?_
    refine lv_topi (fun y7 ey7 => ?_)
    have hdv : dv tx sp y7 := Or.inl ⟨by omega, hch2, ey7⟩
    refine lv_istore_n (lv' := [(3, .int _), (0, .ref _), (1, .int _), (2, .int _)]) hx hb dX5_digit_27 rfl hl (by decide) rfl (fun ls hl => ?_)
    refine lv_aload_n hx hb dX5_digit_28 rfl (lv_at hl 1 rfl) ?_
    refine lv_iload_n hx hb dX5_digit_29 rfl (lv_at hl 0 rfl) ?_
    refine lv_i2l (v := y7.toInt64) hx hb dX5_digit_30 rfl ?_
    refine lv_lconst (v := 0) hx hb dX5_digit_31 (by decide) ?_
    refine lv_ldc2 (v := 9) hx hb hown (hts (.constantLong RX5 128 (9)) (by decide +kernel)) dX5_digit_32 ?_
    refine j_Sp (n := 3) (As := [.long y7.toInt64, .long 0, .long 9]) hx hb hml hown hts hw (c_X5_in l g z H0 y7.toInt64 0 9   ) gX5_digit_X5_in rfl (by decide +kernel) ⟨Nat.le_of_ble_eq_true rfl, Nat.le_of_ble_eq_true rfl⟩ rfl hl.1 (Nat.le_of_ble_eq_true rfl) ⟨Nat.zero_le _, Nat.zero_le _⟩ dX5_digit_35 (fun r8 locs hr8 hw => ?_) rfl
    rcases in_ix (x := y7) (a := 0) (n := 10) (by decide) (by decide) hr8 with ⟨rfl, u, hu, hua, hun, rfl⟩ | ⟨rfl, hu⟩
    · refine jz_eq (tgt := 57) hx hb dX5_digit_38 (by decide) (by omega) (fun c38 => absurd c38 (by omega)) (fun c38 => ?_)
      refine lv_iload_n hx hb dX5_digit_41 rfl (lv_at hl 0 rfl) ?_
      refine lv_i2l (v := (nI (u)).toInt64) hx hb dX5_digit_42 rfl ?_
      refine lv_iload_n hx hb dX5_digit_43 rfl (lv_at hl 2 rfl) ?_
      refine lv_i2l (v := (nI (dl)).toInt64) hx hb dX5_digit_44 rfl ?_
      refine lv_iload_n hx hb dX5_digit_45 rfl (lv_at hl 3 rfl) ?_
      refine lv_i2l (v := (nI (dh)).toInt64) hx hb dX5_digit_46 rfl ?_
      refine j_Sp (n := 3) (As := [.long (nI (u)).toInt64, .long (nI (dl)).toInt64, .long (nI (dh)).toInt64]) hx hb hml hown hts hw (c_X5_in l g z H0 (nI (u)).toInt64 (nI (dl)).toInt64 (nI (dh)).toInt64   ) gX5_digit_X5_in rfl (by decide +kernel) ⟨Nat.le_of_ble_eq_true rfl, Nat.le_of_ble_eq_true rfl⟩ rfl hl.1 (Nat.le_of_ble_eq_true rfl) ⟨Nat.zero_le _, Nat.zero_le _⟩ dX5_digit_47 (fun r9 locs hin9 hw => ?_) rfl
      rcases hin9 with ⟨rfl, hin9⟩ | ⟨rfl, hin9⟩
      · refine jz_eq (tgt := 57) hx hb dX5_digit_50 (by decide) (by omega) (fun c50 => absurd c50 (by omega)) (fun c50 => ?_)
        refine lv_iconst (v := (nI (1))) hx hb dX5_digit_53 (by decide) ?_
        refine lv_goto (tgt := 58) hx hb dX5_digit_54 (by decide) ?_
        refine j_Vv (n := 1) (As := [.int (nI (1))]) hx hb hml hown hts hw (j_recv hw hO rfl) (c_X5_acceptG l g z H0 M (1) x0 x5 x10 x14 _ _ (sp) hzM hO (by first | assumption | omega)) gX5_digit_X5_accept rfl (by decide +kernel) ⟨Nat.le_of_ble_eq_true rfl, Nat.le_of_ble_eq_true rfl⟩ rfl hl.1 (Nat.le_of_ble_eq_true rfl) ⟨Nat.zero_le _, Nat.zero_le _⟩ dX5_digit_58 (fun H locs hr10 hw hsz => ?_) rfl
        obtain ⟨hO, hf2⟩ := hr10
        have hO : jO g H M 5 [.int x0, .ref (M + 1), .int (nI (tx.length)), .int (nI ((sp + 1))), .int (nI (1)), .int x5, .ref (M + 2), .ref (M + 3), .ref (M + 4), .ref (M + 5), .int x10, .ref (M + 6), .ref (M + 7), .ref (M + 8), .int x14, .int (bI sn)] := hO
        have hSc := hSc.kept (hf2.2 _ (by omega))
        have hf := hf.step hf2 (by omega)
        refine lv_aload_n hx hb dX5_digit_61 rfl (lv_at hl 1 rfl) ?_
        refine j_get (T := TX5) (N := 16) (k := 4) hx hb hts hinX5 hown hw hO rfl (by decide) (hts (.fieldLink RX5 125 "NightTrainsModel" "isGood" "Z") (by decide +kernel)) rfl dX5_digit_62 ?_
        refine jz_eq (tgt := 72) hx hb dX5_digit_65 (by decide) (by omega) (fun c65 => absurd c65 (by omega)) (fun c65 => ?_)
        refine lv_iload_n hx hb dX5_digit_68 rfl (lv_at hl 0 rfl) ?_
        refine lv_goto (tgt := 73) hx hb dX5_digit_69 (by decide) ?_
        refine j_iret hx hb hr hlocks hH hw dX5_digit_73 ?_
        exact ⟨_, rfl, Or.inl ⟨u, dgt_yes hdv hun ((le64 (by omega) (by omega)).mp hin9.1) ((le64 (by omega) (by omega)).mp hin9.2), rfl, (le64 (by omega) (by omega)).mp hin9.1, (le64 (by omega) (by omega)).mp hin9.2, (dv_ge hdv (by omega)).1, hO, hf⟩⟩
      · refine jz_eq (tgt := 57) hx hb dX5_digit_50 (by decide) (by omega) (fun c50 => ?_) (fun c50 => absurd c50 (by omega))
        refine lv_iconst (v := (nI (0))) hx hb dX5_digit_57 (by decide) ?_
        refine j_Vv (n := 1) (As := [.int (nI (0))]) hx hb hml hown hts hw (j_recv hw hO rfl) (c_X5_acceptG l g z H0 M (0) x0 x5 x10 x14 _ _ (sp) hzM hO (by first | assumption | omega)) gX5_digit_X5_accept rfl (by decide +kernel) ⟨Nat.le_of_ble_eq_true rfl, Nat.le_of_ble_eq_true rfl⟩ rfl hl.1 (Nat.le_of_ble_eq_true rfl) ⟨Nat.zero_le _, Nat.zero_le _⟩ dX5_digit_58 (fun H locs hr11 hw hsz => ?_) rfl
        obtain ⟨hO, hf2⟩ := hr11
        have hO : jO g H M 5 [.int x0, .ref (M + 1), .int (nI (tx.length)), .int (nI (sp)), .int (nI (0)), .int x5, .ref (M + 2), .ref (M + 3), .ref (M + 4), .ref (M + 5), .int x10, .ref (M + 6), .ref (M + 7), .ref (M + 8), .int x14, .int (bI sn)] := hO
        have hSc := hSc.kept (hf2.2 _ (by omega))
        have hf := hf.step hf2 (by omega)
        refine lv_aload_n hx hb dX5_digit_61 rfl (lv_at hl 1 rfl) ?_
        refine j_get (T := TX5) (N := 16) (k := 4) hx hb hts hinX5 hown hw hO rfl (by decide) (hts (.fieldLink RX5 125 "NightTrainsModel" "isGood" "Z") (by decide +kernel)) rfl dX5_digit_62 ?_
        refine jz_eq (tgt := 72) hx hb dX5_digit_65 (by decide) (by omega) (fun c65 => ?_) (fun c65 => absurd c65 (by omega))
        refine lv_iload_n hx hb dX5_digit_72 rfl (lv_at hl 2 rfl) ?_
        refine j_iret hx hb hr hlocks hH hw dX5_digit_73 ?_
        exact ⟨_, rfl, Or.inr ⟨dgt_no2 hdv hun (fun q => hin9 ⟨(le64 (by omega) (by omega)).mpr q.1, (le64 (by omega) (by omega)).mpr q.2⟩), rfl, hO, hf⟩⟩
    · refine jz_eq (tgt := 57) hx hb dX5_digit_38 (by decide) (by omega) (fun c38 => ?_) (fun c38 => absurd c38 (by omega))
      refine lv_iconst (v := (nI (0))) hx hb dX5_digit_57 (by decide) ?_
      refine j_Vv (n := 1) (As := [.int (nI (0))]) hx hb hml hown hts hw (j_recv hw hO rfl) (c_X5_acceptG l g z H0 M (0) x0 x5 x10 x14 _ _ (sp) hzM hO (by first | assumption | omega)) gX5_digit_X5_accept rfl (by decide +kernel) ⟨Nat.le_of_ble_eq_true rfl, Nat.le_of_ble_eq_true rfl⟩ rfl hl.1 (Nat.le_of_ble_eq_true rfl) ⟨Nat.zero_le _, Nat.zero_le _⟩ dX5_digit_58 (fun H locs hr12 hw hsz => ?_) rfl
      obtain ⟨hO, hf2⟩ := hr12
      have hO : jO g H M 5 [.int x0, .ref (M + 1), .int (nI (tx.length)), .int (nI (sp)), .int (nI (0)), .int x5, .ref (M + 2), .ref (M + 3), .ref (M + 4), .ref (M + 5), .int x10, .ref (M + 6), .ref (M + 7), .ref (M + 8), .int x14, .int (bI sn)] := hO
      have hSc := hSc.kept (hf2.2 _ (by omega))
      have hf := hf.step hf2 (by omega)
      refine lv_aload_n hx hb dX5_digit_61 rfl (lv_at hl 1 rfl) ?_
      refine j_get (T := TX5) (N := 16) (k := 4) hx hb hts hinX5 hown hw hO rfl (by decide) (hts (.fieldLink RX5 125 "NightTrainsModel" "isGood" "Z") (by decide +kernel)) rfl dX5_digit_62 ?_
      refine jz_eq (tgt := 72) hx hb dX5_digit_65 (by decide) (by omega) (fun c65 => ?_) (fun c65 => absurd c65 (by omega))
      refine lv_iload_n hx hb dX5_digit_72 rfl (lv_at hl 2 rfl) ?_
      refine j_iret hx hb hr hlocks hH hw dX5_digit_73 ?_
      exact ⟨_, rfl, Or.inr ⟨dgt_no1 hdv hu hd9, rfl, hO, hf⟩⟩

abbrev q_X5_digitB (g : jG) (H0 : Heap) (M : Nat) (dl : Nat) (dh : Nat) (x0 : Int32) (x5 : Int32) (x10 : Int32) (x14 : Int32) (sn : Bool) (tx : List Nat) (sp : Nat) (sc : Nat → Int32) : Option Value → Heap → Prop := jN (fun r H1 => r = nI dl ∧ jO g H1 M 5 [.int x0, .ref (M + 1), .int (nI tx.length), .int (nI sp), .int (nI 0), .int x5, .ref (M + 2), .ref (M + 3), .ref (M + 4), .ref (M + 5), .int x10, .ref (M + 6), .ref (M + 7), .ref (M + 8), .int x14, .int (bI sn)] ∧ jF M 1 H0 H1)
set_option maxHeartbeats 4000000 in
set_option maxRecDepth 100000 in
theorem c_X5_digitB (l : Launch) (g : jG) (z : Nat) (H0 : Heap) (M : Nat) (dl : Nat) (dh : Nat) (x0 : Int32) (x5 : Int32) (x10 : Int32) (x14 : Int32) (sn : Bool) (tx : List Nat) (sp : Nat) (sc : Nat → Int32) (hzM : z ≤ M) (hO : jO g H0 M 5 [.int x0, .ref (M + 1), .int (nI (tx.length)), .int (nI (sp)), .int (nI (0)), .int x5, .ref (M + 2), .ref (M + 3), .ref (M + 4), .ref (M + 5), .int x10, .ref (M + 6), .ref (M + 7), .ref (M + 8), .int x14, .int (bI sn)]) (hSc : jI g H0 (M + 1) 120 sc) (hsc : tIs sc tx) (htx : tx.length ≤ 120) (hsp : sp ≤ tx.length) (hlh : dl ≤ dh) (hd9 : dh ≤ 9) : jM l g z yX5_digit wsX5_digit 1 25 [.ref M, .int (nI (dl)), .int (nI (dh))] H0 (q_X5_digitB g H0 M dl dh x0 x5 x10 x14 sn tx sp sc) := by
  refine j_of (cc := cX5_digit) (n := 4) (ret := some .int) (by decide) rfl (Nat.le_of_ble_eq_true rfl) ?_
  intro p e s m below meth c hx hb hr hml hown hts hlocks hname hH hw ls hl
  have hl : lv_has ls 4 [(0, .ref M), (1, .int (nI (dl))), (2, .int (nI (dh)))] := hl
  have hinX5 : ∀ w ∈ u_ws RX5 TX5 16, w ∈ wsX5_digit := by decide +kernel
  have hf : jF M 1 H0 H0 := jF.rf
  refine lv_aload_n hx hb dX5_digit_0 rfl (lv_at hl 0 rfl) ?_
  refine j_get (T := TX5) (N := 16) (k := 3) hx hb hts hinX5 hown hw hO rfl (by decide) (hts (.fieldLink RX5 122 "NightTrainsModel" "spot" "I") (by decide +kernel)) rfl dX5_digit_1 ?_
  refine lv_aload_n hx hb dX5_digit_4 rfl (lv_at hl 0 rfl) ?_
  refine j_get (T := TX5) (N := 16) (k := 2) hx hb hts hinX5 hown hw hO rfl (by decide) (hts (.fieldLink RX5 115 "NightTrainsModel" "scriptSize" "I") (by decide +kernel)) rfl dX5_digit_5 ?_
  refine jn_ge (tgt := 26) hx hb dX5_digit_8 (by decide) (by omega) (by omega) (fun c8 => ?_) (fun c8 => ?_)
  · refine lv_iconst (v := (-1)) hx hb dX5_digit_26 (by decide) ?_
    refine lv_topi (fun y1 ey1 => ?_)
    have hdv : dv tx sp y1 := Or.inr ⟨by omega, ey1⟩
    refine lv_istore_n (lv' := [(3, .int _), (0, .ref _), (1, .int _), (2, .int _)]) hx hb dX5_digit_27 rfl hl (by decide) rfl (fun ls hl => ?_)
    refine lv_aload_n hx hb dX5_digit_28 rfl (lv_at hl 1 rfl) ?_
    refine lv_iload_n hx hb dX5_digit_29 rfl (lv_at hl 0 rfl) ?_
    refine lv_i2l (v := y1.toInt64) hx hb dX5_digit_30 rfl ?_
    refine lv_lconst (v := 0) hx hb dX5_digit_31 (by decide) ?_
    refine lv_ldc2 (v := 9) hx hb hown (hts (.constantLong RX5 128 (9)) (by decide +kernel)) dX5_digit_32 ?_
    refine j_Sp (n := 3) (As := [.long y1.toInt64, .long 0, .long 9]) hx hb hml hown hts hw (c_X5_in l g z H0 y1.toInt64 0 9   ) gX5_digit_X5_in rfl (by decide +kernel) ⟨Nat.le_of_ble_eq_true rfl, Nat.le_of_ble_eq_true rfl⟩ rfl hl.1 (Nat.le_of_ble_eq_true rfl) ⟨Nat.zero_le _, Nat.zero_le _⟩ dX5_digit_35 (fun r2 locs hr2 hw => ?_) rfl
    rcases in_ix (x := y1) (a := 0) (n := 10) (by decide) (by decide) hr2 with ⟨rfl, u, hu, hua, hun, rfl⟩ | ⟨rfl, hu⟩
    · refine jz_eq (tgt := 57) hx hb dX5_digit_38 (by decide) (by omega) (fun c38 => absurd c38 (by omega)) (fun c38 => ?_)
      refine lv_iload_n hx hb dX5_digit_41 rfl (lv_at hl 0 rfl) ?_
      refine lv_i2l (v := (nI (u)).toInt64) hx hb dX5_digit_42 rfl ?_
      refine lv_iload_n hx hb dX5_digit_43 rfl (lv_at hl 2 rfl) ?_
      refine lv_i2l (v := (nI (dl)).toInt64) hx hb dX5_digit_44 rfl ?_
      refine lv_iload_n hx hb dX5_digit_45 rfl (lv_at hl 3 rfl) ?_
      refine lv_i2l (v := (nI (dh)).toInt64) hx hb dX5_digit_46 rfl ?_
      refine j_Sp (n := 3) (As := [.long (nI (u)).toInt64, .long (nI (dl)).toInt64, .long (nI (dh)).toInt64]) hx hb hml hown hts hw (c_X5_in l g z H0 (nI (u)).toInt64 (nI (dl)).toInt64 (nI (dh)).toInt64   ) gX5_digit_X5_in rfl (by decide +kernel) ⟨Nat.le_of_ble_eq_true rfl, Nat.le_of_ble_eq_true rfl⟩ rfl hl.1 (Nat.le_of_ble_eq_true rfl) ⟨Nat.zero_le _, Nat.zero_le _⟩ dX5_digit_47 (fun r3 locs hin9 hw => ?_) rfl
      rcases hin9 with ⟨rfl, hin9⟩ | ⟨rfl, hin9⟩
      · refine jz_eq (tgt := 57) hx hb dX5_digit_50 (by decide) (by omega) (fun c50 => absurd c50 (by omega)) (fun c50 => ?_)
        refine lv_iconst (v := (nI (1))) hx hb dX5_digit_53 (by decide) ?_
        refine lv_goto (tgt := 58) hx hb dX5_digit_54 (by decide) ?_
        refine j_Vv (n := 1) (As := [.int (nI (1))]) hx hb hml hown hts hw (j_recv hw hO rfl) (c_X5_acceptB l g z H0 M (1) x0 x5 x10 x14 _ _ (sp) hzM hO (by first | assumption | omega)) gX5_digit_X5_accept rfl (by decide +kernel) ⟨Nat.le_of_ble_eq_true rfl, Nat.le_of_ble_eq_true rfl⟩ rfl hl.1 (Nat.le_of_ble_eq_true rfl) ⟨Nat.zero_le _, Nat.zero_le _⟩ dX5_digit_58 (fun H locs hr4 hw hsz => ?_) rfl
        obtain ⟨hO, hf2⟩ := hr4
        have hO : jO g H M 5 [.int x0, .ref (M + 1), .int (nI (tx.length)), .int (nI (sp)), .int (nI (0)), .int x5, .ref (M + 2), .ref (M + 3), .ref (M + 4), .ref (M + 5), .int x10, .ref (M + 6), .ref (M + 7), .ref (M + 8), .int x14, .int (bI sn)] := hO
        have hSc := hSc.kept (hf2.2 _ (by omega))
        have hf := hf.step hf2 (by omega)
        refine lv_aload_n hx hb dX5_digit_61 rfl (lv_at hl 1 rfl) ?_
        refine j_get (T := TX5) (N := 16) (k := 4) hx hb hts hinX5 hown hw hO rfl (by decide) (hts (.fieldLink RX5 125 "NightTrainsModel" "isGood" "Z") (by decide +kernel)) rfl dX5_digit_62 ?_
        refine jz_eq (tgt := 72) hx hb dX5_digit_65 (by decide) (by omega) (fun c65 => ?_) (fun c65 => absurd c65 (by omega))
        refine lv_iload_n hx hb dX5_digit_72 rfl (lv_at hl 2 rfl) ?_
        refine j_iret hx hb hr hlocks hH hw dX5_digit_73 ?_
        exact ⟨_, rfl, rfl, hO, hf⟩
      · refine jz_eq (tgt := 57) hx hb dX5_digit_50 (by decide) (by omega) (fun c50 => ?_) (fun c50 => absurd c50 (by omega))
        refine lv_iconst (v := (nI (0))) hx hb dX5_digit_57 (by decide) ?_
        refine j_Vv (n := 1) (As := [.int (nI (0))]) hx hb hml hown hts hw (j_recv hw hO rfl) (c_X5_acceptB l g z H0 M (0) x0 x5 x10 x14 _ _ (sp) hzM hO (by first | assumption | omega)) gX5_digit_X5_accept rfl (by decide +kernel) ⟨Nat.le_of_ble_eq_true rfl, Nat.le_of_ble_eq_true rfl⟩ rfl hl.1 (Nat.le_of_ble_eq_true rfl) ⟨Nat.zero_le _, Nat.zero_le _⟩ dX5_digit_58 (fun H locs hr5 hw hsz => ?_) rfl
        obtain ⟨hO, hf2⟩ := hr5
        have hO : jO g H M 5 [.int x0, .ref (M + 1), .int (nI (tx.length)), .int (nI (sp)), .int (nI (0)), .int x5, .ref (M + 2), .ref (M + 3), .ref (M + 4), .ref (M + 5), .int x10, .ref (M + 6), .ref (M + 7), .ref (M + 8), .int x14, .int (bI sn)] := hO
        have hSc := hSc.kept (hf2.2 _ (by omega))
        have hf := hf.step hf2 (by omega)
        refine lv_aload_n hx hb dX5_digit_61 rfl (lv_at hl 1 rfl) ?_
        refine j_get (T := TX5) (N := 16) (k := 4) hx hb hts hinX5 hown hw hO rfl (by decide) (hts (.fieldLink RX5 125 "NightTrainsModel" "isGood" "Z") (by decide +kernel)) rfl dX5_digit_62 ?_
        refine jz_eq (tgt := 72) hx hb dX5_digit_65 (by decide) (by omega) (fun c65 => ?_) (fun c65 => absurd c65 (by omega))
        refine lv_iload_n hx hb dX5_digit_72 rfl (lv_at hl 2 rfl) ?_
        refine j_iret hx hb hr hlocks hH hw dX5_digit_73 ?_
        exact ⟨_, rfl, rfl, hO, hf⟩
    · refine jz_eq (tgt := 57) hx hb dX5_digit_38 (by decide) (by omega) (fun c38 => ?_) (fun c38 => absurd c38 (by omega))
      refine lv_iconst (v := (nI (0))) hx hb dX5_digit_57 (by decide) ?_
      refine j_Vv (n := 1) (As := [.int (nI (0))]) hx hb hml hown hts hw (j_recv hw hO rfl) (c_X5_acceptB l g z H0 M (0) x0 x5 x10 x14 _ _ (sp) hzM hO (by first | assumption | omega)) gX5_digit_X5_accept rfl (by decide +kernel) ⟨Nat.le_of_ble_eq_true rfl, Nat.le_of_ble_eq_true rfl⟩ rfl hl.1 (Nat.le_of_ble_eq_true rfl) ⟨Nat.zero_le _, Nat.zero_le _⟩ dX5_digit_58 (fun H locs hr6 hw hsz => ?_) rfl
      obtain ⟨hO, hf2⟩ := hr6
      have hO : jO g H M 5 [.int x0, .ref (M + 1), .int (nI (tx.length)), .int (nI (sp)), .int (nI (0)), .int x5, .ref (M + 2), .ref (M + 3), .ref (M + 4), .ref (M + 5), .int x10, .ref (M + 6), .ref (M + 7), .ref (M + 8), .int x14, .int (bI sn)] := hO
      have hSc := hSc.kept (hf2.2 _ (by omega))
      have hf := hf.step hf2 (by omega)
      refine lv_aload_n hx hb dX5_digit_61 rfl (lv_at hl 1 rfl) ?_
      refine j_get (T := TX5) (N := 16) (k := 4) hx hb hts hinX5 hown hw hO rfl (by decide) (hts (.fieldLink RX5 125 "NightTrainsModel" "isGood" "Z") (by decide +kernel)) rfl dX5_digit_62 ?_
      refine jz_eq (tgt := 72) hx hb dX5_digit_65 (by decide) (by omega) (fun c65 => ?_) (fun c65 => absurd c65 (by omega))
      refine lv_iload_n hx hb dX5_digit_72 rfl (lv_at hl 2 rfl) ?_
      refine j_iret hx hb hr hlocks hH hw dX5_digit_73 ?_
      exact ⟨_, rfl, rfl, hO, hf⟩
  · have hch := hsc.ch (show sp < tx.length by omega)
    have hch2 := hch.2
    refine lv_aload_n hx hb dX5_digit_11 rfl (lv_at hl 0 rfl) ?_
    refine j_get (T := TX5) (N := 16) (k := 1) hx hb hts hinX5 hown hw hO rfl (by decide) (hts (.fieldLink RX5 7 "NightTrainsModel" "script" "[I") (by decide +kernel)) rfl dX5_digit_12 ?_
    refine lv_aload_n hx hb dX5_digit_15 rfl (lv_at hl 0 rfl) ?_
    refine j_get (T := TX5) (N := 16) (k := 3) hx hb hts hinX5 hown hw hO rfl (by decide) (hts (.fieldLink RX5 122 "NightTrainsModel" "spot" "I") (by decide +kernel)) rfl dX5_digit_16 ?_
    refine j_iald hx hb hw hSc (k := sp) rfl (by omega) (by omega) dX5_digit_19 ?_
    refine j_eq (y := nI (ch tx sp)) hch.1 ?_
    refine lv_bipush (v := (nI (48))) hx hb dX5_digit_20 (by decide) ?_
    refine lv_isub hx hb dX5_digit_22 ?_
    refine lv_goto (tgt := 27) hx hb dX5_digit_23 (by decide) ?_
    refine lv_topi (fun y7 ey7 => ?_)
    have hdv : dv tx sp y7 := Or.inl ⟨by omega, hch2, ey7⟩
    refine lv_istore_n (lv' := [(3, .int _), (0, .ref _), (1, .int _), (2, .int _)]) hx hb dX5_digit_27 rfl hl (by decide) rfl (fun ls hl => ?_)
    refine lv_aload_n hx hb dX5_digit_28 rfl (lv_at hl 1 rfl) ?_
    refine lv_iload_n hx hb dX5_digit_29 rfl (lv_at hl 0 rfl) ?_
    refine lv_i2l (v := y7.toInt64) hx hb dX5_digit_30 rfl ?_
    refine lv_lconst (v := 0) hx hb dX5_digit_31 (by decide) ?_
    refine lv_ldc2 (v := 9) hx hb hown (hts (.constantLong RX5 128 (9)) (by decide +kernel)) dX5_digit_32 ?_
    refine j_Sp (n := 3) (As := [.long y7.toInt64, .long 0, .long 9]) hx hb hml hown hts hw (c_X5_in l g z H0 y7.toInt64 0 9   ) gX5_digit_X5_in rfl (by decide +kernel) ⟨Nat.le_of_ble_eq_true rfl, Nat.le_of_ble_eq_true rfl⟩ rfl hl.1 (Nat.le_of_ble_eq_true rfl) ⟨Nat.zero_le _, Nat.zero_le _⟩ dX5_digit_35 (fun r8 locs hr8 hw => ?_) rfl
    rcases in_ix (x := y7) (a := 0) (n := 10) (by decide) (by decide) hr8 with ⟨rfl, u, hu, hua, hun, rfl⟩ | ⟨rfl, hu⟩
    · refine jz_eq (tgt := 57) hx hb dX5_digit_38 (by decide) (by omega) (fun c38 => absurd c38 (by omega)) (fun c38 => ?_)
      refine lv_iload_n hx hb dX5_digit_41 rfl (lv_at hl 0 rfl) ?_
      refine lv_i2l (v := (nI (u)).toInt64) hx hb dX5_digit_42 rfl ?_
      refine lv_iload_n hx hb dX5_digit_43 rfl (lv_at hl 2 rfl) ?_
      refine lv_i2l (v := (nI (dl)).toInt64) hx hb dX5_digit_44 rfl ?_
      refine lv_iload_n hx hb dX5_digit_45 rfl (lv_at hl 3 rfl) ?_
      refine lv_i2l (v := (nI (dh)).toInt64) hx hb dX5_digit_46 rfl ?_
      refine j_Sp (n := 3) (As := [.long (nI (u)).toInt64, .long (nI (dl)).toInt64, .long (nI (dh)).toInt64]) hx hb hml hown hts hw (c_X5_in l g z H0 (nI (u)).toInt64 (nI (dl)).toInt64 (nI (dh)).toInt64   ) gX5_digit_X5_in rfl (by decide +kernel) ⟨Nat.le_of_ble_eq_true rfl, Nat.le_of_ble_eq_true rfl⟩ rfl hl.1 (Nat.le_of_ble_eq_true rfl) ⟨Nat.zero_le _, Nat.zero_le _⟩ dX5_digit_47 (fun r9 locs hin9 hw => ?_) rfl
      rcases hin9 with ⟨rfl, hin9⟩ | ⟨rfl, hin9⟩
      · refine jz_eq (tgt := 57) hx hb dX5_digit_50 (by decide) (by omega) (fun c50 => absurd c50 (by omega)) (fun c50 => ?_)
        refine lv_iconst (v := (nI (1))) hx hb dX5_digit_53 (by decide) ?_
        refine lv_goto (tgt := 58) hx hb dX5_digit_54 (by decide) ?_
        refine j_Vv (n := 1) (As := [.int (nI (1))]) hx hb hml hown hts hw (j_recv hw hO rfl) (c_X5_acceptB l g z H0 M (1) x0 x5 x10 x14 _ _ (sp) hzM hO (by first | assumption | omega)) gX5_digit_X5_accept rfl (by decide +kernel) ⟨Nat.le_of_ble_eq_true rfl, Nat.le_of_ble_eq_true rfl⟩ rfl hl.1 (Nat.le_of_ble_eq_true rfl) ⟨Nat.zero_le _, Nat.zero_le _⟩ dX5_digit_58 (fun H locs hr10 hw hsz => ?_) rfl
        obtain ⟨hO, hf2⟩ := hr10
        have hO : jO g H M 5 [.int x0, .ref (M + 1), .int (nI (tx.length)), .int (nI (sp)), .int (nI (0)), .int x5, .ref (M + 2), .ref (M + 3), .ref (M + 4), .ref (M + 5), .int x10, .ref (M + 6), .ref (M + 7), .ref (M + 8), .int x14, .int (bI sn)] := hO
        have hSc := hSc.kept (hf2.2 _ (by omega))
        have hf := hf.step hf2 (by omega)
        refine lv_aload_n hx hb dX5_digit_61 rfl (lv_at hl 1 rfl) ?_
        refine j_get (T := TX5) (N := 16) (k := 4) hx hb hts hinX5 hown hw hO rfl (by decide) (hts (.fieldLink RX5 125 "NightTrainsModel" "isGood" "Z") (by decide +kernel)) rfl dX5_digit_62 ?_
        refine jz_eq (tgt := 72) hx hb dX5_digit_65 (by decide) (by omega) (fun c65 => ?_) (fun c65 => absurd c65 (by omega))
        refine lv_iload_n hx hb dX5_digit_72 rfl (lv_at hl 2 rfl) ?_
        refine j_iret hx hb hr hlocks hH hw dX5_digit_73 ?_
        exact ⟨_, rfl, rfl, hO, hf⟩
      · refine jz_eq (tgt := 57) hx hb dX5_digit_50 (by decide) (by omega) (fun c50 => ?_) (fun c50 => absurd c50 (by omega))
        refine lv_iconst (v := (nI (0))) hx hb dX5_digit_57 (by decide) ?_
        refine j_Vv (n := 1) (As := [.int (nI (0))]) hx hb hml hown hts hw (j_recv hw hO rfl) (c_X5_acceptB l g z H0 M (0) x0 x5 x10 x14 _ _ (sp) hzM hO (by first | assumption | omega)) gX5_digit_X5_accept rfl (by decide +kernel) ⟨Nat.le_of_ble_eq_true rfl, Nat.le_of_ble_eq_true rfl⟩ rfl hl.1 (Nat.le_of_ble_eq_true rfl) ⟨Nat.zero_le _, Nat.zero_le _⟩ dX5_digit_58 (fun H locs hr11 hw hsz => ?_) rfl
        obtain ⟨hO, hf2⟩ := hr11
        have hO : jO g H M 5 [.int x0, .ref (M + 1), .int (nI (tx.length)), .int (nI (sp)), .int (nI (0)), .int x5, .ref (M + 2), .ref (M + 3), .ref (M + 4), .ref (M + 5), .int x10, .ref (M + 6), .ref (M + 7), .ref (M + 8), .int x14, .int (bI sn)] := hO
        have hSc := hSc.kept (hf2.2 _ (by omega))
        have hf := hf.step hf2 (by omega)
        refine lv_aload_n hx hb dX5_digit_61 rfl (lv_at hl 1 rfl) ?_
        refine j_get (T := TX5) (N := 16) (k := 4) hx hb hts hinX5 hown hw hO rfl (by decide) (hts (.fieldLink RX5 125 "NightTrainsModel" "isGood" "Z") (by decide +kernel)) rfl dX5_digit_62 ?_
        refine jz_eq (tgt := 72) hx hb dX5_digit_65 (by decide) (by omega) (fun c65 => ?_) (fun c65 => absurd c65 (by omega))
        refine lv_iload_n hx hb dX5_digit_72 rfl (lv_at hl 2 rfl) ?_
        refine j_iret hx hb hr hlocks hH hw dX5_digit_73 ?_
        exact ⟨_, rfl, rfl, hO, hf⟩
    · refine jz_eq (tgt := 57) hx hb dX5_digit_38 (by decide) (by omega) (fun c38 => ?_) (fun c38 => absurd c38 (by omega))
      refine lv_iconst (v := (nI (0))) hx hb dX5_digit_57 (by decide) ?_
      refine j_Vv (n := 1) (As := [.int (nI (0))]) hx hb hml hown hts hw (j_recv hw hO rfl) (c_X5_acceptB l g z H0 M (0) x0 x5 x10 x14 _ _ (sp) hzM hO (by first | assumption | omega)) gX5_digit_X5_accept rfl (by decide +kernel) ⟨Nat.le_of_ble_eq_true rfl, Nat.le_of_ble_eq_true rfl⟩ rfl hl.1 (Nat.le_of_ble_eq_true rfl) ⟨Nat.zero_le _, Nat.zero_le _⟩ dX5_digit_58 (fun H locs hr12 hw hsz => ?_) rfl
      obtain ⟨hO, hf2⟩ := hr12
      have hO : jO g H M 5 [.int x0, .ref (M + 1), .int (nI (tx.length)), .int (nI (sp)), .int (nI (0)), .int x5, .ref (M + 2), .ref (M + 3), .ref (M + 4), .ref (M + 5), .int x10, .ref (M + 6), .ref (M + 7), .ref (M + 8), .int x14, .int (bI sn)] := hO
      have hSc := hSc.kept (hf2.2 _ (by omega))
      have hf := hf.step hf2 (by omega)
      refine lv_aload_n hx hb dX5_digit_61 rfl (lv_at hl 1 rfl) ?_
      refine j_get (T := TX5) (N := 16) (k := 4) hx hb hts hinX5 hown hw hO rfl (by decide) (hts (.fieldLink RX5 125 "NightTrainsModel" "isGood" "Z") (by decide +kernel)) rfl dX5_digit_62 ?_
      refine jz_eq (tgt := 72) hx hb dX5_digit_65 (by decide) (by omega) (fun c65 => ?_) (fun c65 => absurd c65 (by omega))
      refine lv_iload_n hx hb dX5_digit_72 rfl (lv_at hl 2 rfl) ?_
      refine j_iret hx hb hr hlocks hH hw dX5_digit_73 ?_
      exact ⟨_, rfl, rfl, hO, hf⟩

abbrev q_X5_readAsk (g : jG) (H0 : Heap) (M : Nat) (σ : Sg) (f : Nat → Int32) (x0 : Int32) (x10 : Int32) (x14 : Int32) (sn : Bool) (tx : List Nat) (sp : Nat) (lo : Nat) (sc : Nat → Int32) : Option Value → Heap → Prop := jV (fun H1 => ∃ s1 gd lo1 σ1, rdOne tx sp lo σ = (s1, gd, lo1, σ1) ∧ jO g H1 M 5 [.int x0, .ref (M + 1), .int (nI tx.length), .int (nI s1), .int (bI gd), .int (nI lo1), .ref (M + 2), .ref (M + 3), .ref (M + 4), .ref (M + 5), .int x10, .ref (M + 6), .ref (M + 7), .ref (M + 8), .int x14, .int (bI sn)] ∧ (∃ f1, jI g H1 (M + 2) 235 f1 ∧ Row f1 σ1) ∧ jF3 M (M + 2) M H0 H1)
set_option maxHeartbeats 4000000 in
set_option maxRecDepth 100000 in
theorem c_X5_readAsk (l : Launch) (g : jG) (z : Nat) (H0 : Heap) (M : Nat) (σ : Sg) (f : Nat → Int32) (x0 : Int32) (x10 : Int32) (x14 : Int32) (sn : Bool) (tx : List Nat) (sp : Nat) (lo : Nat) (sc : Nat → Int32) (hzM : z ≤ M) (hO : jO g H0 M 5 [.int x0, .ref (M + 1), .int (nI (tx.length)), .int (nI (sp)), .int (nI (1)), .int (nI (lo)), .ref (M + 2), .ref (M + 3), .ref (M + 4), .ref (M + 5), .int x10, .ref (M + 6), .ref (M + 7), .ref (M + 8), .int x14, .int (bI sn)]) (hSc : jI g H0 (M + 1) 120 sc) (hA : jI g H0 (M + 2) 235 f) (hsc : tIs sc tx) (htx : tx.length ≤ 120) (hsp : sp < tx.length) (hR : Row f σ) (hN : okN σ) (hch : ch tx sp = 111) : jM l g z yX5_readAsk wsX5_readAsk 3 73 [.ref M] H0 (q_X5_readAsk g H0 M σ f x0 x10 x14 sn tx sp lo sc) := by
  refine j_of (cc := cX5_readAsk) (n := 7) (ret := none) (by decide) rfl (Nat.le_of_ble_eq_true rfl) ?_
  intro p e s m below meth c hx hb hr hml hown hts hlocks hname hH hw ls hl
  have hl : lv_has ls 7 [(0, .ref M)] := hl
  have hinX5 : ∀ w ∈ u_ws RX5 TX5 16, w ∈ wsX5_readAsk := by decide +kernel
  have hf : jF3 M (M + 2) M H0 H0 := jF3.rf
  have hs := hN.1
  refine lv_aload_n hx hb dX5_readAsk_0 rfl (lv_at hl 0 rfl) ?_
  refine lv_iconst (v := (nI (1))) hx hb dX5_readAsk_1 (by decide) ?_
  refine j_Vv (n := 1) (As := [.int (nI (1))]) hx hb hml hown hts hw (j_recv hw hO rfl) (c_X5_acceptG l g z H0 M (1) x0 (nI (lo)) x10 x14 _ _ (sp) hzM hO (by first | assumption | omega)) gX5_readAsk_X5_accept rfl (by decide +kernel) ⟨Nat.le_of_ble_eq_true rfl, Nat.le_of_ble_eq_true rfl⟩ rfl hl.1 (Nat.le_of_ble_eq_true rfl) ⟨Nat.zero_le _, Nat.zero_le _⟩ dX5_readAsk_2 (fun H locs hr1 hw hsz => ?_) rfl
  obtain ⟨hO, hf2⟩ := hr1
  have hO : jO g H M 5 [.int x0, .ref (M + 1), .int (nI (tx.length)), .int (nI ((sp + 1))), .int (nI (1)), .int (nI (lo)), .ref (M + 2), .ref (M + 3), .ref (M + 4), .ref (M + 5), .int x10, .ref (M + 6), .ref (M + 7), .ref (M + 8), .int x14, .int (bI sn)] := hO
  have hSc := hSc.kept (hf2.2 _ (by omega))
  have hA := hA.kept (hf2.2 _ (by omega))
  have hf := hf.step hf2 (by omega)
  refine lv_aload_n hx hb dX5_readAsk_5 rfl (lv_at hl 0 rfl) ?_
  refine lv_iconst (v := (nI (0))) hx hb dX5_readAsk_6 (by decide) ?_
  refine lv_iconst (v := (nI (3))) hx hb dX5_readAsk_7 (by decide) ?_
  refine j_Vi (n := 2) (As := [.int (nI (0)), .int (nI (3))]) hx hb hml hown hts hw (j_recv hw hO rfl) (c_X5_digitG l g z H M (0) (3) x0 (nI (lo)) x10 x14 _ _ ((sp + 1)) sc hzM hO hSc (by first | assumption | omega) (by first | assumption | omega) (by first | assumption | omega) (by first | assumption | omega) (by first | assumption | omega)) gX5_readAsk_X5_digit rfl (by decide +kernel) ⟨Nat.le_of_ble_eq_true rfl, Nat.le_of_ble_eq_true rfl⟩ rfl hl.1 (Nat.le_of_ble_eq_true rfl) ⟨Nat.zero_le _, Nat.zero_le _⟩ dX5_readAsk_8 (fun r2 H locs hr2 hw hsz => ?_) rfl
  rcases hr2 with ⟨cu, gcud, rfl, gcua, gcub, gcus, hO, hf2⟩ | ⟨gcud, rfl, hO, hf2⟩
  · have hO : jO g H M 5 [.int x0, .ref (M + 1), .int (nI (tx.length)), .int (nI ((sp + 2))), .int (nI (1)), .int (nI (lo)), .ref (M + 2), .ref (M + 3), .ref (M + 4), .ref (M + 5), .int x10, .ref (M + 6), .ref (M + 7), .ref (M + 8), .int x14, .int (bI sn)] := hO
    have hSc := hSc.kept (hf2.2 _ (by omega))
    have hA := hA.kept (hf2.2 _ (by omega))
    have hf := hf.step hf2 (by omega)
    refine lv_istore_n (lv' := [(1, .int _), (0, .ref _)]) hx hb dX5_readAsk_11 rfl hl (by decide) rfl (fun ls hl => ?_)
    refine lv_aload_n hx hb dX5_readAsk_12 rfl (lv_at hl 1 rfl) ?_
    refine lv_iconst (v := (nI (0))) hx hb dX5_readAsk_13 (by decide) ?_
    refine lv_iconst (v := (nI (1))) hx hb dX5_readAsk_14 (by decide) ?_
    refine j_Vi (n := 2) (As := [.int (nI (0)), .int (nI (1))]) hx hb hml hown hts hw (j_recv hw hO rfl) (c_X5_digitG l g z H M (0) (1) x0 (nI (lo)) x10 x14 _ _ ((sp + 2)) sc hzM hO hSc (by first | assumption | omega) (by first | assumption | omega) (by first | assumption | omega) (by first | assumption | omega) (by first | assumption | omega)) gX5_readAsk_X5_digit rfl (by decide +kernel) ⟨Nat.le_of_ble_eq_true rfl, Nat.le_of_ble_eq_true rfl⟩ rfl hl.1 (Nat.le_of_ble_eq_true rfl) ⟨Nat.zero_le _, Nat.zero_le _⟩ dX5_readAsk_15 (fun r3 H locs hr3 hw hsz => ?_) rfl
    rcases hr3 with ⟨t, gtd, rfl, gta, gtb, gts, hO, hf2⟩ | ⟨gtd, rfl, hO, hf2⟩
    · have hO : jO g H M 5 [.int x0, .ref (M + 1), .int (nI (tx.length)), .int (nI ((sp + 3))), .int (nI (1)), .int (nI (lo)), .ref (M + 2), .ref (M + 3), .ref (M + 4), .ref (M + 5), .int x10, .ref (M + 6), .ref (M + 7), .ref (M + 8), .int x14, .int (bI sn)] := hO
      have hSc := hSc.kept (hf2.2 _ (by omega))
      have hA := hA.kept (hf2.2 _ (by omega))
      have hf := hf.step hf2 (by omega)
      refine lv_istore_n (lv' := [(2, .int _), (1, .int _), (0, .ref _)]) hx hb dX5_readAsk_18 rfl hl (by decide) rfl (fun ls hl => ?_)
      refine lv_bipush (v := (nI (10))) hx hb dX5_readAsk_19 (by decide) ?_
      refine lv_iload_n hx hb dX5_readAsk_21 rfl (lv_at hl 0 rfl) ?_
      refine j_mulN hx hb dX5_readAsk_22 ?_
      refine lv_aload_n hx hb dX5_readAsk_23 rfl (lv_at hl 2 rfl) ?_
      refine lv_iconst (v := (nI (0))) hx hb dX5_readAsk_24 (by decide) ?_
      refine lv_iload_n hx hb dX5_readAsk_25 rfl (lv_at hl 0 rfl) ?_
      refine lv_iconst (v := (nI (1))) hx hb dX5_readAsk_26 (by decide) ?_
      refine jn_ne (tgt := 34) hx hb dX5_readAsk_27 (by decide) (by omega) (by omega) (fun c27 => ?_) (fun c27 => ?_)
      · refine lv_bipush (v := (nI (9))) hx hb dX5_readAsk_34 (by decide) ?_
        refine j_Vi (n := 2) (As := [.int (nI (0)), .int (nI (9))]) hx hb hml hown hts hw (j_recv hw hO rfl) (c_X5_digitG l g z H M (0) (9) x0 (nI (lo)) x10 x14 _ _ ((sp + 3)) sc hzM hO hSc (by first | assumption | omega) (by first | assumption | omega) (by first | assumption | omega) (by first | assumption | omega) (by first | assumption | omega)) gX5_readAsk_X5_digit rfl (by decide +kernel) ⟨Nat.le_of_ble_eq_true rfl, Nat.le_of_ble_eq_true rfl⟩ rfl hl.1 (Nat.le_of_ble_eq_true rfl) ⟨Nat.zero_le _, Nat.zero_le _⟩ dX5_readAsk_36 (fun r4 H locs hr4 hw hsz => ?_) rfl
        rcases hr4 with ⟨d, gdd, rfl, gda, gdb, gds, hO, hf2⟩ | ⟨gdd, rfl, hO, hf2⟩
        · have hO : jO g H M 5 [.int x0, .ref (M + 1), .int (nI (tx.length)), .int (nI ((sp + 4))), .int (nI (1)), .int (nI (lo)), .ref (M + 2), .ref (M + 3), .ref (M + 4), .ref (M + 5), .int x10, .ref (M + 6), .ref (M + 7), .ref (M + 8), .int x14, .int (bI sn)] := hO
          have hSc := hSc.kept (hf2.2 _ (by omega))
          have hA := hA.kept (hf2.2 _ (by omega))
          have hf := hf.step hf2 (by omega)
          refine j_addN hx hb dX5_readAsk_39 ?_
          refine lv_istore_n (lv' := [(3, .int _), (2, .int _), (1, .int _), (0, .ref _)]) hx hb dX5_readAsk_40 rfl hl (by decide) rfl (fun ls hl => ?_)
          refine lv_aload_n hx hb dX5_readAsk_41 rfl (lv_at hl 3 rfl) ?_
          refine lv_iconst (v := (nI (0))) hx hb dX5_readAsk_42 (by decide) ?_
          refine lv_bipush (v := (nI (7))) hx hb dX5_readAsk_43 (by decide) ?_
          refine j_Vi (n := 2) (As := [.int (nI (0)), .int (nI (7))]) hx hb hml hown hts hw (j_recv hw hO rfl) (c_X5_digitG l g z H M (0) (7) x0 (nI (lo)) x10 x14 _ _ ((sp + 4)) sc hzM hO hSc (by first | assumption | omega) (by first | assumption | omega) (by first | assumption | omega) (by first | assumption | omega) (by first | assumption | omega)) gX5_readAsk_X5_digit rfl (by decide +kernel) ⟨Nat.le_of_ble_eq_true rfl, Nat.le_of_ble_eq_true rfl⟩ rfl hl.1 (Nat.le_of_ble_eq_true rfl) ⟨Nat.zero_le _, Nat.zero_le _⟩ dX5_readAsk_45 (fun r5 H locs hr5 hw hsz => ?_) rfl
          rcases hr5 with ⟨it, gitd, rfl, gita, gitb, gits, hO, hf2⟩ | ⟨gitd, rfl, hO, hf2⟩
          · have hO : jO g H M 5 [.int x0, .ref (M + 1), .int (nI (tx.length)), .int (nI ((sp + 5))), .int (nI (1)), .int (nI (lo)), .ref (M + 2), .ref (M + 3), .ref (M + 4), .ref (M + 5), .int x10, .ref (M + 6), .ref (M + 7), .ref (M + 8), .int x14, .int (bI sn)] := hO
            have hSc := hSc.kept (hf2.2 _ (by omega))
            have hA := hA.kept (hf2.2 _ (by omega))
            have hf := hf.step hf2 (by omega)
            refine lv_istore (lv' := [(4, .int _), (3, .int _), (2, .int _), (1, .int _), (0, .ref _)]) hx hb dX5_readAsk_48 hl (by decide) rfl (fun ls hl => ?_)
            refine lv_aload_n hx hb dX5_readAsk_50 rfl (lv_at hl 4 rfl) ?_
            refine lv_iconst (v := (nI (0))) hx hb dX5_readAsk_51 (by decide) ?_
            refine lv_bipush (v := (nI (9))) hx hb dX5_readAsk_52 (by decide) ?_
            refine j_Vi (n := 2) (As := [.int (nI (0)), .int (nI (9))]) hx hb hml hown hts hw (j_recv hw hO rfl) (c_X5_digitG l g z H M (0) (9) x0 (nI (lo)) x10 x14 _ _ ((sp + 5)) sc hzM hO hSc (by first | assumption | omega) (by first | assumption | omega) (by first | assumption | omega) (by first | assumption | omega) (by first | assumption | omega)) gX5_readAsk_X5_digit rfl (by decide +kernel) ⟨Nat.le_of_ble_eq_true rfl, Nat.le_of_ble_eq_true rfl⟩ rfl hl.1 (Nat.le_of_ble_eq_true rfl) ⟨Nat.zero_le _, Nat.zero_le _⟩ dX5_readAsk_54 (fun r6 H locs hr6 hw hsz => ?_) rfl
            rcases hr6 with ⟨fe, gfed, rfl, gfea, gfeb, gfes, hO, hf2⟩ | ⟨gfed, rfl, hO, hf2⟩
            · have hO : jO g H M 5 [.int x0, .ref (M + 1), .int (nI (tx.length)), .int (nI ((sp + 6))), .int (nI (1)), .int (nI (lo)), .ref (M + 2), .ref (M + 3), .ref (M + 4), .ref (M + 5), .int x10, .ref (M + 6), .ref (M + 7), .ref (M + 8), .int x14, .int (bI sn)] := hO
              have hSc := hSc.kept (hf2.2 _ (by omega))
              have hA := hA.kept (hf2.2 _ (by omega))
              have hf := hf.step hf2 (by omega)
              refine lv_istore (lv' := [(5, .int _), (4, .int _), (3, .int _), (2, .int _), (1, .int _), (0, .ref _)]) hx hb dX5_readAsk_57 hl (by decide) rfl (fun ls hl => ?_)
              refine lv_aload_n hx hb dX5_readAsk_59 rfl (lv_at hl 5 rfl) ?_
              refine j_get (T := TX5) (N := 16) (k := 4) hx hb hts hinX5 hown hw hO rfl (by decide) (hts (.fieldLink RX5 125 "NightTrainsModel" "isGood" "Z") (by decide +kernel)) rfl dX5_readAsk_60 ?_
              refine jz_eq (tgt := 117) hx hb dX5_readAsk_63 (by decide) (by omega) (fun c63 => absurd c63 (by omega)) (fun c63 => ?_)
              refine lv_aload_n hx hb dX5_readAsk_66 rfl (lv_at hl 5 rfl) ?_
              refine j_get (T := TX5) (N := 16) (k := 6) hx hb hts hinX5 hown hw hO rfl (by decide) (hts (.fieldLink RX5 13 "NightTrainsModel" "read" "[I") (by decide +kernel)) rfl dX5_readAsk_67 ?_
              refine lv_iload_n hx hb dX5_readAsk_70 rfl (lv_at hl 4 rfl) ?_
              refine lv_iload_n hx hb dX5_readAsk_71 rfl (lv_at hl 2 rfl) ?_
              refine lv_iload hx hb dX5_readAsk_72 (lv_at hl 0 rfl) ?_
              refine j_Sp (n := 4) (As := [.ref (M + 2), .int (nI (cu)), .int (nI (((10 * t) + d))), .int (nI (fe))]) hx hb hml hown hts hw (c_X5_canAsk l g z H (M + 2) (cu) (((10 * t) + d)) (fe) (σ) f  hA hR hs (by omega) (by omega)) gX5_readAsk_X5_canAsk rfl (by decide +kernel) ⟨Nat.le_of_ble_eq_true rfl, Nat.le_of_ble_eq_true rfl⟩ rfl hl.1 (Nat.le_of_ble_eq_true rfl) ⟨Nat.zero_le _, Nat.zero_le _⟩ dX5_readAsk_74 (fun r7 locs hca hw => ?_) rfl
              rcases hca with ⟨rfl, hca⟩ | ⟨rfl, hca⟩
              · refine lv_istore (lv' := [(6, .int _), (5, .int _), (4, .int _), (3, .int _), (2, .int _), (1, .int _), (0, .ref _)]) hx hb dX5_readAsk_77 hl (by decide) rfl (fun ls hl => ?_)
                refine lv_aload_n hx hb dX5_readAsk_79 rfl (lv_at hl 6 rfl) ?_
                refine lv_dup hx hb dX5_readAsk_80 rfl ?_
                refine j_get (T := TX5) (N := 16) (k := 5) hx hb hts hinX5 hown hw hO rfl (by decide) (hts (.fieldLink RX5 141 "NightTrainsModel" "leftOut" "I") (by decide +kernel)) rfl dX5_readAsk_81 ?_
                refine lv_iload hx hb dX5_readAsk_84 (lv_at hl 0 rfl) ?_
                refine jz_eq (tgt := 93) hx hb dX5_readAsk_86 (by decide) (by omega) (fun c86 => absurd c86 (by omega)) (fun c86 => ?_)
                refine lv_iconst (v := (nI (0))) hx hb dX5_readAsk_89 (by decide) ?_
                refine lv_goto (tgt := 94) hx hb dX5_readAsk_90 (by decide) ?_
                refine j_addN hx hb dX5_readAsk_94 ?_
                refine j_put (T := TX5) (N := 16) (k := 5) (ty := .int) hx hb hts hinX5 tyX5 tyX5_ok nmX5 hown hw hO hzM rfl (by decide) (hts (.fieldLink RX5 141 "NightTrainsModel" "leftOut" "I") (by decide +kernel)) rfl (by decide +kernel) rfl rfl (Nat.le_of_ble_eq_true rfl) dX5_readAsk_95 (fun H locs hw hO oq hsz => ?_)
                have hO : jO g H M 5 [.int _, .ref _, .int _, .int _, .int _, .int _, .ref _, .ref _, .ref _, .ref _, .int _, .ref _, .ref _, .ref _, .int _, .int _] := hO
                have hSc := hSc.kept (oq _ (by omega))
                have hA := hA.kept (oq _ (by omega))
                have hf := hf.put oq hsz (by omega)
                refine lv_iload hx hb dX5_readAsk_98 (lv_at hl 0 rfl) ?_
                refine jz_eq (tgt := 117) hx hb dX5_readAsk_100 (by decide) (by omega) (fun c100 => absurd c100 (by omega)) (fun c100 => ?_)
                refine lv_aload_n hx hb dX5_readAsk_103 rfl (lv_at hl 6 rfl) ?_
                refine j_get (T := TX5) (N := 16) (k := 6) hx hb hts hinX5 hown hw hO rfl (by decide) (hts (.fieldLink RX5 13 "NightTrainsModel" "read" "[I") (by decide +kernel)) rfl dX5_readAsk_104 ?_
                refine lv_iload_n hx hb dX5_readAsk_107 rfl (lv_at hl 5 rfl) ?_
                refine lv_iload_n hx hb dX5_readAsk_108 rfl (lv_at hl 3 rfl) ?_
                refine lv_iload hx hb dX5_readAsk_109 (lv_at hl 2 rfl) ?_
                refine lv_iload hx hb dX5_readAsk_111 (lv_at hl 1 rfl) ?_
                refine j_Si (n := 5) (As := [.ref (M + 2), .int (nI (cu)), .int (nI (((10 * t) + d))), .int (nI (it)), .int (nI (fe))]) hx hb hml hown hts hw (c_X5_askIn l g z H (M + 2) (cu) (((10 * t) + d)) (it) (fe) (σ) f (by omega) hA hR hs (okO_mk (by omega) (by omega) (by omega) (by omega)) (hca.imp_right (fun q => by have := q.1; omega))) gX5_readAsk_X5_askIn rfl (by decide +kernel) ⟨Nat.le_of_ble_eq_true rfl, Nat.le_of_ble_eq_true rfl⟩ rfl hl.1 (Nat.le_of_ble_eq_true rfl) ⟨Nat.zero_le _, Nat.zero_le _⟩ dX5_readAsk_113 (fun r8 H locs hr8 hw hsz => ?_) rfl
                rcases hr8 with ⟨hfr, rfl, hr8⟩ | ⟨hfr, rfl, hr8⟩
                · obtain ⟨⟨f9, hA, hR⟩, hs, hf2⟩ := hr8
                  have hO := hO.kept (hf2.2 _ (by omega))
                  have hSc := hSc.kept (hf2.2 _ (by omega))
                  have hf := hf.step hf2 (by omega)
                  refine lv_pop hx hb dX5_readAsk_116 rfl ?_
                  refine j_vret hx hb hr hlocks hH hw dX5_readAsk_117 ?_
                  have hdo : doC σ (.inl (cu, 10 * t + d, it, fe)) = some (askF σ cu (10 * t + d) it) := by show tAsk σ cu (10 * t + d) it fe = some (askF σ cu (10 * t + d) it); unfold tAsk; exact (if_pos ⟨by omega, by omega, hca⟩).trans (congrArg some (if_pos hfr))
                  have e9 : rdOne tx sp lo σ = ((sp + 6), true, lo, (askF (σ) (cu) (10 * t + d) (it))) := by
                    unfold rdOne rdCmd
                    rw [if_pos hch]
                    simp only [gcud, gtd, gdd, gitd, gfed, if_neg c27, hdo]
                  exact ⟨rfl, _, _, _, _, e9, hO, ⟨_, hA, hR⟩, hf⟩
                · obtain ⟨⟨f10, hA, hR⟩, hs, hf2⟩ := hr8
                  have hO := hO.kept (hf2.2 _ (by omega))
                  have hSc := hSc.kept (hf2.2 _ (by omega))
                  have hf := hf.step hf2 (by omega)
                  refine lv_pop hx hb dX5_readAsk_116 rfl ?_
                  refine j_vret hx hb hr hlocks hH hw dX5_readAsk_117 ?_
                  have hdo : doC σ (.inl (cu, 10 * t + d, it, fe)) = some (askO σ cu (10 * t + d) it fe) := by show tAsk σ cu (10 * t + d) it fe = some (askO σ cu (10 * t + d) it fe); unfold tAsk; exact (if_pos ⟨by omega, by omega, hca⟩).trans (congrArg some (if_neg (by omega)))
                  have e9 : rdOne tx sp lo σ = ((sp + 6), true, lo, (askO (σ) (cu) (10 * t + d) (it) (fe))) := by
                    unfold rdOne rdCmd
                    rw [if_pos hch]
                    simp only [gcud, gtd, gdd, gitd, gfed, if_neg c27, hdo]
                  exact ⟨rfl, _, _, _, _, e9, hO, ⟨_, hA, hR⟩, hf⟩
              · refine lv_istore (lv' := [(6, .int _), (5, .int _), (4, .int _), (3, .int _), (2, .int _), (1, .int _), (0, .ref _)]) hx hb dX5_readAsk_77 hl (by decide) rfl (fun ls hl => ?_)
                refine lv_aload_n hx hb dX5_readAsk_79 rfl (lv_at hl 6 rfl) ?_
                refine lv_dup hx hb dX5_readAsk_80 rfl ?_
                refine j_get (T := TX5) (N := 16) (k := 5) hx hb hts hinX5 hown hw hO rfl (by decide) (hts (.fieldLink RX5 141 "NightTrainsModel" "leftOut" "I") (by decide +kernel)) rfl dX5_readAsk_81 ?_
                refine lv_iload hx hb dX5_readAsk_84 (lv_at hl 0 rfl) ?_
                refine jz_eq (tgt := 93) hx hb dX5_readAsk_86 (by decide) (by omega) (fun c86 => ?_) (fun c86 => absurd c86 (by omega))
                refine lv_iconst (v := (nI (1))) hx hb dX5_readAsk_93 (by decide) ?_
                refine j_addN hx hb dX5_readAsk_94 ?_
                refine j_put (T := TX5) (N := 16) (k := 5) (ty := .int) hx hb hts hinX5 tyX5 tyX5_ok nmX5 hown hw hO hzM rfl (by decide) (hts (.fieldLink RX5 141 "NightTrainsModel" "leftOut" "I") (by decide +kernel)) rfl (by decide +kernel) rfl rfl (Nat.le_of_ble_eq_true rfl) dX5_readAsk_95 (fun H locs hw hO oq hsz => ?_)
                have hO : jO g H M 5 [.int _, .ref _, .int _, .int _, .int _, .int _, .ref _, .ref _, .ref _, .ref _, .int _, .ref _, .ref _, .ref _, .int _, .int _] := hO
                have hSc := hSc.kept (oq _ (by omega))
                have hA := hA.kept (oq _ (by omega))
                have hf := hf.put oq hsz (by omega)
                refine lv_iload hx hb dX5_readAsk_98 (lv_at hl 0 rfl) ?_
                refine jz_eq (tgt := 117) hx hb dX5_readAsk_100 (by decide) (by omega) (fun c100 => ?_) (fun c100 => absurd c100 (by omega))
                refine j_vret hx hb hr hlocks hH hw dX5_readAsk_117 ?_
                have hdo : doC σ (.inl (cu, 10 * t + d, it, fe)) = none := by show tAsk σ cu (10 * t + d) it fe = none; unfold tAsk; exact if_neg (fun q => hca q.2.2)
                have e9 : rdOne tx sp lo σ = ((sp + 6), true, (lo + 1), σ) := by
                  unfold rdOne rdCmd
                  rw [if_pos hch]
                  simp only [gcud, gtd, gdd, gitd, gfed, if_neg c27, hdo]
                exact ⟨rfl, _, _, _, _, e9, hO, ⟨_, hA, hR⟩, hf⟩
            · have hO : jO g H M 5 [.int x0, .ref (M + 1), .int (nI (tx.length)), .int (nI ((sp + 5))), .int (nI (0)), .int (nI (lo)), .ref (M + 2), .ref (M + 3), .ref (M + 4), .ref (M + 5), .int x10, .ref (M + 6), .ref (M + 7), .ref (M + 8), .int x14, .int (bI sn)] := hO
              have hSc := hSc.kept (hf2.2 _ (by omega))
              have hA := hA.kept (hf2.2 _ (by omega))
              have hf := hf.step hf2 (by omega)
              refine lv_istore (lv' := [(5, .int _), (4, .int _), (3, .int _), (2, .int _), (1, .int _), (0, .ref _)]) hx hb dX5_readAsk_57 hl (by decide) rfl (fun ls hl => ?_)
              refine lv_aload_n hx hb dX5_readAsk_59 rfl (lv_at hl 5 rfl) ?_
              refine j_get (T := TX5) (N := 16) (k := 4) hx hb hts hinX5 hown hw hO rfl (by decide) (hts (.fieldLink RX5 125 "NightTrainsModel" "isGood" "Z") (by decide +kernel)) rfl dX5_readAsk_60 ?_
              refine jz_eq (tgt := 117) hx hb dX5_readAsk_63 (by decide) (by omega) (fun c63 => ?_) (fun c63 => absurd c63 (by omega))
              refine j_vret hx hb hr hlocks hH hw dX5_readAsk_117 ?_
              have e9 : rdOne tx sp lo σ = ((sp + 5), false, lo, σ) := by
                unfold rdOne rdCmd
                rw [if_pos hch]
                simp only [gcud, gtd, gdd, gitd, gfed, if_neg c27]
              exact ⟨rfl, _, _, _, _, e9, hO, ⟨_, hA, hR⟩, hf⟩
          · have hO : jO g H M 5 [.int x0, .ref (M + 1), .int (nI (tx.length)), .int (nI ((sp + 4))), .int (nI (0)), .int (nI (lo)), .ref (M + 2), .ref (M + 3), .ref (M + 4), .ref (M + 5), .int x10, .ref (M + 6), .ref (M + 7), .ref (M + 8), .int x14, .int (bI sn)] := hO
            have hSc := hSc.kept (hf2.2 _ (by omega))
            have hA := hA.kept (hf2.2 _ (by omega))
            have hf := hf.step hf2 (by omega)
            refine lv_istore (lv' := [(4, .int _), (3, .int _), (2, .int _), (1, .int _), (0, .ref _)]) hx hb dX5_readAsk_48 hl (by decide) rfl (fun ls hl => ?_)
            refine lv_aload_n hx hb dX5_readAsk_50 rfl (lv_at hl 4 rfl) ?_
            refine lv_iconst (v := (nI (0))) hx hb dX5_readAsk_51 (by decide) ?_
            refine lv_bipush (v := (nI (9))) hx hb dX5_readAsk_52 (by decide) ?_
            refine j_Vi (n := 2) (As := [.int (nI (0)), .int (nI (9))]) hx hb hml hown hts hw (j_recv hw hO rfl) (c_X5_digitB l g z H M (0) (9) x0 (nI (lo)) x10 x14 _ _ ((sp + 4)) sc hzM hO hSc (by first | assumption | omega) (by first | assumption | omega) (by first | assumption | omega) (by first | assumption | omega) (by first | assumption | omega)) gX5_readAsk_X5_digit rfl (by decide +kernel) ⟨Nat.le_of_ble_eq_true rfl, Nat.le_of_ble_eq_true rfl⟩ rfl hl.1 (Nat.le_of_ble_eq_true rfl) ⟨Nat.zero_le _, Nat.zero_le _⟩ dX5_readAsk_54 (fun r11 H locs hr11 hw hsz => ?_) rfl
            obtain ⟨rfl, hO, hf2⟩ := hr11
            have hO : jO g H M 5 [.int x0, .ref (M + 1), .int (nI (tx.length)), .int (nI ((sp + 4))), .int (nI (0)), .int (nI (lo)), .ref (M + 2), .ref (M + 3), .ref (M + 4), .ref (M + 5), .int x10, .ref (M + 6), .ref (M + 7), .ref (M + 8), .int x14, .int (bI sn)] := hO
            have hSc := hSc.kept (hf2.2 _ (by omega))
            have hA := hA.kept (hf2.2 _ (by omega))
            have hf := hf.step hf2 (by omega)
            refine lv_istore (lv' := [(5, .int _), (4, .int _), (3, .int _), (2, .int _), (1, .int _), (0, .ref _)]) hx hb dX5_readAsk_57 hl (by decide) rfl (fun ls hl => ?_)
            refine lv_aload_n hx hb dX5_readAsk_59 rfl (lv_at hl 5 rfl) ?_
            refine j_get (T := TX5) (N := 16) (k := 4) hx hb hts hinX5 hown hw hO rfl (by decide) (hts (.fieldLink RX5 125 "NightTrainsModel" "isGood" "Z") (by decide +kernel)) rfl dX5_readAsk_60 ?_
            refine jz_eq (tgt := 117) hx hb dX5_readAsk_63 (by decide) (by omega) (fun c63 => ?_) (fun c63 => absurd c63 (by omega))
            refine j_vret hx hb hr hlocks hH hw dX5_readAsk_117 ?_
            have e9 : rdOne tx sp lo σ = ((sp + 4), false, lo, σ) := by
              unfold rdOne rdCmd
              rw [if_pos hch]
              simp only [gcud, gtd, gdd, gitd, if_neg c27]
            exact ⟨rfl, _, _, _, _, e9, hO, ⟨_, hA, hR⟩, hf⟩
        · have hO : jO g H M 5 [.int x0, .ref (M + 1), .int (nI (tx.length)), .int (nI ((sp + 3))), .int (nI (0)), .int (nI (lo)), .ref (M + 2), .ref (M + 3), .ref (M + 4), .ref (M + 5), .int x10, .ref (M + 6), .ref (M + 7), .ref (M + 8), .int x14, .int (bI sn)] := hO
          have hSc := hSc.kept (hf2.2 _ (by omega))
          have hA := hA.kept (hf2.2 _ (by omega))
          have hf := hf.step hf2 (by omega)
          refine j_addN hx hb dX5_readAsk_39 ?_
          refine lv_istore_n (lv' := [(3, .int _), (2, .int _), (1, .int _), (0, .ref _)]) hx hb dX5_readAsk_40 rfl hl (by decide) rfl (fun ls hl => ?_)
          refine lv_aload_n hx hb dX5_readAsk_41 rfl (lv_at hl 3 rfl) ?_
          refine lv_iconst (v := (nI (0))) hx hb dX5_readAsk_42 (by decide) ?_
          refine lv_bipush (v := (nI (7))) hx hb dX5_readAsk_43 (by decide) ?_
          refine j_Vi (n := 2) (As := [.int (nI (0)), .int (nI (7))]) hx hb hml hown hts hw (j_recv hw hO rfl) (c_X5_digitB l g z H M (0) (7) x0 (nI (lo)) x10 x14 _ _ ((sp + 3)) sc hzM hO hSc (by first | assumption | omega) (by first | assumption | omega) (by first | assumption | omega) (by first | assumption | omega) (by first | assumption | omega)) gX5_readAsk_X5_digit rfl (by decide +kernel) ⟨Nat.le_of_ble_eq_true rfl, Nat.le_of_ble_eq_true rfl⟩ rfl hl.1 (Nat.le_of_ble_eq_true rfl) ⟨Nat.zero_le _, Nat.zero_le _⟩ dX5_readAsk_45 (fun r12 H locs hr12 hw hsz => ?_) rfl
          obtain ⟨rfl, hO, hf2⟩ := hr12
          have hO : jO g H M 5 [.int x0, .ref (M + 1), .int (nI (tx.length)), .int (nI ((sp + 3))), .int (nI (0)), .int (nI (lo)), .ref (M + 2), .ref (M + 3), .ref (M + 4), .ref (M + 5), .int x10, .ref (M + 6), .ref (M + 7), .ref (M + 8), .int x14, .int (bI sn)] := hO
          have hSc := hSc.kept (hf2.2 _ (by omega))
          have hA := hA.kept (hf2.2 _ (by omega))
          have hf := hf.step hf2 (by omega)
          refine lv_istore (lv' := [(4, .int _), (3, .int _), (2, .int _), (1, .int _), (0, .ref _)]) hx hb dX5_readAsk_48 hl (by decide) rfl (fun ls hl => ?_)
          refine lv_aload_n hx hb dX5_readAsk_50 rfl (lv_at hl 4 rfl) ?_
          refine lv_iconst (v := (nI (0))) hx hb dX5_readAsk_51 (by decide) ?_
          refine lv_bipush (v := (nI (9))) hx hb dX5_readAsk_52 (by decide) ?_
          refine j_Vi (n := 2) (As := [.int (nI (0)), .int (nI (9))]) hx hb hml hown hts hw (j_recv hw hO rfl) (c_X5_digitB l g z H M (0) (9) x0 (nI (lo)) x10 x14 _ _ ((sp + 3)) sc hzM hO hSc (by first | assumption | omega) (by first | assumption | omega) (by first | assumption | omega) (by first | assumption | omega) (by first | assumption | omega)) gX5_readAsk_X5_digit rfl (by decide +kernel) ⟨Nat.le_of_ble_eq_true rfl, Nat.le_of_ble_eq_true rfl⟩ rfl hl.1 (Nat.le_of_ble_eq_true rfl) ⟨Nat.zero_le _, Nat.zero_le _⟩ dX5_readAsk_54 (fun r13 H locs hr13 hw hsz => ?_) rfl
          obtain ⟨rfl, hO, hf2⟩ := hr13
          have hO : jO g H M 5 [.int x0, .ref (M + 1), .int (nI (tx.length)), .int (nI ((sp + 3))), .int (nI (0)), .int (nI (lo)), .ref (M + 2), .ref (M + 3), .ref (M + 4), .ref (M + 5), .int x10, .ref (M + 6), .ref (M + 7), .ref (M + 8), .int x14, .int (bI sn)] := hO
          have hSc := hSc.kept (hf2.2 _ (by omega))
          have hA := hA.kept (hf2.2 _ (by omega))
          have hf := hf.step hf2 (by omega)
          refine lv_istore (lv' := [(5, .int _), (4, .int _), (3, .int _), (2, .int _), (1, .int _), (0, .ref _)]) hx hb dX5_readAsk_57 hl (by decide) rfl (fun ls hl => ?_)
          refine lv_aload_n hx hb dX5_readAsk_59 rfl (lv_at hl 5 rfl) ?_
          refine j_get (T := TX5) (N := 16) (k := 4) hx hb hts hinX5 hown hw hO rfl (by decide) (hts (.fieldLink RX5 125 "NightTrainsModel" "isGood" "Z") (by decide +kernel)) rfl dX5_readAsk_60 ?_
          refine jz_eq (tgt := 117) hx hb dX5_readAsk_63 (by decide) (by omega) (fun c63 => ?_) (fun c63 => absurd c63 (by omega))
          refine j_vret hx hb hr hlocks hH hw dX5_readAsk_117 ?_
          have e9 : rdOne tx sp lo σ = ((sp + 3), false, lo, σ) := by
            unfold rdOne rdCmd
            rw [if_pos hch]
            simp only [gcud, gtd, gdd, if_neg c27]
          exact ⟨rfl, _, _, _, _, e9, hO, ⟨_, hA, hR⟩, hf⟩
      · refine lv_iconst (v := (nI (5))) hx hb dX5_readAsk_30 (by decide) ?_
        refine lv_goto (tgt := 36) hx hb dX5_readAsk_31 (by decide) ?_
        refine j_Vi (n := 2) (As := [.int (nI (0)), .int (nI (5))]) hx hb hml hown hts hw (j_recv hw hO rfl) (c_X5_digitG l g z H M (0) (5) x0 (nI (lo)) x10 x14 _ _ ((sp + 3)) sc hzM hO hSc (by first | assumption | omega) (by first | assumption | omega) (by first | assumption | omega) (by first | assumption | omega) (by first | assumption | omega)) gX5_readAsk_X5_digit rfl (by decide +kernel) ⟨Nat.le_of_ble_eq_true rfl, Nat.le_of_ble_eq_true rfl⟩ rfl hl.1 (Nat.le_of_ble_eq_true rfl) ⟨Nat.zero_le _, Nat.zero_le _⟩ dX5_readAsk_36 (fun r14 H locs hr14 hw hsz => ?_) rfl
        rcases hr14 with ⟨d, gdd, rfl, gda, gdb, gds, hO, hf2⟩ | ⟨gdd, rfl, hO, hf2⟩
        · have hO : jO g H M 5 [.int x0, .ref (M + 1), .int (nI (tx.length)), .int (nI ((sp + 4))), .int (nI (1)), .int (nI (lo)), .ref (M + 2), .ref (M + 3), .ref (M + 4), .ref (M + 5), .int x10, .ref (M + 6), .ref (M + 7), .ref (M + 8), .int x14, .int (bI sn)] := hO
          have hSc := hSc.kept (hf2.2 _ (by omega))
          have hA := hA.kept (hf2.2 _ (by omega))
          have hf := hf.step hf2 (by omega)
          refine j_addN hx hb dX5_readAsk_39 ?_
          refine lv_istore_n (lv' := [(3, .int _), (2, .int _), (1, .int _), (0, .ref _)]) hx hb dX5_readAsk_40 rfl hl (by decide) rfl (fun ls hl => ?_)
          refine lv_aload_n hx hb dX5_readAsk_41 rfl (lv_at hl 3 rfl) ?_
          refine lv_iconst (v := (nI (0))) hx hb dX5_readAsk_42 (by decide) ?_
          refine lv_bipush (v := (nI (7))) hx hb dX5_readAsk_43 (by decide) ?_
          refine j_Vi (n := 2) (As := [.int (nI (0)), .int (nI (7))]) hx hb hml hown hts hw (j_recv hw hO rfl) (c_X5_digitG l g z H M (0) (7) x0 (nI (lo)) x10 x14 _ _ ((sp + 4)) sc hzM hO hSc (by first | assumption | omega) (by first | assumption | omega) (by first | assumption | omega) (by first | assumption | omega) (by first | assumption | omega)) gX5_readAsk_X5_digit rfl (by decide +kernel) ⟨Nat.le_of_ble_eq_true rfl, Nat.le_of_ble_eq_true rfl⟩ rfl hl.1 (Nat.le_of_ble_eq_true rfl) ⟨Nat.zero_le _, Nat.zero_le _⟩ dX5_readAsk_45 (fun r15 H locs hr15 hw hsz => ?_) rfl
          rcases hr15 with ⟨it, gitd, rfl, gita, gitb, gits, hO, hf2⟩ | ⟨gitd, rfl, hO, hf2⟩
          · have hO : jO g H M 5 [.int x0, .ref (M + 1), .int (nI (tx.length)), .int (nI ((sp + 5))), .int (nI (1)), .int (nI (lo)), .ref (M + 2), .ref (M + 3), .ref (M + 4), .ref (M + 5), .int x10, .ref (M + 6), .ref (M + 7), .ref (M + 8), .int x14, .int (bI sn)] := hO
            have hSc := hSc.kept (hf2.2 _ (by omega))
            have hA := hA.kept (hf2.2 _ (by omega))
            have hf := hf.step hf2 (by omega)
            refine lv_istore (lv' := [(4, .int _), (3, .int _), (2, .int _), (1, .int _), (0, .ref _)]) hx hb dX5_readAsk_48 hl (by decide) rfl (fun ls hl => ?_)
            refine lv_aload_n hx hb dX5_readAsk_50 rfl (lv_at hl 4 rfl) ?_
            refine lv_iconst (v := (nI (0))) hx hb dX5_readAsk_51 (by decide) ?_
            refine lv_bipush (v := (nI (9))) hx hb dX5_readAsk_52 (by decide) ?_
            refine j_Vi (n := 2) (As := [.int (nI (0)), .int (nI (9))]) hx hb hml hown hts hw (j_recv hw hO rfl) (c_X5_digitG l g z H M (0) (9) x0 (nI (lo)) x10 x14 _ _ ((sp + 5)) sc hzM hO hSc (by first | assumption | omega) (by first | assumption | omega) (by first | assumption | omega) (by first | assumption | omega) (by first | assumption | omega)) gX5_readAsk_X5_digit rfl (by decide +kernel) ⟨Nat.le_of_ble_eq_true rfl, Nat.le_of_ble_eq_true rfl⟩ rfl hl.1 (Nat.le_of_ble_eq_true rfl) ⟨Nat.zero_le _, Nat.zero_le _⟩ dX5_readAsk_54 (fun r16 H locs hr16 hw hsz => ?_) rfl
            rcases hr16 with ⟨fe, gfed, rfl, gfea, gfeb, gfes, hO, hf2⟩ | ⟨gfed, rfl, hO, hf2⟩
            · have hO : jO g H M 5 [.int x0, .ref (M + 1), .int (nI (tx.length)), .int (nI ((sp + 6))), .int (nI (1)), .int (nI (lo)), .ref (M + 2), .ref (M + 3), .ref (M + 4), .ref (M + 5), .int x10, .ref (M + 6), .ref (M + 7), .ref (M + 8), .int x14, .int (bI sn)] := hO
              have hSc := hSc.kept (hf2.2 _ (by omega))
              have hA := hA.kept (hf2.2 _ (by omega))
              have hf := hf.step hf2 (by omega)
              refine lv_istore (lv' := [(5, .int _), (4, .int _), (3, .int _), (2, .int _), (1, .int _), (0, .ref _)]) hx hb dX5_readAsk_57 hl (by decide) rfl (fun ls hl => ?_)
              refine lv_aload_n hx hb dX5_readAsk_59 rfl (lv_at hl 5 rfl) ?_
              refine j_get (T := TX5) (N := 16) (k := 4) hx hb hts hinX5 hown hw hO rfl (by decide) (hts (.fieldLink RX5 125 "NightTrainsModel" "isGood" "Z") (by decide +kernel)) rfl dX5_readAsk_60 ?_
              refine jz_eq (tgt := 117) hx hb dX5_readAsk_63 (by decide) (by omega) (fun c63 => absurd c63 (by omega)) (fun c63 => ?_)
              refine lv_aload_n hx hb dX5_readAsk_66 rfl (lv_at hl 5 rfl) ?_
              refine j_get (T := TX5) (N := 16) (k := 6) hx hb hts hinX5 hown hw hO rfl (by decide) (hts (.fieldLink RX5 13 "NightTrainsModel" "read" "[I") (by decide +kernel)) rfl dX5_readAsk_67 ?_
              refine lv_iload_n hx hb dX5_readAsk_70 rfl (lv_at hl 4 rfl) ?_
              refine lv_iload_n hx hb dX5_readAsk_71 rfl (lv_at hl 2 rfl) ?_
              refine lv_iload hx hb dX5_readAsk_72 (lv_at hl 0 rfl) ?_
              refine j_Sp (n := 4) (As := [.ref (M + 2), .int (nI (cu)), .int (nI (((10 * t) + d))), .int (nI (fe))]) hx hb hml hown hts hw (c_X5_canAsk l g z H (M + 2) (cu) (((10 * t) + d)) (fe) (σ) f  hA hR hs (by omega) (by omega)) gX5_readAsk_X5_canAsk rfl (by decide +kernel) ⟨Nat.le_of_ble_eq_true rfl, Nat.le_of_ble_eq_true rfl⟩ rfl hl.1 (Nat.le_of_ble_eq_true rfl) ⟨Nat.zero_le _, Nat.zero_le _⟩ dX5_readAsk_74 (fun r17 locs hca hw => ?_) rfl
              rcases hca with ⟨rfl, hca⟩ | ⟨rfl, hca⟩
              · refine lv_istore (lv' := [(6, .int _), (5, .int _), (4, .int _), (3, .int _), (2, .int _), (1, .int _), (0, .ref _)]) hx hb dX5_readAsk_77 hl (by decide) rfl (fun ls hl => ?_)
                refine lv_aload_n hx hb dX5_readAsk_79 rfl (lv_at hl 6 rfl) ?_
                refine lv_dup hx hb dX5_readAsk_80 rfl ?_
                refine j_get (T := TX5) (N := 16) (k := 5) hx hb hts hinX5 hown hw hO rfl (by decide) (hts (.fieldLink RX5 141 "NightTrainsModel" "leftOut" "I") (by decide +kernel)) rfl dX5_readAsk_81 ?_
                refine lv_iload hx hb dX5_readAsk_84 (lv_at hl 0 rfl) ?_
                refine jz_eq (tgt := 93) hx hb dX5_readAsk_86 (by decide) (by omega) (fun c86 => absurd c86 (by omega)) (fun c86 => ?_)
                refine lv_iconst (v := (nI (0))) hx hb dX5_readAsk_89 (by decide) ?_
                refine lv_goto (tgt := 94) hx hb dX5_readAsk_90 (by decide) ?_
                refine j_addN hx hb dX5_readAsk_94 ?_
                refine j_put (T := TX5) (N := 16) (k := 5) (ty := .int) hx hb hts hinX5 tyX5 tyX5_ok nmX5 hown hw hO hzM rfl (by decide) (hts (.fieldLink RX5 141 "NightTrainsModel" "leftOut" "I") (by decide +kernel)) rfl (by decide +kernel) rfl rfl (Nat.le_of_ble_eq_true rfl) dX5_readAsk_95 (fun H locs hw hO oq hsz => ?_)
                have hO : jO g H M 5 [.int _, .ref _, .int _, .int _, .int _, .int _, .ref _, .ref _, .ref _, .ref _, .int _, .ref _, .ref _, .ref _, .int _, .int _] := hO
                have hSc := hSc.kept (oq _ (by omega))
                have hA := hA.kept (oq _ (by omega))
                have hf := hf.put oq hsz (by omega)
                refine lv_iload hx hb dX5_readAsk_98 (lv_at hl 0 rfl) ?_
                refine jz_eq (tgt := 117) hx hb dX5_readAsk_100 (by decide) (by omega) (fun c100 => absurd c100 (by omega)) (fun c100 => ?_)
                refine lv_aload_n hx hb dX5_readAsk_103 rfl (lv_at hl 6 rfl) ?_
                refine j_get (T := TX5) (N := 16) (k := 6) hx hb hts hinX5 hown hw hO rfl (by decide) (hts (.fieldLink RX5 13 "NightTrainsModel" "read" "[I") (by decide +kernel)) rfl dX5_readAsk_104 ?_
                refine lv_iload_n hx hb dX5_readAsk_107 rfl (lv_at hl 5 rfl) ?_
                refine lv_iload_n hx hb dX5_readAsk_108 rfl (lv_at hl 3 rfl) ?_
                refine lv_iload hx hb dX5_readAsk_109 (lv_at hl 2 rfl) ?_
                refine lv_iload hx hb dX5_readAsk_111 (lv_at hl 1 rfl) ?_
                refine j_Si (n := 5) (As := [.ref (M + 2), .int (nI (cu)), .int (nI (((10 * t) + d))), .int (nI (it)), .int (nI (fe))]) hx hb hml hown hts hw (c_X5_askIn l g z H (M + 2) (cu) (((10 * t) + d)) (it) (fe) (σ) f (by omega) hA hR hs (okO_mk (by omega) (by omega) (by omega) (by omega)) (hca.imp_right (fun q => by have := q.1; omega))) gX5_readAsk_X5_askIn rfl (by decide +kernel) ⟨Nat.le_of_ble_eq_true rfl, Nat.le_of_ble_eq_true rfl⟩ rfl hl.1 (Nat.le_of_ble_eq_true rfl) ⟨Nat.zero_le _, Nat.zero_le _⟩ dX5_readAsk_113 (fun r18 H locs hr18 hw hsz => ?_) rfl
                rcases hr18 with ⟨hfr, rfl, hr18⟩ | ⟨hfr, rfl, hr18⟩
                · obtain ⟨⟨f19, hA, hR⟩, hs, hf2⟩ := hr18
                  have hO := hO.kept (hf2.2 _ (by omega))
                  have hSc := hSc.kept (hf2.2 _ (by omega))
                  have hf := hf.step hf2 (by omega)
                  refine lv_pop hx hb dX5_readAsk_116 rfl ?_
                  refine j_vret hx hb hr hlocks hH hw dX5_readAsk_117 ?_
                  have hdo : doC σ (.inl (cu, 10 * t + d, it, fe)) = some (askF σ cu (10 * t + d) it) := by show tAsk σ cu (10 * t + d) it fe = some (askF σ cu (10 * t + d) it); unfold tAsk; exact (if_pos ⟨by omega, by omega, hca⟩).trans (congrArg some (if_pos hfr))
                  have e9 : rdOne tx sp lo σ = ((sp + 6), true, lo, (askF (σ) (cu) (10 * t + d) (it))) := by
                    unfold rdOne rdCmd
                    rw [if_pos hch]
                    simp only [gcud, gtd, gdd, gitd, gfed, if_pos c27, hdo]
                  exact ⟨rfl, _, _, _, _, e9, hO, ⟨_, hA, hR⟩, hf⟩
                · obtain ⟨⟨f20, hA, hR⟩, hs, hf2⟩ := hr18
                  have hO := hO.kept (hf2.2 _ (by omega))
                  have hSc := hSc.kept (hf2.2 _ (by omega))
                  have hf := hf.step hf2 (by omega)
                  refine lv_pop hx hb dX5_readAsk_116 rfl ?_
                  refine j_vret hx hb hr hlocks hH hw dX5_readAsk_117 ?_
                  have hdo : doC σ (.inl (cu, 10 * t + d, it, fe)) = some (askO σ cu (10 * t + d) it fe) := by show tAsk σ cu (10 * t + d) it fe = some (askO σ cu (10 * t + d) it fe); unfold tAsk; exact (if_pos ⟨by omega, by omega, hca⟩).trans (congrArg some (if_neg (by omega)))
                  have e9 : rdOne tx sp lo σ = ((sp + 6), true, lo, (askO (σ) (cu) (10 * t + d) (it) (fe))) := by
                    unfold rdOne rdCmd
                    rw [if_pos hch]
                    simp only [gcud, gtd, gdd, gitd, gfed, if_pos c27, hdo]
                  exact ⟨rfl, _, _, _, _, e9, hO, ⟨_, hA, hR⟩, hf⟩
              · refine lv_istore (lv' := [(6, .int _), (5, .int _), (4, .int _), (3, .int _), (2, .int _), (1, .int _), (0, .ref _)]) hx hb dX5_readAsk_77 hl (by decide) rfl (fun ls hl => ?_)
                refine lv_aload_n hx hb dX5_readAsk_79 rfl (lv_at hl 6 rfl) ?_
                refine lv_dup hx hb dX5_readAsk_80 rfl ?_
                refine j_get (T := TX5) (N := 16) (k := 5) hx hb hts hinX5 hown hw hO rfl (by decide) (hts (.fieldLink RX5 141 "NightTrainsModel" "leftOut" "I") (by decide +kernel)) rfl dX5_readAsk_81 ?_
                refine lv_iload hx hb dX5_readAsk_84 (lv_at hl 0 rfl) ?_
                refine jz_eq (tgt := 93) hx hb dX5_readAsk_86 (by decide) (by omega) (fun c86 => ?_) (fun c86 => absurd c86 (by omega))
                refine lv_iconst (v := (nI (1))) hx hb dX5_readAsk_93 (by decide) ?_
                refine j_addN hx hb dX5_readAsk_94 ?_
                refine j_put (T := TX5) (N := 16) (k := 5) (ty := .int) hx hb hts hinX5 tyX5 tyX5_ok nmX5 hown hw hO hzM rfl (by decide) (hts (.fieldLink RX5 141 "NightTrainsModel" "leftOut" "I") (by decide +kernel)) rfl (by decide +kernel) rfl rfl (Nat.le_of_ble_eq_true rfl) dX5_readAsk_95 (fun H locs hw hO oq hsz => ?_)
                have hO : jO g H M 5 [.int _, .ref _, .int _, .int _, .int _, .int _, .ref _, .ref _, .ref _, .ref _, .int _, .ref _, .ref _, .ref _, .int _, .int _] := hO
                have hSc := hSc.kept (oq _ (by omega))
                have hA := hA.kept (oq _ (by omega))
                have hf := hf.put oq hsz (by omega)
                refine lv_iload hx hb dX5_readAsk_98 (lv_at hl 0 rfl) ?_
                refine jz_eq (tgt := 117) hx hb dX5_readAsk_100 (by decide) (by omega) (fun c100 => ?_) (fun c100 => absurd c100 (by omega))
                refine j_vret hx hb hr hlocks hH hw dX5_readAsk_117 ?_
                have hdo : doC σ (.inl (cu, 10 * t + d, it, fe)) = none := by show tAsk σ cu (10 * t + d) it fe = none; unfold tAsk; exact if_neg (fun q => hca q.2.2)
                have e9 : rdOne tx sp lo σ = ((sp + 6), true, (lo + 1), σ) := by
                  unfold rdOne rdCmd
                  rw [if_pos hch]
                  simp only [gcud, gtd, gdd, gitd, gfed, if_pos c27, hdo]
                exact ⟨rfl, _, _, _, _, e9, hO, ⟨_, hA, hR⟩, hf⟩
            · have hO : jO g H M 5 [.int x0, .ref (M + 1), .int (nI (tx.length)), .int (nI ((sp + 5))), .int (nI (0)), .int (nI (lo)), .ref (M + 2), .ref (M + 3), .ref (M + 4), .ref (M + 5), .int x10, .ref (M + 6), .ref (M + 7), .ref (M + 8), .int x14, .int (bI sn)] := hO
              have hSc := hSc.kept (hf2.2 _ (by omega))
              have hA := hA.kept (hf2.2 _ (by omega))
              have hf := hf.step hf2 (by omega)
              refine lv_istore (lv' := [(5, .int _), (4, .int _), (3, .int _), (2, .int _), (1, .int _), (0, .ref _)]) hx hb dX5_readAsk_57 hl (by decide) rfl (fun ls hl => ?_)
              refine lv_aload_n hx hb dX5_readAsk_59 rfl (lv_at hl 5 rfl) ?_
              refine j_get (T := TX5) (N := 16) (k := 4) hx hb hts hinX5 hown hw hO rfl (by decide) (hts (.fieldLink RX5 125 "NightTrainsModel" "isGood" "Z") (by decide +kernel)) rfl dX5_readAsk_60 ?_
              refine jz_eq (tgt := 117) hx hb dX5_readAsk_63 (by decide) (by omega) (fun c63 => ?_) (fun c63 => absurd c63 (by omega))
              refine j_vret hx hb hr hlocks hH hw dX5_readAsk_117 ?_
              have e9 : rdOne tx sp lo σ = ((sp + 5), false, lo, σ) := by
                unfold rdOne rdCmd
                rw [if_pos hch]
                simp only [gcud, gtd, gdd, gitd, gfed, if_pos c27]
              exact ⟨rfl, _, _, _, _, e9, hO, ⟨_, hA, hR⟩, hf⟩
          · have hO : jO g H M 5 [.int x0, .ref (M + 1), .int (nI (tx.length)), .int (nI ((sp + 4))), .int (nI (0)), .int (nI (lo)), .ref (M + 2), .ref (M + 3), .ref (M + 4), .ref (M + 5), .int x10, .ref (M + 6), .ref (M + 7), .ref (M + 8), .int x14, .int (bI sn)] := hO
            have hSc := hSc.kept (hf2.2 _ (by omega))
            have hA := hA.kept (hf2.2 _ (by omega))
            have hf := hf.step hf2 (by omega)
            refine lv_istore (lv' := [(4, .int _), (3, .int _), (2, .int _), (1, .int _), (0, .ref _)]) hx hb dX5_readAsk_48 hl (by decide) rfl (fun ls hl => ?_)
            refine lv_aload_n hx hb dX5_readAsk_50 rfl (lv_at hl 4 rfl) ?_
            refine lv_iconst (v := (nI (0))) hx hb dX5_readAsk_51 (by decide) ?_
            refine lv_bipush (v := (nI (9))) hx hb dX5_readAsk_52 (by decide) ?_
            refine j_Vi (n := 2) (As := [.int (nI (0)), .int (nI (9))]) hx hb hml hown hts hw (j_recv hw hO rfl) (c_X5_digitB l g z H M (0) (9) x0 (nI (lo)) x10 x14 _ _ ((sp + 4)) sc hzM hO hSc (by first | assumption | omega) (by first | assumption | omega) (by first | assumption | omega) (by first | assumption | omega) (by first | assumption | omega)) gX5_readAsk_X5_digit rfl (by decide +kernel) ⟨Nat.le_of_ble_eq_true rfl, Nat.le_of_ble_eq_true rfl⟩ rfl hl.1 (Nat.le_of_ble_eq_true rfl) ⟨Nat.zero_le _, Nat.zero_le _⟩ dX5_readAsk_54 (fun r21 H locs hr21 hw hsz => ?_) rfl
            obtain ⟨rfl, hO, hf2⟩ := hr21
            have hO : jO g H M 5 [.int x0, .ref (M + 1), .int (nI (tx.length)), .int (nI ((sp + 4))), .int (nI (0)), .int (nI (lo)), .ref (M + 2), .ref (M + 3), .ref (M + 4), .ref (M + 5), .int x10, .ref (M + 6), .ref (M + 7), .ref (M + 8), .int x14, .int (bI sn)] := hO
            have hSc := hSc.kept (hf2.2 _ (by omega))
            have hA := hA.kept (hf2.2 _ (by omega))
            have hf := hf.step hf2 (by omega)
            refine lv_istore (lv' := [(5, .int _), (4, .int _), (3, .int _), (2, .int _), (1, .int _), (0, .ref _)]) hx hb dX5_readAsk_57 hl (by decide) rfl (fun ls hl => ?_)
            refine lv_aload_n hx hb dX5_readAsk_59 rfl (lv_at hl 5 rfl) ?_
            refine j_get (T := TX5) (N := 16) (k := 4) hx hb hts hinX5 hown hw hO rfl (by decide) (hts (.fieldLink RX5 125 "NightTrainsModel" "isGood" "Z") (by decide +kernel)) rfl dX5_readAsk_60 ?_
            refine jz_eq (tgt := 117) hx hb dX5_readAsk_63 (by decide) (by omega) (fun c63 => ?_) (fun c63 => absurd c63 (by omega))
            refine j_vret hx hb hr hlocks hH hw dX5_readAsk_117 ?_
            have e9 : rdOne tx sp lo σ = ((sp + 4), false, lo, σ) := by
              unfold rdOne rdCmd
              rw [if_pos hch]
              simp only [gcud, gtd, gdd, gitd, if_pos c27]
            exact ⟨rfl, _, _, _, _, e9, hO, ⟨_, hA, hR⟩, hf⟩
        · have hO : jO g H M 5 [.int x0, .ref (M + 1), .int (nI (tx.length)), .int (nI ((sp + 3))), .int (nI (0)), .int (nI (lo)), .ref (M + 2), .ref (M + 3), .ref (M + 4), .ref (M + 5), .int x10, .ref (M + 6), .ref (M + 7), .ref (M + 8), .int x14, .int (bI sn)] := hO
          have hSc := hSc.kept (hf2.2 _ (by omega))
          have hA := hA.kept (hf2.2 _ (by omega))
          have hf := hf.step hf2 (by omega)
          refine j_addN hx hb dX5_readAsk_39 ?_
          refine lv_istore_n (lv' := [(3, .int _), (2, .int _), (1, .int _), (0, .ref _)]) hx hb dX5_readAsk_40 rfl hl (by decide) rfl (fun ls hl => ?_)
          refine lv_aload_n hx hb dX5_readAsk_41 rfl (lv_at hl 3 rfl) ?_
          refine lv_iconst (v := (nI (0))) hx hb dX5_readAsk_42 (by decide) ?_
          refine lv_bipush (v := (nI (7))) hx hb dX5_readAsk_43 (by decide) ?_
          refine j_Vi (n := 2) (As := [.int (nI (0)), .int (nI (7))]) hx hb hml hown hts hw (j_recv hw hO rfl) (c_X5_digitB l g z H M (0) (7) x0 (nI (lo)) x10 x14 _ _ ((sp + 3)) sc hzM hO hSc (by first | assumption | omega) (by first | assumption | omega) (by first | assumption | omega) (by first | assumption | omega) (by first | assumption | omega)) gX5_readAsk_X5_digit rfl (by decide +kernel) ⟨Nat.le_of_ble_eq_true rfl, Nat.le_of_ble_eq_true rfl⟩ rfl hl.1 (Nat.le_of_ble_eq_true rfl) ⟨Nat.zero_le _, Nat.zero_le _⟩ dX5_readAsk_45 (fun r22 H locs hr22 hw hsz => ?_) rfl
          obtain ⟨rfl, hO, hf2⟩ := hr22
          have hO : jO g H M 5 [.int x0, .ref (M + 1), .int (nI (tx.length)), .int (nI ((sp + 3))), .int (nI (0)), .int (nI (lo)), .ref (M + 2), .ref (M + 3), .ref (M + 4), .ref (M + 5), .int x10, .ref (M + 6), .ref (M + 7), .ref (M + 8), .int x14, .int (bI sn)] := hO
          have hSc := hSc.kept (hf2.2 _ (by omega))
          have hA := hA.kept (hf2.2 _ (by omega))
          have hf := hf.step hf2 (by omega)
          refine lv_istore (lv' := [(4, .int _), (3, .int _), (2, .int _), (1, .int _), (0, .ref _)]) hx hb dX5_readAsk_48 hl (by decide) rfl (fun ls hl => ?_)
          refine lv_aload_n hx hb dX5_readAsk_50 rfl (lv_at hl 4 rfl) ?_
          refine lv_iconst (v := (nI (0))) hx hb dX5_readAsk_51 (by decide) ?_
          refine lv_bipush (v := (nI (9))) hx hb dX5_readAsk_52 (by decide) ?_
          refine j_Vi (n := 2) (As := [.int (nI (0)), .int (nI (9))]) hx hb hml hown hts hw (j_recv hw hO rfl) (c_X5_digitB l g z H M (0) (9) x0 (nI (lo)) x10 x14 _ _ ((sp + 3)) sc hzM hO hSc (by first | assumption | omega) (by first | assumption | omega) (by first | assumption | omega) (by first | assumption | omega) (by first | assumption | omega)) gX5_readAsk_X5_digit rfl (by decide +kernel) ⟨Nat.le_of_ble_eq_true rfl, Nat.le_of_ble_eq_true rfl⟩ rfl hl.1 (Nat.le_of_ble_eq_true rfl) ⟨Nat.zero_le _, Nat.zero_le _⟩ dX5_readAsk_54 (fun r23 H locs hr23 hw hsz => ?_) rfl
          obtain ⟨rfl, hO, hf2⟩ := hr23
          have hO : jO g H M 5 [.int x0, .ref (M + 1), .int (nI (tx.length)), .int (nI ((sp + 3))), .int (nI (0)), .int (nI (lo)), .ref (M + 2), .ref (M + 3), .ref (M + 4), .ref (M + 5), .int x10, .ref (M + 6), .ref (M + 7), .ref (M + 8), .int x14, .int (bI sn)] := hO
          have hSc := hSc.kept (hf2.2 _ (by omega))
          have hA := hA.kept (hf2.2 _ (by omega))
          have hf := hf.step hf2 (by omega)
          refine lv_istore (lv' := [(5, .int _), (4, .int _), (3, .int _), (2, .int _), (1, .int _), (0, .ref _)]) hx hb dX5_readAsk_57 hl (by decide) rfl (fun ls hl => ?_)
          refine lv_aload_n hx hb dX5_readAsk_59 rfl (lv_at hl 5 rfl) ?_
          refine j_get (T := TX5) (N := 16) (k := 4) hx hb hts hinX5 hown hw hO rfl (by decide) (hts (.fieldLink RX5 125 "NightTrainsModel" "isGood" "Z") (by decide +kernel)) rfl dX5_readAsk_60 ?_
          refine jz_eq (tgt := 117) hx hb dX5_readAsk_63 (by decide) (by omega) (fun c63 => ?_) (fun c63 => absurd c63 (by omega))
          refine j_vret hx hb hr hlocks hH hw dX5_readAsk_117 ?_
          have e9 : rdOne tx sp lo σ = ((sp + 3), false, lo, σ) := by
            unfold rdOne rdCmd
            rw [if_pos hch]
            simp only [gcud, gtd, gdd, if_pos c27]
          exact ⟨rfl, _, _, _, _, e9, hO, ⟨_, hA, hR⟩, hf⟩
    · have hO : jO g H M 5 [.int x0, .ref (M + 1), .int (nI (tx.length)), .int (nI ((sp + 2))), .int (nI (0)), .int (nI (lo)), .ref (M + 2), .ref (M + 3), .ref (M + 4), .ref (M + 5), .int x10, .ref (M + 6), .ref (M + 7), .ref (M + 8), .int x14, .int (bI sn)] := hO
      have hSc := hSc.kept (hf2.2 _ (by omega))
      have hA := hA.kept (hf2.2 _ (by omega))
      have hf := hf.step hf2 (by omega)
      refine lv_istore_n (lv' := [(2, .int _), (1, .int _), (0, .ref _)]) hx hb dX5_readAsk_18 rfl hl (by decide) rfl (fun ls hl => ?_)
      refine lv_bipush (v := (nI (10))) hx hb dX5_readAsk_19 (by decide) ?_
      refine lv_iload_n hx hb dX5_readAsk_21 rfl (lv_at hl 0 rfl) ?_
      refine j_mulN hx hb dX5_readAsk_22 ?_
      refine lv_aload_n hx hb dX5_readAsk_23 rfl (lv_at hl 2 rfl) ?_
      refine lv_iconst (v := (nI (0))) hx hb dX5_readAsk_24 (by decide) ?_
      refine lv_iload_n hx hb dX5_readAsk_25 rfl (lv_at hl 0 rfl) ?_
      refine lv_iconst (v := (nI (1))) hx hb dX5_readAsk_26 (by decide) ?_
      refine jn_ne (tgt := 34) hx hb dX5_readAsk_27 (by decide) (by omega) (by omega) (fun c27 => ?_) (fun c27 => absurd c27 (by omega))
      refine lv_bipush (v := (nI (9))) hx hb dX5_readAsk_34 (by decide) ?_
      refine j_Vi (n := 2) (As := [.int (nI (0)), .int (nI (9))]) hx hb hml hown hts hw (j_recv hw hO rfl) (c_X5_digitB l g z H M (0) (9) x0 (nI (lo)) x10 x14 _ _ ((sp + 2)) sc hzM hO hSc (by first | assumption | omega) (by first | assumption | omega) (by first | assumption | omega) (by first | assumption | omega) (by first | assumption | omega)) gX5_readAsk_X5_digit rfl (by decide +kernel) ⟨Nat.le_of_ble_eq_true rfl, Nat.le_of_ble_eq_true rfl⟩ rfl hl.1 (Nat.le_of_ble_eq_true rfl) ⟨Nat.zero_le _, Nat.zero_le _⟩ dX5_readAsk_36 (fun r24 H locs hr24 hw hsz => ?_) rfl
      obtain ⟨rfl, hO, hf2⟩ := hr24
      have hO : jO g H M 5 [.int x0, .ref (M + 1), .int (nI (tx.length)), .int (nI ((sp + 2))), .int (nI (0)), .int (nI (lo)), .ref (M + 2), .ref (M + 3), .ref (M + 4), .ref (M + 5), .int x10, .ref (M + 6), .ref (M + 7), .ref (M + 8), .int x14, .int (bI sn)] := hO
      have hSc := hSc.kept (hf2.2 _ (by omega))
      have hA := hA.kept (hf2.2 _ (by omega))
      have hf := hf.step hf2 (by omega)
      refine j_addN hx hb dX5_readAsk_39 ?_
      refine lv_istore_n (lv' := [(3, .int _), (2, .int _), (1, .int _), (0, .ref _)]) hx hb dX5_readAsk_40 rfl hl (by decide) rfl (fun ls hl => ?_)
      refine lv_aload_n hx hb dX5_readAsk_41 rfl (lv_at hl 3 rfl) ?_
      refine lv_iconst (v := (nI (0))) hx hb dX5_readAsk_42 (by decide) ?_
      refine lv_bipush (v := (nI (7))) hx hb dX5_readAsk_43 (by decide) ?_
      refine j_Vi (n := 2) (As := [.int (nI (0)), .int (nI (7))]) hx hb hml hown hts hw (j_recv hw hO rfl) (c_X5_digitB l g z H M (0) (7) x0 (nI (lo)) x10 x14 _ _ ((sp + 2)) sc hzM hO hSc (by first | assumption | omega) (by first | assumption | omega) (by first | assumption | omega) (by first | assumption | omega) (by first | assumption | omega)) gX5_readAsk_X5_digit rfl (by decide +kernel) ⟨Nat.le_of_ble_eq_true rfl, Nat.le_of_ble_eq_true rfl⟩ rfl hl.1 (Nat.le_of_ble_eq_true rfl) ⟨Nat.zero_le _, Nat.zero_le _⟩ dX5_readAsk_45 (fun r25 H locs hr25 hw hsz => ?_) rfl
      obtain ⟨rfl, hO, hf2⟩ := hr25
      have hO : jO g H M 5 [.int x0, .ref (M + 1), .int (nI (tx.length)), .int (nI ((sp + 2))), .int (nI (0)), .int (nI (lo)), .ref (M + 2), .ref (M + 3), .ref (M + 4), .ref (M + 5), .int x10, .ref (M + 6), .ref (M + 7), .ref (M + 8), .int x14, .int (bI sn)] := hO
      have hSc := hSc.kept (hf2.2 _ (by omega))
      have hA := hA.kept (hf2.2 _ (by omega))
      have hf := hf.step hf2 (by omega)
      refine lv_istore (lv' := [(4, .int _), (3, .int _), (2, .int _), (1, .int _), (0, .ref _)]) hx hb dX5_readAsk_48 hl (by decide) rfl (fun ls hl => ?_)
      refine lv_aload_n hx hb dX5_readAsk_50 rfl (lv_at hl 4 rfl) ?_
      refine lv_iconst (v := (nI (0))) hx hb dX5_readAsk_51 (by decide) ?_
      refine lv_bipush (v := (nI (9))) hx hb dX5_readAsk_52 (by decide) ?_
      refine j_Vi (n := 2) (As := [.int (nI (0)), .int (nI (9))]) hx hb hml hown hts hw (j_recv hw hO rfl) (c_X5_digitB l g z H M (0) (9) x0 (nI (lo)) x10 x14 _ _ ((sp + 2)) sc hzM hO hSc (by first | assumption | omega) (by first | assumption | omega) (by first | assumption | omega) (by first | assumption | omega) (by first | assumption | omega)) gX5_readAsk_X5_digit rfl (by decide +kernel) ⟨Nat.le_of_ble_eq_true rfl, Nat.le_of_ble_eq_true rfl⟩ rfl hl.1 (Nat.le_of_ble_eq_true rfl) ⟨Nat.zero_le _, Nat.zero_le _⟩ dX5_readAsk_54 (fun r26 H locs hr26 hw hsz => ?_) rfl
      obtain ⟨rfl, hO, hf2⟩ := hr26
      have hO : jO g H M 5 [.int x0, .ref (M + 1), .int (nI (tx.length)), .int (nI ((sp + 2))), .int (nI (0)), .int (nI (lo)), .ref (M + 2), .ref (M + 3), .ref (M + 4), .ref (M + 5), .int x10, .ref (M + 6), .ref (M + 7), .ref (M + 8), .int x14, .int (bI sn)] := hO
      have hSc := hSc.kept (hf2.2 _ (by omega))
      have hA := hA.kept (hf2.2 _ (by omega))
      have hf := hf.step hf2 (by omega)
      refine lv_istore (lv' := [(5, .int _), (4, .int _), (3, .int _), (2, .int _), (1, .int _), (0, .ref _)]) hx hb dX5_readAsk_57 hl (by decide) rfl (fun ls hl => ?_)
      refine lv_aload_n hx hb dX5_readAsk_59 rfl (lv_at hl 5 rfl) ?_
      refine j_get (T := TX5) (N := 16) (k := 4) hx hb hts hinX5 hown hw hO rfl (by decide) (hts (.fieldLink RX5 125 "NightTrainsModel" "isGood" "Z") (by decide +kernel)) rfl dX5_readAsk_60 ?_
      refine jz_eq (tgt := 117) hx hb dX5_readAsk_63 (by decide) (by omega) (fun c63 => ?_) (fun c63 => absurd c63 (by omega))
      refine j_vret hx hb hr hlocks hH hw dX5_readAsk_117 ?_
      have e9 : rdOne tx sp lo σ = ((sp + 2), false, lo, σ) := by
        unfold rdOne rdCmd
        rw [if_pos hch]
        simp only [gcud, gtd]
      exact ⟨rfl, _, _, _, _, e9, hO, ⟨_, hA, hR⟩, hf⟩
  · have hO : jO g H M 5 [.int x0, .ref (M + 1), .int (nI (tx.length)), .int (nI ((sp + 1))), .int (nI (0)), .int (nI (lo)), .ref (M + 2), .ref (M + 3), .ref (M + 4), .ref (M + 5), .int x10, .ref (M + 6), .ref (M + 7), .ref (M + 8), .int x14, .int (bI sn)] := hO
    have hSc := hSc.kept (hf2.2 _ (by omega))
    have hA := hA.kept (hf2.2 _ (by omega))
    have hf := hf.step hf2 (by omega)
    refine lv_istore_n (lv' := [(1, .int _), (0, .ref _)]) hx hb dX5_readAsk_11 rfl hl (by decide) rfl (fun ls hl => ?_)
    refine lv_aload_n hx hb dX5_readAsk_12 rfl (lv_at hl 1 rfl) ?_
    refine lv_iconst (v := (nI (0))) hx hb dX5_readAsk_13 (by decide) ?_
    refine lv_iconst (v := (nI (1))) hx hb dX5_readAsk_14 (by decide) ?_
    refine j_Vi (n := 2) (As := [.int (nI (0)), .int (nI (1))]) hx hb hml hown hts hw (j_recv hw hO rfl) (c_X5_digitB l g z H M (0) (1) x0 (nI (lo)) x10 x14 _ _ ((sp + 1)) sc hzM hO hSc (by first | assumption | omega) (by first | assumption | omega) (by first | assumption | omega) (by first | assumption | omega) (by first | assumption | omega)) gX5_readAsk_X5_digit rfl (by decide +kernel) ⟨Nat.le_of_ble_eq_true rfl, Nat.le_of_ble_eq_true rfl⟩ rfl hl.1 (Nat.le_of_ble_eq_true rfl) ⟨Nat.zero_le _, Nat.zero_le _⟩ dX5_readAsk_15 (fun r27 H locs hr27 hw hsz => ?_) rfl
    obtain ⟨rfl, hO, hf2⟩ := hr27
    have hO : jO g H M 5 [.int x0, .ref (M + 1), .int (nI (tx.length)), .int (nI ((sp + 1))), .int (nI (0)), .int (nI (lo)), .ref (M + 2), .ref (M + 3), .ref (M + 4), .ref (M + 5), .int x10, .ref (M + 6), .ref (M + 7), .ref (M + 8), .int x14, .int (bI sn)] := hO
    have hSc := hSc.kept (hf2.2 _ (by omega))
    have hA := hA.kept (hf2.2 _ (by omega))
    have hf := hf.step hf2 (by omega)
    refine lv_istore_n (lv' := [(2, .int _), (1, .int _), (0, .ref _)]) hx hb dX5_readAsk_18 rfl hl (by decide) rfl (fun ls hl => ?_)
    refine lv_bipush (v := (nI (10))) hx hb dX5_readAsk_19 (by decide) ?_
    refine lv_iload_n hx hb dX5_readAsk_21 rfl (lv_at hl 0 rfl) ?_
    refine j_mulN hx hb dX5_readAsk_22 ?_
    refine lv_aload_n hx hb dX5_readAsk_23 rfl (lv_at hl 2 rfl) ?_
    refine lv_iconst (v := (nI (0))) hx hb dX5_readAsk_24 (by decide) ?_
    refine lv_iload_n hx hb dX5_readAsk_25 rfl (lv_at hl 0 rfl) ?_
    refine lv_iconst (v := (nI (1))) hx hb dX5_readAsk_26 (by decide) ?_
    refine jn_ne (tgt := 34) hx hb dX5_readAsk_27 (by decide) (by omega) (by omega) (fun c27 => ?_) (fun c27 => absurd c27 (by omega))
    refine lv_bipush (v := (nI (9))) hx hb dX5_readAsk_34 (by decide) ?_
    refine j_Vi (n := 2) (As := [.int (nI (0)), .int (nI (9))]) hx hb hml hown hts hw (j_recv hw hO rfl) (c_X5_digitB l g z H M (0) (9) x0 (nI (lo)) x10 x14 _ _ ((sp + 1)) sc hzM hO hSc (by first | assumption | omega) (by first | assumption | omega) (by first | assumption | omega) (by first | assumption | omega) (by first | assumption | omega)) gX5_readAsk_X5_digit rfl (by decide +kernel) ⟨Nat.le_of_ble_eq_true rfl, Nat.le_of_ble_eq_true rfl⟩ rfl hl.1 (Nat.le_of_ble_eq_true rfl) ⟨Nat.zero_le _, Nat.zero_le _⟩ dX5_readAsk_36 (fun r28 H locs hr28 hw hsz => ?_) rfl
    obtain ⟨rfl, hO, hf2⟩ := hr28
    have hO : jO g H M 5 [.int x0, .ref (M + 1), .int (nI (tx.length)), .int (nI ((sp + 1))), .int (nI (0)), .int (nI (lo)), .ref (M + 2), .ref (M + 3), .ref (M + 4), .ref (M + 5), .int x10, .ref (M + 6), .ref (M + 7), .ref (M + 8), .int x14, .int (bI sn)] := hO
    have hSc := hSc.kept (hf2.2 _ (by omega))
    have hA := hA.kept (hf2.2 _ (by omega))
    have hf := hf.step hf2 (by omega)
    refine j_addN hx hb dX5_readAsk_39 ?_
    refine lv_istore_n (lv' := [(3, .int _), (2, .int _), (1, .int _), (0, .ref _)]) hx hb dX5_readAsk_40 rfl hl (by decide) rfl (fun ls hl => ?_)
    refine lv_aload_n hx hb dX5_readAsk_41 rfl (lv_at hl 3 rfl) ?_
    refine lv_iconst (v := (nI (0))) hx hb dX5_readAsk_42 (by decide) ?_
    refine lv_bipush (v := (nI (7))) hx hb dX5_readAsk_43 (by decide) ?_
    refine j_Vi (n := 2) (As := [.int (nI (0)), .int (nI (7))]) hx hb hml hown hts hw (j_recv hw hO rfl) (c_X5_digitB l g z H M (0) (7) x0 (nI (lo)) x10 x14 _ _ ((sp + 1)) sc hzM hO hSc (by first | assumption | omega) (by first | assumption | omega) (by first | assumption | omega) (by first | assumption | omega) (by first | assumption | omega)) gX5_readAsk_X5_digit rfl (by decide +kernel) ⟨Nat.le_of_ble_eq_true rfl, Nat.le_of_ble_eq_true rfl⟩ rfl hl.1 (Nat.le_of_ble_eq_true rfl) ⟨Nat.zero_le _, Nat.zero_le _⟩ dX5_readAsk_45 (fun r29 H locs hr29 hw hsz => ?_) rfl
    obtain ⟨rfl, hO, hf2⟩ := hr29
    have hO : jO g H M 5 [.int x0, .ref (M + 1), .int (nI (tx.length)), .int (nI ((sp + 1))), .int (nI (0)), .int (nI (lo)), .ref (M + 2), .ref (M + 3), .ref (M + 4), .ref (M + 5), .int x10, .ref (M + 6), .ref (M + 7), .ref (M + 8), .int x14, .int (bI sn)] := hO
    have hSc := hSc.kept (hf2.2 _ (by omega))
    have hA := hA.kept (hf2.2 _ (by omega))
    have hf := hf.step hf2 (by omega)
    refine lv_istore (lv' := [(4, .int _), (3, .int _), (2, .int _), (1, .int _), (0, .ref _)]) hx hb dX5_readAsk_48 hl (by decide) rfl (fun ls hl => ?_)
    refine lv_aload_n hx hb dX5_readAsk_50 rfl (lv_at hl 4 rfl) ?_
    refine lv_iconst (v := (nI (0))) hx hb dX5_readAsk_51 (by decide) ?_
    refine lv_bipush (v := (nI (9))) hx hb dX5_readAsk_52 (by decide) ?_
    refine j_Vi (n := 2) (As := [.int (nI (0)), .int (nI (9))]) hx hb hml hown hts hw (j_recv hw hO rfl) (c_X5_digitB l g z H M (0) (9) x0 (nI (lo)) x10 x14 _ _ ((sp + 1)) sc hzM hO hSc (by first | assumption | omega) (by first | assumption | omega) (by first | assumption | omega) (by first | assumption | omega) (by first | assumption | omega)) gX5_readAsk_X5_digit rfl (by decide +kernel) ⟨Nat.le_of_ble_eq_true rfl, Nat.le_of_ble_eq_true rfl⟩ rfl hl.1 (Nat.le_of_ble_eq_true rfl) ⟨Nat.zero_le _, Nat.zero_le _⟩ dX5_readAsk_54 (fun r30 H locs hr30 hw hsz => ?_) rfl
    obtain ⟨rfl, hO, hf2⟩ := hr30
    have hO : jO g H M 5 [.int x0, .ref (M + 1), .int (nI (tx.length)), .int (nI ((sp + 1))), .int (nI (0)), .int (nI (lo)), .ref (M + 2), .ref (M + 3), .ref (M + 4), .ref (M + 5), .int x10, .ref (M + 6), .ref (M + 7), .ref (M + 8), .int x14, .int (bI sn)] := hO
    have hSc := hSc.kept (hf2.2 _ (by omega))
    have hA := hA.kept (hf2.2 _ (by omega))
    have hf := hf.step hf2 (by omega)
    refine lv_istore (lv' := [(5, .int _), (4, .int _), (3, .int _), (2, .int _), (1, .int _), (0, .ref _)]) hx hb dX5_readAsk_57 hl (by decide) rfl (fun ls hl => ?_)
    refine lv_aload_n hx hb dX5_readAsk_59 rfl (lv_at hl 5 rfl) ?_
    refine j_get (T := TX5) (N := 16) (k := 4) hx hb hts hinX5 hown hw hO rfl (by decide) (hts (.fieldLink RX5 125 "NightTrainsModel" "isGood" "Z") (by decide +kernel)) rfl dX5_readAsk_60 ?_
    refine jz_eq (tgt := 117) hx hb dX5_readAsk_63 (by decide) (by omega) (fun c63 => ?_) (fun c63 => absurd c63 (by omega))
    refine j_vret hx hb hr hlocks hH hw dX5_readAsk_117 ?_
    have e9 : rdOne tx sp lo σ = ((sp + 1), false, lo, σ) := by
      unfold rdOne rdCmd
      rw [if_pos hch]
      simp only [gcud]
    exact ⟨rfl, _, _, _, _, e9, hO, ⟨_, hA, hR⟩, hf⟩

abbrev q_X5_readCancel (g : jG) (H0 : Heap) (M : Nat) (σ : Sg) (f : Nat → Int32) (x0 : Int32) (x10 : Int32) (x14 : Int32) (sn : Bool) (tx : List Nat) (sp : Nat) (lo : Nat) (sc : Nat → Int32) : Option Value → Heap → Prop := jV (fun H1 => ∃ s1 gd lo1 σ1, rdOne tx sp lo σ = (s1, gd, lo1, σ1) ∧ jO g H1 M 5 [.int x0, .ref (M + 1), .int (nI tx.length), .int (nI s1), .int (bI gd), .int (nI lo1), .ref (M + 2), .ref (M + 3), .ref (M + 4), .ref (M + 5), .int x10, .ref (M + 6), .ref (M + 7), .ref (M + 8), .int x14, .int (bI sn)] ∧ (∃ f1, jI g H1 (M + 2) 235 f1 ∧ Row f1 σ1) ∧ jF3 M (M + 2) M H0 H1)
set_option maxHeartbeats 4000000 in
set_option maxRecDepth 100000 in
theorem c_X5_readCancel (l : Launch) (g : jG) (z : Nat) (H0 : Heap) (M : Nat) (σ : Sg) (f : Nat → Int32) (x0 : Int32) (x10 : Int32) (x14 : Int32) (sn : Bool) (tx : List Nat) (sp : Nat) (lo : Nat) (sc : Nat → Int32) (hzM : z ≤ M) (hO : jO g H0 M 5 [.int x0, .ref (M + 1), .int (nI (tx.length)), .int (nI (sp)), .int (nI (1)), .int (nI (lo)), .ref (M + 2), .ref (M + 3), .ref (M + 4), .ref (M + 5), .int x10, .ref (M + 6), .ref (M + 7), .ref (M + 8), .int x14, .int (bI sn)]) (hSc : jI g H0 (M + 1) 120 sc) (hA : jI g H0 (M + 2) 235 f) (hsc : tIs sc tx) (htx : tx.length ≤ 120) (hsp : sp < tx.length) (hR : Row f σ) (hN : okN σ) (hch : ch tx sp = 99) : jM l g z yX5_readCancel wsX5_readCancel 4 90 [.ref M] H0 (q_X5_readCancel g H0 M σ f x0 x10 x14 sn tx sp lo sc) := by
  refine j_of (cc := cX5_readCancel) (n := 4) (ret := none) (by decide) rfl (Nat.le_of_ble_eq_true rfl) ?_
  intro p e s m below meth c hx hb hr hml hown hts hlocks hname hH hw ls hl
  have hl : lv_has ls 4 [(0, .ref M)] := hl
  have hinX5 : ∀ w ∈ u_ws RX5 TX5 16, w ∈ wsX5_readCancel := by decide +kernel
  have hf : jF3 M (M + 2) M H0 H0 := jF3.rf
  have hs := hN.1
  have hn := hs.2.2.1
  refine lv_aload_n hx hb dX5_readCancel_0 rfl (lv_at hl 0 rfl) ?_
  refine lv_iconst (v := (nI (1))) hx hb dX5_readCancel_1 (by decide) ?_
  refine j_Vv (n := 1) (As := [.int (nI (1))]) hx hb hml hown hts hw (j_recv hw hO rfl) (c_X5_acceptG l g z H0 M (1) x0 (nI (lo)) x10 x14 _ _ (sp) hzM hO (by first | assumption | omega)) gX5_readCancel_X5_accept rfl (by decide +kernel) ⟨Nat.le_of_ble_eq_true rfl, Nat.le_of_ble_eq_true rfl⟩ rfl hl.1 (Nat.le_of_ble_eq_true rfl) ⟨Nat.zero_le _, Nat.zero_le _⟩ dX5_readCancel_2 (fun H locs hr1 hw hsz => ?_) rfl
  obtain ⟨hO, hf2⟩ := hr1
  have hO : jO g H M 5 [.int x0, .ref (M + 1), .int (nI (tx.length)), .int (nI ((sp + 1))), .int (nI (1)), .int (nI (lo)), .ref (M + 2), .ref (M + 3), .ref (M + 4), .ref (M + 5), .int x10, .ref (M + 6), .ref (M + 7), .ref (M + 8), .int x14, .int (bI sn)] := hO
  have hSc := hSc.kept (hf2.2 _ (by omega))
  have hA := hA.kept (hf2.2 _ (by omega))
  have hf := hf.step hf2 (by omega)
  refine lv_aload_n hx hb dX5_readCancel_5 rfl (lv_at hl 0 rfl) ?_
  refine lv_iconst (v := (nI (0))) hx hb dX5_readCancel_6 (by decide) ?_
  refine lv_iconst (v := (nI (1))) hx hb dX5_readCancel_7 (by decide) ?_
  refine j_Vi (n := 2) (As := [.int (nI (0)), .int (nI (1))]) hx hb hml hown hts hw (j_recv hw hO rfl) (c_X5_digitG l g z H M (0) (1) x0 (nI (lo)) x10 x14 _ _ ((sp + 1)) sc hzM hO hSc (by first | assumption | omega) (by first | assumption | omega) (by first | assumption | omega) (by first | assumption | omega) (by first | assumption | omega)) gX5_readCancel_X5_digit rfl (by decide +kernel) ⟨Nat.le_of_ble_eq_true rfl, Nat.le_of_ble_eq_true rfl⟩ rfl hl.1 (Nat.le_of_ble_eq_true rfl) ⟨Nat.zero_le _, Nat.zero_le _⟩ dX5_readCancel_8 (fun r2 H locs hr2 hw hsz => ?_) rfl
  rcases hr2 with ⟨t, gtd, rfl, gta, gtb, gts, hO, hf2⟩ | ⟨gtd, rfl, hO, hf2⟩
  · have hO : jO g H M 5 [.int x0, .ref (M + 1), .int (nI (tx.length)), .int (nI ((sp + 2))), .int (nI (1)), .int (nI (lo)), .ref (M + 2), .ref (M + 3), .ref (M + 4), .ref (M + 5), .int x10, .ref (M + 6), .ref (M + 7), .ref (M + 8), .int x14, .int (bI sn)] := hO
    have hSc := hSc.kept (hf2.2 _ (by omega))
    have hA := hA.kept (hf2.2 _ (by omega))
    have hf := hf.step hf2 (by omega)
    refine lv_istore_n (lv' := [(1, .int _), (0, .ref _)]) hx hb dX5_readCancel_11 rfl hl (by decide) rfl (fun ls hl => ?_)
    refine lv_bipush (v := (nI (10))) hx hb dX5_readCancel_12 (by decide) ?_
    refine lv_iload_n hx hb dX5_readCancel_14 rfl (lv_at hl 0 rfl) ?_
    refine j_mulN hx hb dX5_readCancel_15 ?_
    refine lv_aload_n hx hb dX5_readCancel_16 rfl (lv_at hl 1 rfl) ?_
    refine lv_iconst (v := (nI (0))) hx hb dX5_readCancel_17 (by decide) ?_
    refine lv_bipush (v := (nI (9))) hx hb dX5_readCancel_18 (by decide) ?_
    refine j_Vi (n := 2) (As := [.int (nI (0)), .int (nI (9))]) hx hb hml hown hts hw (j_recv hw hO rfl) (c_X5_digitG l g z H M (0) (9) x0 (nI (lo)) x10 x14 _ _ ((sp + 2)) sc hzM hO hSc (by first | assumption | omega) (by first | assumption | omega) (by first | assumption | omega) (by first | assumption | omega) (by first | assumption | omega)) gX5_readCancel_X5_digit rfl (by decide +kernel) ⟨Nat.le_of_ble_eq_true rfl, Nat.le_of_ble_eq_true rfl⟩ rfl hl.1 (Nat.le_of_ble_eq_true rfl) ⟨Nat.zero_le _, Nat.zero_le _⟩ dX5_readCancel_20 (fun r3 H locs hr3 hw hsz => ?_) rfl
    rcases hr3 with ⟨d, gdd, rfl, gda, gdb, gds, hO, hf2⟩ | ⟨gdd, rfl, hO, hf2⟩
    · have hO : jO g H M 5 [.int x0, .ref (M + 1), .int (nI (tx.length)), .int (nI ((sp + 3))), .int (nI (1)), .int (nI (lo)), .ref (M + 2), .ref (M + 3), .ref (M + 4), .ref (M + 5), .int x10, .ref (M + 6), .ref (M + 7), .ref (M + 8), .int x14, .int (bI sn)] := hO
      have hSc := hSc.kept (hf2.2 _ (by omega))
      have hA := hA.kept (hf2.2 _ (by omega))
      have hf := hf.step hf2 (by omega)
      refine j_addN hx hb dX5_readCancel_23 ?_
      refine lv_istore_n (lv' := [(2, .int _), (1, .int _), (0, .ref _)]) hx hb dX5_readCancel_24 rfl hl (by decide) rfl (fun ls hl => ?_)
      refine lv_aload_n hx hb dX5_readCancel_25 rfl (lv_at hl 2 rfl) ?_
      refine j_get (T := TX5) (N := 16) (k := 4) hx hb hts hinX5 hown hw hO rfl (by decide) (hts (.fieldLink RX5 125 "NightTrainsModel" "isGood" "Z") (by decide +kernel)) rfl dX5_readCancel_26 ?_
      refine jz_eq (tgt := 80) hx hb dX5_readCancel_29 (by decide) (by omega) (fun c29 => absurd c29 (by omega)) (fun c29 => ?_)
      refine lv_iload_n hx hb dX5_readCancel_32 rfl (lv_at hl 0 rfl) ?_
      refine lv_aload_n hx hb dX5_readCancel_33 rfl (lv_at hl 2 rfl) ?_
      refine j_get (T := TX5) (N := 16) (k := 6) hx hb hts hinX5 hown hw hO rfl (by decide) (hts (.fieldLink RX5 13 "NightTrainsModel" "read" "[I") (by decide +kernel)) rfl dX5_readCancel_34 ?_
      refine lv_bipush (v := (nI (6))) hx hb dX5_readCancel_37 (by decide) ?_
      refine j_iald hx hb hw hA (k := 6) rfl (by omega) (by omega) dX5_readCancel_39 ?_
      refine j_eq (y := nI (σ.2.2.1.length)) hR.2.2.1 ?_
      refine jn_ge (tgt := 47) hx hb dX5_readCancel_40 (by decide) (by omega) (by omega) (fun c40 => ?_) (fun c40 => ?_)
      · refine lv_iconst (v := (nI (0))) hx hb dX5_readCancel_47 (by decide) ?_
        refine lv_istore_n (lv' := [(3, .int _), (2, .int _), (1, .int _), (0, .ref _)]) hx hb dX5_readCancel_48 rfl hl (by decide) rfl (fun ls hl => ?_)
        refine lv_aload_n hx hb dX5_readCancel_49 rfl (lv_at hl 3 rfl) ?_
        refine lv_dup hx hb dX5_readCancel_50 rfl ?_
        refine j_get (T := TX5) (N := 16) (k := 5) hx hb hts hinX5 hown hw hO rfl (by decide) (hts (.fieldLink RX5 141 "NightTrainsModel" "leftOut" "I") (by decide +kernel)) rfl dX5_readCancel_51 ?_
        refine lv_iload_n hx hb dX5_readCancel_54 rfl (lv_at hl 0 rfl) ?_
        refine jz_eq (tgt := 62) hx hb dX5_readCancel_55 (by decide) (by omega) (fun c55 => ?_) (fun c55 => absurd c55 (by omega))
        refine lv_iconst (v := (nI (1))) hx hb dX5_readCancel_62 (by decide) ?_
        refine j_addN hx hb dX5_readCancel_63 ?_
        refine j_put (T := TX5) (N := 16) (k := 5) (ty := .int) hx hb hts hinX5 tyX5 tyX5_ok nmX5 hown hw hO hzM rfl (by decide) (hts (.fieldLink RX5 141 "NightTrainsModel" "leftOut" "I") (by decide +kernel)) rfl (by decide +kernel) rfl rfl (Nat.le_of_ble_eq_true rfl) dX5_readCancel_64 (fun H locs hw hO oq hsz => ?_)
        have hO : jO g H M 5 [.int _, .ref _, .int _, .int _, .int _, .int _, .ref _, .ref _, .ref _, .ref _, .int _, .ref _, .ref _, .ref _, .int _, .int _] := hO
        have hSc := hSc.kept (oq _ (by omega))
        have hA := hA.kept (oq _ (by omega))
        have hf := hf.put oq hsz (by omega)
        refine lv_iload_n hx hb dX5_readCancel_67 rfl (lv_at hl 0 rfl) ?_
        refine jz_eq (tgt := 80) hx hb dX5_readCancel_68 (by decide) (by omega) (fun c68 => ?_) (fun c68 => absurd c68 (by omega))
        refine j_vret hx hb hr hlocks hH hw dX5_readCancel_80 ?_
        have hdo : doC σ (.inr (.inl (10 * t + d))) = none := by show tCancel σ (10 * t + d) = none; unfold tCancel; rw [List.getElem?_eq_none (by omega)]
        have e9 : rdOne tx sp lo σ = ((sp + 3), true, (lo + 1), σ) := by
          unfold rdOne rdCmd
          rw [if_neg (by omega), if_pos hch]
          simp only [gtd, gdd, hdo]
        exact ⟨rfl, _, _, _, _, e9, hO, ⟨_, hA, hR⟩, hf⟩
      · refine lv_iconst (v := (nI (1))) hx hb dX5_readCancel_43 (by decide) ?_
        refine lv_goto (tgt := 48) hx hb dX5_readCancel_44 (by decide) ?_
        refine lv_istore_n (lv' := [(3, .int _), (2, .int _), (1, .int _), (0, .ref _)]) hx hb dX5_readCancel_48 rfl hl (by decide) rfl (fun ls hl => ?_)
        refine lv_aload_n hx hb dX5_readCancel_49 rfl (lv_at hl 3 rfl) ?_
        refine lv_dup hx hb dX5_readCancel_50 rfl ?_
        refine j_get (T := TX5) (N := 16) (k := 5) hx hb hts hinX5 hown hw hO rfl (by decide) (hts (.fieldLink RX5 141 "NightTrainsModel" "leftOut" "I") (by decide +kernel)) rfl dX5_readCancel_51 ?_
        refine lv_iload_n hx hb dX5_readCancel_54 rfl (lv_at hl 0 rfl) ?_
        refine jz_eq (tgt := 62) hx hb dX5_readCancel_55 (by decide) (by omega) (fun c55 => absurd c55 (by omega)) (fun c55 => ?_)
        refine lv_iconst (v := (nI (0))) hx hb dX5_readCancel_58 (by decide) ?_
        refine lv_goto (tgt := 63) hx hb dX5_readCancel_59 (by decide) ?_
        refine j_addN hx hb dX5_readCancel_63 ?_
        refine j_put (T := TX5) (N := 16) (k := 5) (ty := .int) hx hb hts hinX5 tyX5 tyX5_ok nmX5 hown hw hO hzM rfl (by decide) (hts (.fieldLink RX5 141 "NightTrainsModel" "leftOut" "I") (by decide +kernel)) rfl (by decide +kernel) rfl rfl (Nat.le_of_ble_eq_true rfl) dX5_readCancel_64 (fun H locs hw hO oq hsz => ?_)
        have hO : jO g H M 5 [.int _, .ref _, .int _, .int _, .int _, .int _, .ref _, .ref _, .ref _, .ref _, .int _, .ref _, .ref _, .ref _, .int _, .int _] := hO
        have hSc := hSc.kept (oq _ (by omega))
        have hA := hA.kept (oq _ (by omega))
        have hf := hf.put oq hsz (by omega)
        refine lv_iload_n hx hb dX5_readCancel_67 rfl (lv_at hl 0 rfl) ?_
        refine jz_eq (tgt := 80) hx hb dX5_readCancel_68 (by decide) (by omega) (fun c68 => absurd c68 (by omega)) (fun c68 => ?_)
        obtain ⟨o, ho⟩ := getO (L := σ.2.2.1) (k := 10 * t + d) (by omega)
        refine lv_aload_n hx hb dX5_readCancel_71 rfl (lv_at hl 3 rfl) ?_
        refine j_get (T := TX5) (N := 16) (k := 6) hx hb hts hinX5 hown hw hO rfl (by decide) (hts (.fieldLink RX5 13 "NightTrainsModel" "read" "[I") (by decide +kernel)) rfl dX5_readCancel_72 ?_
        refine lv_iload_n hx hb dX5_readCancel_75 rfl (lv_at hl 1 rfl) ?_
        refine j_Si (n := 2) (As := [.ref (M + 2), .int (nI (((10 * t) + d)))]) hx hb hml hown hts hw (c_X5_cancelIn l g z H (M + 2) (((10 * t) + d)) (σ) f o (by omega) hA hR hs ho) gX5_readCancel_X5_cancelIn rfl (by decide +kernel) ⟨Nat.le_of_ble_eq_true rfl, Nat.le_of_ble_eq_true rfl⟩ rfl hl.1 (Nat.le_of_ble_eq_true rfl) ⟨Nat.zero_le _, Nat.zero_le _⟩ dX5_readCancel_76 (fun r4 H locs hr4 hw hsz => ?_) rfl
        obtain ⟨rfl, hr4⟩ := hr4
        obtain ⟨⟨f5, hA, hR⟩, hs, hf2⟩ := hr4
        have hO := hO.kept (hf2.2 _ (by omega))
        have hSc := hSc.kept (hf2.2 _ (by omega))
        have hf := hf.step hf2 (by omega)
        refine lv_pop hx hb dX5_readCancel_79 rfl ?_
        refine j_vret hx hb hr hlocks hH hw dX5_readCancel_80 ?_
        have hdo : doC σ (.inr (.inl (10 * t + d))) = some (cancelS σ (10 * t + d) o) := by show tCancel σ (10 * t + d) = some _; unfold tCancel; rw [ho]
        have e9 : rdOne tx sp lo σ = ((sp + 3), true, lo, (cancelS (σ) (10 * t + d) o)) := by
          unfold rdOne rdCmd
          rw [if_neg (by omega), if_pos hch]
          simp only [gtd, gdd, hdo]
        exact ⟨rfl, _, _, _, _, e9, hO, ⟨_, hA, hR⟩, hf⟩
    · have hO : jO g H M 5 [.int x0, .ref (M + 1), .int (nI (tx.length)), .int (nI ((sp + 2))), .int (nI (0)), .int (nI (lo)), .ref (M + 2), .ref (M + 3), .ref (M + 4), .ref (M + 5), .int x10, .ref (M + 6), .ref (M + 7), .ref (M + 8), .int x14, .int (bI sn)] := hO
      have hSc := hSc.kept (hf2.2 _ (by omega))
      have hA := hA.kept (hf2.2 _ (by omega))
      have hf := hf.step hf2 (by omega)
      refine j_addN hx hb dX5_readCancel_23 ?_
      refine lv_istore_n (lv' := [(2, .int _), (1, .int _), (0, .ref _)]) hx hb dX5_readCancel_24 rfl hl (by decide) rfl (fun ls hl => ?_)
      refine lv_aload_n hx hb dX5_readCancel_25 rfl (lv_at hl 2 rfl) ?_
      refine j_get (T := TX5) (N := 16) (k := 4) hx hb hts hinX5 hown hw hO rfl (by decide) (hts (.fieldLink RX5 125 "NightTrainsModel" "isGood" "Z") (by decide +kernel)) rfl dX5_readCancel_26 ?_
      refine jz_eq (tgt := 80) hx hb dX5_readCancel_29 (by decide) (by omega) (fun c29 => ?_) (fun c29 => absurd c29 (by omega))
      refine j_vret hx hb hr hlocks hH hw dX5_readCancel_80 ?_
      have e9 : rdOne tx sp lo σ = ((sp + 2), false, lo, σ) := by
        unfold rdOne rdCmd
        rw [if_neg (by omega), if_pos hch]
        simp only [gtd, gdd]
      exact ⟨rfl, _, _, _, _, e9, hO, ⟨_, hA, hR⟩, hf⟩
  · have hO : jO g H M 5 [.int x0, .ref (M + 1), .int (nI (tx.length)), .int (nI ((sp + 1))), .int (nI (0)), .int (nI (lo)), .ref (M + 2), .ref (M + 3), .ref (M + 4), .ref (M + 5), .int x10, .ref (M + 6), .ref (M + 7), .ref (M + 8), .int x14, .int (bI sn)] := hO
    have hSc := hSc.kept (hf2.2 _ (by omega))
    have hA := hA.kept (hf2.2 _ (by omega))
    have hf := hf.step hf2 (by omega)
    refine lv_istore_n (lv' := [(1, .int _), (0, .ref _)]) hx hb dX5_readCancel_11 rfl hl (by decide) rfl (fun ls hl => ?_)
    refine lv_bipush (v := (nI (10))) hx hb dX5_readCancel_12 (by decide) ?_
    refine lv_iload_n hx hb dX5_readCancel_14 rfl (lv_at hl 0 rfl) ?_
    refine j_mulN hx hb dX5_readCancel_15 ?_
    refine lv_aload_n hx hb dX5_readCancel_16 rfl (lv_at hl 1 rfl) ?_
    refine lv_iconst (v := (nI (0))) hx hb dX5_readCancel_17 (by decide) ?_
    refine lv_bipush (v := (nI (9))) hx hb dX5_readCancel_18 (by decide) ?_
    refine j_Vi (n := 2) (As := [.int (nI (0)), .int (nI (9))]) hx hb hml hown hts hw (j_recv hw hO rfl) (c_X5_digitB l g z H M (0) (9) x0 (nI (lo)) x10 x14 _ _ ((sp + 1)) sc hzM hO hSc (by first | assumption | omega) (by first | assumption | omega) (by first | assumption | omega) (by first | assumption | omega) (by first | assumption | omega)) gX5_readCancel_X5_digit rfl (by decide +kernel) ⟨Nat.le_of_ble_eq_true rfl, Nat.le_of_ble_eq_true rfl⟩ rfl hl.1 (Nat.le_of_ble_eq_true rfl) ⟨Nat.zero_le _, Nat.zero_le _⟩ dX5_readCancel_20 (fun r6 H locs hr6 hw hsz => ?_) rfl
    obtain ⟨rfl, hO, hf2⟩ := hr6
    have hO : jO g H M 5 [.int x0, .ref (M + 1), .int (nI (tx.length)), .int (nI ((sp + 1))), .int (nI (0)), .int (nI (lo)), .ref (M + 2), .ref (M + 3), .ref (M + 4), .ref (M + 5), .int x10, .ref (M + 6), .ref (M + 7), .ref (M + 8), .int x14, .int (bI sn)] := hO
    have hSc := hSc.kept (hf2.2 _ (by omega))
    have hA := hA.kept (hf2.2 _ (by omega))
    have hf := hf.step hf2 (by omega)
    refine j_addN hx hb dX5_readCancel_23 ?_
    refine lv_istore_n (lv' := [(2, .int _), (1, .int _), (0, .ref _)]) hx hb dX5_readCancel_24 rfl hl (by decide) rfl (fun ls hl => ?_)
    refine lv_aload_n hx hb dX5_readCancel_25 rfl (lv_at hl 2 rfl) ?_
    refine j_get (T := TX5) (N := 16) (k := 4) hx hb hts hinX5 hown hw hO rfl (by decide) (hts (.fieldLink RX5 125 "NightTrainsModel" "isGood" "Z") (by decide +kernel)) rfl dX5_readCancel_26 ?_
    refine jz_eq (tgt := 80) hx hb dX5_readCancel_29 (by decide) (by omega) (fun c29 => ?_) (fun c29 => absurd c29 (by omega))
    refine j_vret hx hb hr hlocks hH hw dX5_readCancel_80 ?_
    have e9 : rdOne tx sp lo σ = ((sp + 1), false, lo, σ) := by
      unfold rdOne rdCmd
      rw [if_neg (by omega), if_pos hch]
      simp only [gtd]
    exact ⟨rfl, _, _, _, _, e9, hO, ⟨_, hA, hR⟩, hf⟩

abbrev q_X5_readCommand (g : jG) (H0 : Heap) (M : Nat) (σ : Sg) (f : Nat → Int32) (x0 : Int32) (x10 : Int32) (x14 : Int32) (sn : Bool) (tx : List Nat) (sp : Nat) (lo : Nat) (sc : Nat → Int32) (tk0 : Nat → Int32) : Option Value → Heap → Prop := jV (fun H1 => ∃ s1 gd lo1 σ1 y14 sn1 tk, rdOne tx sp lo σ = (s1, gd, lo1, σ1) ∧ jO g H1 M 5 [.int x0, .ref (M + 1), .int (nI tx.length), .int (nI s1), .int (bI gd), .int (nI lo1), .ref (M + 2), .ref (M + 3), .ref (M + 4), .ref (M + 5), .int x10, .ref (M + 6), .ref (M + 7), .ref (M + 8), .int y14, .int (bI sn1)] ∧ (∃ f1, jI g H1 (M + 2) 235 f1 ∧ Row f1 σ1) ∧ jI g H1 (M + 8) 16 tk ∧ jF3 M (M + 2) (M + 8) H0 H1)
set_option maxHeartbeats 4000000 in
set_option maxRecDepth 100000 in
theorem c_X5_readCommand (l : Launch) (g : jG) (z : Nat) (H0 : Heap) (M : Nat) (σ : Sg) (f : Nat → Int32) (x0 : Int32) (x10 : Int32) (x14 : Int32) (sn : Bool) (tx : List Nat) (sp : Nat) (lo : Nat) (sc : Nat → Int32) (tk0 : Nat → Int32) (hzM : z ≤ M) (hO : jO g H0 M 5 [.int x0, .ref (M + 1), .int (nI (tx.length)), .int (nI (sp)), .int (nI (1)), .int (nI (lo)), .ref (M + 2), .ref (M + 3), .ref (M + 4), .ref (M + 5), .int x10, .ref (M + 6), .ref (M + 7), .ref (M + 8), .int x14, .int (bI sn)]) (hSc : jI g H0 (M + 1) 120 sc) (hA : jI g H0 (M + 2) 235 f) (hT8 : jI g H0 (M + 8) 16 tk0) (hsc : tIs sc tx) (htx : tx.length ≤ 120) (hsp : sp < tx.length) (hR : Row f σ) (hN : okN σ) : jM l g z yX5_readCommand wsX5_readCommand 5 119 [.ref M] H0 (q_X5_readCommand g H0 M σ f x0 x10 x14 sn tx sp lo sc tk0) := by
  refine j_of (cc := cX5_readCommand) (n := 2) (ret := none) (by decide) rfl (Nat.le_of_ble_eq_true rfl) ?_
  intro p e s m below meth c hx hb hr hml hown hts hlocks hname hH hw ls hl
  have hl : lv_has ls 2 [(0, .ref M)] := hl
  have hinX5 : ∀ w ∈ u_ws RX5 TX5 16, w ∈ wsX5_readCommand := by decide +kernel
  have hf : jF3 M (M + 2) (M + 8) H0 H0 := jF3.rf
  have hs := hN.1
  have hcalm : ∀ o ∈ σ.2.2.1, o 4 < 9 := hN.2.1
  refine lv_aload_n hx hb dX5_readCommand_0 rfl (lv_at hl 0 rfl) ?_
  refine lv_bipush (v := (nI (111))) hx hb dX5_readCommand_1 (by decide) ?_
  refine j_Vp (n := 1) (As := [.int (nI (111))]) hx hb hml hown hts hw (j_recv hw hO rfl) (c_X5_isNext l g z H0 M (111) x0 (nI (lo)) x10 x14 _ _ (sp) (nI (1)) sc  hO hSc (by first | assumption | omega) (by first | assumption | omega) (by first | assumption | omega) (by first | assumption | omega)) gX5_readCommand_X5_isNext rfl (by decide +kernel) ⟨Nat.le_of_ble_eq_true rfl, Nat.le_of_ble_eq_true rfl⟩ rfl hl.1 (Nat.le_of_ble_eq_true rfl) ⟨Nat.zero_le _, Nat.zero_le _⟩ dX5_readCommand_3 (fun r1 locs h111 hw => ?_) rfl
  rcases h111 with ⟨rfl, h111⟩ | ⟨rfl, h111⟩
  · refine jz_eq (tgt := 16) hx hb dX5_readCommand_6 (by decide) (by omega) (fun c6 => absurd c6 (by omega)) (fun c6 => ?_)
    refine lv_aload_n hx hb dX5_readCommand_9 rfl (lv_at hl 0 rfl) ?_
    refine j_Vv (n := 0) (As := []) hx hb hml hown hts hw (j_recv hw hO rfl) (c_X5_readAsk l g z H0 M (σ) f x0 x10 x14 _ _ (sp) (lo) sc hzM hO hSc hA (by first | assumption | omega) (by first | assumption | omega) (by first | assumption | omega) hR (by first | assumption | omega) h111) gX5_readCommand_X5_readAsk rfl (by decide +kernel) ⟨Nat.le_of_ble_eq_true rfl, Nat.le_of_ble_eq_true rfl⟩ rfl hl.1 (Nat.le_of_ble_eq_true rfl) ⟨Nat.zero_le _, Nat.zero_le _⟩ dX5_readCommand_10 (fun H locs hr2 hw hsz => ?_) rfl
    obtain ⟨s1, gd1, lo1, σ1, hrd, hO, ⟨f4, hA, hR⟩, hf2⟩ := hr2
    have hSc := hSc.kept (hf2.2 _ (by omega) (by omega) (by omega))
    have hT8 := hT8.kept (hf2.2 _ (by omega) (by omega) (by omega))
    have hf := hf.sub hf2
    refine lv_goto (tgt := 71) hx hb dX5_readCommand_13 (by decide) ?_
    refine j_vret hx hb hr hlocks hH hw dX5_readCommand_71 ?_
    exact ⟨rfl, _, _, _, _, _, _, _, hrd, hO, ⟨_, hA, hR⟩, hT8, hf⟩
  · refine jz_eq (tgt := 16) hx hb dX5_readCommand_6 (by decide) (by omega) (fun c6 => ?_) (fun c6 => absurd c6 (by omega))
    refine lv_aload_n hx hb dX5_readCommand_16 rfl (lv_at hl 0 rfl) ?_
    refine lv_bipush (v := (nI (99))) hx hb dX5_readCommand_17 (by decide) ?_
    refine j_Vp (n := 1) (As := [.int (nI (99))]) hx hb hml hown hts hw (j_recv hw hO rfl) (c_X5_isNext l g z H0 M (99) x0 (nI (lo)) x10 x14 _ _ (sp) (nI (1)) sc  hO hSc (by first | assumption | omega) (by first | assumption | omega) (by first | assumption | omega) (by first | assumption | omega)) gX5_readCommand_X5_isNext rfl (by decide +kernel) ⟨Nat.le_of_ble_eq_true rfl, Nat.le_of_ble_eq_true rfl⟩ rfl hl.1 (Nat.le_of_ble_eq_true rfl) ⟨Nat.zero_le _, Nat.zero_le _⟩ dX5_readCommand_19 (fun r5 locs h99 hw => ?_) rfl
    rcases h99 with ⟨rfl, h99⟩ | ⟨rfl, h99⟩
    · refine jz_eq (tgt := 32) hx hb dX5_readCommand_22 (by decide) (by omega) (fun c22 => absurd c22 (by omega)) (fun c22 => ?_)
      refine lv_aload_n hx hb dX5_readCommand_25 rfl (lv_at hl 0 rfl) ?_
      refine j_Vv (n := 0) (As := []) hx hb hml hown hts hw (j_recv hw hO rfl) (c_X5_readCancel l g z H0 M (σ) f x0 x10 x14 _ _ (sp) (lo) sc hzM hO hSc hA (by first | assumption | omega) (by first | assumption | omega) (by first | assumption | omega) hR (by first | assumption | omega) h99) gX5_readCommand_X5_readCancel rfl (by decide +kernel) ⟨Nat.le_of_ble_eq_true rfl, Nat.le_of_ble_eq_true rfl⟩ rfl hl.1 (Nat.le_of_ble_eq_true rfl) ⟨Nat.zero_le _, Nat.zero_le _⟩ dX5_readCommand_26 (fun H locs hr6 hw hsz => ?_) rfl
      obtain ⟨s1, gd1, lo1, σ1, hrd, hO, ⟨f8, hA, hR⟩, hf2⟩ := hr6
      have hSc := hSc.kept (hf2.2 _ (by omega) (by omega) (by omega))
      have hT8 := hT8.kept (hf2.2 _ (by omega) (by omega) (by omega))
      have hf := hf.sub hf2
      refine lv_goto (tgt := 71) hx hb dX5_readCommand_29 (by decide) ?_
      refine j_vret hx hb hr hlocks hH hw dX5_readCommand_71 ?_
      exact ⟨rfl, _, _, _, _, _, _, _, hrd, hO, ⟨_, hA, hR⟩, hT8, hf⟩
    · refine jz_eq (tgt := 32) hx hb dX5_readCommand_22 (by decide) (by omega) (fun c22 => ?_) (fun c22 => absurd c22 (by omega))
      refine lv_aload_n hx hb dX5_readCommand_32 rfl (lv_at hl 0 rfl) ?_
      refine lv_aload_n hx hb dX5_readCommand_33 rfl (lv_at hl 0 rfl) ?_
      refine lv_bipush (v := (nI (110))) hx hb dX5_readCommand_34 (by decide) ?_
      refine j_Vp (n := 1) (As := [.int (nI (110))]) hx hb hml hown hts hw (j_recv hw hO rfl) (c_X5_isNext l g z H0 M (110) x0 (nI (lo)) x10 x14 _ _ (sp) (nI (1)) sc  hO hSc (by first | assumption | omega) (by first | assumption | omega) (by first | assumption | omega) (by first | assumption | omega)) gX5_readCommand_X5_isNext rfl (by decide +kernel) ⟨Nat.le_of_ble_eq_true rfl, Nat.le_of_ble_eq_true rfl⟩ rfl hl.1 (Nat.le_of_ble_eq_true rfl) ⟨Nat.zero_le _, Nat.zero_le _⟩ dX5_readCommand_36 (fun r9 locs h110 hw => ?_) rfl
      rcases h110 with ⟨rfl, h110⟩ | ⟨rfl, h110⟩
      · refine j_Vv (n := 1) (As := [.int (nI (1))]) hx hb hml hown hts hw (j_recv hw hO rfl) (c_X5_acceptG l g z H0 M (1) x0 (nI (lo)) x10 x14 _ _ (sp) hzM hO (by first | assumption | omega)) gX5_readCommand_X5_accept rfl (by decide +kernel) ⟨Nat.le_of_ble_eq_true rfl, Nat.le_of_ble_eq_true rfl⟩ rfl hl.1 (Nat.le_of_ble_eq_true rfl) ⟨Nat.zero_le _, Nat.zero_le _⟩ dX5_readCommand_39 (fun H locs hr10 hw hsz => ?_) rfl
        obtain ⟨hO, hf2⟩ := hr10
        have hO : jO g H M 5 [.int x0, .ref (M + 1), .int (nI (tx.length)), .int (nI ((sp + 1))), .int (nI (1)), .int (nI (lo)), .ref (M + 2), .ref (M + 3), .ref (M + 4), .ref (M + 5), .int x10, .ref (M + 6), .ref (M + 7), .ref (M + 8), .int x14, .int (bI sn)] := hO
        have hSc := hSc.kept (hf2.2 _ (by omega))
        have hA := hA.kept (hf2.2 _ (by omega))
        have hT8 := hT8.kept (hf2.2 _ (by omega))
        have hf := hf.step hf2 (by omega)
        refine lv_aload_n hx hb dX5_readCommand_42 rfl (lv_at hl 0 rfl) ?_
        refine lv_iconst (v := (nI (1))) hx hb dX5_readCommand_43 (by decide) ?_
        refine lv_bipush (v := (nI (9))) hx hb dX5_readCommand_44 (by decide) ?_
        refine j_Vi (n := 2) (As := [.int (nI (1)), .int (nI (9))]) hx hb hml hown hts hw (j_recv hw hO rfl) (c_X5_digitG l g z H M (1) (9) x0 (nI (lo)) x10 x14 _ _ ((sp + 1)) sc hzM hO hSc (by first | assumption | omega) (by first | assumption | omega) (by first | assumption | omega) (by first | assumption | omega) (by first | assumption | omega)) gX5_readCommand_X5_digit rfl (by decide +kernel) ⟨Nat.le_of_ble_eq_true rfl, Nat.le_of_ble_eq_true rfl⟩ rfl hl.1 (Nat.le_of_ble_eq_true rfl) ⟨Nat.zero_le _, Nat.zero_le _⟩ dX5_readCommand_46 (fun r11 H locs hr11 hw hsz => ?_) rfl
        rcases hr11 with ⟨n, gnd, rfl, gna, gnb, gns, hO, hf2⟩ | ⟨gnd, rfl, hO, hf2⟩
        · have hO : jO g H M 5 [.int x0, .ref (M + 1), .int (nI (tx.length)), .int (nI ((sp + 2))), .int (nI (1)), .int (nI (lo)), .ref (M + 2), .ref (M + 3), .ref (M + 4), .ref (M + 5), .int x10, .ref (M + 6), .ref (M + 7), .ref (M + 8), .int x14, .int (bI sn)] := hO
          have hSc := hSc.kept (hf2.2 _ (by omega))
          have hA := hA.kept (hf2.2 _ (by omega))
          have hT8 := hT8.kept (hf2.2 _ (by omega))
          have hf := hf.step hf2 (by omega)
          refine lv_istore_n (lv' := [(1, .int _), (0, .ref _)]) hx hb dX5_readCommand_49 rfl hl (by decide) rfl (fun ls hl => ?_)
          refine lv_aload_n hx hb dX5_readCommand_50 rfl (lv_at hl 1 rfl) ?_
          refine lv_aload_n hx hb dX5_readCommand_51 rfl (lv_at hl 1 rfl) ?_
          refine j_get (T := TX5) (N := 16) (k := 6) hx hb hts hinX5 hown hw hO rfl (by decide) (hts (.fieldLink RX5 13 "NightTrainsModel" "read" "[I") (by decide +kernel)) rfl dX5_readCommand_52 ?_
          refine lv_aload_n hx hb dX5_readCommand_55 rfl (lv_at hl 1 rfl) ?_
          refine j_get (T := TX5) (N := 16) (k := 4) hx hb hts hinX5 hown hw hO rfl (by decide) (hts (.fieldLink RX5 125 "NightTrainsModel" "isGood" "Z") (by decide +kernel)) rfl dX5_readCommand_56 ?_
          refine jz_eq (tgt := 66) hx hb dX5_readCommand_59 (by decide) (by omega) (fun c59 => absurd c59 (by omega)) (fun c59 => ?_)
          refine lv_iload_n hx hb dX5_readCommand_62 rfl (lv_at hl 0 rfl) ?_
          refine lv_goto (tgt := 67) hx hb dX5_readCommand_63 (by decide) ?_
          refine j_Vi (n := 2) (As := [.ref (M + 2), .int (nI (n))]) hx hb hml hown hts hw (j_recv hw hO rfl) (c_X5_nightsIn l g z H M (M + 2) (n) (σ) f x0 (nI (tx.length)) (nI ((sp + 2))) (nI (1)) (nI (lo)) x10 x14 _ tk0 hzM (by omega) (by omega) hO hA hT8 hR hs hcalm (by omega)) gX5_readCommand_X5_nightsIn rfl (by decide +kernel) ⟨Nat.le_of_ble_eq_true rfl, Nat.le_of_ble_eq_true rfl⟩ rfl hl.1 (Nat.le_of_ble_eq_true rfl) ⟨Nat.zero_le _, Nat.zero_le _⟩ dX5_readCommand_67 (fun r12 H locs hr12 hw hsz => ?_) rfl
          obtain ⟨hr12, ⟨⟨f13, hA, hR⟩, hs, hf2⟩, y15, b16, tk14, hO, hT8⟩ := hr12
          have hSc := hSc.kept (hf2.2 _ (by omega) (by omega) (by omega))
          have hf := hf.cat hf2
          refine lv_pop hx hb dX5_readCommand_70 rfl ?_
          refine j_vret hx hb hr hlocks hH hw dX5_readCommand_71 ?_
          have hdo : doC σ (.inr (.inr n)) = some (nightsS n σ) := rfl
          have e9 : rdOne tx sp lo σ = ((sp + 2), true, lo, (nightsS (n) (σ))) := by
            unfold rdOne rdCmd
            rw [if_neg h111, if_neg h99, if_pos h110]
            simp only [gnd, hdo]
          exact ⟨rfl, _, _, _, _, _, _, _, e9, hO, ⟨_, hA, hR⟩, hT8, hf⟩
        · have hO : jO g H M 5 [.int x0, .ref (M + 1), .int (nI (tx.length)), .int (nI ((sp + 1))), .int (nI (0)), .int (nI (lo)), .ref (M + 2), .ref (M + 3), .ref (M + 4), .ref (M + 5), .int x10, .ref (M + 6), .ref (M + 7), .ref (M + 8), .int x14, .int (bI sn)] := hO
          have hSc := hSc.kept (hf2.2 _ (by omega))
          have hA := hA.kept (hf2.2 _ (by omega))
          have hT8 := hT8.kept (hf2.2 _ (by omega))
          have hf := hf.step hf2 (by omega)
          refine lv_istore_n (lv' := [(1, .int _), (0, .ref _)]) hx hb dX5_readCommand_49 rfl hl (by decide) rfl (fun ls hl => ?_)
          refine lv_aload_n hx hb dX5_readCommand_50 rfl (lv_at hl 1 rfl) ?_
          refine lv_aload_n hx hb dX5_readCommand_51 rfl (lv_at hl 1 rfl) ?_
          refine j_get (T := TX5) (N := 16) (k := 6) hx hb hts hinX5 hown hw hO rfl (by decide) (hts (.fieldLink RX5 13 "NightTrainsModel" "read" "[I") (by decide +kernel)) rfl dX5_readCommand_52 ?_
          refine lv_aload_n hx hb dX5_readCommand_55 rfl (lv_at hl 1 rfl) ?_
          refine j_get (T := TX5) (N := 16) (k := 4) hx hb hts hinX5 hown hw hO rfl (by decide) (hts (.fieldLink RX5 125 "NightTrainsModel" "isGood" "Z") (by decide +kernel)) rfl dX5_readCommand_56 ?_
          refine jz_eq (tgt := 66) hx hb dX5_readCommand_59 (by decide) (by omega) (fun c59 => ?_) (fun c59 => absurd c59 (by omega))
          refine lv_iconst (v := (nI (0))) hx hb dX5_readCommand_66 (by decide) ?_
          refine j_Vi (n := 2) (As := [.ref (M + 2), .int (nI (0))]) hx hb hml hown hts hw (j_recv hw hO rfl) (c_X5_nightsIn l g z H M (M + 2) (0) (σ) f x0 (nI (tx.length)) (nI ((sp + 1))) (nI (0)) (nI (lo)) x10 x14 _ tk0 hzM (by omega) (by omega) hO hA hT8 hR hs hcalm (by omega)) gX5_readCommand_X5_nightsIn rfl (by decide +kernel) ⟨Nat.le_of_ble_eq_true rfl, Nat.le_of_ble_eq_true rfl⟩ rfl hl.1 (Nat.le_of_ble_eq_true rfl) ⟨Nat.zero_le _, Nat.zero_le _⟩ dX5_readCommand_67 (fun r17 H locs hr17 hw hsz => ?_) rfl
          obtain ⟨hr17, ⟨⟨f18, hA, hR⟩, hs, hf2⟩, y20, b21, tk19, hO, hT8⟩ := hr17
          have hSc := hSc.kept (hf2.2 _ (by omega) (by omega) (by omega))
          have hf := hf.cat hf2
          refine lv_pop hx hb dX5_readCommand_70 rfl ?_
          refine j_vret hx hb hr hlocks hH hw dX5_readCommand_71 ?_
          have e9 : rdOne tx sp lo σ = ((sp + 1), false, lo, σ) := by
            unfold rdOne rdCmd
            rw [if_neg h111, if_neg h99, if_pos h110]
            simp only [gnd]
          exact ⟨rfl, _, _, _, _, _, _, _, e9, hO, ⟨_, hA, hR⟩, hT8, hf⟩
      · refine j_Vv (n := 1) (As := [.int (nI (0))]) hx hb hml hown hts hw (j_recv hw hO rfl) (c_X5_acceptG l g z H0 M (0) x0 (nI (lo)) x10 x14 _ _ (sp) hzM hO (by first | assumption | omega)) gX5_readCommand_X5_accept rfl (by decide +kernel) ⟨Nat.le_of_ble_eq_true rfl, Nat.le_of_ble_eq_true rfl⟩ rfl hl.1 (Nat.le_of_ble_eq_true rfl) ⟨Nat.zero_le _, Nat.zero_le _⟩ dX5_readCommand_39 (fun H locs hr22 hw hsz => ?_) rfl
        obtain ⟨hO, hf2⟩ := hr22
        have hO : jO g H M 5 [.int x0, .ref (M + 1), .int (nI (tx.length)), .int (nI (sp)), .int (nI (0)), .int (nI (lo)), .ref (M + 2), .ref (M + 3), .ref (M + 4), .ref (M + 5), .int x10, .ref (M + 6), .ref (M + 7), .ref (M + 8), .int x14, .int (bI sn)] := hO
        have hSc := hSc.kept (hf2.2 _ (by omega))
        have hA := hA.kept (hf2.2 _ (by omega))
        have hT8 := hT8.kept (hf2.2 _ (by omega))
        have hf := hf.step hf2 (by omega)
        refine lv_aload_n hx hb dX5_readCommand_42 rfl (lv_at hl 0 rfl) ?_
        refine lv_iconst (v := (nI (1))) hx hb dX5_readCommand_43 (by decide) ?_
        refine lv_bipush (v := (nI (9))) hx hb dX5_readCommand_44 (by decide) ?_
        refine j_Vi (n := 2) (As := [.int (nI (1)), .int (nI (9))]) hx hb hml hown hts hw (j_recv hw hO rfl) (c_X5_digitB l g z H M (1) (9) x0 (nI (lo)) x10 x14 _ _ (sp) sc hzM hO hSc (by first | assumption | omega) (by first | assumption | omega) (by first | assumption | omega) (by first | assumption | omega) (by first | assumption | omega)) gX5_readCommand_X5_digit rfl (by decide +kernel) ⟨Nat.le_of_ble_eq_true rfl, Nat.le_of_ble_eq_true rfl⟩ rfl hl.1 (Nat.le_of_ble_eq_true rfl) ⟨Nat.zero_le _, Nat.zero_le _⟩ dX5_readCommand_46 (fun r23 H locs hr23 hw hsz => ?_) rfl
        obtain ⟨rfl, hO, hf2⟩ := hr23
        have hO : jO g H M 5 [.int x0, .ref (M + 1), .int (nI (tx.length)), .int (nI (sp)), .int (nI (0)), .int (nI (lo)), .ref (M + 2), .ref (M + 3), .ref (M + 4), .ref (M + 5), .int x10, .ref (M + 6), .ref (M + 7), .ref (M + 8), .int x14, .int (bI sn)] := hO
        have hSc := hSc.kept (hf2.2 _ (by omega))
        have hA := hA.kept (hf2.2 _ (by omega))
        have hT8 := hT8.kept (hf2.2 _ (by omega))
        have hf := hf.step hf2 (by omega)
        refine lv_istore_n (lv' := [(1, .int _), (0, .ref _)]) hx hb dX5_readCommand_49 rfl hl (by decide) rfl (fun ls hl => ?_)
        refine lv_aload_n hx hb dX5_readCommand_50 rfl (lv_at hl 1 rfl) ?_
        refine lv_aload_n hx hb dX5_readCommand_51 rfl (lv_at hl 1 rfl) ?_
        refine j_get (T := TX5) (N := 16) (k := 6) hx hb hts hinX5 hown hw hO rfl (by decide) (hts (.fieldLink RX5 13 "NightTrainsModel" "read" "[I") (by decide +kernel)) rfl dX5_readCommand_52 ?_
        refine lv_aload_n hx hb dX5_readCommand_55 rfl (lv_at hl 1 rfl) ?_
        refine j_get (T := TX5) (N := 16) (k := 4) hx hb hts hinX5 hown hw hO rfl (by decide) (hts (.fieldLink RX5 125 "NightTrainsModel" "isGood" "Z") (by decide +kernel)) rfl dX5_readCommand_56 ?_
        refine jz_eq (tgt := 66) hx hb dX5_readCommand_59 (by decide) (by omega) (fun c59 => ?_) (fun c59 => absurd c59 (by omega))
        refine lv_iconst (v := (nI (0))) hx hb dX5_readCommand_66 (by decide) ?_
        refine j_Vi (n := 2) (As := [.ref (M + 2), .int (nI (0))]) hx hb hml hown hts hw (j_recv hw hO rfl) (c_X5_nightsIn l g z H M (M + 2) (0) (σ) f x0 (nI (tx.length)) (nI (sp)) (nI (0)) (nI (lo)) x10 x14 _ tk0 hzM (by omega) (by omega) hO hA hT8 hR hs hcalm (by omega)) gX5_readCommand_X5_nightsIn rfl (by decide +kernel) ⟨Nat.le_of_ble_eq_true rfl, Nat.le_of_ble_eq_true rfl⟩ rfl hl.1 (Nat.le_of_ble_eq_true rfl) ⟨Nat.zero_le _, Nat.zero_le _⟩ dX5_readCommand_67 (fun r24 H locs hr24 hw hsz => ?_) rfl
        obtain ⟨hr24, ⟨⟨f25, hA, hR⟩, hs, hf2⟩, y27, b28, tk26, hO, hT8⟩ := hr24
        have hSc := hSc.kept (hf2.2 _ (by omega) (by omega) (by omega))
        have hf := hf.cat hf2
        refine lv_pop hx hb dX5_readCommand_70 rfl ?_
        refine j_vret hx hb hr hlocks hH hw dX5_readCommand_71 ?_
        have e9 : rdOne tx sp lo σ = (sp, false, lo, σ) := by
          unfold rdOne rdCmd
          rw [if_neg h111, if_neg h99, if_neg h110]
        exact ⟨rfl, _, _, _, _, _, _, _, e9, hO, ⟨_, hA, hR⟩, hT8, hf⟩
