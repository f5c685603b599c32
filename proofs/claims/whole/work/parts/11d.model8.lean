abbrev q_X5_remember (g : jG) (H0 : Heap) (M : Nat) (σ : Sg) (f : Nat → Int32) (x0 : Int32) (x2 : Int32) (x3 : Int32) (x4 : Int32) (x5 : Int32) (x14 : Int32) (sn : Bool) (hi : List Sg) (dy : Nat → Int32) : Option Value → Heap → Prop := jV (fun H1 => jO g H1 M 5 [.int x0, .ref (M + 1), .int x2, .int x3, .int x4, .int x5, .ref (M + 2), .ref (M + 3), .ref (M + 4), .ref (M + 5), .int (nI (pushH hi σ).length), .ref (M + 6), .ref (M + 7), .ref (M + 8), .int x14, .int (bI sn)] ∧ ∃ d, jI g H1 (M + 5) 3290 d ∧ Dia d (pushH hi σ) ∧ jF3 M (M + 5) M H0 H1)
set_option maxHeartbeats 4000000 in
set_option maxRecDepth 100000 in
theorem c_X5_remember (l : Launch) (g : jG) (z : Nat) (H0 : Heap) (M : Nat) (σ : Sg) (f : Nat → Int32) (x0 : Int32) (x2 : Int32) (x3 : Int32) (x4 : Int32) (x5 : Int32) (x14 : Int32) (sn : Bool) (hi : List Sg) (dy : Nat → Int32) (hzM : z ≤ M) (hO : jO g H0 M 5 [.int x0, .ref (M + 1), .int x2, .int x3, .int x4, .int x5, .ref (M + 2), .ref (M + 3), .ref (M + 4), .ref (M + 5), .int (nI (hi.length)), .ref (M + 6), .ref (M + 7), .ref (M + 8), .int x14, .int (bI sn)]) (hA : jI g H0 (M + 3) 235 f) (hDy : jI g H0 (M + 5) 3290 dy) (hR : Row f σ) (hN : okN σ) (hhi : hi.length ≤ 14) (hd : Dia dy hi) : jM l g z yX5_remember wsX5_remember 1 25 [.ref M] H0 (q_X5_remember g H0 M σ f x0 x2 x3 x4 x5 x14 sn hi dy) := by
  refine j_of (cc := cX5_remember) (n := 1) (ret := none) (by decide) rfl (Nat.le_of_ble_eq_true rfl) ?_
  intro p e s m below meth c hx hb hr hml hown hts hlocks hname hH hw ls hl
  have hl : lv_has ls 1 [(0, .ref M)] := hl
  have hinX5 : ∀ w ∈ u_ws RX5 TX5 16, w ∈ wsX5_remember := by decide +kernel
  have hf : jF3 M (M + 5) M H0 H0 := jF3.rf
  refine lv_aload_n hx hb dX5_remember_0 rfl (lv_at hl 0 rfl) ?_
  refine j_get (T := TX5) (N := 16) (k := 10) hx hb hts hinX5 hown hw hO rfl (by decide) (hts (.fieldLink RX5 45 "NightTrainsModel" "acts" "I") (by decide +kernel)) rfl dX5_remember_1 ?_
  refine lv_bipush (v := (nI (14))) hx hb dX5_remember_4 (by decide) ?_
  refine jn_ne (tgt := 37) hx hb dX5_remember_6 (by decide) (by omega) (by omega) (fun c6 => ?_) (fun c6 => ?_)
  · refine lv_aload_n hx hb dX5_remember_37 rfl (lv_at hl 0 rfl) ?_
    refine j_get (T := TX5) (N := 16) (k := 7) hx hb hts hinX5 hown hw hO rfl (by decide) (hts (.fieldLink RX5 16 "NightTrainsModel" "now" "[I") (by decide +kernel)) rfl dX5_remember_38 ?_
    refine lv_iconst (v := (nI (0))) hx hb dX5_remember_41 (by decide) ?_
    refine lv_aload_n hx hb dX5_remember_42 rfl (lv_at hl 0 rfl) ?_
    refine j_get (T := TX5) (N := 16) (k := 9) hx hb hts hinX5 hown hw hO rfl (by decide) (hts (.fieldLink RX5 22 "NightTrainsModel" "diary" "[I") (by decide +kernel)) rfl dX5_remember_43 ?_
    refine lv_sipush (v := (nI (235))) hx hb dX5_remember_46 (by decide) ?_
    refine lv_aload_n hx hb dX5_remember_49 rfl (lv_at hl 0 rfl) ?_
    refine j_get (T := TX5) (N := 16) (k := 10) hx hb hts hinX5 hown hw hO rfl (by decide) (hts (.fieldLink RX5 45 "NightTrainsModel" "acts" "I") (by decide +kernel)) rfl dX5_remember_50 ?_
    refine j_mulN hx hb dX5_remember_53 ?_
    refine lv_sipush (v := (nI (235))) hx hb dX5_remember_54 (by decide) ?_
    refine j_Sv (n := 5) (As := [.ref (M + 3), .int (nI (0)), .ref (M + 5), .int (nI ((235 * hi.length))), .int (nI (235))]) hx hb hml hown hts hw (c_X5_copyD l g z H0 (M + 3) (0) (M + 5) ((235 * hi.length)) (235) 3290 dy 235 f (by omega) (by omega) hDy hA (by first | assumption | omega) (by first | assumption | omega) (by first | assumption | omega) (by first | assumption | omega)) gX5_remember_X5_copy rfl (by decide +kernel) ⟨Nat.le_of_ble_eq_true rfl, Nat.le_of_ble_eq_true rfl⟩ rfl hl.1 (Nat.le_of_ble_eq_true rfl) ⟨Nat.zero_le _, Nat.zero_le _⟩ dX5_remember_57 (fun H locs hr1 hw hsz => ?_) rfl
    obtain ⟨hDy, hf2⟩ := hr1
    obtain ⟨f2, ef2⟩ : ∃ y9, y9 = va_cpy f dy (0) ((235 * hi.length)) (235) := ⟨_, rfl⟩
    rw [← ef2] at hDy
    have hO := hO.kept (hf2.2 _ (by omega))
    have hA := hA.kept (hf2.2 _ (by omega))
    have hf := hf.step hf2 (by omega)
    refine lv_aload_n hx hb dX5_remember_60 rfl (lv_at hl 0 rfl) ?_
    refine lv_dup hx hb dX5_remember_61 rfl ?_
    refine j_get (T := TX5) (N := 16) (k := 10) hx hb hts hinX5 hown hw hO rfl (by decide) (hts (.fieldLink RX5 45 "NightTrainsModel" "acts" "I") (by decide +kernel)) rfl dX5_remember_62 ?_
    refine lv_iconst (v := (nI (1))) hx hb dX5_remember_65 (by decide) ?_
    refine j_addN hx hb dX5_remember_66 ?_
    refine j_put (T := TX5) (N := 16) (k := 10) (ty := .int) hx hb hts hinX5 tyX5 tyX5_ok nmX5 hown hw hO hzM rfl (by decide) (hts (.fieldLink RX5 45 "NightTrainsModel" "acts" "I") (by decide +kernel)) rfl (by decide +kernel) rfl rfl (Nat.le_of_ble_eq_true rfl) dX5_remember_67 (fun H locs hw hO oq hsz => ?_)
    have hO : jO g H M 5 [.int _, .ref _, .int _, .int _, .int _, .int _, .ref _, .ref _, .ref _, .ref _, .int _, .ref _, .ref _, .ref _, .int _, .int _] := hO
    have hA := hA.kept (oq _ (by omega))
    have hDy := hDy.kept (oq _ (by omega))
    have hf := hf.put oq hsz (by omega)
    refine j_vret hx hb hr hlocks hH hw dX5_remember_70 ?_
    have hl9 := (pushH_len (σ := σ) hhi).2
    have hD9 : Dia f2 (pushH hi σ) := by
      rw [ef2]
      unfold pushH
      rw [if_neg c6]
      exact Dia_push hd hR hN
    rw [if_neg c6] at hl9
    rw [show (hi.length + 1) = (pushH hi σ).length by omega] at hO
    exact ⟨rfl, hO, _, hDy, hD9, hf⟩
  · refine lv_aload_n hx hb dX5_remember_9 rfl (lv_at hl 0 rfl) ?_
    refine j_get (T := TX5) (N := 16) (k := 9) hx hb hts hinX5 hown hw hO rfl (by decide) (hts (.fieldLink RX5 22 "NightTrainsModel" "diary" "[I") (by decide +kernel)) rfl dX5_remember_10 ?_
    refine lv_sipush (v := (nI (235))) hx hb dX5_remember_13 (by decide) ?_
    refine lv_aload_n hx hb dX5_remember_16 rfl (lv_at hl 0 rfl) ?_
    refine j_get (T := TX5) (N := 16) (k := 9) hx hb hts hinX5 hown hw hO rfl (by decide) (hts (.fieldLink RX5 22 "NightTrainsModel" "diary" "[I") (by decide +kernel)) rfl dX5_remember_17 ?_
    refine lv_iconst (v := (nI (0))) hx hb dX5_remember_20 (by decide) ?_
    refine lv_sipush (v := (nI (3055))) hx hb dX5_remember_21 (by decide) ?_
    refine j_Sv (n := 5) (As := [.ref (M + 5), .int (nI (235)), .ref (M + 5), .int (nI (0)), .int (nI (3055))]) hx hb hml hown hts hw (c_X5_copyS l g z H0 (M + 5) (235) (0) (3055) 3290 dy (by omega) hDy (by first | assumption | omega) (by first | assumption | omega) (by first | assumption | omega)) gX5_remember_X5_copy rfl (by decide +kernel) ⟨Nat.le_of_ble_eq_true rfl, Nat.le_of_ble_eq_true rfl⟩ rfl hl.1 (Nat.le_of_ble_eq_true rfl) ⟨Nat.zero_le _, Nat.zero_le _⟩ dX5_remember_24 (fun H locs hr3 hw hsz => ?_) rfl
    obtain ⟨hDy, hf2⟩ := hr3
    obtain ⟨f4, ef4⟩ : ∃ y9, y9 = va_cpy dy dy (235) (0) (3055) := ⟨_, rfl⟩
    rw [← ef4] at hDy
    have hO := hO.kept (hf2.2 _ (by omega))
    have hA := hA.kept (hf2.2 _ (by omega))
    have hf := hf.step hf2 (by omega)
    refine lv_aload_n hx hb dX5_remember_27 rfl (lv_at hl 0 rfl) ?_
    refine lv_dup hx hb dX5_remember_28 rfl ?_
    refine j_get (T := TX5) (N := 16) (k := 10) hx hb hts hinX5 hown hw hO rfl (by decide) (hts (.fieldLink RX5 45 "NightTrainsModel" "acts" "I") (by decide +kernel)) rfl dX5_remember_29 ?_
    refine lv_iconst (v := (nI (1))) hx hb dX5_remember_32 (by decide) ?_
    refine j_subN hx hb (by omega) dX5_remember_33 ?_
    refine j_put (T := TX5) (N := 16) (k := 10) (ty := .int) hx hb hts hinX5 tyX5 tyX5_ok nmX5 hown hw hO hzM rfl (by decide) (hts (.fieldLink RX5 45 "NightTrainsModel" "acts" "I") (by decide +kernel)) rfl (by decide +kernel) rfl rfl (Nat.le_of_ble_eq_true rfl) dX5_remember_34 (fun H locs hw hO oq hsz => ?_)
    have hO : jO g H M 5 [.int _, .ref _, .int _, .int _, .int _, .int _, .ref _, .ref _, .ref _, .ref _, .int _, .ref _, .ref _, .ref _, .int _, .int _] := hO
    have hA := hA.kept (oq _ (by omega))
    have hDy := hDy.kept (oq _ (by omega))
    have hf := hf.put oq hsz (by omega)
    refine lv_aload_n hx hb dX5_remember_37 rfl (lv_at hl 0 rfl) ?_
    refine j_get (T := TX5) (N := 16) (k := 7) hx hb hts hinX5 hown hw hO rfl (by decide) (hts (.fieldLink RX5 16 "NightTrainsModel" "now" "[I") (by decide +kernel)) rfl dX5_remember_38 ?_
    refine lv_iconst (v := (nI (0))) hx hb dX5_remember_41 (by decide) ?_
    refine lv_aload_n hx hb dX5_remember_42 rfl (lv_at hl 0 rfl) ?_
    refine j_get (T := TX5) (N := 16) (k := 9) hx hb hts hinX5 hown hw hO rfl (by decide) (hts (.fieldLink RX5 22 "NightTrainsModel" "diary" "[I") (by decide +kernel)) rfl dX5_remember_43 ?_
    refine lv_sipush (v := (nI (235))) hx hb dX5_remember_46 (by decide) ?_
    refine lv_aload_n hx hb dX5_remember_49 rfl (lv_at hl 0 rfl) ?_
    refine j_get (T := TX5) (N := 16) (k := 10) hx hb hts hinX5 hown hw hO rfl (by decide) (hts (.fieldLink RX5 45 "NightTrainsModel" "acts" "I") (by decide +kernel)) rfl dX5_remember_50 ?_
    refine j_mulN hx hb dX5_remember_53 ?_
    refine lv_sipush (v := (nI (235))) hx hb dX5_remember_54 (by decide) ?_
    refine j_Sv (n := 5) (As := [.ref (M + 3), .int (nI (0)), .ref (M + 5), .int (nI ((235 * (hi.length - 1)))), .int (nI (235))]) hx hb hml hown hts hw (c_X5_copyD l g z H (M + 3) (0) (M + 5) ((235 * (hi.length - 1))) (235) 3290 f4 235 f (by omega) (by omega) hDy hA (by first | assumption | omega) (by first | assumption | omega) (by first | assumption | omega) (by first | assumption | omega)) gX5_remember_X5_copy rfl (by decide +kernel) ⟨Nat.le_of_ble_eq_true rfl, Nat.le_of_ble_eq_true rfl⟩ rfl hl.1 (Nat.le_of_ble_eq_true rfl) ⟨Nat.zero_le _, Nat.zero_le _⟩ dX5_remember_57 (fun H locs hr5 hw hsz => ?_) rfl
    obtain ⟨hDy, hf2⟩ := hr5
    obtain ⟨f6, ef6⟩ : ∃ y9, y9 = va_cpy f f4 (0) ((235 * (hi.length - 1))) (235) := ⟨_, rfl⟩
    rw [← ef6] at hDy
    have hO := hO.kept (hf2.2 _ (by omega))
    have hA := hA.kept (hf2.2 _ (by omega))
    have hf := hf.step hf2 (by omega)
    refine lv_aload_n hx hb dX5_remember_60 rfl (lv_at hl 0 rfl) ?_
    refine lv_dup hx hb dX5_remember_61 rfl ?_
    refine j_get (T := TX5) (N := 16) (k := 10) hx hb hts hinX5 hown hw hO rfl (by decide) (hts (.fieldLink RX5 45 "NightTrainsModel" "acts" "I") (by decide +kernel)) rfl dX5_remember_62 ?_
    refine lv_iconst (v := (nI (1))) hx hb dX5_remember_65 (by decide) ?_
    refine j_addN hx hb dX5_remember_66 ?_
    refine j_put (T := TX5) (N := 16) (k := 10) (ty := .int) hx hb hts hinX5 tyX5 tyX5_ok nmX5 hown hw hO hzM rfl (by decide) (hts (.fieldLink RX5 45 "NightTrainsModel" "acts" "I") (by decide +kernel)) rfl (by decide +kernel) rfl rfl (Nat.le_of_ble_eq_true rfl) dX5_remember_67 (fun H locs hw hO oq hsz => ?_)
    have hO : jO g H M 5 [.int _, .ref _, .int _, .int _, .int _, .int _, .ref _, .ref _, .ref _, .ref _, .int _, .ref _, .ref _, .ref _, .int _, .int _] := hO
    have hA := hA.kept (oq _ (by omega))
    have hDy := hDy.kept (oq _ (by omega))
    have hf := hf.put oq hsz (by omega)
    refine j_vret hx hb hr hlocks hH hw dX5_remember_70 ?_
    have hl9 := (pushH_len (σ := σ) hhi).2
    have hD9 : Dia f6 (pushH hi σ) := by
      rw [ef6, ef4]
      unfold pushH
      rw [if_pos c6]
      have h9 := Dia_push (Dia_tail hd c6) hR hN
      rw [List.length_tail] at h9
      exact h9
    rw [if_pos c6] at hl9
    rw [show ((hi.length - 1) + 1) = (pushH hi σ).length by omega] at hO
    exact ⟨rfl, hO, _, hDy, hD9, hf⟩

abbrev q_X5_tryIt (g : jG) (H0 : Heap) (M : Nat) (σ : Sg) (f : Nat → Int32) (ft : Nat → Int32) (x0 : Int32) (x2 : Int32) (x3 : Int32) (x4 : Int32) (x5 : Int32) (x10 : Int32) (x14 : Int32) (sn : Bool) : Option Value → Heap → Prop := jV (fun H1 => rTo g (M + 4) σ H0 H1)
set_option maxHeartbeats 4000000 in
set_option maxRecDepth 100000 in
theorem c_X5_tryIt (l : Launch) (g : jG) (z : Nat) (H0 : Heap) (M : Nat) (σ : Sg) (f : Nat → Int32) (ft : Nat → Int32) (x0 : Int32) (x2 : Int32) (x3 : Int32) (x4 : Int32) (x5 : Int32) (x10 : Int32) (x14 : Int32) (sn : Bool) (hzM : z ≤ M) (hTr : jI g H0 (M + 4) 235 ft) (hO : jO g H0 M 5 [.int x0, .ref (M + 1), .int x2, .int x3, .int x4, .int x5, .ref (M + 2), .ref (M + 3), .ref (M + 4), .ref (M + 5), .int x10, .ref (M + 6), .ref (M + 7), .ref (M + 8), .int x14, .int (bI sn)]) (hA : jI g H0 (M + 3) 235 f) (hR : Row f σ) (hs : okS σ) : jM l g z yX5_tryIt wsX5_tryIt 1 25 [.ref M] H0 (q_X5_tryIt g H0 M σ f ft x0 x2 x3 x4 x5 x10 x14 sn) := by
  refine j_of (cc := cX5_tryIt) (n := 1) (ret := none) (by decide) rfl (Nat.le_of_ble_eq_true rfl) ?_
  intro p e s m below meth c hx hb hr hml hown hts hlocks hname hH hw ls hl
  have hl : lv_has ls 1 [(0, .ref M)] := hl
  have hinX5 : ∀ w ∈ u_ws RX5 TX5 16, w ∈ wsX5_tryIt := by decide +kernel
  have hf : jF (M + 4) 1 H0 H0 := jF.rf
  refine lv_aload_n hx hb dX5_tryIt_0 rfl (lv_at hl 0 rfl) ?_
  refine j_get (T := TX5) (N := 16) (k := 7) hx hb hts hinX5 hown hw hO rfl (by decide) (hts (.fieldLink RX5 16 "NightTrainsModel" "now" "[I") (by decide +kernel)) rfl dX5_tryIt_1 ?_
  refine lv_iconst (v := (nI (0))) hx hb dX5_tryIt_4 (by decide) ?_
  refine lv_aload_n hx hb dX5_tryIt_5 rfl (lv_at hl 0 rfl) ?_
  refine j_get (T := TX5) (N := 16) (k := 8) hx hb hts hinX5 hown hw hO rfl (by decide) (hts (.fieldLink RX5 19 "NightTrainsModel" "trial" "[I") (by decide +kernel)) rfl dX5_tryIt_6 ?_
  refine lv_iconst (v := (nI (0))) hx hb dX5_tryIt_9 (by decide) ?_
  refine lv_sipush (v := (nI (235))) hx hb dX5_tryIt_10 (by decide) ?_
  refine j_Sv (n := 5) (As := [.ref (M + 3), .int (nI (0)), .ref (M + 4), .int (nI (0)), .int (nI (235))]) hx hb hml hown hts hw (c_X5_copyD l g z H0 (M + 3) (0) (M + 4) (0) (235) 235 ft 235 f (by omega) (by omega) hTr hA (by first | assumption | omega) (by first | assumption | omega) (by first | assumption | omega) (by first | assumption | omega)) gX5_tryIt_X5_copy rfl (by decide +kernel) ⟨Nat.le_of_ble_eq_true rfl, Nat.le_of_ble_eq_true rfl⟩ rfl hl.1 (Nat.le_of_ble_eq_true rfl) ⟨Nat.zero_le _, Nat.zero_le _⟩ dX5_tryIt_13 (fun H locs hr1 hw hsz => ?_) rfl
  obtain ⟨hTr, hf2⟩ := hr1
  obtain ⟨f2, ef2⟩ : ∃ y9, y9 = va_cpy f ft (0) (0) (235) := ⟨_, rfl⟩
  rw [← ef2] at hTr
  have hO := hO.kept (hf2.2 _ (by omega))
  have hA := hA.kept (hf2.2 _ (by omega))
  have hf := hf.step hf2 (by omega)
  refine j_vret hx hb hr hlocks hH hw dX5_tryIt_16 ?_
  rw [ef2] at hTr
  exact ⟨rfl, ⟨_, hTr, Row.cpy0 hs hR⟩, hs, hf⟩

abbrev q_X5_held (g : jG) (H0 : Heap) (M : Nat) (σ : Sg) (f : Nat → Int32) (x0 : Int32) (x2 : Int32) (x3 : Int32) (x4 : Int32) (x5 : Int32) (x10 : Int32) (x14 : Int32) (sn : Bool) : Option Value → Heap → Prop := jN (fun r H1 => H1 = H0 ∧ (r = nI (hsum σ.2.2.1 16)))
set_option maxHeartbeats 4000000 in
set_option maxRecDepth 100000 in
theorem c_X5_held (l : Launch) (g : jG) (z : Nat) (H0 : Heap) (M : Nat) (σ : Sg) (f : Nat → Int32) (x0 : Int32) (x2 : Int32) (x3 : Int32) (x4 : Int32) (x5 : Int32) (x10 : Int32) (x14 : Int32) (sn : Bool) (hO : jO g H0 M 5 [.int x0, .ref (M + 1), .int x2, .int x3, .int x4, .int x5, .ref (M + 2), .ref (M + 3), .ref (M + 4), .ref (M + 5), .int x10, .ref (M + 6), .ref (M + 7), .ref (M + 8), .int x14, .int (bI sn)]) (hA : jI g H0 (M + 3) 235 f) (hR : Row f σ) (hs : okS σ) : jM l g z yX5_held wsX5_held 2 44 [.ref M] H0 (q_X5_held g H0 M σ f x0 x2 x3 x4 x5 x10 x14 sn) := by
  refine j_of (cc := cX5_held) (n := 3) (ret := some .int) (by decide) rfl (Nat.le_of_ble_eq_true rfl) ?_
  intro p e s m below meth c hx hb hr hml hown hts hlocks hname hH hw ls hl
  have hl : lv_has ls 3 [(0, .ref M)] := hl
  have hinX5 : ∀ w ∈ u_ws RX5 TX5 16, w ∈ wsX5_held := by decide +kernel
  refine lv_iconst (v := (nI (0))) hx hb dX5_held_0 (by decide) ?_
  refine lv_istore_n (lv' := [(1, .int _), (0, .ref _)]) hx hb dX5_held_1 rfl hl (by decide) rfl (fun ls hl => ?_)
  refine lv_iconst (v := (nI (0))) hx hb dX5_held_2 (by decide) ?_
  refine lv_istore_n (lv' := [(2, .int _), (1, .int _), (0, .ref _)]) hx hb dX5_held_3 rfl hl (by decide) rfl (fun ls hl => ?_)
  have lp4 : ∀ (n4 : Nat) (k : Nat) (hk : k ≤ 16) (hmu4 : 16 - k < n4) (locs : List Loc) (hw : jW g z s H0 locs) (ls : Array Slot) (hl : lv_has ls 3 [(0, .ref M), (1, .int (nI (hsum σ.2.2.1 k))), (2, .int (nI (k)))]), jK p l e 2 44 s m [.ref M] below meth c z H0 (q_X5_held g H0 M σ f x0 x2 x3 x4 x5 x10 x14 sn) H0 locs (F0 m 4 ls []) := by
    intro n4
    induction n4 with
    | zero => intros; omega
    | succ n4 ih4 =>
      intro k hk hmu4 locs hw  ls hl
      refine lv_iload_n hx hb dX5_held_4 rfl (lv_at hl 2 rfl) ?_
      refine lv_bipush (v := (nI (16))) hx hb dX5_held_5 (by decide) ?_
      refine jn_ge (tgt := 27) hx hb dX5_held_7 (by decide) (by omega) (by omega) (fun c7 => ?_) (fun c7 => ?_)
      · have hk9 : k = 16 := by omega
        subst hk9
        refine lv_iload_n hx hb dX5_held_27 rfl (lv_at hl 1 rfl) ?_
        refine j_iret hx hb hr hlocks hH hw dX5_held_28 ?_
        exact ⟨_, rfl, rfl, rfl⟩
      · refine lv_iload_n hx hb dX5_held_10 rfl (lv_at hl 1 rfl) ?_
        refine lv_aload_n hx hb dX5_held_11 rfl (lv_at hl 0 rfl) ?_
        refine j_get (T := TX5) (N := 16) (k := 7) hx hb hts hinX5 hown hw hO rfl (by decide) (hts (.fieldLink RX5 16 "NightTrainsModel" "now" "[I") (by decide +kernel)) rfl dX5_held_12 ?_
        refine lv_iload_n hx hb dX5_held_15 rfl (lv_at hl 2 rfl) ?_
        refine j_Sp (n := 2) (As := [.ref (M + 3), .int (nI (k))]) hx hb hml hown hts hw (c_X5_feesOf l g z H0 (M + 3) (k) (σ) f  hA hR hs (by first | assumption | omega)) gX5_held_X5_feesOf rfl (by decide +kernel) ⟨Nat.le_of_ble_eq_true rfl, Nat.le_of_ble_eq_true rfl⟩ rfl hl.1 (Nat.le_of_ble_eq_true rfl) ⟨Nat.zero_le _, Nat.zero_le _⟩ dX5_held_16 (fun r1 locs hr1 hw => ?_) rfl
        obtain rfl : r1 = (nI (fsum (k) (σ).2.2.1)) := hr1
        refine j_addN hx hb dX5_held_19 ?_
        refine lv_istore_n (lv' := [(1, .int _), (0, .ref _), (2, .int _)]) hx hb dX5_held_20 rfl hl (by decide) rfl (fun ls hl => ?_)
        refine lv_iinc (v := nI (k + 1)) (lv' := [(2, .int _), (1, .int _), (0, .ref _)]) hx hb dX5_held_21 hl (k := 2) rfl (nI_add _ 1) (by decide) rfl (fun ls hl => ?_)
        refine lv_goto (tgt := 4) hx hb dX5_held_24 (by decide) ?_
        exact ih4  (k + 1) (by first | assumption | omega) (by omega) _ hw _ (lv_sub hl [2, 1, 0] rfl)
  exact lp4 (16 - (0) + 1) (0) (by first | assumption | omega) (by omega) _ hw _ (lv_sub hl [2, 1, 0] rfl)

abbrev q_X5_openOf (g : jG) (H0 : Heap) (M : Nat) (cu : Nat) (σ : Sg) (f : Nat → Int32) (x0 : Int32) (x2 : Int32) (x3 : Int32) (x4 : Int32) (x5 : Int32) (x10 : Int32) (x14 : Int32) (sn : Bool) : Option Value → Heap → Prop := jN (fun r H1 => H1 = H0 ∧ (r = nI (ocnt 0 cu σ.2.2.1)))
set_option maxHeartbeats 4000000 in
set_option maxRecDepth 100000 in
theorem c_X5_openOf (l : Launch) (g : jG) (z : Nat) (H0 : Heap) (M : Nat) (cu : Nat) (σ : Sg) (f : Nat → Int32) (x0 : Int32) (x2 : Int32) (x3 : Int32) (x4 : Int32) (x5 : Int32) (x10 : Int32) (x14 : Int32) (sn : Bool) (hO : jO g H0 M 5 [.int x0, .ref (M + 1), .int x2, .int x3, .int x4, .int x5, .ref (M + 2), .ref (M + 3), .ref (M + 4), .ref (M + 5), .int x10, .ref (M + 6), .ref (M + 7), .ref (M + 8), .int x14, .int (bI sn)]) (hA : jI g H0 (M + 3) 235 f) (hR : Row f σ) (hs : okS σ) (hcu : cu < 4) : jM l g z yX5_openOf wsX5_openOf 1 21 [.ref M, .int (nI (cu))] H0 (q_X5_openOf g H0 M cu σ f x0 x2 x3 x4 x5 x10 x14 sn) := by
  refine j_of (cc := cX5_openOf) (n := 4) (ret := some .int) (by decide) rfl (Nat.le_of_ble_eq_true rfl) ?_
  intro p e s m below meth c hx hb hr hml hown hts hlocks hname hH hw ls hl
  have hl : lv_has ls 4 [(0, .ref M), (1, .int (nI (cu)))] := hl
  have hinX5 : ∀ w ∈ u_ws RX5 TX5 16, w ∈ wsX5_openOf := by decide +kernel
  have hn := hs.2.2.1
  refine lv_iconst (v := (nI (0))) hx hb dX5_openOf_0 (by decide) ?_
  refine lv_istore_n (lv' := [(2, .int _), (0, .ref _), (1, .int _)]) hx hb dX5_openOf_1 rfl hl (by decide) rfl (fun ls hl => ?_)
  refine lv_iconst (v := (nI (0))) hx hb dX5_openOf_2 (by decide) ?_
  refine lv_istore_n (lv' := [(3, .int _), (2, .int _), (0, .ref _), (1, .int _)]) hx hb dX5_openOf_3 rfl hl (by decide) rfl (fun ls hl => ?_)
  have lp4 : ∀ (n4 : Nat) (k : Nat) (hk : k ≤ σ.2.2.1.length) (hmu4 : σ.2.2.1.length - k < n4) (locs : List Loc) (hw : jW g z s H0 locs) (ls : Array Slot) (hl : lv_has ls 4 [(0, .ref M), (1, .int (nI (cu))), (2, .int (nI (ocnt 0 cu (σ.2.2.1.take k)))), (3, .int (nI (k)))]), jK p l e 1 21 s m [.ref M, .int (nI (cu))] below meth c z H0 (q_X5_openOf g H0 M cu σ f x0 x2 x3 x4 x5 x10 x14 sn) H0 locs (F0 m 4 ls []) := by
    intro n4
    induction n4 with
    | zero => intros; omega
    | succ n4 ih4 =>
      intro k hk hmu4 locs hw  ls hl
      refine lv_iload_n hx hb dX5_openOf_4 rfl (lv_at hl 3 rfl) ?_
      refine lv_aload_n hx hb dX5_openOf_5 rfl (lv_at hl 0 rfl) ?_
      refine j_get (T := TX5) (N := 16) (k := 7) hx hb hts hinX5 hown hw hO rfl (by decide) (hts (.fieldLink RX5 16 "NightTrainsModel" "now" "[I") (by decide +kernel)) rfl dX5_openOf_6 ?_
      refine lv_bipush (v := (nI (6))) hx hb dX5_openOf_9 (by decide) ?_
      refine j_iald hx hb hw hA (k := 6) rfl (by omega) (by omega) dX5_openOf_11 ?_
      refine j_eq (y := nI (σ.2.2.1.length)) hR.2.2.1 ?_
      refine jn_ge (tgt := 43) hx hb dX5_openOf_12 (by decide) (by omega) (by omega) (fun c12 => ?_) (fun c12 => ?_)
      · refine lv_iload_n hx hb dX5_openOf_43 rfl (lv_at hl 2 rfl) ?_
        refine j_iret hx hb hr hlocks hH hw dX5_openOf_44 ?_
        have hk9 : k = σ.2.2.1.length := by omega
        subst hk9
        exact ⟨_, rfl, rfl, by rw [List.take_length]⟩
      · obtain ⟨o, ho⟩ := getO (L := σ.2.2.1) (k := k) (by omega)
        have hoo := hs.2.2.2.1 o (memO ho)
        have ho0 := hoo.1
        refine lv_iload_n hx hb dX5_openOf_15 rfl (lv_at hl 2 rfl) ?_
        refine lv_aload_n hx hb dX5_openOf_16 rfl (lv_at hl 0 rfl) ?_
        refine j_get (T := TX5) (N := 16) (k := 7) hx hb hts hinX5 hown hw hO rfl (by decide) (hts (.fieldLink RX5 16 "NightTrainsModel" "now" "[I") (by decide +kernel)) rfl dX5_openOf_17 ?_
        refine lv_iload_n hx hb dX5_openOf_20 rfl (lv_at hl 3 rfl) ?_
        refine lv_iconst (v := (nI (0))) hx hb dX5_openOf_21 (by decide) ?_
        refine j_Sp (n := 2) (As := [.int (nI (k)), .int (nI (0))]) hx hb hml hown hts hw (c_X5_at l g z H0 (k) (0)   ) gX5_openOf_X5_at rfl (by decide +kernel) ⟨Nat.le_of_ble_eq_true rfl, Nat.le_of_ble_eq_true rfl⟩ rfl hl.1 (Nat.le_of_ble_eq_true rfl) ⟨Nat.zero_le _, Nat.zero_le _⟩ dX5_openOf_22 (fun r1 locs hr1 hw => ?_) rfl
        obtain rfl : r1 = (nI (109 + 6 * (k) + (0))) := hr1
        refine j_iald hx hb hw hA (k := 109 + 6 * (k) + (0)) rfl (by omega) (by omega) dX5_openOf_25 ?_
        refine j_eq (y := nI (o 0)) (hR.o ho 0 (by omega) (by omega)) ?_
        refine lv_iload_n hx hb dX5_openOf_26 rfl (lv_at hl 1 rfl) ?_
        refine jn_ne (tgt := 34) hx hb dX5_openOf_27 (by decide) (by omega) (by omega) (fun c27 => ?_) (fun c27 => ?_)
        · refine lv_iconst (v := (nI (0))) hx hb dX5_openOf_34 (by decide) ?_
          refine j_addN hx hb dX5_openOf_35 ?_
          refine lv_istore_n (lv' := [(2, .int _), (0, .ref _), (1, .int _), (3, .int _)]) hx hb dX5_openOf_36 rfl hl (by decide) rfl (fun ls hl => ?_)
          rw [show (ocnt 0 cu (σ.2.2.1.take k) + 0) = ocnt 0 cu (σ.2.2.1.take (k + 1)) from (by rw [ocnt_take ho]; simp only [c27, if_true, if_false, Nat.add_zero])] at hl
          refine lv_iinc (v := nI (k + 1)) (lv' := [(3, .int _), (2, .int _), (0, .ref _), (1, .int _)]) hx hb dX5_openOf_37 hl (k := 3) rfl (nI_add _ 1) (by decide) rfl (fun ls hl => ?_)
          refine lv_goto (tgt := 4) hx hb dX5_openOf_40 (by decide) ?_
          exact ih4  (k + 1) (by first | assumption | omega) (by omega) _ hw _ (lv_sub hl [2, 3, 1, 0] rfl)
        · refine lv_iconst (v := (nI (1))) hx hb dX5_openOf_30 (by decide) ?_
          refine lv_goto (tgt := 35) hx hb dX5_openOf_31 (by decide) ?_
          refine j_addN hx hb dX5_openOf_35 ?_
          refine lv_istore_n (lv' := [(2, .int _), (0, .ref _), (1, .int _), (3, .int _)]) hx hb dX5_openOf_36 rfl hl (by decide) rfl (fun ls hl => ?_)
          rw [show (ocnt 0 cu (σ.2.2.1.take k) + 1) = ocnt 0 cu (σ.2.2.1.take (k + 1)) from (by rw [ocnt_take ho]; simp only [c27, if_true, if_false, Nat.add_zero])] at hl
          refine lv_iinc (v := nI (k + 1)) (lv' := [(3, .int _), (2, .int _), (0, .ref _), (1, .int _)]) hx hb dX5_openOf_37 hl (k := 3) rfl (nI_add _ 1) (by decide) rfl (fun ls hl => ?_)
          refine lv_goto (tgt := 4) hx hb dX5_openOf_40 (by decide) ?_
          exact ih4  (k + 1) (by first | assumption | omega) (by omega) _ hw _ (lv_sub hl [2, 3, 1, 0] rfl)
  exact lp4 (σ.2.2.1.length - (0) + 1) (0) (by first | assumption | omega) (by omega) _ hw _ (lv_sub hl [2, 3, 1, 0] rfl)

abbrev q_X5_least (g : jG) (H0 : Heap) (w : Nat) : Option Value → Heap → Prop := jN (fun r H1 => H1 = H0 ∧ (r = nI (loS w)))
set_option maxHeartbeats 4000000 in
set_option maxRecDepth 100000 in
theorem c_X5_least (l : Launch) (g : jG) (z : Nat) (H0 : Heap) (w : Nat) (hw5 : w < 5) : jM l g z yX5_least wsX5_least 0 0 [.int (nI (w))] H0 (q_X5_least g H0 w) := by
  refine j_of (cc := cX5_least) (n := 1) (ret := some .int) (by decide) rfl (Nat.le_of_ble_eq_true rfl) ?_
  intro p e s m below meth c hx hb hr hml hown hts hlocks hname hH hw ls hl
  have hl : lv_has ls 1 [(0, .int (nI (w)))] := hl
  refine lv_iload_n hx hb dX5_least_0 rfl (lv_at hl 0 rfl) ?_
  refine jz_eq (tgt := 9) hx hb dX5_least_1 (by decide) (by omega) (fun c1 => ?_) (fun c1 => ?_)
  · refine lv_iconst (v := (nI (0))) hx hb dX5_least_9 (by decide) ?_
    refine lv_goto (tgt := 14) hx hb dX5_least_10 (by decide) ?_
    refine j_iret hx hb hr hlocks hH hw dX5_least_14 ?_
    have hw9 : w = 0 ∨ w = 1 ∨ w = 2 ∨ w = 3 ∨ w = 4 := by omega
    have e9 : nI 0 = nI (loS w) := by
      rcases hw9 with rfl | rfl | rfl | rfl | rfl <;> first | rfl | (exfalso; omega)
    exact ⟨_, rfl, rfl, e9⟩
  · refine lv_iload_n hx hb dX5_least_4 rfl (lv_at hl 0 rfl) ?_
    refine lv_iconst (v := (nI (4))) hx hb dX5_least_5 (by decide) ?_
    refine jn_ne (tgt := 13) hx hb dX5_least_6 (by decide) (by omega) (by omega) (fun c6 => ?_) (fun c6 => ?_)
    · refine lv_iconst (v := (nI (1))) hx hb dX5_least_13 (by decide) ?_
      refine j_iret hx hb hr hlocks hH hw dX5_least_14 ?_
      have hw9 : w = 0 ∨ w = 1 ∨ w = 2 ∨ w = 3 ∨ w = 4 := by omega
      have e9 : nI 1 = nI (loS w) := by
        rcases hw9 with rfl | rfl | rfl | rfl | rfl <;> first | rfl | (exfalso; omega)
      exact ⟨_, rfl, rfl, e9⟩
    · refine lv_iconst (v := (nI (0))) hx hb dX5_least_9 (by decide) ?_
      refine lv_goto (tgt := 14) hx hb dX5_least_10 (by decide) ?_
      refine j_iret hx hb hr hlocks hH hw dX5_least_14 ?_
      have hw9 : w = 0 ∨ w = 1 ∨ w = 2 ∨ w = 3 ∨ w = 4 := by omega
      have e9 : nI 0 = nI (loS w) := by
        rcases hw9 with rfl | rfl | rfl | rfl | rfl <;> first | rfl | (exfalso; omega)
      exact ⟨_, rfl, rfl, e9⟩

abbrev q_X5_most (g : jG) (H0 : Heap) (w : Nat) : Option Value → Heap → Prop := jN (fun r H1 => H1 = H0 ∧ (r = nI (hiS w)))
set_option maxHeartbeats 4000000 in
set_option maxRecDepth 100000 in
theorem c_X5_most (l : Launch) (g : jG) (z : Nat) (H0 : Heap) (w : Nat) (hw5 : w < 5) : jM l g z yX5_most wsX5_most 0 0 [.int (nI (w))] H0 (q_X5_most g H0 w) := by
  refine j_of (cc := cX5_most) (n := 1) (ret := some .int) (by decide) rfl (Nat.le_of_ble_eq_true rfl) ?_
  intro p e s m below meth c hx hb hr hml hown hts hlocks hname hH hw ls hl
  have hl : lv_has ls 1 [(0, .int (nI (w)))] := hl
  refine lv_iload_n hx hb dX5_most_0 rfl (lv_at hl 0 rfl) ?_
  refine jz_ne (tgt := 8) hx hb dX5_most_1 (by decide) (by omega) (fun c1 => ?_) (fun c1 => ?_)
  · refine lv_iload_n hx hb dX5_most_8 rfl (lv_at hl 0 rfl) ?_
    refine lv_iconst (v := (nI (1))) hx hb dX5_most_9 (by decide) ?_
    refine jn_ne (tgt := 18) hx hb dX5_most_10 (by decide) (by omega) (by omega) (fun c10 => ?_) (fun c10 => ?_)
    · refine lv_iload_n hx hb dX5_most_18 rfl (lv_at hl 0 rfl) ?_
      refine lv_iconst (v := (nI (4))) hx hb dX5_most_19 (by decide) ?_
      refine jn_ne (tgt := 27) hx hb dX5_most_20 (by decide) (by omega) (by omega) (fun c20 => ?_) (fun c20 => ?_)
      · refine lv_bipush (v := (nI (9))) hx hb dX5_most_27 (by decide) ?_
        refine j_iret hx hb hr hlocks hH hw dX5_most_29 ?_
        have hw9 : w = 0 ∨ w = 1 ∨ w = 2 ∨ w = 3 ∨ w = 4 := by omega
        have e9 : nI 9 = nI (hiS w) := by
          rcases hw9 with rfl | rfl | rfl | rfl | rfl <;> first | rfl | (exfalso; omega)
        exact ⟨_, rfl, rfl, e9⟩
      · refine lv_iconst (v := (nI (2))) hx hb dX5_most_23 (by decide) ?_
        refine lv_goto (tgt := 29) hx hb dX5_most_24 (by decide) ?_
        refine j_iret hx hb hr hlocks hH hw dX5_most_29 ?_
        have hw9 : w = 0 ∨ w = 1 ∨ w = 2 ∨ w = 3 ∨ w = 4 := by omega
        have e9 : nI 2 = nI (hiS w) := by
          rcases hw9 with rfl | rfl | rfl | rfl | rfl <;> first | rfl | (exfalso; omega)
        exact ⟨_, rfl, rfl, e9⟩
    · refine lv_bipush (v := (nI (6))) hx hb dX5_most_13 (by decide) ?_
      refine lv_goto (tgt := 29) hx hb dX5_most_15 (by decide) ?_
      refine j_iret hx hb hr hlocks hH hw dX5_most_29 ?_
      have hw9 : w = 0 ∨ w = 1 ∨ w = 2 ∨ w = 3 ∨ w = 4 := by omega
      have e9 : nI 6 = nI (hiS w) := by
        rcases hw9 with rfl | rfl | rfl | rfl | rfl <;> first | rfl | (exfalso; omega)
      exact ⟨_, rfl, rfl, e9⟩
  · refine lv_iconst (v := (nI (4))) hx hb dX5_most_4 (by decide) ?_
    refine lv_goto (tgt := 29) hx hb dX5_most_5 (by decide) ?_
    refine j_iret hx hb hr hlocks hH hw dX5_most_29 ?_
    have hw9 : w = 0 ∨ w = 1 ∨ w = 2 ∨ w = 3 ∨ w = 4 := by omega
    have e9 : nI 4 = nI (hiS w) := by
      rcases hw9 with rfl | rfl | rfl | rfl | rfl <;> first | rfl | (exfalso; omega)
    exact ⟨_, rfl, rfl, e9⟩

abbrev q_X5_isSetting (g : jG) (H0 : Heap) (x : Int32) (v : Int32) : Option Value → Heap → Prop := jN (fun r H1 => H1 = H0 ∧ ((r = nI 1 ∧ ∃ k u, ix x 0 5 = some k ∧ k < 5 ∧ x = nI k ∧ ix v (loS k) (hiS k + 1) = some u ∧ loS k ≤ u ∧ u < hiS k + 1 ∧ v = nI u) ∨ (r = nI 0 ∧ (ix x 0 5 = none ∨ ∃ k, ix x 0 5 = some k ∧ ix v (loS k) (hiS k + 1) = none))))
set_option maxHeartbeats 4000000 in
set_option maxRecDepth 100000 in
theorem c_X5_isSetting (l : Launch) (g : jG) (z : Nat) (H0 : Heap) (x : Int32) (v : Int32)  : jM l g z yX5_isSetting wsX5_isSetting 1 25 [.int x, .int v] H0 (q_X5_isSetting g H0 x v) := by
  refine j_of (cc := cX5_isSetting) (n := 2) (ret := some .boolean) (by decide) rfl (Nat.le_of_ble_eq_true rfl) ?_
  intro p e s m below meth c hx hb hr hml hown hts hlocks hname hH hw ls hl
  have hl : lv_has ls 2 [(0, .int x), (1, .int v)] := hl
  refine lv_iload_n hx hb dX5_isSetting_0 rfl (lv_at hl 0 rfl) ?_
  refine lv_i2l (v := x.toInt64) hx hb dX5_isSetting_1 rfl ?_
  refine lv_lconst (v := 0) hx hb dX5_isSetting_2 (by decide) ?_
  refine lv_ldc2 (v := 4) hx hb hown (hts (.constantLong RX5 183 (4)) (by decide +kernel)) dX5_isSetting_3 ?_
  refine j_Sp (n := 3) (As := [.long x.toInt64, .long 0, .long 4]) hx hb hml hown hts hw (c_X5_in l g z H0 x.toInt64 0 4   ) gX5_isSetting_X5_in rfl (by decide +kernel) ⟨Nat.le_of_ble_eq_true rfl, Nat.le_of_ble_eq_true rfl⟩ rfl hl.1 (Nat.le_of_ble_eq_true rfl) ⟨Nat.zero_le _, Nat.zero_le _⟩ dX5_isSetting_6 (fun r1 locs hr1 hw => ?_) rfl
  rcases in_ix (x := x) (a := 0) (n := 5) (by decide) (by decide) hr1 with ⟨rfl, k, hk, hka, hkn, rfl⟩ | ⟨rfl, hk⟩
  · refine jz_eq (tgt := 34) hx hb dX5_isSetting_9 (by decide) (by omega) (fun c9 => absurd c9 (by omega)) (fun c9 => ?_)
    have hib : loS k ≤ 1 ∧ hiS k ≤ 9 := by
      have hw9 : k = 0 ∨ k = 1 ∨ k = 2 ∨ k = 3 ∨ k = 4 := by omega
      rcases hw9 with rfl | rfl | rfl | rfl | rfl <;> decide
    refine lv_iload_n hx hb dX5_isSetting_12 rfl (lv_at hl 1 rfl) ?_
    refine lv_i2l (v := v.toInt64) hx hb dX5_isSetting_13 rfl ?_
    refine lv_iload_n hx hb dX5_isSetting_14 rfl (lv_at hl 0 rfl) ?_
    refine j_Sp (n := 1) (As := [.int (nI (k))]) hx hb hml hown hts hw (c_X5_least l g z H0 (k)   (by first | assumption | omega)) gX5_isSetting_X5_least rfl (by decide +kernel) ⟨Nat.le_of_ble_eq_true rfl, Nat.le_of_ble_eq_true rfl⟩ rfl hl.1 (Nat.le_of_ble_eq_true rfl) ⟨Nat.zero_le _, Nat.zero_le _⟩ dX5_isSetting_15 (fun r2 locs hr2 hw => ?_) rfl
    obtain rfl : r2 = (nI (loS (k))) := hr2
    refine lv_i2l (v := (nI (loS (k))).toInt64) hx hb dX5_isSetting_18 rfl ?_
    refine lv_iload_n hx hb dX5_isSetting_19 rfl (lv_at hl 0 rfl) ?_
    refine j_Sp (n := 1) (As := [.int (nI (k))]) hx hb hml hown hts hw (c_X5_most l g z H0 (k)   (by first | assumption | omega)) gX5_isSetting_X5_most rfl (by decide +kernel) ⟨Nat.le_of_ble_eq_true rfl, Nat.le_of_ble_eq_true rfl⟩ rfl hl.1 (Nat.le_of_ble_eq_true rfl) ⟨Nat.zero_le _, Nat.zero_le _⟩ dX5_isSetting_20 (fun r3 locs hr3 hw => ?_) rfl
    obtain rfl : r3 = (nI (hiS (k))) := hr3
    refine lv_i2l (v := (nI (hiS (k))).toInt64) hx hb dX5_isSetting_23 rfl ?_
    refine j_Sp (n := 3) (As := [.long v.toInt64, .long (nI (loS (k))).toInt64, .long (nI (hiS (k))).toInt64]) hx hb hml hown hts hw (c_X5_in l g z H0 v.toInt64 (nI (loS (k))).toInt64 (nI (hiS (k))).toInt64   ) gX5_isSetting_X5_in rfl (by decide +kernel) ⟨Nat.le_of_ble_eq_true rfl, Nat.le_of_ble_eq_true rfl⟩ rfl hl.1 (Nat.le_of_ble_eq_true rfl) ⟨Nat.zero_le _, Nat.zero_le _⟩ dX5_isSetting_24 (fun r4 locs hr4 hw => ?_) rfl
    rcases in_ix (x := v) (a := (loS k)) (n := (hiS k + 1)) (toI64_N (by have := hib; omega)) (by rw [toI64_N (by have := hib; omega)]; rfl) hr4 with ⟨rfl, u, hu, hua, hun, rfl⟩ | ⟨rfl, hu⟩
    · refine jz_eq (tgt := 34) hx hb dX5_isSetting_27 (by decide) (by omega) (fun c27 => absurd c27 (by omega)) (fun c27 => ?_)
      refine lv_iconst (v := (nI (1))) hx hb dX5_isSetting_30 (by decide) ?_
      refine lv_goto (tgt := 35) hx hb dX5_isSetting_31 (by decide) ?_
      refine j_zret hx hb hr hlocks hH hw (Or.inr rfl) dX5_isSetting_35 ?_
      exact ⟨_, rfl, rfl, Or.inl ⟨rfl, k, u, hk, hkn, rfl, hu, hua, hun, rfl⟩⟩
    · refine jz_eq (tgt := 34) hx hb dX5_isSetting_27 (by decide) (by omega) (fun c27 => ?_) (fun c27 => absurd c27 (by omega))
      refine lv_iconst (v := (nI (0))) hx hb dX5_isSetting_34 (by decide) ?_
      refine j_zret hx hb hr hlocks hH hw (Or.inl rfl) dX5_isSetting_35 ?_
      exact ⟨_, rfl, rfl, Or.inr ⟨rfl, Or.inr ⟨k, hk, hu⟩⟩⟩
  · refine jz_eq (tgt := 34) hx hb dX5_isSetting_9 (by decide) (by omega) (fun c9 => ?_) (fun c9 => absurd c9 (by omega))
    refine lv_iconst (v := (nI (0))) hx hb dX5_isSetting_34 (by decide) ?_
    refine j_zret hx hb hr hlocks hH hw (Or.inl rfl) dX5_isSetting_35 ?_
    exact ⟨_, rfl, rfl, Or.inr ⟨rfl, Or.inl hk⟩⟩
