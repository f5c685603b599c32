abbrev q_X4_copyAllF (g : jG) (H0 : Heap) (t5 : Nat) (b1 : Nat) (f : Nat → Int32) : Option Value → Heap → Prop := jV (fun H1 => jI g H1 b1 5 jFirst ∧ jF b1 1 H0 H1)
set_option maxHeartbeats 4000000 in
set_option maxRecDepth 100000 in
theorem c_X4_copyAllF (l : Launch) (g : jG) (z : Nat) (H0 : Heap) (t5 : Nat) (b1 : Nat) (f : Nat → Int32) (hz : z ≤ b1) (hB : jI g H0 b1 5 f) (ht5 : t5 = g.2 5) : jM l g z yX4_copyAll wsX4_copyAll 2 60 [.ref t5, .ref b1] H0 (q_X4_copyAllF g H0 t5 b1 f) := by
  refine j_of (cc := cX4_copyAll) (n := 2) (ret := none) (by decide) rfl (Nat.le_of_ble_eq_true rfl) ?_
  intro p e s m below meth c hx hb hr hml hown hts hlocks hname hH hw ls hl
  have hl : lv_has ls 2 [(0, .ref t5), (1, .ref b1)] := hl
  have hf : jF b1 1 H0 H0 := jF.rf
  have hU5 : jU s H0 t5 5 jFirst := by rw [ht5]; exact jU.ofT hw hw.2.1.2.2.1.2
  refine lv_aload_n hx hb dX4_copyAll_0 rfl (lv_at hl 0 rfl) ?_
  refine lv_iconst (v := (nI (0))) hx hb dX4_copyAll_1 (by decide) ?_
  refine lv_aload_n hx hb dX4_copyAll_2 rfl (lv_at hl 1 rfl) ?_
  refine lv_iconst (v := (nI (0))) hx hb dX4_copyAll_3 (by decide) ?_
  refine lv_aload_n hx hb dX4_copyAll_4 rfl (lv_at hl 0 rfl) ?_
  refine j_alenU hx hb hU5 dX4_copyAll_5 ?_
  refine lv_aload_n hx hb dX4_copyAll_6 rfl (lv_at hl 1 rfl) ?_
  refine j_alen hx hb hw hB dX4_copyAll_7 ?_
  refine j_min (own := RX4) hx hb hml hown hts (by decide +kernel) (by decide +kernel) (by decide +kernel) (by decide +kernel) (Nat.le_of_ble_eq_true rfl) (Nat.le_of_ble_eq_true rfl) ⟨Nat.zero_le _, Nat.zero_le _⟩ hl.1 (by omega) (by omega) dX4_copyAll_8 ?_
  refine j_cpy (own := RX4) (sp := 0) (dp := 0) (k := 5) hx hb hml hown hts (by decide +kernel) (by decide +kernel) (by decide +kernel) (by decide +kernel) hw hU5 hB hz (by omega) (by omega) (by omega) (by omega) (Nat.le_of_ble_eq_true rfl) (Nat.le_of_ble_eq_true rfl) hl.1 dX4_copyAll_11 (fun H locs hw hB oq hsz => ?_)
  obtain ⟨f1, ef1⟩ : ∃ y9, y9 = va_cpy jFirst f (0) (0) (5) := ⟨_, rfl⟩
  rw [← ef1] at hB
  have hf := hf.put oq hsz (by omega)
  refine j_vret hx hb hr hlocks hH hw dX4_copyAll_14 ?_
  have hB9 := hB.ext (f' := jFirst) (fun j hj => by rw [ef1]; simp only [va_cpy]; rw [if_pos (by omega)]; congr 1 <;> omega)
  exact ⟨rfl, hB9, hf⟩

abbrev q_X4_copyAll (g : jG) (H0 : Heap) (a1 : Nat) (b1 : Nat) (n : Nat) (f : Nat → Int32) (fa : Nat → Int32) : Option Value → Heap → Prop := jV (fun H1 => jI g H1 b1 n fa ∧ jF b1 1 H0 H1)
set_option maxHeartbeats 4000000 in
set_option maxRecDepth 100000 in
theorem c_X4_copyAll (l : Launch) (g : jG) (z : Nat) (H0 : Heap) (a1 : Nat) (b1 : Nat) (n : Nat) (f : Nat → Int32) (fa : Nat → Int32) (hz : z ≤ b1) (hB : jI g H0 b1 n f) (hA : jI g H0 a1 n fa) (hne : a1 ≠ b1) (hn : n < 2 ^ 31) : jM l g z yX4_copyAll wsX4_copyAll 2 60 [.ref a1, .ref b1] H0 (q_X4_copyAll g H0 a1 b1 n f fa) := by
  refine j_of (cc := cX4_copyAll) (n := 2) (ret := none) (by decide) rfl (Nat.le_of_ble_eq_true rfl) ?_
  intro p e s m below meth c hx hb hr hml hown hts hlocks hname hH hw ls hl
  have hl : lv_has ls 2 [(0, .ref a1), (1, .ref b1)] := hl
  have hf : jF b1 1 H0 H0 := jF.rf
  refine lv_aload_n hx hb dX4_copyAll_0 rfl (lv_at hl 0 rfl) ?_
  refine lv_iconst (v := (nI (0))) hx hb dX4_copyAll_1 (by decide) ?_
  refine lv_aload_n hx hb dX4_copyAll_2 rfl (lv_at hl 1 rfl) ?_
  refine lv_iconst (v := (nI (0))) hx hb dX4_copyAll_3 (by decide) ?_
  refine lv_aload_n hx hb dX4_copyAll_4 rfl (lv_at hl 0 rfl) ?_
  refine j_alen hx hb hw hA dX4_copyAll_5 ?_
  refine lv_aload_n hx hb dX4_copyAll_6 rfl (lv_at hl 1 rfl) ?_
  refine j_alen hx hb hw hB dX4_copyAll_7 ?_
  refine j_min (own := RX4) hx hb hml hown hts (by decide +kernel) (by decide +kernel) (by decide +kernel) (by decide +kernel) (Nat.le_of_ble_eq_true rfl) (Nat.le_of_ble_eq_true rfl) ⟨Nat.zero_le _, Nat.zero_le _⟩ hl.1 (by omega) (by omega) dX4_copyAll_8 ?_
  refine j_cpy (own := RX4) (sp := 0) (dp := 0) (k := (min n n)) hx hb hml hown hts (by decide +kernel) (by decide +kernel) (by decide +kernel) (by decide +kernel) hw (hA.u hw (by omega)) hB hz (by omega) (by omega) (by omega) (by omega) (Nat.le_of_ble_eq_true rfl) (Nat.le_of_ble_eq_true rfl) hl.1 dX4_copyAll_11 (fun H locs hw hB oq hsz => ?_)
  obtain ⟨f1, ef1⟩ : ∃ y9, y9 = va_cpy fa f (0) (0) ((min n n)) := ⟨_, rfl⟩
  rw [← ef1] at hB
  have hA := hA.kept (oq _ (by omega))
  have hf := hf.put oq hsz (by omega)
  refine j_vret hx hb hr hlocks hH hw dX4_copyAll_14 ?_
  have hB9 := hB.ext (f' := fa) (fun j hj => by rw [ef1]; simp only [va_cpy]; rw [if_pos (by omega)]; congr 1 <;> omega)
  exact ⟨rfl, hB9, hf⟩

abbrev q_X1_copyFrom (g : jG) (H0 : Heap) (b : Nat) (b2 : Nat) (Rs : List OR) (R2 : List OR) : Option Value → Heap → Prop := jV (fun H1 => jOr g H1 b R2 ∧ jF b 2 H0 H1)
set_option maxHeartbeats 4000000 in
set_option maxRecDepth 100000 in
theorem c_X1_copyFrom (l : Launch) (g : jG) (z : Nat) (H0 : Heap) (b : Nat) (b2 : Nat) (Rs : List OR) (R2 : List OR) (hz : z ≤ b) (hQ : jOr g H0 b Rs) (hQ2 : jOr g H0 b2 R2) (hd : b + 2 ≤ b2 ∨ b2 + 2 ≤ b) : jM l g z yX1_copyFrom wsX1_copyFrom 3 81 [.ref b, .ref b2] H0 (q_X1_copyFrom g H0 b b2 Rs R2) := by
  refine j_of (cc := cX1_copyFrom) (n := 2) (ret := none) (by decide) rfl (Nat.le_of_ble_eq_true rfl) ?_
  intro p e s m below meth c hx hb hr hml hown hts hlocks hname hH hw ls hl
  have hl : lv_has ls 2 [(0, .ref b), (1, .ref b2)] := hl
  have hinX1 : ∀ w ∈ u_ws RX1 TX1 2, w ∈ wsX1_copyFrom := by decide +kernel
  have hf : jF b 2 H0 H0 := jF.rf
  obtain ⟨hO, h21, f, hA, hRw⟩ := hQ
  refine lv_aload_n hx hb dX1_copyFrom_0 rfl (lv_at hl 1 rfl) ?_
  obtain ⟨hOq1, hlq1, fq1, hAq1, hRq1⟩ := hQ2
  have hOq1 : jO g H0 b2 1 [.ref (b2 + 1), .int (nI ((R2).length))] := hOq1
  have hAq1 : jI g H0 (b2 + 1) 105 fq1 := hAq1
  refine j_get (T := TX1) (N := 2) (k := 0) hx hb hts hinX1 hown hw hOq1 rfl (by decide) (hts (.fieldLink RX1 11 "NightTrains$Orders" "cells" "[I") (by decide +kernel)) rfl dX1_copyFrom_1 ?_
  refine lv_aload_n hx hb dX1_copyFrom_4 rfl (lv_at hl 0 rfl) ?_
  refine j_get (T := TX1) (N := 2) (k := 0) hx hb hts hinX1 hown hw hO rfl (by decide) (hts (.fieldLink RX1 11 "NightTrains$Orders" "cells" "[I") (by decide +kernel)) rfl dX1_copyFrom_5 ?_
  refine j_SNv (n := 2) (As := [.ref (b2 + 1), .ref (b + 1)]) hx hb hml hown hts hw (c_X4_copyAll l g z H0 (b2 + 1) (b + 1) 105 f fq1 (by omega) hA hAq1 (by first | assumption | omega) (by first | assumption | omega)) gX1_copyFrom_X4_copyAll_n19 (host := RX4) (by decide +kernel) (by decide +kernel) (by decide +kernel) rfl (by decide +kernel) ⟨Nat.le_of_ble_eq_true rfl, Nat.le_of_ble_eq_true rfl⟩ rfl hl.1 (Nat.le_of_ble_eq_true rfl) ⟨Nat.zero_le _, Nat.zero_le _⟩ dX1_copyFrom_8 (fun H locs hr2 hw hsz => ?_) rfl
  obtain ⟨hA, hf2⟩ := hr2
  have hO := hO.kept (hf2.2 _ (by omega))
  have hOq1 := hOq1.kept (hf2.2 _ (by omega))
  have hAq1 := hAq1.kept (hf2.2 _ (by omega))
  have hf := hf.step hf2 (by omega)
  refine lv_aload_n hx hb dX1_copyFrom_11 rfl (lv_at hl 0 rfl) ?_
  refine lv_aload_n hx hb dX1_copyFrom_12 rfl (lv_at hl 1 rfl) ?_
  refine j_get (T := TX1) (N := 2) (k := 1) hx hb hts hinX1 hown hw hOq1 rfl (by decide) (hts (.fieldLink RX1 15 "NightTrains$Orders" "size" "I") (by decide +kernel)) rfl dX1_copyFrom_13 ?_
  refine j_put (T := TX1) (N := 2) (k := 1) (ty := .int) hx hb hts hinX1 tyX1 tyX1_ok nmX1 hown hw hO hz rfl (by decide) (hts (.fieldLink RX1 15 "NightTrains$Orders" "size" "I") (by decide +kernel)) rfl (by decide +kernel) rfl rfl (Nat.le_of_ble_eq_true rfl) dX1_copyFrom_16 (fun H locs hw hO oq hsz => ?_)
  have hO : jO g H b 1 [.ref _, .int _] := hO
  have hA := hA.kept (oq _ (by omega))
  have hOq1 := hOq1.kept (oq _ (by omega))
  have hAq1 := hAq1.kept (oq _ (by omega))
  have hf := hf.put oq hsz (by omega)
  refine j_vret hx hb hr hlocks hH hw dX1_copyFrom_19 ?_
  exact ⟨rfl, ⟨hO, hlq1, _, hA, hRq1⟩, hf⟩

abbrev q_X2_copyFrom (g : jG) (H0 : Heap) (a : Nat) (a2 : Nat) (σ : Sg) (Rs : List OR) (τ : Sg) (Rt : List OR) : Option Value → Heap → Prop := jV (fun H1 => jSo g H1 a τ Rt ∧ jF a 12 H0 H1)
set_option maxHeartbeats 4000000 in
set_option maxRecDepth 100000 in
theorem c_X2_copyFrom (l : Launch) (g : jG) (z : Nat) (H0 : Heap) (a : Nat) (a2 : Nat) (σ : Sg) (Rs : List OR) (τ : Sg) (Rt : List OR) (hz : z ≤ a) (hS : jSo g H0 a σ Rs) (hS2 : jSo g H0 a2 τ Rt) (hd : a + 12 ≤ a2 ∨ a2 + 12 ≤ a) : jM l g z yX2_copyFrom wsX2_copyFrom 4 102 [.ref a, .ref a2] H0 (q_X2_copyFrom g H0 a a2 σ Rs τ Rt) := by
  refine j_of (cc := cX2_copyFrom) (n := 2) (ret := none) (by decide) rfl (Nat.le_of_ble_eq_true rfl) ?_
  intro p e s m below meth c hx hb hr hml hown hts hlocks hname hH hw ls hl
  have hl : lv_has ls 2 [(0, .ref a), (1, .ref a2)] := hl
  have hinX2 : ∀ w ∈ u_ws RX2 TX2 9, w ∈ wsX2_copyFrom := by decide +kernel
  have hf : jF a 12 H0 H0 := jF.rf
  have hl21 := hS.len
  refine lv_aload_n hx hb dX2_copyFrom_0 rfl (lv_at hl 1 rfl) ?_
  obtain ⟨ses1, pus1, dts1, las1, frs1, tks1, cts1, hOs1, hses1, hpus1, hdts1, hlas1, hfrs1, htks1, hops1, hlts1, hcts1, hSs1⟩ := hS2
  have hOs1 : jO g H0 a2 2 [.ref (a2 + 1), .ref (a2 + 2), .ref (a2 + 3), .ref (a2 + 4), .ref (a2 + 5), .ref (a2 + 6), .ref (a2 + 7), .ref (a2 + 9), .ref (a2 + 11)] := hOs1
  have hses1 : jI g H0 (a2 + 1) 5 ses1 := hses1
  have hpus1 : jI g H0 (a2 + 2) 4 pus1 := hpus1
  have hdts1 : jI g H0 (a2 + 3) 4 dts1 := hdts1
  have hlas1 : jI g H0 (a2 + 4) 4 las1 := hlas1
  have hfrs1 : jI g H0 (a2 + 5) 16 frs1 := hfrs1
  have htks1 : jI g H0 (a2 + 6) 16 tks1 := htks1
  have hcts1 : jI g H0 (a2 + 11) 11 cts1 := hcts1
  have hops1 : jOr g H0 (a2 + 7) Rt := hops1
  have hlts1 : jOr g H0 (a2 + 9) (latR τ) := hlts1
  refine j_get (T := TX2) (N := 9) (k := 0) hx hb hts hinX2 hown hw hOs1 rfl (by decide) (hts (.fieldLink RX2 9 "NightTrains$Store" "settings" "[I") (by decide +kernel)) rfl dX2_copyFrom_1 ?_
  refine lv_aload_n hx hb dX2_copyFrom_4 rfl (lv_at hl 0 rfl) ?_
  obtain ⟨ses2, pus2, dts2, las2, frs2, tks2, cts2, hOs2, hses2, hpus2, hdts2, hlas2, hfrs2, htks2, hops2, hlts2, hcts2, hSs2⟩ := hS
  have hOs2 : jO g H0 a 2 [.ref (a + 1), .ref (a + 2), .ref (a + 3), .ref (a + 4), .ref (a + 5), .ref (a + 6), .ref (a + 7), .ref (a + 9), .ref (a + 11)] := hOs2
  have hses2 : jI g H0 (a + 1) 5 ses2 := hses2
  have hpus2 : jI g H0 (a + 2) 4 pus2 := hpus2
  have hdts2 : jI g H0 (a + 3) 4 dts2 := hdts2
  have hlas2 : jI g H0 (a + 4) 4 las2 := hlas2
  have hfrs2 : jI g H0 (a + 5) 16 frs2 := hfrs2
  have htks2 : jI g H0 (a + 6) 16 tks2 := htks2
  have hcts2 : jI g H0 (a + 11) 11 cts2 := hcts2
  have hops2 : jOr g H0 (a + 7) Rs := hops2
  have hlts2 : jOr g H0 (a + 9) (latR σ) := hlts2
  refine j_get (T := TX2) (N := 9) (k := 0) hx hb hts hinX2 hown hw hOs2 rfl (by decide) (hts (.fieldLink RX2 9 "NightTrains$Store" "settings" "[I") (by decide +kernel)) rfl dX2_copyFrom_5 ?_
  refine j_SNv (n := 2) (As := [.ref (a2 + 1), .ref (a + 1)]) hx hb hml hown hts hw (c_X4_copyAll l g z H0 (a2 + 1) (a + 1) 5 ses2 ses1 (by omega) hses2 hses1 (by first | assumption | omega) (by first | assumption | omega)) gX2_copyFrom_X4_copyAll_n49 (host := RX4) (by decide +kernel) (by decide +kernel) (by decide +kernel) rfl (by decide +kernel) ⟨Nat.le_of_ble_eq_true rfl, Nat.le_of_ble_eq_true rfl⟩ rfl hl.1 (Nat.le_of_ble_eq_true rfl) ⟨Nat.zero_le _, Nat.zero_le _⟩ dX2_copyFrom_8 (fun H locs hr3 hw hsz => ?_) rfl
  obtain ⟨hses2, hf2⟩ := hr3
  have hOs1 := hOs1.kept (hf2.2 _ (by omega))
  have hses1 := hses1.kept (hf2.2 _ (by omega))
  have hpus1 := hpus1.kept (hf2.2 _ (by omega))
  have hdts1 := hdts1.kept (hf2.2 _ (by omega))
  have hlas1 := hlas1.kept (hf2.2 _ (by omega))
  have hfrs1 := hfrs1.kept (hf2.2 _ (by omega))
  have htks1 := htks1.kept (hf2.2 _ (by omega))
  have hcts1 := hcts1.kept (hf2.2 _ (by omega))
  have hops1 := hops1.kept (fun q _ _ => hf2.2 q (by omega))
  have hlts1 := hlts1.kept (fun q _ _ => hf2.2 q (by omega))
  have hOs2 := hOs2.kept (hf2.2 _ (by omega))
  have hpus2 := hpus2.kept (hf2.2 _ (by omega))
  have hdts2 := hdts2.kept (hf2.2 _ (by omega))
  have hlas2 := hlas2.kept (hf2.2 _ (by omega))
  have hfrs2 := hfrs2.kept (hf2.2 _ (by omega))
  have htks2 := htks2.kept (hf2.2 _ (by omega))
  have hcts2 := hcts2.kept (hf2.2 _ (by omega))
  have hops2 := hops2.kept (fun q _ _ => hf2.2 q (by omega))
  have hlts2 := hlts2.kept (fun q _ _ => hf2.2 q (by omega))
  have hf := hf.step hf2 (by omega)
  refine lv_aload_n hx hb dX2_copyFrom_11 rfl (lv_at hl 1 rfl) ?_
  refine j_get (T := TX2) (N := 9) (k := 1) hx hb hts hinX2 hown hw hOs1 rfl (by decide) (hts (.fieldLink RX2 15 "NightTrains$Store" "purse" "[I") (by decide +kernel)) rfl dX2_copyFrom_12 ?_
  refine lv_aload_n hx hb dX2_copyFrom_15 rfl (lv_at hl 0 rfl) ?_
  refine j_get (T := TX2) (N := 9) (k := 1) hx hb hts hinX2 hown hw hOs2 rfl (by decide) (hts (.fieldLink RX2 15 "NightTrains$Store" "purse" "[I") (by decide +kernel)) rfl dX2_copyFrom_16 ?_
  refine j_SNv (n := 2) (As := [.ref (a2 + 2), .ref (a + 2)]) hx hb hml hown hts hw (c_X4_copyAll l g z H (a2 + 2) (a + 2) 4 pus2 pus1 (by omega) hpus2 hpus1 (by first | assumption | omega) (by first | assumption | omega)) gX2_copyFrom_X4_copyAll_n49 (host := RX4) (by decide +kernel) (by decide +kernel) (by decide +kernel) rfl (by decide +kernel) ⟨Nat.le_of_ble_eq_true rfl, Nat.le_of_ble_eq_true rfl⟩ rfl hl.1 (Nat.le_of_ble_eq_true rfl) ⟨Nat.zero_le _, Nat.zero_le _⟩ dX2_copyFrom_19 (fun H locs hr4 hw hsz => ?_) rfl
  obtain ⟨hpus2, hf2⟩ := hr4
  have hOs1 := hOs1.kept (hf2.2 _ (by omega))
  have hses1 := hses1.kept (hf2.2 _ (by omega))
  have hpus1 := hpus1.kept (hf2.2 _ (by omega))
  have hdts1 := hdts1.kept (hf2.2 _ (by omega))
  have hlas1 := hlas1.kept (hf2.2 _ (by omega))
  have hfrs1 := hfrs1.kept (hf2.2 _ (by omega))
  have htks1 := htks1.kept (hf2.2 _ (by omega))
  have hcts1 := hcts1.kept (hf2.2 _ (by omega))
  have hops1 := hops1.kept (fun q _ _ => hf2.2 q (by omega))
  have hlts1 := hlts1.kept (fun q _ _ => hf2.2 q (by omega))
  have hOs2 := hOs2.kept (hf2.2 _ (by omega))
  have hses2 := hses2.kept (hf2.2 _ (by omega))
  have hdts2 := hdts2.kept (hf2.2 _ (by omega))
  have hlas2 := hlas2.kept (hf2.2 _ (by omega))
  have hfrs2 := hfrs2.kept (hf2.2 _ (by omega))
  have htks2 := htks2.kept (hf2.2 _ (by omega))
  have hcts2 := hcts2.kept (hf2.2 _ (by omega))
  have hops2 := hops2.kept (fun q _ _ => hf2.2 q (by omega))
  have hlts2 := hlts2.kept (fun q _ _ => hf2.2 q (by omega))
  have hf := hf.step hf2 (by omega)
  refine lv_aload_n hx hb dX2_copyFrom_22 rfl (lv_at hl 1 rfl) ?_
  refine j_get (T := TX2) (N := 9) (k := 2) hx hb hts hinX2 hown hw hOs1 rfl (by decide) (hts (.fieldLink RX2 18 "NightTrains$Store" "deliveredTo" "[I") (by decide +kernel)) rfl dX2_copyFrom_23 ?_
  refine lv_aload_n hx hb dX2_copyFrom_26 rfl (lv_at hl 0 rfl) ?_
  refine j_get (T := TX2) (N := 9) (k := 2) hx hb hts hinX2 hown hw hOs2 rfl (by decide) (hts (.fieldLink RX2 18 "NightTrains$Store" "deliveredTo" "[I") (by decide +kernel)) rfl dX2_copyFrom_27 ?_
  refine j_SNv (n := 2) (As := [.ref (a2 + 3), .ref (a + 3)]) hx hb hml hown hts hw (c_X4_copyAll l g z H (a2 + 3) (a + 3) 4 dts2 dts1 (by omega) hdts2 hdts1 (by first | assumption | omega) (by first | assumption | omega)) gX2_copyFrom_X4_copyAll_n49 (host := RX4) (by decide +kernel) (by decide +kernel) (by decide +kernel) rfl (by decide +kernel) ⟨Nat.le_of_ble_eq_true rfl, Nat.le_of_ble_eq_true rfl⟩ rfl hl.1 (Nat.le_of_ble_eq_true rfl) ⟨Nat.zero_le _, Nat.zero_le _⟩ dX2_copyFrom_30 (fun H locs hr5 hw hsz => ?_) rfl
  obtain ⟨hdts2, hf2⟩ := hr5
  have hOs1 := hOs1.kept (hf2.2 _ (by omega))
  have hses1 := hses1.kept (hf2.2 _ (by omega))
  have hpus1 := hpus1.kept (hf2.2 _ (by omega))
  have hdts1 := hdts1.kept (hf2.2 _ (by omega))
  have hlas1 := hlas1.kept (hf2.2 _ (by omega))
  have hfrs1 := hfrs1.kept (hf2.2 _ (by omega))
  have htks1 := htks1.kept (hf2.2 _ (by omega))
  have hcts1 := hcts1.kept (hf2.2 _ (by omega))
  have hops1 := hops1.kept (fun q _ _ => hf2.2 q (by omega))
  have hlts1 := hlts1.kept (fun q _ _ => hf2.2 q (by omega))
  have hOs2 := hOs2.kept (hf2.2 _ (by omega))
  have hses2 := hses2.kept (hf2.2 _ (by omega))
  have hpus2 := hpus2.kept (hf2.2 _ (by omega))
  have hlas2 := hlas2.kept (hf2.2 _ (by omega))
  have hfrs2 := hfrs2.kept (hf2.2 _ (by omega))
  have htks2 := htks2.kept (hf2.2 _ (by omega))
  have hcts2 := hcts2.kept (hf2.2 _ (by omega))
  have hops2 := hops2.kept (fun q _ _ => hf2.2 q (by omega))
  have hlts2 := hlts2.kept (fun q _ _ => hf2.2 q (by omega))
  have hf := hf.step hf2 (by omega)
  refine lv_aload_n hx hb dX2_copyFrom_33 rfl (lv_at hl 1 rfl) ?_
  refine j_get (T := TX2) (N := 9) (k := 3) hx hb hts hinX2 hown hw hOs1 rfl (by decide) (hts (.fieldLink RX2 21 "NightTrains$Store" "lapsedOf" "[I") (by decide +kernel)) rfl dX2_copyFrom_34 ?_
  refine lv_aload_n hx hb dX2_copyFrom_37 rfl (lv_at hl 0 rfl) ?_
  refine j_get (T := TX2) (N := 9) (k := 3) hx hb hts hinX2 hown hw hOs2 rfl (by decide) (hts (.fieldLink RX2 21 "NightTrains$Store" "lapsedOf" "[I") (by decide +kernel)) rfl dX2_copyFrom_38 ?_
  refine j_SNv (n := 2) (As := [.ref (a2 + 4), .ref (a + 4)]) hx hb hml hown hts hw (c_X4_copyAll l g z H (a2 + 4) (a + 4) 4 las2 las1 (by omega) hlas2 hlas1 (by first | assumption | omega) (by first | assumption | omega)) gX2_copyFrom_X4_copyAll_n49 (host := RX4) (by decide +kernel) (by decide +kernel) (by decide +kernel) rfl (by decide +kernel) ⟨Nat.le_of_ble_eq_true rfl, Nat.le_of_ble_eq_true rfl⟩ rfl hl.1 (Nat.le_of_ble_eq_true rfl) ⟨Nat.zero_le _, Nat.zero_le _⟩ dX2_copyFrom_41 (fun H locs hr6 hw hsz => ?_) rfl
  obtain ⟨hlas2, hf2⟩ := hr6
  have hOs1 := hOs1.kept (hf2.2 _ (by omega))
  have hses1 := hses1.kept (hf2.2 _ (by omega))
  have hpus1 := hpus1.kept (hf2.2 _ (by omega))
  have hdts1 := hdts1.kept (hf2.2 _ (by omega))
  have hlas1 := hlas1.kept (hf2.2 _ (by omega))
  have hfrs1 := hfrs1.kept (hf2.2 _ (by omega))
  have htks1 := htks1.kept (hf2.2 _ (by omega))
  have hcts1 := hcts1.kept (hf2.2 _ (by omega))
  have hops1 := hops1.kept (fun q _ _ => hf2.2 q (by omega))
  have hlts1 := hlts1.kept (fun q _ _ => hf2.2 q (by omega))
  have hOs2 := hOs2.kept (hf2.2 _ (by omega))
  have hses2 := hses2.kept (hf2.2 _ (by omega))
  have hpus2 := hpus2.kept (hf2.2 _ (by omega))
  have hdts2 := hdts2.kept (hf2.2 _ (by omega))
  have hfrs2 := hfrs2.kept (hf2.2 _ (by omega))
  have htks2 := htks2.kept (hf2.2 _ (by omega))
  have hcts2 := hcts2.kept (hf2.2 _ (by omega))
  have hops2 := hops2.kept (fun q _ _ => hf2.2 q (by omega))
  have hlts2 := hlts2.kept (fun q _ _ => hf2.2 q (by omega))
  have hf := hf.step hf2 (by omega)
  refine lv_aload_n hx hb dX2_copyFrom_44 rfl (lv_at hl 1 rfl) ?_
  refine j_get (T := TX2) (N := 9) (k := 4) hx hb hts hinX2 hown hw hOs1 rfl (by decide) (hts (.fieldLink RX2 24 "NightTrains$Store" "front" "[I") (by decide +kernel)) rfl dX2_copyFrom_45 ?_
  refine lv_aload_n hx hb dX2_copyFrom_48 rfl (lv_at hl 0 rfl) ?_
  refine j_get (T := TX2) (N := 9) (k := 4) hx hb hts hinX2 hown hw hOs2 rfl (by decide) (hts (.fieldLink RX2 24 "NightTrains$Store" "front" "[I") (by decide +kernel)) rfl dX2_copyFrom_49 ?_
  refine j_SNv (n := 2) (As := [.ref (a2 + 5), .ref (a + 5)]) hx hb hml hown hts hw (c_X4_copyAll l g z H (a2 + 5) (a + 5) 16 frs2 frs1 (by omega) hfrs2 hfrs1 (by first | assumption | omega) (by first | assumption | omega)) gX2_copyFrom_X4_copyAll_n49 (host := RX4) (by decide +kernel) (by decide +kernel) (by decide +kernel) rfl (by decide +kernel) ⟨Nat.le_of_ble_eq_true rfl, Nat.le_of_ble_eq_true rfl⟩ rfl hl.1 (Nat.le_of_ble_eq_true rfl) ⟨Nat.zero_le _, Nat.zero_le _⟩ dX2_copyFrom_52 (fun H locs hr7 hw hsz => ?_) rfl
  obtain ⟨hfrs2, hf2⟩ := hr7
  have hOs1 := hOs1.kept (hf2.2 _ (by omega))
  have hses1 := hses1.kept (hf2.2 _ (by omega))
  have hpus1 := hpus1.kept (hf2.2 _ (by omega))
  have hdts1 := hdts1.kept (hf2.2 _ (by omega))
  have hlas1 := hlas1.kept (hf2.2 _ (by omega))
  have hfrs1 := hfrs1.kept (hf2.2 _ (by omega))
  have htks1 := htks1.kept (hf2.2 _ (by omega))
  have hcts1 := hcts1.kept (hf2.2 _ (by omega))
  have hops1 := hops1.kept (fun q _ _ => hf2.2 q (by omega))
  have hlts1 := hlts1.kept (fun q _ _ => hf2.2 q (by omega))
  have hOs2 := hOs2.kept (hf2.2 _ (by omega))
  have hses2 := hses2.kept (hf2.2 _ (by omega))
  have hpus2 := hpus2.kept (hf2.2 _ (by omega))
  have hdts2 := hdts2.kept (hf2.2 _ (by omega))
  have hlas2 := hlas2.kept (hf2.2 _ (by omega))
  have htks2 := htks2.kept (hf2.2 _ (by omega))
  have hcts2 := hcts2.kept (hf2.2 _ (by omega))
  have hops2 := hops2.kept (fun q _ _ => hf2.2 q (by omega))
  have hlts2 := hlts2.kept (fun q _ _ => hf2.2 q (by omega))
  have hf := hf.step hf2 (by omega)
  refine lv_aload_n hx hb dX2_copyFrom_55 rfl (lv_at hl 1 rfl) ?_
  refine j_get (T := TX2) (N := 9) (k := 5) hx hb hts hinX2 hown hw hOs1 rfl (by decide) (hts (.fieldLink RX2 27 "NightTrains$Store" "taken" "[I") (by decide +kernel)) rfl dX2_copyFrom_56 ?_
  refine lv_aload_n hx hb dX2_copyFrom_59 rfl (lv_at hl 0 rfl) ?_
  refine j_get (T := TX2) (N := 9) (k := 5) hx hb hts hinX2 hown hw hOs2 rfl (by decide) (hts (.fieldLink RX2 27 "NightTrains$Store" "taken" "[I") (by decide +kernel)) rfl dX2_copyFrom_60 ?_
  refine j_SNv (n := 2) (As := [.ref (a2 + 6), .ref (a + 6)]) hx hb hml hown hts hw (c_X4_copyAll l g z H (a2 + 6) (a + 6) 16 tks2 tks1 (by omega) htks2 htks1 (by first | assumption | omega) (by first | assumption | omega)) gX2_copyFrom_X4_copyAll_n49 (host := RX4) (by decide +kernel) (by decide +kernel) (by decide +kernel) rfl (by decide +kernel) ⟨Nat.le_of_ble_eq_true rfl, Nat.le_of_ble_eq_true rfl⟩ rfl hl.1 (Nat.le_of_ble_eq_true rfl) ⟨Nat.zero_le _, Nat.zero_le _⟩ dX2_copyFrom_63 (fun H locs hr8 hw hsz => ?_) rfl
  obtain ⟨htks2, hf2⟩ := hr8
  have hOs1 := hOs1.kept (hf2.2 _ (by omega))
  have hses1 := hses1.kept (hf2.2 _ (by omega))
  have hpus1 := hpus1.kept (hf2.2 _ (by omega))
  have hdts1 := hdts1.kept (hf2.2 _ (by omega))
  have hlas1 := hlas1.kept (hf2.2 _ (by omega))
  have hfrs1 := hfrs1.kept (hf2.2 _ (by omega))
  have htks1 := htks1.kept (hf2.2 _ (by omega))
  have hcts1 := hcts1.kept (hf2.2 _ (by omega))
  have hops1 := hops1.kept (fun q _ _ => hf2.2 q (by omega))
  have hlts1 := hlts1.kept (fun q _ _ => hf2.2 q (by omega))
  have hOs2 := hOs2.kept (hf2.2 _ (by omega))
  have hses2 := hses2.kept (hf2.2 _ (by omega))
  have hpus2 := hpus2.kept (hf2.2 _ (by omega))
  have hdts2 := hdts2.kept (hf2.2 _ (by omega))
  have hlas2 := hlas2.kept (hf2.2 _ (by omega))
  have hfrs2 := hfrs2.kept (hf2.2 _ (by omega))
  have hcts2 := hcts2.kept (hf2.2 _ (by omega))
  have hops2 := hops2.kept (fun q _ _ => hf2.2 q (by omega))
  have hlts2 := hlts2.kept (fun q _ _ => hf2.2 q (by omega))
  have hf := hf.step hf2 (by omega)
  refine lv_aload_n hx hb dX2_copyFrom_66 rfl (lv_at hl 1 rfl) ?_
  refine j_get (T := TX2) (N := 9) (k := 8) hx hb hts hinX2 hown hw hOs1 rfl (by decide) (hts (.fieldLink RX2 40 "NightTrains$Store" "counts" "[I") (by decide +kernel)) rfl dX2_copyFrom_67 ?_
  refine lv_aload_n hx hb dX2_copyFrom_70 rfl (lv_at hl 0 rfl) ?_
  refine j_get (T := TX2) (N := 9) (k := 8) hx hb hts hinX2 hown hw hOs2 rfl (by decide) (hts (.fieldLink RX2 40 "NightTrains$Store" "counts" "[I") (by decide +kernel)) rfl dX2_copyFrom_71 ?_
  refine j_SNv (n := 2) (As := [.ref (a2 + 11), .ref (a + 11)]) hx hb hml hown hts hw (c_X4_copyAll l g z H (a2 + 11) (a + 11) 11 cts2 cts1 (by omega) hcts2 hcts1 (by first | assumption | omega) (by first | assumption | omega)) gX2_copyFrom_X4_copyAll_n49 (host := RX4) (by decide +kernel) (by decide +kernel) (by decide +kernel) rfl (by decide +kernel) ⟨Nat.le_of_ble_eq_true rfl, Nat.le_of_ble_eq_true rfl⟩ rfl hl.1 (Nat.le_of_ble_eq_true rfl) ⟨Nat.zero_le _, Nat.zero_le _⟩ dX2_copyFrom_74 (fun H locs hr9 hw hsz => ?_) rfl
  obtain ⟨hcts2, hf2⟩ := hr9
  have hOs1 := hOs1.kept (hf2.2 _ (by omega))
  have hses1 := hses1.kept (hf2.2 _ (by omega))
  have hpus1 := hpus1.kept (hf2.2 _ (by omega))
  have hdts1 := hdts1.kept (hf2.2 _ (by omega))
  have hlas1 := hlas1.kept (hf2.2 _ (by omega))
  have hfrs1 := hfrs1.kept (hf2.2 _ (by omega))
  have htks1 := htks1.kept (hf2.2 _ (by omega))
  have hcts1 := hcts1.kept (hf2.2 _ (by omega))
  have hops1 := hops1.kept (fun q _ _ => hf2.2 q (by omega))
  have hlts1 := hlts1.kept (fun q _ _ => hf2.2 q (by omega))
  have hOs2 := hOs2.kept (hf2.2 _ (by omega))
  have hses2 := hses2.kept (hf2.2 _ (by omega))
  have hpus2 := hpus2.kept (hf2.2 _ (by omega))
  have hdts2 := hdts2.kept (hf2.2 _ (by omega))
  have hlas2 := hlas2.kept (hf2.2 _ (by omega))
  have hfrs2 := hfrs2.kept (hf2.2 _ (by omega))
  have htks2 := htks2.kept (hf2.2 _ (by omega))
  have hops2 := hops2.kept (fun q _ _ => hf2.2 q (by omega))
  have hlts2 := hlts2.kept (fun q _ _ => hf2.2 q (by omega))
  have hf := hf.step hf2 (by omega)
  refine lv_aload_n hx hb dX2_copyFrom_77 rfl (lv_at hl 0 rfl) ?_
  refine j_get (T := TX2) (N := 9) (k := 6) hx hb hts hinX2 hown hw hOs2 rfl (by decide) (hts (.fieldLink RX2 33 "NightTrains$Store" "open" "LNightTrains$Orders;") (by decide +kernel)) rfl dX2_copyFrom_78 ?_
  refine lv_aload_n hx hb dX2_copyFrom_81 rfl (lv_at hl 1 rfl) ?_
  refine j_get (T := TX2) (N := 9) (k := 6) hx hb hts hinX2 hown hw hOs1 rfl (by decide) (hts (.fieldLink RX2 33 "NightTrains$Store" "open" "LNightTrains$Orders;") (by decide +kernel)) rfl dX2_copyFrom_82 ?_
  refine j_Vv (n := 1) (As := [.ref (a2 + 7)]) hx hb hml hown hts hw (j_recv hw hops2.1 rfl) (c_X1_copyFrom l g z H (a + 7) (a2 + 7) Rs Rt (by omega) hops2 hops1 (by first | assumption | omega)) gX2_copyFrom_X1_copyFrom rfl (by decide +kernel) ⟨Nat.le_of_ble_eq_true rfl, Nat.le_of_ble_eq_true rfl⟩ rfl hl.1 (Nat.le_of_ble_eq_true rfl) ⟨Nat.zero_le _, Nat.zero_le _⟩ dX2_copyFrom_85 (fun H locs hr10 hw hsz => ?_) rfl
  obtain ⟨hops2, hf2⟩ := hr10
  have hOs1 := hOs1.kept (hf2.2 _ (by omega))
  have hses1 := hses1.kept (hf2.2 _ (by omega))
  have hpus1 := hpus1.kept (hf2.2 _ (by omega))
  have hdts1 := hdts1.kept (hf2.2 _ (by omega))
  have hlas1 := hlas1.kept (hf2.2 _ (by omega))
  have hfrs1 := hfrs1.kept (hf2.2 _ (by omega))
  have htks1 := htks1.kept (hf2.2 _ (by omega))
  have hcts1 := hcts1.kept (hf2.2 _ (by omega))
  have hops1 := hops1.kept (fun q _ _ => hf2.2 q (by omega))
  have hlts1 := hlts1.kept (fun q _ _ => hf2.2 q (by omega))
  have hOs2 := hOs2.kept (hf2.2 _ (by omega))
  have hses2 := hses2.kept (hf2.2 _ (by omega))
  have hpus2 := hpus2.kept (hf2.2 _ (by omega))
  have hdts2 := hdts2.kept (hf2.2 _ (by omega))
  have hlas2 := hlas2.kept (hf2.2 _ (by omega))
  have hfrs2 := hfrs2.kept (hf2.2 _ (by omega))
  have htks2 := htks2.kept (hf2.2 _ (by omega))
  have hcts2 := hcts2.kept (hf2.2 _ (by omega))
  have hlts2 := hlts2.kept (fun q _ _ => hf2.2 q (by omega))
  have hf := hf.step hf2 (by omega)
  refine lv_aload_n hx hb dX2_copyFrom_88 rfl (lv_at hl 0 rfl) ?_
  refine j_get (T := TX2) (N := 9) (k := 7) hx hb hts hinX2 hown hw hOs2 rfl (by decide) (hts (.fieldLink RX2 37 "NightTrains$Store" "lately" "LNightTrains$Orders;") (by decide +kernel)) rfl dX2_copyFrom_89 ?_
  refine lv_aload_n hx hb dX2_copyFrom_92 rfl (lv_at hl 1 rfl) ?_
  refine j_get (T := TX2) (N := 9) (k := 7) hx hb hts hinX2 hown hw hOs1 rfl (by decide) (hts (.fieldLink RX2 37 "NightTrains$Store" "lately" "LNightTrains$Orders;") (by decide +kernel)) rfl dX2_copyFrom_93 ?_
  refine j_Vv (n := 1) (As := [.ref (a2 + 9)]) hx hb hml hown hts hw (j_recv hw hlts2.1 rfl) (c_X1_copyFrom l g z H (a + 9) (a2 + 9) (latR σ) (latR τ) (by omega) hlts2 hlts1 (by first | assumption | omega)) gX2_copyFrom_X1_copyFrom rfl (by decide +kernel) ⟨Nat.le_of_ble_eq_true rfl, Nat.le_of_ble_eq_true rfl⟩ rfl hl.1 (Nat.le_of_ble_eq_true rfl) ⟨Nat.zero_le _, Nat.zero_le _⟩ dX2_copyFrom_96 (fun H locs hr11 hw hsz => ?_) rfl
  obtain ⟨hlts2, hf2⟩ := hr11
  have hOs1 := hOs1.kept (hf2.2 _ (by omega))
  have hses1 := hses1.kept (hf2.2 _ (by omega))
  have hpus1 := hpus1.kept (hf2.2 _ (by omega))
  have hdts1 := hdts1.kept (hf2.2 _ (by omega))
  have hlas1 := hlas1.kept (hf2.2 _ (by omega))
  have hfrs1 := hfrs1.kept (hf2.2 _ (by omega))
  have htks1 := htks1.kept (hf2.2 _ (by omega))
  have hcts1 := hcts1.kept (hf2.2 _ (by omega))
  have hops1 := hops1.kept (fun q _ _ => hf2.2 q (by omega))
  have hlts1 := hlts1.kept (fun q _ _ => hf2.2 q (by omega))
  have hOs2 := hOs2.kept (hf2.2 _ (by omega))
  have hses2 := hses2.kept (hf2.2 _ (by omega))
  have hpus2 := hpus2.kept (hf2.2 _ (by omega))
  have hdts2 := hdts2.kept (hf2.2 _ (by omega))
  have hlas2 := hlas2.kept (hf2.2 _ (by omega))
  have hfrs2 := hfrs2.kept (hf2.2 _ (by omega))
  have htks2 := htks2.kept (hf2.2 _ (by omega))
  have hcts2 := hcts2.kept (hf2.2 _ (by omega))
  have hops2 := hops2.kept (fun q _ _ => hf2.2 q (by omega))
  have hf := hf.step hf2 (by omega)
  refine j_vret hx hb hr hlocks hH hw dX2_copyFrom_99 ?_
  have hS12 : jSo g H a τ Rt := ⟨ses1, pus1, dts1, las1, frs1, tks1, cts1, hOs2, hses2, hpus2, hdts2, hlas2, hfrs2, htks2, hops2, hlts2, hcts2, hSs1⟩
  exact ⟨rfl, hS12, hf⟩

abbrev q_J7_fill_53178 (g : jG) (H0 : Heap) (b1 : Nat) (v : Int32) (n : Nat) (f : Nat → Int32) : Option Value → Heap → Prop := jV (fun H1 => jI g H1 b1 n (fun _ => v) ∧ jF b1 1 H0 H1)
set_option maxHeartbeats 4000000 in
set_option maxRecDepth 100000 in
theorem c_J7_fill_53178 (l : Launch) (g : jG) (z : Nat) (H0 : Heap) (b1 : Nat) (v : Int32) (n : Nat) (f : Nat → Int32) (hz : z ≤ b1) (hB : jI g H0 b1 n f) (hn : n < 2 ^ 31) : jM l g z yJ7_fill_53178 wsJ7_fill_53178 0 0 [.ref b1, .int v] H0 (q_J7_fill_53178 g H0 b1 v n f) := by
  refine j_of (cc := cJ7_fill_53178) (n := 4) (ret := none) (by decide) rfl (Nat.le_of_ble_eq_true rfl) ?_
  intro p e s m below meth c hx hb hr hml hown hts hlocks hname hH hw ls hl
  have hl : lv_has ls 4 [(0, .ref b1), (1, .int v)] := hl
  have hf : jF b1 1 H0 H0 := jF.rf
  refine lv_iconst (v := (nI (0))) hx hb dJ7_fill_53178_0 (by decide) ?_
  refine lv_istore_n (lv' := [(2, .int _), (0, .ref _), (1, .int _)]) hx hb dJ7_fill_53178_1 rfl hl (by decide) rfl (fun ls hl => ?_)
  refine lv_aload_n hx hb dJ7_fill_53178_2 rfl (lv_at hl 1 rfl) ?_
  refine j_alen hx hb hw hB dJ7_fill_53178_3 ?_
  refine lv_istore_n (lv' := [(3, .int _), (2, .int _), (0, .ref _), (1, .int _)]) hx hb dJ7_fill_53178_4 rfl hl (by decide) rfl (fun ls hl => ?_)
  have lp5 : ∀ (n5 : Nat) (k : Nat) (fk : Nat → Int32) (hk : k ≤ n) (hfk : ∀ j, j < k → fk j = v) (hmu5 : n - k < n5) (H : Heap) (locs : List Loc) (hw : jW g z s H locs) (hf : jF b1 1 H0 H) (hB : jI g H b1 n fk) (ls : Array Slot) (hl : lv_has ls 4 [(0, .ref b1), (1, .int v), (2, .int (nI (k))), (3, .int (nI (n)))]), jK p l e 0 0 s m [.ref b1, .int v] below meth c z H0 (q_J7_fill_53178 g H0 b1 v n f) H locs (F0 m 5 ls []) := by
    intro n5
    induction n5 with
    | zero => intros; omega
    | succ n5 ih5 =>
      intro k fk hk hfk hmu5 H locs hw hf hB ls hl
      refine lv_iload_n hx hb dJ7_fill_53178_5 rfl (lv_at hl 2 rfl) ?_
      refine lv_iload_n hx hb dJ7_fill_53178_6 rfl (lv_at hl 3 rfl) ?_
      refine jn_ge (tgt := 20) hx hb dJ7_fill_53178_7 (by decide) (by omega) (by omega) (fun c7 => ?_) (fun c7 => ?_)
      · obtain rfl : k = n := by omega
        refine j_vret hx hb hr hlocks hH hw dJ7_fill_53178_20 ?_
        have hB9 := hB.ext (f' := fun _ => v) (fun j hj => (hfk j hj).symm)
        exact ⟨rfl, hB9, hf⟩
      · refine lv_aload_n hx hb dJ7_fill_53178_10 rfl (lv_at hl 0 rfl) ?_
        refine lv_iload_n hx hb dJ7_fill_53178_11 rfl (lv_at hl 2 rfl) ?_
        refine lv_iload_n hx hb dJ7_fill_53178_12 rfl (lv_at hl 1 rfl) ?_
        refine j_iast hx hb hw hB hz (k := k) rfl (by omega) (by omega) dJ7_fill_53178_13 (fun H locs hw hB oq hsz => ?_)
        obtain ⟨f1, ef1⟩ : ∃ y9, y9 = upd fk (k) v := ⟨_, rfl⟩
        rw [← ef1] at hB
        have hf := hf.put oq hsz (by omega)
        refine lv_iinc (v := nI (k + 1)) (lv' := [(2, .int _), (0, .ref _), (1, .int _), (3, .int _)]) hx hb dJ7_fill_53178_14 hl (k := 2) rfl (nI_add _ 1) (by decide) rfl (fun ls hl => ?_)
        refine lv_goto (tgt := 5) hx hb dJ7_fill_53178_17 (by decide) ?_
        exact ih5  (k + 1) f1 (by first | assumption | omega) (fun j hj => by rw [ef1]; by_cases q : j = k; rw [q, pk_us]; rw [pk_un q]; exact hfk j (by omega)) (by omega) H _ hw hf hB _ (lv_sub hl [1, 2, 0, 3] rfl)
  exact lp5 (n - 0 + 1) 0 f (by first | assumption | omega) (fun j hj => absurd hj (Nat.not_lt_zero _)) (by omega) H0 _ hw hf hB _ (lv_sub hl [2, 3, 1, 0] rfl)

abbrev q_X2_reset (g : jG) (H0 : Heap) (a : Nat) (σ : Sg) (Rs : List OR) : Option Value → Heap → Prop := jV (fun H1 => jSo g H1 a S0 (opnR S0) ∧ jF a 12 H0 H1)
set_option maxHeartbeats 4000000 in
set_option maxRecDepth 100000 in
theorem c_X2_reset (l : Launch) (g : jG) (z : Nat) (H0 : Heap) (a : Nat) (σ : Sg) (Rs : List OR) (hz : z ≤ a) (hS : jSo g H0 a σ Rs) : jM l g z yX2_reset wsX2_reset 3 81 [.ref a] H0 (q_X2_reset g H0 a σ Rs) := by
  refine j_of (cc := cX2_reset) (n := 1) (ret := none) (by decide) rfl (Nat.le_of_ble_eq_true rfl) ?_
  intro p e s m below meth c hx hb hr hml hown hts hlocks hname hH hw ls hl
  have hl : lv_has ls 1 [(0, .ref a)] := hl
  have hinX2 : ∀ w ∈ u_ws RX2 TX2 9, w ∈ wsX2_reset := by decide +kernel
  have hf : jF a 12 H0 H0 := jF.rf
  have hl21 := hS.len
  refine va_getsN hx hb hw.2.1.2.2.1.1 hw.2.2 hown (va_Nw.use rfl hw.2.1.2.2.2.2.2) (fun _ h => h) dX2_reset_0 ?_
  refine lv_aload_n hx hb dX2_reset_3 rfl (lv_at hl 0 rfl) ?_
  obtain ⟨ses2, pus2, dts2, las2, frs2, tks2, cts2, hOs2, hses2, hpus2, hdts2, hlas2, hfrs2, htks2, hops2, hlts2, hcts2, hSs2⟩ := hS
  have hOs2 : jO g H0 a 2 [.ref (a + 1), .ref (a + 2), .ref (a + 3), .ref (a + 4), .ref (a + 5), .ref (a + 6), .ref (a + 7), .ref (a + 9), .ref (a + 11)] := hOs2
  have hses2 : jI g H0 (a + 1) 5 ses2 := hses2
  have hpus2 : jI g H0 (a + 2) 4 pus2 := hpus2
  have hdts2 : jI g H0 (a + 3) 4 dts2 := hdts2
  have hlas2 : jI g H0 (a + 4) 4 las2 := hlas2
  have hfrs2 : jI g H0 (a + 5) 16 frs2 := hfrs2
  have htks2 : jI g H0 (a + 6) 16 tks2 := htks2
  have hcts2 : jI g H0 (a + 11) 11 cts2 := hcts2
  have hops2 : jOr g H0 (a + 7) Rs := hops2
  have hlts2 : jOr g H0 (a + 9) (latR σ) := hlts2
  refine j_get (T := TX2) (N := 9) (k := 0) hx hb hts hinX2 hown hw hOs2 rfl (by decide) (hts (.fieldLink RX2 9 "NightTrains$Store" "settings" "[I") (by decide +kernel)) rfl dX2_reset_4 ?_
  refine j_SNv (n := 2) (As := [.ref (g.2 5), .ref (a + 1)]) hx hb hml hown hts hw (c_X4_copyAllF l g z H0 (g.2 5) (a + 1) ses2 (by omega) hses2 rfl) gX2_reset_X4_copyAll_n49 (host := RX4) (by decide +kernel) (by decide +kernel) (by decide +kernel) rfl (by decide +kernel) ⟨Nat.le_of_ble_eq_true rfl, Nat.le_of_ble_eq_true rfl⟩ rfl hl.1 (Nat.le_of_ble_eq_true rfl) ⟨Nat.zero_le _, Nat.zero_le _⟩ dX2_reset_7 (fun H locs hr3 hw hsz => ?_) rfl
  obtain ⟨hses2, hf2⟩ := hr3
  have hOs2 := hOs2.kept (hf2.2 _ (by omega))
  have hpus2 := hpus2.kept (hf2.2 _ (by omega))
  have hdts2 := hdts2.kept (hf2.2 _ (by omega))
  have hlas2 := hlas2.kept (hf2.2 _ (by omega))
  have hfrs2 := hfrs2.kept (hf2.2 _ (by omega))
  have htks2 := htks2.kept (hf2.2 _ (by omega))
  have hcts2 := hcts2.kept (hf2.2 _ (by omega))
  have hops2 := hops2.kept (fun q _ _ => hf2.2 q (by omega))
  have hlts2 := hlts2.kept (fun q _ _ => hf2.2 q (by omega))
  have hf := hf.step hf2 (by omega)
  refine lv_aload_n hx hb dX2_reset_10 rfl (lv_at hl 0 rfl) ?_
  refine j_get (T := TX2) (N := 9) (k := 1) hx hb hts hinX2 hown hw hOs2 rfl (by decide) (hts (.fieldLink RX2 15 "NightTrains$Store" "purse" "[I") (by decide +kernel)) rfl dX2_reset_11 ?_
  refine lv_bipush (v := (nI (50))) hx hb dX2_reset_14 (by decide) ?_
  refine j_Sv (n := 2) (As := [.ref (a + 2), .int (nI (50))]) hx hb hml hown hts hw (c_J7_fill_53178 l g z H (a + 2) (nI (50)) 4 pus2 (by omega) hpus2 (by first | assumption | omega)) gX2_reset_J7_fill_53178 rfl (by decide +kernel) ⟨Nat.le_of_ble_eq_true rfl, Nat.le_of_ble_eq_true rfl⟩ rfl hl.1 (Nat.le_of_ble_eq_true rfl) ⟨Nat.zero_le _, Nat.zero_le _⟩ dX2_reset_16 (fun H locs hr4 hw hsz => ?_) rfl
  obtain ⟨hpus2, hf2⟩ := hr4
  have hOs2 := hOs2.kept (hf2.2 _ (by omega))
  have hses2 := hses2.kept (hf2.2 _ (by omega))
  have hdts2 := hdts2.kept (hf2.2 _ (by omega))
  have hlas2 := hlas2.kept (hf2.2 _ (by omega))
  have hfrs2 := hfrs2.kept (hf2.2 _ (by omega))
  have htks2 := htks2.kept (hf2.2 _ (by omega))
  have hcts2 := hcts2.kept (hf2.2 _ (by omega))
  have hops2 := hops2.kept (fun q _ _ => hf2.2 q (by omega))
  have hlts2 := hlts2.kept (fun q _ _ => hf2.2 q (by omega))
  have hf := hf.step hf2 (by omega)
  refine lv_aload_n hx hb dX2_reset_19 rfl (lv_at hl 0 rfl) ?_
  refine j_get (T := TX2) (N := 9) (k := 2) hx hb hts hinX2 hown hw hOs2 rfl (by decide) (hts (.fieldLink RX2 18 "NightTrains$Store" "deliveredTo" "[I") (by decide +kernel)) rfl dX2_reset_20 ?_
  refine lv_iconst (v := (nI (0))) hx hb dX2_reset_23 (by decide) ?_
  refine j_Sv (n := 2) (As := [.ref (a + 3), .int (nI (0))]) hx hb hml hown hts hw (c_J7_fill_53178 l g z H (a + 3) (nI (0)) 4 dts2 (by omega) hdts2 (by first | assumption | omega)) gX2_reset_J7_fill_53178 rfl (by decide +kernel) ⟨Nat.le_of_ble_eq_true rfl, Nat.le_of_ble_eq_true rfl⟩ rfl hl.1 (Nat.le_of_ble_eq_true rfl) ⟨Nat.zero_le _, Nat.zero_le _⟩ dX2_reset_24 (fun H locs hr5 hw hsz => ?_) rfl
  obtain ⟨hdts2, hf2⟩ := hr5
  have hOs2 := hOs2.kept (hf2.2 _ (by omega))
  have hses2 := hses2.kept (hf2.2 _ (by omega))
  have hpus2 := hpus2.kept (hf2.2 _ (by omega))
  have hlas2 := hlas2.kept (hf2.2 _ (by omega))
  have hfrs2 := hfrs2.kept (hf2.2 _ (by omega))
  have htks2 := htks2.kept (hf2.2 _ (by omega))
  have hcts2 := hcts2.kept (hf2.2 _ (by omega))
  have hops2 := hops2.kept (fun q _ _ => hf2.2 q (by omega))
  have hlts2 := hlts2.kept (fun q _ _ => hf2.2 q (by omega))
  have hf := hf.step hf2 (by omega)
  refine lv_aload_n hx hb dX2_reset_27 rfl (lv_at hl 0 rfl) ?_
  refine j_get (T := TX2) (N := 9) (k := 3) hx hb hts hinX2 hown hw hOs2 rfl (by decide) (hts (.fieldLink RX2 21 "NightTrains$Store" "lapsedOf" "[I") (by decide +kernel)) rfl dX2_reset_28 ?_
  refine lv_iconst (v := (nI (0))) hx hb dX2_reset_31 (by decide) ?_
  refine j_Sv (n := 2) (As := [.ref (a + 4), .int (nI (0))]) hx hb hml hown hts hw (c_J7_fill_53178 l g z H (a + 4) (nI (0)) 4 las2 (by omega) hlas2 (by first | assumption | omega)) gX2_reset_J7_fill_53178 rfl (by decide +kernel) ⟨Nat.le_of_ble_eq_true rfl, Nat.le_of_ble_eq_true rfl⟩ rfl hl.1 (Nat.le_of_ble_eq_true rfl) ⟨Nat.zero_le _, Nat.zero_le _⟩ dX2_reset_32 (fun H locs hr6 hw hsz => ?_) rfl
  obtain ⟨hlas2, hf2⟩ := hr6
  have hOs2 := hOs2.kept (hf2.2 _ (by omega))
  have hses2 := hses2.kept (hf2.2 _ (by omega))
  have hpus2 := hpus2.kept (hf2.2 _ (by omega))
  have hdts2 := hdts2.kept (hf2.2 _ (by omega))
  have hfrs2 := hfrs2.kept (hf2.2 _ (by omega))
  have htks2 := htks2.kept (hf2.2 _ (by omega))
  have hcts2 := hcts2.kept (hf2.2 _ (by omega))
  have hops2 := hops2.kept (fun q _ _ => hf2.2 q (by omega))
  have hlts2 := hlts2.kept (fun q _ _ => hf2.2 q (by omega))
  have hf := hf.step hf2 (by omega)
  refine lv_aload_n hx hb dX2_reset_35 rfl (lv_at hl 0 rfl) ?_
  refine j_get (T := TX2) (N := 9) (k := 4) hx hb hts hinX2 hown hw hOs2 rfl (by decide) (hts (.fieldLink RX2 24 "NightTrains$Store" "front" "[I") (by decide +kernel)) rfl dX2_reset_36 ?_
  refine lv_iconst (v := (-1)) hx hb dX2_reset_39 (by decide) ?_
  refine j_Sv (n := 2) (As := [.ref (a + 5), .int (-1)]) hx hb hml hown hts hw (c_J7_fill_53178 l g z H (a + 5) (-1) 16 frs2 (by omega) hfrs2 (by first | assumption | omega)) gX2_reset_J7_fill_53178 rfl (by decide +kernel) ⟨Nat.le_of_ble_eq_true rfl, Nat.le_of_ble_eq_true rfl⟩ rfl hl.1 (Nat.le_of_ble_eq_true rfl) ⟨Nat.zero_le _, Nat.zero_le _⟩ dX2_reset_40 (fun H locs hr7 hw hsz => ?_) rfl
  obtain ⟨hfrs2, hf2⟩ := hr7
  have hOs2 := hOs2.kept (hf2.2 _ (by omega))
  have hses2 := hses2.kept (hf2.2 _ (by omega))
  have hpus2 := hpus2.kept (hf2.2 _ (by omega))
  have hdts2 := hdts2.kept (hf2.2 _ (by omega))
  have hlas2 := hlas2.kept (hf2.2 _ (by omega))
  have htks2 := htks2.kept (hf2.2 _ (by omega))
  have hcts2 := hcts2.kept (hf2.2 _ (by omega))
  have hops2 := hops2.kept (fun q _ _ => hf2.2 q (by omega))
  have hlts2 := hlts2.kept (fun q _ _ => hf2.2 q (by omega))
  have hf := hf.step hf2 (by omega)
  refine lv_aload_n hx hb dX2_reset_43 rfl (lv_at hl 0 rfl) ?_
  refine j_get (T := TX2) (N := 9) (k := 5) hx hb hts hinX2 hown hw hOs2 rfl (by decide) (hts (.fieldLink RX2 27 "NightTrains$Store" "taken" "[I") (by decide +kernel)) rfl dX2_reset_44 ?_
  refine lv_iconst (v := (nI (0))) hx hb dX2_reset_47 (by decide) ?_
  refine j_Sv (n := 2) (As := [.ref (a + 6), .int (nI (0))]) hx hb hml hown hts hw (c_J7_fill_53178 l g z H (a + 6) (nI (0)) 16 tks2 (by omega) htks2 (by first | assumption | omega)) gX2_reset_J7_fill_53178 rfl (by decide +kernel) ⟨Nat.le_of_ble_eq_true rfl, Nat.le_of_ble_eq_true rfl⟩ rfl hl.1 (Nat.le_of_ble_eq_true rfl) ⟨Nat.zero_le _, Nat.zero_le _⟩ dX2_reset_48 (fun H locs hr8 hw hsz => ?_) rfl
  obtain ⟨htks2, hf2⟩ := hr8
  have hOs2 := hOs2.kept (hf2.2 _ (by omega))
  have hses2 := hses2.kept (hf2.2 _ (by omega))
  have hpus2 := hpus2.kept (hf2.2 _ (by omega))
  have hdts2 := hdts2.kept (hf2.2 _ (by omega))
  have hlas2 := hlas2.kept (hf2.2 _ (by omega))
  have hfrs2 := hfrs2.kept (hf2.2 _ (by omega))
  have hcts2 := hcts2.kept (hf2.2 _ (by omega))
  have hops2 := hops2.kept (fun q _ _ => hf2.2 q (by omega))
  have hlts2 := hlts2.kept (fun q _ _ => hf2.2 q (by omega))
  have hf := hf.step hf2 (by omega)
  refine lv_aload_n hx hb dX2_reset_51 rfl (lv_at hl 0 rfl) ?_
  refine j_get (T := TX2) (N := 9) (k := 8) hx hb hts hinX2 hown hw hOs2 rfl (by decide) (hts (.fieldLink RX2 40 "NightTrains$Store" "counts" "[I") (by decide +kernel)) rfl dX2_reset_52 ?_
  refine lv_iconst (v := (nI (0))) hx hb dX2_reset_55 (by decide) ?_
  refine j_Sv (n := 2) (As := [.ref (a + 11), .int (nI (0))]) hx hb hml hown hts hw (c_J7_fill_53178 l g z H (a + 11) (nI (0)) 11 cts2 (by omega) hcts2 (by first | assumption | omega)) gX2_reset_J7_fill_53178 rfl (by decide +kernel) ⟨Nat.le_of_ble_eq_true rfl, Nat.le_of_ble_eq_true rfl⟩ rfl hl.1 (Nat.le_of_ble_eq_true rfl) ⟨Nat.zero_le _, Nat.zero_le _⟩ dX2_reset_56 (fun H locs hr9 hw hsz => ?_) rfl
  obtain ⟨hcts2, hf2⟩ := hr9
  have hOs2 := hOs2.kept (hf2.2 _ (by omega))
  have hses2 := hses2.kept (hf2.2 _ (by omega))
  have hpus2 := hpus2.kept (hf2.2 _ (by omega))
  have hdts2 := hdts2.kept (hf2.2 _ (by omega))
  have hlas2 := hlas2.kept (hf2.2 _ (by omega))
  have hfrs2 := hfrs2.kept (hf2.2 _ (by omega))
  have htks2 := htks2.kept (hf2.2 _ (by omega))
  have hops2 := hops2.kept (fun q _ _ => hf2.2 q (by omega))
  have hlts2 := hlts2.kept (fun q _ _ => hf2.2 q (by omega))
  have hf := hf.step hf2 (by omega)
  refine lv_aload_n hx hb dX2_reset_59 rfl (lv_at hl 0 rfl) ?_
  refine j_get (T := TX2) (N := 9) (k := 6) hx hb hts hinX2 hown hw hOs2 rfl (by decide) (hts (.fieldLink RX2 33 "NightTrains$Store" "open" "LNightTrains$Orders;") (by decide +kernel)) rfl dX2_reset_60 ?_
  refine j_Vv (n := 0) (As := []) hx hb hml hown hts hw (j_recv hw hops2.1 rfl) (c_X1_clear l g z H (a + 7) Rs (by omega) hops2 ) gX2_reset_X1_clear rfl (by decide +kernel) ⟨Nat.le_of_ble_eq_true rfl, Nat.le_of_ble_eq_true rfl⟩ rfl hl.1 (Nat.le_of_ble_eq_true rfl) ⟨Nat.zero_le _, Nat.zero_le _⟩ dX2_reset_63 (fun H locs hr10 hw hsz => ?_) rfl
  obtain ⟨hops2, hf2⟩ := hr10
  have hOs2 := hOs2.kept (hf2.2 _ (by omega))
  have hses2 := hses2.kept (hf2.2 _ (by omega))
  have hpus2 := hpus2.kept (hf2.2 _ (by omega))
  have hdts2 := hdts2.kept (hf2.2 _ (by omega))
  have hlas2 := hlas2.kept (hf2.2 _ (by omega))
  have hfrs2 := hfrs2.kept (hf2.2 _ (by omega))
  have htks2 := htks2.kept (hf2.2 _ (by omega))
  have hcts2 := hcts2.kept (hf2.2 _ (by omega))
  have hlts2 := hlts2.kept (fun q _ _ => hf2.2 q (by omega))
  have hf := hf.step hf2 (by omega)
  refine lv_aload_n hx hb dX2_reset_66 rfl (lv_at hl 0 rfl) ?_
  refine j_get (T := TX2) (N := 9) (k := 7) hx hb hts hinX2 hown hw hOs2 rfl (by decide) (hts (.fieldLink RX2 37 "NightTrains$Store" "lately" "LNightTrains$Orders;") (by decide +kernel)) rfl dX2_reset_67 ?_
  refine j_Vv (n := 0) (As := []) hx hb hml hown hts hw (j_recv hw hlts2.1 rfl) (c_X1_clear l g z H (a + 9) (latR σ) (by omega) hlts2 ) gX2_reset_X1_clear rfl (by decide +kernel) ⟨Nat.le_of_ble_eq_true rfl, Nat.le_of_ble_eq_true rfl⟩ rfl hl.1 (Nat.le_of_ble_eq_true rfl) ⟨Nat.zero_le _, Nat.zero_le _⟩ dX2_reset_70 (fun H locs hr11 hw hsz => ?_) rfl
  obtain ⟨hlts2, hf2⟩ := hr11
  have hOs2 := hOs2.kept (hf2.2 _ (by omega))
  have hses2 := hses2.kept (hf2.2 _ (by omega))
  have hpus2 := hpus2.kept (hf2.2 _ (by omega))
  have hdts2 := hdts2.kept (hf2.2 _ (by omega))
  have hlas2 := hlas2.kept (hf2.2 _ (by omega))
  have hfrs2 := hfrs2.kept (hf2.2 _ (by omega))
  have htks2 := htks2.kept (hf2.2 _ (by omega))
  have hcts2 := hcts2.kept (hf2.2 _ (by omega))
  have hops2 := hops2.kept (fun q _ _ => hf2.2 q (by omega))
  have hf := hf.step hf2 (by omega)
  refine j_vret hx hb hr hlocks hH hw dX2_reset_73 ?_
  have hlt9 : jOr g H (a + 9) (latR S0) := hlts2
  have hop9 : jOr g H (a + 7) (opnR S0) := hops2
  have hS12 : jSo g H a S0 (opnR S0) := ⟨jFirst, (fun _ => (nI (50))), (fun _ => (nI (0))), (fun _ => (nI (0))), (fun _ => (-1)), (fun _ => (nI (0))), (fun _ => (nI (0))), hOs2, hses2, hpus2, hdts2, hlas2, hfrs2, htks2, hop9, hlt9, hcts2, Sto_S0⟩
  exact ⟨rfl, hS12, hf⟩

abbrev q_X2_number (g : jG) (H0 : Heap) (a : Nat) (u : Nat) (σ : Sg) : Option Value → Heap → Prop := jN (fun r H1 => H1 = H0 ∧ (r = nI (abN σ u)))
set_option maxHeartbeats 4000000 in
set_option maxRecDepth 100000 in
theorem c_X2_number (l : Launch) (g : jG) (z : Nat) (H0 : Heap) (a : Nat) (u : Nat) (σ : Sg) (hz : z ≤ a) (hS : jSo g H0 a σ (opnR σ)) (hs : okS σ) (hu11 : u < 11) : jM l g z yX2_number wsX2_number 2 45 [.ref a, .int (nI (u))] H0 (q_X2_number g H0 a u σ) := by
  refine j_of (cc := cX2_number) (n := 2) (ret := some .int) (by decide) rfl (Nat.le_of_ble_eq_true rfl) ?_
  intro p e s m below meth c hx hb hr hml hown hts hlocks hname hH hw ls hl
  have hl : lv_has ls 2 [(0, .ref a), (1, .int (nI (u)))] := hl
  have hinX2 : ∀ w ∈ u_ws RX2 TX2 9, w ∈ wsX2_number := by decide +kernel
  have hl21 := hS.len
  have hln := opnR_len (σ := σ)
  rw [hln] at hl21
  have hw9 : u = 0 ∨ u = 1 ∨ u = 2 ∨ u = 3 ∨ u = 4 ∨ u = 5 ∨ u = 6 ∨ u = 7 ∨ u = 8 ∨ u = 9 ∨ u = 10 := by omega
  rcases hw9 with hw9 | hw9 | hw9 | hw9 | hw9 | hw9 | hw9 | hw9 | hw9 | hw9 | hw9
  · rw [hw9] at hl
    refine lv_iload_n hx hb dX2_number_0 rfl (lv_at hl 1 rfl) ?_
    refine lv_lookup (off := 53) (tgt := 54) hx hb dX2_number_1 (by decide +kernel) (by decide +kernel) (by decide) ?_
    refine lv_iload_n hx hb dX2_number_54 rfl (lv_at hl 1 rfl) ?_
    refine jz_lt (tgt := 73) hx hb dX2_number_55 (by decide) (by omega) (fun c55 => absurd c55 (by omega)) (fun c55 => ?_)
    refine lv_iload_n hx hb dX2_number_58 rfl (lv_at hl 1 rfl) ?_
    refine lv_bipush (v := (nI (11))) hx hb dX2_number_59 (by decide) ?_
    refine jn_ge (tgt := 73) hx hb dX2_number_61 (by decide) (by omega) (by omega) (fun c61 => absurd c61 (by omega)) (fun c61 => ?_)
    refine lv_aload_n hx hb dX2_number_64 rfl (lv_at hl 0 rfl) ?_
    obtain ⟨ses1, pus1, dts1, las1, frs1, tks1, cts1, hOs1, hses1, hpus1, hdts1, hlas1, hfrs1, htks1, hops1, hlts1, hcts1, hSs1⟩ := hS
    have hOs1 : jO g H0 a 2 [.ref (a + 1), .ref (a + 2), .ref (a + 3), .ref (a + 4), .ref (a + 5), .ref (a + 6), .ref (a + 7), .ref (a + 9), .ref (a + 11)] := hOs1
    have hses1 : jI g H0 (a + 1) 5 ses1 := hses1
    have hpus1 : jI g H0 (a + 2) 4 pus1 := hpus1
    have hdts1 : jI g H0 (a + 3) 4 dts1 := hdts1
    have hlas1 : jI g H0 (a + 4) 4 las1 := hlas1
    have hfrs1 : jI g H0 (a + 5) 16 frs1 := hfrs1
    have htks1 : jI g H0 (a + 6) 16 tks1 := htks1
    have hcts1 : jI g H0 (a + 11) 11 cts1 := hcts1
    have hops1 : jOr g H0 (a + 7) (opnR σ) := hops1
    have hlts1 : jOr g H0 (a + 9) (latR σ) := hlts1
    refine j_get (T := TX2) (N := 9) (k := 8) hx hb hts hinX2 hown hw hOs1 rfl (by decide) (hts (.fieldLink RX2 40 "NightTrains$Store" "counts" "[I") (by decide +kernel)) rfl dX2_number_65 ?_
    refine lv_iload_n hx hb dX2_number_68 rfl (lv_at hl 1 rfl) ?_
    refine j_iald hx hb hw hcts1 (k := 0) rfl (by omega) (by omega) dX2_number_69 ?_
    refine j_eq (y := nI (σ.1 5)) (hSs1.rct (k := 0) (by decide)) ?_
    refine lv_goto (tgt := 74) hx hb dX2_number_70 (by decide) ?_
    refine j_iret hx hb hr hlocks hH hw dX2_number_74 ?_
    exact ⟨_, rfl, rfl, by rw [hw9]; rfl⟩
  · rw [hw9] at hl
    refine lv_iload_n hx hb dX2_number_0 rfl (lv_at hl 1 rfl) ?_
    refine lv_lookup (off := 35) (tgt := 36) hx hb dX2_number_1 (by decide +kernel) (by decide +kernel) (by decide) ?_
    refine lv_aload_n hx hb dX2_number_36 rfl (lv_at hl 0 rfl) ?_
    obtain ⟨ses2, pus2, dts2, las2, frs2, tks2, cts2, hOs2, hses2, hpus2, hdts2, hlas2, hfrs2, htks2, hops2, hlts2, hcts2, hSs2⟩ := hS
    have hOs2 : jO g H0 a 2 [.ref (a + 1), .ref (a + 2), .ref (a + 3), .ref (a + 4), .ref (a + 5), .ref (a + 6), .ref (a + 7), .ref (a + 9), .ref (a + 11)] := hOs2
    have hses2 : jI g H0 (a + 1) 5 ses2 := hses2
    have hpus2 : jI g H0 (a + 2) 4 pus2 := hpus2
    have hdts2 : jI g H0 (a + 3) 4 dts2 := hdts2
    have hlas2 : jI g H0 (a + 4) 4 las2 := hlas2
    have hfrs2 : jI g H0 (a + 5) 16 frs2 := hfrs2
    have htks2 : jI g H0 (a + 6) 16 tks2 := htks2
    have hcts2 : jI g H0 (a + 11) 11 cts2 := hcts2
    have hops2 : jOr g H0 (a + 7) (opnR σ) := hops2
    have hlts2 : jOr g H0 (a + 9) (latR σ) := hlts2
    refine j_get (T := TX2) (N := 9) (k := 6) hx hb hts hinX2 hown hw hOs2 rfl (by decide) (hts (.fieldLink RX2 33 "NightTrains$Store" "open" "LNightTrains$Orders;") (by decide +kernel)) rfl dX2_number_37 ?_
    refine j_Vp (n := 0) (As := []) hx hb hml hown hts hw (j_recv hw hops2.1 rfl) (c_X1_size l g z H0 (a + 7) (opnR σ) (by omega) hops2 ) gX2_number_X1_size rfl (by decide +kernel) ⟨Nat.le_of_ble_eq_true rfl, Nat.le_of_ble_eq_true rfl⟩ rfl hl.1 (Nat.le_of_ble_eq_true rfl) ⟨Nat.zero_le _, Nat.zero_le _⟩ dX2_number_40 (fun r3 locs hr3 hw => ?_) rfl
    obtain rfl : r3 = (nI ((opnR σ).length)) := hr3
    refine j_iret hx hb hr hlocks hH hw dX2_number_43 ?_
    exact ⟨_, rfl, rfl, by rw [hw9, hln]; rfl⟩
  · rw [hw9] at hl
    refine lv_iload_n hx hb dX2_number_0 rfl (lv_at hl 1 rfl) ?_
    refine lv_lookup (off := 53) (tgt := 54) hx hb dX2_number_1 (by decide +kernel) (by decide +kernel) (by decide) ?_
    refine lv_iload_n hx hb dX2_number_54 rfl (lv_at hl 1 rfl) ?_
    refine jz_lt (tgt := 73) hx hb dX2_number_55 (by decide) (by omega) (fun c55 => absurd c55 (by omega)) (fun c55 => ?_)
    refine lv_iload_n hx hb dX2_number_58 rfl (lv_at hl 1 rfl) ?_
    refine lv_bipush (v := (nI (11))) hx hb dX2_number_59 (by decide) ?_
    refine jn_ge (tgt := 73) hx hb dX2_number_61 (by decide) (by omega) (by omega) (fun c61 => absurd c61 (by omega)) (fun c61 => ?_)
    refine lv_aload_n hx hb dX2_number_64 rfl (lv_at hl 0 rfl) ?_
    obtain ⟨ses4, pus4, dts4, las4, frs4, tks4, cts4, hOs4, hses4, hpus4, hdts4, hlas4, hfrs4, htks4, hops4, hlts4, hcts4, hSs4⟩ := hS
    have hOs4 : jO g H0 a 2 [.ref (a + 1), .ref (a + 2), .ref (a + 3), .ref (a + 4), .ref (a + 5), .ref (a + 6), .ref (a + 7), .ref (a + 9), .ref (a + 11)] := hOs4
    have hses4 : jI g H0 (a + 1) 5 ses4 := hses4
    have hpus4 : jI g H0 (a + 2) 4 pus4 := hpus4
    have hdts4 : jI g H0 (a + 3) 4 dts4 := hdts4
    have hlas4 : jI g H0 (a + 4) 4 las4 := hlas4
    have hfrs4 : jI g H0 (a + 5) 16 frs4 := hfrs4
    have htks4 : jI g H0 (a + 6) 16 tks4 := htks4
    have hcts4 : jI g H0 (a + 11) 11 cts4 := hcts4
    have hops4 : jOr g H0 (a + 7) (opnR σ) := hops4
    have hlts4 : jOr g H0 (a + 9) (latR σ) := hlts4
    refine j_get (T := TX2) (N := 9) (k := 8) hx hb hts hinX2 hown hw hOs4 rfl (by decide) (hts (.fieldLink RX2 40 "NightTrains$Store" "counts" "[I") (by decide +kernel)) rfl dX2_number_65 ?_
    refine lv_iload_n hx hb dX2_number_68 rfl (lv_at hl 1 rfl) ?_
    refine j_iald hx hb hw hcts4 (k := 2) rfl (by omega) (by omega) dX2_number_69 ?_
    refine j_eq (y := nI (σ.1 7)) (hSs4.rct (k := 2) (by decide)) ?_
    refine lv_goto (tgt := 74) hx hb dX2_number_70 (by decide) ?_
    refine j_iret hx hb hr hlocks hH hw dX2_number_74 ?_
    exact ⟨_, rfl, rfl, by rw [hw9]; rfl⟩
  · rw [hw9] at hl
    refine lv_iload_n hx hb dX2_number_0 rfl (lv_at hl 1 rfl) ?_
    refine lv_lookup (off := 53) (tgt := 54) hx hb dX2_number_1 (by decide +kernel) (by decide +kernel) (by decide) ?_
    refine lv_iload_n hx hb dX2_number_54 rfl (lv_at hl 1 rfl) ?_
    refine jz_lt (tgt := 73) hx hb dX2_number_55 (by decide) (by omega) (fun c55 => absurd c55 (by omega)) (fun c55 => ?_)
    refine lv_iload_n hx hb dX2_number_58 rfl (lv_at hl 1 rfl) ?_
    refine lv_bipush (v := (nI (11))) hx hb dX2_number_59 (by decide) ?_
    refine jn_ge (tgt := 73) hx hb dX2_number_61 (by decide) (by omega) (by omega) (fun c61 => absurd c61 (by omega)) (fun c61 => ?_)
    refine lv_aload_n hx hb dX2_number_64 rfl (lv_at hl 0 rfl) ?_
    obtain ⟨ses5, pus5, dts5, las5, frs5, tks5, cts5, hOs5, hses5, hpus5, hdts5, hlas5, hfrs5, htks5, hops5, hlts5, hcts5, hSs5⟩ := hS
    have hOs5 : jO g H0 a 2 [.ref (a + 1), .ref (a + 2), .ref (a + 3), .ref (a + 4), .ref (a + 5), .ref (a + 6), .ref (a + 7), .ref (a + 9), .ref (a + 11)] := hOs5
    have hses5 : jI g H0 (a + 1) 5 ses5 := hses5
    have hpus5 : jI g H0 (a + 2) 4 pus5 := hpus5
    have hdts5 : jI g H0 (a + 3) 4 dts5 := hdts5
    have hlas5 : jI g H0 (a + 4) 4 las5 := hlas5
    have hfrs5 : jI g H0 (a + 5) 16 frs5 := hfrs5
    have htks5 : jI g H0 (a + 6) 16 tks5 := htks5
    have hcts5 : jI g H0 (a + 11) 11 cts5 := hcts5
    have hops5 : jOr g H0 (a + 7) (opnR σ) := hops5
    have hlts5 : jOr g H0 (a + 9) (latR σ) := hlts5
    refine j_get (T := TX2) (N := 9) (k := 8) hx hb hts hinX2 hown hw hOs5 rfl (by decide) (hts (.fieldLink RX2 40 "NightTrains$Store" "counts" "[I") (by decide +kernel)) rfl dX2_number_65 ?_
    refine lv_iload_n hx hb dX2_number_68 rfl (lv_at hl 1 rfl) ?_
    refine j_iald hx hb hw hcts5 (k := 3) rfl (by omega) (by omega) dX2_number_69 ?_
    refine j_eq (y := nI (σ.1 8)) (hSs5.rct (k := 3) (by decide)) ?_
    refine lv_goto (tgt := 74) hx hb dX2_number_70 (by decide) ?_
    refine j_iret hx hb hr hlocks hH hw dX2_number_74 ?_
    exact ⟨_, rfl, rfl, by rw [hw9]; rfl⟩
  · rw [hw9] at hl
    refine lv_iload_n hx hb dX2_number_0 rfl (lv_at hl 1 rfl) ?_
    refine lv_lookup (off := 53) (tgt := 54) hx hb dX2_number_1 (by decide +kernel) (by decide +kernel) (by decide) ?_
    refine lv_iload_n hx hb dX2_number_54 rfl (lv_at hl 1 rfl) ?_
    refine jz_lt (tgt := 73) hx hb dX2_number_55 (by decide) (by omega) (fun c55 => absurd c55 (by omega)) (fun c55 => ?_)
    refine lv_iload_n hx hb dX2_number_58 rfl (lv_at hl 1 rfl) ?_
    refine lv_bipush (v := (nI (11))) hx hb dX2_number_59 (by decide) ?_
    refine jn_ge (tgt := 73) hx hb dX2_number_61 (by decide) (by omega) (by omega) (fun c61 => absurd c61 (by omega)) (fun c61 => ?_)
    refine lv_aload_n hx hb dX2_number_64 rfl (lv_at hl 0 rfl) ?_
    obtain ⟨ses6, pus6, dts6, las6, frs6, tks6, cts6, hOs6, hses6, hpus6, hdts6, hlas6, hfrs6, htks6, hops6, hlts6, hcts6, hSs6⟩ := hS
    have hOs6 : jO g H0 a 2 [.ref (a + 1), .ref (a + 2), .ref (a + 3), .ref (a + 4), .ref (a + 5), .ref (a + 6), .ref (a + 7), .ref (a + 9), .ref (a + 11)] := hOs6
    have hses6 : jI g H0 (a + 1) 5 ses6 := hses6
    have hpus6 : jI g H0 (a + 2) 4 pus6 := hpus6
    have hdts6 : jI g H0 (a + 3) 4 dts6 := hdts6
    have hlas6 : jI g H0 (a + 4) 4 las6 := hlas6
    have hfrs6 : jI g H0 (a + 5) 16 frs6 := hfrs6
    have htks6 : jI g H0 (a + 6) 16 tks6 := htks6
    have hcts6 : jI g H0 (a + 11) 11 cts6 := hcts6
    have hops6 : jOr g H0 (a + 7) (opnR σ) := hops6
    have hlts6 : jOr g H0 (a + 9) (latR σ) := hlts6
    refine j_get (T := TX2) (N := 9) (k := 8) hx hb hts hinX2 hown hw hOs6 rfl (by decide) (hts (.fieldLink RX2 40 "NightTrains$Store" "counts" "[I") (by decide +kernel)) rfl dX2_number_65 ?_
    refine lv_iload_n hx hb dX2_number_68 rfl (lv_at hl 1 rfl) ?_
    refine j_iald hx hb hw hcts6 (k := 4) rfl (by omega) (by omega) dX2_number_69 ?_
    refine j_eq (y := nI (σ.1 9)) (hSs6.rct (k := 4) (by decide)) ?_
    refine lv_goto (tgt := 74) hx hb dX2_number_70 (by decide) ?_
    refine j_iret hx hb hr hlocks hH hw dX2_number_74 ?_
    exact ⟨_, rfl, rfl, by rw [hw9]; rfl⟩
  · rw [hw9] at hl
    refine lv_iload_n hx hb dX2_number_0 rfl (lv_at hl 1 rfl) ?_
    refine lv_lookup (off := 53) (tgt := 54) hx hb dX2_number_1 (by decide +kernel) (by decide +kernel) (by decide) ?_
    refine lv_iload_n hx hb dX2_number_54 rfl (lv_at hl 1 rfl) ?_
    refine jz_lt (tgt := 73) hx hb dX2_number_55 (by decide) (by omega) (fun c55 => absurd c55 (by omega)) (fun c55 => ?_)
    refine lv_iload_n hx hb dX2_number_58 rfl (lv_at hl 1 rfl) ?_
    refine lv_bipush (v := (nI (11))) hx hb dX2_number_59 (by decide) ?_
    refine jn_ge (tgt := 73) hx hb dX2_number_61 (by decide) (by omega) (by omega) (fun c61 => absurd c61 (by omega)) (fun c61 => ?_)
    refine lv_aload_n hx hb dX2_number_64 rfl (lv_at hl 0 rfl) ?_
    obtain ⟨ses7, pus7, dts7, las7, frs7, tks7, cts7, hOs7, hses7, hpus7, hdts7, hlas7, hfrs7, htks7, hops7, hlts7, hcts7, hSs7⟩ := hS
    have hOs7 : jO g H0 a 2 [.ref (a + 1), .ref (a + 2), .ref (a + 3), .ref (a + 4), .ref (a + 5), .ref (a + 6), .ref (a + 7), .ref (a + 9), .ref (a + 11)] := hOs7
    have hses7 : jI g H0 (a + 1) 5 ses7 := hses7
    have hpus7 : jI g H0 (a + 2) 4 pus7 := hpus7
    have hdts7 : jI g H0 (a + 3) 4 dts7 := hdts7
    have hlas7 : jI g H0 (a + 4) 4 las7 := hlas7
    have hfrs7 : jI g H0 (a + 5) 16 frs7 := hfrs7
    have htks7 : jI g H0 (a + 6) 16 tks7 := htks7
    have hcts7 : jI g H0 (a + 11) 11 cts7 := hcts7
    have hops7 : jOr g H0 (a + 7) (opnR σ) := hops7
    have hlts7 : jOr g H0 (a + 9) (latR σ) := hlts7
    refine j_get (T := TX2) (N := 9) (k := 8) hx hb hts hinX2 hown hw hOs7 rfl (by decide) (hts (.fieldLink RX2 40 "NightTrains$Store" "counts" "[I") (by decide +kernel)) rfl dX2_number_65 ?_
    refine lv_iload_n hx hb dX2_number_68 rfl (lv_at hl 1 rfl) ?_
    refine j_iald hx hb hw hcts7 (k := 5) rfl (by omega) (by omega) dX2_number_69 ?_
    refine j_eq (y := nI (σ.1 10)) (hSs7.rct (k := 5) (by decide)) ?_
    refine lv_goto (tgt := 74) hx hb dX2_number_70 (by decide) ?_
    refine j_iret hx hb hr hlocks hH hw dX2_number_74 ?_
    exact ⟨_, rfl, rfl, by rw [hw9]; rfl⟩
  · rw [hw9] at hl
    refine lv_iload_n hx hb dX2_number_0 rfl (lv_at hl 1 rfl) ?_
    refine lv_lookup (off := 43) (tgt := 44) hx hb dX2_number_1 (by decide +kernel) (by decide +kernel) (by decide) ?_
    refine lv_aload_n hx hb dX2_number_44 rfl (lv_at hl 0 rfl) ?_
    refine j_Vp (n := 0) (As := []) hx hb hml hown hts hw (j_recv hw hS.obj rfl) (c_X2_feesHeld l g z H0 a σ (opnR σ) hz hS ) gX2_number_X2_feesHeld rfl (by decide +kernel) ⟨Nat.le_of_ble_eq_true rfl, Nat.le_of_ble_eq_true rfl⟩ rfl hl.1 (Nat.le_of_ble_eq_true rfl) ⟨Nat.zero_le _, Nat.zero_le _⟩ dX2_number_45 (fun r8 locs hr8 hw => ?_) rfl
    obtain rfl : r8 = (allR (opnR σ)) := hr8
    refine j_iret hx hb hr hlocks hH hw dX2_number_48 ?_
    exact ⟨_, rfl, rfl, by rw [hw9]; exact allR_o.trans (congrArg nI (asum_h (fun o ho => (hs.2.2.2.1 o ho).2.1)))⟩
  · rw [hw9] at hl
    refine lv_iload_n hx hb dX2_number_0 rfl (lv_at hl 1 rfl) ?_
    refine lv_lookup (off := 53) (tgt := 54) hx hb dX2_number_1 (by decide +kernel) (by decide +kernel) (by decide) ?_
    refine lv_iload_n hx hb dX2_number_54 rfl (lv_at hl 1 rfl) ?_
    refine jz_lt (tgt := 73) hx hb dX2_number_55 (by decide) (by omega) (fun c55 => absurd c55 (by omega)) (fun c55 => ?_)
    refine lv_iload_n hx hb dX2_number_58 rfl (lv_at hl 1 rfl) ?_
    refine lv_bipush (v := (nI (11))) hx hb dX2_number_59 (by decide) ?_
    refine jn_ge (tgt := 73) hx hb dX2_number_61 (by decide) (by omega) (by omega) (fun c61 => absurd c61 (by omega)) (fun c61 => ?_)
    refine lv_aload_n hx hb dX2_number_64 rfl (lv_at hl 0 rfl) ?_
    obtain ⟨ses9, pus9, dts9, las9, frs9, tks9, cts9, hOs9, hses9, hpus9, hdts9, hlas9, hfrs9, htks9, hops9, hlts9, hcts9, hSs9⟩ := hS
    have hOs9 : jO g H0 a 2 [.ref (a + 1), .ref (a + 2), .ref (a + 3), .ref (a + 4), .ref (a + 5), .ref (a + 6), .ref (a + 7), .ref (a + 9), .ref (a + 11)] := hOs9
    have hses9 : jI g H0 (a + 1) 5 ses9 := hses9
    have hpus9 : jI g H0 (a + 2) 4 pus9 := hpus9
    have hdts9 : jI g H0 (a + 3) 4 dts9 := hdts9
    have hlas9 : jI g H0 (a + 4) 4 las9 := hlas9
    have hfrs9 : jI g H0 (a + 5) 16 frs9 := hfrs9
    have htks9 : jI g H0 (a + 6) 16 tks9 := htks9
    have hcts9 : jI g H0 (a + 11) 11 cts9 := hcts9
    have hops9 : jOr g H0 (a + 7) (opnR σ) := hops9
    have hlts9 : jOr g H0 (a + 9) (latR σ) := hlts9
    refine j_get (T := TX2) (N := 9) (k := 8) hx hb hts hinX2 hown hw hOs9 rfl (by decide) (hts (.fieldLink RX2 40 "NightTrains$Store" "counts" "[I") (by decide +kernel)) rfl dX2_number_65 ?_
    refine lv_iload_n hx hb dX2_number_68 rfl (lv_at hl 1 rfl) ?_
    refine j_iald hx hb hw hcts9 (k := 7) rfl (by omega) (by omega) dX2_number_69 ?_
    refine j_eq (y := nI (σ.1 11)) (hSs9.rct (k := 7) (by decide)) ?_
    refine lv_goto (tgt := 74) hx hb dX2_number_70 (by decide) ?_
    refine j_iret hx hb hr hlocks hH hw dX2_number_74 ?_
    exact ⟨_, rfl, rfl, by rw [hw9]; rfl⟩
  · rw [hw9] at hl
    refine lv_iload_n hx hb dX2_number_0 rfl (lv_at hl 1 rfl) ?_
    refine lv_lookup (off := 48) (tgt := 49) hx hb dX2_number_1 (by decide +kernel) (by decide +kernel) (by decide) ?_
    refine lv_aload_n hx hb dX2_number_49 rfl (lv_at hl 0 rfl) ?_
    refine j_Vp (n := 0) (As := []) hx hb hml hown hts hw (j_recv hw hS.obj rfl) (c_X2_lotsInFront l g z H0 a σ (opnR σ) hz hS (by first | assumption | omega)) gX2_number_X2_lotsInFront rfl (by decide +kernel) ⟨Nat.le_of_ble_eq_true rfl, Nat.le_of_ble_eq_true rfl⟩ rfl hl.1 (Nat.le_of_ble_eq_true rfl) ⟨Nat.zero_le _, Nat.zero_le _⟩ dX2_number_50 (fun r10 locs hr10 hw => ?_) rfl
    obtain rfl : r10 = (nI (fcnt σ.1 16)) := hr10
    refine j_iret hx hb hr hlocks hH hw dX2_number_53 ?_
    exact ⟨_, rfl, rfl, by rw [hw9]; rfl⟩
  · rw [hw9] at hl
    refine lv_iload_n hx hb dX2_number_0 rfl (lv_at hl 1 rfl) ?_
    refine lv_lookup (off := 53) (tgt := 54) hx hb dX2_number_1 (by decide +kernel) (by decide +kernel) (by decide) ?_
    refine lv_iload_n hx hb dX2_number_54 rfl (lv_at hl 1 rfl) ?_
    refine jz_lt (tgt := 73) hx hb dX2_number_55 (by decide) (by omega) (fun c55 => absurd c55 (by omega)) (fun c55 => ?_)
    refine lv_iload_n hx hb dX2_number_58 rfl (lv_at hl 1 rfl) ?_
    refine lv_bipush (v := (nI (11))) hx hb dX2_number_59 (by decide) ?_
    refine jn_ge (tgt := 73) hx hb dX2_number_61 (by decide) (by omega) (by omega) (fun c61 => absurd c61 (by omega)) (fun c61 => ?_)
    refine lv_aload_n hx hb dX2_number_64 rfl (lv_at hl 0 rfl) ?_
    obtain ⟨ses11, pus11, dts11, las11, frs11, tks11, cts11, hOs11, hses11, hpus11, hdts11, hlas11, hfrs11, htks11, hops11, hlts11, hcts11, hSs11⟩ := hS
    have hOs11 : jO g H0 a 2 [.ref (a + 1), .ref (a + 2), .ref (a + 3), .ref (a + 4), .ref (a + 5), .ref (a + 6), .ref (a + 7), .ref (a + 9), .ref (a + 11)] := hOs11
    have hses11 : jI g H0 (a + 1) 5 ses11 := hses11
    have hpus11 : jI g H0 (a + 2) 4 pus11 := hpus11
    have hdts11 : jI g H0 (a + 3) 4 dts11 := hdts11
    have hlas11 : jI g H0 (a + 4) 4 las11 := hlas11
    have hfrs11 : jI g H0 (a + 5) 16 frs11 := hfrs11
    have htks11 : jI g H0 (a + 6) 16 tks11 := htks11
    have hcts11 : jI g H0 (a + 11) 11 cts11 := hcts11
    have hops11 : jOr g H0 (a + 7) (opnR σ) := hops11
    have hlts11 : jOr g H0 (a + 9) (latR σ) := hlts11
    refine j_get (T := TX2) (N := 9) (k := 8) hx hb hts hinX2 hown hw hOs11 rfl (by decide) (hts (.fieldLink RX2 40 "NightTrains$Store" "counts" "[I") (by decide +kernel)) rfl dX2_number_65 ?_
    refine lv_iload_n hx hb dX2_number_68 rfl (lv_at hl 1 rfl) ?_
    refine j_iald hx hb hw hcts11 (k := 9) rfl (by omega) (by omega) dX2_number_69 ?_
    refine j_eq (y := nI (σ.1 12)) (hSs11.rct (k := 9) (by decide)) ?_
    refine lv_goto (tgt := 74) hx hb dX2_number_70 (by decide) ?_
    refine j_iret hx hb hr hlocks hH hw dX2_number_74 ?_
    exact ⟨_, rfl, rfl, by rw [hw9]; rfl⟩
  · rw [hw9] at hl
    refine lv_iload_n hx hb dX2_number_0 rfl (lv_at hl 1 rfl) ?_
    refine lv_lookup (off := 53) (tgt := 54) hx hb dX2_number_1 (by decide +kernel) (by decide +kernel) (by decide) ?_
    refine lv_iload_n hx hb dX2_number_54 rfl (lv_at hl 1 rfl) ?_
    refine jz_lt (tgt := 73) hx hb dX2_number_55 (by decide) (by omega) (fun c55 => absurd c55 (by omega)) (fun c55 => ?_)
    refine lv_iload_n hx hb dX2_number_58 rfl (lv_at hl 1 rfl) ?_
    refine lv_bipush (v := (nI (11))) hx hb dX2_number_59 (by decide) ?_
    refine jn_ge (tgt := 73) hx hb dX2_number_61 (by decide) (by omega) (by omega) (fun c61 => absurd c61 (by omega)) (fun c61 => ?_)
    refine lv_aload_n hx hb dX2_number_64 rfl (lv_at hl 0 rfl) ?_
    obtain ⟨ses12, pus12, dts12, las12, frs12, tks12, cts12, hOs12, hses12, hpus12, hdts12, hlas12, hfrs12, htks12, hops12, hlts12, hcts12, hSs12⟩ := hS
    have hOs12 : jO g H0 a 2 [.ref (a + 1), .ref (a + 2), .ref (a + 3), .ref (a + 4), .ref (a + 5), .ref (a + 6), .ref (a + 7), .ref (a + 9), .ref (a + 11)] := hOs12
    have hses12 : jI g H0 (a + 1) 5 ses12 := hses12
    have hpus12 : jI g H0 (a + 2) 4 pus12 := hpus12
    have hdts12 : jI g H0 (a + 3) 4 dts12 := hdts12
    have hlas12 : jI g H0 (a + 4) 4 las12 := hlas12
    have hfrs12 : jI g H0 (a + 5) 16 frs12 := hfrs12
    have htks12 : jI g H0 (a + 6) 16 tks12 := htks12
    have hcts12 : jI g H0 (a + 11) 11 cts12 := hcts12
    have hops12 : jOr g H0 (a + 7) (opnR σ) := hops12
    have hlts12 : jOr g H0 (a + 9) (latR σ) := hlts12
    refine j_get (T := TX2) (N := 9) (k := 8) hx hb hts hinX2 hown hw hOs12 rfl (by decide) (hts (.fieldLink RX2 40 "NightTrains$Store" "counts" "[I") (by decide +kernel)) rfl dX2_number_65 ?_
    refine lv_iload_n hx hb dX2_number_68 rfl (lv_at hl 1 rfl) ?_
    refine j_iald hx hb hw hcts12 (k := 10) rfl (by omega) (by omega) dX2_number_69 ?_
    refine j_eq (y := nI (σ.1 13)) (hSs12.rct (k := 10) (by decide)) ?_
    refine lv_goto (tgt := 74) hx hb dX2_number_70 (by decide) ?_
    refine j_iret hx hb hr hlocks hH hw dX2_number_74 ?_
    exact ⟨_, rfl, rfl, by rw [hw9]; rfl⟩

abbrev q_X0_isEmpty (g : jG) (H0 : Heap) (a : Nat) (hi : List Sg) : Option Value → Heap → Prop := jN (fun r H1 => H1 = H0 ∧ ((r = nI 1 ∧ hi = []) ∨ (r = nI 0 ∧ ¬ hi = [])))
set_option maxHeartbeats 4000000 in
set_option maxRecDepth 100000 in
theorem c_X0_isEmpty (l : Launch) (g : jG) (z : Nat) (H0 : Heap) (a : Nat) (hi : List Sg) (hz : z ≤ a) (hHi : jHi g H0 a hi) : jM l g z yX0_isEmpty wsX0_isEmpty 0 0 [.ref a] H0 (q_X0_isEmpty g H0 a hi) := by
  refine j_of (cc := cX0_isEmpty) (n := 1) (ret := some .boolean) (by decide) rfl (Nat.le_of_ble_eq_true rfl) ?_
  intro p e s m below meth c hx hb hr hml hown hts hlocks hname hH hw ls hl
  have hl : lv_has ls 1 [(0, .ref a)] := hl
  have hinX0 : ∀ w ∈ u_ws RX0 TX0 3, w ∈ wsX0_isEmpty := by decide +kernel
  obtain ⟨nx, hnx, hlen, hO, hRf, hall, hst⟩ := id hHi
  refine lv_aload_n hx hb dX0_isEmpty_0 rfl (lv_at hl 0 rfl) ?_
  refine j_get (T := TX0) (N := 3) (k := 2) hx hb hts hinX0 hown hw hO rfl (by decide) (hts (.fieldLink RX0 18 "NightTrains$History" "count" "I") (by decide +kernel)) rfl dX0_isEmpty_1 ?_
  refine jz_ne (tgt := 11) hx hb dX0_isEmpty_4 (by decide) (by omega) (fun c4 => ?_) (fun c4 => ?_)
  · refine lv_iconst (v := (nI (0))) hx hb dX0_isEmpty_11 (by decide) ?_
    refine j_zret hx hb hr hlocks hH hw (Or.inl rfl) dX0_isEmpty_12 ?_
    exact ⟨_, rfl, rfl, Or.inr ⟨rfl, fun q => by rw [q] at c4; exact c4 rfl⟩⟩
  · refine lv_iconst (v := (nI (1))) hx hb dX0_isEmpty_7 (by decide) ?_
    refine lv_goto (tgt := 12) hx hb dX0_isEmpty_8 (by decide) ?_
    refine j_zret hx hb hr hlocks hH hw (Or.inr rfl) dX0_isEmpty_12 ?_
    exact ⟨_, rfl, rfl, Or.inl ⟨rfl, List.length_eq_zero_iff.mp (by omega)⟩⟩

abbrev q_X0_forget (g : jG) (H0 : Heap) (a : Nat) (hi : List Sg) : Option Value → Heap → Prop := jV (fun H1 => jHi g H1 a [] ∧ jF a 170 H0 H1)
set_option maxHeartbeats 4000000 in
set_option maxRecDepth 100000 in
theorem c_X0_forget (l : Launch) (g : jG) (z : Nat) (H0 : Heap) (a : Nat) (hi : List Sg) (hz : z ≤ a) (hHi : jHi g H0 a hi) : jM l g z yX0_forget wsX0_forget 0 0 [.ref a] H0 (q_X0_forget g H0 a hi) := by
  refine j_of (cc := cX0_forget) (n := 1) (ret := none) (by decide) rfl (Nat.le_of_ble_eq_true rfl) ?_
  intro p e s m below meth c hx hb hr hml hown hts hlocks hname hH hw ls hl
  have hl : lv_has ls 1 [(0, .ref a)] := hl
  have hinX0 : ∀ w ∈ u_ws RX0 TX0 3, w ∈ wsX0_forget := by decide +kernel
  obtain ⟨nx, hnx, hlen, hO, hRf, hall, hst⟩ := id hHi
  have hf : jF a 1 H0 H0 := jF.rf
  refine lv_aload_n hx hb dX0_forget_0 rfl (lv_at hl 0 rfl) ?_
  refine lv_iconst (v := (nI (0))) hx hb dX0_forget_1 (by decide) ?_
  refine j_put (T := TX0) (N := 3) (k := 2) (ty := .int) hx hb hts hinX0 tyX0 tyX0_ok nmX0 hown hw hO hz rfl (by decide) (hts (.fieldLink RX0 18 "NightTrains$History" "count" "I") (by decide +kernel)) rfl (by decide +kernel) rfl rfl (Nat.le_of_ble_eq_true rfl) dX0_forget_2 (fun H locs hw hO oq hsz => ?_)
  have hO : jO g H a 0 [.ref _, .int _, .int _] := hO
  have hRf := hRf.kept (oq _ (by omega))
  have hf := hf.put oq hsz (by omega)
  refine j_vret hx hb hr hlocks hH hw dX0_forget_5 ?_
  refine ⟨rfl, ⟨nx, hnx, Nat.zero_le _, hO, hRf, fun i hi9 => ?_, fun i s hs => ?_⟩, ⟨hf.1, fun q hq => hf.2 q (by omega)⟩⟩
  · obtain ⟨τ, R, h⟩ := hall i hi9; exact ⟨τ, R, h.kept (fun q _ _ => hf.2 q (by omega))⟩
  · simp at hs

abbrev q_X0_remember (g : jG) (H0 : Heap) (a : Nat) (b : Nat) (hi : List Sg) (σ : Sg) : Option Value → Heap → Prop := jV (fun H1 => jHi g H1 a (pushH hi σ) ∧ jF a 170 H0 H1)
set_option maxHeartbeats 4000000 in
set_option maxRecDepth 100000 in
theorem c_X0_remember (l : Launch) (g : jG) (z : Nat) (H0 : Heap) (a : Nat) (b : Nat) (hi : List Sg) (σ : Sg) (hz : z ≤ a) (hHi : jHi g H0 a hi) (hS : jSo g H0 b σ (opnR σ)) (hd : a + 170 ≤ b ∨ b + 12 ≤ a) (hN : okN σ) : jM l g z yX0_remember wsX0_remember 5 123 [.ref a, .ref b] H0 (q_X0_remember g H0 a b hi σ) := by
  refine j_of (cc := cX0_remember) (n := 2) (ret := none) (by decide) rfl (Nat.le_of_ble_eq_true rfl) ?_
  intro p e s m below meth c hx hb hr hml hown hts hlocks hname hH hw ls hl
  have hl : lv_has ls 2 [(0, .ref a), (1, .ref b)] := hl
  have hinX0 : ∀ w ∈ u_ws RX0 TX0 3, w ∈ wsX0_remember := by decide +kernel
  obtain ⟨nx, hnx, hlen, hO, hRf, hall, hst⟩ := id hHi
  have hf : jFh a nx H0 H0 := jFh.rf
  obtain ⟨τ9, R9, hS9⟩ := hall nx hnx
  refine lv_aload_n hx hb dX0_remember_0 rfl (lv_at hl 0 rfl) ?_
  refine j_get (T := TX0) (N := 3) (k := 0) hx hb hts hinX0 hown hw hO rfl (by decide) (hts (.fieldLink RX0 11 "NightTrains$History" "states" "[LNightTrains$Store;") (by decide +kernel)) rfl dX0_remember_1 ?_
  refine lv_aload_n hx hb dX0_remember_4 rfl (lv_at hl 0 rfl) ?_
  refine j_get (T := TX0) (N := 3) (k := 1) hx hb hts hinX0 hown hw hO rfl (by decide) (hts (.fieldLink RX0 22 "NightTrains$History" "next" "I") (by decide +kernel)) rfl dX0_remember_5 ?_
  refine j_aaldR hx hb hw hRf (k := nx) (b := (a + 2 + 12 * nx)) rfl (by omega) (by omega) rfl dX0_remember_8 ?_
  refine lv_aload_n hx hb dX0_remember_9 rfl (lv_at hl 1 rfl) ?_
  refine j_Vv (n := 1) (As := [.ref b]) hx hb hml hown hts hw (j_recv hw hS9.obj rfl) (c_X2_copyFrom l g z H0 (a + 2 + 12 * nx) b τ9 R9 σ (opnR σ) (by omega) hS9 hS (by first | assumption | omega)) gX0_remember_X2_copyFrom rfl (by decide +kernel) ⟨Nat.le_of_ble_eq_true rfl, Nat.le_of_ble_eq_true rfl⟩ rfl hl.1 (Nat.le_of_ble_eq_true rfl) ⟨Nat.zero_le _, Nat.zero_le _⟩ dX0_remember_10 (fun H locs hr1 hw hsz => ?_) rfl
  obtain ⟨hS9, hf2⟩ := hr1
  have hO := hO.kept (hf2.2 _ (by omega))
  have hRf := hRf.kept (hf2.2 _ (by omega))
  have hS := hS.kept (fun q _ _ => hf2.2 q (by omega))
  have hf := hf.step hf2 (by omega)
  refine lv_aload_n hx hb dX0_remember_13 rfl (lv_at hl 0 rfl) ?_
  refine lv_aload_n hx hb dX0_remember_14 rfl (lv_at hl 0 rfl) ?_
  refine j_get (T := TX0) (N := 3) (k := 1) hx hb hts hinX0 hown hw hO rfl (by decide) (hts (.fieldLink RX0 22 "NightTrains$History" "next" "I") (by decide +kernel)) rfl dX0_remember_15 ?_
  refine lv_iconst (v := (nI (1))) hx hb dX0_remember_18 (by decide) ?_
  refine j_addN hx hb dX0_remember_19 ?_
  refine lv_bipush (v := (nI (14))) hx hb dX0_remember_20 (by decide) ?_
  refine j_remN hx hb (by omega) (by omega) (by omega) dX0_remember_22 ?_
  refine j_put (T := TX0) (N := 3) (k := 1) (ty := .int) hx hb hts hinX0 tyX0 tyX0_ok nmX0 hown hw hO hz rfl (by decide) (hts (.fieldLink RX0 22 "NightTrains$History" "next" "I") (by decide +kernel)) rfl (by decide +kernel) rfl rfl (Nat.le_of_ble_eq_true rfl) dX0_remember_23 (fun H locs hw hO oq hsz => ?_)
  have hO : jO g H a 0 [.ref _, .int _, .int _] := hO
  have hRf := hRf.kept (oq _ (by omega))
  have hS := hS.kept (fun q _ _ => oq q (by omega))
  have hS9 := hS9.kept (fun q _ _ => oq q (by omega))
  have hf := hf.put oq hsz (by omega)
  refine lv_aload_n hx hb dX0_remember_26 rfl (lv_at hl 0 rfl) ?_
  refine lv_aload_n hx hb dX0_remember_27 rfl (lv_at hl 0 rfl) ?_
  refine j_get (T := TX0) (N := 3) (k := 2) hx hb hts hinX0 hown hw hO rfl (by decide) (hts (.fieldLink RX0 18 "NightTrains$History" "count" "I") (by decide +kernel)) rfl dX0_remember_28 ?_
  refine lv_iconst (v := (nI (1))) hx hb dX0_remember_31 (by decide) ?_
  refine j_addN hx hb dX0_remember_32 ?_
  refine lv_bipush (v := (nI (14))) hx hb dX0_remember_33 (by decide) ?_
  refine j_min (own := RX0) hx hb hml hown hts (by decide +kernel) (by decide +kernel) (by decide +kernel) (by decide +kernel) (Nat.le_of_ble_eq_true rfl) (Nat.le_of_ble_eq_true rfl) ⟨Nat.zero_le _, Nat.zero_le _⟩ hl.1 (by omega) (by omega) dX0_remember_35 ?_
  refine j_put (T := TX0) (N := 3) (k := 2) (ty := .int) hx hb hts hinX0 tyX0 tyX0_ok nmX0 hown hw hO hz rfl (by decide) (hts (.fieldLink RX0 18 "NightTrains$History" "count" "I") (by decide +kernel)) rfl (by decide +kernel) rfl rfl (Nat.le_of_ble_eq_true rfl) dX0_remember_38 (fun H locs hw hO oq hsz => ?_)
  have hO : jO g H a 0 [.ref _, .int _, .int _] := hO
  have hRf := hRf.kept (oq _ (by omega))
  have hS := hS.kept (fun q _ _ => oq q (by omega))
  have hS9 := hS9.kept (fun q _ _ => oq q (by omega))
  have hf := hf.put oq hsz (by omega)
  refine j_vret hx hb hr hlocks hH hw dX0_remember_41 ?_
  exact ⟨rfl, Hi_push hN hnx hlen hO hRf hall hst hS9 hf, hf.out hnx⟩

abbrev q_X0_takeBack (g : jG) (H0 : Heap) (a : Nat) (b : Nat) (h9 : List Sg) (s9 : Sg) (σ : Sg) (Rs : List OR) : Option Value → Heap → Prop := jN (fun r H1 => r = nI h9.length ∧ jHi g H1 a h9 ∧ jSo g H1 b s9 (opnR s9) ∧ jF2 a b 12 H0 H1)
set_option maxHeartbeats 4000000 in
set_option maxRecDepth 100000 in
theorem c_X0_takeBack (l : Launch) (g : jG) (z : Nat) (H0 : Heap) (a : Nat) (b : Nat) (h9 : List Sg) (s9 : Sg) (σ : Sg) (Rs : List OR) (hz : z ≤ a) (hzb : z ≤ b) (hHi : jHi g H0 a (h9 ++ [s9])) (hS : jSo g H0 b σ Rs) (hd : a + 170 ≤ b ∨ b + 12 ≤ a) : jM l g z yX0_takeBack wsX0_takeBack 5 123 [.ref a, .ref b] H0 (q_X0_takeBack g H0 a b h9 s9 σ Rs) := by
  refine j_of (cc := cX0_takeBack) (n := 2) (ret := some .int) (by decide) rfl (Nat.le_of_ble_eq_true rfl) ?_
  intro p e s m below meth c hx hb hr hml hown hts hlocks hname hH hw ls hl
  have hl : lv_has ls 2 [(0, .ref a), (1, .ref b)] := hl
  have hinX0 : ∀ w ∈ u_ws RX0 TX0 3, w ∈ wsX0_takeBack := by decide +kernel
  obtain ⟨nx, hnx, hlen, hO, hRf, hall, hst⟩ := id hHi
  have hl1 : (h9 ++ [s9]).length = h9.length + 1 := List.length_append
  have hf : jF2 a b 12 H0 H0 := jF2.rf
  refine lv_aload_n hx hb dX0_takeBack_0 rfl (lv_at hl 0 rfl) ?_
  refine lv_aload_n hx hb dX0_takeBack_1 rfl (lv_at hl 0 rfl) ?_
  refine j_get (T := TX0) (N := 3) (k := 1) hx hb hts hinX0 hown hw hO rfl (by decide) (hts (.fieldLink RX0 22 "NightTrains$History" "next" "I") (by decide +kernel)) rfl dX0_takeBack_2 ?_
  refine lv_bipush (v := (nI (14))) hx hb dX0_takeBack_5 (by decide) ?_
  refine j_addN hx hb dX0_takeBack_7 ?_
  refine lv_iconst (v := (nI (1))) hx hb dX0_takeBack_8 (by decide) ?_
  refine j_subN hx hb (by omega) dX0_takeBack_9 ?_
  refine lv_bipush (v := (nI (14))) hx hb dX0_takeBack_10 (by decide) ?_
  refine j_remN hx hb (by omega) (by omega) (by omega) dX0_takeBack_12 ?_
  refine j_put (T := TX0) (N := 3) (k := 1) (ty := .int) hx hb hts hinX0 tyX0 tyX0_ok nmX0 hown hw hO hz rfl (by decide) (hts (.fieldLink RX0 22 "NightTrains$History" "next" "I") (by decide +kernel)) rfl (by decide +kernel) rfl rfl (Nat.le_of_ble_eq_true rfl) dX0_takeBack_13 (fun H locs hw hO oq hsz => ?_)
  have hO : jO g H a 0 [.ref _, .int _, .int _] := hO
  have hRf := hRf.kept (oq _ (by omega))
  have hS := hS.kept (fun q _ _ => oq q (by omega))
  have hf := hf.put oq hsz (by omega)
  refine lv_aload_n hx hb dX0_takeBack_16 rfl (lv_at hl 0 rfl) ?_
  refine lv_aload_n hx hb dX0_takeBack_17 rfl (lv_at hl 0 rfl) ?_
  refine j_get (T := TX0) (N := 3) (k := 2) hx hb hts hinX0 hown hw hO rfl (by decide) (hts (.fieldLink RX0 18 "NightTrains$History" "count" "I") (by decide +kernel)) rfl dX0_takeBack_18 ?_
  refine lv_iconst (v := (nI (1))) hx hb dX0_takeBack_21 (by decide) ?_
  refine j_subN hx hb (by omega) dX0_takeBack_22 ?_
  refine lv_iconst (v := (nI (0))) hx hb dX0_takeBack_23 (by decide) ?_
  refine j_max (own := RX0) hx hb hml hown hts (by decide +kernel) (by decide +kernel) (by decide +kernel) (by decide +kernel) (Nat.le_of_ble_eq_true rfl) (Nat.le_of_ble_eq_true rfl) ⟨Nat.zero_le _, Nat.zero_le _⟩ hl.1 dX0_takeBack_24 ?_
  refine j_eq (y := nI ((h9 ++ [s9]).length - 1)) (if_neg (fun q => by have q1 := (nI_ltI (by omega) (by omega)).mp q; omega)) ?_
  refine j_put (T := TX0) (N := 3) (k := 2) (ty := .int) hx hb hts hinX0 tyX0 tyX0_ok nmX0 hown hw hO hz rfl (by decide) (hts (.fieldLink RX0 18 "NightTrains$History" "count" "I") (by decide +kernel)) rfl (by decide +kernel) rfl rfl (Nat.le_of_ble_eq_true rfl) dX0_takeBack_27 (fun H locs hw hO oq hsz => ?_)
  have hO : jO g H a 0 [.ref _, .int _, .int _] := hO
  have hRf := hRf.kept (oq _ (by omega))
  have hS := hS.kept (fun q _ _ => oq q (by omega))
  have hf := hf.put oq hsz (by omega)
  refine lv_aload_n hx hb dX0_takeBack_30 rfl (lv_at hl 1 rfl) ?_
  refine lv_aload_n hx hb dX0_takeBack_31 rfl (lv_at hl 0 rfl) ?_
  refine j_get (T := TX0) (N := 3) (k := 0) hx hb hts hinX0 hown hw hO rfl (by decide) (hts (.fieldLink RX0 11 "NightTrains$History" "states" "[LNightTrains$Store;") (by decide +kernel)) rfl dX0_takeBack_32 ?_
  refine lv_aload_n hx hb dX0_takeBack_35 rfl (lv_at hl 0 rfl) ?_
  refine j_get (T := TX0) (N := 3) (k := 1) hx hb hts hinX0 hown hw hO rfl (by decide) (hts (.fieldLink RX0 22 "NightTrains$History" "next" "I") (by decide +kernel)) rfl dX0_takeBack_36 ?_
  have hS9 : jSo g H (a + 2 + 12 * (((nx + 14) - 1) % 14)) s9 (opnR s9) := by
    have h8 := (hst h9.length s9 (by rw [List.getElem?_append_right (Nat.le_refl _), Nat.sub_self]; rfl)).2
    rw [show (nx + 14 - (h9 ++ [s9]).length + h9.length) % 14 = (((nx + 14) - 1) % 14) by omega] at h8
    exact h8.kept (fun q _ _ => hf.2 q (by omega) (by omega))
  refine j_aaldR hx hb hw hRf (k := (((nx + 14) - 1) % 14)) (b := (a + 2 + 12 * (((nx + 14) - 1) % 14))) rfl (by omega) (by omega) rfl dX0_takeBack_39 ?_
  refine j_Vv (n := 1) (As := [.ref (a + 2 + 12 * (((nx + 14) - 1) % 14))]) hx hb hml hown hts hw (j_recv hw hS.obj rfl) (c_X2_copyFrom l g z H b (a + 2 + 12 * (((nx + 14) - 1) % 14)) σ Rs s9 (opnR s9) hzb hS hS9 (by first | assumption | omega)) gX0_takeBack_X2_copyFrom rfl (by decide +kernel) ⟨Nat.le_of_ble_eq_true rfl, Nat.le_of_ble_eq_true rfl⟩ rfl hl.1 (Nat.le_of_ble_eq_true rfl) ⟨Nat.zero_le _, Nat.zero_le _⟩ dX0_takeBack_40 (fun H locs hr1 hw hsz => ?_) rfl
  obtain ⟨hS, hf2⟩ := hr1
  have hO := hO.kept (hf2.2 _ (by omega))
  have hRf := hRf.kept (hf2.2 _ (by omega))
  have hS9 := hS9.kept (fun q _ _ => hf2.2 q (by omega))
  have hf := hf.step hf2 (by omega)
  refine lv_aload_n hx hb dX0_takeBack_43 rfl (lv_at hl 0 rfl) ?_
  refine j_get (T := TX0) (N := 3) (k := 2) hx hb hts hinX0 hown hw hO rfl (by decide) (hts (.fieldLink RX0 18 "NightTrains$History" "count" "I") (by decide +kernel)) rfl dX0_takeBack_44 ?_
  refine j_iret hx hb hr hlocks hH hw dX0_takeBack_47 ?_
  exact ⟨_, rfl, by rw [hl1]; rfl, Hi_pop hnx hlen hO hRf (fun i hi9 => by obtain ⟨τ, R, q⟩ := hall i hi9; exact ⟨τ, R, q.kept (fun z _ _ => hf.2 z (by omega) (by omega))⟩) (fun i s hs => by obtain ⟨q1, q2⟩ := hst i s hs; exact ⟨q1, q2.kept (fun z _ _ => hf.2 z (by omega) (by omega))⟩), hS, hf⟩
