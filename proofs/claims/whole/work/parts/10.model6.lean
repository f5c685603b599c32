abbrev q_X5_night (g : jG) (H0 : Heap) (M : Nat) (row : Nat) (σ : Sg) (f : Nat → Int32) (x0 : Int32) (x2 : Int32) (x3 : Int32) (x4 : Int32) (x5 : Int32) (x10 : Int32) (x14 : Int32) (sn : Bool) (tk0 : Nat → Int32) : Option Value → Heap → Prop := jV (fun H1 => rTo3 g M row (nightS σ) H0 H1 ∧ jO g H1 M 5 [.int x0, .ref (M + 1), .int x2, .int x3, .int x4, .int x5, .ref (M + 2), .ref (M + 3), .ref (M + 4), .ref (M + 5), .int x10, .ref (M + 6), .ref (M + 7), .ref (M + 8), .int (nI (trl (σ.1 0) σ).length), .int (bI (sn || trw (σ.1 0) σ))] ∧ ∃ tk, jI g H1 (M + 8) 16 tk ∧ ∀ i b, (trl (σ.1 0) σ)[i]? = some b → tk i = nI b)
set_option maxHeartbeats 4000000 in
set_option maxRecDepth 100000 in
theorem c_X5_night (l : Launch) (g : jG) (z : Nat) (H0 : Heap) (M : Nat) (row : Nat) (σ : Sg) (f : Nat → Int32) (x0 : Int32) (x2 : Int32) (x3 : Int32) (x4 : Int32) (x5 : Int32) (x10 : Int32) (x14 : Int32) (sn : Bool) (tk0 : Nat → Int32) (hzM : z ≤ M) (hrow : M + 2 ≤ row ∧ row ≤ M + 4) (hz : z ≤ row) (hO : jO g H0 M 5 [.int x0, .ref (M + 1), .int x2, .int x3, .int x4, .int x5, .ref (M + 2), .ref (M + 3), .ref (M + 4), .ref (M + 5), .int x10, .ref (M + 6), .ref (M + 7), .ref (M + 8), .int x14, .int (bI sn)]) (hA : jI g H0 row 235 f) (hT8 : jI g H0 (M + 8) 16 tk0) (hR : Row f σ) (hs : okS σ) (hcalm : ∀ o ∈ σ.2.2.1, o 4 < 9) : jM l g z yX5_night wsX5_night 3 72 [.ref M, .ref row] H0 (q_X5_night g H0 M row σ f x0 x2 x3 x4 x5 x10 x14 sn tk0) := by
  refine j_of (cc := cX5_night) (n := 4) (ret := none) (by decide) rfl (Nat.le_of_ble_eq_true rfl) ?_
  intro p e s m below meth c hx hb hr hml hown hts hlocks hname hH hw ls hl
  have hl : lv_has ls 4 [(0, .ref M), (1, .ref row)] := hl
  have hinX5 : ∀ w ∈ u_ws RX5 TX5 16, w ∈ wsX5_night := by decide +kernel
  have hf : jF3 M row (M + 8) H0 H0 := jF3.rf
  have hn := hs.2.2.1
  have hr16 := hs.1.1
  have lp59 : ∀ (n59 : Nat) (fk : Nat → Int32) (tk : Nat → Int32) (σ1 : Sg) (hσ1 : σ1 = trn (σ.1 0) σ) (hcm : ∀ o ∈ σ1.2.2.1, o 4 < 9) (hlo : ∀ q, q < 7 → σ1.1 q = σ.1 q) (htk : ∀ i b, (trl (σ.1 0) σ)[i]? = some b → tk i = nI b) (hR : Row fk σ1) (hs : okS σ1) (hmu59 : 0 < n59) (H : Heap) (locs : List Loc) (hw : jW g z s H locs) (hf : jF3 M row (M + 8) H0 H) (hA : jI g H row 235 fk) (hO : jO g H M 5 [.int x0, .ref (M + 1), .int x2, .int x3, .int x4, .int x5, .ref (M + 2), .ref (M + 3), .ref (M + 4), .ref (M + 5), .int x10, .ref (M + 6), .ref (M + 7), .ref (M + 8), .int (nI ((trl (σ.1 0) σ).length)), .int (bI (sn || trw (σ.1 0) σ))]) (hT8 : jI g H (M + 8) 16 tk) (ls : Array Slot) (hl : lv_has ls 4 [(0, .ref M), (1, .ref row)]), jK p l e 3 72 s m [.ref M, .ref row] below meth c z H0 (q_X5_night g H0 M row σ f x0 x2 x3 x4 x5 x10 x14 sn tk0) H locs (F0 m 59 ls []) := by
    intro n59
    induction n59 with
    | zero => intros; omega
    | succ n59 ih59 =>
      intro fk tk σ1 hσ1 hcm hlo htk hR hs hmu59 H locs hw hf hA hO hT8 ls hl
      subst hσ1
      have hs0 := hs
      have hlow3 := hlo 3 (by omega)
      have hlow2 := hlo 2 (by omega)
      have htl16 := trl_len (σ.1 0) σ
      have lp80 : ∀ (n80 : Nat) (j : Nat) (fj : Nat → Int32) (hj : j ≤ (trn (σ.1 0) σ).2.2.1.length) (hR : Row fj (upo (lpS (σ.1 3) ((trn (σ.1 0) σ).2.2.1.take j) (nt1 σ)) (kpW (σ.1 3) ((trn (σ.1 0) σ).2.2.1.take j) ++ (trn (σ.1 0) σ).2.2.1.drop j))) (hs : okS (upo (lpS (σ.1 3) ((trn (σ.1 0) σ).2.2.1.take j) (nt1 σ)) (kpW (σ.1 3) ((trn (σ.1 0) σ).2.2.1.take j) ++ (trn (σ.1 0) σ).2.2.1.drop j))) (hmu80 : (trn (σ.1 0) σ).2.2.1.length - j < n80) (H : Heap) (locs : List Loc) (hw : jW g z s H locs) (hf : jF3 M row (M + 8) H0 H) (hA : jI g H row 235 fj) (hO : jO g H M 5 [.int x0, .ref (M + 1), .int x2, .int x3, .int x4, .int x5, .ref (M + 2), .ref (M + 3), .ref (M + 4), .ref (M + 5), .int x10, .ref (M + 6), .ref (M + 7), .ref (M + 8), .int (nI ((trl (σ.1 0) σ).length)), .int (bI (sn || trw (σ.1 0) σ))]) (hT8 : jI g H (M + 8) 16 tk) (ls : Array Slot) (hl : lv_has ls 4 [(0, .ref M), (1, .ref row), (2, .int (nI ((kpW (σ.1 3) ((trn (σ.1 0) σ).2.2.1.take j)).length)))]), jK p l e 3 72 s m [.ref M, .ref row] below meth c z H0 (q_X5_night g H0 M row σ f x0 x2 x3 x4 x5 x10 x14 sn tk0) H locs (F0 m 80 ls []) := by
        intro n80
        induction n80 with
        | zero => intros; omega
        | succ n80 ih80 =>
          intro j fj hj hR hs hmu80 H locs hw hf hA hO hT8 ls hl
          have hl9 : (kpW (σ.1 3) ((trn (σ.1 0) σ).2.2.1.take j) ++ (trn (σ.1 0) σ).2.2.1.drop j).length ≤ 21 := hs.2.2.1
          have hm9 := wait_len (pt := σ.1 3) (j := j) (L := (trn (σ.1 0) σ).2.2.1)
          have hx3 : (upo (lpS (σ.1 3) ((trn (σ.1 0) σ).2.2.1.take j) (nt1 σ)) (kpW (σ.1 3) ((trn (σ.1 0) σ).2.2.1.take j) ++ (trn (σ.1 0) σ).2.2.1.drop j)).1 3 = σ.1 3 := (lpS_low _ _ _ (fun o ho => hs0.2.2.2.1 o (List.mem_of_mem_take ho)) 3 (by omega)).trans ((upn_n (by omega)).trans hlow3)
          have hp9 := hs.1.2.2.2.2.2.2.1
          rw [hx3] at hp9
          refine lv_iload_n hx hb dX5_night_80 rfl (lv_at hl 2 rfl) ?_
          refine lv_aload_n hx hb dX5_night_81 rfl (lv_at hl 1 rfl) ?_
          refine lv_bipush (v := (nI (6))) hx hb dX5_night_82 (by decide) ?_
          refine j_iald hx hb hw hA (k := 6) rfl (by omega) (by omega) dX5_night_84 ?_
          refine j_eq (y := nI ((kpW (σ.1 3) ((trn (σ.1 0) σ).2.2.1.take j) ++ (trn (σ.1 0) σ).2.2.1.drop j).length)) hR.2.2.1 ?_
          refine jn_ge (tgt := 150) hx hb dX5_night_85 (by decide) (by omega) (by omega) (fun c85 => ?_) (fun c85 => ?_)
          · have hj9 : j = (trn (σ.1 0) σ).2.2.1.length := by rw [wait_len] at c85; omega
            subst hj9
            rw [List.take_length, List.drop_length, List.append_nil] at hR hs
            have hpt : (nt1 σ).1 3 = σ.1 3 := (upn_n (by omega)).trans hlow3
            have hR : Row fj (sty 0 (waitS (nt1 σ))) := by show Row _ (waitS (nt1 σ)); unfold waitS; rw [hpt]; exact hR
            have hs : okS (sty 0 (waitS (nt1 σ))) := by show okS (waitS (nt1 σ)); unfold waitS; rw [hpt]; exact hs
            refine lv_iconst (v := (nI (0))) hx hb dX5_night_150 (by decide) ?_
            refine lv_istore_n (lv' := [(3, .int _), (0, .ref _), (1, .ref _), (2, .int _)]) hx hb dX5_night_151 rfl hl (by decide) rfl (fun ls hl => ?_)
            have lp152 : ∀ (n152 : Nat) (k : Nat) (fk2 : Nat → Int32) (hk : k ≤ 16) (hR : Row fk2 (sty k (waitS (nt1 σ)))) (hs : okS (sty k (waitS (nt1 σ)))) (hmu152 : 16 - k < n152) (H : Heap) (locs : List Loc) (hw : jW g z s H locs) (hf : jF3 M row (M + 8) H0 H) (hA : jI g H row 235 fk2) (hO : jO g H M 5 [.int x0, .ref (M + 1), .int x2, .int x3, .int x4, .int x5, .ref (M + 2), .ref (M + 3), .ref (M + 4), .ref (M + 5), .int x10, .ref (M + 6), .ref (M + 7), .ref (M + 8), .int (nI ((trl (σ.1 0) σ).length)), .int (bI (sn || trw (σ.1 0) σ))]) (hT8 : jI g H (M + 8) 16 tk) (ls : Array Slot) (hl : lv_has ls 4 [(0, .ref M), (1, .ref row), (3, .int (nI (k)))]), jK p l e 3 72 s m [.ref M, .ref row] below meth c z H0 (q_X5_night g H0 M row σ f x0 x2 x3 x4 x5 x10 x14 sn tk0) H locs (F0 m 152 ls []) := by
              intro n152
              induction n152 with
              | zero => intros; omega
              | succ n152 ih152 =>
                intro k fk2 hk hR hs hmu152 H locs hw hf hA hO hT8 ls hl
                have hw2 := hs.1.2.2.2.2.1
                rw [sty_low k (waitS (nt1 σ)) 2 (by omega)] at hw2
                refine lv_iload_n hx hb dX5_night_152 rfl (lv_at hl 2 rfl) ?_
                refine lv_bipush (v := (nI (16))) hx hb dX5_night_153 (by decide) ?_
                refine jn_ge (tgt := 216) hx hb dX5_night_155 (by decide) (by omega) (by omega) (fun c155 => ?_) (fun c155 => ?_)
                · have hk9 : k = 16 := by omega
                  subst hk9
                  refine lv_aload_n hx hb dX5_night_216 rfl (lv_at hl 1 rfl) ?_
                  refine lv_iconst (v := (nI (5))) hx hb dX5_night_217 (by decide) ?_
                  refine lv_dup2_11 hx hb dX5_night_218 rfl rfl ?_
                  refine j_iald hx hb hw hA (k := 5) rfl (by omega) (by omega) dX5_night_219 ?_
                  refine j_eq (y := nI ((sty 16 (waitS (nt1 σ))).1 5)) (hR.n 5 (by omega)) ?_
                  refine lv_iconst (v := (nI (1))) hx hb dX5_night_220 (by decide) ?_
                  refine j_addN hx hb dX5_night_221 ?_
                  refine j_iast hx hb hw hA hz (k := 5) rfl (by omega) (by omega) dX5_night_222 (fun H locs hw hA oq hsz => ?_)
                  obtain ⟨f1, ef1⟩ : ∃ y9, y9 = upd fk2 (5) (nI (((sty 16 (waitS (nt1 σ))).1 5 + 1))) := ⟨_, rfl⟩
                  rw [← ef1] at hA
                  have hO := hO.kept (oq _ (by omega))
                  have hT8 := hT8.kept (oq _ (by omega))
                  have hf := hf.put oq hsz (by omega)
                  have hR := hR.sn (k := 5) (v := (sty 16 (waitS (nt1 σ))).1 5 + 1) (by omega) rfl
                  rw [← ef1] at hR
                  have hs := hs.sn (k := 5) (v := (sty 16 (waitS (nt1 σ))).1 5 + 1) (by omega)
                  refine j_vret hx hb hr hlocks hH hw dX5_night_223 ?_
                  exact ⟨rfl, ⟨⟨_, hA, hR⟩, hs, hf⟩, hO, tk, hT8, htk⟩
                · have hfk := hs.2.1 k (by omega)
                  refine lv_aload_n hx hb dX5_night_158 rfl (lv_at hl 1 rfl) ?_
                  refine lv_bipush (v := (nI (14))) hx hb dX5_night_159 (by decide) ?_
                  refine lv_iload_n hx hb dX5_night_161 rfl (lv_at hl 2 rfl) ?_
                  refine j_addN hx hb dX5_night_162 ?_
                  refine lv_dup2_11 hx hb dX5_night_163 rfl rfl ?_
                  refine j_iald hx hb hw hA (k := (14 + k)) rfl (by omega) (by omega) dX5_night_164 ?_
                  refine j_eq (y := nI ((sty k (waitS (nt1 σ))).1 (14 + k))) (hR.n _ (by omega)) ?_
                  refine lv_aload_n hx hb dX5_night_165 rfl (lv_at hl 1 rfl) ?_
                  refine lv_iload_n hx hb dX5_night_166 rfl (lv_at hl 2 rfl) ?_
                  refine j_Sp (n := 2) (As := [.ref row, .int (nI (k))]) hx hb hml hown hts hw (c_X5_isFront l g z H row (k) ((sty k (waitS (nt1 σ)))) fk2  hA hR hs (by first | assumption | omega)) gX5_night_X5_isFront rfl (by decide +kernel) ⟨Nat.le_of_ble_eq_true rfl, Nat.le_of_ble_eq_true rfl⟩ rfl hl.1 (Nat.le_of_ble_eq_true rfl) ⟨Nat.zero_le _, Nat.zero_le _⟩ dX5_night_167 (fun r2 locs hr2 hw => ?_) rfl
                  rcases hr2 with ⟨rfl, hr2⟩ | ⟨rfl, hr2⟩
                  · refine jz_eq (tgt := 177) hx hb dX5_night_170 (by decide) (by omega) (fun c170 => absurd c170 (by omega)) (fun c170 => ?_)
                    refine lv_iconst (v := (nI (1))) hx hb dX5_night_173 (by decide) ?_
                    refine lv_goto (tgt := 178) hx hb dX5_night_174 (by decide) ?_
                    refine j_addN hx hb dX5_night_178 ?_
                    refine j_iast hx hb hw hA hz (k := (14 + k)) rfl (by omega) (by omega) dX5_night_179 (fun H locs hw hA oq hsz => ?_)
                    obtain ⟨f3, ef3⟩ : ∃ y9, y9 = upd fk2 ((14 + k)) (nI (((sty k (waitS (nt1 σ))).1 (14 + k) + 1))) := ⟨_, rfl⟩
                    rw [← ef3] at hA
                    have hO := hO.kept (oq _ (by omega))
                    have hT8 := hT8.kept (oq _ (by omega))
                    have hf := hf.put oq hsz (by omega)
                    refine lv_aload_n hx hb dX5_night_180 rfl (lv_at hl 1 rfl) ?_
                    refine lv_bipush (v := (nI (14))) hx hb dX5_night_181 (by decide) ?_
                    refine lv_iload_n hx hb dX5_night_183 rfl (lv_at hl 2 rfl) ?_
                    refine j_addN hx hb dX5_night_184 ?_
                    refine lv_aload_n hx hb dX5_night_185 rfl (lv_at hl 1 rfl) ?_
                    refine lv_bipush (v := (nI (14))) hx hb dX5_night_186 (by decide) ?_
                    refine lv_iload_n hx hb dX5_night_188 rfl (lv_at hl 2 rfl) ?_
                    refine j_addN hx hb dX5_night_189 ?_
                    refine j_iald hx hb hw hA (k := (14 + k)) rfl (by omega) (by omega) dX5_night_190 ?_
                    refine j_eq (y := nI (((sty k (waitS (nt1 σ))).1 (14 + k) + 1))) (by rw [ef3, pk_us]) ?_
                    refine lv_aload_n hx hb dX5_night_191 rfl (lv_at hl 1 rfl) ?_
                    refine lv_iconst (v := (nI (2))) hx hb dX5_night_192 (by decide) ?_
                    refine j_iald hx hb hw hA (k := 2) rfl (by omega) (by omega) dX5_night_193 ?_
                    refine j_eq (y := nI ((waitS (nt1 σ)).1 2)) (by rw [ef3, pk_un (by omega)]; exact (hR.n 2 (by omega)).trans (congrArg nI (sty_low _ _ 2 (by omega)))) ?_
                    refine lv_iconst (v := (nI (1))) hx hb dX5_night_194 (by decide) ?_
                    refine j_addN hx hb dX5_night_195 ?_
                    refine jn_le (tgt := 203) hx hb dX5_night_196 (by decide) (by omega) (by omega) (fun c196 => ?_) (fun c196 => ?_)
                    · refine lv_aload_n hx hb dX5_night_203 rfl (lv_at hl 1 rfl) ?_
                      refine lv_bipush (v := (nI (14))) hx hb dX5_night_204 (by decide) ?_
                      refine lv_iload_n hx hb dX5_night_206 rfl (lv_at hl 2 rfl) ?_
                      refine j_addN hx hb dX5_night_207 ?_
                      refine j_iald hx hb hw hA (k := (14 + k)) rfl (by omega) (by omega) dX5_night_208 ?_
                      refine j_eq (y := nI (((sty k (waitS (nt1 σ))).1 (14 + k) + 1))) (by rw [ef3, pk_us]) ?_
                      refine j_iast hx hb hw hA hz (k := (14 + k)) rfl (by omega) (by omega) dX5_night_209 (fun H locs hw hA oq hsz => ?_)
                      obtain ⟨f4, ef4⟩ : ∃ y9, y9 = upd f3 ((14 + k)) (nI (((sty k (waitS (nt1 σ))).1 (14 + k) + 1))) := ⟨_, rfl⟩
                      rw [← ef4] at hA
                      have hO := hO.kept (oq _ (by omega))
                      have hT8 := hT8.kept (oq _ (by omega))
                      have hf := hf.put oq hsz (by omega)
                      have hst : stv ((sty k (waitS (nt1 σ))).1 (14 + k)) ((waitS (nt1 σ)).1 2) = ((sty k (waitS (nt1 σ))).1 (14 + k) + 1) := stv_eq (w := ((sty k (waitS (nt1 σ))).1 (14 + k) + 1)) (by omega) (by omega)
                      have hR : Row f4 (sty (k + 1) (waitS (nt1 σ))) := by
                        rw [ef4, ef3, upd_same]
                        exact hR.sn (by omega) (by rw [hst])
                      have hs : okS (sty (k + 1) (waitS (nt1 σ))) := hs.front (by omega) (stv_le hw2)
                      refine lv_iinc (v := nI (k + 1)) (lv' := [(3, .int _), (0, .ref _), (1, .ref _)]) hx hb dX5_night_210 hl (k := 2) rfl (nI_add _ 1) (by decide) rfl (fun ls hl => ?_)
                      refine lv_goto (tgt := 152) hx hb dX5_night_213 (by decide) ?_
                      exact ih152  (k + 1) f4 (by first | assumption | omega) hR hs (by omega) H _ hw hf hA hO hT8 _ (lv_sub hl [1, 2, 0] rfl)
                    · refine lv_iconst (v := (nI (0))) hx hb dX5_night_199 (by decide) ?_
                      refine lv_goto (tgt := 209) hx hb dX5_night_200 (by decide) ?_
                      refine j_iast hx hb hw hA hz (k := (14 + k)) rfl (by omega) (by omega) dX5_night_209 (fun H locs hw hA oq hsz => ?_)
                      obtain ⟨f5, ef5⟩ : ∃ y9, y9 = upd f3 ((14 + k)) (nI (0)) := ⟨_, rfl⟩
                      rw [← ef5] at hA
                      have hO := hO.kept (oq _ (by omega))
                      have hT8 := hT8.kept (oq _ (by omega))
                      have hf := hf.put oq hsz (by omega)
                      have hst : stv ((sty k (waitS (nt1 σ))).1 (14 + k)) ((waitS (nt1 σ)).1 2) = 0 := stv_eq (w := ((sty k (waitS (nt1 σ))).1 (14 + k) + 1)) (by omega) (by omega)
                      have hR : Row f5 (sty (k + 1) (waitS (nt1 σ))) := by
                        rw [ef5, ef3, upd_same]
                        exact hR.sn (by omega) (by rw [hst])
                      have hs : okS (sty (k + 1) (waitS (nt1 σ))) := hs.front (by omega) (stv_le hw2)
                      refine lv_iinc (v := nI (k + 1)) (lv' := [(3, .int _), (0, .ref _), (1, .ref _)]) hx hb dX5_night_210 hl (k := 2) rfl (nI_add _ 1) (by decide) rfl (fun ls hl => ?_)
                      refine lv_goto (tgt := 152) hx hb dX5_night_213 (by decide) ?_
                      exact ih152  (k + 1) f5 (by first | assumption | omega) hR hs (by omega) H _ hw hf hA hO hT8 _ (lv_sub hl [1, 2, 0] rfl)
                  · refine jz_eq (tgt := 177) hx hb dX5_night_170 (by decide) (by omega) (fun c170 => ?_) (fun c170 => absurd c170 (by omega))
                    refine lv_iconst (v := (nI (0))) hx hb dX5_night_177 (by decide) ?_
                    refine j_addN hx hb dX5_night_178 ?_
                    refine j_iast hx hb hw hA hz (k := (14 + k)) rfl (by omega) (by omega) dX5_night_179 (fun H locs hw hA oq hsz => ?_)
                    obtain ⟨f6, ef6⟩ : ∃ y9, y9 = upd fk2 ((14 + k)) (nI (((sty k (waitS (nt1 σ))).1 (14 + k) + 0))) := ⟨_, rfl⟩
                    rw [← ef6] at hA
                    have hO := hO.kept (oq _ (by omega))
                    have hT8 := hT8.kept (oq _ (by omega))
                    have hf := hf.put oq hsz (by omega)
                    refine lv_aload_n hx hb dX5_night_180 rfl (lv_at hl 1 rfl) ?_
                    refine lv_bipush (v := (nI (14))) hx hb dX5_night_181 (by decide) ?_
                    refine lv_iload_n hx hb dX5_night_183 rfl (lv_at hl 2 rfl) ?_
                    refine j_addN hx hb dX5_night_184 ?_
                    refine lv_aload_n hx hb dX5_night_185 rfl (lv_at hl 1 rfl) ?_
                    refine lv_bipush (v := (nI (14))) hx hb dX5_night_186 (by decide) ?_
                    refine lv_iload_n hx hb dX5_night_188 rfl (lv_at hl 2 rfl) ?_
                    refine j_addN hx hb dX5_night_189 ?_
                    refine j_iald hx hb hw hA (k := (14 + k)) rfl (by omega) (by omega) dX5_night_190 ?_
                    refine j_eq (y := nI (((sty k (waitS (nt1 σ))).1 (14 + k) + 0))) (by rw [ef6, pk_us]) ?_
                    refine lv_aload_n hx hb dX5_night_191 rfl (lv_at hl 1 rfl) ?_
                    refine lv_iconst (v := (nI (2))) hx hb dX5_night_192 (by decide) ?_
                    refine j_iald hx hb hw hA (k := 2) rfl (by omega) (by omega) dX5_night_193 ?_
                    refine j_eq (y := nI ((waitS (nt1 σ)).1 2)) (by rw [ef6, pk_un (by omega)]; exact (hR.n 2 (by omega)).trans (congrArg nI (sty_low _ _ 2 (by omega)))) ?_
                    refine lv_iconst (v := (nI (1))) hx hb dX5_night_194 (by decide) ?_
                    refine j_addN hx hb dX5_night_195 ?_
                    refine jn_le (tgt := 203) hx hb dX5_night_196 (by decide) (by omega) (by omega) (fun c196 => ?_) (fun c196 => ?_)
                    · refine lv_aload_n hx hb dX5_night_203 rfl (lv_at hl 1 rfl) ?_
                      refine lv_bipush (v := (nI (14))) hx hb dX5_night_204 (by decide) ?_
                      refine lv_iload_n hx hb dX5_night_206 rfl (lv_at hl 2 rfl) ?_
                      refine j_addN hx hb dX5_night_207 ?_
                      refine j_iald hx hb hw hA (k := (14 + k)) rfl (by omega) (by omega) dX5_night_208 ?_
                      refine j_eq (y := nI (((sty k (waitS (nt1 σ))).1 (14 + k) + 0))) (by rw [ef6, pk_us]) ?_
                      refine j_iast hx hb hw hA hz (k := (14 + k)) rfl (by omega) (by omega) dX5_night_209 (fun H locs hw hA oq hsz => ?_)
                      obtain ⟨f7, ef7⟩ : ∃ y9, y9 = upd f6 ((14 + k)) (nI (((sty k (waitS (nt1 σ))).1 (14 + k) + 0))) := ⟨_, rfl⟩
                      rw [← ef7] at hA
                      have hO := hO.kept (oq _ (by omega))
                      have hT8 := hT8.kept (oq _ (by omega))
                      have hf := hf.put oq hsz (by omega)
                      have hst : stv ((sty k (waitS (nt1 σ))).1 (14 + k)) ((waitS (nt1 σ)).1 2) = ((sty k (waitS (nt1 σ))).1 (14 + k) + 0) := stv_eq (w := ((sty k (waitS (nt1 σ))).1 (14 + k) + 0)) (by omega) (by omega)
                      have hR : Row f7 (sty (k + 1) (waitS (nt1 σ))) := by
                        rw [ef7, ef6, upd_same]
                        exact hR.sn (by omega) (by rw [hst])
                      have hs : okS (sty (k + 1) (waitS (nt1 σ))) := hs.front (by omega) (stv_le hw2)
                      refine lv_iinc (v := nI (k + 1)) (lv' := [(3, .int _), (0, .ref _), (1, .ref _)]) hx hb dX5_night_210 hl (k := 2) rfl (nI_add _ 1) (by decide) rfl (fun ls hl => ?_)
                      refine lv_goto (tgt := 152) hx hb dX5_night_213 (by decide) ?_
                      exact ih152  (k + 1) f7 (by first | assumption | omega) hR hs (by omega) H _ hw hf hA hO hT8 _ (lv_sub hl [1, 2, 0] rfl)
                    · refine lv_iconst (v := (nI (0))) hx hb dX5_night_199 (by decide) ?_
                      refine lv_goto (tgt := 209) hx hb dX5_night_200 (by decide) ?_
                      refine j_iast hx hb hw hA hz (k := (14 + k)) rfl (by omega) (by omega) dX5_night_209 (fun H locs hw hA oq hsz => ?_)
                      obtain ⟨f8, ef8⟩ : ∃ y9, y9 = upd f6 ((14 + k)) (nI (0)) := ⟨_, rfl⟩
                      rw [← ef8] at hA
                      have hO := hO.kept (oq _ (by omega))
                      have hT8 := hT8.kept (oq _ (by omega))
                      have hf := hf.put oq hsz (by omega)
                      have hst : stv ((sty k (waitS (nt1 σ))).1 (14 + k)) ((waitS (nt1 σ)).1 2) = 0 := stv_eq (w := ((sty k (waitS (nt1 σ))).1 (14 + k) + 0)) (by omega) (by omega)
                      have hR : Row f8 (sty (k + 1) (waitS (nt1 σ))) := by
                        rw [ef8, ef6, upd_same]
                        exact hR.sn (by omega) (by rw [hst])
                      have hs : okS (sty (k + 1) (waitS (nt1 σ))) := hs.front (by omega) (stv_le hw2)
                      refine lv_iinc (v := nI (k + 1)) (lv' := [(3, .int _), (0, .ref _), (1, .ref _)]) hx hb dX5_night_210 hl (k := 2) rfl (nI_add _ 1) (by decide) rfl (fun ls hl => ?_)
                      refine lv_goto (tgt := 152) hx hb dX5_night_213 (by decide) ?_
                      exact ih152  (k + 1) f8 (by first | assumption | omega) hR hs (by omega) H _ hw hf hA hO hT8 _ (lv_sub hl [1, 2, 0] rfl)
            exact lp152 (16 - 0 + 1) 0 fj (by first | assumption | omega) hR hs (by omega) H _ hw hf hA hO hT8 _ (lv_sub hl [1, 2, 0] rfl)
          · have hjl : j < (trn (σ.1 0) σ).2.2.1.length := by rw [wait_len] at c85; omega
            obtain ⟨o, hoj⟩ := getO hjl
            have ho : (upo (lpS (σ.1 3) ((trn (σ.1 0) σ).2.2.1.take j) (nt1 σ)) (kpW (σ.1 3) ((trn (σ.1 0) σ).2.2.1.take j) ++ (trn (σ.1 0) σ).2.2.1.drop j)).2.2.1[(kpW (σ.1 3) ((trn (σ.1 0) σ).2.2.1.take j)).length]? = some o := wait_get hoj
            obtain ⟨ho0, ho1, ho2, ho3, ho4, ho5⟩ := hs.2.2.2.1 o (memO ho)
            have hoc := hcm o (memO hoj)
            have hil := lenlt ho
            refine lv_aload_n hx hb dX5_night_88 rfl (lv_at hl 1 rfl) ?_
            refine lv_iload_n hx hb dX5_night_89 rfl (lv_at hl 2 rfl) ?_
            refine lv_iconst (v := (nI (4))) hx hb dX5_night_90 (by decide) ?_
            refine j_Sp (n := 2) (As := [.int (nI ((kpW (σ.1 3) ((trn (σ.1 0) σ).2.2.1.take j)).length)), .int (nI (4))]) hx hb hml hown hts hw (c_X5_at l g z H ((kpW (σ.1 3) ((trn (σ.1 0) σ).2.2.1.take j)).length) (4)   ) gX5_night_X5_at rfl (by decide +kernel) ⟨Nat.le_of_ble_eq_true rfl, Nat.le_of_ble_eq_true rfl⟩ rfl hl.1 (Nat.le_of_ble_eq_true rfl) ⟨Nat.zero_le _, Nat.zero_le _⟩ dX5_night_91 (fun r9 locs hr9 hw => ?_) rfl
            obtain rfl : r9 = (nI (109 + 6 * ((kpW (σ.1 3) ((trn (σ.1 0) σ).2.2.1.take j)).length) + (4))) := hr9
            refine lv_dup2_11 hx hb dX5_night_94 rfl rfl ?_
            refine j_iald hx hb hw hA (k := 109 + 6 * ((kpW (σ.1 3) ((trn (σ.1 0) σ).2.2.1.take j)).length) + (4)) rfl (by omega) (by omega) dX5_night_95 ?_
            refine j_eq (y := nI (o 4)) (hR.o ho 4 (by omega) (by omega)) ?_
            refine lv_iconst (v := (nI (1))) hx hb dX5_night_96 (by decide) ?_
            refine j_addN hx hb dX5_night_97 ?_
            refine j_iast hx hb hw hA hz (k := 109 + 6 * ((kpW (σ.1 3) ((trn (σ.1 0) σ).2.2.1.take j)).length) + (4)) rfl (by omega) (by omega) dX5_night_98 (fun H locs hw hA oq hsz => ?_)
            obtain ⟨f10, ef10⟩ : ∃ y9, y9 = upd fj (109 + 6 * ((kpW (σ.1 3) ((trn (σ.1 0) σ).2.2.1.take j)).length) + (4)) (nI ((o 4 + 1))) := ⟨_, rfl⟩
            rw [← ef10] at hA
            have hO := hO.kept (oq _ (by omega))
            have hT8 := hT8.kept (oq _ (by omega))
            have hf := hf.put oq hsz (by omega)
            have hR := hR.so hs (i := (kpW (σ.1 3) ((trn (σ.1 0) σ).2.2.1.take j)).length) (w := 4) (v := o 4 + 1) (o := o) ho (by omega) rfl rfl
            rw [← ef10] at hR
            have hs := hs.set (kpW (σ.1 3) ((trn (σ.1 0) σ).2.2.1.take j)).length (o := nSet o 4 (o 4 + 1)) ((show okO o from ⟨ho0, ho1, ho2, ho3, ho4, ho5⟩).wait (by omega))
            have ho2 : (upo (upo (lpS (σ.1 3) ((trn (σ.1 0) σ).2.2.1.take j) (nt1 σ)) (kpW (σ.1 3) ((trn (σ.1 0) σ).2.2.1.take j) ++ (trn (σ.1 0) σ).2.2.1.drop j)) ((upo (lpS (σ.1 3) ((trn (σ.1 0) σ).2.2.1.take j) (nt1 σ)) (kpW (σ.1 3) ((trn (σ.1 0) σ).2.2.1.take j) ++ (trn (σ.1 0) σ).2.2.1.drop j)).2.2.1.set (kpW (σ.1 3) ((trn (σ.1 0) σ).2.2.1.take j)).length (nSet o 4 (o 4 + 1)))).2.2.1[(kpW (σ.1 3) ((trn (σ.1 0) σ).2.2.1.take j)).length]? = some (nSet o 4 (o 4 + 1)) := List.getElem?_set_self hil
            refine lv_aload_n hx hb dX5_night_99 rfl (lv_at hl 1 rfl) ?_
            refine lv_iload_n hx hb dX5_night_100 rfl (lv_at hl 2 rfl) ?_
            refine lv_iconst (v := (nI (4))) hx hb dX5_night_101 (by decide) ?_
            refine j_Sp (n := 2) (As := [.int (nI ((kpW (σ.1 3) ((trn (σ.1 0) σ).2.2.1.take j)).length)), .int (nI (4))]) hx hb hml hown hts hw (c_X5_at l g z H ((kpW (σ.1 3) ((trn (σ.1 0) σ).2.2.1.take j)).length) (4)   ) gX5_night_X5_at rfl (by decide +kernel) ⟨Nat.le_of_ble_eq_true rfl, Nat.le_of_ble_eq_true rfl⟩ rfl hl.1 (Nat.le_of_ble_eq_true rfl) ⟨Nat.zero_le _, Nat.zero_le _⟩ dX5_night_102 (fun r11 locs hr11 hw => ?_) rfl
            obtain rfl : r11 = (nI (109 + 6 * ((kpW (σ.1 3) ((trn (σ.1 0) σ).2.2.1.take j)).length) + (4))) := hr11
            refine j_iald hx hb hw hA (k := 109 + 6 * ((kpW (σ.1 3) ((trn (σ.1 0) σ).2.2.1.take j)).length) + (4)) rfl (by omega) (by omega) dX5_night_105 ?_
            refine j_eq (y := nI (o 4 + 1)) ((hR.o ho2 4 (by omega) (by omega)).trans (congrArg nI (nSet_s _ _ _))) ?_
            refine lv_aload_n hx hb dX5_night_106 rfl (lv_at hl 1 rfl) ?_
            refine lv_iconst (v := (nI (3))) hx hb dX5_night_107 (by decide) ?_
            refine j_iald hx hb hw hA (k := 3) rfl (by omega) (by omega) dX5_night_108 ?_
            refine j_eq (y := nI (σ.1 3)) ((hR.n 3 (by omega)).trans (congrArg nI hx3)) ?_
            refine jn_lt (tgt := 144) hx hb dX5_night_109 (by decide) (by omega) (by omega) (fun c109 => ?_) (fun c109 => ?_)
            · refine lv_iinc (v := nI ((kpW (σ.1 3) ((trn (σ.1 0) σ).2.2.1.take j)).length + 1)) (lv' := [(2, .int _), (0, .ref _), (1, .ref _)]) hx hb dX5_night_144 hl (k := 2) rfl (nI_add _ 1) (by decide) rfl (fun ls hl => ?_)
              have hR : Row f10 (upo (lpS (σ.1 3) ((trn (σ.1 0) σ).2.2.1.take (j + 1)) (nt1 σ)) (kpW (σ.1 3) ((trn (σ.1 0) σ).2.2.1.take (j + 1)) ++ (trn (σ.1 0) σ).2.2.1.drop (j + 1))) := by rw [← (wait_miss (X := (nt1 σ)) hoj (show ¬ σ.1 3 ≤ o 4 + 1 by omega)).1]; exact hR
              have hs : okS (upo (lpS (σ.1 3) ((trn (σ.1 0) σ).2.2.1.take (j + 1)) (nt1 σ)) (kpW (σ.1 3) ((trn (σ.1 0) σ).2.2.1.take (j + 1)) ++ (trn (σ.1 0) σ).2.2.1.drop (j + 1))) := by rw [← (wait_miss (X := (nt1 σ)) hoj (show ¬ σ.1 3 ≤ o 4 + 1 by omega)).1]; exact hs
              rw [← (wait_miss (X := (nt1 σ)) hoj (show ¬ σ.1 3 ≤ o 4 + 1 by omega)).2] at hl
              refine lv_goto (tgt := 80) hx hb dX5_night_147 (by decide) ?_
              exact ih80  (j + 1) f10 (by omega) hR hs (by omega) H _ hw hf hA hO hT8 _ (lv_sub hl [1, 2, 0] rfl)
            · refine lv_aload_n hx hb dX5_night_112 rfl (lv_at hl 1 rfl) ?_
              refine lv_bipush (v := (nI (54))) hx hb dX5_night_113 (by decide) ?_
              refine lv_aload_n hx hb dX5_night_115 rfl (lv_at hl 1 rfl) ?_
              refine lv_iload_n hx hb dX5_night_116 rfl (lv_at hl 2 rfl) ?_
              refine lv_iconst (v := (nI (0))) hx hb dX5_night_117 (by decide) ?_
              refine j_Sp (n := 2) (As := [.int (nI ((kpW (σ.1 3) ((trn (σ.1 0) σ).2.2.1.take j)).length)), .int (nI (0))]) hx hb hml hown hts hw (c_X5_at l g z H ((kpW (σ.1 3) ((trn (σ.1 0) σ).2.2.1.take j)).length) (0)   ) gX5_night_X5_at rfl (by decide +kernel) ⟨Nat.le_of_ble_eq_true rfl, Nat.le_of_ble_eq_true rfl⟩ rfl hl.1 (Nat.le_of_ble_eq_true rfl) ⟨Nat.zero_le _, Nat.zero_le _⟩ dX5_night_118 (fun r12 locs hr12 hw => ?_) rfl
              obtain rfl : r12 = (nI (109 + 6 * ((kpW (σ.1 3) ((trn (σ.1 0) σ).2.2.1.take j)).length) + (0))) := hr12
              refine j_iald hx hb hw hA (k := 109 + 6 * ((kpW (σ.1 3) ((trn (σ.1 0) σ).2.2.1.take j)).length) + (0)) rfl (by omega) (by omega) dX5_night_121 ?_
              refine j_eq (y := nI (o 0)) (hR.o ho2 0 (by omega) (by omega)) ?_
              refine j_addN hx hb dX5_night_122 ?_
              refine lv_dup2_11 hx hb dX5_night_123 rfl rfl ?_
              refine j_iald hx hb hw hA (k := (54 + o 0)) rfl (by omega) (by omega) dX5_night_124 ?_
              refine j_eq (y := nI ((lpS (σ.1 3) ((trn (σ.1 0) σ).2.2.1.take j) (nt1 σ)).1 (54 + o 0))) (hR.n _ (by omega)) ?_
              refine lv_iconst (v := (nI (1))) hx hb dX5_night_125 (by decide) ?_
              refine j_addN hx hb dX5_night_126 ?_
              refine j_iast hx hb hw hA hz (k := (54 + o 0)) rfl (by omega) (by omega) dX5_night_127 (fun H locs hw hA oq hsz => ?_)
              obtain ⟨f13, ef13⟩ : ∃ y9, y9 = upd f10 ((54 + o 0)) (nI (((lpS (σ.1 3) ((trn (σ.1 0) σ).2.2.1.take j) (nt1 σ)).1 (54 + o 0) + 1))) := ⟨_, rfl⟩
              rw [← ef13] at hA
              have hO := hO.kept (oq _ (by omega))
              have hT8 := hT8.kept (oq _ (by omega))
              have hf := hf.put oq hsz (by omega)
              have hR := hR.sn (k := 54 + o 0) (v := (lpS (σ.1 3) ((trn (σ.1 0) σ).2.2.1.take j) (nt1 σ)).1 (54 + o 0) + 1) (by omega) rfl
              rw [← ef13] at hR
              have hs := hs.sn (k := 54 + o 0) (v := (lpS (σ.1 3) ((trn (σ.1 0) σ).2.2.1.take j) (nt1 σ)).1 (54 + o 0) + 1) (by omega)
              refine lv_aload_n hx hb dX5_night_128 rfl (lv_at hl 1 rfl) ?_
              refine lv_bipush (v := (nI (8))) hx hb dX5_night_129 (by decide) ?_
              refine lv_dup2_11 hx hb dX5_night_131 rfl rfl ?_
              refine j_iald hx hb hw hA (k := 8) rfl (by omega) (by omega) dX5_night_132 ?_
              refine j_eq (y := nI ((lpS (σ.1 3) ((trn (σ.1 0) σ).2.2.1.take j) (nt1 σ)).1 8)) ((hR.n _ (by omega)).trans (congrArg nI (upn_n (by omega)))) ?_
              refine lv_iconst (v := (nI (1))) hx hb dX5_night_133 (by decide) ?_
              refine j_addN hx hb dX5_night_134 ?_
              refine j_iast hx hb hw hA hz (k := 8) rfl (by omega) (by omega) dX5_night_135 (fun H locs hw hA oq hsz => ?_)
              obtain ⟨f14, ef14⟩ : ∃ y9, y9 = upd f13 (8) (nI (((lpS (σ.1 3) ((trn (σ.1 0) σ).2.2.1.take j) (nt1 σ)).1 8 + 1))) := ⟨_, rfl⟩
              rw [← ef14] at hA
              have hO := hO.kept (oq _ (by omega))
              have hT8 := hT8.kept (oq _ (by omega))
              have hf := hf.put oq hsz (by omega)
              have hR := hR.sn (k := 8) (v := (lpS (σ.1 3) ((trn (σ.1 0) σ).2.2.1.take j) (nt1 σ)).1 8 + 1) (by omega) rfl
              rw [← ef14] at hR
              have hs := hs.sn (k := 8) (v := (lpS (σ.1 3) ((trn (σ.1 0) σ).2.2.1.take j) (nt1 σ)).1 8 + 1) (by omega)
              refine lv_aload_n hx hb dX5_night_136 rfl (lv_at hl 1 rfl) ?_
              refine lv_iload_n hx hb dX5_night_137 rfl (lv_at hl 2 rfl) ?_
              refine j_Sv (n := 2) (As := [.ref row, .int (nI ((kpW (σ.1 3) ((trn (σ.1 0) σ).2.2.1.take j)).length))]) hx hb hml hown hts hw (c_X5_payBack l g z H row ((kpW (σ.1 3) ((trn (σ.1 0) σ).2.2.1.take j)).length) ((upn (upn (upo (upo (lpS (σ.1 3) ((trn (σ.1 0) σ).2.2.1.take j) (nt1 σ)) (kpW (σ.1 3) ((trn (σ.1 0) σ).2.2.1.take j) ++ (trn (σ.1 0) σ).2.2.1.drop j)) (((upo (lpS (σ.1 3) ((trn (σ.1 0) σ).2.2.1.take j) (nt1 σ)) (kpW (σ.1 3) ((trn (σ.1 0) σ).2.2.1.take j) ++ (trn (σ.1 0) σ).2.2.1.drop j))).2.2.1.set (kpW (σ.1 3) ((trn (σ.1 0) σ).2.2.1.take j)).length (nSet o 4 (o 4 + 1)))) (54 + o 0) ((lpS (σ.1 3) ((trn (σ.1 0) σ).2.2.1.take j) (nt1 σ)).1 (54 + o 0) + 1)) (8) ((lpS (σ.1 3) ((trn (σ.1 0) σ).2.2.1.take j) (nt1 σ)).1 8 + 1))) f14 (nSet o 4 (o 4 + 1)) hz hA hR hs ho2) gX5_night_X5_payBack rfl (by decide +kernel) ⟨Nat.le_of_ble_eq_true rfl, Nat.le_of_ble_eq_true rfl⟩ rfl hl.1 (Nat.le_of_ble_eq_true rfl) ⟨Nat.zero_le _, Nat.zero_le _⟩ dX5_night_138 (fun H locs hr15 hw hsz => ?_) rfl
              obtain ⟨⟨f16, hA, hR⟩, hs, hf2⟩ := hr15
              have hO := hO.kept (hf2.2 _ (by omega))
              have hT8 := hT8.kept (hf2.2 _ (by omega))
              have hf := hf.step hf2 (by omega)
              have hR : Row f16 (upo (lpS (σ.1 3) ((trn (σ.1 0) σ).2.2.1.take (j + 1)) (nt1 σ)) (kpW (σ.1 3) ((trn (σ.1 0) σ).2.2.1.take (j + 1)) ++ (trn (σ.1 0) σ).2.2.1.drop (j + 1))) := by rw [← (wait_hit (X := (nt1 σ)) hoj (show σ.1 3 ≤ o 4 + 1 by omega)).1]; exact hR
              have hs : okS (upo (lpS (σ.1 3) ((trn (σ.1 0) σ).2.2.1.take (j + 1)) (nt1 σ)) (kpW (σ.1 3) ((trn (σ.1 0) σ).2.2.1.take (j + 1)) ++ (trn (σ.1 0) σ).2.2.1.drop (j + 1))) := by rw [← (wait_hit (X := (nt1 σ)) hoj (show σ.1 3 ≤ o 4 + 1 by omega)).1]; exact hs
              rw [← (wait_hit (X := (nt1 σ)) hoj (show σ.1 3 ≤ o 4 + 1 by omega)).2] at hl
              refine lv_goto (tgt := 80) hx hb dX5_night_141 (by decide) ?_
              exact ih80  (j + 1) f16 (by omega) hR hs (by omega) H _ hw hf hA hO hT8 _ (lv_sub hl [0, 1, 2] rfl)
      refine lv_aload_n hx hb dX5_night_59 rfl (lv_at hl 1 rfl) ?_
      refine lv_bipush (v := (nI (13))) hx hb dX5_night_60 (by decide) ?_
      refine lv_dup2_11 hx hb dX5_night_62 rfl rfl ?_
      refine j_iald hx hb hw hA (k := 13) rfl (by omega) (by omega) dX5_night_63 ?_
      refine j_eq (y := nI ((trn (σ.1 0) σ).1 13)) (hR.n 13 (by omega)) ?_
      refine lv_aload_n hx hb dX5_night_64 rfl (lv_at hl 0 rfl) ?_
      refine j_get (T := TX5) (N := 16) (k := 14) hx hb hts hinX5 hown hw hO rfl (by decide) (hts (.fieldLink RX5 97 "NightTrainsModel" "tookMany" "I") (by decide +kernel)) rfl dX5_night_65 ?_
      refine jz_le (tgt := 75) hx hb dX5_night_68 (by decide) (by omega) (fun c68 => ?_) (fun c68 => ?_)
      · refine lv_iconst (v := (nI (0))) hx hb dX5_night_75 (by decide) ?_
        have htb : tb σ = 0 := by unfold tb; first | exact if_pos (by omega) | exact if_neg (by omega)
        refine j_addN hx hb dX5_night_76 ?_
        refine j_iast hx hb hw hA hz (k := 13) rfl (by omega) (by omega) dX5_night_77 (fun H locs hw hA oq hsz => ?_)
        obtain ⟨f17, ef17⟩ : ∃ y9, y9 = upd fk (13) (nI (((trn (σ.1 0) σ).1 13 + 0))) := ⟨_, rfl⟩
        rw [← ef17] at hA
        have hO := hO.kept (oq _ (by omega))
        have hT8 := hT8.kept (oq _ (by omega))
        have hf := hf.put oq hsz (by omega)
        have hR : Row f17 (nt1 σ) := by
          have h := hR.sn (k := 13) (v := (trn (σ.1 0) σ).1 13 + tb σ) (by omega) rfl
          rw [htb, ← ef17] at h
          unfold nt1
          rw [htb]
          exact h
        have hs : okS (nt1 σ) := hs.sn (by omega)
        refine lv_iconst (v := (nI (0))) hx hb dX5_night_78 (by decide) ?_
        refine lv_istore_n (lv' := [(2, .int _), (0, .ref _), (1, .ref _)]) hx hb dX5_night_79 rfl hl (by decide) rfl (fun ls hl => ?_)
        have hR : Row f17 (upo (lpS (σ.1 3) ((trn (σ.1 0) σ).2.2.1.take 0) (nt1 σ)) (kpW (σ.1 3) ((trn (σ.1 0) σ).2.2.1.take 0) ++ (trn (σ.1 0) σ).2.2.1.drop 0)) := hR
        have hs : okS (upo (lpS (σ.1 3) ((trn (σ.1 0) σ).2.2.1.take 0) (nt1 σ)) (kpW (σ.1 3) ((trn (σ.1 0) σ).2.2.1.take 0) ++ (trn (σ.1 0) σ).2.2.1.drop 0)) := hs
        exact lp80 ((trn (σ.1 0) σ).2.2.1.length - 0 + 1) 0 f17 (Nat.zero_le _) hR hs (by omega) H _ hw hf hA hO hT8 _ (lv_sub hl [1, 2, 0] rfl)
      · refine lv_iconst (v := (nI (1))) hx hb dX5_night_71 (by decide) ?_
        refine lv_goto (tgt := 76) hx hb dX5_night_72 (by decide) ?_
        have htb : tb σ = 1 := by unfold tb; first | exact if_pos (by omega) | exact if_neg (by omega)
        refine j_addN hx hb dX5_night_76 ?_
        refine j_iast hx hb hw hA hz (k := 13) rfl (by omega) (by omega) dX5_night_77 (fun H locs hw hA oq hsz => ?_)
        obtain ⟨f18, ef18⟩ : ∃ y9, y9 = upd fk (13) (nI (((trn (σ.1 0) σ).1 13 + 1))) := ⟨_, rfl⟩
        rw [← ef18] at hA
        have hO := hO.kept (oq _ (by omega))
        have hT8 := hT8.kept (oq _ (by omega))
        have hf := hf.put oq hsz (by omega)
        have hR : Row f18 (nt1 σ) := by
          have h := hR.sn (k := 13) (v := (trn (σ.1 0) σ).1 13 + tb σ) (by omega) rfl
          rw [htb, ← ef18] at h
          unfold nt1
          rw [htb]
          exact h
        have hs : okS (nt1 σ) := hs.sn (by omega)
        refine lv_iconst (v := (nI (0))) hx hb dX5_night_78 (by decide) ?_
        refine lv_istore_n (lv' := [(2, .int _), (0, .ref _), (1, .ref _)]) hx hb dX5_night_79 rfl hl (by decide) rfl (fun ls hl => ?_)
        have hR : Row f18 (upo (lpS (σ.1 3) ((trn (σ.1 0) σ).2.2.1.take 0) (nt1 σ)) (kpW (σ.1 3) ((trn (σ.1 0) σ).2.2.1.take 0) ++ (trn (σ.1 0) σ).2.2.1.drop 0)) := hR
        have hs : okS (upo (lpS (σ.1 3) ((trn (σ.1 0) σ).2.2.1.take 0) (nt1 σ)) (kpW (σ.1 3) ((trn (σ.1 0) σ).2.2.1.take 0) ++ (trn (σ.1 0) σ).2.2.1.drop 0)) := hs
        exact lp80 ((trn (σ.1 0) σ).2.2.1.length - 0 + 1) 0 f18 (Nat.zero_le _) hR hs (by omega) H _ hw hf hA hO hT8 _ (lv_sub hl [1, 2, 0] rfl)
  refine lv_aload_n hx hb dX5_night_0 rfl (lv_at hl 0 rfl) ?_
  refine lv_iconst (v := (nI (0))) hx hb dX5_night_1 (by decide) ?_
  refine j_put (T := TX5) (N := 16) (k := 14) (ty := .int) hx hb hts hinX5 tyX5 tyX5_ok nmX5 hown hw hO hzM rfl (by decide) (hts (.fieldLink RX5 97 "NightTrainsModel" "tookMany" "I") (by decide +kernel)) rfl (by decide +kernel) rfl rfl (Nat.le_of_ble_eq_true rfl) dX5_night_2 (fun H locs hw hO oq hsz => ?_)
  have hO : jO g H M 5 [.int _, .ref _, .int _, .int _, .int _, .int _, .ref _, .ref _, .ref _, .ref _, .int _, .ref _, .ref _, .ref _, .int _, .int _] := hO
  have hA := hA.kept (oq _ (by omega))
  have hT8 := hT8.kept (oq _ (by omega))
  have hf := hf.put oq hsz (by omega)
  refine lv_aload_n hx hb dX5_night_5 rfl (lv_at hl 1 rfl) ?_
  refine j_Sp (n := 1) (As := [.ref row]) hx hb hml hown hts hw (c_X5_choice l g z H row (σ) f  hA hR hs) gX5_night_X5_choice rfl (by decide +kernel) ⟨Nat.le_of_ble_eq_true rfl, Nat.le_of_ble_eq_true rfl⟩ rfl hl.1 (Nat.le_of_ble_eq_true rfl) ⟨Nat.zero_le _, Nat.zero_le _⟩ dX5_night_6 (fun r19 locs hr19 hw => ?_) rfl
  obtain rfl : r19 = (oI (wantS (σ))) := hr19
  refine lv_istore_n (lv' := [(2, .int _), (0, .ref _), (1, .ref _)]) hx hb dX5_night_9 rfl hl (by decide) rfl (fun ls hl => ?_)
  have lp10 : ∀ (n10 : Nat) (t : Nat) (r : Nat) (pre : List Nat) (σk : Sg) (fk : Nat → Int32) (tk : Nat → Int32) (sk : Bool) (xl : Int32) (htr : t + r = σ.1 0) (htl : pre.length = t) (hx2 : xl = oI (wantS σk)) (hT : trn r σk = trn (σ.1 0) σ) (hL : trl (σ.1 0) σ = pre ++ trl r σk) (hW : (sk || trw r σk) = (sn || trw (σ.1 0) σ)) (hlo : ∀ q, q < 7 → σk.1 q = σ.1 q) (hcm : ∀ o ∈ σk.2.2.1, o 4 < 9) (htk : ∀ i b, pre[i]? = some b → tk i = nI b) (hR : Row fk σk) (hs : okS σk) (hmu10 : r < n10) (H : Heap) (locs : List Loc) (hw : jW g z s H locs) (hf : jF3 M row (M + 8) H0 H) (hA : jI g H row 235 fk) (hO : jO g H M 5 [.int x0, .ref (M + 1), .int x2, .int x3, .int x4, .int x5, .ref (M + 2), .ref (M + 3), .ref (M + 4), .ref (M + 5), .int x10, .ref (M + 6), .ref (M + 7), .ref (M + 8), .int (nI (t)), .int (bI sk)]) (hT8 : jI g H (M + 8) 16 tk) (ls : Array Slot) (hl : lv_has ls 4 [(0, .ref M), (1, .ref row), (2, .int xl)]), jK p l e 3 72 s m [.ref M, .ref row] below meth c z H0 (q_X5_night g H0 M row σ f x0 x2 x3 x4 x5 x10 x14 sn tk0) H locs (F0 m 10 ls []) := by
    intro n10
    induction n10 with
    | zero => intros; omega
    | succ n10 ih10 =>
      intro t r pre σk fk tk sk xl htr htl hx2 hT hL hW hlo hcm htk hR hs hmu10 H locs hw hf hA hO hT8 ls hl
      have hlo0 := hlo 0 (by omega)
      have hs16 := hs.1.1
      refine lv_aload_n hx hb dX5_night_10 rfl (lv_at hl 0 rfl) ?_
      refine j_get (T := TX5) (N := 16) (k := 14) hx hb hts hinX5 hown hw hO rfl (by decide) (hts (.fieldLink RX5 97 "NightTrainsModel" "tookMany" "I") (by decide +kernel)) rfl dX5_night_11 ?_
      refine lv_aload_n hx hb dX5_night_14 rfl (lv_at hl 1 rfl) ?_
      refine lv_iconst (v := (nI (0))) hx hb dX5_night_15 (by decide) ?_
      refine j_iald hx hb hw hA (k := 0) rfl (by omega) (by omega) dX5_night_16 ?_
      refine j_eq (y := nI (σk.1 0)) (hR.n 0 (by omega)) ?_
      refine jn_ge (tgt := 59) hx hb dX5_night_17 (by decide) (by omega) (by omega) (fun c17 => ?_) (fun c17 => ?_)
      · have hst := trn_stop (r := r) (σ := σk) (by first | exact Or.inl (by omega) | exact Or.inr hwk)
        rw [hst.1] at hT
        rw [hst.2.1, List.append_nil] at hL
        rw [hst.2.2, Bool.or_false] at hW
        subst hT
        have hlen : t = (trl (σ.1 0) σ).length := by rw [hL]; exact htl.symm
        subst hlen
        rw [hW] at hO
        rw [← hL] at htk
        exact lp59 (0 + 1) fk tk (trn (σ.1 0) σ) rfl hcm hlo htk hR hs (by omega) H _ hw hf hA hO hT8 _ (lv_sub hl [0, 1] rfl)
      · rcases hwk : wantS σk with _ | b
        · rw [hwk] at hx2
          have hx2 : xl = -1 := hx2
          subst hx2
          refine lv_iload_n hx hb dX5_night_20 rfl (lv_at hl 2 rfl) ?_
          refine lv_iconst (v := (-1)) hx hb dX5_night_21 (by decide) ?_
          refine lv_icmp_eq (tgt := 59) hx hb dX5_night_22 (by decide) (fun c22 => ?_) (fun c22 => absurd c22 (by decide))
          have hst := trn_stop (r := r) (σ := σk) (by first | exact Or.inl (by omega) | exact Or.inr hwk)
          rw [hst.1] at hT
          rw [hst.2.1, List.append_nil] at hL
          rw [hst.2.2, Bool.or_false] at hW
          subst hT
          have hlen : t = (trl (σ.1 0) σ).length := by rw [hL]; exact htl.symm
          subst hlen
          rw [hW] at hO
          rw [← hL] at htk
          exact lp59 (0 + 1) fk tk (trn (σ.1 0) σ) rfl hcm hlo htk hR hs (by omega) H _ hw hf hA hO hT8 _ (lv_sub hl [0, 1] rfl)
        · rw [hwk] at hx2
          have hx2 : xl = nI b := hx2
          subst hx2
          have hb16 := wantS_lt hs hwk
          refine lv_iload_n hx hb dX5_night_20 rfl (lv_at hl 2 rfl) ?_
          refine lv_iconst (v := (-1)) hx hb dX5_night_21 (by decide) ?_
          refine lv_icmp_eq (tgt := 59) hx hb dX5_night_22 (by decide) (fun c22 => absurd c22 (nI_ne_m1 (by omega))) (fun c22 => ?_)
          obtain ⟨r, rfl⟩ : ∃ r1, r = r1 + 1 := ⟨r - 1, by omega⟩
          have hs9 := hs
          refine lv_aload_n hx hb dX5_night_25 rfl (lv_at hl 0 rfl) ?_
          refine lv_aload_n hx hb dX5_night_26 rfl (lv_at hl 1 rfl) ?_
          refine lv_iload_n hx hb dX5_night_27 rfl (lv_at hl 2 rfl) ?_
          refine j_Vv (n := 2) (As := [.ref row, .int (nI (b))]) hx hb hml hown hts hw (j_recv hw hO rfl) (c_X5_bring l g z H M row (b) (σk) fk x0 x2 x3 x4 x5 x10 (nI (t)) sk hzM (by omega) hz hO hA hR hs hb16) gX5_night_X5_bring rfl (by decide +kernel) ⟨Nat.le_of_ble_eq_true rfl, Nat.le_of_ble_eq_true rfl⟩ rfl hl.1 (Nat.le_of_ble_eq_true rfl) ⟨Nat.zero_le _, Nat.zero_le _⟩ dX5_night_28 (fun H locs hr20 hw hsz => ?_) rfl
          obtain ⟨⟨⟨f21, hA, hR⟩, hs, hf2⟩, hO⟩ := hr20
          have hT8 := hT8.kept (hf2.2 _ (by omega) (by omega) (by omega))
          have hf := hf.sub hf2
          refine lv_aload_n hx hb dX5_night_31 rfl (lv_at hl 0 rfl) ?_
          refine j_get (T := TX5) (N := 16) (k := 13) hx hb hts hinX5 hown hw hO rfl (by decide) (hts (.fieldLink RX5 32 "NightTrainsModel" "took" "[I") (by decide +kernel)) rfl dX5_night_32 ?_
          refine lv_aload_n hx hb dX5_night_35 rfl (lv_at hl 0 rfl) ?_
          refine j_get (T := TX5) (N := 16) (k := 14) hx hb hts hinX5 hown hw hO rfl (by decide) (hts (.fieldLink RX5 97 "NightTrainsModel" "tookMany" "I") (by decide +kernel)) rfl dX5_night_36 ?_
          refine lv_iload_n hx hb dX5_night_39 rfl (lv_at hl 2 rfl) ?_
          refine j_iast hx hb hw hT8 (by omega) (k := t) rfl (by omega) (by omega) dX5_night_40 (fun H locs hw hT8 oq hsz => ?_)
          obtain ⟨f22, ef22⟩ : ∃ y9, y9 = upd tk (t) (nI (b)) := ⟨_, rfl⟩
          rw [← ef22] at hT8
          have hO := hO.kept (oq _ (by omega))
          have hA := hA.kept (oq _ (by omega))
          have hf := hf.put oq hsz (by omega)
          refine lv_aload_n hx hb dX5_night_41 rfl (lv_at hl 0 rfl) ?_
          refine lv_dup hx hb dX5_night_42 rfl ?_
          refine j_get (T := TX5) (N := 16) (k := 14) hx hb hts hinX5 hown hw hO rfl (by decide) (hts (.fieldLink RX5 97 "NightTrainsModel" "tookMany" "I") (by decide +kernel)) rfl dX5_night_43 ?_
          refine lv_iconst (v := (nI (1))) hx hb dX5_night_46 (by decide) ?_
          refine j_addN hx hb dX5_night_47 ?_
          refine j_put (T := TX5) (N := 16) (k := 14) (ty := .int) hx hb hts hinX5 tyX5 tyX5_ok nmX5 hown hw hO hzM rfl (by decide) (hts (.fieldLink RX5 97 "NightTrainsModel" "tookMany" "I") (by decide +kernel)) rfl (by decide +kernel) rfl rfl (Nat.le_of_ble_eq_true rfl) dX5_night_48 (fun H locs hw hO oq hsz => ?_)
          have hO : jO g H M 5 [.int _, .ref _, .int _, .int _, .int _, .int _, .ref _, .ref _, .ref _, .ref _, .int _, .ref _, .ref _, .ref _, .int _, .int _] := hO
          have hA := hA.kept (oq _ (by omega))
          have hT8 := hT8.kept (oq _ (by omega))
          have hf := hf.put oq hsz (by omega)
          refine lv_aload_n hx hb dX5_night_51 rfl (lv_at hl 1 rfl) ?_
          refine j_Sp (n := 1) (As := [.ref row]) hx hb hml hown hts hw (c_X5_choice l g z H row ((bringS (σk) (b))) f21  hA hR hs) gX5_night_X5_choice rfl (by decide +kernel) ⟨Nat.le_of_ble_eq_true rfl, Nat.le_of_ble_eq_true rfl⟩ rfl hl.1 (Nat.le_of_ble_eq_true rfl) ⟨Nat.zero_le _, Nat.zero_le _⟩ dX5_night_52 (fun r23 locs hr23 hw => ?_) rfl
          obtain rfl : r23 = (oI (wantS ((bringS (σk) (b))))) := hr23
          refine lv_istore_n (lv' := [(2, .int _), (0, .ref _), (1, .ref _)]) hx hb dX5_night_55 rfl hl (by decide) rfl (fun ls hl => ?_)
          refine lv_goto (tgt := 10) hx hb dX5_night_56 (by decide) ?_
          exact ih10  (t + 1) r (pre ++ [b]) (bringS (σk) (b)) f21 f22 (sk || wd b σk.2.2.1) _ (by first | assumption | omega) (by rw [List.length_append, htl]; rfl) rfl (by rw [← (trn_go hwk).1]; exact hT) (by rw [List.append_assoc, List.singleton_append, ← (trn_go hwk).2.1]; exact hL) (by rw [Bool.or_assoc, ← (trn_go hwk).2.2]; exact hW) (fun q hq => (bring_low hs9 hq).trans (hlo q hq)) (fun o ho => hcm o (kp_mem ho)) (took_add htl htk ef22) hR hs (by omega) H _ hw hf hA hO hT8 _ (lv_sub hl [1, 2, 0] rfl)
  exact lp10 ((σ.1 0) + 1) 0 (σ.1 0) [] σ f tk0 sn _ (by first | assumption | omega) rfl rfl rfl rfl rfl (fun _ _ => rfl) hcalm (fun i b h => by cases i <;> cases h) hR hs (by omega) H _ hw hf hA hO hT8 _ (lv_sub hl [1, 2, 0] rfl)

abbrev q_X5_nightsIn (g : jG) (H0 : Heap) (M : Nat) (row : Nat) (n : Nat) (σ : Sg) (f : Nat → Int32) (x0 : Int32) (x2 : Int32) (x3 : Int32) (x4 : Int32) (x5 : Int32) (x10 : Int32) (x14 : Int32) (sn : Bool) (tk0 : Nat → Int32) : Option Value → Heap → Prop := jN (fun r H1 => r = nI ((nightsS n σ).1 7) - nI (σ.1 7) ∧ rTo3 g M row (nightsS n σ) H0 H1 ∧ ∃ y14 sn1 tk, jO g H1 M 5 [.int x0, .ref (M + 1), .int x2, .int x3, .int x4, .int x5, .ref (M + 2), .ref (M + 3), .ref (M + 4), .ref (M + 5), .int x10, .ref (M + 6), .ref (M + 7), .ref (M + 8), .int y14, .int (bI sn1)] ∧ jI g H1 (M + 8) 16 tk)
set_option maxHeartbeats 4000000 in
set_option maxRecDepth 100000 in
theorem c_X5_nightsIn (l : Launch) (g : jG) (z : Nat) (H0 : Heap) (M : Nat) (row : Nat) (n : Nat) (σ : Sg) (f : Nat → Int32) (x0 : Int32) (x2 : Int32) (x3 : Int32) (x4 : Int32) (x5 : Int32) (x10 : Int32) (x14 : Int32) (sn : Bool) (tk0 : Nat → Int32) (hzM : z ≤ M) (hrow : M + 2 ≤ row ∧ row ≤ M + 4) (hz : z ≤ row) (hO : jO g H0 M 5 [.int x0, .ref (M + 1), .int x2, .int x3, .int x4, .int x5, .ref (M + 2), .ref (M + 3), .ref (M + 4), .ref (M + 5), .int x10, .ref (M + 6), .ref (M + 7), .ref (M + 8), .int x14, .int (bI sn)]) (hA : jI g H0 row 235 f) (hT8 : jI g H0 (M + 8) 16 tk0) (hR : Row f σ) (hs : okS σ) (hcalm : ∀ o ∈ σ.2.2.1, o 4 < 9) (hn : n < 1000) : jM l g z yX5_nightsIn wsX5_nightsIn 4 95 [.ref M, .ref row, .int (nI (n))] H0 (q_X5_nightsIn g H0 M row n σ f x0 x2 x3 x4 x5 x10 x14 sn tk0) := by
  refine j_of (cc := cX5_nightsIn) (n := 5) (ret := some .int) (by decide) rfl (Nat.le_of_ble_eq_true rfl) ?_
  intro p e s m below meth c hx hb hr hml hown hts hlocks hname hH hw ls hl
  have hl : lv_has ls 5 [(0, .ref M), (1, .ref row), (2, .int (nI (n)))] := hl
  have hf : jF3 M row (M + 8) H0 H0 := jF3.rf
  refine lv_aload_n hx hb dX5_nightsIn_0 rfl (lv_at hl 1 rfl) ?_
  refine lv_bipush (v := (nI (7))) hx hb dX5_nightsIn_1 (by decide) ?_
  refine j_iald hx hb hw hA (k := 7) rfl (by omega) (by omega) dX5_nightsIn_3 ?_
  refine j_eq (y := (nI (σ.1 7))) (hR.n 7 (by omega)) ?_
  refine lv_istore_n (lv' := [(3, .int _), (0, .ref _), (1, .ref _), (2, .int _)]) hx hb dX5_nightsIn_4 rfl hl (by decide) rfl (fun ls hl => ?_)
  refine lv_iconst (v := (nI (0))) hx hb dX5_nightsIn_5 (by decide) ?_
  refine lv_istore (lv' := [(4, .int _), (3, .int _), (0, .ref _), (1, .ref _), (2, .int _)]) hx hb dX5_nightsIn_6 hl (by decide) rfl (fun ls hl => ?_)
  have lp8 : ∀ (n8 : Nat) (k : Nat) (fk : Nat → Int32) (y14 : Int32) (b : Bool) (tk : Nat → Int32) (hk : k ≤ n) (hR : Row fk (nightsS k σ)) (hs : okS (nightsS k σ)) (hcm : ∀ o ∈ (nightsS k σ).2.2.1, o 4 < 9) (hmu8 : n - k < n8) (H : Heap) (locs : List Loc) (hw : jW g z s H locs) (hf : jF3 M row (M + 8) H0 H) (hA : jI g H row 235 fk) (hO : jO g H M 5 [.int x0, .ref (M + 1), .int x2, .int x3, .int x4, .int x5, .ref (M + 2), .ref (M + 3), .ref (M + 4), .ref (M + 5), .int x10, .ref (M + 6), .ref (M + 7), .ref (M + 8), .int y14, .int (bI b)]) (hT8 : jI g H (M + 8) 16 tk) (ls : Array Slot) (hl : lv_has ls 5 [(0, .ref M), (1, .ref row), (2, .int (nI (n))), (3, .int (nI (σ.1 7))), (4, .int (nI (k)))]), jK p l e 4 95 s m [.ref M, .ref row, .int (nI (n))] below meth c z H0 (q_X5_nightsIn g H0 M row n σ f x0 x2 x3 x4 x5 x10 x14 sn tk0) H locs (F0 m 8 ls []) := by
    intro n8
    induction n8 with
    | zero => intros; omega
    | succ n8 ih8 =>
      intro k fk y14 b tk hk hR hs hcm hmu8 H locs hw hf hA hO hT8 ls hl
      refine lv_iload hx hb dX5_nightsIn_8 (lv_at hl 4 rfl) ?_
      refine lv_iload_n hx hb dX5_nightsIn_10 rfl (lv_at hl 2 rfl) ?_
      refine jn_ge (tgt := 25) hx hb dX5_nightsIn_11 (by decide) (by omega) (by omega) (fun c11 => ?_) (fun c11 => ?_)
      · have hk9 : n = k := by omega
        subst hk9
        refine lv_aload_n hx hb dX5_nightsIn_25 rfl (lv_at hl 1 rfl) ?_
        refine lv_bipush (v := (nI (7))) hx hb dX5_nightsIn_26 (by decide) ?_
        refine j_iald hx hb hw hA (k := 7) rfl (by omega) (by omega) dX5_nightsIn_28 ?_
        refine j_eq (y := (nI ((nightsS n σ).1 7))) (hR.n 7 (by omega)) ?_
        refine lv_iload_n hx hb dX5_nightsIn_29 rfl (lv_at hl 3 rfl) ?_
        refine lv_isub hx hb dX5_nightsIn_30 ?_
        refine j_iret hx hb hr hlocks hH hw dX5_nightsIn_31 ?_
        exact ⟨_, rfl, rfl, ⟨⟨_, hA, hR⟩, hs, hf⟩, y14, b, tk, hO, hT8⟩
      · have hcm9 := hcm
        have hs9 := hs
        refine lv_aload_n hx hb dX5_nightsIn_14 rfl (lv_at hl 0 rfl) ?_
        refine lv_aload_n hx hb dX5_nightsIn_15 rfl (lv_at hl 1 rfl) ?_
        refine j_Vv (n := 1) (As := [.ref row]) hx hb hml hown hts hw (j_recv hw hO rfl) (c_X5_night l g z H M row ((nightsS k σ)) fk x0 x2 x3 x4 x5 x10 y14 b tk hzM (by omega) hz hO hA hT8 hR hs hcm) gX5_nightsIn_X5_night rfl (by decide +kernel) ⟨Nat.le_of_ble_eq_true rfl, Nat.le_of_ble_eq_true rfl⟩ rfl hl.1 (Nat.le_of_ble_eq_true rfl) ⟨Nat.zero_le _, Nat.zero_le _⟩ dX5_nightsIn_16 (fun H locs hr1 hw hsz => ?_) rfl
        obtain ⟨⟨⟨f2, hA, hR⟩, hs, hf2⟩, hO, tk3, hT8, htk3⟩ := hr1
        have hf := hf.cat hf2
        refine lv_iinc (v := nI (k + 1)) (lv' := [(4, .int _), (0, .ref _), (1, .ref _), (2, .int _), (3, .int _)]) hx hb dX5_nightsIn_19 hl (k := 4) rfl (nI_add _ 1) (by decide) rfl (fun ls hl => ?_)
        refine lv_goto (tgt := 8) hx hb dX5_nightsIn_22 (by decide) ?_
        exact ih8  (k + 1) f2 (nI ((trl (((nightsS k σ)).1 0) ((nightsS k σ))).length)) (b || trw (((nightsS k σ)).1 0) ((nightsS k σ))) tk3 (by first | assumption | omega) hR hs (night_calm hs9) (by omega) H _ hw hf hA hO hT8 _ (lv_sub hl [1, 2, 3, 4, 0] rfl)
  exact lp8 (n - 0 + 1) 0 f x14 sn tk0 (by first | assumption | omega) hR hs hcalm (by omega) H0 _ hw hf hA hO hT8 _ (lv_sub hl [2, 3, 4, 1, 0] rfl)
