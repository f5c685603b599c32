/-! A store as a whole: copied, made new, its numbers; the states that are remembered. -/
theorem hsum_cons (o : Od) (t : List Od) : ∀ k : Nat, hsum (o :: t) k = (if o 1 < k then o 3 else 0) + hsum t k
  | 0 => by simp [hsum]
  | k + 1 => by
    simp only [hsum, fsum]
    rw [hsum_cons o t k]
    by_cases h1 : o 1 < k
    · rw [if_pos h1, if_neg (by omega), if_pos (by omega)]; omega
    · rw [if_neg h1]
      by_cases h2 : o 1 = k
      · rw [if_pos h2, if_pos (by omega)]; omega
      · rw [if_neg h2, if_neg (by omega)]; omega
theorem hsum_nil : ∀ k : Nat, hsum [] k = 0
  | 0 => rfl
  | k + 1 => by simp only [hsum, fsum]; rw [hsum_nil k]
theorem asum_h : ∀ {L : List Od}, (∀ o ∈ L, o 1 < 16) → asum L = hsum L 16
  | [], _ => (hsum_nil 16).symm
  | o :: t, h => by
    rw [hsum_cons, if_pos (h o List.mem_cons_self)]
    simp only [asum]
    rw [asum_h (fun x hx => h x (List.mem_cons_of_mem _ hx))]
theorem clnN_big {k : Nat} (h : 4 ≤ k) : clnN k = 0 := by
  unfold clnN
  split <;> omega
theorem Sto_S0 : Sto jFirst (fun _ => nI 50) (fun _ => nI 0) (fun _ => nI 0) (fun _ => -1) (fun _ => nI 0) (fun _ => nI 0) S0 := by
  refine ⟨fun k hk => ?_, fun k _ => rfl, fun k _ => ?_, fun k _ => ?_, fun k _ => ?_, fun k _ => ?_, fun k _ _ _ _ => ?_⟩
  · have hw9 : k = 0 ∨ k = 1 ∨ k = 2 ∨ k = 3 ∨ k = 4 := by omega
    rcases hw9 with rfl | rfl | rfl | rfl | rfl <;> rfl
  · show nI 0 = nI (clnN (50 + k)); rw [clnN_big (by omega)]
  · show nI 0 = nI (clnN (54 + k)); rw [clnN_big (by omega)]
  · show (-1 : Int32) = nI (clnN (14 + k)) - nI 1; rw [clnN_big (by omega)]; decide
  · show nI 0 = nI (clnN (30 + k)); rw [clnN_big (by omega)]
  · show nI 0 = nI (clnN (cnN k)); rw [clnN_big (by have := cnN_ge (k := k); omega)]
def jHi (g : jG) (H : Heap) (a : Nat) (hi : List Sg) : Prop := ∃ nx : Nat, nx < 14 ∧ hi.length ≤ 14 ∧ jO g H a 0 [.ref (a + 1), .int (nI nx), .int (nI hi.length)] ∧ jR g H (a + 1) 14 (fun i => some (a + 2 + 12 * i)) ∧ (∀ i, i < 14 → ∃ τ R, jSo g H (a + 2 + 12 * i) τ R) ∧ (∀ i s, hi[i]? = some s → okN s ∧ jSo g H (a + 2 + 12 * ((nx + 14 - hi.length + i) % 14)) s (opnR s))
theorem jHi.kept {g : jG} {H H1 : Heap} {a : Nat} {hi : List Sg} (h : jHi g H a hi) (hq : ∀ q : Nat, a ≤ q → q < a + 170 → H1[q]? = H[q]?) : jHi g H1 a hi := by
  obtain ⟨nx, h1, h2, h3, h4, h5, h6⟩ := h
  refine ⟨nx, h1, h2, h3.kept (hq _ (by omega) (by omega)), h4.kept (hq _ (by omega) (by omega)), fun i hi => ?_, fun i s hs => ?_⟩
  · obtain ⟨τ, R, h⟩ := h5 i hi
    exact ⟨τ, R, h.kept (fun q _ _ => hq q (by omega) (by omega))⟩
  · obtain ⟨h7, h8⟩ := h6 i s hs
    exact ⟨h7, h8.kept (fun q _ _ => hq q (by omega) (by omega))⟩
theorem jHi.obj {g : jG} {H : Heap} {a : Nat} {hi : List Sg} (h : jHi g H a hi) : ∃ nx : Nat, jO g H a 0 [.ref (a + 1), .int (nI nx), .int (nI hi.length)] := by
  obtain ⟨nx, -, -, h3, -⟩ := h
  exact ⟨nx, h3⟩
/-- written: the object at a, and one state of it -/
def jFh (a nx : Nat) (H0 H : Heap) : Prop := H.size = H0.size ∧ ∀ q : Nat, (q < a ∨ a < q ∧ q < a + 2 + 12 * nx ∨ a + 2 + 12 * nx + 12 ≤ q) → H[q]? = H0[q]?
theorem jFh.rf {a nx : Nat} {H : Heap} : jFh a nx H H := ⟨rfl, fun _ _ => rfl⟩
theorem jFh.put {a nx b : Nat} {H0 H H1 : Heap} (h : jFh a nx H0 H) (oq : ∀ q : Nat, q ≠ b → H1[q]? = H[q]?) (hs : H1.size = H.size) (hb : b = a) : jFh a nx H0 H1 := ⟨by rw [hs, h.1], fun q hq => by rw [oq q (by omega)]; exact h.2 q hq⟩
theorem jFh.step {a nx b k : Nat} {H0 H H1 : Heap} (h : jFh a nx H0 H) (h2 : jF b k H H1) (hb : a + 2 + 12 * nx ≤ b ∧ b + k ≤ a + 2 + 12 * nx + 12) : jFh a nx H0 H1 := ⟨by rw [h2.1, h.1], fun q hq => by rw [h2.2 q (by omega)]; exact h.2 q hq⟩
theorem jFh.out {a nx : Nat} {H0 H : Heap} (h : jFh a nx H0 H) (hn : nx < 14) : jF a 170 H0 H := ⟨h.1, fun q hq => h.2 q (by omega)⟩
theorem Hi_push {g : jG} {H0 H : Heap} {a nx : Nat} {hi : List Sg} {σ : Sg} (hN : okN σ) (hnx : nx < 14) (hl : hi.length ≤ 14) (hO : jO g H a 0 [.ref (a + 1), .int (nI ((nx + 1) % 14)), .int (nI (min (hi.length + 1) 14))]) (hR : jR g H (a + 1) 14 (fun i => some (a + 2 + 12 * i))) (hall : ∀ i, i < 14 → ∃ τ R, jSo g H0 (a + 2 + 12 * i) τ R) (hst : ∀ i s, hi[i]? = some s → okN s ∧ jSo g H0 (a + 2 + 12 * ((nx + 14 - hi.length + i) % 14)) s (opnR s)) (hn : jSo g H (a + 2 + 12 * nx) σ (opnR σ)) (hf : jFh a nx H0 H) : jHi g H a (pushH hi σ) := by
  have hp := pushH_len (σ := σ) hl
  have hlen : (pushH hi σ).length = min (hi.length + 1) 14 := by rw [hp.2]; split <;> omega
  refine ⟨(nx + 1) % 14, by omega, hp.1, by rw [hlen]; exact hO, hR, fun i hi9 => ?_, fun i s hs => ?_⟩
  · by_cases q : i = nx
    · subst q; exact ⟨σ, _, hn⟩
    · obtain ⟨τ, R, h⟩ := hall i hi9
      exact ⟨τ, R, h.kept (fun q _ _ => hf.2 q (by omega))⟩
  · have hi9 := (List.getElem?_eq_some_iff.mp hs).1
    rw [hlen] at hi9 ⊢
    unfold pushH at hs
    by_cases h14 : hi.length = 14
    · rw [if_pos h14] at hs
      by_cases q : i < 13
      · rw [List.getElem?_append_left (by rw [List.length_tail]; omega), List.getElem?_tail] at hs
        obtain ⟨h1, h2⟩ := hst (i + 1) s hs
        have e : (nx + 14 - hi.length + (i + 1)) % 14 = ((nx + 1) % 14 + 14 - min (hi.length + 1) 14 + i) % 14 := by omega
        rw [e] at h2
        exact ⟨h1, h2.kept (fun q _ _ => hf.2 q (by omega))⟩
      · have e : i = hi.tail.length := by rw [List.length_tail]; omega
        rw [e, List.getElem?_append_right (Nat.le_refl _), Nat.sub_self] at hs
        cases hs
        have e2 : ((nx + 1) % 14 + 14 - min (hi.length + 1) 14 + i) % 14 = nx := by omega
        rw [e2]
        exact ⟨hN, hn⟩
    · rw [if_neg h14] at hs
      by_cases q : i < hi.length
      · rw [List.getElem?_append_left q] at hs
        obtain ⟨h1, h2⟩ := hst i s hs
        have e : (nx + 14 - hi.length + i) % 14 = ((nx + 1) % 14 + 14 - min (hi.length + 1) 14 + i) % 14 := by omega
        rw [e] at h2
        exact ⟨h1, h2.kept (fun q _ _ => hf.2 q (by omega))⟩
      · have e : i = hi.length := by omega
        rw [e, List.getElem?_append_right (Nat.le_refl _), Nat.sub_self] at hs
        cases hs
        have e2 : ((nx + 1) % 14 + 14 - min (hi.length + 1) 14 + i) % 14 = nx := by omega
        rw [e2]
        exact ⟨hN, hn⟩
theorem Hi_pop {g : jG} {H : Heap} {a nx : Nat} {h : List Sg} {s : Sg} (hnx : nx < 14) (hl : (h ++ [s]).length ≤ 14) (hO : jO g H a 0 [.ref (a + 1), .int (nI ((nx + 14 - 1) % 14)), .int (nI ((h ++ [s]).length - 1))]) (hR : jR g H (a + 1) 14 (fun i => some (a + 2 + 12 * i))) (hall : ∀ i, i < 14 → ∃ τ R, jSo g H (a + 2 + 12 * i) τ R) (hst : ∀ i s', (h ++ [s])[i]? = some s' → okN s' ∧ jSo g H (a + 2 + 12 * ((nx + 14 - (h ++ [s]).length + i) % 14)) s' (opnR s')) : jHi g H a h := by
  have hlen : (h ++ [s]).length = h.length + 1 := by rw [List.length_append]; rfl
  rw [hlen] at hl hO hst
  refine ⟨(nx + 14 - 1) % 14, by omega, by omega, hO, hR, hall, fun i s' hs => ?_⟩
  have hi9 := (List.getElem?_eq_some_iff.mp hs).1
  obtain ⟨h1, h2⟩ := hst i s' (by rw [List.getElem?_append_left hi9]; exact hs)
  have e : (nx + 14 - (h.length + 1) + i) % 14 = ((nx + 14 - 1) % 14 + 14 - h.length + i) % 14 := by omega
  rw [e] at h2
  exact ⟨h1, h2⟩
/-- written: the object at a, and the store at b -/
def jF2 (a b n : Nat) (H0 H : Heap) : Prop := H.size = H0.size ∧ ∀ q : Nat, q ≠ a → (q < b ∨ b + n ≤ q) → H[q]? = H0[q]?
theorem jF2.rf {a b n : Nat} {H : Heap} : jF2 a b n H H := ⟨rfl, fun _ _ _ => rfl⟩
theorem jF2.put {a b n c : Nat} {H0 H H1 : Heap} (h : jF2 a b n H0 H) (oq : ∀ q : Nat, q ≠ c → H1[q]? = H[q]?) (hs : H1.size = H.size) (hb : c = a) : jF2 a b n H0 H1 := ⟨by rw [hs, h.1], fun q h1 h2 => by rw [oq q (by omega)]; exact h.2 q h1 h2⟩
theorem jF2.step {a b n c k : Nat} {H0 H H1 : Heap} (h : jF2 a b n H0 H) (h2 : jF c k H H1) (hb : b ≤ c ∧ c + k ≤ b + n) : jF2 a b n H0 H1 := ⟨by rw [h2.1, h.1], fun q h3 h4 => by rw [h2.2 q (by omega)]; exact h.2 q h3 h4⟩
theorem jF.two {a n x y m : Nat} {H0 H H1 : Heap} (h : jF a n H0 H) (h2 : jF2 x y m H H1) (hx : a ≤ x ∧ x < a + n) (hy : a ≤ y ∧ y + m ≤ a + n) : jF a n H0 H1 := ⟨by rw [h2.1, h.1], fun q hq => by rw [h2.2 q (by omega) (by omega)]; exact h.2 q hq⟩
theorem dJ7_fill_53178_0 : decode cJ7_fill_53178 0 = .ok (.iconst 0, 1) := by decide +kernel
theorem dJ7_fill_53178_1 : decode cJ7_fill_53178 1 = .ok (.istore_n 2, 1) := by decide +kernel
theorem dJ7_fill_53178_2 : decode cJ7_fill_53178 2 = .ok (.aload_n 0, 1) := by decide +kernel
theorem dJ7_fill_53178_3 : decode cJ7_fill_53178 3 = .ok (.arraylength, 1) := by decide +kernel
theorem dJ7_fill_53178_4 : decode cJ7_fill_53178 4 = .ok (.istore_n 3, 1) := by decide +kernel
theorem dJ7_fill_53178_5 : decode cJ7_fill_53178 5 = .ok (.iload_n 2, 1) := by decide +kernel
theorem dJ7_fill_53178_6 : decode cJ7_fill_53178 6 = .ok (.iload_n 3, 1) := by decide +kernel
theorem dJ7_fill_53178_7 : decode cJ7_fill_53178 7 = .ok (.if_icmp .ge 13, 3) := by decide +kernel
theorem dJ7_fill_53178_10 : decode cJ7_fill_53178 10 = .ok (.aload_n 0, 1) := by decide +kernel
theorem dJ7_fill_53178_11 : decode cJ7_fill_53178 11 = .ok (.iload_n 2, 1) := by decide +kernel
theorem dJ7_fill_53178_12 : decode cJ7_fill_53178 12 = .ok (.iload_n 1, 1) := by decide +kernel
theorem dJ7_fill_53178_13 : decode cJ7_fill_53178 13 = .ok (.iastore, 1) := by decide +kernel
theorem dJ7_fill_53178_14 : decode cJ7_fill_53178 14 = .ok (.iinc 2 1, 3) := by decide +kernel
theorem dJ7_fill_53178_17 : decode cJ7_fill_53178 17 = .ok (.goto (-12), 3) := by decide +kernel
theorem dJ7_fill_53178_20 : decode cJ7_fill_53178 20 = .ok (.return_, 1) := by decide +kernel
