/-! The actions' answers, and what the reference remembers. -/
theorem Row.cong {f f' : Nat → Int32} {σ : Sg} (hs : okS σ) (h : Row f σ) (e : ∀ j, j < 235 → f' j = f j) : Row f' σ := by
  obtain ⟨h1, h2, h3, h4, h5, h6⟩ := h
  refine ⟨fun k a b c => (e k (by omega)).trans (h1 k a b c), fun c hc => (e _ (by omega)).trans (h2 c hc), (e 6 (by omega)).trans h3, (e 58 (by omega)).trans h4, fun i w o ho hw => ?_, fun i w o ho hw => ?_⟩
  · have hl := lenlt ho
    have := hs.2.2.1
    exact (e _ (by omega)).trans (h5 i w o ho hw)
  · have hl := lenlt ho
    have := hs.2.2.2.2.1
    exact (e _ (by omega)).trans (h6 i w o ho hw)
def pushH (hi : List Sg) (σ : Sg) : List Sg := (if hi.length = 14 then hi.tail else hi) ++ [σ]
theorem pushH_len {hi : List Sg} {σ : Sg} (h : hi.length ≤ 14) : (pushH hi σ).length ≤ 14 ∧ (pushH hi σ).length = (if hi.length = 14 then 14 else hi.length + 1) := by
  unfold pushH
  rw [List.length_append]
  have h1 : [σ].length = 1 := rfl
  split
  · rw [List.length_tail]; omega
  · omega
theorem Dia_push {dy nw : Nat → Int32} {hi : List Sg} {σ : Sg} (h : Dia dy hi) (hR : Row nw σ) (hN : okN σ) : Dia (va_cpy nw dy 0 (235 * hi.length) 235) (hi ++ [σ]) := by
  intro i s hs
  by_cases q : i < hi.length
  · rw [List.getElem?_append_left q] at hs
    obtain ⟨h1, h2⟩ := h i s hs
    refine ⟨h1.cong h2.1 (fun j hj => ?_), h2⟩
    simp only [va_cpy]
    rw [if_neg (by omega)]
  · have hl : i < (hi ++ [σ]).length := (List.getElem?_eq_some_iff.mp hs).1
    rw [List.length_append] at hl
    have h1 : [σ].length = 1 := rfl
    have hi2 : i = hi.length := by omega
    subst hi2
    rw [List.getElem?_append_right (Nat.le_refl _), Nat.sub_self] at hs
    cases hs
    refine ⟨hR.cong hN.1 (fun j hj => ?_), hN⟩
    simp only [va_cpy]
    rw [if_pos (by omega)]
    congr 1
    omega
theorem Dia_tail {dy : Nat → Int32} {hi : List Sg} (h : Dia dy hi) (hl : hi.length = 14) : Dia (va_cpy dy dy 235 0 3055) hi.tail := by
  intro i s hs
  rw [List.getElem?_tail] at hs
  have hi1 : i + 1 < hi.length := (List.getElem?_eq_some_iff.mp hs).1
  obtain ⟨h1, h2⟩ := h (i + 1) s hs
  refine ⟨h1.cong h2.1 (fun j hj => ?_), h2⟩
  simp only [va_cpy]
  rw [if_pos (by omega)]
  congr 1
  omega
theorem MI.acts {tx : List Nat} {σ : Sg} {hi : List Sg} {sv : Nat → Option Sg} {sc nw dy kp ik : Nat → Int32} (h : MI tx σ hi sv sc nw dy kp ik) {f d : Nat → Int32} {σ' : Sg} (hR : Row f σ') (hs : okN σ') {hi' : List Sg} (hl : hi'.length ≤ 14) (hd : Dia d hi') : MI tx σ' hi' sv sc f d kp ik := ⟨h.1, h.2.1, hR, hs, hl, hd, h.2.2.2.2.2.2⟩
def loS (w : Nat) : Nat := match w with | 1 => 1 | 2 => 1 | 3 => 1 | _ => 0
def hiS (w : Nat) : Nat := match w with | 0 => 4 | 1 => 6 | 4 => 2 | _ => 9
def fCancel (σ : Sg) (i : Int32) : Nat × Int32 × Sg := match ix i 0 σ.2.2.1.length with
  | none => (1, 0, σ)
  | some j => match σ.2.2.1[j]? with
    | none => (1, 0, σ)
    | some o => (0, nI (o 3), cancelS σ j o)
def fRaise (σ : Sg) (i y : Int32) : Nat × Int32 × Sg := match ix i 0 σ.2.2.1.length with
  | none => (1, 0, σ)
  | some j => match ix y 1 10 with
    | none => (2, 0, σ)
    | some u => match σ.2.2.1[j]? with
      | none => (1, 0, σ)
      | some o => if o 3 + u ≤ 9 ∧ nI u ≤ σ.2.1 (o 0) then (0, nI (o 3 + u), raiseS σ j o u) else (3, 0, σ)
def fNights (σ : Sg) (n : Int32) : Nat × Int32 × Sg := match ix n 1 31 with
  | none => (1, 0, σ)
  | some k => (0, nI ((nightsS k σ).1 7) - nI (σ.1 7), nightsS k σ)
def fGive (σ : Sg) (c v : Int32) : Nat × Int32 × Sg := match ix c 0 4 with
  | none => (1, 0, σ)
  | some k => match ix v 1 101 with
    | none => (2, 0, σ)
    | some u => (0, σ.2.1 k + nI u, upp σ k (σ.2.1 k + nI u))
def fSet (σ : Sg) (w v : Int32) : Nat × Int32 × Sg := match ix w 0 5 with
  | none => (1, 0, σ)
  | some k => match ix v (loS k) (hiS k + 1) with
    | none => (1, 0, σ)
    | some u => (0, nI (σ.1 k), upn σ k u)
def fAsk (σ : Sg) (c l it fe : Int32) : Nat × Int32 × Sg := match ix c 0 4 with
  | none => (1, 0, σ)
  | some c => match ix l 0 16 with
    | none => (1, 0, σ)
    | some l => match ix it 0 8 with
      | none => (2, 0, σ)
      | some it => match ix fe 0 10 with
        | none => (2, 0, σ)
        | some fe => if 0 < σ.1 (14 + l) ∨ (σ.2.2.1.length < 20 ∧ nI fe ≤ σ.2.1 c) then (if 0 < σ.1 (14 + l) then (0, -1, askF σ c l it) else (0, nI σ.2.2.1.length, askO σ c l it fe)) else (3, 0, σ)
/-- what holds of the state in use stays -/
theorem okN.cancel {σ : Sg} (h : okN σ) {j : Nat} {o : Od} : okN (cancelS σ j o) :=
  ⟨((((h.1.sp (c := o 0) (x := σ.2.1 (o 0) + nI (o 3))).sn (k := 11) (v := σ.1 11 + o 3) (by omega)).erase j).sn (k := 9) (by omega)), fun x hx => h.2.1 x (List.mem_of_mem_eraseIdx hx), Nat.le_trans (List.length_eraseIdx_le _ _) h.2.2⟩
theorem okN.raise {σ : Sg} (h : okN σ) {j y : Nat} {o : Od} (ho : σ.2.2.1[j]? = some o) (hy : o 3 + y ≤ 9) : okN (raiseS σ j o y) := by
  refine ⟨(h.1.sp (c := o 0) (x := σ.2.1 (o 0) - nI y)).set j ((h.1.2.2.2.1 o (memO ho)).fee (by omega)), fun x hx => ?_, ?_⟩
  · rcases List.mem_or_eq_of_mem_set (show x ∈ σ.2.2.1.set j (nSet o 3 (o 3 + y)) from hx) with q | q
    · exact h.2.1 x q
    · rw [q, nSet_n _ _ (by omega)]; exact h.2.1 o (memO ho)
  · show (σ.2.2.1.set j _).length ≤ 20
    rw [List.length_set]; exact h.2.2
theorem nights_len {σ : Sg} (h : okS σ) : ∀ k : Nat, (nightsS k σ).2.2.1.length ≤ σ.2.2.1.length
  | 0 => Nat.le_refl _
  | k + 1 => by
    have h1 := nights_len h k
    refine Nat.le_trans ?_ h1
    show (nightS (nightsS k σ)).2.2.1.length ≤ _
    rw [night_open]
    refine Nat.le_trans (kpW_len _ _) ?_
    have key : ∀ (r : Nat) (τ : Sg), (trn r τ).2.2.1.length ≤ τ.2.2.1.length := by
      intro r
      induction r with
      | zero => intro τ; exact Nat.le_refl _
      | succ r ih =>
        intro τ
        simp only [trn]
        split
        · exact Nat.le_refl _
        · exact Nat.le_trans (ih _) (kp_len _ _)
    exact key _ _
theorem okN.nights {σ : Sg} (h : okN σ) (k : Nat) : okN (nightsS k σ) := ⟨okS_nights h.1 k, nights_calm h.1 h.2.1 k, Nat.le_trans (nights_len h.1 k) h.2.2⟩
theorem okN.sp {σ : Sg} (h : okN σ) {c : Nat} {x : Int32} : okN (upp σ c x) := ⟨h.1.sp, h.2⟩
theorem okN.set {σ : Sg} (h : okN σ) {k u : Nat} (hk : k < 5) (h1 : loS k ≤ u) (h2 : u ≤ hiS k) : okN (upn σ k u) := by
  obtain ⟨⟨⟨a0, a1, a2, a3, a4, a5, a6, a7⟩, b⟩, c⟩ := h
  refine ⟨⟨?_, fun l hl => by rw [upn_n (by omega)]; exact b.1 l hl, b.2⟩, c⟩
  match k, hk, h1, h2 with
  | 0, _, h1, h2 => exact ⟨by rw [upn_s]; exact Nat.le_trans h2 (by decide), by rw [upn_n (by omega)]; exact a1, by rw [upn_n (by omega)]; exact a2, by rw [upn_n (by omega)]; exact a3, by rw [upn_n (by omega)]; exact a4, by rw [upn_n (by omega)]; exact a5, by rw [upn_n (by omega)]; exact a6, by rw [upn_n (by omega)]; exact a7⟩
  | 1, _, h1, h2 => exact ⟨by rw [upn_n (by omega)]; exact a0, by rw [upn_s]; exact h1, by rw [upn_s]; exact h2, by rw [upn_n (by omega)]; exact a3, by rw [upn_n (by omega)]; exact a4, by rw [upn_n (by omega)]; exact a5, by rw [upn_n (by omega)]; exact a6, by rw [upn_n (by omega)]; exact a7⟩
  | 2, _, h1, h2 => exact ⟨by rw [upn_n (by omega)]; exact a0, by rw [upn_n (by omega)]; exact a1, by rw [upn_n (by omega)]; exact a2, by rw [upn_s]; exact h1, by rw [upn_s]; exact h2, by rw [upn_n (by omega)]; exact a5, by rw [upn_n (by omega)]; exact a6, by rw [upn_n (by omega)]; exact a7⟩
  | 3, _, h1, h2 => exact ⟨by rw [upn_n (by omega)]; exact a0, by rw [upn_n (by omega)]; exact a1, by rw [upn_n (by omega)]; exact a2, by rw [upn_n (by omega)]; exact a3, by rw [upn_n (by omega)]; exact a4, by rw [upn_s]; exact h1, by rw [upn_s]; exact h2, by rw [upn_n (by omega)]; exact a7⟩
  | 4, _, h1, h2 => exact ⟨by rw [upn_n (by omega)]; exact a0, by rw [upn_n (by omega)]; exact a1, by rw [upn_n (by omega)]; exact a2, by rw [upn_n (by omega)]; exact a3, by rw [upn_n (by omega)]; exact a4, by rw [upn_n (by omega)]; exact a5, by rw [upn_n (by omega)]; exact a6, by rw [upn_s]; exact h2⟩
theorem okN.askF {σ : Sg} (h : okN σ) {c l it : Nat} (hc : c < 4) (hl : l < 16) (hi : it < 8) : okN (askF σ c l it) :=
  ⟨(h.1.front (k := 14 + l) (v := 1) (by omega) (by omega)).sd ⟨hc, hl, hi, Nat.zero_lt_succ _, Nat.zero_lt_succ _, Nat.zero_lt_succ _⟩, h.2.1, h.2.2⟩
theorem okN.askO {σ : Sg} (h : okN σ) {c l it fe : Nat} (hn : σ.2.2.1.length < 20) (ho : okO (mkO c l it fe 0 0)) : okN (askO σ c l it fe) := by
  refine ⟨(h.1.sp (c := c) (x := σ.2.1 c - nI fe)).so ?_ (fun o q => (List.mem_append.mp q).elim (h.1.2.2.2.1 o) (fun q => by rw [List.mem_singleton.mp q]; exact ho)), fun o q => ?_, ?_⟩
  · rw [List.length_append]; show σ.2.2.1.length + 1 ≤ 21; omega
  · rcases List.mem_append.mp (show o ∈ σ.2.2.1 ++ [mkO c l it fe 0 0] from q) with q | q
    · exact h.2.1 o q
    · rw [List.mem_singleton.mp q]; exact Nat.zero_lt_succ _
  · show (σ.2.2.1 ++ [_]).length ≤ 20
    rw [List.length_append]; show σ.2.2.1.length + 1 ≤ 20; omega
/-- the fees held, lot by lot -/
def hsum (L : List Od) : Nat → Nat
  | 0 => 0
  | k + 1 => hsum L k + fsum k L
