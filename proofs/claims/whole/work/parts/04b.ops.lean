/-! What is done to a state, and to the reference's row of numbers. -/
def nSet (n : Nat → Nat) (k v : Nat) : Nat → Nat := fun j => if j = k then v else n j
def upn (σ : Sg) (k v : Nat) : Sg := (nSet σ.1 k v, σ.2)
def upp (σ : Sg) (c : Nat) (x : Int32) : Sg := (σ.1, (fun j => if j = c then x else σ.2.1 j), σ.2.2)
def upo (σ : Sg) (L : List Od) : Sg := (σ.1, σ.2.1, L, σ.2.2.2)
def upl (σ : Sg) (L : List Od) : Sg := (σ.1, σ.2.1, σ.2.2.1, L)
theorem nSet_s (n : Nat → Nat) (k v : Nat) : nSet n k v k = v := if_pos rfl
theorem nSet_n (n : Nat → Nat) {k j : Nat} (v : Nat) (h : j ≠ k) : nSet n k v j = n j := if_neg h
/-- an order is delivered -/
def note (σ : Sg) (o : Od) : Sg := upl (upn (upn (upn σ 7 (σ.1 7 + 1)) (50 + o 0) (σ.1 (50 + o 0) + 1)) 10 (σ.1 10 + o 3)) ((o :: σ.2.2.2).take 10)
theorem Row.sn {f : Nat → Int32} {σ : Sg} (h : Row f σ) {k v : Nat} {x : Int32} (hk : k < 58 ∧ k ≠ 6 ∧ (k < 46 ∨ 50 ≤ k)) (hx : x = nI v) : Row (upd f k x) (upn σ k v) := by
  obtain ⟨h1, h2, h3, h4, h5, h6⟩ := h
  refine ⟨fun j a b c => ?_, fun c hc => ?_, ?_, ?_, fun i w o ho hw => ?_, fun i w o ho hw => ?_⟩
  · show upd f k x j = nI (nSet σ.1 k v j)
    by_cases q : j = k
    · rw [q, pk_us, nSet_s, hx]
    · rw [pk_un q, nSet_n _ _ q]; exact h1 j a b c
  · rw [pk_un (by omega)]; exact h2 c hc
  · rw [pk_un (by omega)]; exact h3
  · rw [pk_un (by omega)]; exact h4
  · rw [pk_un (by omega)]; exact h5 i w o ho hw
  · rw [pk_un (by omega)]; exact h6 i w o ho hw
theorem Row.sp {f : Nat → Int32} {σ : Sg} (h : Row f σ) {k c : Nat} {x y : Int32} (hc : c < 4) (hk : k = 46 + c) (hxy : x = y) : Row (upd f k x) (upp σ c y) := by
  subst hxy
  obtain ⟨h1, h2, h3, h4, h5, h6⟩ := h
  subst hk
  refine ⟨fun j a b d => ?_, fun d hd => ?_, ?_, ?_, fun i w o ho hw => ?_, fun i w o ho hw => ?_⟩
  · rw [pk_un (by omega)]; exact h1 j a b d
  · show upd f (46 + c) x (46 + d) = if d = c then x else σ.2.1 d
    by_cases q : d = c
    · rw [if_pos q, q, pk_us]
    · rw [if_neg q, pk_un (by omega)]; exact h2 d hd
  · rw [pk_un (by omega)]; exact h3
  · rw [pk_un (by omega)]; exact h4
  · rw [pk_un (by omega)]; exact h5 i w o ho hw
  · rw [pk_un (by omega)]; exact h6 i w o ho hw
theorem lenlt {L : List Od} {i : Nat} {o : Od} (h : L[i]? = some o) : i < L.length := (List.getElem?_eq_some_iff.mp h).1
/-- an order is closed: those behind it move up -/
theorem Row.close {f : Nat → Int32} {σ : Sg} (h : Row f σ) (hs : okS σ) {i : Nat} (hi : i < σ.2.2.1.length) {x : Int32} (hx : x = nI (σ.2.2.1.length - 1)) : Row (upd (va_cpy f f (109 + 6 * (i + 1) + 0) (109 + 6 * i + 0) (6 * (σ.2.2.1.length - 1 - i))) 6 x) (upo σ (σ.2.2.1.eraseIdx i)) := by
  obtain ⟨h1, h2, h3, h4, h5, h6⟩ := h
  have hlow : ∀ j, j < 109 → va_cpy f f (109 + 6 * (i + 1) + 0) (109 + 6 * i + 0) (6 * (σ.2.2.1.length - 1 - i)) j = f j := fun j hj => by
    simp only [va_cpy]; rw [if_neg (by omega)]
  refine ⟨fun j a b d => ?_, fun d hd => ?_, ?_, ?_, fun j w o ho hw => ?_, fun j w o ho hw => ?_⟩
  · rw [pk_un (by omega), hlow j (by omega)]; exact h1 j a b d
  · rw [pk_un (by omega), hlow _ (by omega)]; exact h2 d hd
  · rw [pk_us, hx]
    show _ = nI (σ.2.2.1.eraseIdx i).length
    rw [List.length_eraseIdx, if_pos hi]
  · rw [pk_un (by omega), hlow _ (by omega)]; exact h4
  · rw [pk_un (by omega)]
    have ho' : (σ.2.2.1.eraseIdx i)[j]? = some o := ho
    rw [List.getElem?_eraseIdx] at ho'
    simp only [va_cpy]
    by_cases q : j < i
    · rw [if_pos q] at ho'
      rw [if_neg (by omega)]
      exact h5 j w o ho' hw
    · rw [if_neg q] at ho'
      have hj := lenlt ho'
      rw [if_pos (by omega)]
      have := h5 (j + 1) w o ho' hw
      rw [← this]
      congr 1
      omega
  · have hl : j < σ.2.2.2.length := lenlt ho
    have hl2 := hs.2.2.2.2.1
    rw [pk_un (by omega), hlow _ (by omega)]
    exact h6 j w o ho hw
/-- a new order behind the others -/
def rEnter (f : Nat → Int32) (n : Nat) (o : Od) : Nat → Int32 := upd (upd (upd (upd (upd (upd (upd f (109 + 6 * n + 0) (nI (o 0))) (109 + 6 * n + 1) (nI (o 1))) (109 + 6 * n + 2) (nI (o 2))) (109 + 6 * n + 3) (nI (o 3))) (109 + 6 * n + 4) (nI (o 4))) (109 + 6 * n + 5) (nI (o 5))) 6 (nI (n + 1))
theorem Row.enter {f : Nat → Int32} {σ : Sg} (h : Row f σ) (hs : okS σ) (o : Od) : Row (rEnter f σ.2.2.1.length o) (upo σ (σ.2.2.1 ++ [o])) := by
  obtain ⟨h1, h2, h3, h4, h5, h6⟩ := h
  have hlow : ∀ j, j < 109 → j ≠ 6 → rEnter f σ.2.2.1.length o j = f j := fun j hj h6 => by
    unfold rEnter
    rw [pk_un h6, pk_un (by omega), pk_un (by omega), pk_un (by omega), pk_un (by omega), pk_un (by omega), pk_un (by omega)]
  refine ⟨fun j a b d => ?_, fun d hd => ?_, ?_, ?_, fun j w o' ho hw => ?_, fun j w o' ho hw => ?_⟩
  · rw [hlow j (by omega) b]; exact h1 j a b d
  · rw [hlow _ (by omega) (by omega)]; exact h2 d hd
  · show rEnter f _ o 6 = nI (σ.2.2.1 ++ [o]).length
    unfold rEnter
    rw [pk_us, List.length_append]
    rfl
  · rw [hlow _ (by omega) (by omega)]; exact h4
  · have ho' : (σ.2.2.1 ++ [o])[j]? = some o' := ho
    unfold rEnter
    rw [pk_un (by omega)]
    by_cases q : j < σ.2.2.1.length
    · rw [List.getElem?_append_left q] at ho'
      rw [pk_un (by omega), pk_un (by omega), pk_un (by omega), pk_un (by omega), pk_un (by omega), pk_un (by omega)]
      exact h5 j w o' ho' hw
    · have hj : j < (σ.2.2.1 ++ [o]).length := lenlt ho'
      rw [List.length_append] at hj
      have hj2 : j = σ.2.2.1.length := by
        have : [o].length = 1 := rfl
        omega
      subst hj2
      rw [List.getElem?_append_right (Nat.le_refl _), Nat.sub_self] at ho'
      cases ho'
      match w, hw with
      | 0, _ => rw [pk_un (by omega), pk_un (by omega), pk_un (by omega), pk_un (by omega), pk_un (by omega), pk_us]
      | 1, _ => rw [pk_un (by omega), pk_un (by omega), pk_un (by omega), pk_un (by omega), pk_us]
      | 2, _ => rw [pk_un (by omega), pk_un (by omega), pk_un (by omega), pk_us]
      | 3, _ => rw [pk_un (by omega), pk_un (by omega), pk_us]
      | 4, _ => rw [pk_un (by omega), pk_us]
      | 5, _ => rw [pk_us]
  · have hl : j < σ.2.2.2.length := lenlt ho
    have hl2 := hs.2.2.2.2.1
    rw [hlow _ (by omega) (by omega)]
    exact h6 j w o' ho hw
/-- a delivered order ahead of the others -/
def rNote (f : Nat → Int32) (n : Nat) (o : Od) : Nat → Int32 := upd (upd (upd (upd (upd (upd (va_cpy f f 59 64 45) 59 (nI (o 0))) 60 (nI (o 1))) 61 (nI (o 2))) 62 (nI (o 4))) 63 (nI (o 3))) 58 (nI n)
theorem Row.late {f : Nat → Int32} {σ : Sg} (h : Row f σ) (hs : okS σ) (o : Od) {n : Nat} (hn : n = ((o :: σ.2.2.2).take 10).length) : Row (rNote f n o) (upl σ ((o :: σ.2.2.2).take 10)) := by
  obtain ⟨h1, h2, h3, h4, h5, h6⟩ := h
  have hlow : ∀ j, (j < 58 ∨ 109 ≤ j) → rNote f n o j = f j := fun j hj => by
    unfold rNote
    rw [pk_un (by omega), pk_un (by omega), pk_un (by omega), pk_un (by omega), pk_un (by omega), pk_un (by omega)]
    simp only [va_cpy]; rw [if_neg (by omega)]
  refine ⟨fun j a b d => ?_, fun d hd => ?_, ?_, ?_, fun j w o' ho hw => ?_, fun j w o' ho hw => ?_⟩
  · rw [hlow j (by omega)]; exact h1 j a b d
  · rw [hlow _ (by omega)]; exact h2 d hd
  · rw [hlow _ (by omega)]; exact h3
  · show rNote f n o 58 = nI ((o :: σ.2.2.2).take 10).length
    unfold rNote
    rw [pk_us, hn]
  · rw [hlow _ (by omega)]; exact h5 j w o' ho hw
  · have ho' : ((o :: σ.2.2.2).take 10)[j]? = some o' := ho
    have hj10 : j < 10 := by
      have := lenlt ho'
      rw [List.length_take] at this
      omega
    rw [List.getElem?_take_of_lt hj10] at ho'
    unfold rNote
    match j, ho', hj10 with
    | 0, ho', _ =>
      cases ho'
      match w, hw with
      | 0, _ => rw [pk_un (by omega), pk_un (by omega), pk_un (by omega), pk_un (by omega), pk_un (by omega), pk_us]; rfl
      | 1, _ => rw [pk_un (by omega), pk_un (by omega), pk_un (by omega), pk_un (by omega), pk_us]; rfl
      | 2, _ => rw [pk_un (by omega), pk_un (by omega), pk_un (by omega), pk_us]; rfl
      | 3, _ => rw [pk_un (by omega), pk_un (by omega), pk_us]; rfl
      | 4, _ => rw [pk_un (by omega), pk_us]; rfl
    | j + 1, ho', hj10 =>
      have ho2 : σ.2.2.2[j]? = some o' := ho'
      rw [pk_un (by omega), pk_un (by omega), pk_un (by omega), pk_un (by omega), pk_un (by omega), pk_un (by omega)]
      simp only [va_cpy]
      rw [if_pos (by omega), ← h6 j w o' ho2 hw]
      congr 1
      omega
/-- what holds of a state stays -/
theorem okS.sn {σ : Sg} (h : okS σ) {k v : Nat} (hk : 5 ≤ k ∧ (k < 14 ∨ 30 ≤ k)) : okS (upn σ k v) := by
  obtain ⟨⟨a0, a1, a2, a3, a4, a5, a6, a7⟩, h2, h3⟩ := h
  refine ⟨?_, fun l hl => ?_, h3⟩
  · show nSet _ _ _ _ ≤ 16 ∧ 1 ≤ nSet _ _ _ _ ∧ nSet _ _ _ _ ≤ 6 ∧ 1 ≤ nSet _ _ _ _ ∧ nSet _ _ _ _ ≤ 9 ∧ 1 ≤ nSet _ _ _ _ ∧ nSet _ _ _ _ ≤ 9 ∧ nSet _ _ _ _ ≤ 2
    rw [nSet_n _ _ (by omega), nSet_n _ _ (by omega), nSet_n _ _ (by omega), nSet_n _ _ (by omega), nSet_n _ _ (by omega)]
    exact ⟨a0, a1, a2, a3, a4, a5, a6, a7⟩
  · show nSet _ _ _ _ ≤ 10
    rw [nSet_n _ _ (by omega)]
    exact h2 l hl
theorem okS.front {σ : Sg} (h : okS σ) {k v : Nat} (hk : 14 ≤ k ∧ k < 30) (hv : v ≤ 10) : okS (upn σ k v) := by
  obtain ⟨⟨a0, a1, a2, a3, a4, a5, a6, a7⟩, h2, h3⟩ := h
  refine ⟨?_, fun l hl => ?_, h3⟩
  · show nSet _ _ _ _ ≤ 16 ∧ 1 ≤ nSet _ _ _ _ ∧ nSet _ _ _ _ ≤ 6 ∧ 1 ≤ nSet _ _ _ _ ∧ nSet _ _ _ _ ≤ 9 ∧ 1 ≤ nSet _ _ _ _ ∧ nSet _ _ _ _ ≤ 9 ∧ nSet _ _ _ _ ≤ 2
    rw [nSet_n _ _ (by omega), nSet_n _ _ (by omega), nSet_n _ _ (by omega), nSet_n _ _ (by omega), nSet_n _ _ (by omega)]
    exact ⟨a0, a1, a2, a3, a4, a5, a6, a7⟩
  · show nSet _ _ _ (14 + l) ≤ 10
    by_cases q : 14 + l = k
    · rw [q, nSet_s]; exact hv
    · rw [nSet_n _ _ q]; exact h2 l hl
theorem okS.sp {σ : Sg} (h : okS σ) {c : Nat} {x : Int32} : okS (upp σ c x) := h
theorem okS.so {σ : Sg} (h : okS σ) {L : List Od} (h1 : L.length ≤ 21) (h2 : ∀ o ∈ L, okO o) : okS (upo σ L) := ⟨h.1, h.2.1, h1, h2, h.2.2.2.2⟩
theorem okS.erase {σ : Sg} (h : okS σ) (i : Nat) : okS (upo σ (σ.2.2.1.eraseIdx i)) :=
  h.so (Nat.le_trans (List.length_eraseIdx_le _ _) h.2.2.1) (fun o ho => h.2.2.2.1 o (List.mem_of_mem_eraseIdx ho))
theorem okS.late {σ : Sg} (h : okS σ) {o : Od} (ho : okO o) : okS (upl σ ((o :: σ.2.2.2).take 10)) :=
  ⟨h.1, h.2.1, h.2.2.1, h.2.2.2.1, by show (List.take 10 _).length ≤ 10; rw [List.length_take]; omega, fun o' ho' => by
    have h1 := List.mem_of_mem_take ho'
    rcases List.mem_cons.mp h1 with q | q
    · rw [q]; exact ho
    · exact h.2.2.2.2.2 o' q⟩
theorem okS.sd {σ : Sg} (h : okS σ) {o : Od} (ho : okO o) : okS (note σ o) := by
  have h1 : okS (upl σ ((o :: σ.2.2.2).take 10)) := h.late ho
  have h2 := h1.sn (k := 7) (v := σ.1 7 + 1) (by omega)
  have h3 := h2.sn (k := 50 + o 0) (v := σ.1 (50 + o 0) + 1) (by omega)
  have h4 := h3.sn (k := 10) (v := σ.1 10 + o 3) (by omega)
  exact h4
/-- the row of numbers at an address holds the state now; nothing else was written -/
def rTo (g : jG) (row : Nat) (σ : Sg) (H0 H1 : Heap) : Prop := (∃ f, jI g H1 row 235 f ∧ Row f σ) ∧ okS σ ∧ jF row 1 H0 H1
theorem upd_same {f : Nat → Int32} {k : Nat} {x y : Int32} : upd (upd f k x) k y = upd f k y := by
  funext j
  by_cases h : j = k
  · rw [h, pk_us, pk_us]
  · rw [pk_un h, pk_un h, pk_un h]

theorem Row.so {f : Nat → Int32} {σ : Sg} (h : Row f σ) (hs : okS σ) {i w v k : Nat} {o : Od} (ho : σ.2.2.1[i]? = some o) (hw : w < 6) (hk : k = 109 + 6 * i + w) {x : Int32} (hx : x = nI v) : Row (upd f k x) (upo σ (σ.2.2.1.set i (nSet o w v))) := by
  obtain ⟨h1, h2, h3, h4, h5, h6⟩ := h
  subst hk
  refine ⟨fun j a b d => ?_, fun d hd => ?_, ?_, ?_, fun j u o' ho' hu => ?_, fun j u o' ho' hu => ?_⟩
  · rw [pk_un (by omega)]; exact h1 j a b d
  · rw [pk_un (by omega)]; exact h2 d hd
  · rw [pk_un (by omega)]
    show _ = nI (σ.2.2.1.set i _).length
    rw [List.length_set]; exact h3
  · rw [pk_un (by omega)]; exact h4
  · have ho2 : (σ.2.2.1.set i (nSet o w v))[j]? = some o' := ho'
    by_cases q : i = j
    · subst q
      rw [List.getElem?_set_self (lenlt ho)] at ho2
      cases ho2
      by_cases qu : u = w
      · subst qu
        rw [pk_us, nSet_s, hx]
      · rw [pk_un (by omega), nSet_n _ _ qu]; exact h5 i u o ho hu
    · rw [List.getElem?_set_ne q] at ho2
      rw [pk_un (by omega)]; exact h5 j u o' ho2 hu
  · have hl : j < σ.2.2.2.length := lenlt ho'
    have hl2 := hs.2.2.2.2.1
    rw [pk_un (by omega)]
    exact h6 j u o' ho' hu
theorem okS.set {σ : Sg} (h : okS σ) (i : Nat) {o : Od} (ho : okO o) : okS (upo σ (σ.2.2.1.set i o)) :=
  h.so (by rw [List.length_set]; exact h.2.2.1) (fun o' ho' => by
    rcases List.mem_or_eq_of_mem_set ho' with q | q
    · exact h.2.2.2.1 o' q
    · rw [q]; exact ho)
/-- the actions -/
def payS (σ : Sg) (i : Nat) (o : Od) : Sg := upo (upn (upp σ (o 0) (σ.2.1 (o 0) + nI (o 3))) 11 (σ.1 11 + o 3)) (σ.2.2.1.eraseIdx i)
def cancelS (σ : Sg) (i : Nat) (o : Od) : Sg := upn (payS σ i o) 9 (σ.1 9 + 1)
def canS (σ : Sg) (c l fe : Nat) : Prop := 0 < σ.1 (14 + l) ∨ (σ.2.2.1.length < 20 ∧ nI fe ≤ σ.2.1 c)
def askF (σ : Sg) (c l it : Nat) : Sg := note (upn σ (14 + l) 1) (mkO c l it 0 0 0)
def askO (σ : Sg) (c l it fe : Nat) : Sg := upo (upp σ c (σ.2.1 c - nI fe)) (σ.2.2.1 ++ [mkO c l it fe 0 0])
def canR (σ : Sg) (o : Od) (y : Nat) : Prop := o 3 + y ≤ 9 ∧ nI y ≤ σ.2.1 (o 0)
def raiseS (σ : Sg) (i : Nat) (o : Od) (y : Nat) : Sg := upo (upp σ (o 0) (σ.2.1 (o 0) - nI y)) (σ.2.2.1.set i (nSet o 3 (o 3 + y)))
/-- three cells may have been written -/
def jF3 (a b c : Nat) (H0 H : Heap) : Prop := H.size = H0.size ∧ ∀ q : Nat, q ≠ a → q ≠ b → q ≠ c → H[q]? = H0[q]?
theorem jF3.rf {a b c : Nat} {H : Heap} : jF3 a b c H H := ⟨rfl, fun _ _ _ _ => rfl⟩
theorem jF3.put {a b c x : Nat} {H0 H H1 : Heap} (h : jF3 a b c H0 H) (oq : ∀ q : Nat, q ≠ x → H1[q]? = H[q]?) (hs : H1.size = H.size) (hb : x = a ∨ x = b ∨ x = c) : jF3 a b c H0 H1 := ⟨by rw [hs, h.1], fun q h1 h2 h3 => by rw [oq q (by omega)]; exact h.2 q h1 h2 h3⟩
theorem jF3.step {a b c x : Nat} {H0 H H1 : Heap} (h : jF3 a b c H0 H) (h2 : jF x 1 H H1) (hb : x = a ∨ x = b ∨ x = c) : jF3 a b c H0 H1 := ⟨by rw [h2.1, h.1], fun q h3 h4 h5 => by rw [h2.2 q (by omega)]; exact h.2 q h3 h4 h5⟩
theorem jF3.cat {a b c : Nat} {H0 H H1 : Heap} (h : jF3 a b c H0 H) (h2 : jF3 a b c H H1) : jF3 a b c H0 H1 := ⟨by rw [h2.1, h.1], fun q h3 h4 h5 => by rw [h2.2 q h3 h4 h5]; exact h.2 q h3 h4 h5⟩
/-- which lot goes back -/
def lng (n : Nat → Nat) : Nat → Option Nat
  | 0 => none
  | k + 1 => match lng n k with
    | none => if 0 < n (14 + k) then some k else none
    | some b => if n (14 + b) < n (14 + k) then some k else some b
def oI : Option Nat → Int32
  | none => -1
  | some b => nI b
theorem lng_lt {n : Nat → Nat} : ∀ {k b : Nat}, lng n k = some b → b < k ∧ 0 < n (14 + b)
  | 0, b, h => by simp [lng] at h
  | k + 1, b, h => by
    cases hk : lng n k with
    | none =>
      simp only [lng, hk] at h
      split at h
      · cases h; exact ⟨by omega, by assumption⟩
      · cases h
    | some b' =>
      have ih := lng_lt hk
      simp only [lng, hk] at h
      split at h
      · cases h; exact ⟨by omega, by omega⟩
      · cases h; exact ⟨by omega, ih.2⟩
theorem lng_none {n : Nat → Nat} : ∀ {k : Nat}, lng n k = none → fcnt n k = 0
  | 0, _ => rfl
  | k + 1, h => by
    cases hk : lng n k with
    | none =>
      have ih := lng_none hk
      simp only [lng, hk] at h
      split at h
      · cases h
      · simp only [fcnt, ih]; rename_i q; rw [if_neg q]
    | some b' =>
      simp only [lng, hk] at h
      split at h <;> cases h
theorem fcnt_set0 {n : Nat → Nat} {b : Nat} (hb : 0 < n (14 + b)) : ∀ k : Nat, fcnt (nSet n (14 + b) 0) k + (if b < k then 1 else 0) = fcnt n k
  | 0 => by simp [fcnt]
  | k + 1 => by
    have ih := fcnt_set0 hb k
    simp only [fcnt]
    by_cases q : k = b
    · subst q
      rw [nSet_s, if_neg (Nat.lt_irrefl 0), if_pos (Nat.lt_succ_self k), if_pos hb]
      rw [if_neg (Nat.lt_irrefl k)] at ih
      omega
    · rw [nSet_n _ _ (by omega)]
      have h1 : (if b < k + 1 then 1 else 0) = (if b < k then 1 else 0) := by
        by_cases q2 : b < k
        · rw [if_pos q2, if_pos (Nat.lt_succ_of_lt q2)]
        · rw [if_neg q2, if_neg (show ¬ b < k + 1 by omega)]
      rw [h1]
      omega
def sback (σ : Sg) : Sg := match lng σ.1 16 with
  | none => σ
  | some b => upn σ (14 + b) 0
def clr : Nat → Sg → Sg
  | 0, σ => σ
  | k + 1, σ => if σ.1 1 ≤ fcnt σ.1 16 then clr k (sback σ) else σ
theorem sback_cnt {σ : Sg} {b : Nat} (h : lng σ.1 16 = some b) : fcnt (upn σ (14 + b) 0).1 16 + 1 = fcnt σ.1 16 := by
  have h1 := lng_lt h
  have h2 := fcnt_set0 h1.2 16
  rw [if_pos h1.1] at h2
  exact h2
theorem clr_stop {σ : Sg} (h : ¬ σ.1 1 ≤ fcnt σ.1 16) : ∀ j : Nat, clr j σ = σ
  | 0 => rfl
  | j + 1 => by simp only [clr]; rw [if_neg h]
theorem clr_go {σ : Sg} {b j : Nat} (h : σ.1 1 ≤ fcnt σ.1 16) (hb : lng σ.1 16 = some b) : clr (j + 1) σ = clr j (upn σ (14 + b) 0) := by
  simp only [clr]
  rw [if_pos h]
  unfold sback
  rw [hb]
/-- the orders of a lot are delivered -/
def dl (l : Nat) : List Od → Sg → Sg
  | [], σ => σ
  | o :: t, σ => dl l t (if o 1 = l then note σ (mkO (o 0) l (o 2) (o 3) (o 4) 0) else σ)
def kp (l : Nat) : List Od → List Od
  | [] => []
  | o :: t => if o 1 = l then kp l t else o :: kp l t
def wd (l : Nat) : List Od → Bool
  | [] => false
  | o :: t => (decide (o 1 = l ∧ o 5 = 1)) || wd l t
def bring1 (σ : Sg) (l : Nat) : Sg := upn (upn (upn (clr 16 σ) (14 + l) 1) (30 + l) ((clr 16 σ).1 (30 + l) + 1)) 12 ((clr 16 σ).1 12 + 1)
def bringS (σ : Sg) (l : Nat) : Sg := upo (dl l σ.2.2.1 (bring1 σ l)) (kp l σ.2.2.1)
theorem clr_2 : ∀ (k : Nat) (σ : Sg), (clr k σ).2 = σ.2
  | 0, σ => rfl
  | k + 1, σ => by
    simp only [clr]
    split
    · rw [clr_2 k]
      unfold sback
      split <;> rfl
    · rfl
theorem dl_open (l : Nat) : ∀ (L : List Od) (σ : Sg), (dl l L σ).2.2.1 = σ.2.2.1
  | [], σ => rfl
  | o :: t, σ => by
    simp only [dl]
    rw [dl_open l t]
    split <;> rfl
theorem dl_app (l : Nat) : ∀ (a b : List Od) (σ : Sg), dl l (a ++ b) σ = dl l b (dl l a σ)
  | [], b, σ => rfl
  | o :: t, b, σ => by simp only [List.cons_append, dl]; exact dl_app l t b _
theorem kp_app (l : Nat) : ∀ (a b : List Od), kp l (a ++ b) = kp l a ++ kp l b
  | [], b => rfl
  | o :: t, b => by
    simp only [List.cons_append, kp]
    split
    · exact kp_app l t b
    · rw [kp_app l t b]; rfl
theorem wd_app (l : Nat) : ∀ (a b : List Od), wd l (a ++ b) = (wd l a || wd l b)
  | [], b => rfl
  | o :: t, b => by simp only [List.cons_append, wd]; rw [wd_app l t b, Bool.or_assoc]
theorem kp_mem {l : Nat} {o : Od} : ∀ {L : List Od}, o ∈ kp l L → o ∈ L
  | [], h => h
  | x :: t, h => by
    simp only [kp] at h
    split at h
    · exact List.mem_cons_of_mem _ (kp_mem h)
    · rcases List.mem_cons.mp h with q | q
      · rw [q]; exact List.mem_cons_self
      · exact List.mem_cons_of_mem _ (kp_mem q)
theorem kp_len (l : Nat) : ∀ L : List Od, (kp l L).length ≤ L.length
  | [] => Nat.le_refl _
  | x :: t => by
    have := kp_len l t
    simp only [kp]
    split <;> simp only [List.length_cons] <;> omega
/-- which lot the train takes next -/
def wan (cn wt : Nat → Nat) : Nat → Option Nat
  | 0 => none
  | k + 1 => match wan cn wt k with
    | none => if 0 < cn k then some k else none
    | some b => if 0 < cn k ∧ wt b < wt k then some k else some b
def wtS (σ : Sg) (l : Nat) : Nat := if σ.1 4 = 0 then fsum l σ.2.2.1 else ocnt 1 l σ.2.2.1
def wantS (σ : Sg) : Option Nat := if σ.2.2.1.length = 0 then none else if σ.1 4 = 1 then σ.2.2.1[0]?.map (fun o => o 1) else wan (fun l => ocnt 1 l σ.2.2.1) (wtS σ) 16
theorem nle_m1 {n : Nat} (h : n < 2 ^ 31) : ¬ nI n ≤ -1 := fun q => by
  have h1 : (nI n).toInt ≤ (-1 : Int32).toInt := Int32.le_iff_toInt_le.mp q
  rw [nI_toInt h] at h1
  have h2 : (-1 : Int32).toInt = -1 := by decide
  omega
theorem wan_lt {cn wt : Nat → Nat} : ∀ {k b : Nat}, wan cn wt k = some b → b < k ∧ 0 < cn b
  | 0, b, h => by simp [wan] at h
  | k + 1, b, h => by
    cases hk : wan cn wt k with
    | none =>
      simp only [wan, hk] at h
      split at h
      · cases h; exact ⟨by omega, by assumption⟩
      · cases h
    | some b' =>
      have ih := wan_lt hk
      simp only [wan, hk] at h
      split at h
      · cases h; rename_i q; exact ⟨by omega, q.1⟩
      · cases h; exact ⟨by omega, ih.2⟩
theorem wantS_lt {σ : Sg} (h : okS σ) {b : Nat} (hb : wantS σ = some b) : b < 16 := by
  unfold wantS at hb
  split at hb
  · cases hb
  · split at hb
    · cases ho : σ.2.2.1[0]? with
      | none => rw [ho] at hb; cases hb
      | some o => rw [ho] at hb; cases hb; exact (h.2.2.2.1 o (memO ho)).2.1
    · exact (wan_lt hb).1
theorem nI_ne_m1 {n : Nat} (h : n < 2 ^ 31) : ¬ nI n = -1 := fun q => nle_m1 h (by rw [q]; decide)
theorem upn_n {σ : Sg} {k v j : Nat} (h : j ≠ k) : (upn σ k v).1 j = σ.1 j := nSet_n _ _ h
theorem upn_s {σ : Sg} {k v : Nat} : (upn σ k v).1 k = v := nSet_s _ _ _
def bI (b : Bool) : Int32 := if b then nI 1 else nI 0
theorem bring_hit {l j : Nat} {L : List Od} {o : Od} {X : Sg} (ho : L[j]? = some o) (h : o 1 = l) : upo (note (upo (dl l (L.take j) X) (kp l (L.take j) ++ L.drop j)) (mkO (o 0) l (o 2) (o 3) (o 4) 0)) ((kp l (L.take j) ++ L.drop j).eraseIdx (kp l (L.take j)).length) = upo (dl l (L.take (j + 1)) X) (kp l (L.take (j + 1)) ++ L.drop (j + 1)) ∧ (kp l (L.take (j + 1))).length = (kp l (L.take j)).length := by
  have hd : L.drop j = o :: L.drop (j + 1) := by
    rw [List.drop_eq_getElem_cons (lenlt ho)]
    congr 1
    exact Option.some.inj ((List.getElem?_eq_getElem (lenlt ho)).symm.trans ho)
  rw [takeO ho, dl_app, kp_app, hd, List.eraseIdx_append_of_length_le (Nat.le_refl _), Nat.sub_self, List.eraseIdx_cons_zero]
  simp only [dl, kp]
  rw [if_pos h, if_pos h, List.append_nil]
  exact ⟨rfl, rfl⟩
theorem bring_miss {l j : Nat} {L : List Od} {o : Od} {X : Sg} (ho : L[j]? = some o) (h : ¬ o 1 = l) : upo (dl l (L.take j) X) (kp l (L.take j) ++ L.drop j) = upo (dl l (L.take (j + 1)) X) (kp l (L.take (j + 1)) ++ L.drop (j + 1)) ∧ (kp l (L.take (j + 1))).length = (kp l (L.take j)).length + 1 := by
  have hd : L.drop j = o :: L.drop (j + 1) := by
    rw [List.drop_eq_getElem_cons (lenlt ho)]
    congr 1
    exact Option.some.inj ((List.getElem?_eq_getElem (lenlt ho)).symm.trans ho)
  rw [takeO ho, dl_app, kp_app, hd]
  simp only [dl, kp]
  rw [if_neg h, if_neg h, List.append_assoc, List.length_append]
  exact ⟨rfl, rfl⟩
theorem wd_take {l j : Nat} {L : List Od} {o : Od} (ho : L[j]? = some o) : wd l (L.take (j + 1)) = (wd l (L.take j) || decide (o 1 = l ∧ o 5 = 1)) := by
  rw [takeO ho, wd_app]
  simp only [wd, Bool.or_false]
theorem mid_get {l j : Nat} {L : List Od} {o : Od} (ho : L[j]? = some o) : (kp l (L.take j) ++ L.drop j)[(kp l (L.take j)).length]? = some o := by
  rw [List.getElem?_append_right (Nat.le_refl _), Nat.sub_self, List.getElem?_drop, Nat.add_zero]
  exact ho
theorem mid_len {l j : Nat} {L : List Od} : (kp l (L.take j) ++ L.drop j).length = (kp l (L.take j)).length + (L.length - j) := by
  rw [List.length_append, List.length_drop]
theorem bring_start {σ : Sg} {l : Nat} : upo (dl l (σ.2.2.1.take 0) (bring1 σ l)) (kp l (σ.2.2.1.take 0) ++ σ.2.2.1.drop 0) = bring1 σ l := by
  show upo (bring1 σ l) σ.2.2.1 = bring1 σ l
  unfold upo bring1 upn
  simp only [clr_2]
theorem bI_ne {b : Bool} (h : ¬ bI b = 0) : b = true := by
  cases b with
  | true => rfl
  | false => exact absurd rfl h
theorem bI_eq {b : Bool} (h : bI b = 0) : b = false := by
  cases b with
  | false => rfl
  | true => exact absurd h (by decide)
def rTo3 (g : jG) (M row : Nat) (σ : Sg) (H0 H1 : Heap) : Prop := (∃ f, jI g H1 row 235 f ∧ Row f σ) ∧ okS σ ∧ jF3 M row (M + 8) H0 H1
theorem payS_n {σ : Sg} {i k : Nat} {o : Od} (h : k ≠ 11) : (payS σ i o).1 k = σ.1 k := nSet_n _ _ h
theorem okO.fee {o : Od} (h : okO o) {v : Nat} (hv : v < 10) : okO (nSet o 3 v) := by
  obtain ⟨h0, h1, h2, h3, h4, h5⟩ := h
  exact ⟨by rw [nSet_n _ _ (by omega)]; exact h0, by rw [nSet_n _ _ (by omega)]; exact h1, by rw [nSet_n _ _ (by omega)]; exact h2, by rw [nSet_s]; exact hv, by rw [nSet_n _ _ (by omega)]; exact h4, by rw [nSet_n _ _ (by omega)]; exact h5⟩
theorem okO.wait {o : Od} (h : okO o) {v : Nat} (hv : v < 10) : okO (nSet o 4 v) := by
  obtain ⟨h0, h1, h2, h3, h4, h5⟩ := h
  exact ⟨by rw [nSet_n _ _ (by omega)]; exact h0, by rw [nSet_n _ _ (by omega)]; exact h1, by rw [nSet_n _ _ (by omega)]; exact h2, by rw [nSet_n _ _ (by omega)]; exact h3, by rw [nSet_s]; exact hv, by rw [nSet_n _ _ (by omega)]; exact h5⟩
theorem okO.watch {o : Od} (h : okO o) {v : Nat} (hv : v < 2) : okO (nSet o 5 v) := by
  obtain ⟨h0, h1, h2, h3, h4, h5⟩ := h
  exact ⟨by rw [nSet_n _ _ (by omega)]; exact h0, by rw [nSet_n _ _ (by omega)]; exact h1, by rw [nSet_n _ _ (by omega)]; exact h2, by rw [nSet_n _ _ (by omega)]; exact h3, by rw [nSet_n _ _ (by omega)]; exact h4, by rw [nSet_s]; exact hv⟩
def rTo2 (g : jG) (M row : Nat) (σ : Sg) (H0 H1 : Heap) : Prop := (∃ f, jI g H1 row 235 f ∧ Row f σ) ∧ okS σ ∧ jF3 M row M H0 H1
theorem jF3.sub {a b c : Nat} {H0 H H1 : Heap} (h : jF3 a b c H0 H) (h2 : jF3 a b a H H1) : jF3 a b c H0 H1 := ⟨by rw [h2.1, h.1], fun q h3 h4 h5 => by rw [h2.2 q h3 h4 h3]; exact h.2 q h3 h4 h5⟩
