/-! what a piece of a text asks of the three runs -/
section SPX
variable (s : Sx) (m : Mx) (x y : Int32) (F : Nat)
abbrev hB (l L j D : Nat) : Prop := l + 13 * (8 - L) + (7 - j) ≤ 111 * (D + 1)
def lvN (k : Nat) : Nat := (lvK ((s.1 0).getD k 0)).toInt.toNat
def nd (L i i' : Nat) : Nat := if L = 0 then i' - i else 0
/-- an expression of level j, marks and ( open at its start below it -/
def XE (L j i i' c c' : Nat) : Prop :=
  ∀ (f t : Nat) (O C V bW bM vs w : List Int32) (k r : Nat), f ≤ F → Ok3 f t O C V bW bM → k < 400 → (lvN s k = 0 ∨ lvN s k < j) → hB vs.length L j bM.length → hB (w.length + 1) L j bM.length → 26000 ≤ r + 20 * vs.length + 2 * L →
  (∀ (f' t' : Nat) (O' C' V' : List Int32) (v : Int32), f' ≤ f → Ok3 f' t' O' C' V' bW bM → Gl s m x y f' t' O' C' V' bW bM (vs ++ [v]) (w ++ [nI k]) i' 2 c' (r - (2 * (8 - L) + 1))) → Gl s m x y f t O C V bW bM vs (w ++ [nI k]) i 1 c r
def XO (L i i' c c' : Nat) : Prop :=
  ∀ (f t : Nat) (O C V bW bM vs w : List Int32) (k r : Nat), f ≤ F → Ok3 f t O C V bW bM → k < 400 → hB vs.length L 7 bM.length → hB (w.length + 1) L 7 bM.length → 26000 ≤ r + 20 * vs.length + 2 * L →
  (∀ (f' t' : Nat) (O' C' V' : List Int32) (v : Int32), f' ≤ f → Ok3 f' t' O' C' V' bW bM → Gl s m x y f' t' O' C' V' bW bM (vs ++ [v]) (w ++ [nI k]) i' 2 c' (r - (2 * (8 - L) + 1))) → Gl s m x y f t O C V bW bM vs (w ++ [nI k]) i 1 c r
/-- marks behind it -/
def XM (L j i i' c c' : Nat) : Prop :=
  ∀ (f t : Nat) (O C V bW bM vs w : List Int32) (k r : Nat) (v : Int32), f ≤ F → Ok3 f t O C V bW bM → k < 400 → (lvN s k = 0 ∨ lvN s k < j) → hB vs.length L j bM.length → hB (w.length + 1) L j bM.length → 25983 ≤ r + 20 * vs.length + 2 * L →
  (∀ (f' t' : Nat) (O' C' V' : List Int32) (v : Int32), f' ≤ f → Ok3 f' t' O' C' V' bW bM → Gl s m x y f' t' O' C' V' bW bM (vs ++ [v]) (w ++ [nI k]) i' 2 c' r) → Gl s m x y f t O C V bW bM (vs ++ [v]) (w ++ [nI k]) i 2 c r
/-- further arguments -/
def XA (L j i i' c c' : Nat) : Prop :=
  ∀ (f t : Nat) (O C V bW bM vs w : List Int32) (k r : Nat), f ≤ F → Ok3 f t O C V bW bM → k < 400 → lvN s k = 0 → vs.length + j + 13 * (8 - L) + 6 ≤ 111 * (bM.length + 1) + 1 → hB (w.length + 1) L 1 bM.length → 26001 ≤ r + 20 * vs.length + 2 * L →
  (∀ (f' t' : Nat) (O' C' V' us : List Int32), f' ≤ f → us.length = j → Ok3 f' t' O' C' V' bW bM → Gl s m x y f' t' O' C' V' bW bM (vs ++ us) (w ++ [nI k]) i' 2 c' (r - 18 * j)) → Gl s m x y f t O C V bW bM vs (w ++ [nI k]) i 2 c r
/-- where a def goes on when it returns -/
def KRt (f : Nat) (bW bM vs w : List Int32) (r : Nat) : Prop :=
  ∃ bW0 bM0 a b, bW = bW0 ++ [nI a] ∧ bM = bM0 ++ [nI b] ∧ bM0.length < 10 ∧ ∀ (f' t' : Nat) (O' C' V' : List Int32) (v : Int32), f' ≤ f → Ok3 f' t' O' C' V' bW0 bM0 → Gl s m x y f' t' O' C' V' bW0 bM0 (vs ++ [v]) w a 2 b r
/-- a statement, or a row of statements; j: 1 in a def -/
def SS (L j i i' c c' : Nat) : Prop :=
  ∀ (f t : Nat) (O C V bW bM vs w : List Int32) (r p : Nat), f ≤ F → Ok3 f t O C V bW bM → vs.length ≤ 111 * bM.length → w.length ≤ 111 * bM.length → 26000 + nd L i i' ≤ r + 20 * vs.length + 2 * L →
  (∀ (f' t' : Nat) (O' C' V' : List Int32), f' ≤ f → Ok3 f' t' O' C' V' bW bM → Gl s m x y f' t' O' C' V' bW bM vs w i' 0 c' (r - nd L i i')) →
  (j = 1 → p + 2 + nd L i i' ≤ r ∧ KRt s m x y f bW bM vs w p) → Gl s m x y f t O C V bW bM vs w i 0 c r
def Sp (g j L i i' c c' : Nat) : Prop :=
  (g = 0 → 1 ≤ j → j ≤ 7 → lvN s i' < j → XE s m x y F L j i i' c c') ∧ (g = 1 → 1 ≤ j → j < 7 → lvN s i' < j → XM s m x y F L j i i' c c') ∧ (g = 2 → lvN s i' < 7 → XO s m x y F L i i' c c') ∧ (g = 3 → lvN s i' < 7 → XO s m x y F L i i' c c') ∧
  (g = 5 → lvN s i' < 1 → XA s m x y F L j i i' c c') ∧ (g = 6 ∨ g = 8 → j ≤ 1 → (s.1 0).getD i' 0 ≠ 6 → SS s m x y F L j i i' c c')
variable {s m x y F}
theorem lvN_k {k : Nat} {q : Int32} (h : (s.1 0).getD k 0 = q) : lvN s k = (lvK q).toInt.toNat := by unfold lvN; rw [h]
theorem lvN_j {k j : Nat} (hj : j < 1000) (h : lvK ((s.1 0).getD k 0) = nI j) : lvN s k = j := by
  unfold lvN
  rw [h, nI_T (by omega)]
  rfl
theorem lvN_7 (k : Nat) : lvN s k ≤ 7 := by
  have := lvK_b ((s.1 0).getD k 0)
  unfold lvN
  unfold in07 at this
  omega
theorem lvN_le {k i : Nat} (h : lvN s i ≤ lvN s k) : lvK ((s.1 0).getD i 0) ≤ lvK ((s.1 0).getD k 0) := by
  have h1 := lvK_b ((s.1 0).getD k 0)
  have h2 := lvK_b ((s.1 0).getD i 0)
  unfold lvN at h
  unfold in07 at h1 h2
  rw [i_le]
  omega
theorem lvN_st {k i : Nat} (h : lvN s k = 0 ∨ lvN s k < lvN s i) : StpW s k ((s.1 0).getD i 0) := by
  have h1 := lvK_b ((s.1 0).getD k 0)
  have h2 := lvK_b ((s.1 0).getD i 0)
  unfold lvN at h
  unfold in07 at h1 h2
  unfold StpW
  rcases h with h | h
  · exact Or.inl (by rw [i_eq, i_0]; omega)
  · exact Or.inr (by rw [i_le]; omega)
theorem lvN_0 {k : Nat} (h : lvN s k = 0) : lvK ((s.1 0).getD k 0) = 0 := by
  have h1 := lvK_b ((s.1 0).getD k 0)
  unfold lvN at h
  unfold in07 at h1
  rw [i_eq, i_0]
  omega
theorem lv_O2 {q : Int32} (h : 1 ≤ (lvK q).toInt) (h6 : (lvK q).toInt ≤ 6) (n23 : q ≠ 23) (n24 : q ≠ 24) : isO2 q := by
  unfold isO2
  by_cases c12 : q = 12
  · exact Or.inl c12
  by_cases c13 : q = 13
  · simp [c13]
  by_cases c14 : q = 14
  · simp [c14]
  by_cases c15 : q = 15
  · simp [c15]
  by_cases c16 : q = 16
  · simp [c16]
  by_cases c17 : q = 17
  · simp [c17]
  by_cases c18 : q = 18
  · simp [c18]
  by_cases c19 : q = 19
  · simp [c19]
  by_cases c20 : q = 20
  · simp [c20]
  by_cases c21 : q = 21
  · simp [c21]
  by_cases c22 : q = 22
  · simp [c22]
  exfalso
  revert h h6
  unfold lvK f_9003
  rw [if_neg c12, if_neg c13, if_neg c14, if_neg c15, if_neg c16, if_neg c17, if_neg c18, if_neg c19, if_neg c20, if_neg c21, if_neg c22, if_neg n23, if_neg n24]
  repeat (refine ite_P (P := fun x => 1 ≤ x.toInt → x.toInt ≤ 6 → False) (by decide) ?_)
  decide
theorem Ok3.up {f g t t' : Nat} {O C V O' C' V' bW bM : List Int32} (h : Ok3 f t O C V bW bM) (hg : g ≤ f) (h1 : t' ≤ 2) (h2 : O'.length ≤ 8) (h3 : C'.length = 32) (h4 : V'.length = 88) : Ok3 g t' O' C' V' bW bM :=
  ⟨by have := h.1; omega, h1, h2, h3, h4, h.2.2.2.2.2⟩
theorem Ok3.f {f g t : Nat} {O C V bW bM : List Int32} (h : Ok3 f t O C V bW bM) (hg : g ≤ f) : Ok3 g t O C V bW bM := h.up hg h.2.1 h.2.2.1 h.2.2.2.1 h.2.2.2.2.1
theorem KRt.le {f g : Nat} {bW bM vs w : List Int32} {r : Nat} (h : KRt s m x y f bW bM vs w r) (hg : g ≤ f) : KRt s m x y g bW bM vs w r := by
  obtain ⟨bW0, bM0, a, b, h1, h2, h3, h4⟩ := h
  exact ⟨bW0, bM0, a, b, h1, h2, h3, fun f' t' O' C' V' v hf => h4 f' t' O' C' V' v (by omega)⟩
-- what a rule says of its tokens
variable {Q : Nat → Nat → Nat → Prop} {N j o L i i' c c' : Nat}
theorem PX.k3 (h : PX (rw4 s) Q N 3 j o L i i' c c') : (s.1 0).getD i 0 = 35 := by
  cases N with
  | zero => exact h.elim
  | succ N =>
    have h : PF (rw4 s) Q (PX (rw4 s) Q N) 3 j o L i i' c c' := h
    unfold PF at h
    rw [if_neg (by decide), if_neg (by decide), if_neg (by decide), if_pos rfl] at h
    exact h.1
theorem PX.b7 (h : PX (rw4 s) Q N 7 j o L i i' c c') : (s.1 0).getD i 0 = 30 ∧ L < 8 ∧ (s.1 1).getD i 0 = nI i' ∧ ∃ i1, PX (rw4 s) Q N 8 j 0 (L + 1) (i + 1) i1 c c' ∧ (s.1 0).getD i1 0 = 31 ∧ (s.1 1).getD i1 0 = nI o ∧ i' = i1 + 1 := by
  cases N with
  | zero => exact h.elim
  | succ N =>
    have h : PF (rw4 s) Q (PX (rw4 s) Q N) 7 j o L i i' c c' := h
    unfold PF at h
    rw [if_neg (by decide), if_neg (by decide), if_neg (by decide), if_neg (by decide), if_neg (by decide), if_neg (by decide), if_pos rfl] at h
    obtain ⟨h1, h2, h3, i1, h4, h5, h6, h7⟩ := h
    exact ⟨h1, h2, h3, i1, PX.s N h4, h5, h6, h7⟩
theorem PX.n6 (h : PX (rw4 s) Q N 6 j o L i i' c c') : (s.1 0).getD i 0 ≠ 6 := by
  cases N with
  | zero => exact h.elim
  | succ N =>
    have h : PF (rw4 s) Q (PX (rw4 s) Q N) 6 j o L i i' c c' := h
    unfold PF at h
    rw [if_neg (by decide), if_neg (by decide), if_neg (by decide), if_neg (by decide), if_neg (by decide), if_pos rfl] at h
    have go : ∀ {q : Int32}, (s.1 0).getD i 0 = q → q ≠ 6 → (s.1 0).getD i 0 ≠ 6 := fun e n => by rw [e]; exact n
    rcases h with ⟨q, _⟩ | ⟨q, _⟩ | ⟨q, _⟩ | ⟨q, _⟩ | ⟨_, i1, c1, h1, _⟩ | ⟨q, _⟩ | ⟨q, _⟩ | ⟨q, _⟩
    · exact go q (by decide)
    · exact go q (by decide)
    · exact go q (by decide)
    · exact go q (by decide)
    · exact go h1.k3 (by decide)
    · exact go q (by decide)
    · exact go q (by decide)
    · exact go q (by decide)
theorem PX.m1 (h : PX (rw4 s) Q N 1 j o L i i' c c') (hj : j < 7) (hl : lvN s i' < j) : lvN s i < j + 1 := by
  cases N with
  | zero => exact h.elim
  | succ N =>
    have h : PF (rw4 s) Q (PX (rw4 s) Q N) 1 j o L i i' c c' := h
    unfold PF at h
    rw [if_neg (by decide), if_pos rfl] at h
    rcases h with ⟨q, _⟩ | ⟨q, _⟩ | ⟨q, _⟩
    · rw [← q]; omega
    · have := lvN_j (s := s) (by omega) q; omega
    · have := lvN_j (s := s) (by omega) q; omega
end SPX
