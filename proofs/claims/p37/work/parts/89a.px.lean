/-! what a text that was read is: tokens [i, i') with codes [c, c') -/
section PXS
abbrev Rw : Type := (Nat → Int32) × (Nat → Int32) × (Nat → Int32) × (Nat → Int32)
abbrev PT : Type := Nat → Nat → Nat → Nat → Nat → Nat → Nat → Nat → Prop
/-- one rule: R the rows (kinds, values, codes, operands), Q the calls, P what is below;
    g: 0 expression of level j, 1 marks of level j behind it, 2 operand, 3 call, 5 j further arguments, 6 statement (j: 1 in a def), 7 block of o, 8 statements -/
def PF (R : Rw) (Q : Nat → Nat → Nat → Prop) (P : PT) (g j o L i i' c c' : Nat) : Prop :=
  if g = 0 then
    (j < 7 ∧ ∃ i1 c1, P 0 (j + 1) 0 L i i1 c c1 ∧ P 1 j 0 L i1 i' c1 c') ∨ (j = 7 ∧ P 2 0 0 L i i' c c')
  else if g = 1 then
    (i' = i ∧ c' = c) ∨
    (lvK (R.1 i) = nI j ∧ (R.1 i = 23 ∧ R.2.2.1 c = 11 ∨ R.1 i = 24 ∧ R.2.2.1 c = 12) ∧ ∃ i1 c1, P 0 (j + 1) 0 L (i + 1) i1 (c + 1) c1 ∧ R.2.2.1 c1 = 10 ∧ R.2.2.2 c = nI (c1 + 1) ∧ R.2.1 i = nI i1 ∧ P 1 j 0 L i1 i' (c1 + 1) c') ∨
    (lvK (R.1 i) = nI j ∧ R.1 i ≠ 23 ∧ R.1 i ≠ 24 ∧ ∃ i1 c1, P 0 (j + 1) 0 L (i + 1) i1 c c1 ∧ R.2.2.1 c1 = 9 ∧ R.2.2.2 c1 = R.1 i ∧ P 1 j 0 L i1 i' (c1 + 1) c')
  else if g = 2 then
    (R.1 i = 3 ∧ i' = i + 1 ∧ c' = c + 1 ∧ R.2.2.1 c = 1 ∧ R.2.2.2 c = R.2.1 i) ∨
    (R.1 i = 9 ∧ i' = i + 1 ∧ c' = c + 1 ∧ R.2.2.1 c = 5) ∨
    (R.1 i = 34 ∧ i' = i + 1 ∧ c' = c + 1 ∧ R.2.2.1 c = 2 ∧ R.2.2.2 c = R.2.1 i ∧ ∃ v, v < 8 ∧ R.2.1 i = nI v) ∨
    (R.1 i = 28 ∧ L < 8 ∧ ∃ i1, P 0 1 0 (L + 1) (i + 1) i1 c c' ∧ R.1 i1 = 29 ∧ i' = i1 + 1) ∨
    ((R.1 i = 25 ∨ R.1 i = 26 ∨ R.1 i = 36) ∧ L < 8 ∧ ∃ c1, P 2 0 0 (L + 1) (i + 1) i' c c1 ∧ R.2.2.1 c1 = 8 ∧ R.2.2.2 c1 = R.1 i ∧ c' = c1 + 1) ∨
    P 3 0 0 L i i' c c'
  else if g = 3 then
    R.1 i = 35 ∧ R.1 (i + 1) = 38 ∧ L < 8 ∧
      ((R.1 (i + 2) = 29 ∧ i' = i + 3 ∧ R.2.2.1 c = 15 ∧ c' = c + 1 ∧ Q i c 0) ∨
      ∃ k i1 c1 i2 c2, P 0 1 0 (L + 1) (i + 2) i1 c c1 ∧ P 5 k 0 (L + 1) i1 i2 c1 c2 ∧ R.1 i2 = 29 ∧ R.1 (i + 2) ≠ 29 ∧ i' = i2 + 1 ∧ R.2.2.1 c2 = 15 ∧ c' = c2 + 1 ∧ Q i c2 (k + 1))
  else if g = 5 then
    (j = 0 ∧ i' = i ∧ c' = c) ∨ (∃ k i1 c1, j = k + 1 ∧ R.1 i = 32 ∧ P 0 1 0 L (i + 1) i1 c c1 ∧ P 5 k 0 L i1 i' c1 c')
  else if g = 6 then
    (R.1 i = 34 ∧ R.1 (i + 1) = 27 ∧ R.2.2.1 c = 0 ∧ (∃ v, v < 8 ∧ R.2.1 i = nI v) ∧ ∃ i1 c1, P 0 1 0 L (i + 2) i1 (c + 1) c1 ∧ R.1 i1 = 33 ∧ i' = i1 + 1 ∧ R.2.2.1 c1 = 3 ∧ R.2.2.2 c1 = R.2.1 i ∧ c' = c1 + 1) ∨
    (R.1 i = 37 ∧ L < 8 ∧ R.2.2.1 c = 0 ∧ ∃ i1 c1 i2 c2, P 2 0 0 (L + 1) (i + 1) i1 (c + 1) c1 ∧ R.1 i1 = 27 ∧ P 0 1 0 L (i1 + 1) i2 c1 c2 ∧ R.1 i2 = 33 ∧ i' = i2 + 1 ∧ R.2.2.1 c2 = 4 ∧ c' = c2 + 1) ∨
    (R.1 i = 8 ∧ R.2.2.1 c = 0 ∧ ∃ i1 c1, P 0 1 0 L (i + 1) i1 (c + 1) c1 ∧ R.1 i1 = 33 ∧ i' = i1 + 1 ∧ R.2.2.1 c1 = 6 ∧ c' = c1 + 1) ∨
    (R.1 i = 11 ∧ j = 1 ∧ R.2.2.1 c = 0 ∧ ∃ i1 c1, P 0 1 0 L (i + 1) i1 (c + 1) c1 ∧ R.1 i1 = 33 ∧ i' = i1 + 1 ∧ R.2.2.1 c1 = 16 ∧ c' = c1 + 1) ∨
    (R.2.2.1 c = 0 ∧ ∃ i1 c1, P 3 0 0 L i i1 (c + 1) c1 ∧ R.1 i1 = 33 ∧ i' = i1 + 1 ∧ R.2.2.1 c1 = 7 ∧ c' = c1 + 1) ∨
    (R.1 i = 5 ∧ R.2.2.1 c = 0 ∧ ∃ i1 c1 i2 c2, P 0 1 0 L (i + 1) i1 (c + 1) c1 ∧ R.2.2.1 c1 = 14 ∧ P 7 j i L i1 i2 (c1 + 1) c2 ∧
      ((R.1 i2 ≠ 6 ∧ R.2.2.2 c1 = nI c2 ∧ i' = i2 ∧ c' = c2) ∨ (R.1 i2 = 6 ∧ R.2.2.1 c2 = 13 ∧ R.2.2.2 c1 = nI (c2 + 1) ∧ P 7 j i2 L (i2 + 1) i' (c2 + 1) c' ∧ R.2.2.2 c2 = nI c'))) ∨
    (R.1 i = 7 ∧ R.2.2.1 c = 0 ∧ ∃ i1 c1 c2, P 0 1 0 L (i + 1) i1 (c + 1) c1 ∧ R.2.2.1 c1 = 14 ∧ P 7 j i L i1 i' (c1 + 1) c2 ∧ R.2.2.1 c2 = 13 ∧ R.2.2.2 c2 = nI c ∧ c' = c2 + 1 ∧ R.2.2.2 c1 = nI c') ∨
    (R.1 i = 10 ∧ j = 0 ∧ L = 0 ∧ R.2.2.1 c = 13 ∧ R.2.2.2 c = nI c' ∧ R.2.1 i = nI i' ∧ i < i' ∧ c < c')
  else if g = 7 then
    R.1 i = 30 ∧ L < 8 ∧ R.2.1 i = nI i' ∧ ∃ i1, P 8 j 0 (L + 1) (i + 1) i1 c c' ∧ R.1 i1 = 31 ∧ R.2.1 i1 = nI o ∧ i' = i1 + 1
  else
    (i' = i ∧ c' = c) ∨ ∃ i1 c1, P 6 j 0 L i i1 c c1 ∧ P 8 j 0 L i1 i' c1 c'
/-- so many rules one within another -/
def PX (R : Rw) (Q : Nat → Nat → Nat → Prop) : Nat → PT
  | 0 => fun _ _ _ _ _ _ _ _ => False
  | n + 1 => PF R Q (PX R Q n)
theorem PF.mono {R : Rw} {Q : Nat → Nat → Nat → Prop} {P P' : PT} (h : ∀ g j o L i i' c c', P g j o L i i' c c' → P' g j o L i i' c c') {g j o L i i' c c' : Nat} (hP : PF R Q P g j o L i i' c c') : PF R Q P' g j o L i i' c c' := by
  unfold PF at hP ⊢
  by_cases g0 : g = 0
  · rw [if_pos g0] at hP ⊢
    rcases hP with ⟨q, i1, c1, h1, h2⟩ | ⟨q, h1⟩
    · exact Or.inl ⟨q, i1, c1, h _ _ _ _ _ _ _ _ h1, h _ _ _ _ _ _ _ _ h2⟩
    · exact Or.inr ⟨q, h _ _ _ _ _ _ _ _ h1⟩
  rw [if_neg g0] at hP ⊢
  by_cases g1 : g = 1
  · rw [if_pos g1] at hP ⊢
    rcases hP with q | ⟨q1, q2, i1, c1, h1, q3, q4, q5, h2⟩ | ⟨q1, q2, q3, i1, c1, h1, q4, q5, h2⟩
    · exact Or.inl q
    · exact Or.inr (Or.inl ⟨q1, q2, i1, c1, h _ _ _ _ _ _ _ _ h1, q3, q4, q5, h _ _ _ _ _ _ _ _ h2⟩)
    · exact Or.inr (Or.inr ⟨q1, q2, q3, i1, c1, h _ _ _ _ _ _ _ _ h1, q4, q5, h _ _ _ _ _ _ _ _ h2⟩)
  rw [if_neg g1] at hP ⊢
  by_cases g2 : g = 2
  · rw [if_pos g2] at hP ⊢
    rcases hP with q | q | q | ⟨q1, q2, i1, h1, q3⟩ | ⟨q1, q2, c1, h1, q3⟩ | h1
    · exact Or.inl q
    · exact Or.inr (Or.inl q)
    · exact Or.inr (Or.inr (Or.inl q))
    · exact Or.inr (Or.inr (Or.inr (Or.inl ⟨q1, q2, i1, h _ _ _ _ _ _ _ _ h1, q3⟩)))
    · exact Or.inr (Or.inr (Or.inr (Or.inr (Or.inl ⟨q1, q2, c1, h _ _ _ _ _ _ _ _ h1, q3⟩))))
    · exact Or.inr (Or.inr (Or.inr (Or.inr (Or.inr (h _ _ _ _ _ _ _ _ h1)))))
  rw [if_neg g2] at hP ⊢
  by_cases g3 : g = 3
  · rw [if_pos g3] at hP ⊢
    obtain ⟨q1, q2, q3, q | ⟨k, i1, c1, i2, c2, h1, h2, q4⟩⟩ := hP
    · exact ⟨q1, q2, q3, Or.inl q⟩
    · exact ⟨q1, q2, q3, Or.inr ⟨k, i1, c1, i2, c2, h _ _ _ _ _ _ _ _ h1, h _ _ _ _ _ _ _ _ h2, q4⟩⟩
  rw [if_neg g3] at hP ⊢
  by_cases g5 : g = 5
  · rw [if_pos g5] at hP ⊢
    rcases hP with q | ⟨k, i1, c1, q1, q2, h1, h2⟩
    · exact Or.inl q
    · exact Or.inr ⟨k, i1, c1, q1, q2, h _ _ _ _ _ _ _ _ h1, h _ _ _ _ _ _ _ _ h2⟩
  rw [if_neg g5] at hP ⊢
  by_cases g6 : g = 6
  · rw [if_pos g6] at hP ⊢
    rcases hP with ⟨q1, q2, q3, q4, i1, c1, h1, q5⟩ | ⟨q1, q2, q3, i1, c1, i2, c2, h1, q4, h2, q5⟩ | ⟨q1, q2, i1, c1, h1, q3⟩ | ⟨q1, q2, q3, i1, c1, h1, q4⟩ | ⟨q1, i1, c1, h1, q2⟩ | ⟨q1, q2, i1, c1, i2, c2, h1, q3, h2, q4⟩ | ⟨q1, q2, i1, c1, c2, h1, q3, h2, q4⟩ | q
    · exact Or.inl ⟨q1, q2, q3, q4, i1, c1, h _ _ _ _ _ _ _ _ h1, q5⟩
    · exact Or.inr (Or.inl ⟨q1, q2, q3, i1, c1, i2, c2, h _ _ _ _ _ _ _ _ h1, q4, h _ _ _ _ _ _ _ _ h2, q5⟩)
    · exact Or.inr (Or.inr (Or.inl ⟨q1, q2, i1, c1, h _ _ _ _ _ _ _ _ h1, q3⟩))
    · exact Or.inr (Or.inr (Or.inr (Or.inl ⟨q1, q2, q3, i1, c1, h _ _ _ _ _ _ _ _ h1, q4⟩)))
    · exact Or.inr (Or.inr (Or.inr (Or.inr (Or.inl ⟨q1, i1, c1, h _ _ _ _ _ _ _ _ h1, q2⟩))))
    · refine Or.inr (Or.inr (Or.inr (Or.inr (Or.inr (Or.inl ⟨q1, q2, i1, c1, i2, c2, h _ _ _ _ _ _ _ _ h1, q3, h _ _ _ _ _ _ _ _ h2, ?_⟩)))))
      rcases q4 with q4 | ⟨w1, w2, w3, w4, w5⟩
      · exact Or.inl q4
      · exact Or.inr ⟨w1, w2, w3, h _ _ _ _ _ _ _ _ w4, w5⟩
    · exact Or.inr (Or.inr (Or.inr (Or.inr (Or.inr (Or.inr (Or.inl ⟨q1, q2, i1, c1, c2, h _ _ _ _ _ _ _ _ h1, q3, h _ _ _ _ _ _ _ _ h2, q4⟩))))))
    · exact Or.inr (Or.inr (Or.inr (Or.inr (Or.inr (Or.inr (Or.inr q))))))
  rw [if_neg g6] at hP ⊢
  by_cases g7 : g = 7
  · rw [if_pos g7] at hP ⊢
    obtain ⟨q1, q2, q3, i1, h1, q4⟩ := hP
    exact ⟨q1, q2, q3, i1, h _ _ _ _ _ _ _ _ h1, q4⟩
  rw [if_neg g7] at hP ⊢
  rcases hP with q | ⟨i1, c1, h1, h2⟩
  · exact Or.inl q
  · exact Or.inr ⟨i1, c1, h _ _ _ _ _ _ _ _ h1, h _ _ _ _ _ _ _ _ h2⟩
theorem PX.s {R : Rw} {Q : Nat → Nat → Nat → Prop} : ∀ (n : Nat) {g j o L i i' c c' : Nat}, PX R Q n g j o L i i' c c' → PX R Q (n + 1) g j o L i i' c c' := by
  intro n
  induction n with
  | zero => intro g j o L i i' c c' h; exact h.elim
  | succ n ih => intro g j o L i i' c c' h; exact PF.mono (fun _ _ _ _ _ _ _ _ q => ih q) h
theorem PX.up {R : Rw} {Q : Nat → Nat → Nat → Prop} {n m g j o L i i' c c' : Nat} (h : PX R Q n g j o L i i' c c') (hm : n ≤ m) : PX R Q m g j o L i i' c c' := by
  induction m with
  | zero => rw [show n = 0 by omega] at h; exact h
  | succ m ih =>
    by_cases e : n = m + 1
    · rw [← e]; exact h
    · exact PX.s m (ih (by omega))
/-- rows that say the same between -/
def Ag (R R' : Rw) (i i' c c' : Nat) : Prop := (∀ x, i ≤ x → x < i' → R'.1 x = R.1 x ∧ (R.1 x ≠ 35 → R'.2.1 x = R.2.1 x)) ∧ (R.1 i' ≠ 6 → R'.1 i' ≠ 6) ∧ ∀ x, c ≤ x → x < c' → R'.2.2.1 x = R.2.2.1 x ∧ (R.2.2.1 x ≠ 15 → R'.2.2.2 x = R.2.2.2 x)
theorem Ag.sub {R R' : Rw} {i i' c c' a a' b b' : Nat} (h : Ag R R' i i' c c') (h1 : i ≤ a) (h2 : a' ≤ i') (h3 : c ≤ b) (h4 : b' ≤ c') (ha : a ≤ a') : Ag R R' a a' b b' := by
  refine ⟨fun x q1 q2 => h.1 x (by omega) (by omega), fun q => ?_, fun x q1 q2 => h.2.2 x (by omega) (by omega)⟩
  by_cases e : a' = i'
  · rw [e] at q ⊢
    exact h.2.1 q
  · rw [(h.1 a' (by omega) (by omega)).1]
    exact q
/-- what lies between grows -/
theorem PX.le {R : Rw} {Q : Nat → Nat → Nat → Prop} : ∀ (n : Nat) {g j o L i i' c c' : Nat}, PX R Q n g j o L i i' c c' → i ≤ i' ∧ c ≤ c' := by
  intro n
  induction n with
  | zero => intro g j o L i i' c c' h; exact h.elim
  | succ n ih =>
    intro g j o L i i' c c' hP
    have hP : PF R Q (PX R Q n) g j o L i i' c c' := hP
    unfold PF at hP
    split at hP
    · rcases hP with ⟨q, i1, c1, h1, h2⟩ | ⟨q, h1⟩
      · have := ih h1; have := ih h2; omega
      · exact ih h1
    split at hP
    · rcases hP with q | ⟨q1, q2, i1, c1, h1, q3, q4, q5, h2⟩ | ⟨q1, q2, q3, i1, c1, h1, q4, q5, h2⟩
      · omega
      · have := ih h1; have := ih h2; omega
      · have := ih h1; have := ih h2; omega
    split at hP
    · rcases hP with q | q | q | ⟨q1, q2, i1, h1, q3⟩ | ⟨q1, q2, c1, h1, q3⟩ | h1
      · omega
      · omega
      · omega
      · have := ih h1; omega
      · have := ih h1; omega
      · exact ih h1
    split at hP
    · obtain ⟨q1, q2, q3, q | ⟨k, i1, c1, i2, c2, h1, h2, q4⟩⟩ := hP
      · omega
      · have := ih h1; have := ih h2; omega
    split at hP
    · rcases hP with q | ⟨k, i1, c1, q1, q2, h1, h2⟩
      · omega
      · have := ih h1; have := ih h2; omega
    split at hP
    · rcases hP with ⟨q1, q2, q3, q4, i1, c1, h1, q5⟩ | ⟨q1, q2, q3, i1, c1, i2, c2, h1, q4, h2, q5⟩ | ⟨q1, q2, i1, c1, h1, q3⟩ | ⟨q1, q2, q3, i1, c1, h1, q4⟩ | ⟨q1, i1, c1, h1, q2⟩ | ⟨q1, q2, i1, c1, i2, c2, h1, q3, h2, q4⟩ | ⟨q1, q2, i1, c1, c2, h1, q3, h2, q4⟩ | q
      · have := ih h1; omega
      · have := ih h1; have := ih h2; omega
      · have := ih h1; omega
      · have := ih h1; omega
      · have := ih h1; omega
      · have := ih h1
        have := ih h2
        rcases q4 with q4 | ⟨w1, w2, w3, w4, w5⟩
        · omega
        · have := ih w4; omega
      · have := ih h1; have := ih h2; omega
      · omega
    split at hP
    · obtain ⟨q1, q2, q3, i1, h1, q4⟩ := hP
      have := ih h1; omega
    · rcases hP with q | ⟨i1, c1, h1, h2⟩
      · omega
      · have := ih h1; have := ih h2; omega
end PXS
