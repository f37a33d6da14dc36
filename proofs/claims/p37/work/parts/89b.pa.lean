/-! a text that was read, in rows that say the same -/
section PXA
theorem n35 {x v : Int32} (h : x = v) (hv : v ≠ 35) : x ≠ 35 := fun e => hv (h.symm.trans e)
theorem n15 {x v : Int32} (h : x = v) (hv : v ≠ 15) : x ≠ 15 := fun e => hv (h.symm.trans e)
theorem PX.ag {R R' : Rw} {Q Q' : Nat → Nat → Nat → Prop} (hQ : ∀ i c n, Q i c n → Q' i c n) : ∀ (n : Nat) {g j o L i i' c c' : Nat}, PX R Q n g j o L i i' c c' → Ag R R' i i' c c' → PX R' Q' n g j o L i i' c c' := by
  intro n
  induction n with
  | zero => intro g j o L i i' c c' h; exact h.elim
  | succ n ih =>
    intro g j o L i i' c c' hP hA
    have hle := PX.le (n + 1) hP
    have K : ∀ x, i ≤ x → x < i' → R'.1 x = R.1 x := fun x h1 h2 => (hA.1 x h1 h2).1
    have V : ∀ x, i ≤ x → x < i' → R.1 x ≠ 35 → R'.2.1 x = R.2.1 x := fun x h1 h2 h3 => (hA.1 x h1 h2).2 h3
    have C : ∀ x, c ≤ x → x < c' → R'.2.2.1 x = R.2.2.1 x := fun x h1 h2 => (hA.2.2 x h1 h2).1
    have D : ∀ x, c ≤ x → x < c' → R.2.2.1 x ≠ 15 → R'.2.2.2 x = R.2.2.2 x := fun x h1 h2 h3 => (hA.2.2 x h1 h2).2 h3
    have S : ∀ {g j o L a a' b b' : Nat}, PX R Q n g j o L a a' b b' → i ≤ a → a' ≤ i' → c ≤ b → b' ≤ c' → PX R' Q' n g j o L a a' b b' := fun h h1 h2 h3 h4 => ih h (hA.sub h1 h2 h3 h4 (PX.le n h).1)
    have hP : PF R Q (PX R Q n) g j o L i i' c c' := hP
    show PF R' Q' (PX R' Q' n) g j o L i i' c c'
    unfold PF at hP ⊢
    by_cases g0 : g = 0
    · rw [if_pos g0] at hP ⊢
      rcases hP with ⟨q, i1, c1, h1, h2⟩ | ⟨q, h1⟩
      · have := PX.le n h1; have := PX.le n h2
        exact Or.inl ⟨q, i1, c1, S h1 (by omega) (by omega) (by omega) (by omega), S h2 (by omega) (by omega) (by omega) (by omega)⟩
      · exact Or.inr ⟨q, S h1 (by omega) (by omega) (by omega) (by omega)⟩
    rw [if_neg g0] at hP ⊢
    by_cases g1 : g = 1
    · rw [if_pos g1] at hP ⊢
      rcases hP with q | ⟨q1, q2, i1, c1, h1, q3, q4, q5, h2⟩ | ⟨q1, q2, q3, i1, c1, h1, q4, q5, h2⟩
      · exact Or.inl q
      · have := PX.le n h1; have := PX.le n h2
        have k0 := K i (by omega) (by omega)
        have k1 : R.1 i ≠ 35 := by rcases q2 with ⟨e, _⟩ | ⟨e, _⟩ <;> exact n35 e (by decide)
        have k2 : R.2.2.1 c ≠ 15 := by rcases q2 with ⟨_, e⟩ | ⟨_, e⟩ <;> exact n15 e (by decide)
        refine Or.inr (Or.inl ⟨by rw [k0]; exact q1, by rw [k0, C c (by omega) (by omega)]; exact q2, i1, c1, S h1 (by omega) (by omega) (by omega) (by omega), by rw [C c1 (by omega) (by omega)]; exact q3, by rw [D c (by omega) (by omega) k2]; exact q4, by rw [V i (by omega) (by omega) k1]; exact q5, S h2 (by omega) (by omega) (by omega) (by omega)⟩)
      · have := PX.le n h1; have := PX.le n h2
        have k0 := K i (by omega) (by omega)
        refine Or.inr (Or.inr ⟨by rw [k0]; exact q1, by rw [k0]; exact q2, by rw [k0]; exact q3, i1, c1, S h1 (by omega) (by omega) (by omega) (by omega), by rw [C c1 (by omega) (by omega)]; exact q4, by rw [D c1 (by omega) (by omega) (n15 q4 (by decide)), k0]; exact q5, S h2 (by omega) (by omega) (by omega) (by omega)⟩)
    rw [if_neg g1] at hP ⊢
    by_cases g2 : g = 2
    · rw [if_pos g2] at hP ⊢
      rcases hP with ⟨q1, q2, q3, q4, q5⟩ | ⟨q1, q2, q3, q4⟩ | ⟨q1, q2, q3, q4, q5, q6⟩ | ⟨q1, q2, i1, h1, q3, q4⟩ | ⟨q1, q2, c1, h1, q3, q4, q5⟩ | h1
      · exact Or.inl ⟨by rw [K i (by omega) (by omega)]; exact q1, q2, q3, by rw [C c (by omega) (by omega)]; exact q4, by rw [D c (by omega) (by omega) (n15 q4 (by decide)), V i (by omega) (by omega) (n35 q1 (by decide))]; exact q5⟩
      · exact Or.inr (Or.inl ⟨by rw [K i (by omega) (by omega)]; exact q1, q2, q3, by rw [C c (by omega) (by omega)]; exact q4⟩)
      · have v := V i (by omega) (by omega) (n35 q1 (by decide))
        exact Or.inr (Or.inr (Or.inl ⟨by rw [K i (by omega) (by omega)]; exact q1, q2, q3, by rw [C c (by omega) (by omega)]; exact q4, by rw [D c (by omega) (by omega) (n15 q4 (by decide)), v]; exact q5, by rw [v]; exact q6⟩))
      · have := PX.le n h1
        exact Or.inr (Or.inr (Or.inr (Or.inl ⟨by rw [K i (by omega) (by omega)]; exact q1, q2, i1, S h1 (by omega) (by omega) (by omega) (by omega), by rw [K i1 (by omega) (by omega)]; exact q3, q4⟩)))
      · have := PX.le n h1
        have k0 := K i (by omega) (by omega)
        exact Or.inr (Or.inr (Or.inr (Or.inr (Or.inl ⟨by rw [k0]; exact q1, q2, c1, S h1 (by omega) (by omega) (by omega) (by omega), by rw [C c1 (by omega) (by omega)]; exact q3, by rw [D c1 (by omega) (by omega) (n15 q3 (by decide)), k0]; exact q4, q5⟩))))
      · exact Or.inr (Or.inr (Or.inr (Or.inr (Or.inr (S h1 (by omega) (by omega) (by omega) (by omega))))))
    rw [if_neg g2] at hP ⊢
    by_cases g3 : g = 3
    · rw [if_pos g3] at hP ⊢
      obtain ⟨q1, q2, q3, ⟨w1, w2, w3, w4, w5⟩ | ⟨k, i1, c1, i2, c2, h1, h2, q4, q5, q6, q7, q8, q9⟩⟩ := hP
      · exact ⟨by rw [K i (by omega) (by omega)]; exact q1, by rw [K (i + 1) (by omega) (by omega)]; exact q2, q3, Or.inl ⟨by rw [K (i + 2) (by omega) (by omega)]; exact w1, w2, by rw [C c (by omega) (by omega)]; exact w3, w4, hQ _ _ _ w5⟩⟩
      · have := PX.le n h1; have := PX.le n h2
        exact ⟨by rw [K i (by omega) (by omega)]; exact q1, by rw [K (i + 1) (by omega) (by omega)]; exact q2, q3, Or.inr ⟨k, i1, c1, i2, c2, S h1 (by omega) (by omega) (by omega) (by omega), S h2 (by omega) (by omega) (by omega) (by omega), by rw [K i2 (by omega) (by omega)]; exact q4, by rw [K (i + 2) (by omega) (by omega)]; exact q5, q6, by rw [C c2 (by omega) (by omega)]; exact q7, q8, hQ _ _ _ q9⟩⟩
    rw [if_neg g3] at hP ⊢
    by_cases g5 : g = 5
    · rw [if_pos g5] at hP ⊢
      rcases hP with q | ⟨k, i1, c1, q1, q2, h1, h2⟩
      · exact Or.inl q
      · have := PX.le n h1; have := PX.le n h2
        exact Or.inr ⟨k, i1, c1, q1, by rw [K i (by omega) (by omega)]; exact q2, S h1 (by omega) (by omega) (by omega) (by omega), S h2 (by omega) (by omega) (by omega) (by omega)⟩
    rw [if_neg g5] at hP ⊢
    by_cases g6 : g = 6
    · rw [if_pos g6] at hP ⊢
      rcases hP with ⟨q1, q2, q3, q4, i1, c1, h1, q5, q6, q7, q8, q9⟩ | ⟨q1, q2, q3, i1, c1, i2, c2, h1, q4, h2, q5, q6, q7, q8⟩ | ⟨q1, q2, i1, c1, h1, q3, q4, q5, q6⟩ | ⟨q1, q2, q3, i1, c1, h1, q4, q5, q6, q7⟩ | ⟨q1, i1, c1, h1, q2, q3, q4, q5⟩ | ⟨q1, q2, i1, c1, i2, c2, h1, q3, h2, q4⟩ | ⟨q1, q2, i1, c1, c2, h1, q3, h2, q4, q5, q6, q7⟩ | ⟨q1, q2, q3, q4, q5, q6, q7, q8⟩
      · have := PX.le n h1
        have k0 := K i (by omega) (by omega)
        have v := V i (by omega) (by omega) (n35 q1 (by decide))
        exact Or.inl ⟨by rw [k0]; exact q1, by rw [K (i + 1) (by omega) (by omega)]; exact q2, by rw [C c (by omega) (by omega)]; exact q3, by rw [v]; exact q4, i1, c1, S h1 (by omega) (by omega) (by omega) (by omega), by rw [K i1 (by omega) (by omega)]; exact q5, q6, by rw [C c1 (by omega) (by omega)]; exact q7, by rw [D c1 (by omega) (by omega) (n15 q7 (by decide)), v]; exact q8, q9⟩
      · have := PX.le n h1; have := PX.le n h2
        exact Or.inr (Or.inl ⟨by rw [K i (by omega) (by omega)]; exact q1, q2, by rw [C c (by omega) (by omega)]; exact q3, i1, c1, i2, c2, S h1 (by omega) (by omega) (by omega) (by omega), by rw [K i1 (by omega) (by omega)]; exact q4, S h2 (by omega) (by omega) (by omega) (by omega), by rw [K i2 (by omega) (by omega)]; exact q5, q6, by rw [C c2 (by omega) (by omega)]; exact q7, q8⟩)
      · have := PX.le n h1
        exact Or.inr (Or.inr (Or.inl ⟨by rw [K i (by omega) (by omega)]; exact q1, by rw [C c (by omega) (by omega)]; exact q2, i1, c1, S h1 (by omega) (by omega) (by omega) (by omega), by rw [K i1 (by omega) (by omega)]; exact q3, q4, by rw [C c1 (by omega) (by omega)]; exact q5, q6⟩))
      · have := PX.le n h1
        exact Or.inr (Or.inr (Or.inr (Or.inl ⟨by rw [K i (by omega) (by omega)]; exact q1, q2, by rw [C c (by omega) (by omega)]; exact q3, i1, c1, S h1 (by omega) (by omega) (by omega) (by omega), by rw [K i1 (by omega) (by omega)]; exact q4, q5, by rw [C c1 (by omega) (by omega)]; exact q6, q7⟩)))
      · have := PX.le n h1
        exact Or.inr (Or.inr (Or.inr (Or.inr (Or.inl ⟨by rw [C c (by omega) (by omega)]; exact q1, i1, c1, S h1 (by omega) (by omega) (by omega) (by omega), by rw [K i1 (by omega) (by omega)]; exact q2, q3, by rw [C c1 (by omega) (by omega)]; exact q4, q5⟩))))
      · have := PX.le n h1; have := PX.le n h2
        rcases q4 with ⟨w1, w2, w3, w4⟩ | ⟨w1, w2, w3, w4, w6⟩
        · exact Or.inr (Or.inr (Or.inr (Or.inr (Or.inr (Or.inl ⟨by rw [K i (by omega) (by omega)]; exact q1, by rw [C c (by omega) (by omega)]; exact q2, i1, c1, i2, c2, S h1 (by omega) (by omega) (by omega) (by omega), by rw [C c1 (by omega) (by omega)]; exact q3, S h2 (by omega) (by omega) (by omega) (by omega), Or.inl ⟨by rw [w3] at hA; exact hA.2.1 w1, by rw [D c1 (by omega) (by omega) (n15 q3 (by decide))]; exact w2, w3, w4⟩⟩)))))
        · have := PX.le n w4
          have hi : i2 < i' := by omega
          exact Or.inr (Or.inr (Or.inr (Or.inr (Or.inr (Or.inl ⟨by rw [K i (by omega) (by omega)]; exact q1, by rw [C c (by omega) (by omega)]; exact q2, i1, c1, i2, c2, S h1 (by omega) (by omega) (by omega) (by omega), by rw [C c1 (by omega) (by omega)]; exact q3, S h2 (by omega) (by omega) (by omega) (by omega), Or.inr ⟨by rw [K i2 (by omega) (by omega)]; exact w1, by rw [C c2 (by omega) (by omega)]; exact w2, by rw [D c1 (by omega) (by omega) (n15 q3 (by decide))]; exact w3, S w4 (by omega) (by omega) (by omega) (by omega), by rw [D c2 (by omega) (by omega) (n15 w2 (by decide))]; exact w6⟩⟩)))))
      · have := PX.le n h1; have := PX.le n h2
        exact Or.inr (Or.inr (Or.inr (Or.inr (Or.inr (Or.inr (Or.inl ⟨by rw [K i (by omega) (by omega)]; exact q1, by rw [C c (by omega) (by omega)]; exact q2, i1, c1, c2, S h1 (by omega) (by omega) (by omega) (by omega), by rw [C c1 (by omega) (by omega)]; exact q3, S h2 (by omega) (by omega) (by omega) (by omega), by rw [C c2 (by omega) (by omega)]; exact q4, by rw [D c2 (by omega) (by omega) (n15 q4 (by decide))]; exact q5, q6, by rw [D c1 (by omega) (by omega) (n15 q3 (by decide))]; exact q7⟩))))))
      · exact Or.inr (Or.inr (Or.inr (Or.inr (Or.inr (Or.inr (Or.inr ⟨by rw [K i (by omega) (by omega)]; exact q1, q2, q3, by rw [C c (by omega) (by omega)]; exact q4, by rw [D c (by omega) (by omega) (n15 q4 (by decide))]; exact q5, by rw [V i (by omega) (by omega) (n35 q1 (by decide))]; exact q6, q7, q8⟩))))))
    rw [if_neg g6] at hP ⊢
    by_cases g7 : g = 7
    · rw [if_pos g7] at hP ⊢
      obtain ⟨q1, q2, q3, i1, h1, q4, q5, q6⟩ := hP
      have := PX.le n h1
      exact ⟨by rw [K i (by omega) (by omega)]; exact q1, q2, by rw [V i (by omega) (by omega) (n35 q1 (by decide))]; exact q3, i1, S h1 (by omega) (by omega) (by omega) (by omega), by rw [K i1 (by omega) (by omega)]; exact q4, by rw [V i1 (by omega) (by omega) (n35 q4 (by decide))]; exact q5, q6⟩
    rw [if_neg g7] at hP ⊢
    rcases hP with q | ⟨i1, c1, h1, h2⟩
    · exact Or.inl q
    · have := PX.le n h1; have := PX.le n h2
      exact Or.inr ⟨i1, c1, S h1 (by omega) (by omega) (by omega) (by omega), S h2 (by omega) (by omega) (by omega) (by omega)⟩
end PXA
