/-! parts that are alike: kinds as the class has them, or as the reference writes them down -/
section ALX
def wmB (a b : Nat) : Bool := !(decide (3 ≤ a) && decide (3 ≤ b) && a != 4 && b != 4 && wm (nI a) == wm (nI b)) || (a == b || (a == 13 && b == 36) || (a == 36 && b == 13) || (a == 26 && b == 37) || (a == 37 && b == 26) || (a == 28 && b == 38) || (a == 38 && b == 28))
theorem wm_B : ∀ a, a < 39 → ∀ b, b < 39 → wmB a b = true := by decide +kernel
theorem wm_ok {a b : Nat} (ha : a < 39) (hb : b < 39) (a3 : 3 ≤ a) (b3 : 3 ≤ b) (a4 : a ≠ 4) (b4 : b ≠ 4) (h : wm (nI a) = wm (nI b)) : a = b ∨ (a = 13 ∧ b = 36) ∨ (a = 36 ∧ b = 13) ∨ (a = 26 ∧ b = 37) ∨ (a = 37 ∧ b = 26) ∨ (a = 28 ∧ b = 38) ∨ (a = 38 ∧ b = 28) := by
  have := wm_B a ha b hb
  unfold wmB at this
  simp only [Bool.or_eq_true, Bool.not_eq_true', Bool.and_eq_true, decide_eq_true_eq, bne_iff_ne, ne_eq, beq_iff_eq, Bool.and_eq_false_iff, decide_eq_false_iff_not, bne_eq_false_iff_eq, beq_eq_false_iff_ne] at this
  rcases this with this | this
  · exfalso
    rcases this with (((w | w) | w) | w) | w
    · exact w a3
    · exact w b3
    · exact a4 w
    · exact b4 w
    · exact w h
  · rcases this with (((((w | w) | w) | w) | w) | w) | w
    · exact Or.inl w
    · exact Or.inr (Or.inl w)
    · exact Or.inr (Or.inr (Or.inl w))
    · exact Or.inr (Or.inr (Or.inr (Or.inl w)))
    · exact Or.inr (Or.inr (Or.inr (Or.inr (Or.inl w))))
    · exact Or.inr (Or.inr (Or.inr (Or.inr (Or.inr (Or.inl w)))))
    · exact Or.inr (Or.inr (Or.inr (Or.inr (Or.inr (Or.inr w)))))
theorem OkV.n {v : Int32} (h : OkV v) : ∃ a, v = nI a ∧ a < 39 ∧ 3 ≤ a ∧ a ≠ 4 := by
  obtain ⟨h4, h3, h8⟩ := h
  refine ⟨v.toInt.toNat, by rw [i_eq, nI_T (by omega)]; omega, by omega, by omega, fun e => h4 ?_⟩
  rw [i_eq, show (4 : Int32).toInt = 4 by decide]
  omega
theorem wm_inj {v w : Int32} (hv : OkV v) (hw : OkV w) (h : wm v = wm w) : v = w ∨ (v = 13 ∧ w = 36) ∨ (v = 36 ∧ w = 13) ∨ (v = 26 ∧ w = 37) ∨ (v = 37 ∧ w = 26) ∨ (v = 28 ∧ w = 38) ∨ (v = 38 ∧ w = 28) := by
  obtain ⟨a, ea, a1, a2, a3⟩ := hv.n
  obtain ⟨b, eb, b1, b2, b3⟩ := hw.n
  subst ea; subst eb
  rcases wm_ok a1 b1 a2 b2 a3 b3 h with e | ⟨e, f⟩ | ⟨e, f⟩ | ⟨e, f⟩ | ⟨e, f⟩ | ⟨e, f⟩ | ⟨e, f⟩
  · exact Or.inl (by rw [e])
  all_goals (subst e; subst f; decide)
/-- the same before, the same now -/
theorem loc_inj {p q q' v w : Int32} (hv : LocP p q v) (hw : LocP p q' w) (hq : q = 10 ↔ q' = 10) (h : wm v = wm w) : v = w := by
  obtain ⟨v0, v1, v2, v3, v4, v5, v6⟩ := hv
  obtain ⟨w0, w1, w2, w3, w4, w5, w6⟩ := hw
  rcases wm_inj v0 w0 h with e | ⟨e, f⟩ | ⟨e, f⟩ | ⟨e, f⟩ | ⟨e, f⟩ | ⟨e, f⟩ | ⟨e, f⟩
  · exact e
  · exact absurd (v1 e) (w2 f)
  · exact absurd (w1 f) (v2 e)
  · exact absurd (w3 f) (v4 e)
  · exact absurd (v3 e) (w4 f)
  · obtain ⟨x1, x2⟩ := w5 f
    exact absurd ⟨x1, fun x => x2 (hq.1 x)⟩ (v6 e)
  · obtain ⟨x1, x2⟩ := v5 e
    exact absurd ⟨x1, fun x => x2 (hq.2 x)⟩ (w6 f)
/-- two parts, token by token, when each is told by f -/
def AL (f : Int32 → Int32) (K1 K2 : List Int32) (a b a' b' : Nat) : Prop := (b : Int) - a = (b' : Int) - a' ∧ ∀ k : Nat, a + k < b → f (K1.getD (a + k) 0) = f (K2.getD (a' + k) 0)
variable {s1 s2 : Sx} {i1 i2 a b a' b' : Nat}
theorem PtO.q {l : List Int32} {a : Nat} (h : PtO l a) : Qv l (a + 1) ≠ 10 := by
  obtain ⟨_, h⟩ := h
  unfold Qv
  unfold Pv at h
  by_cases c : a = 0
  · rw [if_pos (by omega)]; decide
  · rw [if_neg c] at h
    rw [if_neg (by omega), show a + 1 - 2 = a - 1 by omega]
    intro e
    rw [e] at h
    exact absurd h (by decide)
theorem AL.wm_id (h1 : TkO s1 i1) (h2 : TkO s2 i2) (ha : PtO (s1.1 0) a) (ha' : PtO (s2.1 0) a') (hb : b ≤ i1) (hb' : b' ≤ i2) : AL wm (s1.1 0) (s2.1 0) a b a' b' ↔ AL (fun x => x) (s1.1 0) (s2.1 0) a b a' b' := by
  constructor
  · intro ⟨g1, g2⟩
    refine ⟨g1, fun k => ?_⟩
    induction k using Nat.strongRecOn with
    | ind k ih =>
      intro hk
      have L1 := h1.1 (a + k) (by omega)
      have L2 := h2.1 (a' + k) (by omega)
      have hw := g2 k hk
      show (s1.1 0).getD (a + k) 0 = (s2.1 0).getD (a' + k) 0
      unfold Loc at L1 L2
      cases k with
      | zero =>
        rw [Nat.add_zero] at L1 L2 hw ⊢
        rw [Nat.add_zero] at hw ⊢
        have n1 := ha.1
        have n2 := ha'.1
        rcases wm_inj L1.1 L2.1 hw with e | ⟨e, f⟩ | ⟨e, f⟩ | ⟨e, f⟩ | ⟨e, f⟩ | ⟨e, f⟩ | ⟨e, f⟩
        · exact e
        · exact absurd (Or.inl e) n1
        · exact absurd (Or.inr (Or.inl e)) n1
        · exact absurd (Or.inr (Or.inr (Or.inl e))) n1
        · exact absurd (Or.inr (Or.inr (Or.inl f))) n2
        · exact absurd (Or.inr (Or.inr (Or.inr (Or.inl e)))) n1
        · exact absurd (Or.inr (Or.inr (Or.inr (Or.inr e)))) n1
      | succ k =>
        have ep : Pv (s1.1 0) (a + (k + 1)) = Pv (s2.1 0) (a' + (k + 1)) := by
          unfold Pv
          rw [if_neg (by omega), if_neg (by omega)]
          have := ih k (by omega) (by omega)
          exact this
        have eq : Qv (s1.1 0) (a + (k + 1)) = 10 ↔ Qv (s2.1 0) (a' + (k + 1)) = 10 := by
          cases k with
          | zero => exact ⟨fun x => absurd x ha.q, fun x => absurd x ha'.q⟩
          | succ k =>
            have e : Qv (s1.1 0) (a + (k + 1 + 1)) = Qv (s2.1 0) (a' + (k + 1 + 1)) := by
              unfold Qv
              rw [if_neg (by omega), if_neg (by omega)]
              exact ih k (by omega) (by omega)
            rw [e]
        rw [ep] at L1
        exact loc_inj L1 L2 eq hw
  · intro ⟨g1, g2⟩
    exact ⟨g1, fun k hk => congrArg wm (g2 k hk)⟩
end ALX
