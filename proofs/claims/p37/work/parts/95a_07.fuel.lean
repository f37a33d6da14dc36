/-! a run with less fuel: it is the same run, up to where its fuel is out -/
section FUE
theorem L37_s {n : Nat} {a b c l : Int32} {s : Sx} (h1 : ¬ 1000000 ≤ l) (h2 : s.2 10 = -1) : f_3001_L37 (n + 1) a b c l s = bOv (stp1 s) (fun z => f_3001_L37 n a b c (l + 1) z) := by
  have h3 : ¬ f_7002 s = 0 := by unfold f_7002; rw [if_pos h2]; decide
  rw [f_3001_L37, if_neg h1, if_neg h3, bS_eq]
  unfold stp1
  by_cases q : 11 ≤ f_4007 (s.2 11) s
  · rw [if_pos q, if_pos q]
  · rw [if_neg q, if_neg q, bS_eq]
    rfl
theorem L37_e {n : Nat} {a b c l : Int32} {s : Sx} (h : 1000000 ≤ l ∨ s.2 10 ≠ -1) : f_3001_L37 (n + 1) a b c l s = some s := by
  rw [f_3001_L37]
  by_cases h1 : 1000000 ≤ l
  · rw [if_pos h1]
  · rw [if_neg h1, if_pos (by unfold f_7002; rw [if_neg (h.resolve_left h1)])]
theorem stp1_f {s : Sx} (h : s.2 10 = -1) : FNo stp1 s ∨ FOne stp1 s := by
  have e : ∀ f, stp1 (fu s f) = if 11 ≤ f_4007 (s.2 11) s then f_3003 (f_4007 (s.2 11) s) (f_4008 (s.2 11) s) (fu (sV s 11 (s.2 11 + 1)) f) else some (f_3002 (f_4007 (s.2 11) s) (f_4008 (s.2 11) s) (fu (sV s 11 (s.2 11 + 1)) f)) := fun f => by
    unfold stp1
    rw [fu_2 (w := 11) (by decide), fu_V (by decide)]
    rfl
  have hs : (sV s 11 (s.2 11 + 1)).2 10 = -1 := h
  by_cases c : 11 ≤ f_4007 (s.2 11) s
  · rcases st_3003 (c := f_4007 (s.2 11) s) (x := f_4008 (s.2 11) s) hs with ⟨H, g1, g2⟩ | ⟨H, g1, g2, Z, g3, g4⟩
    · exact Or.inl ⟨H, fun f hf => by rw [e, if_pos c]; exact g1 f hf, g2⟩
    · exact Or.inr ⟨H, fun f hf => by rw [e, if_pos c]; exact g1 f hf, g2, Z, by rw [e, if_pos c]; exact g3, g4⟩
  · rcases st_3002 (c := f_4007 (s.2 11) s) (x := f_4008 (s.2 11) s) hs with ⟨H, g1, g2⟩ | ⟨H, g1, g2, Z, g3, g4⟩
    · exact Or.inl ⟨H, fun f hf => by rw [e, if_neg c]; exact g1 f hf, g2⟩
    · exact Or.inr ⟨H, fun f hf => by rw [e, if_neg c]; exact g1 f hf, g2, Z, by rw [e, if_neg c]; exact g3, g4⟩
/-- two runs side by side, d of the fuel apart -/
theorem fu_sim (x y a a' : Int32) : ∀ (n : Nat) (l : Int32) (s : Sx) (f d : Nat) (r : Sx), f + d < 6000 → f_3001_L37 n a x y l (fu s (f + d)) = some r →
    (∃ r0 f', r = fu r0 (f' + d) ∧ f' ≤ f ∧ f_3001_L37 n a' x y l (fu s f) = some (fu r0 f') ∧ s.1 18 <+: r0.1 18) ∨
    (∃ r0 g, r = fu r0 g ∧ g < d ∧ s.1 18 <+: r0.1 18 ∧ ∃ Z, f_3001_L37 n a' x y l (fu s f) = some Z ∧ Z.2 10 = 1 ∧ Z.2 6 = 0 ∧ Z.1 18 <+: r0.1 18) := by
  intro n
  induction n with
  | zero => intro l s f d r hd h; cases h
  | succ n ih =>
    intro l s f d r hd h
    by_cases hl : 1000000 ≤ l ∨ s.2 10 ≠ -1
    · rw [L37_e (s := fu s (f + d)) (by rw [fu_2 (by decide)]; exact hl)] at h
      cases h
      exact Or.inl ⟨s, f, rfl, Nat.le_refl _, L37_e (s := fu s f) (by rw [fu_2 (by decide)]; exact hl), pf_r⟩
    · have h1 : ¬ 1000000 ≤ l := fun q => hl (Or.inl q)
      have h2 : s.2 10 = -1 := by
        by_cases q : s.2 10 = -1
        · exact q
        · exact absurd (Or.inr q) hl
      have h3 : ∀ g, (fu s g).2 10 = -1 := fun g => (fu_2 (by decide)).trans h2
      rw [L37_s h1 (h3 _)] at h
      rw [L37_s h1 (h3 _)]
      rcases stp1_f h2 with ⟨H, g1, g2⟩ | ⟨H, g1, g2, Z, g3, g4, g5, g6⟩
      · rw [g1 _ hd] at h
        rw [g1 f (by omega)]
        cases H with
        | none => cases h
        | some q =>
          have p0 := g2 q rfl
          rcases ih (l + 1) q f d r hd h with ⟨r0, f', e1, e2, e3, e4⟩ | ⟨r0, g, e1, e2, e3, Z, e4, e5, e6, e7⟩
          · exact Or.inl ⟨r0, f', e1, e2, e3, p0.trans e4⟩
          · exact Or.inr ⟨r0, g, e1, e2, p0.trans e3, Z, e4, e5, e6, e7⟩
      · have zend : ∀ b : Int32, n ≠ 0 → f_3001_L37 n b x y (l + 1) Z = some Z := fun b hn => by
          obtain ⟨n, rfl⟩ : ∃ k, n = k + 1 := ⟨n - 1, by omega⟩
          exact L37_e (Or.inr (by rw [g4]; decide))
        have hn0 : n ≠ 0 := by
          intro e
          subst e
          cases hq : stp1 (fu s (f + d)) with
          | none => rw [hq] at h; cases h
          | some q => rw [hq] at h; cases h
        cases hfd : f + d with
        | zero =>
          have ef : f = 0 := by omega
          have ed : d = 0 := by omega
          subst ef
          subst ed
          rw [show (0 : Nat) + 0 = 0 from rfl, g3, bOv_some, zend a hn0] at h
          have hr : r = Z := (Option.some.inj h).symm
          refine Or.inl ⟨Z, 0, hr.trans (fu_id (f := 0) g5).symm, Nat.le_refl _, ?_, pf_e g6.symm⟩
          rw [g3, bOv_some, zend a' hn0, fu_id (f := 0) g5]
        | succ k =>
          rw [hfd, g1 k (by omega)] at h
          cases H with
          | none => cases h
          | some q =>
            have p0 := g2 q rfl
            cases f with
            | succ f0 =>
              rw [g1 f0 (by omega)]
              have hk : k = f0 + d := by omega
              rw [hk] at h
              rcases ih (l + 1) q f0 d r (by omega) h with ⟨r0, f', e1, e2, e3, e4⟩ | ⟨r0, g, e1, e2, e3, Z, e4, e5, e6, e7⟩
              · exact Or.inl ⟨r0, f', e1, by omega, e3, p0.trans e4⟩
              · exact Or.inr ⟨r0, g, e1, e2, p0.trans e3, Z, e4, e5, e6, e7⟩
            | zero =>
              rw [g3, bOv_some, zend a' hn0]
              rcases ih (l + 1) q k 0 r (by omega) h with ⟨r0, f', e1, e2, e3, e4⟩ | ⟨r0, g, e1, e2, e3, _⟩
              · exact Or.inr ⟨r0, f', e1, by omega, p0.trans e4, Z, rfl, g4, g5, by rw [g6]; exact p0.trans e4⟩
              · omega
end FUE
