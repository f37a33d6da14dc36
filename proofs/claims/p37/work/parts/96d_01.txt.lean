/-! how a drawn program is read: its head, all of it -/
section TXTD
variable {s s' : Sx} {a e L np : Nat} {op bl : List Ae} {rest r : List KV} {st : Int32} {tx : List Int32}
/-- its body, and } -/
def Bd (n : Nat) (rest r : List KV) : Prop := n = 1 ∧ Sm1 rest r ∨ n = 2 ∧ Sm2 rest r
theorem hdr_go {v0 v2 v4 v5 v6 : Int32} {n : Nat} (h : Q1 s 0 e 0 ((10, v0) :: (4, 0) :: (28, v2) :: (4, nI 1) :: (29, v4) :: (30, v5) :: rest)) (h5 : s.1 5 = []) (h9 : s.1 9 = []) (h10 : s.1 10 = []) (h13 : s.1 13 = []) (h15 : s.1 15 = []) (h16 : s.1 16 = []) (h17 : s.1 17 = [])
    (hB : Bd n rest ((31, v6) :: r)) : ∃ s' a', GoA (s, 0, [], []) (s', 0, [], []) ∧ Q1 s' a' e 0 r ∧ SB s' a' (n + 1) ∧ 3 * (n + 1) ≤ a' ∧ s'.2 5 = 0 := by
  obtain ⟨s1, bb, g1, g2, g3, g4, g5, g6, g7, g8⟩ := def_go h h5 h9 h10 h13 h15 h16 h17
  have key : ∃ s2 a2, GoA (s1, 0, [], [bb]) (s2, 0, [], [bb]) ∧ Q1 s2 a2 e 1 ((31, v6) :: r) ∧ SB s2 a2 (n + 1) ∧ Z0 s1 s2 6 ∧ 6 + 3 * n ≤ a2 := by
    rcases hB with ⟨e1, hS⟩ | ⟨e1, hS⟩
    · subst e1
      obtain ⟨s2, a2, k1, k2, k3, k4, k5, _⟩ := sm1_go (bl := [bb]) g2 hS g3 (by decide) (by decide)
      exact ⟨s2, a2, k1, k2, k3, k4, by omega⟩
    · subst e1
      obtain ⟨s2, a2, k1, k2, k3, k4, k5, _⟩ := sm2_go (bl := [bb]) g2 hS rfl (by decide) g3 (by decide) (by decide)
      exact ⟨s2, a2, k1, k2, k3, k4, by omega⟩
  obtain ⟨s2, a2, k1, k2, k3, k4, k5⟩ := key
  obtain ⟨p1, p2, p3⟩ := clb_go (b := bb) k2 g6 (by omega) ((k4 5 (by decide)).trans g8)
  have acc : au_acc (s2, 0, [], [bb]) = .inl (au_cls s2 bb []) := by
    rw [acc_0]
    unfold au_s0
    rw [if_pos k2.hd.1]
  unfold au_cls at acc
  rw [if_neg (by rw [g4]; decide), if_neg (by rw [g4]; decide), if_neg (by rw [g4]; decide), g5] at acc
  obtain ⟨s3, hs3⟩ : ∃ s3, s3 = sV (au_clb bb s2) 5 0 := ⟨_, rfl⟩
  rw [← hs3] at acc
  have q3 : Q1 s3 (a2 + 1) e 0 r := by
    rw [hs3]
    exact ⟨p1.1.s5 (Or.inl rfl), p1.2.1, p1.2.2⟩
  have c3 : SB s3 (a2 + 1) (n + 1) := by
    have := k3.ow p2 p3 (by omega : a2 ≤ a2 + 1)
    rw [hs3]
    exact this
  have t0 : (s3.1 0).getD 0 0 = 10 := by
    rw [hs3]
    exact (p3 0 (by omega)).trans ((k4 0 (by decide)).trans g7)
  have q4 : Q1 (au_pt bb.2.2.1 (au_cd 16 0 (au_cd 1 0 s3))) (a2 + 1) e 0 r := q3.cd.cd.pt
  have q5 := (q4.sv (t := 0) (x := s2.2 2 + 1) (by omega) (by show (s3.1 0).getD 0 0 ≠ 35; rw [t0]; decide)).ep (x := bb.2.1)
  refine ⟨_, a2 + 1, g1.tr (k1.tr (GoA.one acc)), q5, ?_, by omega, ?_⟩
  · exact ((((c3.ow Ow.cd Z0.rr (Nat.le_refl _)).ow Ow.cd Z0.rr (Nat.le_refl _)).ow Ow.pt Z0.rr (Nat.le_refl _)).ow Ow.sv Z0.rr (Nat.le_refl _)).ow Ow.ep Z0.rr (Nat.le_refl _)
  · show s3.2 5 = 0
    rw [hs3]; rfl
end TXTD
