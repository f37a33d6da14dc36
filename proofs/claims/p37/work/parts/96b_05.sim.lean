/-! how a drawn program is read: the automaton's way, token by token -/
section SIMD
variable {s s' : Sx} {a e L np : Nat} {op bl : List Ae} {rest r : List KV} {st : Int32}
theorem acc_opr : au_acc (s, 4, op, bl) = au_opr s op bl := by
  rw [au_acc_n (by decide)]
  unfold au_acc0
  rw [if_neg (by decide), if_neg (by decide), if_neg (by decide), if_pos rfl]
/-- a mark with two operands -/
theorem mark_go {ms B : List Ae} {b : Ae} {mk v : Int32} (h : Q1 s a e L ((mk, v) :: r)) (hk : mkK mk) (hM : Ms s a ms) (hb : Bt b) : ∃ s' ms', GoA (s, 4, ms ++ b :: B, bl) (s', 2, ms' ++ b :: B, bl) ∧ Q1 s' (a + 1) e L r ∧ Ms s' (a + 1) ms' ∧ Ow s s' ∧ Z0 s s' a := by
  obtain ⟨j, j1, j2, rfl⟩ := hk
  obtain ⟨f1, f2, f3, f4, f5, f6, f7⟩ := mkK_f j j2 j1
  have hko := h.hd.1
  obtain ⟨ms', s', g1, g2, g3, g4, g5, _⟩ := fl_go (lv := lvK (nI j)) f2 hb (B := B) ms s hM h
  have h2 : s.2 2 = nI a := h.hd.2.2.1
  have hka : (s'.1 0).getD a 0 = nI j := g3.hd.2.2.2.1
  have acc : au_acc (s, 4, ms ++ b :: B, bl) = au_opr s (ms ++ b :: B) bl := acc_opr
  unfold au_opr at acc
  rw [hko, if_pos f1, g1] at acc
  by_cases c : nI j = 23 ∨ nI j = 24
  · rw [if_pos c] at acc
    refine ⟨_, _ :: ms', GoA.one acc, ?_, ?_, ?_, ?_⟩
    · exact (g3.nx f6 (fun z => absurd z f7)).cd
    · intro x hx
      rcases List.mem_cons.1 hx with z | z
      · subst z
        exact ⟨f2, f3, f4, f5, fun _ => ⟨a, h2, by omega, hka⟩⟩
      · exact (g2 x z).up (fun _ _ => rfl) (by omega)
    · exact (g4.tr Ow.nx).tr Ow.cd
    · exact g5
  · rw [if_neg c] at acc
    refine ⟨_, _ :: ms', GoA.one acc, ?_, ?_, ?_, ?_⟩
    · exact g3.nx f6 (fun z => absurd z f7)
    · intro x hx
      rcases List.mem_cons.1 hx with z | z
      · subst z
        exact ⟨f2, f3, f4, f5, fun z => absurd z c⟩
      · exact (g2 x z).up (fun _ _ => rfl) (by omega)
    · exact g4.tr Ow.nx
    · exact g5
theorem val_go {B : List Ae} {b : Ae} (hb : Bt b) (hL : L < 8) : ∀ (n : Nat) (s : Sx) (a : Nat) (rest : List KV) (ms : List Ae) (st : Int32), Q1 s a e L rest → VlT n rest r → st = 2 ∨ st = 3 → N8 (s.1 13) → N8 (s.1 14) → Ms s a ms → ∃ s' a' ms', GoA (s, st, ms ++ b :: B, bl) (s', 4, ms' ++ b :: B, bl) ∧ Q1 s' a' e L r ∧ Ms s' a' ms' ∧ Ow s s' ∧ Z0 s s' a ∧ a < a' := by
  intro n
  induction n with
  | zero =>
    intro s a rest ms st h hV hst h13 h14 hM
    obtain ⟨s', a', g1, g2, g3, g4, g5⟩ := opd_go (B := B) (bl := bl) h hV hst h13 h14 hL hM hb
    exact ⟨s', a', ms, g1, g2, hM.up g4 (by omega), g3, g4, g5⟩
  | succ n ih =>
    intro s a rest ms st h hV hst h13 h14 hM
    obtain ⟨mk, v, r1, hO, hk, hV'⟩ := hV
    obtain ⟨s1, a1, g1, g2, g3, g4, g5⟩ := opd_go (B := B) (bl := bl) h hO hst h13 h14 hL hM hb
    obtain ⟨s2, ms2, k1, k2, k3, k4, k5⟩ := mark_go (B := B) (bl := bl) g2 hk (hM.up g4 (by omega)) hb
    have o2 := g3.tr k4
    obtain ⟨s3, a3, ms3, l1, l2, l3, l4, l5, l6⟩ := ih s2 (a1 + 1) r1 ms2 2 k2 hV' (Or.inl rfl) (o2.2.1 h13) (o2.2.2.1 h14) k3
    exact ⟨s3, a3, ms3, (g1.tr k1).tr l1, l2, l3, o2.tr l4, (g4.tr k5 (by omega)).tr l5 (by omega), by omega⟩
end SIMD
