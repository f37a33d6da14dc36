/-! how a drawn program is read: statements -/
section STMD
variable {s s' : Sx} {a e L np : Nat} {op bl : List Ae} {rest r : List KV} {st : Int32}
/-- the calls so far -/
theorem sm1_go (h : Q1 s a e L rest) (hT : Sm1 rest r) (hC : SB s a np) (hnp : np < 150) (hL : L < 7) : ∃ s' a', GoA (s, 0, [], bl) (s', 0, [], bl) ∧ Q1 s' a' e L r ∧ SB s' a' (np + 1) ∧ Z0 s s' a ∧ a + 3 ≤ a' ∧ s'.2 5 = s.2 5 := by
  rcases hT with ⟨q, v, r1, n, w, hq, rfl, hV⟩ | ⟨v, r1, n, w, rfl, hV⟩ | ⟨v, u, t, r1, n, w, rfl, hV⟩ | ⟨v, r1, n, w, u, rfl, hV⟩
  · exact asg_go h hq hV hC hnp (by omega)
  · exact out_go h hV hC hnp (by omega)
  · exact cel_go h hV hC hnp hL
  · exact call_go h hV hC hnp hL
end STMD
