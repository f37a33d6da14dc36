/-! a run with less fuel: it is the same run, up to where its fuel is out -/
section FUE
theorem fu_3004 {s : Sx} {f : Nat} {a b : Int32} : f_3004 a b (fu s f) = fu (f_3004 a b s) f := by
  have j34 : ∀ (s : Sx) (l3 k : Int32), f_3004_J34 a b l3 k (fu s f) = fu (f_3004_J34 a b l3 k s) f := fun s l3 k => by
    unfold f_3004_J34
    rw [bS_eq, bS_eq, bS_eq, bS_eq, fu_B, fu_V (by decide)]
    rfl
  have j15 : ∀ (s : Sx) (k : Int32), f_3004_J15 a b k (fu s f) = fu (f_3004_J15 a b k s) f := fun s k => by
    unfold f_3004_J15
    by_cases c : k = a
    · rw [if_pos c, if_pos c]
      by_cases c2 : k = 0
      · rw [if_pos c2, if_pos c2, j34]
      · rw [if_neg c2, if_neg c2, j34]
    · rw [if_neg c, if_neg c]
  unfold f_3004
  rw [bT_eq, bT_eq]
  show (if xlast (s.1 22) = 0 then _ else _) = _
  by_cases c : xlast (s.1 22) = 0
  · rw [if_pos c, if_pos c]
    exact j15 (sB s 22 (s.1 22).dropLast) 0
  · rw [if_neg c, if_neg c]
    exact j15 (sB s 22 (s.1 22).dropLast) 1
end FUE
