/-! a run with less fuel: it is the same run, up to where its fuel is out -/
section FUE
theorem p_7010 {s : Sx} (h : s.2 10 = -1) : POne f_7010 s := by
  have e0 : f_7010 (fu s 0) = (fu (sV s 10 1) 0, 0) := by
    unfold f_7010
    rw [fu_take0 h, bT_eq, if_pos rfl]
  have go : ∀ f, f < 6000 → f_7010 (fu s (f + 1)) = if (s.2 9 + 1) ≤ 2 then (if s.2 9 + 1 = 1 then (fu (sV s 9 (s.2 9 + 1)) f, s.2 7) else (fu (sV s 9 (s.2 9 + 1)) f, s.2 8)) else (fu (f_7008 5 (sV s 9 (s.2 9 + 1))) f, 0) := fun f hf => by
    unfold f_7010
    rw [fu_take h hf, bT_eq, if_neg (by decide), fu_V (by decide), fu_2 (w := 9) (by decide), bS_eq, bS_eq, fu_7008]
    rfl
  by_cases c1 : s.2 9 + 1 ≤ 2
  · by_cases c2 : s.2 9 + 1 = 1
    · exact ⟨sV s 9 (s.2 9 + 1), s.2 7, fun f hf => by rw [go f hf, if_pos c1, if_pos c2], rfl, e0⟩
    · exact ⟨sV s 9 (s.2 9 + 1), s.2 8, fun f hf => by rw [go f hf, if_pos c1, if_neg c2], rfl, e0⟩
  · exact ⟨f_7008 5 (sV s 9 (s.2 9 + 1)), 0, fun f hf => by rw [go f hf, if_neg c1], by rw [o_7008]; rfl, e0⟩
end FUE
