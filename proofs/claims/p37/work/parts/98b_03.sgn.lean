/-! the law: it writes signs, and drawn statements -/
section SGN
variable {x : Nat} {T T' : Tx} {m m0 m' : Mx} {tx : List Int32} {v : Int64}
/-- the school, with its text -/
theorem vlu (h : Wt x m0 T tx) (v : Int32) (hl : tx.length + 13 ≤ 300) : ∃ T' w, h_13031 x v T = some (T', 1) ∧ Wt x m0 T' (tx ++ w) ∧ w.length ≤ 13 ∧ VAd w := by
  obtain ⟨T1, w, e1, h1, w1, w2⟩ := opr h (v >>> (3 &&& 31)) (by omega)
  obtain ⟨M, hM, eM⟩ := low_n v (n := 3) (by decide) (by decide) T1
  obtain ⟨T', w', g1, g2⟩ := vl_L17 v hM M 10 0 24 144 T1 w (by omega) (by omega) h1 (va_0 w2) (by omega) hl (by omega) (by omega)
  refine ⟨T', w', ?_, g2⟩
  unfold h_13031
  rw [e1, bO_some, show (3 : Int32) = nI 3 from rfl] 
  show bP (h_13001 v (nI 3) T1) _ = _
  rw [eM, bP_some]
  exact g1
/-- a statement is drawn -/
theorem st_J346 (h : Wt x m0 T tx) (a b : Int32) {k : Nat} (hk : k = 7 ∨ k = 8) (hl : tx.length + 33 ≤ 300) {bc bs : Nat} (hb : 76 ≤ bc ∧ 456 ≤ bs) : ∃ T' w v, h_13032_J346 x a b (nI k) 1 1 bc bs T = some (T', 2) ∧ Wt x m0 T' (tx ++ ([32] ++ (w ++ ([123] ++ (([98] ++ ([61] ++ (v ++ [59]))) ++ [125]))))) ∧ w.length ≤ 13 ∧ v.length ≤ 13 ∧ VAd w ∧ VAd v := by
  obtain ⟨T1, e1, h1⟩ := sg h 32 (by decide) (by omega)
  obtain ⟨T2, w, e2, h2, w1, w2⟩ := vlu h1 b (by rw [List.length_append]; show _ + 1 + 13 ≤ _; omega)
  have l2 : (tx ++ [32] ++ w).length ≤ tx.length + 14 := by rw [List.length_append, List.length_append]; show _ + 1 + _ ≤ _; omega
  obtain ⟨T3, e3, h3⟩ := sg h2 123 (by decide) (by omega)
  obtain ⟨T4, e4, h4⟩ := sg h3 98 (by decide) (by rw [List.length_append]; show _ + 1 < _; omega)
  obtain ⟨T5, e5, h5⟩ := sg h4 61 (by decide) (by rw [List.length_append, List.length_append]; show _ + 1 + 1 < _; omega)
  obtain ⟨T6, v, e6, h6, v1, v2⟩ := vlu h5 (b >>> (3 &&& 31)) (by rw [List.length_append, List.length_append, List.length_append]; show _ + 1 + 1 + 1 + 13 ≤ _; omega)
  have l6 : (tx ++ [32] ++ w ++ [123] ++ [98] ++ [61] ++ v).length ≤ tx.length + 30 := by rw [List.length_append, List.length_append, List.length_append, List.length_append]; show _ + 1 + 1 + 1 + _ ≤ _; omega
  obtain ⟨T7, e7, h7⟩ := sg h6 59 (by decide) (by omega)
  obtain ⟨T8, e8, h8⟩ := sg h7 125 (by decide) (by rw [List.length_append]; show _ + 1 < _; omega)
  refine ⟨T8, w, v, ?_, ?_, w1, v1, w2, v2⟩
  · have h7' : (7 : Int32) ≤ nI k := (nI_leI (a := 7) (by omega) (by omega)).2 (by omega)
    unfold h_13032_J346 h_13032_J430 h_13032_J432
    rw [if_neg one_0, gd_e ⟨by omega, by omega⟩, e1, bO_some, if_neg one_0, gd_e ⟨by omega, by omega⟩, e2, bO_some, if_neg one_0, gd_e ⟨by omega, by omega⟩, e3, bO_some, if_neg one_0, gd_e ⟨by omega, by omega⟩, e4, bO_some, if_neg one_0, gd_e ⟨by omega, by omega⟩, e5, bO_some, if_neg one_0, gd_e ⟨by omega, by omega⟩, e6, bO_some, if_neg one_0, gd_e ⟨by omega, by omega⟩, e7, bO_some, if_neg one_0, gd_e ⟨by omega, by omega⟩, e8, bO_some, if_neg one_0, if_neg one_0, if_pos h7']
  · simp only [List.append_assoc] at h8 ⊢
    exact h8
theorem stm (h : Wt x m0 T tx) (a b : Int32) (hl : tx.length + 38 ≤ 300) : ∃ T' w k, h_13032 x a b T = some (T', nI k) ∧ (k = 1 ∨ k = 2) ∧ Wt x m0 T' (tx ++ w) ∧ (2 ≤ w.length ∧ w.length ≤ 38) ∧ STd w k := by
  obtain ⟨k, hk, ek⟩ := low_n a (n := 9) (by decide) (by decide) T
  have ek' : h_13001 a 9 T = some (nI k) := ek
  have ln : ∀ {a b : Nat}, a < 1000 → b < 1000 → (nI a ≤ nI b ↔ a ≤ b) := fun h1 h2 => nI_leI (by omega) (by omega)
  by_cases c3 : 3 ≤ k
  · have n3 : (3 : Int32) ≤ nI k := (ln (a := 3) (by omega) (by omega)).2 c3
    by_cases c5 : 5 ≤ k
    · have n5 : (5 : Int32) ≤ nI k := (ln (a := 5) (by omega) (by omega)).2 c5
      have hc : k = 5 ∨ k = 6 ∨ k = 7 ∨ k = 8 := by omega
      rcases hc with rfl | rfl | rfl | rfl
      · obtain ⟨T1, e1, h1⟩ := sg h 35 (by decide) (by omega)
        obtain ⟨i, hi, ei⟩ := low_n (a >>> (4 &&& 31)) (n := 10) (by decide) (by decide) T1
        obtain ⟨b1, b2⟩ := dg_b hi
        obtain ⟨T2, e2, h2⟩ := sg h1 (48 + nI i) b1 (by rw [List.length_append]; show _ + 1 < _; omega)
        obtain ⟨T3, e3, h3⟩ := sg h2 61 (by decide) (by rw [List.length_append, List.length_append]; show _ + 1 + 1 < _; omega)
        obtain ⟨T4, w, e4, h4, w1, w2⟩ := vlu h3 b (by rw [List.length_append, List.length_append, List.length_append]; show _ + 1 + 1 + 1 + 13 ≤ _; omega)
        have l4 : (tx ++ [35] ++ [48 + nI i] ++ [61] ++ w).length ≤ tx.length + 16 := by rw [List.length_append, List.length_append, List.length_append, List.length_append]; show _ + 1 + 1 + 1 + _ ≤ _; omega
        obtain ⟨T5, e5, h5⟩ := sg h4 59 (by decide) (by omega)
        refine ⟨T5, [35] ++ ([dgt i] ++ ([61] ++ (w ++ [59]))), 1, ?_, Or.inl rfl, ?_, ?_, st_cel hi w2⟩
        · unfold h_13032 h_13032_J199 h_13032_J432
          rw [ek', bP_some, if_pos n3, if_pos n5, if_pos (show nI 5 = 5 from rfl), e1, bO_some, if_neg one_0, show (10 : Int32) = nI 10 from rfl, ei, bP_some, e2, bO_some, if_neg one_0, e3, bO_some, if_neg one_0, e4, bO_some, if_neg one_0, e5, bO_some, if_neg one_0, if_neg one_0, if_neg (by decide)]
          rfl
        · rw [b2] at h5
          simp only [List.append_assoc] at h5 ⊢
          exact h5
        · simp only [List.length_append, List.length_cons, List.length_nil]; omega
      · obtain ⟨T1, e1, h1⟩ := sg h 102 (by decide) (by omega)
        obtain ⟨T2, e2, h2⟩ := sg h1 40 (by decide) (by rw [List.length_append]; show _ + 1 < _; omega)
        obtain ⟨T4, w, e4, h4, w1, w2⟩ := vlu h2 b (by rw [List.length_append, List.length_append]; show _ + 1 + 1 + 13 ≤ _; omega)
        have l4 : (tx ++ [102] ++ [40] ++ w).length ≤ tx.length + 15 := by rw [List.length_append, List.length_append, List.length_append]; show _ + 1 + 1 + _ ≤ _; omega
        obtain ⟨T5, e5, h5⟩ := sg h4 41 (by decide) (by omega)
        obtain ⟨T6, e6, h6⟩ := sg h5 59 (by decide) (by rw [List.length_append]; show _ + 1 < _; omega)
        refine ⟨T6, [102] ++ ([40] ++ (w ++ ([41] ++ [59]))), 1, ?_, Or.inl rfl, ?_, ?_, st_call w2⟩
        · unfold h_13032 h_13032_J259 h_13032_J432
          rw [ek', bP_some, if_pos n3, if_pos n5, if_neg (show ¬ nI 6 = 5 by decide), if_pos (show nI 6 = 6 from rfl), e1, bO_some, if_neg one_0, e2, bO_some, if_neg one_0, e4, bO_some, if_neg one_0, e5, bO_some, if_neg one_0, e6, bO_some, if_neg one_0, if_neg one_0, if_neg (by decide)]
          rfl
        · simp only [List.append_assoc] at h6 ⊢
          exact h6
        · simp only [List.length_append, List.length_cons, List.length_nil]; omega
      · obtain ⟨T1, e1, h1⟩ := sg h 105 (by decide) (by omega)
        obtain ⟨T2, e2, h2⟩ := sg h1 102 (by decide) (by rw [List.length_append]; show _ + 1 < _; omega)
        obtain ⟨T3, w, v, e3, h3, w1, v1, w2, v2⟩ := st_J346 h2 a b (k := 7) (Or.inl rfl) (by rw [List.length_append, List.length_append]; show _ + 1 + 1 + 33 ≤ _; omega) (bc := 92) (bs := 552) ⟨by decide, by decide⟩
        refine ⟨T3, (105 :: [102]) ++ ([32] ++ (w ++ ([123] ++ (([98] ++ ([61] ++ (v ++ [59]))) ++ [125])))), 2, ?_, Or.inr rfl, ?_, ?_, st_blk (by decide) (by decide) w2 v2⟩
        · unfold h_13032
          rw [ek', bP_some, if_pos n3, if_pos n5, if_neg (show ¬ nI 7 = 5 by decide), if_neg (show ¬ nI 7 = 6 by decide), if_pos (show nI 7 = 7 from rfl), e1, bO_some, if_neg one_0, e2, bO_some, if_neg one_0]
          exact e3
        · rw [List.append_assoc tx [105] [102], List.append_assoc tx] at h3
          exact h3
        · simp only [List.length_append, List.length_cons, List.length_nil]; omega
      · obtain ⟨T1, e1, h1⟩ := sg h 119 (by decide) (by omega)
        obtain ⟨T2, e2, h2⟩ := sg h1 104 (by decide) (by rw [List.length_append]; show _ + 1 < _; omega)
        obtain ⟨T3, e3, h3⟩ := sg h2 105 (by decide) (by rw [List.length_append, List.length_append]; show _ + 1 + 1 < _; omega)
        obtain ⟨T4, e4, h4⟩ := sg h3 108 (by decide) (by rw [List.length_append, List.length_append, List.length_append]; show _ + 1 + 1 + 1 < _; omega)
        obtain ⟨T5, e5, h5⟩ := sg h4 101 (by decide) (by rw [List.length_append, List.length_append, List.length_append, List.length_append]; show _ + 1 + 1 + 1 + 1 < _; omega)
        obtain ⟨T6, w, v, e6, h6, w1, v1, w2, v2⟩ := st_J346 h5 a b (k := 8) (Or.inr rfl) (by rw [List.length_append, List.length_append, List.length_append, List.length_append, List.length_append]; show _ + 1 + 1 + 1 + 1 + 1 + 33 ≤ _; omega) (bc := 86) (bs := 516) ⟨by decide, by decide⟩
        refine ⟨T6, (119 :: [104, 105, 108, 101]) ++ ([32] ++ (w ++ ([123] ++ (([98] ++ ([61] ++ (v ++ [59]))) ++ [125])))), 2, ?_, Or.inr rfl, ?_, ?_, st_blk (by decide) (by decide) w2 v2⟩
        · unfold h_13032
          rw [ek', bP_some, if_pos n3, if_pos n5, if_neg (show ¬ nI 8 = 5 by decide), if_neg (show ¬ nI 8 = 6 by decide), if_neg (show ¬ nI 8 = 7 by decide), e1, bO_some, if_neg one_0, e2, bO_some, if_neg one_0, e3, bO_some, if_neg one_0, e4, bO_some, if_neg one_0, e5, bO_some, if_neg one_0]
          exact e6
        · rw [List.append_assoc (tx ++ [119] ++ [104] ++ [105]) [108] [101], List.append_assoc (tx ++ [119] ++ [104]), List.append_assoc (tx ++ [119]), List.append_assoc tx [119], List.append_assoc tx] at h6
          exact h6
        · simp only [List.length_append, List.length_cons, List.length_nil]; omega
    · have n5 : ¬ (5 : Int32) ≤ nI k := fun z => c5 ((ln (a := 5) (by omega) (by omega)).1 z)
      obtain ⟨T1, e1, h1⟩ := sg h 111 (by decide) (by omega)
      obtain ⟨T2, e2, h2⟩ := sg h1 117 (by decide) (by rw [List.length_append]; show _ + 1 < _; omega)
      obtain ⟨T3, e3, h3⟩ := sg h2 116 (by decide) (by rw [List.length_append, List.length_append]; show _ + 1 + 1 < _; omega)
      obtain ⟨T4, e4, h4⟩ := sg h3 32 (by decide) (by rw [List.length_append, List.length_append, List.length_append]; show _ + 1 + 1 + 1 < _; omega)
      obtain ⟨T5, w, e5, h5, w1, w2⟩ := vlu h4 b (by rw [List.length_append, List.length_append, List.length_append, List.length_append]; show _ + 1 + 1 + 1 + 1 + 13 ≤ _; omega)
      have l5 : (tx ++ [111] ++ [117] ++ [116] ++ [32] ++ w).length ≤ tx.length + 17 := by rw [List.length_append, List.length_append, List.length_append, List.length_append, List.length_append]; show _ + 1 + 1 + 1 + 1 + _ ≤ _; omega
      obtain ⟨T6, e6, h6⟩ := sg h5 59 (by decide) (by omega)
      have n7 : ¬ (7 : Int32) ≤ nI k := fun z => by have := (ln (a := 7) (by omega) (by omega)).1 z; omega
      refine ⟨T6, [111, 117, 116] ++ ([32] ++ (w ++ [59])), 1, ?_, Or.inl rfl, ?_, ?_, st_out w2⟩
      · unfold h_13032 h_13032_J131 h_13032_J432
        rw [ek', bP_some, if_pos n3, if_neg n5, e1, bO_some, if_neg one_0, e2, bO_some, if_neg one_0, e3, bO_some, if_neg one_0, e4, bO_some, if_neg one_0, e5, bO_some, if_neg one_0, e6, bO_some, if_neg one_0, if_neg one_0, if_neg n7]
        rfl
      · rw [List.append_assoc (tx ++ [111]) [117] [116], List.append_assoc tx [111]] at h6
        simp only [List.append_assoc] at h6 ⊢
        exact h6
      · simp only [List.length_append, List.length_cons, List.length_nil]; omega
  · have n3 : ¬ (3 : Int32) ≤ nI k := fun z => c3 ((ln (a := 3) (by omega) (by omega)).1 z)
    obtain ⟨j, hj, ej⟩ := low_n (a >>> (4 &&& 31)) (n := 4) (by decide) (by decide) T
    obtain ⟨b1, b2⟩ := b_sum (a := 97) (c := 97) rfl (j := j) (by omega) (by omega)
    obtain ⟨T1, e1, h1⟩ := sg h (97 + nI j) b1 (by omega)
    obtain ⟨T2, e2, h2⟩ := sg h1 61 (by decide) (by rw [List.length_append]; show _ + 1 < _; omega)
    obtain ⟨T3, w, e3, h3, w1, w2⟩ := vlu h2 b (by rw [List.length_append, List.length_append]; show _ + 1 + 1 + 13 ≤ _; omega)
    have l3 : (tx ++ [97 + nI j] ++ [61] ++ w).length ≤ tx.length + 15 := by rw [List.length_append, List.length_append, List.length_append]; show _ + 1 + 1 + _ ≤ _; omega
    obtain ⟨T4, e4, h4⟩ := sg h3 59 (by decide) (by omega)
    have n7 : ¬ (7 : Int32) ≤ nI k := fun z => by have := (ln (a := 7) (by omega) (by omega)).1 z; omega
    refine ⟨T4, [97 + nI j] ++ ([61] ++ (w ++ [59])), 1, ?_, Or.inl rfl, ?_, ?_, ?_⟩
    · unfold h_13032 h_13032_J63 h_13032_J432
      rw [ek', bP_some, if_neg n3, show (4 : Int32) = nI 4 from rfl]
      show bP (h_13001 (a >>> (4 &&& 31)) (nI 4) T) _ = _
      rw [ej, bP_some, e1, bO_some, if_neg one_0, e2, bO_some, if_neg one_0, e3, bO_some, if_neg one_0, e4, bO_some, if_neg one_0, if_neg one_0, if_neg n7]
      rfl
    · simp only [List.append_assoc] at h4 ⊢
      exact h4
    · simp only [List.length_append, List.length_cons, List.length_nil]; omega
    · rw [b2]
      exact st_as (v_mem j hj) w2
end SGN
