/-! the law: it writes signs, and drawn statements -/
section SGN
variable {x : Nat} {T T' : Tx} {m m0 m' : Mx} {tx : List Int32} {v : Int64}
/-- the numbers that are drawn -/
theorem low_n (v : Int32) {n : Nat} (h0 : 0 < n) (hn : n < 1000) (T : Tx) : ∃ j, j < n ∧ h_13001 v (nI n) T = some (nI j) := by
  have e : (v &&& 2147483647).toBitVec.toNat ≤ 2147483647 := by
    rw [Int32.toBitVec_and, BitVec.toNat_and]
    exact Nat.le_trans Nat.and_le_right (by decide)
  have e' : (v &&& 2147483647).toInt = ((v &&& 2147483647).toBitVec.toNat : Int) := by
    show (v &&& 2147483647).toBitVec.toInt = _
    rw [BitVec.toInt_eq_toNat_of_lt (by omega)]
  have hm : ((v &&& 2147483647) % nI n).toInt = (v &&& 2147483647).toInt % n := by
    rw [Int32.toInt_mod, nI_T (by omega), Int.tmod_eq_emod_of_nonneg (by omega)]
  have q1 : 0 ≤ (v &&& 2147483647).toInt % (n : Int) := Int.emod_nonneg _ (by omega)
  have q2 : (v &&& 2147483647).toInt % (n : Int) < n := Int.emod_lt_of_pos _ (by omega)
  obtain ⟨j, j1, j2, j3⟩ : ∃ k, 0 ≤ k ∧ k ≤ n - 1 ∧ (v &&& 2147483647) % nI n = nI k := bnd_n ⟨by rw [hm]; exact q1, by rw [hm]; omega⟩
  refine ⟨j, by omega, ?_⟩
  have nz : ¬ nI n = 0 := fun z => by
    have := congrArg Int32.toInt z
    rw [nI_T (by omega), i_0] at this
    omega
  unfold h_13001
  rw [gd_e nz, j3]
theorem b_sum {a : Nat} {c : Int32} (hc : c = nI a) {j : Nat} (h : a + j ≤ 126) (h1 : 32 ≤ a) : bnd (c + nI j) 32 126 ∧ c + nI j = nI (a + j) := by
  have e : c + nI j = nI (a + j) := by rw [hc, nI_pl (by omega) (by omega)]
  rw [e]
  refine ⟨⟨?_, ?_⟩, rfl⟩ <;> rw [nI_T (by omega)] <;> omega
theorem v_mem : ∀ j, j < 4 → nI (97 + j) ∈ ([97, 98, 99, 100] : List Int32) := by decide
/-- a name is drawn -/
theorem od_J96 (h : Wt x m0 T tx) (v k : Int32) (hl : tx.length + 1 ≤ 300) {bc bs : Nat} (hb : 2 ≤ bc ∧ 12 ≤ bs) : ∃ T' w, h_13029_J96 x v k 1 bc bs T = some (T', 1) ∧ Wt x m0 T' (tx ++ w) ∧ w.length ≤ 1 ∧ OPd w := by
  obtain ⟨j, hj, ej⟩ := low_n (v >>> (3 &&& 31)) (n := 4) (by decide) (by decide) T
  obtain ⟨b1, b2⟩ := b_sum (a := 97) (c := 97) rfl (j := j) (by omega) (by omega)
  obtain ⟨T1, e1, h1⟩ := sg h (97 + nI j) b1 (by omega)
  refine ⟨T1, _, ?_, h1, Nat.le_refl _, ?_⟩
  · unfold h_13029_J96
    rw [if_neg one_0, show (4 : Int32) = nI 4 from rfl, ej, bP_some, gd_e hb, e1, bO_some, if_neg one_0]
  · rw [b2]
    exact od_v (v_mem j hj)
theorem dg_b {j : Nat} (hj : j < 10) : bnd ((48 : Int32) + nI j) 32 126 ∧ (48 : Int32) + nI j = dgt j := b_sum (a := 48) rfl (by omega) (by omega)
/-- a number is drawn, behind a mark or not -/
theorem od_J53 {p : List Int32} (h : Wt x m0 T (tx ++ p)) (v : Int32) {k : Nat} (hk : k < 8) (hp : p = [] ∧ (k < 5) ∨ ∃ c, p = [c] ∧ (c = 45 ∨ c = 35 ∨ c = 33) ∧ 5 ≤ k) (hl : tx.length + 3 ≤ 300) {bc bs : Nat} (hb : 4 ≤ bc ∧ 24 ≤ bs) : ∃ T' w, h_13029_J53 x v (nI k) 1 bc bs T = some (T', 1) ∧ Wt x m0 T' (tx ++ w) ∧ w.length ≤ 3 ∧ OPd w := by
  have hn : ∀ a b : Nat, a < 1000 → b < 1000 → a ≠ b → ¬ nI a = nI b := fun a b h1 h2 h3 e => h3 ((nI_eq (by omega) (by omega)).1 e)
  have lp : p.length ≤ 1 := by
    rcases hp with ⟨rfl, _⟩ | ⟨c, rfl, _⟩
    · exact Nat.zero_le _
    · exact Nat.le_refl _
  have l1 : (tx ++ p).length ≤ tx.length + 1 := by rw [List.length_append]; omega
  by_cases c1 : k = 1
  · subst c1
    have hp' : p = [] := by
      rcases hp with ⟨z, _⟩ | ⟨c, _, _, z⟩
      · exact z
      · omega
    subst hp'
    obtain ⟨T1, e1, h1⟩ := sg h 105 (by decide) (by omega)
    obtain ⟨T2, e2, h2⟩ := sg h1 110 (by decide) (by rw [List.length_append]; show _ + 1 < 300; omega)
    refine ⟨T2, [105, 110], ?_, ?_, by decide, od_in⟩
    · unfold h_13029_J53
      rw [if_pos (show nI 1 = 1 from rfl), if_neg one_0, gd_e ⟨by omega, by omega⟩, e1, bO_some, if_neg one_0, gd_e ⟨by omega, by omega⟩, e2, bO_some, if_neg one_0]
    · rw [List.append_nil, List.append_assoc] at h2
      exact h2
  have n1 : ¬ nI k = 1 := hn k 1 (by omega) (by omega) c1
  by_cases c2 : k = 2 ∨ k = 3
  · have hp' : p = [] := by
      rcases hp with ⟨z, _⟩ | ⟨c, _, _, z⟩
      · exact z
      · omega
    subst hp'
    rw [List.append_nil] at h
    obtain ⟨T1, w, e1, h1, g1, g2⟩ := od_J96 h v (nI k) (by omega) (bc := bc) (bs := bs) ⟨by omega, by omega⟩
    refine ⟨T1, w, ?_, h1, by omega, g2⟩
    unfold h_13029_J53
    rw [if_neg n1]
    rcases c2 with rfl | rfl
    · rw [if_pos (show nI 2 = 2 from rfl)]; exact e1
    · rw [if_neg (show ¬ nI 3 = 2 from hn 3 2 (by decide) (by decide) (by decide)), if_pos (show nI 3 = 3 from rfl)]; exact e1
  have n2 : ¬ nI k = 2 := hn k 2 (by omega) (by omega) (by omega)
  have n3 : ¬ nI k = 3 := hn k 3 (by omega) (by omega) (by omega)
  obtain ⟨i, hi, ei⟩ := low_n (v >>> (3 &&& 31)) (n := 10) (by decide) (by decide) T
  obtain ⟨b1, b2⟩ := dg_b hi
  obtain ⟨T1, e1, h1⟩ := sg h (48 + nI i) b1 (by omega)
  obtain ⟨q, hq, eq⟩ := low_n (v >>> (7 &&& 31)) (n := 4) (by decide) (by decide) T1
  have eu : h_13029_J53 x v (nI k) 1 bc bs T = if 0 < nI q then some (T1, (1 : Int32)) else bP (h_13001 (v >>> (9 &&& 31)) 10 T1) fun r14 => gd ((2 : Nat) ≤ (bc - 2) ∧ 12 ≤ (bs - 12)) <| bO (h_13028 x (48 + r14) T1) fun T15 r15 => if r15 = 0 then some (T15, 0) else some (T15, 1) := by
    unfold h_13029_J53
    rw [if_neg n1, if_neg n2, if_neg n3, if_neg one_0, show (10 : Int32) = nI 10 from rfl, ei, bP_some, gd_e ⟨by omega, by omega⟩, e1, bO_some, if_neg one_0, show (4 : Int32) = nI 4 from rfl, eq, bP_some]
  rw [eu]
  by_cases c0 : 0 < nI q
  · rw [if_pos c0]
    refine ⟨T1, p ++ [48 + nI i], rfl, by rw [← List.append_assoc]; exact h1, by rw [List.length_append]; show _ + 1 ≤ 3; omega, ?_⟩
    rw [b2]
    rcases hp with ⟨rfl, _⟩ | ⟨c, rfl, hc, _⟩
    · exact od_1 hi
    · exact od_p1 hc hi
  · rw [if_neg c0]
    obtain ⟨j, hj, ej⟩ := low_n (v >>> (9 &&& 31)) (n := 10) (by decide) (by decide) T1
    obtain ⟨d1, d2⟩ := dg_b hj
    obtain ⟨T2, e2, h2⟩ := sg h1 (48 + nI j) d1 (by rw [List.length_append]; show _ + 1 < 300; omega)
    refine ⟨T2, p ++ [48 + nI i, 48 + nI j], ?_, ?_, by rw [List.length_append]; show _ + 2 ≤ 3; omega, ?_⟩
    · rw [show (10 : Int32) = nI 10 from rfl, ej, bP_some, gd_e ⟨by omega, by omega⟩, e2, bO_some, if_neg one_0]
    · rw [List.append_assoc, List.append_assoc] at h2
      exact h2
    · rw [b2, d2]
      rcases hp with ⟨rfl, _⟩ | ⟨c, rfl, hc, _⟩
      · exact od_2 hi hj
      · exact od_p2 hc hi hj
/-- an operand is drawn -/
theorem opr (h : Wt x m0 T tx) (v : Int32) (hl : tx.length + 3 ≤ 300) : ∃ T' w, h_13029 x v T = some (T', 1) ∧ Wt x m0 T' (tx ++ w) ∧ w.length ≤ 3 ∧ OPd w := by
  have hn : ∀ a b : Nat, a < 1000 → b < 1000 → a ≠ b → ¬ nI a = nI b := fun a b h1 h2 h3 e => h3 ((nI_eq (by omega) (by omega)).1 e)
  obtain ⟨k, hk, ek⟩ := low_n v (n := 8) (by decide) (by decide) T
  have e0 : h_13029 x v T = if nI k = 5 then bO (h_13028 x 45 T) fun T28 r28 => h_13029_J53 x v (nI k) r28 6 36 T28 else if nI k = 6 then bO (h_13028 x 35 T) fun T27 r27 => h_13029_J53 x v (nI k) r27 6 36 T27 else if nI k = 7 then bO (h_13028 x 33 T) fun T26 r26 => h_13029_J53 x v (nI k) r26 6 36 T26 else h_13029_J53 x v (nI k) 1 8 48 T := by
    unfold h_13029
    rw [show (8 : Int32) = nI 8 from rfl, ek, bP_some]
  rw [e0]
  by_cases c5 : k = 5
  · subst c5
    obtain ⟨T1, e1, h1⟩ := sg h 45 (by decide) (by omega)
    rw [if_pos (show nI 5 = 5 from rfl), e1, bO_some]
    exact od_J53 h1 v hk (Or.inr ⟨45, rfl, by decide, by decide⟩) hl ⟨by decide, by decide⟩
  rw [if_neg (show ¬ nI k = 5 from hn k 5 (by omega) (by omega) c5)]
  by_cases c6 : k = 6
  · subst c6
    obtain ⟨T1, e1, h1⟩ := sg h 35 (by decide) (by omega)
    rw [if_pos (show nI 6 = 6 from rfl), e1, bO_some]
    exact od_J53 h1 v hk (Or.inr ⟨35, rfl, by decide, by decide⟩) hl ⟨by decide, by decide⟩
  rw [if_neg (show ¬ nI k = 6 from hn k 6 (by omega) (by omega) c6)]
  by_cases c7 : k = 7
  · subst c7
    obtain ⟨T1, e1, h1⟩ := sg h 33 (by decide) (by omega)
    rw [if_pos (show nI 7 = 7 from rfl), e1, bO_some]
    exact od_J53 h1 v hk (Or.inr ⟨33, rfl, by decide, by decide⟩) hl ⟨by decide, by decide⟩
  rw [if_neg (show ¬ nI k = 7 from hn k 7 (by omega) (by omega) c7)]
  rw [← List.append_nil tx] at h
  exact od_J53 h v hk (Or.inl ⟨rfl, by omega⟩) hl ⟨by decide, by decide⟩
end SGN
