/-! the law: it writes signs, and drawn statements -/
section SGN
variable {x : Nat} {T T' : Tx} {m m0 m' : Mx} {tx : List Int32} {v : Int64}
/-- a mark is drawn -/
theorem mrk (h : Wt x m0 T tx) (v : Int32) (hl : tx.length + 2 ≤ 300) : ∃ T' w, h_13030 x v T = some (T', 1) ∧ Wt x m0 T' (tx ++ w) ∧ w.length ≤ 2 ∧ MKd w := by
  obtain ⟨j, hj, ej⟩ := low_n v (n := 13) (by decide) (by decide) T
  -- one sign
  have one : ∀ c : Int32, bnd c 32 126 → c ∈ Mk1 → (h_13030 x v T = h_13030_J113 x v (nI j) c 4 24 T) → (nI j ≠ 6) → nI j ≤ 7 → nI j ≤ 10 → ∃ T' w, h_13030 x v T = some (T', 1) ∧ Wt x m0 T' (tx ++ w) ∧ w.length ≤ 2 ∧ MKd w := fun c hc hm e n6 n7 n10 => by
    obtain ⟨T1, e1, h1⟩ := sg h c hc (by omega)
    refine ⟨T1, [c], ?_, h1, (show 1 ≤ 2 by decide), mk_1 hm⟩
    rw [e]
    unfold h_13030_J113 h_13030_J161
    rw [gd_e ⟨by decide, by decide⟩, e1, bO_some, if_neg n6, if_pos n7, if_pos n10, gd_e (Or.inr rfl)]
  have two : ∀ c : Int32, bnd c 32 126 → (c, (61 : Int32)) ∈ Mk2 → (h_13030 x v T = h_13030_J113 x v (nI j) c 4 24 T) → (nI j = 6 ∨ ¬ nI j ≤ 7 ∧ ¬ 11 ≤ nI j) → ∃ T' w, h_13030 x v T = some (T', 1) ∧ Wt x m0 T' (tx ++ w) ∧ w.length ≤ 2 ∧ MKd w := fun c hc hm e hk => by
    obtain ⟨T1, e1, h1⟩ := sg h c hc (by omega)
    obtain ⟨T2, e2, h2⟩ := sg h1 61 (by decide) (by rw [List.length_append]; show _ + 1 < 300; omega)
    rw [List.append_assoc] at h2
    refine ⟨T2, [c, 61], ?_, h2, (show 2 ≤ 2 by decide), mk_2 hm⟩
    have e139 : h_13030_J139 x v (nI j) c 1 (4 - 2) (24 - 12) T1 = some (T2, 1) := by
      unfold h_13030_J139
      rw [if_neg one_0, gd_e ⟨by decide, by decide⟩, e2, bO_some, if_neg one_0]
    rw [e]
    unfold h_13030_J113
    rw [gd_e ⟨by decide, by decide⟩, e1, bO_some]
    by_cases c6 : nI j = 6
    · rw [if_pos c6]
      exact e139
    · rw [if_neg c6]
      rcases hk with z | ⟨z1, z2⟩
      · exact absurd z c6
      · rw [if_neg z1, if_neg z2]
        exact e139
  have dbl : ∀ c : Int32, bnd c 32 126 → (c, c) ∈ Mk2 → (h_13030 x v T = h_13030_J113 x v (nI j) c 4 24 T) → (nI j ≠ 6) → ¬ nI j ≤ 7 → 11 ≤ nI j → ¬ nI j ≤ 10 → ∃ T' w, h_13030 x v T = some (T', 1) ∧ Wt x m0 T' (tx ++ w) ∧ w.length ≤ 2 ∧ MKd w := fun c hc hm e n6 n7 n11 n10 => by
    obtain ⟨T1, e1, h1⟩ := sg h c hc (by omega)
    obtain ⟨T2, e2, h2⟩ := sg h1 c hc (by rw [List.length_append]; show _ + 1 < 300; omega)
    rw [List.append_assoc] at h2
    refine ⟨T2, [c, c], ?_, h2, (show 2 ≤ 2 by decide), mk_2 hm⟩
    rw [e]
    unfold h_13030_J113 h_13030_J161
    rw [gd_e ⟨by decide, by decide⟩, e1, bO_some, if_neg n6, if_neg n7, if_pos n11, if_neg n10, if_neg one_0, gd_e ⟨by decide, by decide⟩, e2, bO_some, if_neg one_0]
  have ee : ∀ (c : Int32) (q : Option (Tx × Int32)), (bP (some (nI j)) fun r12 => if r12 = 0 then h_13030_J113 x v r12 43 4 24 T else if r12 = 1 then h_13030_J113 x v r12 45 4 24 T else if r12 = 2 then h_13030_J113 x v r12 42 4 24 T else if r12 = 3 then h_13030_J113 x v r12 47 4 24 T else if r12 = 4 then h_13030_J113 x v r12 37 4 24 T else if 7 ≤ r12 then (if 9 ≤ r12 then (if r12 = 9 then h_13030_J113 x v r12 61 4 24 T else if r12 = 10 then h_13030_J113 x v r12 33 4 24 T else if r12 = 11 then h_13030_J113 x v r12 38 4 24 T else h_13030_J113 x v r12 124 4 24 T) else h_13030_J113 x v r12 62 4 24 T) else h_13030_J113 x v r12 60 4 24 T) = q → h_13030 x v T = q := fun c q hq => by
    unfold h_13030
    rw [show (13 : Int32) = nI 13 from rfl, ej]
    exact hq
  have hc : j = 0 ∨ j = 1 ∨ j = 2 ∨ j = 3 ∨ j = 4 ∨ j = 5 ∨ j = 6 ∨ j = 7 ∨ j = 8 ∨ j = 9 ∨ j = 10 ∨ j = 11 ∨ j = 12 := by omega
  rcases hc with rfl | rfl | rfl | rfl | rfl | rfl | rfl | rfl | rfl | rfl | rfl | rfl | rfl
  · exact one 43 (by decide) (by decide) (ee 0 _ rfl) (by decide) (by decide) (by decide)
  · exact one 45 (by decide) (by decide) (ee 0 _ rfl) (by decide) (by decide) (by decide)
  · exact one 42 (by decide) (by decide) (ee 0 _ rfl) (by decide) (by decide) (by decide)
  · exact one 47 (by decide) (by decide) (ee 0 _ rfl) (by decide) (by decide) (by decide)
  · exact one 37 (by decide) (by decide) (ee 0 _ rfl) (by decide) (by decide) (by decide)
  · exact one 60 (by decide) (by decide) (ee 0 _ rfl) (by decide) (by decide) (by decide)
  · exact two 60 (by decide) (by decide) (ee 0 _ rfl) (Or.inl rfl)
  · exact one 62 (by decide) (by decide) (ee 0 _ rfl) (by decide) (by decide) (by decide)
  · exact two 62 (by decide) (by decide) (ee 0 _ rfl) (Or.inr ⟨by decide, by decide⟩)
  · exact two 61 (by decide) (by decide) (ee 0 _ rfl) (Or.inr ⟨by decide, by decide⟩)
  · exact two 33 (by decide) (by decide) (ee 0 _ rfl) (Or.inr ⟨by decide, by decide⟩)
  · exact dbl 38 (by decide) (by decide) (ee 0 _ rfl) (by decide) (by decide) (by decide) (by decide)
  · exact dbl 124 (by decide) (by decide) (ee 0 _ rfl) (by decide) (by decide) (by decide) (by decide)
/-- a value is drawn -/
theorem vl_L17 (v : Int32) {M : Nat} (hM : M < 3) : ∀ (q n i bc bs : Nat) (T : Tx) (w : List Int32), i + q = M → q < n → Wt x m0 T (tx ++ w) → VAd w → w.length ≤ 3 + 5 * i → tx.length + 13 ≤ 300 → 12 * q ≤ bc → 72 * q ≤ bs →
    ∃ T' w', h_13031_L17 n x v 1 (nI M) (nI i) bc bs T = some (T', 1) ∧ Wt x m0 T' (tx ++ w') ∧ w'.length ≤ 13 ∧ VAd w' := by
  intro q
  induction q with
  | zero =>
    intro n i bc bs T w hi hn h hV hw hl hc hs
    obtain ⟨n, rfl⟩ : ∃ j, n = j + 1 := ⟨n - 1, by omega⟩
    refine ⟨T, w, ?_, h, by omega, hV⟩
    rw [h_13031_L17, if_pos ((nI_leI (by omega) (by omega)).2 (by omega)), gd_e (Or.inr rfl)]
  | succ q ih =>
    intro n i bc bs T w hi hn h hV hw hl hc hs
    obtain ⟨n, rfl⟩ : ∃ j, n = j + 1 := ⟨n - 1, by omega⟩
    have lw : (tx ++ w).length ≤ tx.length + 3 + 5 * i := by rw [List.length_append]; omega
    obtain ⟨T1, u, e1, h1, u1, u2⟩ := mrk h (v >>> ((5 + (3 * nI i)) &&& 31)) (by omega)
    have lu : (tx ++ w ++ u).length ≤ tx.length + 5 + 5 * i := by rw [List.length_append]; omega
    obtain ⟨T2, z, e2, h2, z1, z2⟩ := opr h1 (v >>> ((7 + (4 * nI i)) &&& 31)) (by omega)
    rw [List.append_assoc, List.append_assoc] at h2
    obtain ⟨T', w', g1, g2⟩ := ih n (i + 1) ((bc - 4) - 8) ((bs - 24) - 48) T2 (w ++ (u ++ z)) (by omega) (by omega) h2 (va_s hV u2 z2) (by rw [List.length_append, List.length_append]; omega) hl (by omega) (by omega)
    refine ⟨T', w', ?_, g2⟩
    rw [h_13031_L17, if_neg (fun z => by have := (nI_leI (by omega) (by omega)).1 z; omega), if_neg one_0, gd_e ⟨by omega, by omega⟩, e1, bO_some, if_neg one_0, gd_e ⟨by omega, by omega⟩, e2, bO_some, if_neg one_0, nI_p1 (by omega)]
    exact g1
end SGN
