/-! the law spoils a draft -/
section SPO
variable {x g : Nat} {T T' : Tx} {m m0 m' : Mx} {tx rest : List Int32} {n e0 : Nat} {A : Nat → List Int32} {c k : Int32}
theorem junk_b {j : Nat} (hj : j < 90) : bnd ((33 : Int32) + nI j) 32 126 ∧ (33 : Int32) + nI j = nI (33 + j) := b_sum (a := 33) rfl (by omega) (by omega)
/-- junk is written behind it -/
theorem l_L239 (hP : PrW tx n) (hk : (c, k) ∈ bdS) (hg : (A g).length = 6) (h3 : (A g).getD 3 0 = nI n) (hl : tx.length ≤ 277) (l2 l3 l5 l6 : Int32) {Q : Nat} (hQ : Q < 9) : ∀ (q z i bc bs : Nat) (T : Tx) (rest : List Int32), i + q = Q → q < z → Wt x m0 T (tx ++ c :: 32 :: rest) → rest.length = i → 164 + 2 * q ≤ bc → 14824 + 12 * q ≤ bs →
    ∃ T', l_13036_L239 z x g l2 l3 (nI tx.length) l5 l6 1 (fOf k) (nI Q) (nI i) bc bs (T, A) = some ((T', A), 1) ∧ Wt x m0 T' tx := by
  intro q
  induction q with
  | zero =>
    intro z i bc bs T rest hi hz h hr hc hs
    obtain ⟨z, rfl⟩ : ∃ j, z = j + 1 := ⟨z - 1, by omega⟩
    have hb := bad_f (rest := 32 :: rest) hP hk (Or.inr rfl) h.len
    obtain ⟨T1, e1, h1⟩ := h.fault (v := fOf k) (fun s0 s1 a b => (hb s0 s1 a b).1)
    obtain ⟨T2, e2, h2⟩ := h1.placeF (p := tx.length) (fun s0 s1 a b => ⟨by rw [(hb s0 s1 a b).1]; exact fOf_0, (hb s0 s1 a b).2⟩)
    obtain ⟨T3, e3, h3'⟩ := l_J311 (f := 0) (A := A) h2 (q := Q) (by rw [List.length_cons]; omega) hP hg h3 hl hQ l2 l3 l5 l6 1 (fOf k) (nI i) (bc := (bc - 40) - 40) (bs := (bs - 3700) - 3700) ⟨by omega, by omega⟩
    refine ⟨T3, ?_, h3'⟩
    rw [l_13036_L239, if_pos ((nI_gle (by omega) (by omega)).2 (by omega)), if_neg one_0, gd_e (show tK (T, A).1 x = 12 from h.k12), gd_e ⟨by omega, by omega⟩, show h_11006 x (T, A).1 = some (T1, fOf k) from e1, bO_some, bS_eq, if_pos rfl]
    show gd (tK T1 x = 12) _ = _
    rw [gd_e h1.k12, gd_e ⟨by omega, by omega⟩]
    show bO (h_11007 x T1) _ = _
    rw [e2, bO_some, bS_eq, if_pos rfl]
    exact e3
  | succ q ih =>
    intro z i bc bs T rest hi hz h hr hc hs
    obtain ⟨z, rfl⟩ : ∃ j, z = j + 1 := ⟨z - 1, by omega⟩
    obtain ⟨j, hj, ej⟩ := low_n (l3 >>> (nI i &&& 31)) (n := 90) (by decide) (by decide) T
    obtain ⟨b1, b2⟩ := junk_b hj
    obtain ⟨T1, e1, h1⟩ := sg h (33 + nI j) b1 (by rw [List.length_append, List.length_cons, List.length_cons]; omega)
    rw [List.append_assoc, List.cons_append, List.cons_append] at h1
    obtain ⟨T', g1, g2⟩ := ih z (i + 1) (bc - 2) (bs - 12) T1 (rest ++ [33 + nI j]) (by omega) (by omega) h1 (by rw [List.length_append, hr]; rfl) (by omega) (by omega)
    refine ⟨T', ?_, g2⟩
    rw [l_13036_L239, if_neg (fun w => by have := (nI_gle (by omega) (by omega)).1 w; omega), if_neg one_0]
    show bP (h_13001 (l3 >>> (nI i &&& 31)) (nI 90) T) _ = _
    rw [ej, bP_some, gd_e ⟨by omega, by omega⟩]
    show bO (h_13028 x (33 + nI j) T) _ = _
    rw [e1, bO_some, bS_eq, if_neg one_0, nI_p1 (by omega)]
    exact g1
end SPO
