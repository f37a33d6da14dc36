/-! the law spoils a draft -/
section SPO
variable {x g : Nat} {T T' : Tx} {m m0 m' : Mx} {tx rest : List Int32} {n e0 : Nat} {A : Nat → List Int32} {c k : Int32}
theorem l_J102 (hP : PrW tx n) (hk : (c, k) ∈ bdS) (hg : (A g).length = 6) (h3 : (A g).getD 3 0 = nI n) (h0 : (A g).getD 0 0 = nI e0) (he : m0 0 65 = nI e0) (he4 : e0 ≤ 4) (hl : tx.length ≤ 277) (l2 l3 l5 : Int32) (h5 : fOf k = if l5 = 2 then 1 else if l5 = 3 then 1 else 3) (h : Wt x m0 T tx) : ∃ T', l_13036_J102 x g l2 l3 (nI tx.length) l5 c 620 44000 (T, A) = some ((T', A), 1) ∧ Wt x m0 T' tx := by
  obtain ⟨T1, e1, h1⟩ := sg h c (bd_f (c, k) hk).1 (by omega)
  have hb' := bad_f (rest := []) hP hk (Or.inl rfl) h1.len
  obtain ⟨T2, e2, h2⟩ := h1.fault (v := fOf k) (fun s0 s1 a b => (hb' s0 s1 a b).1)
  obtain ⟨T3, e3, h3'⟩ := l_J134 (m0 := m0) (x := x) hP hk hg h3 h0 he he4 hl l2 l3 l5 c h2 (bc := (620 - 2) - 40) (bs := (44000 - 12) - 3700) ⟨by omega, by omega⟩
  refine ⟨T3, ?_, h3'⟩
  unfold l_13036_J102
  rw [gd_e ⟨by omega, by omega⟩, show h_13028 x c (T, A).1 = some (T1, 1) from e1, bO_some, bS_eq, if_neg one_0]
  show gd (tK T1 x = 12) _ = _
  rw [gd_e h1.k12, gd_e ⟨by omega, by omega⟩]
  show bO (h_11006 x T1) _ = _
  rw [e2, bO_some, bS_eq]
  unfold l_13036_J129
  rw [h5] at e3 ⊢
  by_cases c2 : l5 = 2
  · rw [if_pos c2] at e3 ⊢
    rw [if_pos c2]
    exact e3
  · rw [if_neg c2] at e3 ⊢
    rw [if_neg c2]
    by_cases c3 : l5 = 3
    · rw [if_pos c3] at e3 ⊢
      rw [if_pos c3]
      exact e3
    · rw [if_neg c3] at e3 ⊢
      rw [if_neg c3]
      exact e3
/-- a sign that cannot stand is a fault, and gone again -/
theorem l_spo (h : Wt x m0 T tx) (hP : PrW tx n) (hg : (A g).length = 6) (h3 : (A g).getD 3 0 = nI n) (h0 : (A g).getD 0 0 = nI e0) (he : m0 0 65 = nI e0) (he4 : e0 ≤ 4) (hl : tx.length ≤ 277) (v w : Int32) : ∃ T', l_13036 x g v w (T, A) = some ((T', A), 1) ∧ Wt x m0 T' tx := by
  obtain ⟨j, hj, ej⟩ := low_n v (n := 7) (by decide) (by decide) T
  have go : ∀ c k : Int32, (c, k) ∈ bdS → (fOf k = if nI j = 2 then 1 else if nI j = 3 then 1 else 3) → (l_13036 x g v w (T, A) = l_13036_J102 x g v w (nI tx.length) (nI j) c 620 44000 (T, A)) → ∃ T', l_13036 x g v w (T, A) = some ((T', A), 1) ∧ Wt x m0 T' tx := fun c k hk h5 e => by
    rw [e]
    exact l_J102 hP hk hg h3 h0 he he4 hl v w (nI j) h5 h
  have ee : l_13036 x g v w (T, A) = if nI j = 0 then l_13036_J102 x g v w (nI tx.length) (nI j) 125 620 44000 (T, A) else if nI j = 1 then l_13036_J102 x g v w (nI tx.length) (nI j) 41 620 44000 (T, A) else if nI j = 2 then l_13036_J102 x g v w (nI tx.length) (nI j) 38 620 44000 (T, A) else if nI j = 3 then l_13036_J102 x g v w (nI tx.length) (nI j) 65 620 44000 (T, A) else if nI j = 4 then l_13036_J102 x g v w (nI tx.length) (nI j) 59 620 44000 (T, A) else if nI j = 5 then l_13036_J102 x g v w (nI tx.length) (nI j) 53 620 44000 (T, A) else l_13036_J102 x g v w (nI tx.length) (nI j) 61 620 44000 (T, A) := by
    unfold l_13036
    rw [gd_e (show tK (T, A).1 x = 12 from h.k12), show h_11004 x (T, A).1 = some (nI tx.length) from h.lenE, bP_some, if_pos (show nI tx.length ≤ (280 : Int32) from (nI_gle (b := 280) (by omega) (by omega)).2 (by omega))]
    show bP (h_13001 v (nI 7) T) _ = _
    rw [ej, bP_some]
  have hc : j = 0 ∨ j = 1 ∨ j = 2 ∨ j = 3 ∨ j = 4 ∨ j = 5 ∨ j = 6 := by omega
  rcases hc with rfl | rfl | rfl | rfl | rfl | rfl | rfl
  · exact go 125 31 (by decide) (by decide) ee
  · exact go 41 29 (by decide) (by decide) ee
  · exact go 38 1 (by decide) (by decide) ee
  · exact go 65 1 (by decide) (by decide) ee
  · exact go 59 33 (by decide) (by decide) ee
  · exact go 53 3 (by decide) (by decide) ee
  · exact go 61 27 (by decide) (by decide) ee
end SPO
