/-! the law spoils a draft -/
section SPO
variable {x g : Nat} {T T' : Tx} {m m0 m' : Mx} {tx rest : List Int32} {n e0 : Nat} {A : Nat → List Int32} {c k : Int32}
theorem l_J199 (hP : PrW tx n) (hk : (c, k) ∈ bdS) (hg : (A g).length = 6) (h3 : (A g).getD 3 0 = nI n) (hl : tx.length ≤ 277) (l2 l3 l5 l6 : Int32) (h : Wt x m0 T (tx ++ [c])) {bc bs : Nat} (hb : 230 ≤ bc ∧ 18700 ≤ bs) : ∃ T', l_13036_J199 x g l2 l3 (nI tx.length) l5 l6 1 bc bs (T, A) = some ((T', A), 1) ∧ Wt x m0 T' tx := by
  have hb' := bad_f (rest := []) hP hk (Or.inl rfl) h.len
  obtain ⟨T1, e1, h1⟩ := h.fault (v := fOf k) (fun s0 s1 a b => (hb' s0 s1 a b).1)
  obtain ⟨Q, hQ, eQ⟩ := low_n l3 (n := 9) (by decide) (by decide) T1
  obtain ⟨T2, e2, h2⟩ := sg h1 32 (by decide) (by rw [List.length_append]; show _ + 1 < _; omega)
  rw [List.append_assoc] at h2
  obtain ⟨T3, e3, h3'⟩ := l_L239 (m0 := m0) (x := x) hP hk hg h3 hl l2 l3 l5 l6 hQ Q 12 0 ((bc - 40) - 2) ((bs - 3700) - 12) T2 [] (by omega) (by omega) h2 rfl (by omega) (by omega)
  refine ⟨T3, ?_, h3'⟩
  unfold l_13036_J199
  rw [gd_e (show tK (T, A).1 x = 12 from h.k12), gd_e ⟨by omega, by omega⟩, show h_11006 x (T, A).1 = some (T1, fOf k) from e1, bO_some, bS_eq]
  show bP (h_13001 l3 (nI 9) T1) _ = _
  rw [eQ, bP_some, if_neg one_0, gd_e ⟨by omega, by omega⟩]
  show bO (h_13028 x 32 T1) _ = _
  rw [e2, bO_some, bS_eq, if_neg one_0]
  exact e3
/-- the fault, its place, and what is refused -/
theorem l_J134 (hP : PrW tx n) (hk : (c, k) ∈ bdS) (hg : (A g).length = 6) (h3 : (A g).getD 3 0 = nI n) (h0 : (A g).getD 0 0 = nI e0) (he : m0 0 65 = nI e0) (he4 : e0 ≤ 4) (hl : tx.length ≤ 277) (l2 l3 l5 l6 : Int32) (h : Wt x m0 T (tx ++ [c])) {bc bs : Nat} (hb : 500 ≤ bc ∧ 40000 ≤ bs) : ∃ T', l_13036_J134 x g l2 l3 (nI tx.length) l5 l6 (fOf k) (fOf k) bc bs (T, A) = some ((T', A), 1) ∧ Wt x m0 T' tx := by
  have hb' := bad_f (rest := []) hP hk (Or.inl rfl) h.len
  have hf : ∀ s0 s1, tkR s0 (tks (tx ++ [c])) → f_5001 s0 = some s1 → s1.2 0 ≠ 0 := fun s0 s1 a b => by rw [(hb' s0 s1 a b).1]; exact fOf_0
  obtain ⟨T1, e1, h1⟩ := h.placeF (p := tx.length) (fun s0 s1 a b => ⟨hf s0 s1 a b, (hb' s0 s1 a b).2⟩)
  obtain ⟨T2, e2, h2⟩ := h1.partsF hf
  obtain ⟨T3, e3, h3'⟩ := h2.trialF hf (v := 9) (a := 0) (b := 0) (by decide)
  obtain ⟨T4, e4, h4⟩ := h3'.handF hf he he4
  obtain ⟨T5, e5, h5⟩ := l_J199 (m0 := m0) (x := x) hP hk hg h3 hl l2 l3 l5 l6 h4 (bc := (((bc - 40) - 41) - 42) - 130) (bs := (((bs - 3700) - 3706) - 3712) - 9200) ⟨by omega, by omega⟩
  refine ⟨T5, ?_, h5⟩
  have v0 : vi 0 (A g).length := vi6 (k := 0) (by decide) hg
  have x0 : xg (A g) 0 = nI e0 := by
    show xg (A g) (nI 0) = nI e0
    rw [xg_n (by omega), h0]
  unfold l_13036_J134
  rw [if_pos rfl, gd_e (show tK (T, A).1 x = 12 from h.k12), gd_e ⟨by omega, by omega⟩, show h_11007 x (T, A).1 = some (T1, nI tx.length) from e1, bO_some, bS_eq, if_pos rfl]
  show gd (tK T1 x = 12) _ = _
  rw [gd_e h1.k12, gd_e ⟨by omega, by omega⟩]
  show bO (h_13005 x T1) _ = _
  rw [e2, bO_some, bS_eq, if_pos rfl]
  show gd (tK T2 x = 12) _ = _
  rw [gd_e h2.k12, gd_e ⟨by omega, by omega⟩]
  show bO (h_13006 x 9 0 0 T2) _ = _
  rw [e3, bO_some, bS_eq, if_pos rfl]
  show gd (vi 0 (A g).length) (gd (tK T3 x = 12) (gd _ (bO (h_13014 x 0 (xg (A g) 0 - 1) T3) _))) = _
  rw [gd_e v0, gd_e h3'.k12, gd_e ⟨by omega, by omega⟩, x0, e4, bO_some, bS_eq]
  show gd (vi 0 (A g).length) (if xg (A g) 0 = 0 then _ else _) = _
  rw [gd_e v0, x0]
  unfold l_13036_J191
  by_cases c0 : e0 = 0
  · rw [if_pos (show nI e0 = 0 by rw [c0]; rfl), if_pos c0, if_pos rfl]
    exact e5
  · rw [if_neg (show ¬ nI e0 = 0 from fun z => c0 ((nI_eq (b := 0) (by omega) (by omega)).1 z)), if_neg c0, if_pos rfl]
    exact e5
end SPO
