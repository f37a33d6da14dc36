/-! the law begins a draft, and goes on -/
section BEG
variable {x g : Nat} {T T' : Tx} {m m0 m' : Mx} {tx : List Int32} {n : Nat} {A : Nat → List Int32}
/-- a draft is begun -/
theorem l_beg (h : Wt x m0 T tx) (v : Int32) (hg : (A g).length = 6) : ∃ T' tx' n, l_13033 x g v (T, A) = some ((T', u1 A g ((A g).set 3 (nI n))), 1) ∧ Wt x m0 T' tx' ∧ PrW tx' n ∧ tx'.length ≤ 23 ∧ 1 ≤ tx'.length ∧ n ≤ tx'.length := by
  obtain ⟨T1, e1, h1⟩ := h.wipe
  obtain ⟨T2, e2, h2⟩ := h1.fault (v := 0) (fun s0 s1 a b => (PrX.ok (Or.inr ⟨rfl, rfl⟩) (by decide) a b).1)
  obtain ⟨T3, e3, h3⟩ := h2.parts (k := 0) (fun s0 s1 a b => PrX.ok (Or.inr ⟨rfl, rfl⟩) (by decide) a b)
  obtain ⟨T4, tx', n, e4, r⟩ := l_J33 (g := g) (A := A) h3 v hg
  have hn := h.len
  refine ⟨T4, tx', n, ?_, r⟩
  unfold l_13033
  rw [gd_e (show tK (T, A).1 x = 12 from h.k12), show h_11002 x (T, A).1 = some (T1, nI tx.length) from e1, bO_some, bS_eq, if_neg (nI_nn (by omega))]
  show gd (tK T1 x = 12) _ = _
  rw [gd_e h1.k12]
  show bP (h_11004 x T1) _ = _
  rw [h1.lenE, bP_some, if_pos (show nI ([] : List Int32).length = 0 from rfl)]
  show gd (tK T1 x = 12) _ = _
  rw [gd_e h1.k12]
  show bO (h_11006 x T1) _ = _
  rw [e2, bO_some, bS_eq, if_pos rfl]
  show gd (tK T2 x = 12) _ = _
  rw [gd_e h2.k12]
  show bO (h_13005 x T2) _ = _
  rw [e3, bO_some, bS_eq, if_pos (show nI 0 = 0 from rfl)]
  exact e4
end BEG
