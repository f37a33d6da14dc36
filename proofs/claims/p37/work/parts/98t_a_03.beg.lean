/-! the law begins a draft, and goes on -/
section BEG
variable {x g : Nat} {T T' : Tx} {m m0 m' : Mx} {tx : List Int32} {n : Nat} {A : Nat → List Int32}
/-- it is gone on with -/
theorem l_go (h : Wt x m0 T tx) (hP : PrW tx n) (hl : tx.length ≤ 277) (hn : n ≤ tx.length) (v w : Int32) (hg : (A g).length = 6) (h3 : (A g).getD 3 0 = nI n) : ∃ T' tx' n', l_13034 x g v w (T, A) = some ((T', u1 A g ((A g).set 3 (nI n'))), 1) ∧ Wt x m0 T' tx' ∧ PrW tx' n' ∧ tx'.length ≤ 277 ∧ tx.length ≤ tx'.length ∧ n' ≤ tx'.length := by
  obtain ⟨j, hj, ej⟩ := low_n v (n := 3) (by decide) (by decide) T
  obtain ⟨T', tx', n', g1, g2, g3, g4, g5, g6⟩ := l_L12 (x := x) (g := g) (m0 := m0) v w (M := 1 + j) (by omega) (1 + j) 9 0 460 14000 T A tx n (by omega) (by omega) h hP hl hn hg h3 (by omega) (by omega)
  refine ⟨T', tx', n', ?_, g2, g3, g4, g5, g6⟩
  unfold l_13034
  show bP (h_13001 v (nI 3) T) _ = _
  rw [ej, bP_some]
  have e1 : (1 : Int32) + nI j = nI (1 + j) := nI_pl (a := 1) (by omega) (by omega)
  rw [e1]
  exact g1
end BEG
