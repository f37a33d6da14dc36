/-! how a drawn program is read: its head, all of it -/
section TXTD
variable {s s' : Sx} {a e L np : Nat} {op bl : List Ae} {rest r : List KV} {st : Int32} {tx : List Int32}
theorem acc_n {n : Int32} (h : n = 7 ∨ n = 8 ∨ n = 9 ∨ n = 10 ∨ n = 12) : au_acc (s, n, op, bl) = au_acc0 s n op bl := au_acc_n (by rcases h with z | z | z | z | z <;> rw [z] <;> decide)
theorem xpos_nil {v : Int32} : xpos [] v = -1 := if_neg (by simp)
/-- def f(x){ -/
theorem def_go {v0 v2 v4 v5 : Int32} (h : Q1 s 0 e 0 ((10, v0) :: (4, 0) :: (28, v2) :: (4, nI 1) :: (29, v4) :: (30, v5) :: r)) (h5 : s.1 5 = []) (h9 : s.1 9 = []) (h10 : s.1 10 = []) (h13 : s.1 13 = []) (h15 : s.1 15 = []) (h16 : s.1 16 = []) (h17 : s.1 17 = []) :
    ∃ s' bb, GoA (s, 0, [], []) (s', 0, [], [bb]) ∧ Q1 s' 6 e 1 r ∧ SB s' 6 1 ∧ bb.1 = 10 ∧ bb.2.2.2.2.1 = nI 0 ∧ bb.2.2.2.2.2 = nI 5 ∧ (s'.1 0).getD 0 0 = 10 ∧ (s'.1 0).getD 5 0 = 30 := by
  -- def
  have acc1 := acc_st (op := []) (bl := []) h (by decide)
  have ko1 := st_ko h
  have h22 : s.2 2 = nI 0 := h.hd.2.2.1
  have h24 : s.2 4 ≤ 0 := by
    rw [h.1.2.2.2.2.2.2.1]; decide
  unfold au_st at acc1
  rw [ko1, if_neg (by decide), if_neg (by decide), if_neg (by decide), if_neg (by decide), if_neg (by decide), if_neg (by decide), if_pos rfl, if_pos h24] at acc1
  obtain ⟨s1, hs1⟩ : ∃ s1, s1 = au_nx (au_bp s) := ⟨_, rfl⟩
  rw [← hs1] at acc1
  have q1 : Q1 s1 1 e 0 ((4, 0) :: (28, v2) :: (4, nI 1) :: (29, v4) :: (30, v5) :: r) := by rw [hs1]; exact h.bp.nx (by decide) (fun z => absurd z (by decide))
  have k1 : ∀ k, k ≠ 5 → k ≠ 6 → s1.1 k = s.1 k := fun k b1 b2 => by rw [hs1]; exact bp_k ⟨b1, b2⟩
  have l1 : (s1.1 5).length = 1 := by
    rw [hs1]
    show ((au_bp s).1 5).length = 1
    rw [bp5 (by rw [h5]; decide), h5]; rfl
  have t0 : (s1.1 0).getD 0 0 = 10 := by rw [k1 0 (by decide) (by decide)]; exact h.hd.2.2.2.1
  -- its name
  obtain ⟨s2, hs2⟩ : ∃ s2, s2 = (f_4010 0 s1).1 := ⟨_, rfl⟩
  have k2 : ∀ k, k < 9 ∨ 12 < k → s2.1 k = s1.1 k := fun k hk => by
    rw [hs2]
    show (if k = 12 then _ else if k = 11 then _ else if k = 10 then _ else if k = 9 then _ else s1.1 k) = _
    rw [if_neg (by omega), if_neg (by omega), if_neg (by omega), if_neg (by omega)]
  have r9 : s2.1 9 = [0] := by
    rw [hs2]
    show xadd 75 (s1.1 9) 0 = [0]
    rw [k1 9 (by decide) (by decide), h9]; rfl
  have r10 : s2.1 10 = [0] := by
    rw [hs2]
    show xadd 75 (s1.1 10) 0 = [0]
    rw [k1 10 (by decide) (by decide), h10]; rfl
  have e42 : (f_4010 0 s1).2 = 0 := by
    show nI (xadd 75 (s1.1 9) 0).length - 1 = 0
    rw [k1 9 (by decide) (by decide), h9]; rfl
  have q2 : Q1 s2 1 e 0 ((4, 0) :: (28, v2) :: (4, nI 1) :: (29, v4) :: (30, v5) :: r) := q1.co ⟨k2 0 (by decide), fun v _ => by rw [hs2]; rfl⟩ (k2 1 (by decide))
  obtain ⟨q3, z3⟩ := q2.sk (x := 35) (by decide) (by decide)
  obtain ⟨s3, hs3⟩ : ∃ s3, s3 = sB (au_cd 13 0 (au_nx (au_sk 35 s2))) 14 [] := ⟨_, rfl⟩
  have q4 : Q1 s3 2 e 0 ((28, v2) :: (4, nI 1) :: (29, v4) :: (30, v5) :: r) := by
    rw [hs3]
    exact ((q3.nx (by decide) (fun _ => rfl)).cd).co (Co_sB (by decide)) rfl
  have k3 : ∀ k, k ≠ 0 → k ≠ 7 → k ≠ 8 → k ≠ 14 → s3.1 k = s2.1 k := fun k b0 b1 b2 b3 => by
    rw [hs3]
    show (if k = 14 then _ else if k = 8 then _ else if k = 7 then _ else if k = 0 then _ else s2.1 k) = _
    rw [if_neg b3, if_neg b2, if_neg b1, if_neg b0]
  have r14 : s3.1 14 = [] := by rw [hs3]; rfl
  have t3 : (s3.1 0).getD 0 0 = 10 := by
    rw [hs3]
    show ((au_sk 35 s2).1 0).getD 0 0 = 10
    rw [z3 0 (by decide), k2 0 (by decide)]
    exact t0
  have acc2 : ∃ w, au_acc (s1, 8, [(53, au_pn (au_bp s), s.2 2, 0, 0, 0)], []) = .inl (s3, 9, [(53, au_pn (au_bp s), s.2 2, w, 0, 0)], []) := by
    refine ⟨au_cn (au_cd 13 0 (au_nx (au_sk 35 s2))), ?_⟩
    rw [acc_n (by decide)]
    unfold au_acc0
    rw [if_neg (by decide), if_neg (by decide), if_neg (by decide), if_neg (by decide), if_neg (by decide), if_neg (by decide), if_pos rfl]
    unfold au_dfw f_4012
    rw [if_pos (st_ko q1), q1.hd.2.1, k1 9 (by decide) (by decide), h9, if_pos xpos_nil]
    dsimp only
    rw [e42, ← hs2, ← hs3]
  obtain ⟨w, acc2⟩ := acc2
  -- (
  have acc3 : au_acc (s3, 9, [(53, au_pn (au_bp s), s.2 2, w, 0, 0)], []) = .inl (au_up s3, 10, [(53, au_pn (au_bp s), s.2 2, w, 0, 0)], []) := by
    rw [acc_n (by decide)]
    unfold au_acc0
    rw [if_neg (by decide), if_neg (by decide), if_neg (by decide), if_neg (by decide), if_neg (by decide), if_neg (by decide), if_neg (by decide), if_pos rfl, if_pos (st_ko q4), au_lv_y q4.1 (by decide)]
  have q5 := q4.up (by decide) (fun z => absurd z (by decide)) (by decide)
  -- x
  obtain ⟨s5, u5, g1, g2, g3, g4, g5⟩ := q5.var (q := 1) (x := 14) (k := fun s2 _ => .inl (s2, 12, [(53, au_pn (au_bp s), s.2 2, w, 0, 0)], [])) (by decide) (Or.inr rfl) (by show N8 (s3.1 14); rw [r14]; exact N8.nil)
  have acc4 : au_acc (au_up s3, 10, [(53, au_pn (au_bp s), s.2 2, w, 0, 0)], []) = .inl (s5, 12, [(53, au_pn (au_bp s), s.2 2, w, 0, 0)], []) := by
    rw [acc_n (by decide)]
    unfold au_acc0
    rw [if_neg (by decide), if_neg (by decide), if_neg (by decide), if_neg (by decide), if_neg (by decide), if_neg (by decide), if_neg (by decide), if_neg (by decide), if_pos rfl, if_neg (by rw [st_ko q5]; decide)]
    unfold au_prm
    rw [if_pos (st_ko q5), if_pos (by show xpos (s3.1 14) _ = -1; rw [r14]; exact xpos_nil)]
    exact g1
  have r514 : s5.1 14 = [nI 1] := by
    have := g5 (by show nI 1 ∉ s3.1 14; rw [r14]; simp)
    rw [this]
    show s3.1 14 ++ [nI 1] = _
    rw [r14]; rfl
  -- )
  obtain ⟨s6, hs6⟩ : ∃ s6, s6 = au_pz 0 s5 := ⟨_, rfl⟩
  have acc5 : au_acc (s5, 12, [(53, au_pn (au_bp s), s.2 2, w, 0, 0)], []) = .inl (s6, 7, [(53, au_pn (au_bp s), s.2 2, w, 0, 0)], []) := by
    rw [acc_n (by decide)]
    unfold au_acc0
    rw [if_neg (by decide), if_neg (by decide), if_neg (by decide), if_neg (by decide), if_neg (by decide), if_neg (by decide), if_neg (by decide), if_neg (by decide), if_neg (by decide), if_neg (by decide), if_pos rfl, if_neg (by rw [st_ko g2]; decide), if_pos (st_ko g2)]
    unfold au_pcl
    dsimp only
    rw [hs6]
  have k6 : ∀ k, k < 10 ∨ 12 < k → s6.1 k = s5.1 k := fun k hk => by
    rw [hs6]
    show (if k = 12 then _ else if k = 11 then _ else if k = 10 then _ else s5.1 k) = _
    rw [if_neg (by omega), if_neg (by omega), if_neg (by omega)]
  have r510 : s5.1 10 = [0] := by
    rw [g3.1 10 (by decide)]
    exact (k3 10 (by decide) (by decide) (by decide) (by decide)).trans r10
  have r610 : s6.1 10 = [1] := by
    rw [hs6]
    show xset (s5.1 10) 0 (nI (s5.1 14).length) = [1]
    rw [r510, r514]; rfl
  have q6 : Q1 s6 5 e 0 ((30, v5) :: r) := by
    have y := (g2.nx (by decide) (fun z => absurd z (by decide))).dn
    refine ⟨?_, ⟨by rw [k6 0 (by decide)]; exact y.2.1.1, by rw [k6 1 (by decide)]; exact y.2.1.2⟩, fun t ht => by rw [k6 0 (by decide), k6 1 (by decide)]; exact y.2.2 t ht⟩
    have y1 := y.1.s5 (x := 1) (Or.inr rfl)
    rw [hs6]
    exact y1
  -- {
  have h62 : s6.2 2 = nI 5 := q6.hd.2.2.1
  have acc6 : au_acc (s6, 7, [(53, au_pn (au_bp s), s.2 2, w, 0, 0)], []) = .inl (au_up s6, 0, [], [(10, au_pn (au_bp s), w, 0, s.2 2, s6.2 2)]) := by
    rw [acc_n (by decide)]
    unfold au_acc0
    rw [if_neg (by decide), if_neg (by decide), if_neg (by decide), if_neg (by decide), if_neg (by decide), if_pos rfl]
    dsimp only
    rw [if_pos (st_ko q6), au_lv_y q6.1 (by decide)]
    rfl
  have q7 := q6.up (by decide) (fun z => absurd z (by decide)) (by decide)
  have kk : ∀ k, k = 13 ∨ 15 ≤ k ∧ k ≤ 17 → s6.1 k = s.1 k ∨ k = 13 := fun k hk => by
    rcases hk with z | z
    · exact Or.inr z
    · left
      rw [k6 k (by omega), g3.1 k (by omega)]
      show s3.1 k = _
      rw [k3 k (by omega) (by omega) (by omega) (by omega), k2 k (by omega), k1 k (by omega) (by omega)]
  refine ⟨au_up s6, _, (GoA.one acc1).tr ((GoA.one acc2).tr ((GoA.one acc3).tr ((GoA.one acc4).tr ((GoA.one acc5).tr (GoA.one acc6))))), q7, ⟨⟨[], ?_, ?_, ?_, ?_, fun j hj => by cases hj⟩, ?_, ?_, ?_, ?_, r610⟩, rfl, h22, h62, ?_, ?_⟩
  · show s6.1 15 = []
    rw [(kk 15 (by decide)).resolve_right (by decide), h15]
  · show s6.1 16 = []
    rw [(kk 16 (by decide)).resolve_right (by decide), h16]
  · show (s6.1 17).length = 0
    rw [(kk 17 (by decide)).resolve_right (by decide), h17]; rfl
  · exact Nat.zero_le _
  · show N8 (s6.1 13)
    rw [k6 13 (by decide)]
    refine g3.2.1 ?_
    show N8 (s3.1 13)
    rw [k3 13 (by decide) (by decide) (by decide) (by decide), k2 13 (by decide), k1 13 (by decide) (by decide), h13]
    exact N8.nil
  · show N8 (s6.1 14)
    rw [k6 14 (by decide), r514]
    exact ⟨[1], rfl, by simp, fun x hx => by rw [List.mem_singleton] at hx; omega⟩
  · show (s6.1 5).length = 1
    rw [k6 5 (by decide), g3.1 5 (by decide)]
    show (s3.1 5).length = 1
    rw [k3 5 (by decide) (by decide) (by decide) (by decide), k2 5 (by decide)]
    exact l1
  · show s6.1 9 = [0]
    rw [k6 9 (by decide), g3.1 9 (by decide)]
    exact (k3 9 (by decide) (by decide) (by decide) (by decide)).trans r9
  · show (s6.1 0).getD 0 0 = 10
    rw [k6 0 (by decide), g4 0 (by decide)]
    exact t3
  · exact q6.hd.2.2.2.1
end TXTD
