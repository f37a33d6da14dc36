/-! how a drawn program is read: its head, all of it -/
section TXTD
variable {s s' : Sx} {a e L np : Nat} {op bl : List Ae} {rest r : List KV} {st : Int32} {tx : List Int32}
theorem acc_n {n : Int32} (h : n = 7 ∨ n = 8 ∨ n = 9 ∨ n = 10 ∨ n = 12) : au_acc (s, n, op, bl) = au_acc0 s n op bl := au_acc_n (by rcases h with z | z | z | z | z <;> rw [z] <;> decide)
theorem xpos_nil {v : Int32} : xpos [] v = -1 := if_neg (by simp)
/-- def f(x){ -/
theorem def_go {v0 v2 v4 v5 : Int32} (h : Q1 s 0 e 0 ((10, v0) :: (4, 0) :: (28, v2) :: (4, nI 1) :: (29, v4) :: (30, v5) :: r)) (h5 : s.1 5 = []) (h9 : s.1 9 = []) (h10 : s.1 10 = []) (h13 : s.1 13 = []) (h15 : s.1 15 = []) (h16 : s.1 16 = []) (h17 : s.1 17 = []) :
    ∃ s' bb, Go (s, 0, [], []) (s', 0, [], [bb]) ∧ Q1 s' 6 e 1 r ∧ SB s' 6 1 ∧ bb.1 = 10 ∧ bb.2.2.2.2.1 = nI 0 ∧ bb.2.2.2.2.2 = nI 5 ∧ (s'.1 0).getD 0 0 = 10 ∧ (s'.1 0).getD 5 0 = 30 := by
  -- def
  have acc1 := acc_st (op := []) (bl := []) h (by decide)
  have ko1 := st_ko h
  have h22 : s.2 2 = nI 0 := h.hd.2.2.1
  have h24 : s.2 4 ≤ 0 := by
    rw [h.1.2.2.2.2.2.2.1]; decide
  unfold au_st at acc1
  rw [ko1, if_neg (by decide), if_neg (by decide), if_neg (by decide), if_neg (by decide), if_neg (by decide), if_neg (by decide), if_pos rfl, if_pos h24] at acc1
  obtain ⟨s1, hs1⟩ : ∃ s1, s1 = au_nx (au_bp s) := ⟨_, rfl⟩
  rw [← hs1] at acc1
  have q1 : Q1 s1 1 e 0 ((4, 0) :: (28, v2) :: (4, nI 1) :: (29, v4) :: (30, v5) :: r) := by rw [hs1]; exact h.bp.nx (by decide) (fun z => absurd z (by decide))
  have k1 : ∀ k, k ≠ 5 → k ≠ 6 → s1.1 k = s.1 k := fun k b1 b2 => by rw [hs1]; exact bp_k ⟨b1, b2⟩
  have l1 : (s1.1 5).length = 1 := by
    rw [hs1]
    show ((au_bp s).1 5).length = 1
    rw [bp5 (by rw [h5]; decide), h5]; rfl
  have t0 : (s1.1 0).getD 0 0 = 10 := by rw [k1 0 (by decide) (by decide)]; exact h.hd.2.2.2.1
  -- its name
  obtain ⟨s2, hs2⟩ : ∃ s2, s2 = (f_4010 0 s1).1 := ⟨_, rfl⟩
  have k2 : ∀ k, k < 9 ∨ 12 < k → s2.1 k = s1.1 k := fun k hk => by
    rw [hs2]
    show (if k = 12 then _ else if k = 11 then _ else if k = 10 then _ else if k = 9 then _ else s1.1 k) = _
    rw [if_neg (by omega), if_neg (by omega), if_neg (by omega), if_neg (by omega)]
  have r9 : s2.1 9 = [0] := by
    rw [hs2]
    show xadd 75 (s1.1 9) 0 = [0]
    rw [k1 9 (by decide) (by decide), h9]; rfl
  have r10 : s2.1 10 = [0] := by
    rw [hs2]
    show xadd 75 (s1.1 10) 0 = [0]
    rw [k1 10 (by decide) (by decide), h10]; rfl
  have e42 : (f_4010 0 s1).2 = 0 := by
    show nI (xadd 75 (s1.1 9) 0).length - 1 = 0
    rw [k1 9 (by decide) (by decide), h9]; rfl
  have q2 : Q1 s2 1 e 0 ((4, 0) :: (28, v2) :: (4, nI 1) :: (29, v4) :: (30, v5) :: r) := q1.co ⟨k2 0 (by decide), fun v _ => by rw [hs2]; rfl⟩ (k2 1 (by decide))
  obtain ⟨q3, z3⟩ := q2.sk (x := 35) (by decide) (by decide)
  obtain ⟨s3, hs3⟩ : ∃ s3, s3 = sB (au_cd 13 0 (au_nx (au_sk 35 s2))) 14 [] := ⟨_, rfl⟩
  have q4 : Q1 s3 2 e 0 ((28, v2) :: (4, nI 1) :: (29, v4) :: (30, v5) :: r) := by
    rw [hs3]
    exact ((q3.nx (by decide) (fun _ => rfl)).cd).co (Co_sB (by decide)) rfl
  have k3 : ∀ k, k ≠ 0 → k ≠ 7 → k ≠ 8 → k ≠ 14 → s3.1 k = s2.1 k := fun k b0 b1 b2 b3 => by
    rw [hs3]
    show (if k = 14 then _ else if k = 8 then _ else if k = 7 then _ else if k = 0 then _ else s2.1 k) = _
    rw [if_neg b3, if_neg b2, if_neg b1, if_neg b0]
  have r14 : s3.1 14 = [] := by rw [hs3]; rfl
  have t3 : (s3.1 0).getD 0 0 = 10 := by
    rw [hs3]
    show ((au_sk 35 s2).1 0).getD 0 0 = 10
    rw [z3 0 (by decide), k2 0 (by decide)]
    exact t0
  have acc2 : ∃ w, au_acc (s1, 8, [(53, au_pn (au_bp s), s.2 2, 0, 0, 0)], []) = .inl (s3, 9, [(53, au_pn (au_bp s), s.2 2, w, 0, 0)], []) := by
    refine ⟨au_cn (au_cd 13 0 (au_nx (au_sk 35 s2))), ?_⟩
    rw [acc_n (by decide)]
    unfold au_acc0
    rw [if_neg (by decide), if_neg (by decide), if_neg (by decide), if_neg (by decide), if_neg (by decide), if_neg (by decide), if_pos rfl]
    unfold au_dfw f_4012
    rw [if_pos (st_ko q1), q1.hd.2.1, k1 9 (by decide) (by decide), h9, if_pos xpos_nil]
    dsimp only
    rw [e42, ← hs2, ← hs3]
  obtain ⟨w, acc2⟩ := acc2
  -- (
  have acc3 : au_acc (s3, 9, [(53, au_pn (au_bp s), s.2 2, w, 0, 0)], []) = .inl (au_up s3, 10, [(53, au_pn (au_bp s), s.2 2, w, 0, 0)], []) := by
    rw [acc_n (by decide)]
    unfold au_acc0
    rw [if_neg (by decide), if_neg (by decide), if_neg (by decide), if_neg (by decide), if_neg (by decide), if_neg (by decide), if_neg (by decide), if_pos rfl, if_pos (st_ko q4), au_lv_y q4.1 (by decide)]
  have q5 := q4.up (by decide) (fun z => absurd z (by decide)) (by decide)
  -- x
  obtain ⟨s5, u5, g1, g2, g3, g4, g5⟩ := q5.var (q := 1) (x := 14) (k := fun s2 _ => .inl (s2, 12, [(53, au_pn (au_bp s), s.2 2, w, 0, 0)], [])) (by decide) (Or.inr rfl) (by show N8 (s3.1 14); rw [r14]; exact N8.nil)
  have acc4 : au_acc (au_up s3, 10, [(53, au_pn (au_bp s), s.2 2, w, 0, 0)], []) = .inl (s5, 12, [(53, au_pn (au_bp s), s.2 2, w, 0, 0)], []) := by
    rw [acc_n (by decide)]
    unfold au_acc0
    rw [if_neg (by decide), if_neg (by decide), if_neg (by decide), if_neg (by decide), if_neg (by decide), if_neg (by decide), if_neg (by decide), if_neg (by decide), if_pos rfl, if_neg (by rw [st_ko q5]; decide)]
    unfold au_prm
    rw [if_pos (st_ko q5), if_pos (by show xpos (s3.1 14) _ = -1; rw [r14]; exact xpos_nil)]
    exact g1
  have r514 : s5.1 14 = [nI 1] := by
    have := g5 (by show nI 1 ∉ s3.1 14; rw [r14]; simp)
    rw [this]
    show s3.1 14 ++ [nI 1] = _
    rw [r14]; rfl
  -- )
  obtain ⟨s6, hs6⟩ : ∃ s6, s6 = au_pz 0 s5 := ⟨_, rfl⟩
  have acc5 : au_acc (s5, 12, [(53, au_pn (au_bp s), s.2 2, w, 0, 0)], []) = .inl (s6, 7, [(53, au_pn (au_bp s), s.2 2, w, 0, 0)], []) := by
    rw [acc_n (by decide)]
    unfold au_acc0
    rw [if_neg (by decide), if_neg (by decide), if_neg (by decide), if_neg (by decide), if_neg (by decide), if_neg (by decide), if_neg (by decide), if_neg (by decide), if_neg (by decide), if_neg (by decide), if_pos rfl, if_neg (by rw [st_ko g2]; decide), if_pos (st_ko g2)]
    unfold au_pcl
    dsimp only
    rw [hs6]
  have k6 : ∀ k, k < 10 ∨ 12 < k → s6.1 k = s5.1 k := fun k hk => by
    rw [hs6]
    show (if k = 12 then _ else if k = 11 then _ else if k = 10 then _ else s5.1 k) = _
    rw [if_neg (by omega), if_neg (by omega), if_neg (by omega)]
  have r510 : s5.1 10 = [0] := by
    rw [g3.1 10 (by decide)]
    exact (k3 10 (by decide) (by decide) (by decide) (by decide)).trans r10
  have r610 : s6.1 10 = [1] := by
    rw [hs6]
    show xset (s5.1 10) 0 (nI (s5.1 14).length) = [1]
    rw [r510, r514]; rfl
  have q6 : Q1 s6 5 e 0 ((30, v5) :: r) := by
    have y := (g2.nx (by decide) (fun z => absurd z (by decide))).dn
    refine ⟨?_, ⟨by rw [k6 0 (by decide)]; exact y.2.1.1, by rw [k6 1 (by decide)]; exact y.2.1.2⟩, fun t ht => by rw [k6 0 (by decide), k6 1 (by decide)]; exact y.2.2 t ht⟩
    have y1 := y.1.s5 (x := 1) (Or.inr rfl)
    rw [hs6]
    exact y1
  -- {
  have h62 : s6.2 2 = nI 5 := q6.hd.2.2.1
  have acc6 : au_acc (s6, 7, [(53, au_pn (au_bp s), s.2 2, w, 0, 0)], []) = .inl (au_up s6, 0, [], [(10, au_pn (au_bp s), w, 0, s.2 2, s6.2 2)]) := by
    rw [acc_n (by decide)]
    unfold au_acc0
    rw [if_neg (by decide), if_neg (by decide), if_neg (by decide), if_neg (by decide), if_neg (by decide), if_pos rfl]
    dsimp only
    rw [if_pos (st_ko q6), au_lv_y q6.1 (by decide)]
    rfl
  have q7 := q6.up (by decide) (fun z => absurd z (by decide)) (by decide)
  have kk : ∀ k, k = 13 ∨ 15 ≤ k ∧ k ≤ 17 → s6.1 k = s.1 k ∨ k = 13 := fun k hk => by
    rcases hk with z | z
    · exact Or.inr z
    · left
      rw [k6 k (by omega), g3.1 k (by omega)]
      show s3.1 k = _
      rw [k3 k (by omega) (by omega) (by omega) (by omega), k2 k (by omega), k1 k (by omega) (by omega)]
  refine ⟨au_up s6, _, (Go.one acc1).tr ((Go.one acc2).tr ((Go.one acc3).tr ((Go.one acc4).tr ((Go.one acc5).tr (Go.one acc6))))), q7, ⟨⟨[], ?_, ?_, ?_, ?_, fun j hj => by cases hj⟩, ?_, ?_, ?_, ?_, r610⟩, rfl, h22, h62, ?_, ?_⟩
  · show s6.1 15 = []
    rw [(kk 15 (by decide)).resolve_right (by decide), h15]
  · show s6.1 16 = []
    rw [(kk 16 (by decide)).resolve_right (by decide), h16]
  · show (s6.1 17).length = 0
    rw [(kk 17 (by decide)).resolve_right (by decide), h17]; rfl
  · exact Nat.zero_le _
  · show N8 (s6.1 13)
    rw [k6 13 (by decide)]
    refine g3.2.1 ?_
    show N8 (s3.1 13)
    rw [k3 13 (by decide) (by decide) (by decide) (by decide), k2 13 (by decide), k1 13 (by decide) (by decide), h13]
    exact N8.nil
  · show N8 (s6.1 14)
    rw [k6 14 (by decide), r514]
    exact ⟨[1], rfl, by simp, fun x hx => by rw [List.mem_singleton] at hx; omega⟩
  · show (s6.1 5).length = 1
    rw [k6 5 (by decide), g3.1 5 (by decide)]
    show (s3.1 5).length = 1
    rw [k3 5 (by decide) (by decide) (by decide) (by decide), k2 5 (by decide)]
    exact l1
  · show s6.1 9 = [0]
    rw [k6 9 (by decide), g3.1 9 (by decide)]
    exact (k3 9 (by decide) (by decide) (by decide) (by decide)).trans r9
  · show (s6.1 0).getD 0 0 = 10
    rw [k6 0 (by decide), g4 0 (by decide)]
    exact t3
  · exact q6.hd.2.2.2.1
/-- its body, and } -/
def Bd (n : Nat) (rest r : List KV) : Prop := n = 1 ∧ Sm1 rest r ∨ n = 2 ∧ Sm2 rest r
theorem hdr_go {v0 v2 v4 v5 v6 : Int32} {n : Nat} (h : Q1 s 0 e 0 ((10, v0) :: (4, 0) :: (28, v2) :: (4, nI 1) :: (29, v4) :: (30, v5) :: rest)) (h5 : s.1 5 = []) (h9 : s.1 9 = []) (h10 : s.1 10 = []) (h13 : s.1 13 = []) (h15 : s.1 15 = []) (h16 : s.1 16 = []) (h17 : s.1 17 = [])
    (hB : Bd n rest ((31, v6) :: r)) : ∃ s' a', Go (s, 0, [], []) (s', 0, [], []) ∧ Q1 s' a' e 0 r ∧ SB s' a' (n + 1) ∧ 3 * (n + 1) ≤ a' ∧ s'.2 5 = 0 := by
  obtain ⟨s1, bb, g1, g2, g3, g4, g5, g6, g7, g8⟩ := def_go h h5 h9 h10 h13 h15 h16 h17
  have key : ∃ s2 a2, Go (s1, 0, [], [bb]) (s2, 0, [], [bb]) ∧ Q1 s2 a2 e 1 ((31, v6) :: r) ∧ SB s2 a2 (n + 1) ∧ Z0 s1 s2 6 ∧ 6 + 3 * n ≤ a2 := by
    rcases hB with ⟨e1, hS⟩ | ⟨e1, hS⟩
    · subst e1
      obtain ⟨s2, a2, k1, k2, k3, k4, k5, _⟩ := sm1_go (bl := [bb]) g2 hS g3 (by decide) (by decide)
      exact ⟨s2, a2, k1, k2, k3, k4, by omega⟩
    · subst e1
      obtain ⟨s2, a2, k1, k2, k3, k4, k5, _⟩ := sm2_go (bl := [bb]) g2 hS rfl (by decide) g3 (by decide) (by decide)
      exact ⟨s2, a2, k1, k2, k3, k4, by omega⟩
  obtain ⟨s2, a2, k1, k2, k3, k4, k5⟩ := key
  obtain ⟨p1, p2, p3⟩ := clb_go (b := bb) k2 g6 (by omega) ((k4 5 (by decide)).trans g8)
  have acc : au_acc (s2, 0, [], [bb]) = .inl (au_cls s2 bb []) := by
    rw [acc_0]
    unfold au_s0
    rw [if_pos k2.hd.1]
  unfold au_cls at acc
  rw [if_neg (by rw [g4]; decide), if_neg (by rw [g4]; decide), if_neg (by rw [g4]; decide), g5] at acc
  obtain ⟨s3, hs3⟩ : ∃ s3, s3 = sV (au_clb bb s2) 5 0 := ⟨_, rfl⟩
  rw [← hs3] at acc
  have q3 : Q1 s3 (a2 + 1) e 0 r := by
    rw [hs3]
    exact ⟨p1.1.s5 (Or.inl rfl), p1.2.1, p1.2.2⟩
  have c3 : SB s3 (a2 + 1) (n + 1) := by
    have := k3.ow p2 p3 (by omega : a2 ≤ a2 + 1)
    rw [hs3]
    exact this
  have t0 : (s3.1 0).getD 0 0 = 10 := by
    rw [hs3]
    exact (p3 0 (by omega)).trans ((k4 0 (by decide)).trans g7)
  have q4 : Q1 (au_pt bb.2.2.1 (au_cd 16 0 (au_cd 1 0 s3))) (a2 + 1) e 0 r := q3.cd.cd.pt
  have q5 := (q4.sv (t := 0) (x := s2.2 2 + 1) (by omega) (by show (s3.1 0).getD 0 0 ≠ 35; rw [t0]; decide)).ep (x := bb.2.1)
  refine ⟨_, a2 + 1, g1.tr (k1.tr (Go.one acc)), q5, ?_, by omega, ?_⟩
  · exact ((((c3.ow Ow.cd Z0.r (Nat.le_refl _)).ow Ow.cd Z0.r (Nat.le_refl _)).ow Ow.pt Z0.r (Nat.le_refl _)).ow Ow.sv Z0.r (Nat.le_refl _)).ow Ow.ep Z0.r (Nat.le_refl _)
  · show s3.2 5 = 0
    rw [hs3]; rfl
/-- statements in a row -/
def StT (n : Nat) (ts : List KV) : Prop := (∃ k v q, ts = (k, v) :: q ∧ k ≠ 6) ∧ ∀ r, Bd n (ts ++ r) r
def flT (ds : List (Nat × List KV)) : List KV := ds.flatMap (fun d => d.2)
def smT (ds : List (Nat × List KV)) : Nat := (ds.map (fun d => d.1)).sum
theorem sts_go {k2 v2 : Int32} {r' : List KV} (hr : r = (k2, v2) :: r') (hk2 : k2 ≠ 6) : ∀ (ds : List (Nat × List KV)) (s : Sx) (a np : Nat), Q1 s a e 0 (flT ds ++ r) → SB s a np → 3 * np ≤ a → (∀ d, d ∈ ds → StT d.1 d.2) → ∃ s' a', Go (s, 0, [], []) (s', 0, [], []) ∧ Q1 s' a' e 0 r ∧ SB s' a' (np + smT ds) ∧ 3 * (np + smT ds) ≤ a' ∧ s'.2 5 = s.2 5 := by
  intro ds
  induction ds with
  | nil =>
    intro s a np h hC hnp _
    exact ⟨s, a, Go.r _, h, hC, hnp, rfl⟩
  | cons d ds ih =>
    intro s a np h hC hnp hd
    obtain ⟨n, ts⟩ := d
    have hst := hd (n, ts) List.mem_cons_self
    have e1 : flT ((n, ts) :: ds) ++ r = ts ++ (flT ds ++ r) := by
      unfold flT
      rw [List.flatMap_cons, List.append_assoc]
    have e2 : smT ((n, ts) :: ds) = n + smT ds := by
      unfold smT
      rw [List.map_cons, List.sum_cons]
    have hh : ∃ k v q, flT ds ++ r = (k, v) :: q ∧ k ≠ 6 := by
      cases ds with
      | nil => exact ⟨k2, v2, r', hr, hk2⟩
      | cons d2 ds =>
        obtain ⟨⟨k, v, q, g1, g2⟩, _⟩ := hd d2 (List.mem_cons_of_mem _ List.mem_cons_self)
        refine ⟨k, v, q ++ (flT ds ++ r), ?_, g2⟩
        unfold flT
        rw [List.flatMap_cons, g1, List.append_assoc]
        rfl
    obtain ⟨k, v, q, hq, hk⟩ := hh
    rw [e1] at h
    rw [e2]
    have a300 : a ≤ 300 := by have := h.1.2.2.2.1; have := h.1.2.2.2.2.1; omega
    have one : ∃ s1 a1, Go (s, 0, [], []) (s1, 0, [], []) ∧ Q1 s1 a1 e 0 (flT ds ++ r) ∧ SB s1 a1 (np + n) ∧ 3 * (np + n) ≤ a1 ∧ s1.2 5 = s.2 5 := by
      rcases hst.2 (flT ds ++ r) with ⟨z, hS⟩ | ⟨z, hS⟩
      · have z' : n = 1 := z
        subst z'
        obtain ⟨s1, a1, g1, g2, g3, g4, g5, g6⟩ := sm1_go (bl := []) h hS hC (by omega) (by decide)
        exact ⟨s1, a1, g1, g2, g3, by omega, g6⟩
      · have z' : n = 2 := z
        subst z'
        obtain ⟨s1, a1, g1, g2, g3, g4, g5, g6⟩ := sm2_go (bl := []) h hS hq hk hC hnp (by decide)
        exact ⟨s1, a1, g1, g2, g3, by omega, g6⟩
    obtain ⟨s1, a1, g1, g2, g3, g4, g5⟩ := one
    obtain ⟨s2, a2, k1, k2', k3, k4, k5⟩ := ih s1 a1 (np + n) g2 g3 g4 (fun d' hd' => hd d' (List.mem_cons_of_mem _ hd'))
    exact ⟨s2, a2, g1.tr k1, k2', by rw [show np + (n + smT ds) = np + n + smT ds by omega]; exact k3, by omega, k5.trans g5⟩
/-- the tokens of a drawn program, as far as it goes -/
def PrgT (n : Nat) (ds : List (Nat × List KV)) (ts r : List KV) : Prop := ∃ v0 v2 v4 v5 v6 rest, ts = (10, v0) :: (4, 0) :: (28, v2) :: (4, nI 1) :: (29, v4) :: (30, v5) :: rest ∧ Bd n rest ((31, v6) :: (flT ds ++ r)) ∧ ∀ d, d ∈ ds → StT d.1 d.2
def kvs (tx : List Int32) : List KV := (tks tx).map (fun t => (t.1, t.2.1))
/-- the reader comes to r -/
theorem prg_go {k2 v2 : Int32} {r' : List KV} {n : Nat} {ds : List (Nat × List KV)} (hn : tx.length ≤ 300) (ht : tkR s (tks tx)) (hP : PrgT n ds (kvs tx) r) (hr : r = (k2, v2) :: r') (hk2 : k2 ≠ 6) : ∃ s' a', Go (rdA s, 0, [], []) (s', 0, [], []) ∧ Q1 s' a' ((tks tx).length - 1) 0 r ∧ SB s' a' (n + 1 + smT ds) ∧ s'.2 5 = 0 := by
  obtain ⟨v0, v2', v4, v5, v6, rest, hk, hB, hd⟩ := hP
  have hq : Q1 (rdA s) 0 ((tks tx).length - 1) 0 (kvs tx) := by
    refine ⟨(rdA_Lv hn ht).1, ⟨?_, ?_⟩, fun t ht => absurd ht (Nat.not_lt_zero _)⟩
    · rw [List.drop_zero, rdA_r s (by omega), ht.1]
      unfold kvs
      rw [List.map_map]
      rfl
    · rw [List.drop_zero, rdA_r s (by omega), ht.2.1]
      unfold kvs
      rw [List.map_map]
      rfl
  rw [hk] at hq
  obtain ⟨s1, a1, g1, g2, g3, g4, g5⟩ := hdr_go hq rfl rfl rfl rfl rfl rfl rfl hB
  obtain ⟨s2, a2, k1, k2'', k3, k4, k5⟩ := sts_go hr hk2 ds s1 a1 (n + 1) g2 g3 g4 hd
  exact ⟨s2, a2, g1.tr k1, k2'', k3, k5.trans g5⟩
end TXTD
