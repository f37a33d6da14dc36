/-! how a drawn program is read: statements -/
section STMD
variable {s s' : Sx} {a e L np : Nat} {op bl : List Ae} {rest r : List KV} {st : Int32}
/-- the calls so far -/
def OC (s : Sx) (a : Nat) : Prop := ∃ J : List Nat, s.1 15 = J.map nI ∧ s.1 16 = J.map (fun _ => 1) ∧ (s.1 17).length = J.length ∧ 3 * J.length ≤ a ∧ ∀ j, j ∈ J → j < a ∧ (s.1 0).getD j 0 = 35
theorem OC.ow {a' : Nat} (h : OC s a) (ho : Ow s s') (hz : Z0 s s' a) (ha : a ≤ a') : OC s' a' := by
  obtain ⟨J, h1, h2, h3, h4, h5⟩ := h
  refine ⟨J, (ho.1 15 (by decide)).trans h1, (ho.1 16 (by decide)).trans h2, by rw [ho.1 17 (by decide)]; exact h3, by omega, fun j hj => ?_⟩
  obtain ⟨g1, g2⟩ := h5 j hj
  exact ⟨by omega, (hz j g1).trans g2⟩
def SB (s : Sx) (a np : Nat) : Prop := OC s a ∧ N8 (s.1 13) ∧ N8 (s.1 14) ∧ (s.1 5).length = np ∧ s.1 9 = [0] ∧ s.1 10 = [1]
theorem SB.ow {a' : Nat} (h : SB s a np) (ho : Ow s s') (hz : Z0 s s' a) (ha : a ≤ a') : SB s' a' np := by
  obtain ⟨h1, h2, h3, h4, h5, h6⟩ := h
  exact ⟨h1.ow ho hz ha, ho.2.1 h2, ho.2.2.1 h3, by rw [ho.1 5 (by decide)]; exact h4, (ho.1 9 (by decide)).trans h5, (ho.1 10 (by decide)).trans h6⟩
/-- a part begins -/
theorem bp5 (hnp : (s.1 5).length < 150) : ((au_bp s).1 5).length = (s.1 5).length + 1 := by
  have : (au_bp s).1 5 = xadd 150 (s.1 5) (s.2 2) := rfl
  rw [this]
  unfold xadd
  rw [if_pos hnp, List.length_append]
  rfl
theorem bp_k {k : Nat} (hk : k ≠ 5 ∧ k ≠ 6) : (au_bp s).1 k = s.1 k := by
  show (if k = 6 then _ else if k = 5 then _ else s.1 k) = s.1 k
  rw [if_neg hk.2, if_neg hk.1]
theorem SB.bp (h : SB s a np) (hnp : np < 150) : SB (au_bp s) a (np + 1) := by
  obtain ⟨⟨J, j1, j2, j3, j4, j5⟩, h2, h3, h4, h5, h6⟩ := h
  have e : ∀ k, k ≠ 5 ∧ k ≠ 6 → (au_bp s).1 k = s.1 k := fun k hk => bp_k hk
  refine ⟨⟨J, by rw [e 15 (by decide)]; exact j1, by rw [e 16 (by decide)]; exact j2, by rw [e 17 (by decide)]; exact j3, j4, by rw [e 0 (by decide)]; exact j5⟩, by rw [e 13 (by decide)]; exact h2, by rw [e 14 (by decide)]; exact h3, ?_, by rw [e 9 (by decide)]; exact h5, by rw [e 10 (by decide)]; exact h6⟩
  rw [bp5 (by rw [h4]; exact hnp), h4]
theorem acc_0 : au_acc (s, 0, op, bl) = au_s0 s bl := by
  rw [au_acc_n (by decide)]
  unfold au_acc0
  rw [if_pos rfl]
theorem acc_st {k v : Int32} (h : Q1 s a e L ((k, v) :: r)) (hk : k ≠ 31) : au_acc (s, 0, op, bl) = au_st s bl := by
  rw [acc_0]
  unfold au_s0
  rw [h.hd.1, if_neg hk]
theorem acc_56 (hst : st = 5 ∨ st = 6) (hk : au_ko s = 27) : au_acc (s, st, op, bl) = .inl (au_nx s, 2, op, bl) := by
  have n : ∀ k : Int32, k = 0 ∨ k = 1 ∨ k = 2 ∨ k = 3 ∨ k = 4 → st ≠ k := by
    rintro k (rfl | rfl | rfl | rfl | rfl) <;> rcases hst with z | z <;> rw [z] <;> decide
  rw [au_acc_n (n 1 (by decide))]
  unfold au_acc0
  rw [if_neg (n 0 (by decide)), if_neg (n 1 (by decide)), if_neg (fun z => z.elim (n 2 (by decide)) (n 3 (by decide))), if_neg (n 4 (by decide)), if_pos hst, if_pos hk]
theorem lv33 : ¬ (0 < lvK 33 ∧ lvK 33 < 7) := by decide +kernel
theorem lv29 : ¬ (0 < lvK 29 ∧ lvK 29 < 7) := by decide +kernel
theorem lv30 : ¬ (0 < lvK 30 ∧ lvK 30 < 7) := by decide +kernel
theorem bt_k {b : Ae} (h : b.1 = 42 ∨ b.1 = 43 ∨ b.1 = 44 ∨ b.1 = 46 ∨ b.1 = 47 ∨ b.1 = 49) : Bt b := by
  unfold Bt
  rcases h with h | h | h | h | h | h <;> rw [h] <;> exact ⟨by decide +kernel, by decide, by decide, by decide⟩
/-- the ; of a statement -/
theorem semi_go {ms : List Ae} {b : Ae} {v : Int32} (h : Q1 s a e L ((33, v) :: r)) (hM : Ms s a ms) (hb : b.1 = 43 ∨ b.1 = 44 ∨ b.1 = 49) : ∃ s', Go (s, 4, ms ++ [b], bl) (s', 0, [], bl) ∧ Q1 s' (a + 1) e L r ∧ Ow s s' ∧ Z0 s s' a := by
  obtain ⟨ms', s', g1, g2, g3, g4, g5, g6⟩ := fl_go (lv := 1) (by decide) (bt_k (by rcases hb with z | z | z <;> simp [z])) (B := []) ms s hM h
  have hm := g6 rfl
  subst hm
  have hko := h.hd.1
  have acc : au_acc (s, 4, ms ++ [b], bl) = au_opr s (ms ++ [b]) bl := acc_opr
  unfold au_opr at acc
  rw [hko, if_neg lv33, g1] at acc
  dsimp only [List.nil_append] at acc
  rw [if_neg (fun z => absurd z.1 (by decide)), if_neg (fun z => absurd z.1 (by decide)), if_neg (fun z => absurd z.1 (by decide))] at acc
  have fin : ∀ c x : Int32, Q1 (au_ep b.2.1 (au_nx (au_cd c x s'))) (a + 1) e L r ∧ Ow s (au_ep b.2.1 (au_nx (au_cd c x s'))) ∧ Z0 s (au_ep b.2.1 (au_nx (au_cd c x s'))) a := fun c x =>
    ⟨(g3.cd.nx (by decide) (fun z => absurd z (by decide))).ep, ((g4.tr Ow.cd).tr Ow.nx).tr Ow.ep, g5⟩
  rcases hb with z | z | z
  · rw [if_pos ⟨rfl, z⟩] at acc
    obtain ⟨f1, f2, f3⟩ := fin 3 b.2.2.2.1
    exact ⟨_, Go.one acc, f1, f2, f3⟩
  · rw [if_neg (fun w => absurd w.2 (by rw [z]; decide)), if_pos ⟨rfl, z⟩] at acc
    obtain ⟨f1, f2, f3⟩ := fin 6 0
    exact ⟨_, Go.one acc, f1, f2, f3⟩
  · rw [if_neg (fun w => absurd w.2 (by rw [z]; decide)), if_neg (fun w => absurd w.2 (by rw [z]; decide)), if_neg (fun w => absurd w.2 (by rw [z]; decide)), if_pos ⟨rfl, z⟩] at acc
    obtain ⟨f1, f2, f3⟩ := fin 4 0
    exact ⟨_, Go.one acc, f1, f2, f3⟩
/-- simple statements, by their tokens -/
def Sm1 (rest r : List KV) : Prop :=
  (∃ q v r1 n w, q < 6 ∧ rest = (4, nI q) :: (27, v) :: r1 ∧ VlT n r1 ((33, w) :: r)) ∨
  (∃ v r1 n w, rest = (8, v) :: r1 ∧ VlT n r1 ((33, w) :: r)) ∨
  (∃ v u t r1 n w, rest = (26, v) :: (3, u) :: (27, t) :: r1 ∧ VlT n r1 ((33, w) :: r)) ∨
  (∃ v r1 n w u, rest = (4, 0) :: (28, v) :: r1 ∧ VlT n r1 ((29, w) :: (33, u) :: r))
/-- the value of a statement, and its ; -/
theorem vs_go {b : Ae} {n : Nat} {w : Int32} (h : Q1 s a e L rest) (hV : VlT n rest ((33, w) :: r)) (hC : SB s a np) (hL : L < 8) (hb : b.1 = 43 ∨ b.1 = 44 ∨ b.1 = 49) : ∃ s' a', Go (s, 2, [b], bl) (s', 0, [], bl) ∧ Q1 s' a' e L r ∧ SB s' a' np ∧ Z0 s s' a ∧ a + 2 ≤ a' ∧ s'.2 5 = s.2 5 := by
  obtain ⟨s1, a1, ms1, g1, g2, g3, g4, g5, g6⟩ := val_go (B := []) (b := b) (bl := bl) (bt_k (by rcases hb with z | z | z <;> simp [z])) hL n s a rest [] 2 h hV (Or.inl rfl) hC.2.1 hC.2.2.1 (fun x hx => by cases hx)
  obtain ⟨s2, k1, k2, k3, k4⟩ := semi_go (bl := bl) g2 g3 hb
  exact ⟨s2, a1 + 1, g1.tr k1, k2, (hC.ow g4 g5 (by omega)).ow k3 k4 (by omega), g5.tr k4 (by omega), by omega, k3.2.2.2.trans g4.2.2.2⟩
theorem au_lv_y {k : Sx → Ar} (h : Lv a e L s) (hL : L < 8) : au_lv s k = k (au_up s) := by
  unfold au_lv
  rw [if_pos ((h.l8).2 hL)]
theorem st_ko {k v : Int32} (h : Q1 s a e L ((k, v) :: r)) : au_ko s = k := h.hd.1
theorem asg_go {q : Nat} {v : Int32} {r1 : List KV} {n : Nat} {w : Int32} (h : Q1 s a e L ((4, nI q) :: (27, v) :: r1)) (hq : q < 6) (hV : VlT n r1 ((33, w) :: r)) (hC : SB s a np) (hnp : np < 150) (hL : L < 8) : ∃ s' a', Go (s, 0, [], bl) (s', 0, [], bl) ∧ Q1 s' a' e L r ∧ SB s' a' (np + 1) ∧ Z0 s s' a ∧ a + 3 ≤ a' ∧ s'.2 5 = s.2 5 := by
  have acc := acc_st (op := []) (bl := bl) h (by decide)
  unfold au_st at acc
  rw [if_pos (st_ko h), if_neg (by rw [h.nk]; decide)] at acc
  have hC1 := hC.bp hnp
  have h1 : Q1 (au_cd 0 0 (au_bp s)) a e L ((4, nI q) :: (27, v) :: r1) := h.bp.cd
  have hC2 : SB (au_cd 0 0 (au_bp s)) a (np + 1) := hC1.ow Ow.cd Z0.r (Nat.le_refl _)
  have hN : N8 ((au_cd 0 0 (au_bp s)).1 (f_5004 s)) := by
    rcases f5004_r (s := s) with z | z <;> rw [z]
    · exact hC2.2.1
    · exact hC2.2.2.1
  obtain ⟨s1, u, g1, g2, g3, g4, _⟩ := h1.var (k := fun s2 v => .inl (s2, 5, [(43, au_pn (au_bp s), s.2 2, v, 0, 0)], bl)) hq f5004_r hN
  rw [g1] at acc
  have c1 := hC2.ow g3 g4 (by omega : a ≤ a + 1)
  have acc2 := acc_56 (op := [(43, au_pn (au_bp s), s.2 2, u, 0, 0)]) (bl := bl) (st := 5) (Or.inl rfl) (st_ko g2)
  obtain ⟨s2, a2, k1, k2, k3, k4, k5, k6⟩ := vs_go (b := (43, au_pn (au_bp s), s.2 2, u, 0, 0)) (bl := bl) (g2.nx (by decide) (fun z => absurd z (by decide))) hV (c1.ow Ow.nx Z0.r (by omega : a + 1 ≤ a + 1 + 1)) hL (Or.inl rfl)
  refine ⟨s2, a2, (Go.one acc).tr ((Go.one acc2).tr k1), k2, k3, ?_, by omega, k6.trans g3.2.2.2⟩
  exact Z0.tr (b := a + 1) (s' := s1) g4 (fun t ht => k4 t (by omega)) (by omega)
theorem out_go {v : Int32} {r1 : List KV} {n : Nat} {w : Int32} (h : Q1 s a e L ((8, v) :: r1)) (hV : VlT n r1 ((33, w) :: r)) (hC : SB s a np) (hnp : np < 150) (hL : L < 8) : ∃ s' a', Go (s, 0, [], bl) (s', 0, [], bl) ∧ Q1 s' a' e L r ∧ SB s' a' (np + 1) ∧ Z0 s s' a ∧ a + 3 ≤ a' ∧ s'.2 5 = s.2 5 := by
  have acc := acc_st (op := []) (bl := bl) h (by decide)
  have ko := st_ko h
  unfold au_st at acc
  rw [ko, if_neg (by decide), if_neg (by decide), if_pos rfl] at acc
  have hC2 : SB (au_cd 0 0 (au_bp s)) a (np + 1) := (hC.bp hnp).ow Ow.cd Z0.r (Nat.le_refl _)
  obtain ⟨s2, a2, k1, k2, k3, k4, k5, k6⟩ := vs_go (b := (44, au_pn (au_bp s), s.2 2, 0, 0, 0)) (bl := bl) ((h.bp.cd (c := 0) (x := 0)).nx (by decide) (fun z => absurd z (by decide))) hV (hC2.ow Ow.nx Z0.r (by omega : a ≤ a + 1)) hL (Or.inr (Or.inl rfl))
  exact ⟨s2, a2, (Go.one acc).tr k1, k2, k3, fun t ht => k4 t (by omega), by omega, k6⟩
theorem cel_go {v u t : Int32} {r1 : List KV} {n : Nat} {w : Int32} (h : Q1 s a e L ((26, v) :: (3, u) :: (27, t) :: r1)) (hV : VlT n r1 ((33, w) :: r)) (hC : SB s a np) (hnp : np < 150) (hL : L < 7) : ∃ s' a', Go (s, 0, [], bl) (s', 0, [], bl) ∧ Q1 s' a' e L r ∧ SB s' a' (np + 1) ∧ Z0 s s' a ∧ a + 3 ≤ a' ∧ s'.2 5 = s.2 5 := by
  have acc := acc_st (op := []) (bl := bl) h (by decide)
  have ko := st_ko h
  unfold au_st at acc
  rw [ko, if_neg (by decide), if_pos rfl] at acc
  have hC2 : SB (au_cd 0 0 (au_bp s)) a (np + 1) := (hC.bp hnp).ow Ow.cd Z0.r (Nat.le_refl _)
  obtain ⟨p1, p2⟩ := (h.bp.cd (c := 0) (x := 0)).sk (x := 37) (by decide) (by decide)
  have hC3 := hC2.ow Ow.sk p2 (Nat.le_refl _)
  rw [au_lv_y p1.1 (by omega)] at acc
  have p3 := p1.up (by decide) (fun z => absurd z (by decide)) (by omega)
  have hC4 := hC3.ow Ow.up Z0.r (by omega : a ≤ a + 1)
  obtain ⟨s1, g1, g2, g3, g4⟩ := base_go (op := [(48, au_pn (au_bp s), s.2 2, 0, 0, 0)]) (bl := bl) (st := 2) p3 (Or.inl ⟨u, rfl⟩) (Or.inl rfl) hC4.2.1 hC4.2.2.1
  have e48 : au_en bl [(48, au_pn (au_bp s), s.2 2, 0, 0, 0)] s1 = (au_dn s1, 6, [(49, au_pn (au_bp s), s.2 2, 0, 0, 0)], bl) := by
    unfold au_en
    rw [if_neg (by show ¬ (48 : Int32) = 40; decide), if_pos (by rfl)]
  rw [e48] at g1
  have hC5 := (hC4.ow g3 g4 (by omega : a + 1 ≤ a + 1 + 1)).ow (Ow.dn (s := s1)) Z0.r (Nat.le_refl _)
  have q5 := g2.dn
  have acc2 := acc_56 (op := [(49, au_pn (au_bp s), s.2 2, 0, 0, 0)]) (bl := bl) (st := 6) (Or.inr rfl) (st_ko q5)
  obtain ⟨s2, a2, k1, k2, k3, k4, k5, k6⟩ := vs_go (b := (49, au_pn (au_bp s), s.2 2, 0, 0, 0)) (bl := bl) (q5.nx (by decide) (fun z => absurd z (by decide))) hV (hC5.ow Ow.nx Z0.r (by omega : a + 1 + 1 ≤ a + 1 + 1 + 1)) (by omega) (Or.inr (Or.inr rfl))
  refine ⟨s2, a2, (Go.one acc).tr ((Go.one g1).tr ((Go.one acc2).tr k1)), k2, k3, fun t ht => ?_, by omega, k6.trans g3.2.2.2⟩
  rw [k4 t (by omega)]
  show (s1.1 0).getD t 0 = _
  rw [g4 t (by omega)]
  exact p2 t ht
theorem call_go {v : Int32} {r1 : List KV} {n : Nat} {w u : Int32} (h : Q1 s a e L ((4, 0) :: (28, v) :: r1)) (hV : VlT n r1 ((29, w) :: (33, u) :: r)) (hC : SB s a np) (hnp : np < 150) (hL : L < 7) : ∃ s' a', Go (s, 0, [], bl) (s', 0, [], bl) ∧ Q1 s' a' e L r ∧ SB s' a' (np + 1) ∧ Z0 s s' a ∧ a + 3 ≤ a' ∧ s'.2 5 = s.2 5 := by
  have acc := acc_st (op := []) (bl := bl) h (by decide)
  unfold au_st at acc
  rw [if_pos (st_ko h), if_pos h.nk] at acc
  obtain ⟨s1, hs1⟩ : ∃ s1, s1 = au_cd 0 0 (au_bp s) := ⟨_, rfl⟩
  rw [← hs1] at acc
  have h1 : Q1 s1 a e L ((4, 0) :: (28, v) :: r1) := by rw [hs1]; exact h.bp.cd
  have hC2 : SB s1 a (np + 1) := by rw [hs1]; exact (hC.bp hnp).ow Ow.cd Z0.r (Nat.le_refl _)
  have z1 : Z0 s s1 a := by rw [hs1]; exact Z0.r
  have d1 : s1.2 5 = s.2 5 := by rw [hs1]; rfl
  obtain ⟨⟨J, j1, j2, j3, j4, j5⟩, n13, n14, l5, r9, r10⟩ := hC2
  have a300 : a ≤ 300 := h1.hd.2.2.2.2.2.2.2.2.2
  have h22 : s1.2 2 = nI a := h1.hd.2.2.1
  have jl : J.length ≤ 100 := by omega
  have e15 : xadd (ev_cap 15) (s1.1 15) (s1.2 2) = (J ++ [a]).map nI := by
    unfold xadd
    rw [j1, if_pos (by rw [List.length_map]; show J.length < 150; omega), h22, List.map_append]
    rfl
  have e16 : xadd (ev_cap 16) (s1.1 16) 0 = J.map (fun _ => (1 : Int32)) ++ [0] := by
    unfold xadd
    rw [j2, if_pos (by rw [List.length_map]; show J.length < 150; omega)]
  have e17 : (xadd (ev_cap 17) (s1.1 17) 0).length = J.length + 1 := by
    unfold xadd
    rw [if_pos (by rw [j3]; show J.length < 150; omega), List.length_append, j3]
    rfl
  -- the name is marked
  obtain ⟨s2, hs2⟩ : ∃ s2, s2 = au_ca 17 0 (au_ca 16 0 (au_ca 15 (s1.2 2) s1)) := ⟨_, rfl⟩
  have rk : ∀ k, k ≠ 15 → k ≠ 16 → k ≠ 17 → s2.1 k = s1.1 k := fun k a1 a2 a3 => by
    rw [hs2]
    show (if k = 17 then _ else if k = 16 then _ else if k = 15 then _ else s1.1 k) = _
    rw [if_neg a3, if_neg a2, if_neg a1]
  have r15 : s2.1 15 = (J ++ [a]).map nI := by rw [hs2]; exact e15
  have r16 : s2.1 16 = J.map (fun _ => (1 : Int32)) ++ [0] := by rw [hs2]; exact e16
  have r17 : (s2.1 17).length = J.length + 1 := by rw [hs2]; exact e17
  have h2 : Q1 s2 a e L ((4, 0) :: (28, v) :: r1) := h1.co ⟨rk 0 (by decide) (by decide) (by decide), fun v _ => by rw [hs2]; rfl⟩ (rk 1 (by decide) (by decide) (by decide))
  obtain ⟨h3, z3⟩ := h2.sk (x := 35) (by decide) (by decide)
  have h4 := h3.nx (by decide) (fun _ => rfl)
  have ecall : au_call s1 [(50, au_pn (au_bp s), s.2 2, 0, 0, 0)] bl = .inl (au_nx (au_sk 35 s2), 13, [(42, nI J.length, 0, s1.2 2 + 1, 0, 0), (50, au_pn (au_bp s), s.2 2, 0, 0, 0)], bl) := by
    unfold au_call
    rw [← hs2]
    have : (s1.1 15).length = J.length := by rw [j1, List.length_map]
    rw [this]
  rw [ecall] at acc
  -- the (
  obtain ⟨h5, z5⟩ := h4.sk (x := 38) (by decide) (by decide)
  have acc2 : au_acc (au_nx (au_sk 35 s2), 13, [(42, nI J.length, 0, s1.2 2 + 1, 0, 0), (50, au_pn (au_bp s), s.2 2, 0, 0, 0)], bl) = .inl (au_up (au_sk 38 (au_nx (au_sk 35 s2))), 3, [(42, nI J.length, 0, s1.2 2 + 1, 0, 0), (50, au_pn (au_bp s), s.2 2, 0, 0, 0)], bl) := by
    rw [au_acc_n (by decide)]
    unfold au_acc0
    rw [if_neg (by decide), if_neg (by decide), if_neg (by decide), if_neg (by decide), if_neg (by decide), if_neg (by decide), if_neg (by decide), if_neg (by decide), if_neg (by decide), if_neg (by decide), if_neg (by decide), if_pos rfl, au_lv_y h5.1 (by omega)]
  have h6 := h5.up (by decide) (fun z => absurd z (by decide)) (by omega)
  obtain ⟨s6, hs6⟩ : ∃ s6, s6 = au_up (au_sk 38 (au_nx (au_sk 35 s2))) := ⟨_, rfl⟩
  rw [← hs6] at acc2 h6
  have k6 : ∀ k, k ≠ 0 → s6.1 k = s2.1 k := fun k hk => by
    rw [hs6]
    show (if k = 0 then _ else if k = 0 then _ else s2.1 k) = _
    rw [if_neg hk, if_neg hk]
  have z6 : Z0 s2 s6 a := fun t ht => by
    rw [hs6]
    exact (z5 t (by omega)).trans (z3 t ht)
  have a6 : (s6.1 0).getD a 0 = 35 := by
    rw [hs6]
    exact (z5 a (by omega)).trans h3.hd.2.2.2.1
  have d6 : s6.2 5 = s2.2 5 := by rw [hs6]; rfl
  have d2 : s2.2 5 = s1.2 5 := by rw [hs2]; rfl
  -- the argument
  obtain ⟨s7, a7, ms7, g1, g2, g3, g4, g5, g6⟩ := val_go (B := [(50, au_pn (au_bp s), s.2 2, 0, 0, 0)]) (b := (42, nI J.length, 0, s1.2 2 + 1, 0, 0)) (bl := bl) (bt_k (Or.inl rfl)) (by omega : L + 1 < 8) n s6 (a + 1 + 1) r1 [] 3 h6 hV (Or.inr rfl) (by rw [k6 13 (by decide), rk 13 (by decide) (by decide) (by decide)]; exact n13) (by rw [k6 14 (by decide), rk 14 (by decide) (by decide) (by decide)]; exact n14) (fun x hx => by cases hx)
  -- the )
  obtain ⟨ms', s8, f1, f2, f3, f4, f5, f6⟩ := fl_go (lv := 1) (by decide) (bt_k (b := (42, nI J.length, 0, s1.2 2 + 1, 0, 0)) (Or.inl rfl)) (B := [(50, au_pn (au_bp s), s.2 2, 0, 0, 0)]) ms7 s7 g3 g2
  have hm := f6 rfl
  subst hm
  have acc3 : au_acc (s7, 4, ms7 ++ (42, nI J.length, 0, s1.2 2 + 1, 0, 0) :: [(50, au_pn (au_bp s), s.2 2, 0, 0, 0)], bl) = au_opr s7 (ms7 ++ (42, nI J.length, 0, s1.2 2 + 1, 0, 0) :: [(50, au_pn (au_bp s), s.2 2, 0, 0, 0)]) bl := acc_opr
  unfold au_opr at acc3
  rw [g2.hd.1, if_neg lv29, f1] at acc3
  dsimp only [List.nil_append] at acc3
  rw [if_neg (fun z => absurd z.2 (by decide)), if_pos ⟨rfl, rfl⟩] at acc3
  obtain ⟨s9, hs9⟩ : ∃ s9, s9 = au_clz (nI J.length) (0 + 1) s8 := ⟨_, rfl⟩
  rw [← hs9] at acc3
  have e50 : au_en bl [(50, au_pn (au_bp s), s.2 2, 0, 0, 0)] s9 = (au_cd 7 0 s9, 14, [(54, au_pn (au_bp s), s.2 2, 0, 0, 0)], bl) := by
    unfold au_en
    rw [if_neg (by show ¬ (50 : Int32) = 40; decide), if_neg (by show ¬ (50 : Int32) = 48; decide), if_pos (by rfl)]
  rw [e50] at acc3
  have f3n := (f3.nx (by decide) (fun z => absurd z (by decide))).dn
  have r9k : ∀ k, k ≠ 7 → k ≠ 8 → k ≠ 16 → k ≠ 17 → s9.1 k = s8.1 k := fun k b1 b2 b3 b4 => by
    rw [hs9]
    show (if k = 17 then _ else if k = 8 then _ else if k = 7 then _ else if k = 16 then _ else s8.1 k) = _
    rw [if_neg b4, if_neg b2, if_neg b1, if_neg b3]
  have s9_16 : s9.1 16 = xset (s8.1 16) (nI J.length) 1 := by rw [hs9]; rfl
  have s9_17 : (s9.1 17).length = (s8.1 17).length := by
    rw [hs9]
    show (xset (s8.1 17) _ _).length = _
    rw [xset_len]
  have d9 : s9.2 5 = s8.2 5 := by rw [hs9]; rfl
  have h9 : Q1 s9 (a7 + 1) e L ((33, u) :: r) := f3n.co ⟨r9k 0 (by decide) (by decide) (by decide) (by decide), fun v _ => by rw [hs9]; rfl⟩ (r9k 1 (by decide) (by decide) (by decide) (by decide))
  -- the ;
  have acc4 : au_acc (au_cd 7 0 s9, 14, [(54, au_pn (au_bp s), s.2 2, 0, 0, 0)], bl) = .inl (au_ep (au_pn (au_bp s)) (au_nx (au_cd 7 0 s9)), 0, [], bl) := by
    rw [au_acc_n (by decide)]
    unfold au_acc0
    rw [if_neg (by decide), if_neg (by decide), if_neg (by decide), if_neg (by decide), if_neg (by decide), if_neg (by decide), if_neg (by decide), if_neg (by decide), if_neg (by decide), if_neg (by decide), if_neg (by decide), if_neg (by decide)]
    dsimp only
    rw [if_pos (st_ko (h9.cd (c := 7) (x := 0)))]
  have h10 := ((h9.cd (c := 7) (x := 0)).nx (by decide) (fun z => absurd z (by decide))).ep (x := au_pn (au_bp s))
  have o68 := g4.tr f4
  have z68 : Z0 s6 s8 (a + 1 + 1) := g5.tr f5 (by omega)
  have zall : Z0 s1 s8 a := fun t ht => (z68 t (by omega)).trans ((z6 t ht).trans (by rw [rk 0 (by decide) (by decide) (by decide)]))
  have e8k : ∀ k, k = 5 ∨ k = 9 ∨ k = 10 → s8.1 k = s1.1 k := fun k hk => (o68.1 k (by omega)).trans ((k6 k (by omega)).trans (rk k (by omega) (by omega) (by omega)))
  have e815 : s8.1 15 = (J ++ [a]).map nI := (o68.1 15 (by decide)).trans ((k6 15 (by decide)).trans r15)
  have e816 : s8.1 16 = J.map (fun _ => (1 : Int32)) ++ [0] := (o68.1 16 (by decide)).trans ((k6 16 (by decide)).trans r16)
  have e817 : (s8.1 17).length = J.length + 1 := by rw [o68.1 17 (by decide), k6 17 (by decide)]; exact r17
  have set16 : xset (J.map (fun _ => (1 : Int32)) ++ [0]) (nI J.length) 1 = (J ++ [a]).map (fun _ => (1 : Int32)) := by
    rw [xset_n (by omega), List.map_append]
    have : J.length = (J.map (fun _ => (1 : Int32))).length := by rw [List.length_map]
    rw [this, List.set_append_right _ _ (Nat.le_refl _), Nat.sub_self]
    rfl
  have k10 : ∀ k, k ≠ 6 → k ≠ 7 → k ≠ 8 → (au_ep (au_pn (au_bp s)) (au_nx (au_cd 7 0 s9))).1 k = s9.1 k := fun k b1 b2 b3 => by
    show (if k = 6 then _ else if k = 8 then _ else if k = 7 then _ else s9.1 k) = _
    rw [if_neg b1, if_neg b3, if_neg b2]
  refine ⟨_, a7 + 1 + 1, (Go.one acc).tr ((Go.one acc2).tr (g1.tr ((Go.one acc3).tr (Go.one acc4)))), h10, ⟨⟨J ++ [a], ?_, ?_, ?_, ?_, fun j hj => ?_⟩, ?_, ?_, ?_, ?_, ?_⟩, fun t ht => ?_, by omega, ?_⟩
  · rw [k10 15 (by decide) (by decide) (by decide), r9k 15 (by decide) (by decide) (by decide) (by decide)]
    exact e815
  · rw [k10 16 (by decide) (by decide) (by decide), s9_16, e816]
    exact set16
  · rw [k10 17 (by decide) (by decide) (by decide), s9_17, e817, List.length_append]
    rfl
  · rw [List.length_append]
    show 3 * (J.length + 1) ≤ _
    omega
  · rw [k10 0 (by decide) (by decide) (by decide), r9k 0 (by decide) (by decide) (by decide) (by decide)]
    rcases List.mem_append.1 hj with z | z
    · obtain ⟨y1, y2⟩ := j5 j z
      exact ⟨by omega, (zall j y1).trans y2⟩
    · rw [List.mem_singleton] at z
      subst z
      exact ⟨by omega, (z68 j (by omega)).trans a6⟩
  · rw [k10 13 (by decide) (by decide) (by decide), r9k 13 (by decide) (by decide) (by decide) (by decide)]
    exact o68.2.1 (by rw [k6 13 (by decide), rk 13 (by decide) (by decide) (by decide)]; exact n13)
  · rw [k10 14 (by decide) (by decide) (by decide), r9k 14 (by decide) (by decide) (by decide) (by decide)]
    exact o68.2.2.1 (by rw [k6 14 (by decide), rk 14 (by decide) (by decide) (by decide)]; exact n14)
  · rw [k10 5 (by decide) (by decide) (by decide), r9k 5 (by decide) (by decide) (by decide) (by decide), e8k 5 (by decide)]
    exact l5
  · rw [k10 9 (by decide) (by decide) (by decide), r9k 9 (by decide) (by decide) (by decide) (by decide), e8k 9 (by decide)]
    exact r9
  · rw [k10 10 (by decide) (by decide) (by decide), r9k 10 (by decide) (by decide) (by decide) (by decide), e8k 10 (by decide)]
    exact r10
  · rw [k10 0 (by decide) (by decide) (by decide), r9k 0 (by decide) (by decide) (by decide) (by decide)]
    exact (zall t ht).trans (z1 t ht)
  · show s9.2 5 = _
    rw [d9, o68.2.2.2, d6, d2, d1]
theorem sm1_go (h : Q1 s a e L rest) (hT : Sm1 rest r) (hC : SB s a np) (hnp : np < 150) (hL : L < 7) : ∃ s' a', Go (s, 0, [], bl) (s', 0, [], bl) ∧ Q1 s' a' e L r ∧ SB s' a' (np + 1) ∧ Z0 s s' a ∧ a + 3 ≤ a' ∧ s'.2 5 = s.2 5 := by
  rcases hT with ⟨q, v, r1, n, w, hq, rfl, hV⟩ | ⟨v, r1, n, w, rfl, hV⟩ | ⟨v, u, t, r1, n, w, rfl, hV⟩ | ⟨v, r1, n, w, u, rfl, hV⟩
  · exact asg_go h hq hV hC hnp (by omega)
  · exact out_go h hV hC hnp (by omega)
  · exact cel_go h hV hC hnp hL
  · exact call_go h hV hC hnp hL
/-- if and while with one simple statement -/
def Sm2 (rest r : List KV) : Prop := ∃ k v r1 n w r2 u, (k = 5 ∨ k = 7) ∧ rest = (k, v) :: r1 ∧ VlT n r1 ((30, w) :: r2) ∧ Sm1 r2 ((31, u) :: r)
/-- a block ends -/
theorem clb_go {b : Ae} {t : Nat} {v : Int32} (h : Q1 s a e (L + 1) ((31, v) :: r)) (hb : b.2.2.2.2.2 = nI t) (ht : t < a) (h30 : (s.1 0).getD t 0 = 30) : Q1 (au_clb b s) (a + 1) e L r ∧ Ow s (au_clb b s) ∧ Z0 s (au_clb b s) a := by
  unfold au_clb
  rw [hb]
  have h1 := h.sv (x := s.2 2 + 1) ht (by rw [h30]; decide)
  have h2 := h1.sva (x := b.2.2.2.2.1)
  exact ⟨(h2.nx (by decide) (fun z => absurd z (by decide))).dn, ((Ow.sv.tr Ow.sv).tr Ow.nx).tr Ow.dn, fun _ _ => rfl⟩
theorem sm2_go {k2 v2 : Int32} {r' : List KV} (h : Q1 s a e L rest) (hT : Sm2 rest r) (hr : r = (k2, v2) :: r') (hk2 : k2 ≠ 6) (hC : SB s a np) (hnp : 3 * np ≤ a) (hL : L < 6) : ∃ s' a', Go (s, 0, [], bl) (s', 0, [], bl) ∧ Q1 s' a' e L r ∧ SB s' a' (np + 2) ∧ Z0 s s' a ∧ a + 6 ≤ a' ∧ s'.2 5 = s.2 5 := by
  obtain ⟨k, v, r1, n, w, r2, u, hk, rfl, hV, hS⟩ := hT
  have a300 : a ≤ 300 := h.hd.2.2.2.2.2.2.2.2.2
  have acc := acc_st (op := []) (bl := bl) h (by rcases hk with z | z <;> rw [z] <;> decide)
  have ko := st_ko h
  have key : ∃ s1 b, au_acc (s, 0, [], bl) = .inl (s1, 2, [b], bl) ∧ Q1 s1 (a + 1) e L r1 ∧ SB s1 (a + 1) (np + 1) ∧ Z0 s s1 a ∧ s1.2 5 = s.2 5 ∧ (k = 5 ∧ b.1 = 46 ∨ k = 7 ∧ b.1 = 47) := by
    unfold au_st at acc
    have hC1 := hC.bp (by omega : np < 150)
    rcases hk with e5 | e7
    · rw [e5] at ko h
      rw [ko, if_neg (by decide), if_neg (by decide), if_neg (by decide), if_pos rfl] at acc
      exact ⟨_, _, acc, (h.bp.cd).nx (by decide) (fun z => absurd z (by decide)), (hC1.ow Ow.cd Z0.r (Nat.le_refl _)).ow Ow.nx Z0.r (by omega), fun _ _ => rfl, rfl, Or.inl ⟨e5, rfl⟩⟩
    · rw [e7] at ko h
      rw [ko, if_neg (by decide), if_neg (by decide), if_neg (by decide), if_neg (by decide), if_pos rfl] at acc
      exact ⟨_, _, acc, (h.bp.nx (by decide) (fun z => absurd z (by decide))).cd, (hC1.ow Ow.nx Z0.r (by omega : a ≤ a + 1)).ow Ow.cd Z0.r (Nat.le_refl _), fun _ _ => rfl, rfl, Or.inr ⟨e7, rfl⟩⟩
  obtain ⟨s1, b, k1, q1, c1, z1, d1, hb⟩ := key
  have hbt : Bt b := bt_k (by rcases hb with z | z <;> simp [z.2])
  obtain ⟨s2, a2, ms2, g1, g2, g3, g4, g5, g6⟩ := val_go (B := []) (b := b) (bl := bl) hbt (by omega : L < 8) n s1 (a + 1) r1 [] 2 q1 hV (Or.inl rfl) c1.2.1 c1.2.2.1 (fun x hx => by cases hx)
  obtain ⟨ms', s3, f1, f2, f3, f4, f5, f6⟩ := fl_go (lv := 1) (by decide) hbt (B := []) ms2 s2 g3 g2
  have hm := f6 rfl
  subst hm
  have acc2 : au_acc (s2, 4, ms2 ++ [b], bl) = au_opr s2 (ms2 ++ [b]) bl := acc_opr
  have h22 : s2.2 2 = nI a2 := g2.hd.2.2.1
  unfold au_opr at acc2
  rw [g2.hd.1, if_neg lv30, f1] at acc2
  dsimp only [List.nil_append] at acc2
  rw [if_neg (fun z => absurd z.1 (by decide)), if_neg (fun z => absurd z.1 (by decide)), if_neg (fun z => absurd z.1 (by decide)), if_neg (fun z => absurd z.1 (by decide)), if_neg (fun z => absurd z.1 (by decide)), if_neg (fun z => absurd z.1 (by decide)), if_neg (fun z => absurd z.1 (by decide))] at acc2
  have q3 : Q1 (au_cd 14 0 s3) a2 e L ((30, w) :: r2) := f3.cd
  have q4 := q3.up (by decide) (fun z => absurd z (by decide)) (by omega : L < 8)
  have c4 : SB (au_up (au_cd 14 0 s3)) (a2 + 1) (np + 1) := (((c1.ow g4 g5 (by omega)).ow f4 f5 (Nat.le_refl _)).ow Ow.cd Z0.r (Nat.le_refl _)).ow Ow.up Z0.r (by omega)
  have z4 : Z0 s1 (au_up (au_cd 14 0 s3)) (a + 1) := g5.tr f5 (by omega)
  have d4 : (au_up (au_cd 14 0 s3)).2 5 = s1.2 5 := f4.2.2.2.trans g4.2.2.2
  have t30 : (((au_up (au_cd 14 0 s3))).1 0).getD a2 0 = 30 := q3.hd.2.2.2.1
  have blk : ∃ bb : Ae, au_acc (s2, 4, ms2 ++ [b], bl) = .inl (au_up (au_cd 14 0 s3), 0, [], bb :: bl) ∧ bb.2.2.2.2.2 = nI a2 ∧ (k = 5 ∧ bb.1 = 5 ∨ k = 7 ∧ bb.1 = 7) := by
    rcases hb with ⟨e5, e⟩ | ⟨e7, e⟩
    · rw [if_pos ⟨rfl, e⟩, au_lv_y q3.1 (by omega)] at acc2
      exact ⟨_, acc2, h22, Or.inl ⟨e5, rfl⟩⟩
    · rw [if_neg (fun z => absurd z.2 (by rw [e]; decide)), if_pos ⟨rfl, e⟩, au_lv_y q3.1 (by omega)] at acc2
      exact ⟨_, acc2, h22, Or.inr ⟨e7, rfl⟩⟩
  obtain ⟨bb, acc3, hbb, hk5⟩ := blk
  obtain ⟨s5, a5, l1, l2, l3, l4, l5, l6⟩ := sm1_go (bl := bb :: bl) q4 hS c4 (by omega) (by omega : L + 1 < 7)
  have acc5 : au_acc (s5, 0, [], bb :: bl) = .inl (au_cls s5 bb bl) := by
    rw [acc_0]
    unfold au_s0
    rw [if_pos l2.hd.1]
  obtain ⟨p1, p2, p3⟩ := clb_go (b := bb) l2 hbb (by omega) ((l4 a2 (by omega)).trans t30)
  have c6 : SB (au_clb bb s5) (a5 + 1) (np + 2) := l3.ow p2 p3 (by omega)
  have zz : Z0 s s5 a := fun t ht => (l4 t (by omega)).trans ((z4 t (by omega)).trans (z1 t ht))
  have dd : s5.2 5 = s.2 5 := l6.trans (d4.trans d1)
  unfold au_cls at acc5
  rcases hk5 with ⟨e5, e⟩ | ⟨e7, e⟩
  · rw [if_pos e] at acc5
    have hset : au_set (au_clb bb s5, 1, [(51, bb.2.1, bb.2.2.1, 0, 0, 0)], bl) = (au_ep bb.2.1 (au_pt bb.2.2.1 (au_clb bb s5)), 0, [], bl) := by
      have hko : au_ko (au_clb bb s5) ≠ 6 := by
        rw [hr] at p1
        rw [p1.hd.1]
        exact hk2
      show (if (1 : Int32) = 1 ∧ au_ko (au_clb bb s5) ≠ 6 then _ else _) = _
      rw [if_pos ⟨rfl, hko⟩]
    refine ⟨_, a5 + 1, (Go.one k1).tr (g1.tr ((Go.one acc3).tr (l1.tr ((Go.one acc5).tr (Go.set hset))))), p1.pt.ep, (c6.ow Ow.pt Z0.r (Nat.le_refl _)).ow Ow.ep Z0.r (Nat.le_refl _), fun t ht => (p3 t (by omega)).trans (zz t ht), by omega, ?_⟩
    exact (p2.2.2.2 : (au_clb bb s5).2 5 = s5.2 5).trans dd
  · rw [if_neg (by rw [e]; decide), if_neg (by rw [e]; decide), if_pos e] at acc5
    refine ⟨_, a5 + 1, (Go.one k1).tr (g1.tr ((Go.one acc3).tr (l1.tr (Go.one acc5)))), p1.cd.pt.ep, ((c6.ow Ow.cd Z0.r (Nat.le_refl _)).ow Ow.pt Z0.r (Nat.le_refl _)).ow Ow.ep Z0.r (Nat.le_refl _), fun t ht => (p3 t (by omega)).trans (zz t ht), by omega, ?_⟩
    exact (p2.2.2.2 : (au_clb bb s5).2 5 = s5.2 5).trans dd
end STMD
