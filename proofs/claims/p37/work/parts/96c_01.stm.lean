/-! how a drawn program is read: statements -/
section STMD
variable {s s' : Sx} {a e L np : Nat} {op bl : List Ae} {rest r : List KV} {st : Int32}
/-- simple statements, by their tokens -/
def Sm1 (rest r : List KV) : Prop :=
  (∃ q v r1 n w, q < 6 ∧ rest = (4, nI q) :: (27, v) :: r1 ∧ VlT n r1 ((33, w) :: r)) ∨
  (∃ v r1 n w, rest = (8, v) :: r1 ∧ VlT n r1 ((33, w) :: r)) ∨
  (∃ v u t r1 n w, rest = (26, v) :: (3, u) :: (27, t) :: r1 ∧ VlT n r1 ((33, w) :: r)) ∨
  (∃ v r1 n w u, rest = (4, 0) :: (28, v) :: r1 ∧ VlT n r1 ((29, w) :: (33, u) :: r))
/-- the value of a statement, and its ; -/
theorem vs_go {b : Ae} {n : Nat} {w : Int32} (h : Q1 s a e L rest) (hV : VlT n rest ((33, w) :: r)) (hC : SB s a np) (hL : L < 8) (hb : b.1 = 43 ∨ b.1 = 44 ∨ b.1 = 49) : ∃ s' a', GoA (s, 2, [b], bl) (s', 0, [], bl) ∧ Q1 s' a' e L r ∧ SB s' a' np ∧ Z0 s s' a ∧ a + 2 ≤ a' ∧ s'.2 5 = s.2 5 := by
  obtain ⟨s1, a1, ms1, g1, g2, g3, g4, g5, g6⟩ := val_go (B := []) (b := b) (bl := bl) (bt_3 hb) hL n s a rest [] 2 h hV (Or.inl rfl) hC.2.1 hC.2.2.1 (fun x hx => by cases hx)
  obtain ⟨s2, k1, k2, k3, k4⟩ := semi_go (bl := bl) g2 g3 hb
  exact ⟨s2, a1 + 1, g1.tr k1, k2, (hC.ow g4 g5 (by omega)).ow k3 k4 (by omega), g5.tr k4 (by omega), by omega, k3.2.2.2.trans g4.2.2.2⟩
theorem au_lv_y {k : Sx → Ar} (h : Lv a e L s) (hL : L < 8) : au_lv s k = k (au_up s) := by
  unfold au_lv
  rw [if_pos ((h.l8).2 hL)]
theorem st_ko {k v : Int32} (h : Q1 s a e L ((k, v) :: r)) : au_ko s = k := h.hd.1
theorem asg_go {q : Nat} {v : Int32} {r1 : List KV} {n : Nat} {w : Int32} (h : Q1 s a e L ((4, nI q) :: (27, v) :: r1)) (hq : q < 6) (hV : VlT n r1 ((33, w) :: r)) (hC : SB s a np) (hnp : np < 150) (hL : L < 8) : ∃ s' a', GoA (s, 0, [], bl) (s', 0, [], bl) ∧ Q1 s' a' e L r ∧ SB s' a' (np + 1) ∧ Z0 s s' a ∧ a + 3 ≤ a' ∧ s'.2 5 = s.2 5 := by
  have acc := acc_st (op := []) (bl := bl) h (by decide)
  unfold au_st at acc
  rw [if_pos (st_ko h), if_neg (by rw [h.nk]; decide)] at acc
  have hC1 := hC.bp hnp
  have h1 : Q1 (au_cd 0 0 (au_bp s)) a e L ((4, nI q) :: (27, v) :: r1) := h.bp.cd
  have hC2 : SB (au_cd 0 0 (au_bp s)) a (np + 1) := hC1.ow Ow.cd Z0.rr (Nat.le_refl _)
  have hN : N8 ((au_cd 0 0 (au_bp s)).1 (f_5004 s)) := by
    rcases f5004_r (s := s) with z | z <;> rw [z]
    · exact hC2.2.1
    · exact hC2.2.2.1
  obtain ⟨s1, u, g1, g2, g3, g4, _⟩ := h1.var (k := fun s2 v => .inl (s2, 5, [(43, au_pn (au_bp s), s.2 2, v, 0, 0)], bl)) hq f5004_r hN
  rw [g1] at acc
  have c1 := hC2.ow g3 g4 (by omega : a ≤ a + 1)
  have acc2 := acc_56 (op := [(43, au_pn (au_bp s), s.2 2, u, 0, 0)]) (bl := bl) (st := 5) (Or.inl rfl) (st_ko g2)
  obtain ⟨s2, a2, k1, k2, k3, k4, k5, k6⟩ := vs_go (b := (43, au_pn (au_bp s), s.2 2, u, 0, 0)) (bl := bl) (g2.nx (by decide) (fun z => absurd z (by decide))) hV (c1.ow Ow.nx Z0.rr (by omega : a + 1 ≤ a + 1 + 1)) hL (Or.inl rfl)
  refine ⟨s2, a2, (GoA.one acc).tr ((GoA.one acc2).tr k1), k2, k3, ?_, by omega, k6.trans g3.2.2.2⟩
  exact Z0.tr (b := a + 1) (s' := s1) g4 (fun t ht => k4 t (by omega)) (by omega)
theorem out_go {v : Int32} {r1 : List KV} {n : Nat} {w : Int32} (h : Q1 s a e L ((8, v) :: r1)) (hV : VlT n r1 ((33, w) :: r)) (hC : SB s a np) (hnp : np < 150) (hL : L < 8) : ∃ s' a', GoA (s, 0, [], bl) (s', 0, [], bl) ∧ Q1 s' a' e L r ∧ SB s' a' (np + 1) ∧ Z0 s s' a ∧ a + 3 ≤ a' ∧ s'.2 5 = s.2 5 := by
  have acc := acc_st (op := []) (bl := bl) h (by decide)
  have ko := st_ko h
  unfold au_st at acc
  rw [ko, if_neg (by decide), if_neg (by decide), if_pos rfl] at acc
  have hC2 : SB (au_cd 0 0 (au_bp s)) a (np + 1) := (hC.bp hnp).ow Ow.cd Z0.rr (Nat.le_refl _)
  obtain ⟨s2, a2, k1, k2, k3, k4, k5, k6⟩ := vs_go (b := (44, au_pn (au_bp s), s.2 2, 0, 0, 0)) (bl := bl) ((h.bp.cd (c := 0) (x := 0)).nx (by decide) (fun z => absurd z (by decide))) hV (hC2.ow Ow.nx Z0.rr (by omega : a ≤ a + 1)) hL (Or.inr (Or.inl rfl))
  exact ⟨s2, a2, (GoA.one acc).tr k1, k2, k3, fun t ht => k4 t (by omega), by omega, k6⟩
theorem cel_go {v u t : Int32} {r1 : List KV} {n : Nat} {w : Int32} (h : Q1 s a e L ((26, v) :: (3, u) :: (27, t) :: r1)) (hV : VlT n r1 ((33, w) :: r)) (hC : SB s a np) (hnp : np < 150) (hL : L < 7) : ∃ s' a', GoA (s, 0, [], bl) (s', 0, [], bl) ∧ Q1 s' a' e L r ∧ SB s' a' (np + 1) ∧ Z0 s s' a ∧ a + 3 ≤ a' ∧ s'.2 5 = s.2 5 := by
  have acc := acc_st (op := []) (bl := bl) h (by decide)
  have ko := st_ko h
  unfold au_st at acc
  rw [ko, if_neg (by decide), if_pos rfl] at acc
  have hC2 : SB (au_cd 0 0 (au_bp s)) a (np + 1) := (hC.bp hnp).ow Ow.cd Z0.rr (Nat.le_refl _)
  obtain ⟨p1, p2⟩ := (h.bp.cd (c := 0) (x := 0)).sk (x := 37) (by decide) (by decide)
  have hC3 := hC2.ow Ow.sk p2 (Nat.le_refl _)
  rw [au_lv_y p1.1 (by omega)] at acc
  have p3 := p1.up (by decide) (fun z => absurd z (by decide)) (by omega)
  have hC4 := hC3.ow Ow.up Z0.rr (by omega : a ≤ a + 1)
  obtain ⟨s1, g1, g2, g3, g4⟩ := base_go (op := [(48, au_pn (au_bp s), s.2 2, 0, 0, 0)]) (bl := bl) (st := 2) p3 (Or.inl ⟨u, rfl⟩) (Or.inl rfl) hC4.2.1 hC4.2.2.1
  have e48 : au_en bl [(48, au_pn (au_bp s), s.2 2, 0, 0, 0)] s1 = (au_dn s1, 6, [(49, au_pn (au_bp s), s.2 2, 0, 0, 0)], bl) := by
    unfold au_en
    rw [if_neg (by show ¬ (48 : Int32) = 40; decide), if_pos (by rfl)]
  rw [e48] at g1
  have hC5 := (hC4.ow g3 g4 (by omega : a + 1 ≤ a + 1 + 1)).ow (Ow.dn (s := s1)) Z0.rr (Nat.le_refl _)
  have q5 := g2.dn
  have acc2 := acc_56 (op := [(49, au_pn (au_bp s), s.2 2, 0, 0, 0)]) (bl := bl) (st := 6) (Or.inr rfl) (st_ko q5)
  obtain ⟨s2, a2, k1, k2, k3, k4, k5, k6⟩ := vs_go (b := (49, au_pn (au_bp s), s.2 2, 0, 0, 0)) (bl := bl) (q5.nx (by decide) (fun z => absurd z (by decide))) hV (hC5.ow Ow.nx Z0.rr (by omega : a + 1 + 1 ≤ a + 1 + 1 + 1)) (by omega) (Or.inr (Or.inr rfl))
  refine ⟨s2, a2, (GoA.one acc).tr ((GoA.one g1).tr ((GoA.one acc2).tr k1)), k2, k3, fun t ht => ?_, by omega, k6.trans g3.2.2.2⟩
  rw [k4 t (by omega)]
  show (s1.1 0).getD t 0 = _
  rw [g4 t (by omega)]
  exact p2 t ht
end STMD
