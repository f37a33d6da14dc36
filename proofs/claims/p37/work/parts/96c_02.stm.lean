/-! how a drawn program is read: statements -/
section STMD
variable {s s' : Sx} {a e L np : Nat} {op bl : List Ae} {rest r : List KV} {st : Int32}
/-- the calls so far -/
theorem call_go {v : Int32} {r1 : List KV} {n : Nat} {w u : Int32} (h : Q1 s a e L ((4, 0) :: (28, v) :: r1)) (hV : VlT n r1 ((29, w) :: (33, u) :: r)) (hC : SB s a np) (hnp : np < 150) (hL : L < 7) : ∃ s' a', GoA (s, 0, [], bl) (s', 0, [], bl) ∧ Q1 s' a' e L r ∧ SB s' a' (np + 1) ∧ Z0 s s' a ∧ a + 3 ≤ a' ∧ s'.2 5 = s.2 5 := by
  have acc := acc_st (op := []) (bl := bl) h (by decide)
  unfold au_st at acc
  rw [if_pos (st_ko h), if_pos h.nk] at acc
  obtain ⟨s1, hs1⟩ : ∃ s1, s1 = au_cd 0 0 (au_bp s) := ⟨_, rfl⟩
  rw [← hs1] at acc
  have h1 : Q1 s1 a e L ((4, 0) :: (28, v) :: r1) := by rw [hs1]; exact h.bp.cd
  have hC2 : SB s1 a (np + 1) := by rw [hs1]; exact (hC.bp hnp).ow Ow.cd Z0.rr (Nat.le_refl _)
  have z1 : Z0 s s1 a := by rw [hs1]; exact Z0.rr
  have d1 : s1.2 5 = s.2 5 := by rw [hs1]; rfl
  obtain ⟨⟨J, j1, j2, j3, j4, j5⟩, n13, n14, l5, r9, r10⟩ := hC2
  have a300 : a ≤ 300 := h1.hd.2.2.2.2.2.2.2.2.2
  have h22 : s1.2 2 = nI a := h1.hd.2.2.1
  have jl : J.length ≤ 100 := by omega
  have e15 : xadd (ev_cap 15) (s1.1 15) (s1.2 2) = (J ++ [a]).map nI := by
    unfold xadd
    rw [j1, if_pos (by rw [List.length_map]; show J.length < 150; omega), h22, List.map_append]
    rfl
  have e16 : xadd (ev_cap 16) (s1.1 16) 0 = J.map (fun _ => (1 : Int32)) ++ [0] := by
    unfold xadd
    rw [j2, if_pos (by rw [List.length_map]; show J.length < 150; omega)]
  have e17 : (xadd (ev_cap 17) (s1.1 17) 0).length = J.length + 1 := by
    unfold xadd
    rw [if_pos (by rw [j3]; show J.length < 150; omega), List.length_append, j3]
    rfl
  -- the name is marked
  obtain ⟨s2, hs2⟩ : ∃ s2, s2 = au_ca 17 0 (au_ca 16 0 (au_ca 15 (s1.2 2) s1)) := ⟨_, rfl⟩
  have rk : ∀ k, k ≠ 15 → k ≠ 16 → k ≠ 17 → s2.1 k = s1.1 k := fun k a1 a2 a3 => by
    rw [hs2]
    show (if k = 17 then _ else if k = 16 then _ else if k = 15 then _ else s1.1 k) = _
    rw [if_neg a3, if_neg a2, if_neg a1]
  have r15 : s2.1 15 = (J ++ [a]).map nI := by rw [hs2]; exact e15
  have r16 : s2.1 16 = J.map (fun _ => (1 : Int32)) ++ [0] := by rw [hs2]; exact e16
  have r17 : (s2.1 17).length = J.length + 1 := by rw [hs2]; exact e17
  have h2 : Q1 s2 a e L ((4, 0) :: (28, v) :: r1) := h1.co ⟨rk 0 (by decide) (by decide) (by decide), fun v _ => by rw [hs2]; rfl⟩ (rk 1 (by decide) (by decide) (by decide))
  obtain ⟨h3, z3⟩ := h2.sk (x := 35) (by decide) (by decide)
  have h4 := h3.nx (by decide) (fun _ => rfl)
  have ecall : au_call s1 [(50, au_pn (au_bp s), s.2 2, 0, 0, 0)] bl = .inl (au_nx (au_sk 35 s2), 13, [(42, nI J.length, 0, s1.2 2 + 1, 0, 0), (50, au_pn (au_bp s), s.2 2, 0, 0, 0)], bl) := by
    unfold au_call
    rw [← hs2]
    have : (s1.1 15).length = J.length := by rw [j1, List.length_map]
    rw [this]
  rw [ecall] at acc
  -- the (
  obtain ⟨h5, z5⟩ := h4.sk (x := 38) (by decide) (by decide)
  have acc2 : au_acc (au_nx (au_sk 35 s2), 13, [(42, nI J.length, 0, s1.2 2 + 1, 0, 0), (50, au_pn (au_bp s), s.2 2, 0, 0, 0)], bl) = .inl (au_up (au_sk 38 (au_nx (au_sk 35 s2))), 3, [(42, nI J.length, 0, s1.2 2 + 1, 0, 0), (50, au_pn (au_bp s), s.2 2, 0, 0, 0)], bl) := by
    rw [au_acc_n (by decide)]
    unfold au_acc0
    rw [if_neg (by decide), if_neg (by decide), if_neg (by decide), if_neg (by decide), if_neg (by decide), if_neg (by decide), if_neg (by decide), if_neg (by decide), if_neg (by decide), if_neg (by decide), if_neg (by decide), if_pos rfl, au_lv_y h5.1 (by omega)]
  have h6 := h5.up (by decide) (fun z => absurd z (by decide)) (by omega)
  obtain ⟨s6, hs6⟩ : ∃ s6, s6 = au_up (au_sk 38 (au_nx (au_sk 35 s2))) := ⟨_, rfl⟩
  rw [← hs6] at acc2 h6
  have k6 : ∀ k, k ≠ 0 → s6.1 k = s2.1 k := fun k hk => by
    rw [hs6]
    show (if k = 0 then _ else if k = 0 then _ else s2.1 k) = _
    rw [if_neg hk, if_neg hk]
  have z6 : Z0 s2 s6 a := fun t ht => by
    rw [hs6]
    exact (z5 t (by omega)).trans (z3 t ht)
  have a6 : (s6.1 0).getD a 0 = 35 := by
    rw [hs6]
    exact (z5 a (by omega)).trans h3.hd.2.2.2.1
  have d6 : s6.2 5 = s2.2 5 := by rw [hs6]; rfl
  have d2 : s2.2 5 = s1.2 5 := by rw [hs2]; rfl
  -- the argument
  obtain ⟨s7, a7, ms7, g1, g2, g3, g4, g5, g6⟩ := val_go (B := [(50, au_pn (au_bp s), s.2 2, 0, 0, 0)]) (b := (42, nI J.length, 0, s1.2 2 + 1, 0, 0)) (bl := bl) (bt_k (Or.inl rfl)) (by omega : L + 1 < 8) n s6 (a + 1 + 1) r1 [] 3 h6 hV (Or.inr rfl) (by rw [k6 13 (by decide), rk 13 (by decide) (by decide) (by decide)]; exact n13) (by rw [k6 14 (by decide), rk 14 (by decide) (by decide) (by decide)]; exact n14) (fun x hx => by cases hx)
  -- the )
  obtain ⟨ms', s8, f1, f2, f3, f4, f5, f6⟩ := fl_go (lv := 1) (by decide) (bt_k (b := (42, nI J.length, 0, s1.2 2 + 1, 0, 0)) (Or.inl rfl)) (B := [(50, au_pn (au_bp s), s.2 2, 0, 0, 0)]) ms7 s7 g3 g2
  have hm := f6 rfl
  subst hm
  have acc3 : au_acc (s7, 4, ms7 ++ (42, nI J.length, 0, s1.2 2 + 1, 0, 0) :: [(50, au_pn (au_bp s), s.2 2, 0, 0, 0)], bl) = au_opr s7 (ms7 ++ (42, nI J.length, 0, s1.2 2 + 1, 0, 0) :: [(50, au_pn (au_bp s), s.2 2, 0, 0, 0)]) bl := acc_opr
  unfold au_opr at acc3
  rw [g2.hd.1, if_neg lv29, f1] at acc3
  dsimp only [List.nil_append] at acc3
  rw [if_neg (fun z => absurd z.2 (by decide)), if_pos ⟨rfl, rfl⟩] at acc3
  obtain ⟨s9, hs9⟩ : ∃ s9, s9 = au_clz (nI J.length) (0 + 1) s8 := ⟨_, rfl⟩
  rw [← hs9] at acc3
  have e50 : au_en bl [(50, au_pn (au_bp s), s.2 2, 0, 0, 0)] s9 = (au_cd 7 0 s9, 14, [(54, au_pn (au_bp s), s.2 2, 0, 0, 0)], bl) := by
    unfold au_en
    rw [if_neg (by show ¬ (50 : Int32) = 40; decide), if_neg (by show ¬ (50 : Int32) = 48; decide), if_pos (by rfl)]
  rw [e50] at acc3
  have f3n := (f3.nx (by decide) (fun z => absurd z (by decide))).dn
  have r9k : ∀ k, k ≠ 7 → k ≠ 8 → k ≠ 16 → k ≠ 17 → s9.1 k = s8.1 k := fun k b1 b2 b3 b4 => by
    rw [hs9]
    show (if k = 17 then _ else if k = 8 then _ else if k = 7 then _ else if k = 16 then _ else s8.1 k) = _
    rw [if_neg b4, if_neg b2, if_neg b1, if_neg b3]
  have s9_16 : s9.1 16 = xset (s8.1 16) (nI J.length) 1 := by rw [hs9]; rfl
  have s9_17 : (s9.1 17).length = (s8.1 17).length := by
    rw [hs9]
    show (xset (s8.1 17) _ _).length = _
    rw [xset_len]
  have d9 : s9.2 5 = s8.2 5 := by rw [hs9]; rfl
  have h9 : Q1 s9 (a7 + 1) e L ((33, u) :: r) := f3n.co ⟨r9k 0 (by decide) (by decide) (by decide) (by decide), fun v _ => by rw [hs9]; rfl⟩ (r9k 1 (by decide) (by decide) (by decide) (by decide))
  -- the ;
  have acc4 : au_acc (au_cd 7 0 s9, 14, [(54, au_pn (au_bp s), s.2 2, 0, 0, 0)], bl) = .inl (au_ep (au_pn (au_bp s)) (au_nx (au_cd 7 0 s9)), 0, [], bl) := by
    rw [au_acc_n (by decide)]
    unfold au_acc0
    rw [if_neg (by decide), if_neg (by decide), if_neg (by decide), if_neg (by decide), if_neg (by decide), if_neg (by decide), if_neg (by decide), if_neg (by decide), if_neg (by decide), if_neg (by decide), if_neg (by decide), if_neg (by decide)]
    dsimp only
    rw [if_pos (st_ko (h9.cd (c := 7) (x := 0)))]
  have h10 := ((h9.cd (c := 7) (x := 0)).nx (by decide) (fun z => absurd z (by decide))).ep (x := au_pn (au_bp s))
  have o68 := g4.tr f4
  have z68 : Z0 s6 s8 (a + 1 + 1) := g5.tr f5 (by omega)
  have zall : Z0 s1 s8 a := fun t ht => (z68 t (by omega)).trans ((z6 t ht).trans (by rw [rk 0 (by decide) (by decide) (by decide)]))
  have e8k : ∀ k, k = 5 ∨ k = 9 ∨ k = 10 → s8.1 k = s1.1 k := fun k hk => (o68.1 k (by omega)).trans ((k6 k (by omega)).trans (rk k (by omega) (by omega) (by omega)))
  have e815 : s8.1 15 = (J ++ [a]).map nI := (o68.1 15 (by decide)).trans ((k6 15 (by decide)).trans r15)
  have e816 : s8.1 16 = J.map (fun _ => (1 : Int32)) ++ [0] := (o68.1 16 (by decide)).trans ((k6 16 (by decide)).trans r16)
  have e817 : (s8.1 17).length = J.length + 1 := by rw [o68.1 17 (by decide), k6 17 (by decide)]; exact r17
  have set16 : xset (J.map (fun _ => (1 : Int32)) ++ [0]) (nI J.length) 1 = (J ++ [a]).map (fun _ => (1 : Int32)) := by
    rw [xset_n (by omega), List.map_append]
    have : J.length = (J.map (fun _ => (1 : Int32))).length := by rw [List.length_map]
    rw [this, List.set_append_right _ _ (Nat.le_refl _), Nat.sub_self]
    rfl
  have k10 : ∀ k, k ≠ 6 → k ≠ 7 → k ≠ 8 → (au_ep (au_pn (au_bp s)) (au_nx (au_cd 7 0 s9))).1 k = s9.1 k := fun k b1 b2 b3 => by
    show (if k = 6 then _ else if k = 8 then _ else if k = 7 then _ else s9.1 k) = _
    rw [if_neg b1, if_neg b3, if_neg b2]
  refine ⟨_, a7 + 1 + 1, (GoA.one acc).tr ((GoA.one acc2).tr (g1.tr ((GoA.one acc3).tr (GoA.one acc4)))), h10, ⟨⟨J ++ [a], ?_, ?_, ?_, ?_, fun j hj => ?_⟩, ?_, ?_, ?_, ?_, ?_⟩, fun t ht => ?_, by omega, ?_⟩
  · rw [k10 15 (by decide) (by decide) (by decide), r9k 15 (by decide) (by decide) (by decide) (by decide)]
    exact e815
  · rw [k10 16 (by decide) (by decide) (by decide), s9_16, e816]
    exact set16
  · rw [k10 17 (by decide) (by decide) (by decide), s9_17, e817, List.length_append]
    rfl
  · rw [List.length_append]
    show 3 * (J.length + 1) ≤ _
    omega
  · rw [k10 0 (by decide) (by decide) (by decide), r9k 0 (by decide) (by decide) (by decide) (by decide)]
    rcases List.mem_append.1 hj with z | z
    · obtain ⟨y1, y2⟩ := j5 j z
      exact ⟨by omega, (zall j y1).trans y2⟩
    · rw [List.mem_singleton] at z
      subst z
      exact ⟨by omega, (z68 j (by omega)).trans a6⟩
  · rw [k10 13 (by decide) (by decide) (by decide), r9k 13 (by decide) (by decide) (by decide) (by decide)]
    exact o68.2.1 (by rw [k6 13 (by decide), rk 13 (by decide) (by decide) (by decide)]; exact n13)
  · rw [k10 14 (by decide) (by decide) (by decide), r9k 14 (by decide) (by decide) (by decide) (by decide)]
    exact o68.2.2.1 (by rw [k6 14 (by decide), rk 14 (by decide) (by decide) (by decide)]; exact n14)
  · rw [k10 5 (by decide) (by decide) (by decide), r9k 5 (by decide) (by decide) (by decide) (by decide), e8k 5 (by decide)]
    exact l5
  · rw [k10 9 (by decide) (by decide) (by decide), r9k 9 (by decide) (by decide) (by decide) (by decide), e8k 9 (by decide)]
    exact r9
  · rw [k10 10 (by decide) (by decide) (by decide), r9k 10 (by decide) (by decide) (by decide) (by decide), e8k 10 (by decide)]
    exact r10
  · rw [k10 0 (by decide) (by decide) (by decide), r9k 0 (by decide) (by decide) (by decide) (by decide)]
    exact (zall t ht).trans (z1 t ht)
  · show s9.2 5 = _
    rw [d9, o68.2.2.2, d6, d2, d1]
end STMD
