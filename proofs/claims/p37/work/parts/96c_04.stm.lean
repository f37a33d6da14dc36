/-! how a drawn program is read: statements -/
section STMD
variable {s s' : Sx} {a e L np : Nat} {op bl : List Ae} {rest r : List KV} {st : Int32}
/-- the calls so far -/
/-- if and while with one simple statement -/
def Sm2 (rest r : List KV) : Prop := ∃ k v r1 n w r2 u, (k = 5 ∨ k = 7) ∧ rest = (k, v) :: r1 ∧ VlT n r1 ((30, w) :: r2) ∧ Sm1 r2 ((31, u) :: r)
/-- a block ends -/
theorem clb_go {b : Ae} {t : Nat} {v : Int32} (h : Q1 s a e (L + 1) ((31, v) :: r)) (hb : b.2.2.2.2.2 = nI t) (ht : t < a) (h30 : (s.1 0).getD t 0 = 30) : Q1 (au_clb b s) (a + 1) e L r ∧ Ow s (au_clb b s) ∧ Z0 s (au_clb b s) a := by
  unfold au_clb
  rw [hb]
  have h1 := h.sv (x := s.2 2 + 1) ht (by rw [h30]; decide)
  have h2 := h1.sva (x := b.2.2.2.2.1)
  exact ⟨(h2.nx (by decide) (fun z => absurd z (by decide))).dn, ((Ow.sv.tr Ow.sv).tr Ow.nx).tr Ow.dn, fun _ _ => rfl⟩
theorem sm2_go {k2 v2 : Int32} {r' : List KV} (h : Q1 s a e L rest) (hT : Sm2 rest r) (hr : r = (k2, v2) :: r') (hk2 : k2 ≠ 6) (hC : SB s a np) (hnp : 3 * np ≤ a) (hL : L < 6) : ∃ s' a', GoA (s, 0, [], bl) (s', 0, [], bl) ∧ Q1 s' a' e L r ∧ SB s' a' (np + 2) ∧ Z0 s s' a ∧ a + 6 ≤ a' ∧ s'.2 5 = s.2 5 := by
  obtain ⟨k, v, r1, n, w, r2, u, hk, rfl, hV, hS⟩ := hT
  have a300 : a ≤ 300 := h.hd.2.2.2.2.2.2.2.2.2
  have acc := acc_st (op := []) (bl := bl) h (by rcases hk with z | z <;> rw [z] <;> decide)
  have ko := st_ko h
  have key : ∃ s1 b, au_acc (s, 0, [], bl) = .inl (s1, 2, [b], bl) ∧ Q1 s1 (a + 1) e L r1 ∧ SB s1 (a + 1) (np + 1) ∧ Z0 s s1 a ∧ s1.2 5 = s.2 5 ∧ (k = 5 ∧ b.1 = 46 ∨ k = 7 ∧ b.1 = 47) := by
    unfold au_st at acc
    have hC1 := hC.bp (by omega : np < 150)
    rcases hk with e5 | e7
    · rw [e5] at ko h
      rw [ko, if_neg (by decide), if_neg (by decide), if_neg (by decide), if_pos rfl] at acc
      exact ⟨_, _, acc, (h.bp.cd).nx (by decide) (fun z => absurd z (by decide)), (hC1.ow Ow.cd Z0.rr (Nat.le_refl _)).ow Ow.nx Z0.rr (by omega), fun _ _ => rfl, rfl, Or.inl ⟨e5, rfl⟩⟩
    · rw [e7] at ko h
      rw [ko, if_neg (by decide), if_neg (by decide), if_neg (by decide), if_neg (by decide), if_pos rfl] at acc
      exact ⟨_, _, acc, (h.bp.nx (by decide) (fun z => absurd z (by decide))).cd, (hC1.ow Ow.nx Z0.rr (by omega : a ≤ a + 1)).ow Ow.cd Z0.rr (Nat.le_refl _), fun _ _ => rfl, rfl, Or.inr ⟨e7, rfl⟩⟩
  obtain ⟨s1, b, k1, q1, c1, z1, d1, hb⟩ := key
  have hbt : Bt b := bt_k (by rcases hb with z | z <;> simp [z.2])
  obtain ⟨s2, a2, ms2, g1, g2, g3, g4, g5, g6⟩ := val_go (B := []) (b := b) (bl := bl) hbt (by omega : L < 8) n s1 (a + 1) r1 [] 2 q1 hV (Or.inl rfl) c1.2.1 c1.2.2.1 (fun x hx => by cases hx)
  obtain ⟨ms', s3, f1, f2, f3, f4, f5, f6⟩ := fl_go (lv := 1) (by decide) hbt (B := []) ms2 s2 g3 g2
  have hm := f6 rfl
  subst hm
  have acc2 : au_acc (s2, 4, ms2 ++ [b], bl) = au_opr s2 (ms2 ++ [b]) bl := acc_opr
  have h22 : s2.2 2 = nI a2 := g2.hd.2.2.1
  unfold au_opr at acc2
  rw [g2.hd.1, if_neg lv30, f1] at acc2
  dsimp only [List.nil_append] at acc2
  rw [if_neg (fun z => absurd z.1 (by decide)), if_neg (fun z => absurd z.1 (by decide)), if_neg (fun z => absurd z.1 (by decide)), if_neg (fun z => absurd z.1 (by decide)), if_neg (fun z => absurd z.1 (by decide)), if_neg (fun z => absurd z.1 (by decide)), if_neg (fun z => absurd z.1 (by decide))] at acc2
  have q3 : Q1 (au_cd 14 0 s3) a2 e L ((30, w) :: r2) := f3.cd
  have q4 := q3.up (by decide) (fun z => absurd z (by decide)) (by omega : L < 8)
  have c4 : SB (au_up (au_cd 14 0 s3)) (a2 + 1) (np + 1) := (((c1.ow g4 g5 (by omega)).ow f4 f5 (Nat.le_refl _)).ow Ow.cd Z0.rr (Nat.le_refl _)).ow Ow.up Z0.rr (by omega)
  have z4 : Z0 s1 (au_up (au_cd 14 0 s3)) (a + 1) := g5.tr f5 (by omega)
  have d4 : (au_up (au_cd 14 0 s3)).2 5 = s1.2 5 := f4.2.2.2.trans g4.2.2.2
  have t30 : (((au_up (au_cd 14 0 s3))).1 0).getD a2 0 = 30 := q3.hd.2.2.2.1
  have blk : ∃ bb : Ae, au_acc (s2, 4, ms2 ++ [b], bl) = .inl (au_up (au_cd 14 0 s3), 0, [], bb :: bl) ∧ bb.2.2.2.2.2 = nI a2 ∧ (k = 5 ∧ bb.1 = 5 ∨ k = 7 ∧ bb.1 = 7) := by
    rcases hb with ⟨e5, e⟩ | ⟨e7, e⟩
    · rw [if_pos ⟨rfl, e⟩, au_lv_y q3.1 (by omega)] at acc2
      exact ⟨_, acc2, h22, Or.inl ⟨e5, rfl⟩⟩
    · rw [if_neg (fun z => absurd z.2 (by rw [e]; decide)), if_pos ⟨rfl, e⟩, au_lv_y q3.1 (by omega)] at acc2
      exact ⟨_, acc2, h22, Or.inr ⟨e7, rfl⟩⟩
  obtain ⟨bb, acc3, hbb, hk5⟩ := blk
  obtain ⟨s5, a5, l1, l2, l3, l4, l5, l6⟩ := sm1_go (bl := bb :: bl) q4 hS c4 (by omega) (by omega : L + 1 < 7)
  have acc5 : au_acc (s5, 0, [], bb :: bl) = .inl (au_cls s5 bb bl) := by
    rw [acc_0]
    unfold au_s0
    rw [if_pos l2.hd.1]
  obtain ⟨p1, p2, p3⟩ := clb_go (b := bb) l2 hbb (by omega) ((l4 a2 (by omega)).trans t30)
  have c6 : SB (au_clb bb s5) (a5 + 1) (np + 2) := l3.ow p2 p3 (by omega)
  have zz : Z0 s s5 a := fun t ht => (l4 t (by omega)).trans ((z4 t (by omega)).trans (z1 t ht))
  have dd : s5.2 5 = s.2 5 := l6.trans (d4.trans d1)
  unfold au_cls at acc5
  rcases hk5 with ⟨e5, e⟩ | ⟨e7, e⟩
  · rw [if_pos e] at acc5
    have hset : au_set (au_clb bb s5, 1, [(51, bb.2.1, bb.2.2.1, 0, 0, 0)], bl) = (au_ep bb.2.1 (au_pt bb.2.2.1 (au_clb bb s5)), 0, [], bl) := by
      have hko : au_ko (au_clb bb s5) ≠ 6 := by
        rw [hr] at p1
        rw [p1.hd.1]
        exact hk2
      show (if (1 : Int32) = 1 ∧ au_ko (au_clb bb s5) ≠ 6 then _ else _) = _
      rw [if_pos ⟨rfl, hko⟩]
    refine ⟨_, a5 + 1, (GoA.one k1).tr (g1.tr ((GoA.one acc3).tr (l1.tr ((GoA.one acc5).tr (GoA.set hset))))), p1.pt.ep, (c6.ow Ow.pt Z0.rr (Nat.le_refl _)).ow Ow.ep Z0.rr (Nat.le_refl _), fun t ht => (p3 t (by omega)).trans (zz t ht), by omega, ?_⟩
    exact (p2.2.2.2 : (au_clb bb s5).2 5 = s5.2 5).trans dd
  · rw [if_neg (by rw [e]; decide), if_neg (by rw [e]; decide), if_pos e] at acc5
    refine ⟨_, a5 + 1, (GoA.one k1).tr (g1.tr ((GoA.one acc3).tr (l1.tr (GoA.one acc5)))), p1.cd.pt.ep, ((c6.ow Ow.cd Z0.rr (Nat.le_refl _)).ow Ow.pt Z0.rr (Nat.le_refl _)).ow Ow.ep Z0.rr (Nat.le_refl _), fun t ht => (p3 t (by omega)).trans (zz t ht), by omega, ?_⟩
    exact (p2.2.2.2 : (au_clb bb s5).2 5 = s5.2 5).trans dd
end STMD
