/-! how a drawn program is read: statements -/
section STMD
variable {s s' : Sx} {a e L np : Nat} {op bl : List Ae} {rest r : List KV} {st : Int32}
/-- if and while with one simple statement -/
def Sm2 (rest r : List KV) : Prop := ∃ k v r1 n w r2 u, (k = 5 ∨ k = 7) ∧ rest = (k, v) :: r1 ∧ VlT n r1 ((30, w) :: r2) ∧ Sm1 r2 ((31, u) :: r)
/-- a block ends -/
theorem clb_go {b : Ae} {t : Nat} {v : Int32} (h : Q1 s a e (L + 1) ((31, v) :: r)) (hb : b.2.2.2.2.2 = nI t) (ht : t < a) (h30 : (s.1 0).getD t 0 = 30) : Q1 (au_clb b s) (a + 1) e L r ∧ Ow s (au_clb b s) ∧ Z0 s (au_clb b s) a := by
  unfold au_clb
  rw [hb]
  have h1 := h.sv (x := s.2 2 + 1) ht (by rw [h30]; decide)
  have h2 := h1.sva (x := b.2.2.2.2.1)
  exact ⟨(h2.nx (by decide) (fun z => absurd z (by decide))).dn, ((Ow.sv.tr Ow.sv).tr Ow.nx).tr Ow.dn, fun _ _ => rfl⟩
theorem sm2_k {k v : Int32} {r1 : List KV} (h : Q1 s a e L ((k, v) :: r1)) (hk : k = 5 ∨ k = 7) (hC : SB s a np) (hnp : np < 150) : ∃ s1 b, au_acc (s, 0, [], bl) = .inl (s1, 2, [b], bl) ∧ Q1 s1 (a + 1) e L r1 ∧ SB s1 (a + 1) (np + 1) ∧ Z0 s s1 a ∧ s1.2 5 = s.2 5 ∧ (k = 5 ∧ b.1 = 46 ∨ k = 7 ∧ b.1 = 47) := by
  have acc := acc_st (op := []) (bl := bl) h (by rcases hk with z | z <;> rw [z] <;> decide)
  have ko := st_ko h
  unfold au_st at acc
  have hC1 := hC.bp hnp
  have b1 := h.bp
  have z1 : Z0 s (au_bp s) a := fun _ _ => rfl
  have d1 : (au_bp s).2 5 = s.2 5 := rfl
  generalize au_bp s = s0 at acc hC1 b1 z1 d1
  rcases hk with e5 | e7
  · rw [e5] at ko b1
    rw [ko, if_neg (by decide), if_neg (by decide), if_neg (by decide), if_pos rfl] at acc
    refine ⟨_, _, acc, (b1.cd).nx (by decide) (fun z => absurd z (by decide)), (hC1.ow Ow.cd Z0.rr (Nat.le_refl _)).ow Ow.nx Z0.rr (by omega), ?_, ?_, Or.inl ⟨e5, rfl⟩⟩
    · exact fun t ht => z1 t ht
    · exact d1
  · rw [e7] at ko b1
    rw [ko, if_neg (by decide), if_neg (by decide), if_neg (by decide), if_neg (by decide), if_pos rfl] at acc
    refine ⟨_, _, acc, (b1.nx (by decide) (fun z => absurd z (by decide))).cd, (hC1.ow Ow.nx Z0.rr (by omega : a ≤ a + 1)).ow Ow.cd Z0.rr (Nat.le_refl _), ?_, ?_, Or.inr ⟨e7, rfl⟩⟩
    · exact fun t ht => z1 t ht
    · exact d1
theorem pt_z {y : Int32} : Z0 s (au_pt y s) a := fun t _ => congrArg (fun l : List Int32 => l.getD t 0) (pt_r (by decide))
theorem ep_z {y : Int32} : Z0 s (au_ep y s) a := fun t _ => congrArg (fun l : List Int32 => l.getD t 0) (ep_r (by decide))
theorem cd_z {c y : Int32} : Z0 s (au_cd c y s) a := fun _ _ => rfl
theorem sm2_e {bb : Ae} {s5 : Sx} {a5 t5 : Nat} {u k2 v2 : Int32} {r' : List KV} (l2 : Q1 s5 a5 e (L + 1) ((31, u) :: r)) (hr : r = (k2, v2) :: r') (hk2 : k2 ≠ 6) (hbb : bb.2.2.2.2.2 = nI t5) (ht5 : t5 < a5) (h30 : (s5.1 0).getD t5 0 = 30) (l3 : SB s5 a5 np) (hk5 : bb.1 = 5 ∨ bb.1 = 7) : ∃ s', GoA (s5, 0, [], bb :: bl) (s', 0, [], bl) ∧ Q1 s' (a5 + 1) e L r ∧ SB s' (a5 + 1) np ∧ Z0 s5 s' a5 ∧ s'.2 5 = s5.2 5 := by
  have acc5 : au_acc (s5, 0, [], bb :: bl) = .inl (au_cls s5 bb bl) := by
    rw [acc_0]
    unfold au_s0
    rw [if_pos l2.hd.1]
  obtain ⟨p1, p2, p3⟩ := clb_go (b := bb) l2 hbb ht5 h30
  have c6 : SB (au_clb bb s5) (a5 + 1) np := l3.ow p2 p3 (by omega)
  have d6 : (au_clb bb s5).2 5 = s5.2 5 := p2.2.2.2
  unfold au_cls at acc5
  generalize au_clb bb s5 = S at p1 p2 p3 c6 d6 acc5
  rcases hk5 with e | e
  · rw [if_pos e] at acc5
    have hset : au_set (S, 1, [(51, bb.2.1, bb.2.2.1, 0, 0, 0)], bl) = (au_ep bb.2.1 (au_pt bb.2.2.1 S), 0, [], bl) := by
      have hko : au_ko S ≠ 6 := by
        rw [hr] at p1
        rw [p1.hd.1]
        exact hk2
      show (if (1 : Int32) = 1 ∧ au_ko S ≠ 6 then _ else _) = _
      rw [if_pos ⟨rfl, hko⟩]
    refine ⟨_, (GoA.one acc5).tr (GoA.set hset), p1.pt.ep, (c6.ow Ow.pt pt_z (Nat.le_refl _)).ow Ow.ep ep_z (Nat.le_refl _), fun t ht => ((ep_z (a := a5) t ht).trans (pt_z (a := a5) t ht)).trans (p3 t ht), (Ow.ep.2.2.2).trans ((Ow.pt.2.2.2).trans d6)⟩
  · rw [if_neg (by rw [e]; decide), if_neg (by rw [e]; decide), if_pos e] at acc5
    refine ⟨_, GoA.one acc5, p1.cd.pt.ep, ((c6.ow Ow.cd cd_z (Nat.le_refl _)).ow Ow.pt pt_z (Nat.le_refl _)).ow Ow.ep ep_z (Nat.le_refl _), fun t ht => ((ep_z (a := a5) t ht).trans ((pt_z (a := a5) t ht).trans (cd_z (a := a5) t ht))).trans (p3 t ht), (Ow.ep.2.2.2).trans ((Ow.pt.2.2.2).trans ((Ow.cd.2.2.2).trans d6))⟩
theorem sm2_b {b : Ae} {ms : List Ae} {w : Int32} {r2 : List KV} {s2 : Sx} {a2 : Nat} {k : Int32} (g2 : Q1 s2 a2 e L ((30, w) :: r2)) (g3 : Ms s2 a2 ms) (hb : k = 5 ∧ b.1 = 46 ∨ k = 7 ∧ b.1 = 47) (hL : L < 8) (hC : SB s2 a2 np) : ∃ s4 bb, au_acc (s2, 4, ms ++ [b], bl) = .inl (s4, 0, [], bb :: bl) ∧ bb.2.2.2.2.2 = nI a2 ∧ (bb.1 = 5 ∨ bb.1 = 7) ∧ Q1 s4 (a2 + 1) e (L + 1) r2 ∧ SB s4 (a2 + 1) np ∧ Z0 s2 s4 a2 ∧ s4.2 5 = s2.2 5 ∧ (s4.1 0).getD a2 0 = 30 := by
  have hbt : Bt b := bt_k (hb.elim (fun z => Or.inr (Or.inr (Or.inr (Or.inl z.2)))) (fun z => Or.inr (Or.inr (Or.inr (Or.inr (Or.inl z.2))))))
  obtain ⟨ms', s3, f1, f2, f3, f4, f5, f6⟩ := fl_go (lv := 1) (by decide) hbt (B := []) ms s2 g3 g2
  have hm := f6 rfl
  subst hm
  have acc2 : au_acc (s2, 4, ms ++ [b], bl) = au_opr s2 (ms ++ [b]) bl := acc_opr
  have h22 : s2.2 2 = nI a2 := g2.hd.2.2.1
  have c3 := hC.ow f4 f5 (Nat.le_refl _)
  have d3 : s3.2 5 = s2.2 5 := f4.2.2.2
  unfold au_opr at acc2
  rw [g2.hd.1, if_neg lv30, f1] at acc2
  dsimp only [List.nil_append] at acc2
  rw [if_neg (fun z => absurd z.1 (by decide)), if_neg (fun z => absurd z.1 (by decide)), if_neg (fun z => absurd z.1 (by decide)), if_neg (fun z => absurd z.1 (by decide)), if_neg (fun z => absurd z.1 (by decide)), if_neg (fun z => absurd z.1 (by decide)), if_neg (fun z => absurd z.1 (by decide))] at acc2
  have q3 : Q1 (au_cd 14 0 s3) a2 e L ((30, w) :: r2) := f3.cd
  have c4 : SB (au_cd 14 0 s3) a2 np := c3.ow Ow.cd Z0.rr (Nat.le_refl _)
  have z4 : Z0 s2 (au_cd 14 0 s3) a2 := fun t ht => f5 t ht
  have d4 : (au_cd 14 0 s3).2 5 = s2.2 5 := d3
  generalize au_cd 14 0 s3 = S at acc2 q3 c4 z4 d4
  have q4 := q3.up (by decide) (fun z => absurd z (by decide)) hL
  have c5 := c4.ow (Ow.up (s := S)) Z0.rr (by omega : a2 ≤ a2 + 1)
  have t30 : (S.1 0).getD a2 0 = 30 := q3.hd.2.2.2.1
  rcases hb with ⟨e5, e⟩ | ⟨e7, e⟩
  · rw [if_pos ⟨rfl, e⟩, au_lv_y q3.1 hL] at acc2
    exact ⟨_, _, acc2, h22, Or.inl rfl, q4, c5, fun t ht => z4 t ht, d4, t30⟩
  · rw [if_neg (fun z => absurd z.2 (by rw [e]; decide)), if_pos ⟨rfl, e⟩, au_lv_y q3.1 hL] at acc2
    exact ⟨_, _, acc2, h22, Or.inr rfl, q4, c5, fun t ht => z4 t ht, d4, t30⟩
theorem sm2_go {k2 v2 : Int32} {r' : List KV} (h : Q1 s a e L rest) (hT : Sm2 rest r) (hr : r = (k2, v2) :: r') (hk2 : k2 ≠ 6) (hC : SB s a np) (hnp : 3 * np ≤ a) (hL : L < 6) : ∃ s' a', GoA (s, 0, [], bl) (s', 0, [], bl) ∧ Q1 s' a' e L r ∧ SB s' a' (np + 2) ∧ Z0 s s' a ∧ a + 6 ≤ a' ∧ s'.2 5 = s.2 5 := by
  obtain ⟨k, v, r1, n, w, r2, u, hk, rfl, hV, hS⟩ := hT
  have a300 : a ≤ 300 := h.hd.2.2.2.2.2.2.2.2.2
  obtain ⟨s1, b, k1, q1, c1, z1, d1, hb⟩ := sm2_k (bl := bl) h hk hC (by omega)
  have hbt : Bt b := bt_k (hb.elim (fun z => Or.inr (Or.inr (Or.inr (Or.inl z.2)))) (fun z => Or.inr (Or.inr (Or.inr (Or.inr (Or.inl z.2))))))
  obtain ⟨s2, a2, ms2, g1, g2, g3, g4, g5, g6⟩ := val_go (B := []) (b := b) (bl := bl) hbt (by omega : L < 8) n s1 (a + 1) r1 [] 2 q1 hV (Or.inl rfl) c1.2.1 c1.2.2.1 (fun x hx => by cases hx)
  obtain ⟨s4, bb, acc3, hbb, hk5, q4, c4, z4, d4, t30⟩ := sm2_b (bl := bl) g2 g3 hb (by omega : L < 8) (c1.ow g4 g5 (by omega))
  obtain ⟨s5, a5, l1, l2, l3, l4, l5, l6⟩ := sm1_go (bl := bb :: bl) q4 hS c4 (by omega) (by omega : L + 1 < 7)
  obtain ⟨s6, m1, m2, m3, m4, m5⟩ := sm2_e (bl := bl) l2 hr hk2 hbb (by omega) ((l4 a2 (by omega)).trans t30) l3 hk5
  refine ⟨s6, a5 + 1, (GoA.one k1).tr (g1.tr ((GoA.one acc3).tr (l1.tr m1))), m2, m3, fun t ht => (m4 t (by omega)).trans ((l4 t (by omega)).trans ((z4 t (by omega)).trans ((g5 t (by omega)).trans (z1 t ht)))), by omega, m5.trans (l6.trans (d4.trans (g4.2.2.2.trans d1)))⟩
end STMD
