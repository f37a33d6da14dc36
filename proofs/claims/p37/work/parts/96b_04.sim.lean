/-! how a drawn program is read: the automaton's way, token by token -/
section SIMD
variable {s s' : Sx} {a e L np : Nat} {op bl : List Ae} {rest r : List KV} {st : Int32}
/-- the tokens of an operand without a mark -/
def BsT (rest r : List KV) : Prop := (∃ v, rest = (3, v) :: r) ∨ (∃ v, rest = (9, v) :: r) ∨ ∃ q k2 v2 r2, q < 6 ∧ r = (k2, v2) :: r2 ∧ k2 ≠ 28 ∧ rest = (4, nI q) :: r
def OpT (rest r : List KV) : Prop := BsT rest r ∨ ∃ pk pv r1, (pk = 13 ∨ pk = 25 ∨ pk = 26) ∧ rest = (pk, pv) :: r1 ∧ BsT r1 r
def mkK (k : Int32) : Prop := ∃ j : Nat, 12 ≤ j ∧ j < 25 ∧ k = nI j
theorem mkK_f : ∀ j : Nat, j < 25 → 12 ≤ j → (0 < lvK (nI j) ∧ lvK (nI j) < 7) ∧ 1 ≤ lvK (nI j) ∧ nI j ≠ 40 ∧ nI j ≠ 48 ∧ nI j ≠ 50 ∧ nI j ≠ 0 ∧ nI j ≠ 35 := by decide +kernel
def VlT : Nat → List KV → List KV → Prop
  | 0, rest, r => OpT rest r
  | n + 1, rest, r => ∃ mk v r1, OpT rest ((mk, v) :: r1) ∧ mkK mk ∧ VlT n r1 r
theorem BsT.ne {k v : Int32} {r' : List KV} (h : BsT rest r) (e : rest = (k, v) :: r') : k = 3 ∨ k = 9 ∨ k = 4 := by
  rcases h with ⟨w, h⟩ | ⟨w, h⟩ | ⟨q, k2, v2, r2, _, _, _, h⟩
  · rw [h] at e; cases e; exact Or.inl rfl
  · rw [h] at e; cases e; exact Or.inr (Or.inl rfl)
  · rw [h] at e; cases e; exact Or.inr (Or.inr rfl)
theorem acc_opd (h : st = 2 ∨ st = 3) : au_acc (s, st, op, bl) = au_opd s st op bl := by
  have h1 : st ≠ 1 := by rcases h with z | z <;> rw [z] <;> decide
  have h0 : st ≠ 0 := by rcases h with z | z <;> rw [z] <;> decide
  rw [au_acc_n h1]
  unfold au_acc0
  rw [if_neg h0, if_neg h1, if_pos h]
theorem f5004_r : f_5004 s = 13 ∨ f_5004 s = 14 := by
  unfold f_5004
  split
  · exact Or.inl rfl
  · exact Or.inr rfl
theorem base_go (h : Q1 s a e L rest) (hB : BsT rest r) (hst : st = 2 ∨ st = 3) (h13 : N8 (s.1 13)) (h14 : N8 (s.1 14)) : ∃ s', au_acc (s, st, op, bl) = .inl (au_en bl op s') ∧ Q1 s' (a + 1) e L r ∧ Ow s s' ∧ Z0 s s' a := by
  rw [acc_opd hst]
  unfold au_opd
  rcases hB with ⟨v, rfl⟩ | ⟨v, rfl⟩ | ⟨q, k2, v2, r2, hq, hr, hk2, rfl⟩
  · have hk := h.hd.1
    refine ⟨_, by rw [if_pos hk], (h.cd).nx (by decide) (fun z => absurd z (by decide)), Ow.cd.tr Ow.nx, Z0.rr⟩
  · have hk := h.hd.1
    refine ⟨_, by rw [if_neg (by rw [hk]; decide), if_pos hk], (h.cd).nx (by decide) (fun z => absurd z (by decide)), Ow.cd.tr Ow.nx, Z0.rr⟩
  · have hk := h.hd.1
    have hN : N8 (s.1 (f_5004 s)) := by
      rcases f5004_r (s := s) with z | z <;> rw [z] <;> assumption
    obtain ⟨s', v, g1, g2, g3, g4, _⟩ := h.var (k := fun s2 v => .inl (au_en bl op (au_cd 2 v s2))) hq f5004_r hN
    refine ⟨au_cd 2 v s', ?_, g2.cd, g3.tr Ow.cd, g4⟩
    have hnk : xg (s.1 0) (s.2 2 + 1) ≠ 28 := by
      rw [hr] at h
      rw [h.nk]
      exact hk2
    rw [if_neg (by rw [hk]; decide), if_neg (by rw [hk]; decide), if_neg (by rw [hk]; decide), if_neg (by rw [hk]; decide), if_neg (by rw [hk]; decide), if_pos hk, if_neg hnk]
    exact g1
theorem opd_go {ms B : List Ae} {b : Ae} (h : Q1 s a e L rest) (hO : OpT rest r) (hst : st = 2 ∨ st = 3) (h13 : N8 (s.1 13)) (h14 : N8 (s.1 14)) (hL : L < 8) (hM : Ms s a ms) (hb : Bt b) : ∃ s' a', GoA (s, st, ms ++ b :: B, bl) (s', 4, ms ++ b :: B, bl) ∧ Q1 s' a' e L r ∧ Ow s s' ∧ Z0 s s' a ∧ a < a' := by
  rcases hO with hB | ⟨pk, pv, r1, hpk, rfl, hB⟩
  · obtain ⟨s', g1, g2, g3, g4⟩ := base_go (op := ms ++ b :: B) (bl := bl) h hB hst h13 h14
    rw [en_n hM hb] at g1
    exact ⟨s', a + 1, GoA.one g1, g2, g3, g4, by omega⟩
  · have hk := h.hd.1
    have h4 : s.2 4 < 8 := (h.1.l8).2 hL
    have key : ∃ s1 x, au_acc (s, st, ms ++ b :: B, bl) = .inl (s1, 2, (40, x, s.2 2, 0, 0, 0) :: (ms ++ b :: B), bl) ∧ Q1 s1 (a + 1) e (L + 1) r1 ∧ Ow s s1 ∧ Z0 s s1 a := by
      rw [acc_opd hst]
      unfold au_opd
      rcases hpk with e | e | e
      · rw [e] at hk h
        obtain ⟨q1, q2⟩ := h.sk (x := 36) (by decide) (by decide)
        refine ⟨au_up (au_sk 36 s), 36, ?_, q1.up (by decide) (fun z => absurd z (by decide)) hL, Ow.sk.tr Ow.up, q2⟩
        rw [if_neg (by rw [hk]; decide), if_neg (by rw [hk]; decide), if_neg (by rw [hk]; decide), if_pos hk]
        unfold au_lv
        rw [if_pos (show (au_sk 36 s).2 4 < 8 from h4)]
      · rw [e] at hk h
        refine ⟨au_up s, au_ko s, ?_, h.up (by decide) (fun z => absurd z (by decide)) hL, Ow.up, Z0.rr⟩
        rw [if_neg (by rw [hk]; decide), if_neg (by rw [hk]; decide), if_neg (by rw [hk]; decide), if_neg (by rw [hk]; decide), if_pos (Or.inl hk)]
        unfold au_lv
        rw [if_pos h4]
      · rw [e] at hk h
        refine ⟨au_up s, au_ko s, ?_, h.up (by decide) (fun z => absurd z (by decide)) hL, Ow.up, Z0.rr⟩
        rw [if_neg (by rw [hk]; decide), if_neg (by rw [hk]; decide), if_neg (by rw [hk]; decide), if_neg (by rw [hk]; decide), if_pos (Or.inr hk)]
        unfold au_lv
        rw [if_pos h4]
    obtain ⟨s1, x, k1, k2, k3, k4⟩ := key
    obtain ⟨s2, g1, g2, g3, g4⟩ := base_go (op := (40, x, s.2 2, 0, 0, 0) :: (ms ++ b :: B)) (bl := bl) (st := 2) k2 hB (Or.inl rfl) (k3.2.1 h13) (k3.2.2.1 h14)
    have e40 : au_en bl ((40, x, s.2 2, 0, 0, 0) :: (ms ++ b :: B)) s2 = (au_cd 8 x (au_dn s2), 4, ms ++ b :: B, bl) := by
      have : au_en bl ((40, x, s.2 2, 0, 0, 0) :: (ms ++ b :: B)) s2 = au_en bl (ms ++ b :: B) (au_cd 8 x (au_dn s2)) := by
        conv => lhs; unfold au_en
        rw [if_pos rfl]
      rw [this]
      exact en_n hM hb
    rw [e40] at g1
    exact ⟨_, a + 1 + 1, (GoA.one k1).tr (GoA.one g1), g2.dn.cd, ((k3.tr g3).tr Ow.dn).tr Ow.cd, k4.tr g4 (by omega), by omega⟩
end SIMD
