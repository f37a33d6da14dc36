/-! the reference goes through a text beside the automaton -/
section LOOP
variable {tx : List Int32} {s : Sx} {op bl : List Ae} {a L : Nat} {m : Mx}
/-- at a token that is none nothing goes on -/
theorem nob {st : Int32} (hk : au_ko s = 1 ∨ au_ko s = 2) (h13 : st ≠ 13) (h1 : st ≠ 1) : ArP (fun _ => False) (au_acc0 s st op bl) := by
  have n : ∀ v : Int32, v ≠ 1 → v ≠ 2 → ¬ au_ko s = v := fun v h1 h2 e => by
    rcases hk with q | q
    · exact h1 (e.symm.trans q)
    · exact h2 (e.symm.trans q)
  have x : ∀ {v : Int32} {P : Prop}, v ≠ 1 → v ≠ 2 → au_ko s = v → P := fun h1 h2 e => absurd e (n _ h1 h2)
  unfold au_acc0
  refine ArP.ite (fun _ => ?_) (fun _ => ?_)
  · unfold au_s0
    refine ArP.ite (x (by decide) (by decide)) (fun _ => ?_)
    unfold au_st
    refine ArP.ite (x (by decide) (by decide)) (fun _ => ?_)
    refine ArP.ite (x (by decide) (by decide)) (fun _ => ?_)
    refine ArP.ite (x (by decide) (by decide)) (fun _ => ?_)
    refine ArP.ite (x (by decide) (by decide)) (fun _ => ?_)
    refine ArP.ite (x (by decide) (by decide)) (fun _ => ?_)
    refine ArP.ite (x (by decide) (by decide)) (fun _ => ?_)
    exact ArP.ite (x (by decide) (by decide)) (fun _ => ArP.r)
  refine ArP.ite (fun e1 => absurd e1 h1) (fun _ => ?_)
  refine ArP.ite (fun _ => ?_) (fun _ => ?_)
  · unfold au_opd
    refine ArP.ite (x (by decide) (by decide)) (fun _ => ?_)
    refine ArP.ite (x (by decide) (by decide)) (fun _ => ?_)
    refine ArP.ite (x (by decide) (by decide)) (fun _ => ?_)
    refine ArP.ite (x (by decide) (by decide)) (fun _ => ?_)
    refine ArP.ite (fun q => q.elim (x (by decide) (by decide)) (x (by decide) (by decide))) (fun _ => ?_)
    refine ArP.ite (x (by decide) (by decide)) (fun _ => ?_)
    exact ArP.ite (fun q => x (by decide) (by decide) q.1) (fun _ => ArP.r)
  refine ArP.ite (fun _ => ?_) (fun _ => ?_)
  · unfold au_opr
    refine ArP.ite (fun q => ?_) (fun _ => ?_)
    · exfalso
      rcases hk with e | e <;> rw [e] at q <;> exact absurd q (by decide +kernel)
    · cases (au_fl 1 op s).1 with
      | nil => exact ArP.r
      | cons e r =>
        show ArP (fun _ => False) (if au_ko s = 29 ∧ e.1 = 41 then _ else _)
        refine ArP.ite (fun q => x (by decide) (by decide) q.1) (fun _ => ?_)
        refine ArP.ite (fun q => x (by decide) (by decide) q.1) (fun _ => ?_)
        refine ArP.ite (fun q => x (by decide) (by decide) q.1) (fun _ => ?_)
        refine ArP.ite (fun q => x (by decide) (by decide) q.1) (fun _ => ?_)
        refine ArP.ite (fun q => x (by decide) (by decide) q.1) (fun _ => ?_)
        refine ArP.ite (fun q => x (by decide) (by decide) q.1) (fun _ => ?_)
        refine ArP.ite (fun q => x (by decide) (by decide) q.1) (fun _ => ?_)
        refine ArP.ite (fun q => x (by decide) (by decide) q.1) (fun _ => ?_)
        exact ArP.ite (fun q => x (by decide) (by decide) q.1) (fun _ => ArP.r)
  refine ArP.ite (fun _ => ArP.ite (x (by decide) (by decide)) (fun _ => ArP.r)) (fun _ => ?_)
  refine ArP.ite (fun _ => ?_) (fun _ => ?_)
  · cases op with
    | nil => exact ArP.r
    | cons e r => exact ArP.ite (x (by decide) (by decide)) (fun _ => ArP.r)
  refine ArP.ite (fun _ => ?_) (fun _ => ?_)
  · unfold au_dfw
    exact ArP.ite (x (by decide) (by decide)) (fun _ => ArP.r)
  refine ArP.ite (fun _ => ArP.ite (x (by decide) (by decide)) (fun _ => ArP.r)) (fun _ => ?_)
  have hp : ArP (fun _ => False) (au_prm s op bl) := by
    unfold au_prm
    exact ArP.ite (x (by decide) (by decide)) (fun _ => ArP.r)
  refine ArP.ite (fun _ => ArP.ite (x (by decide) (by decide)) (fun _ => hp)) (fun _ => ?_)
  refine ArP.ite (fun _ => hp) (fun _ => ?_)
  refine ArP.ite (fun _ => ArP.ite (x (by decide) (by decide)) (fun _ => ArP.ite (x (by decide) (by decide)) (fun _ => ArP.r))) (fun _ => ?_)
  refine ArP.ite (fun q => absurd q h13) (fun _ => ?_)
  cases op with
  | nil => exact ArP.r
  | cons e r => exact ArP.ite (x (by decide) (by decide)) (fun _ => ArP.r)
/-- where the text may end, nothing goes on -/
theorem acc99 {st : Int32} (hko : au_ko s = 0) (hS : Sh tx s st op [] a) (hst : st = 0 ∨ st = 1) : au_acc (s, st, op, []) = .inr (99, s.2 2) := by
  have hr : ∀ (s' : Sx), au_ko s' = 0 → au_s0 s' [] = .inr (99, s'.2 2) := fun s' hk => by
    unfold au_s0 au_st
    rw [hk, if_neg (by decide), if_neg (by decide), if_neg (by decide), if_neg (by decide), if_neg (by decide), if_neg (by decide), if_neg (by decide), if_neg (by decide), if_pos ⟨rfl, rfl⟩]
  rcases hst with e | e
  · subst e
    rw [ac0, hr s hko]
  · subst e
    obtain ⟨⟨p, k, hop, _⟩, _⟩ := hS.s1
    subst hop
    rw [← au_acc_set, au_set1 (by rw [hko]; decide), ac0, hr _ (by rw [(Co_pt.tr Co_ep).ko]; exact hko)]
    rfl
/-- one token -/
theorem stepA {A B : Au} (h : Rel tx A a L m 0) (hI : Inv tx A a L) (hT : Tb A.2.2.1 A.2.2.2 a) (hB : au_acc A = .inl B) : a + 1 < (tks tx).length ∧ ∃ m1 m' L', f_12019 m = some m1 ∧ f_12054 m1 = some (m', 1) ∧ Rel tx B (a + 1) L' m' 0 ∧ Inv tx B (a + 1) L' ∧ Tb B.2.2.1 B.2.2.2 (a + 1) := by
  obtain ⟨s, st, op, bl⟩ := A
  have hL : Lv a ((tks tx).length - 1) L s := h.1
  have hp := tks_pos tx
  have ha : a < (tks tx).length := by
    have := hL.2.2.2.1
    omega
  have hS : Sh tx s st op bl a := hI.2.2.1
  obtain ⟨m1, e1, e2, e3, e4, e5, e6⟩ := h.read
  have hF : RelF tx (s, st, op, bl) a L m1 := ⟨h.1, h.2.1, e2, e5, e6⟩
  have hko : au_ko s = tkd (tks tx) a := hF.ko ha
  have hend : tkd (tks tx) a = 0 → (st = 0 ∨ st = 1) → bl ≠ [] := fun k0 hst hbl => by
    subst hbl
    rw [acc99 (hko.trans k0) hS hst] at hB
    cases hB
  have hO := outA hF e4 hI hT e3 ha hend
  obtain ⟨m', L', g1, g2, g3⟩ := hO.1 B hB
  have hk : ¬ (tkd (tks tx) a = 1 ∨ tkd (tks tx) a = 2) := fun q => by
    have hn : st ≠ 13 := fun e => by
      subst e
      obtain ⟨xs, f, _, _, _, _, _, e5⟩ := Sh.sE hS (by decide)
      rw [e5 rfl] at q
      exact absurd q (by decide)
    by_cases e1 : st = 1
    · subst e1
      obtain ⟨⟨p, k, hop, _⟩, _⟩ := hS.s1
      subst hop
      rw [← au_acc_set, au_set1 (by rw [hko]; rcases q with e | e <;> rw [e] <;> decide)] at hB
      rw [au_acc_n (by decide)] at hB
      exact nob (st := 0) (by rw [(Co_pt.tr Co_ep).ko, hko]; exact q) (by decide) (by decide) B hB
    · rw [au_acc_n e1] at hB
      exact nob (by rw [hko]; exact q) hn e1 B hB
  have hl : a + 1 < (tks tx).length := by
    rcases Nat.lt_or_ge (a + 1) (tks tx).length with q | q
    · exact q
    · exfalso
      have := g2.1.2.2.2.1
      omega
  exact ⟨hl, m1, m', L', e1, (acc_12054 e3 hk e5.1).trans g1, g2, g3, tb_acc (tx := tx) hL.2.1 hT hS B hB⟩
/-- a fault -/
theorem stepF {A : Au} {f t : Int32} (h : Rel tx A a L m 0) (hI : Inv tx A a L) (hT : Tb A.2.2.1 A.2.2.2 a) (hB : au_acc A = .inr (f, t)) (h99 : f ≠ 99) : ∃ m1 m', f_12019 m = some m1 ∧ f_12054 m1 = some (m', 0) ∧ m' 0 9 = flt f (tkd (tks tx) a) ∧ m' 0 10 = nI (tpl (tks tx) a) ∧ t = nI a ∧ a < (tks tx).length := by
  obtain ⟨s, st, op, bl⟩ := A
  have hL : Lv a ((tks tx).length - 1) L s := h.1
  have hp := tks_pos tx
  have ha : a < (tks tx).length := by
    have := hL.2.2.2.1
    omega
  have hS : Sh tx s st op bl a := hI.2.2.1
  obtain ⟨m1, e1, e2, e3, e4, e5, e6⟩ := h.read
  have hF : RelF tx (s, st, op, bl) a L m1 := ⟨h.1, h.2.1, e2, e5, e6⟩
  have hko : au_ko s = tkd (tks tx) a := hF.ko ha
  have hend : tkd (tks tx) a = 0 → (st = 0 ∨ st = 1) → bl ≠ [] := fun k0 hst hbl => by
    subst hbl
    rw [acc99 (hko.trans k0) hS hst] at hB
    exact h99 (Prod.mk.inj (Sum.inr.inj hB)).1.symm
  obtain ⟨g1, m', g2, g3, g4⟩ := (outA hF e4 hI hT e3 ha hend).2 f t hB
  exact ⟨m1, m', e1, g2, g3, g4, g1, ha⟩
/-- the end of a text that is read -/
theorem stepE {A : Au} {s' : Sx} (h : Rel tx A a L m 0) (hI : Inv tx A a L) (hset : au_set A = (s', 0, [], [])) (hk : au_ko s' = 0) :
    ∃ m1 m', f_12019 m = some m1 ∧ f_12054 m1 = some (m', 0) ∧ E10 m1 m' ∧ m' 0 9 = 0 ∧ RR (tks tx) tx (au_cd 17 0 s') a [] [] (fun _ => False) (fun _ => False) 0 m' ∧ a + 1 = (tks tx).length ∧ Lv a ((tks tx).length - 1) 0 s' ∧ Raw tx s' a ∧ (s'.1 7).length < 600 ∧ 3 * (s'.1 15).length ≤ a ∧ 3 * (s'.1 5).length ≤ a ∧ 8 * (s'.1 9).length ≤ tx.length + 1 := by
  obtain ⟨s, st, op, bl⟩ := A
  have hL : Lv a ((tks tx).length - 1) L s := h.1
  have hp := tks_pos tx
  have ha : a < (tks tx).length := by
    have := hL.2.2.2.1
    omega
  have hS : Sh tx s st op bl a := hI.2.2.1
  obtain ⟨m1, e1, e2, e3, e4, e5, e6⟩ := h.read
  have hF : RelF tx (s, st, op, bl) a L m1 := ⟨h.1, h.2.1, e2, e5, e6⟩
  have hko : au_ko s = tkd (tks tx) a := hF.ko ha
  have h32 : mf m1 32 = st := e5.1
  -- both ways come to a state that looks for a statement
  have key : ∀ (M : Mx), S0F tx s' [] a L M → Tok tx a M → mAcc st m1 = f_12042 M → E10 m1 M → ∃ m1' m', f_12019 m = some m1' ∧ f_12054 m1' = some (m', 0) ∧ E10 m1' m' ∧ m' 0 9 = 0 ∧ RR (tks tx) tx (au_cd 17 0 s') a [] [] (fun _ => False) (fun _ => False) 0 m' ∧ a + 1 = (tks tx).length ∧ Lv a ((tks tx).length - 1) 0 s' ∧ Raw tx s' a ∧ (s'.1 7).length < 600 ∧ 3 * (s'.1 15).length ≤ a ∧ 3 * (s'.1 5).length ≤ a ∧ 8 * (s'.1 9).length ≤ tx.length + 1 := by
    intro M hM ht hacc hE10
    obtain ⟨⟨sL, sR, sM⟩, _, _, p3, c1, c2, c3, c4, c5⟩ := hM
    have k0 : tkd (tks tx) a = 0 := (sR.ko sL ha).symm.trans hk
    have hL0 : L = 0 := c4
    have h1 : a + 1 = (tks tx).length := by
      rcases Nat.lt_or_ge (a + 1) (tks tx).length with q | q
      · exact absurd k0 (tks_at q).2.1
      · omega
    have h300 := sL.2.2.2.2.1
    have h301 := sL.2.2.2.1
    have hc : (s'.1 7).length < 600 := by
      have c1' : (s'.1 7).length + 2 * 0 ≤ 2 * a := c1
      have := c2 rfl
      omega
    have f11 : mf M 11 = nI (s'.1 7).length := sM.2.1.1
    have f38 : mf M 38 = nI 0 := sM.2.2.2.2.2.2.2.2.1
    refine ⟨m1, MA 17 0 M, e1, ?_, ?_, ?_, ?_, h1, by rw [hL0] at sL; exact sL, sR, hc, c3, p3, ?_⟩
    · rw [acc_12054 e3 (by rw [k0]; decide) h32, hacc]
      have h5 : mf M 5 = km 0 := ht.k k0
      unfold f_12042
      rw [if_pos (by rw [h5]; rfl), if_pos (by rw [f38]; rfl), MA_e f11 (by omega), bO_some, if_pos (nI_pos' (by omega))]
    · show MA 17 0 M 0 10 = _
      rw [MA_0 (by decide)]
      exact hE10
    · rw [MA_0 (by decide)]
      exact sM.1.2
    · refine ((sM.cd (c := 17) (x := 0) (w := 17) (y := 0) hc rfl rfl).oew (fun k hk => ?_))
      obtain ⟨_, ⟨z, hz, _⟩ | ⟨b, hb, _⟩⟩ := hk
      · cases hz
      · cases hb
    · have c5' : 8 * (s'.1 9).length ≤ bend (tks tx) a + 0 := c5
      have := bend_le (tx := tx) ha
      omega
  by_cases c : st = 1 ∧ au_ko s ≠ 6
  · obtain ⟨c1, c2⟩ := c
    subst c1
    obtain ⟨p, k, M, hop, hM, hacc, h0⟩ := S1.setF hF hI (e3.nk ha 6 5 (by decide) rfl (by rw [← hko]; exact c2))
    subst hop
    rw [au_set1 c2] at hset
    have q1 : au_ep p (au_pt k s) = s' := (Prod.mk.inj hset).1
    have q2 : bl = [] := (Prod.mk.inj (Prod.mk.inj (Prod.mk.inj hset).2).2).2
    subst q2
    rw [q1] at hM
    refine key M hM ?_ (mAcc_1.trans hacc) (h0 10 (by decide))
    unfold Tok
    rw [h0 5 (by decide), h0 6 (by decide), h0 8 (by decide)]
    exact e3
  · have hse : au_set (s, st, op, bl) = (s, st, op, bl) := if_neg c
    rw [hse] at hset
    have q1 : s = s' := (Prod.mk.inj hset).1
    have q2 : st = 0 := (Prod.mk.inj (Prod.mk.inj hset).2).1
    have q3 : op = [] := (Prod.mk.inj (Prod.mk.inj (Prod.mk.inj hset).2).2).1
    have q4 : bl = [] := (Prod.mk.inj (Prod.mk.inj (Prod.mk.inj hset).2).2).2
    subst q1
    subst q2
    subst q3
    subst q4
    exact key m1 (S0F.of0 hF hI).2 e3 mAcc_0 rfl
theorem L81_0 (n : Nat) (m : Mx) : f_12055_L81 (n + 1) 0 m = f_12055_L99 1000 0 0 m := by
  rw [f_12055_L81, if_pos rfl]
theorem L81_1 {n : Nat} {m m1 m' : Mx} {r : Int32} (e1 : f_12019 m = some m1) (e2 : f_12054 m1 = some (m', r)) : f_12055_L81 (n + 1) 1 m = f_12055_L81 n r m' := by
  rw [f_12055_L81, if_neg (by decide), e1, bOv_some, e2, bO_some]
/-- a text with a fault -/
theorem loop_f : ∀ (k : Nat) (A : Au) (a L : Nat) (m : Mx) (f t : Int32) (n : Nat), Rel tx A a L m 0 → Inv tx A a L → Tb A.2.2.1 A.2.2.2 a → au_it k A = .inr (f, t) → f ≠ 99 → (tks tx).length - a + 1 < n →
    ∃ m' i, f_12055_L81 n 1 m = f_12055_L99 1000 0 0 m' ∧ FrR m m' ∧ m' 0 9 = flt f (tkd (tks tx) i) ∧ m' 0 10 = nI (tpl (tks tx) i) ∧ t = nI i ∧ i < (tks tx).length := by
  intro k
  induction k with
  | zero => intro A a L m f t n _ _ _ e; cases e
  | succ k ih =>
    intro A a L m f t n h hI hT e h99 hn
    obtain ⟨n, rfl⟩ : ∃ y, n = y + 1 := ⟨n - 1, by omega⟩
    cases q : au_acc A with
    | inl B =>
      rw [au_it_s q] at e
      obtain ⟨hl, m1, m2, L', g1, g2, g3, g4, g5⟩ := stepA h hI hT q
      obtain ⟨m', i, w1, w2, w3⟩ := ih B (a + 1) L' m2 f t n g3 g4 g5 e h99 (by omega)
      refine ⟨m', i, ?_, (FrR.tr (fr_12019 FrR.r m1 g1) (fr_12054 FrR.r m2 1 g2)).tr w2, w3⟩
      rw [L81_1 g1 g2]
      exact w1
    | inr ft =>
      rw [au_it_f q] at e
      have e' : ft = (f, t) := Sum.inr.inj e
      rw [e'] at q
      obtain ⟨m1, m2, g1, g2, g3, g4, g5, g6⟩ := stepF h hI hT q h99
      obtain ⟨n, rfl⟩ : ∃ y, n = y + 1 := ⟨n - 1, by omega⟩
      exact ⟨m2, a, by rw [L81_1 g1 g2, L81_0], FrR.tr (fr_12019 FrR.r m1 g1) (fr_12054 FrR.r m2 0 g2), g3, g4, g5, g6⟩
/-- a text that is read -/
theorem loop_s {s' : Sx} : ∀ (k : Nat) (A : Au) (a L : Nat) (m : Mx) (B : Au) (n : Nat), Rel tx A a L m 0 → Inv tx A a L → Tb A.2.2.1 A.2.2.2 a → au_it k A = .inl B → au_set B = (s', 0, [], []) → au_ko s' = 0 → (tks tx).length - a + 1 < n →
    ∃ m' i, f_12055_L81 n 1 m = f_12055_L99 1000 0 0 m' ∧ FrR m m' ∧ E10 m m' ∧ m' 0 9 = 0 ∧ RR (tks tx) tx (au_cd 17 0 s') i [] [] (fun _ => False) (fun _ => False) 0 m' ∧ i + 1 = (tks tx).length ∧ Lv i ((tks tx).length - 1) 0 s' ∧ Raw tx s' i ∧ (s'.1 7).length < 600 ∧ 3 * (s'.1 15).length ≤ i ∧ 3 * (s'.1 5).length ≤ i ∧ 8 * (s'.1 9).length ≤ tx.length + 1 := by
  intro k
  induction k with
  | zero =>
    intro A a L m B n h hI hT e hset hk hn
    obtain ⟨n, rfl⟩ : ∃ y, n = y + 1 := ⟨n - 1, by omega⟩
    obtain ⟨n, rfl⟩ : ∃ y, n = y + 1 := ⟨n - 1, by omega⟩
    have e' : A = B := Sum.inl.inj e
    subst e'
    obtain ⟨m1, m2, g1, g2, g10, g3⟩ := stepE h hI hset hk
    exact ⟨m2, a, by rw [L81_1 g1 g2, L81_0], FrR.tr (fr_12019 FrR.r m1 g1) (fr_12054 FrR.r m2 0 g2), Eq.trans g10 (fe_12019 E10.r m1 g1), g3⟩
  | succ k ih =>
    intro A a L m B n h hI hT e hset hk hn
    obtain ⟨n, rfl⟩ : ∃ y, n = y + 1 := ⟨n - 1, by omega⟩
    cases q : au_acc A with
    | inl C =>
      rw [au_it_s q] at e
      obtain ⟨hl, m1, m2, L', g1, g2, g3, g4, g5⟩ := stepA h hI hT q
      obtain ⟨m', i, w1, w2, w10, w3⟩ := ih C (a + 1) L' m2 B n g3 g4 g5 e hset hk (by omega)
      refine ⟨m', i, ?_, (FrR.tr (fr_12019 FrR.r m1 g1) (fr_12054 FrR.r m2 1 g2)).tr w2, Eq.trans w10 (Eq.trans (fc_12054 E10.r m2 1 g2 (by decide)) (fe_12019 E10.r m1 g1)), w3⟩
      rw [L81_1 g1 g2]
      exact w1
    | inr ft =>
      rw [au_it_f q] at e
      cases e
end LOOP
