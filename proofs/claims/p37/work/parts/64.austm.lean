/-! the reader and the automaton: blocks and statements -/
theorem rd_08 (n : Nat) (s : Sx) : f_rd (n + 1) 5008 0 s = f_5008 (f_rd n) s := by rw [f_rd]; rfl
theorem rd_09 (n : Nat) (s : Sx) : f_rd (n + 1) 5009 0 s = f_5009 (f_rd n) s := by rw [f_rd]; rfl
theorem rd_10 (n : Nat) (s : Sx) : f_rd (n + 1) 5010 0 s = f_5010 (f_rd n) s := by rw [f_rd]; rfl
theorem rd_11 (n : Nat) (s : Sx) : f_rd (n + 1) 5011 0 s = f_5011 (f_rd n) s := by rw [f_rd]; rfl
theorem rd_12 (n : Nat) (s : Sx) : f_rd (n + 1) 5012 0 s = f_5012 (f_rd n) s := by rw [f_rd]; rfl
theorem rd_13 (n : Nat) (s : Sx) : f_rd (n + 1) 5013 0 s = f_5013 (f_rd n) s := by rw [f_rd]; rfl
theorem rd_14 (n : Nat) (s : Sx) : f_rd (n + 1) 5014 0 s = f_5014 (f_rd n) s := by rw [f_rd]; rfl
def GoS (R : Option Sx) (a e L : Nat) (s : Sx) (bl : List Ae) : Prop :=
  RdF R (s, 0, [], bl) ∨ ∃ k A' s' a', R = some s' ∧ au_it (k + 1) (s, 0, [], bl) = .inl A' ∧ au_set A' = (s', 0, [], bl) ∧ Lv a' e L s' ∧ a < a' ∧ s'.2 5 = s.2 5
def C08 (n : Nat) : Prop := ∀ (a e L : Nat) (s : Sx) (bl : List Ae), Lv a e L s → 53 + 20 * (8 - L) ≤ n → (au_ko s ≠ 31 ∨ bl = []) → (au_ko s ≠ 0 ∨ bl ≠ []) → (L = 0 → s.2 5 = 0) → GoS (f_rd n 5008 0 s) a e L s bl
def C17 (n : Nat) : Prop := ∀ (a e L : Nat) (s : Sx) (o : Int32) (b : Ae) (bl : List Ae), Lv a e L s → au_ko s = 30 → L < 8 → 35 + 20 * (8 - L) ≤ n → b.2.2.2.2.1 = o → b.2.2.2.2.2 = s.2 2 →
  RdF (f_rd n 5017 o s) (au_up s, 0, [], b :: bl) ∨ ∃ k A1 s1 a1, f_rd n 5017 o s = some (au_clb b s1) ∧ au_it k (au_up s, 0, [], b :: bl) = .inl A1 ∧ au_set A1 = (s1, 0, [], b :: bl) ∧ au_ko s1 = 31 ∧ Lv a1 e (L + 1) s1 ∧ a < a1 ∧ s1.2 5 = s.2 5
theorem j63 (rec : Nat → Int32 → Sx → Option Sx) (o x z : Int32) (s : Sx) : f_5017_J63 rec o x z s = some (au_dn (f_5006 31 (au_sv (s.2 2) o (au_sv x (s.2 2 + 1) s)))) := rfl
theorem dd_63 {rec : Nat → Int32 → Sx → Option Sx} {f t o x z : Int32} {s : Sx} (h : Dd f t s) : ∃ d, f_5017_J63 rec o x z s = some d ∧ Dd f t d := by
  refine ⟨_, rfl, ?_⟩
  exact (((h.co (Co_sB (k := 1) (xs := xset (s.1 1) x (s.2 2 + 1)) (by decide))).co (Co_sB (k := 1) (by decide))).ex (x := 31) (by decide)).dn
theorem dd_L30 {rec : Nat → Int32 → Sx → Option Sx} {m : Nat} {f t o x z : Int32} {s : Sx} (h : Dd f t s) : ∃ d, f_5017_L30 rec (m + 1) o x z s = some d ∧ Dd f t d := by
  rw [f_5017_L30]
  split
  · exact dd_63 h
  · rw [h.ko, if_neg (by decide), if_pos rfl]
    exact dd_63 h
theorem dd_17 {n : Nat} {f t o : Int32} {s : Sx} (h : Dd f t s) : ∃ d, f_rd (n + 1) 5017 o s = some d ∧ Dd f t d := by
  rw [rd_17]
  unfold f_5017
  rw [h.ko, if_neg (by decide)]
  exact ⟨_, rfl, h.ref⟩
theorem x17_loop {n : Nat} (h08 : C08 n) {e L : Nat} {a : Nat} {sA s0 : Sx} {b : Ae} {bl : List Ae} (hn : 53 + 20 * (8 - (L + 1)) ≤ n) (h50 : s0.2 5 = sA.2 5) :
    ∀ (m : Nat) (l3 k : Nat) (A1 : Au) (s' : Sx) (a' : Nat), e - a' < m → l3 ≤ a' → au_it k (sA, 0, [], b :: bl) = .inl A1 → au_set A1 = (s', 0, [], b :: bl) → Lv a' e (L + 1) s' → a < a' → s'.2 5 = s0.2 5 →
      RdF (f_5017_L30 (f_rd n) m b.2.2.2.2.1 b.2.2.2.2.2 (nI l3) s') (sA, 0, [], b :: bl) ∨ ∃ k A1 s1 a1, f_5017_L30 (f_rd n) m b.2.2.2.2.1 b.2.2.2.2.2 (nI l3) s' = some (au_clb b s1) ∧ au_it k (sA, 0, [], b :: bl) = .inl A1 ∧ au_set A1 = (s1, 0, [], b :: bl) ∧ au_ko s1 = 31 ∧ Lv a1 e (L + 1) s1 ∧ a < a1 ∧ s1.2 5 = s0.2 5 := by
  intro m
  induction m with
  | zero => intro l3 k A1 s' a' hm; omega
  | succ m ihm =>
    intro l3 k A1 s' a' hm hl hk hA hL ha h5
    have he := hL.2.2.2.2.1
    rw [f_5017_L30]
    by_cases h31 : au_ko s' = 31
    · refine Or.inr ⟨k, A1, s', a', ?_, hk, hA, h31, hL, ha, h5⟩
      have hJ : f_5017_J63 (f_rd n) b.2.2.2.2.1 b.2.2.2.2.2 (nI l3) s' = some (au_clb b s') := by
        rw [j63, ex_y (by rw [(Co_sv.tr Co_sv).ko]; exact h31)]
        rfl
      split
      · exact hJ
      · rw [show f_5003 s' = au_ko s' from rfl, if_pos h31]
        exact hJ
    · by_cases h0 : au_ko s' = 0
      · left
        have hq : ∃ d, f_5017_J63 (f_rd n) b.2.2.2.2.1 b.2.2.2.2.2 (nI l3) s' = some d ∧ Dd 3 (s'.2 2) d := by
          rw [j63, ex_n (by rw [(Co_sv.tr Co_sv).ko]; exact h31)]
          exact ⟨_, rfl, ((hL.co (Co_sv.tr Co_sv)).ref (by decide)).dn⟩
        obtain ⟨d, w1, w2⟩ := hq
        have hac : au_acc A1 = .inr (3, s'.2 2) := by
          rw [← au_acc_set, hA, ac0]
          unfold au_s0 au_st
          rw [h0, if_neg (by decide), if_neg (by decide), if_neg (by decide), if_neg (by decide), if_neg (by decide), if_neg (by decide), if_neg (by decide), if_neg (by decide), if_neg (fun q => by have := q.2; simp at this)]
        refine ⟨3, s'.2 2, k + 1, d, ?_, ?_, w2⟩
        · split
          · exact w1
          · rw [show f_5003 s' = au_ko s' from rfl, if_neg h31, if_pos h0]
            exact w1
        · rw [au_it_add hk, au_it_f hac]
      · have hae := hL.lt h0
        have h300 : ¬ (300 : Int32) ≤ nI l3 := nI_ge (a := l3) (b := 300) (by omega) (by decide)
        rw [if_neg h300, show f_5003 s' = au_ko s' from rfl, if_neg h31, if_neg h0]
        rcases h08 a' e (L + 1) s' (b :: bl) hL (by omega) (Or.inl h31) (Or.inr (List.cons_ne_nil _ _)) (fun q => absurd q (by omega)) with ⟨f, t, kk, d, g1, g2, g3⟩ | ⟨k1, A2, t', a1, e1, e2, e3, e4, e5, e6⟩
        · left
          rw [g1]
          obtain ⟨d2, w1, w2⟩ := dd_L30 (rec := f_rd n) (m := m - 1) (o := b.2.2.2.2.1) (x := b.2.2.2.2.2) (z := nI l3 + 1) g3
          rw [show m - 1 + 1 = m by omega] at w1
          cases kk with
          | zero => cases g2
          | succ kk =>
            refine ⟨f, t, k + (kk + 1), d2, w1, ?_, w2⟩
            rw [au_it_add hk, ← au_it_set, hA]
            exact g2
        · rw [e1]
          show RdF (f_5017_L30 (f_rd n) m _ _ (nI l3 + 1) t') _ ∨ ∃ k A1 s1 a1, f_5017_L30 (f_rd n) m _ _ (nI l3 + 1) t' = _ ∧ _
          rw [nI_1]
          refine ihm (l3 + 1) (k + (k1 + 1)) A2 t' a1 (by omega) (by omega) ?_ e3 e4 (by omega) (e6.trans h5)
          rw [au_it_add hk, ← au_it_set, hA]
          exact e2
theorem x17 {n : Nat} (h08 : C08 n) : C17 (n + 1) := by
  intro a e L s o b bl hL h30 hl hn ho hs
  have hae := hL.lt (by rw [h30]; decide)
  have he := hL.2.2.2.2.1
  have hL1 := hL.up hae hl
  have := x17_loop h08 (a := a) (sA := au_up s) (s0 := s) (b := b) (bl := bl) (e := e) (L := L) (by omega) rfl 400 0 0 (au_up s, 0, [], b :: bl) (au_up s) (a + 1) (by omega) (by omega) rfl (au_set_n (by decide)) hL1 (by omega) rfl
  have hR : f_rd (n + 1) 5017 o s = f_5017_L30 (f_rd n) 400 b.2.2.2.2.1 b.2.2.2.2.2 (nI 0) (au_up s) := by
    rw [rd_17]
    unfold f_5017
    rw [show f_5003 s = au_ko s from rfl, if_pos h30, op_y (hL.l8.2 hl), ho, hs]
    rfl
  rw [hR]
  exact this
/-- a block behind what needs one -/
theorem blkH {n : Nat} (h17 : C17 (n + 1)) {a e L : Nat} {s : Sx} {b : Ae} {bl : List Ae} {A : Au} (hL : Lv a e L s) (hn : 34 + 20 * (8 - L) ≤ n) (hs : b.2.2.2.2.2 = s.2 2)
    (hac : au_acc A = if au_ko s = 30 then au_lv s (fun s2 => .inl (s2, 0, [], b :: bl)) else .inr (3, s.2 2)) :
    RdF (f_rd (n + 1) 5017 b.2.2.2.2.1 s) A ∨ (L < 8 ∧ ∃ k s1 a1, f_rd (n + 1) 5017 b.2.2.2.2.1 s = some (au_clb b s1) ∧ au_it (k + 1) A = .inl (au_cls s1 b bl) ∧ Lv a1 e (L + 1) s1 ∧ a1 < e ∧ a < a1 ∧ s1.2 5 = s.2 5) := by
  by_cases h30 : au_ko s = 30
  · rw [if_pos h30] at hac
    unfold au_lv at hac
    by_cases hl : L < 8
    · rw [if_pos (hL.l8.2 hl)] at hac
      rcases h17 a e L s b.2.2.2.2.1 b bl hL h30 hl (by omega) rfl hs with hf | ⟨k, A1, s1, a1, g1, g2, g3, g4, g5, g6, g7⟩
      · exact Or.inl (hf.pre (k := 1) (by rw [au_it_s hac]; rfl))
      · refine Or.inr ⟨hl, 1 + k, s1, a1, g1, ?_, g5, g5.lt (by rw [g4]; decide), g6, g7⟩
        have q : au_acc A1 = .inl (au_cls s1 b bl) := by
          rw [← au_acc_set, g3, ac0]
          unfold au_s0
          rw [if_pos g4]
        rw [Nat.add_comm 1 k, au_it_s hac, show k + 1 = k + 1 from rfl, au_it_add g2, au_it_s q]
        rfl
    · have hl' : ¬ s.2 4 < 8 := fun q => hl (hL.l8.1 q)
      rw [if_neg hl'] at hac
      have hD := hL.ref (f := 4) (t := s.2 2) (by decide)
      obtain ⟨d, w1, w2⟩ := dd_L30 (rec := f_rd n) (m := 399) (o := b.2.2.2.2.1) (x := s.2 2) (z := 0) hD
      refine Or.inl (RdF.one (s' := d) ?_ hac w2)
      rw [rd_17]
      unfold f_5017
      rw [show f_5003 s = au_ko s from rfl, if_pos h30, op_n hl']
      exact w1
  · rw [if_neg h30] at hac
    refine Or.inl (RdF.one (s' := f_5005 3 (s.2 2) s) ?_ hac (hL.ref (by decide)))
    rw [rd_17]
    unfold f_5017
    rw [show f_5003 s = au_ko s from rfl, if_neg h30]
    rfl
theorem Lv.clb {a e L : Nat} {s : Sx} {b : Ae} (h : Lv a e (L + 1) s) (hae : a < e) : Lv (a + 1) e L (au_clb b s) :=
  (((h.co (Co_sB (k := 1) (by decide))).co (Co_sB (k := 1) (by decide))).nx hae).dn
/-- an expression, a code, a ; and the end of the part -/
theorem stmE {n : Nat} (h18 : C18 n) {a e L a1 : Nat} {s s1 : Sx} {bl : List Ae} {x : Ae} {k0 : Nat} {c y : Int32} (hL : Lv a1 e L s1) (ha : a < a1) (hn : 49 + 20 * (8 - L) ≤ n) (h5 : s1.2 5 = s.2 5)
    (hk : au_it k0 (s, 0, [], bl) = .inl (s1, 2, [x], bl)) (hx0 : lvK x.1 = 0) (hx1 : x.1 ≠ 40 ∧ x.1 ≠ 48 ∧ x.1 ≠ 50)
    (hacc : ∀ s'' ops s', (∀ z, z ∈ ops → nI 1 ≤ lvK z.1) → (au_fl (nI 1) ops s'').2 = s' → (lvK (au_ko s') < nI 1 ∨ lvK (au_ko s') = 7) → au_acc (s'', 4, ops ++ [x], bl) = if au_ko s' = 33 then .inl (au_ep x.2.1 (au_nx (au_cd c y s')), 0, [], bl) else .inr (3, s'.2 2)) :
    GoS (bOv (f_rd n 5018 (nI 1) s1) fun s6 => some (au_ep x.2.1 (f_5006 33 (au_cd c y s6)))) a e L s bl := by
  have hh : HdOK (nI 1) [x] := ⟨by rw [hx0]; decide +kernel, hx1⟩
  rcases h18 1 (by omega) (by omega) a1 e L s1 2 [x] bl hL (by omega) (Or.inl rfl) hh with ⟨f, t, kk, d, g1, g2, g3⟩ | ⟨k1, t'', ops1, t', a2, e1, e2, e3, e4, e5, e6, e7, e8⟩
  · rw [g1]
    refine Or.inl ⟨f, t, k0 + kk, _, rfl, by rw [au_it_add hk]; exact g2, ((g3.co Co_cd).ex (x := 33) (by decide)).co Co_ep⟩
  · rw [e1]
    have q := hacc t'' ops1 t' e3 e4 e8
    by_cases h33 : au_ko t' = 33
    · rw [if_pos h33] at q
      have ha2 := e5.lt (by rw [h33]; decide)
      refine Or.inr ⟨k0 + k1, (au_ep x.2.1 (au_nx (au_cd c y t')), 0, [], bl), au_ep x.2.1 (au_nx (au_cd c y t')), a2 + 1, ?_, ?_, au_set_n (by decide), ((e5.co Co_cd).nx ha2).co Co_ep, by omega, ?_⟩
      · show some (au_ep x.2.1 (f_5006 33 (au_cd c y t'))) = _
        rw [ex_y (by rw [Co_cd.ko]; exact h33)]
      · rw [Nat.add_assoc, au_it_add hk, au_it_add e2, au_it_s q]
        rfl
      · exact e7.trans h5
    · rw [if_neg h33] at q
      refine Or.inl ⟨3, t'.2 2, k0 + (k1 + 1), au_ep x.2.1 (f_5006 33 (au_cd c y t')), rfl, ?_, ?_⟩
      · rw [au_it_add hk, au_it_add e2, au_it_f q]
      · rw [ex_n (by rw [Co_cd.ko]; exact h33)]
        exact ((e5.co Co_cd).ref (f := 3) (by decide)).co Co_ep
theorem stmD {n : Nat} {f t p c y : Int32} {s : Sx} (hn : 8 ≤ n) (h : Dd f t s) : ∃ d, (bOv (f_rd n 5018 (nI 1) s) fun s6 => some (au_ep p (f_5006 33 (au_cd c y s6)))) = some d ∧ Dd f t d := by
  obtain ⟨d, w1, w2⟩ := dd_18 n 1 s h (by omega) (by omega) (by omega)
  rw [w1]
  exact ⟨_, rfl, ((w2.co Co_cd).ex (x := 33) (by decide)).co Co_ep⟩
theorem opr43 {c y : Int32} {x : Ae} {bl : List Ae} (h : x.1 = 43 ∧ c = 3 ∧ y = x.2.2.2.1 ∨ x.1 = 44 ∧ c = 6 ∧ y = 0 ∨ x.1 = 45 ∧ c = 16 ∧ y = 0 ∨ x.1 = 49 ∧ c = 4 ∧ y = 0) :
    lvK x.1 = 0 ∧ (x.1 ≠ 40 ∧ x.1 ≠ 48 ∧ x.1 ≠ 50) ∧ ∀ s'' ops s', (∀ z, z ∈ ops → nI 1 ≤ lvK z.1) → (au_fl (nI 1) ops s'').2 = s' → (lvK (au_ko s') < nI 1 ∨ lvK (au_ko s') = 7) → au_acc (s'', 4, ops ++ [x], bl) = if au_ko s' = 33 then .inl (au_ep x.2.1 (au_nx (au_cd c y s')), 0, [], bl) else .inr (3, s'.2 2) := by
  obtain ⟨x0, xr⟩ := x
  rcases h with ⟨h, rfl, rfl⟩ | ⟨h, rfl, rfl⟩ | ⟨h, rfl, rfl⟩ | ⟨h, rfl, rfl⟩
  all_goals
    change x0 = _ at h
    subst h
    dsimp only
    refine ⟨by decide +kernel, by decide, fun s'' ops s' h1 h2 h3 => ?_⟩
    rw [opr_e h1 h2 (by decide +kernel) h3]
    by_cases q : au_ko s' = 33
    · simp [q]
    · simp [q]
