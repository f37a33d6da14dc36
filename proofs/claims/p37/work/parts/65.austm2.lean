/-! the reader and the automaton: parameters of a def -/
theorem ac1 {s : Sx} {e : Ae} {r bl : List Ae} (h : au_ko s = 6) : au_acc (s, 1, e :: r, bl) = .inl (au_pt e.2.2.1 (au_cd 13 0 (au_nx s)), 7, (52, e.2.1, s.2 2, au_cn (au_cd 13 0 (au_nx s)), 0, 0) :: r, bl) := by
  unfold au_acc
  rw [show au_set (s, 1, e :: r, bl) = (s, 1, e :: r, bl) from if_neg (fun q => q.2 h)]
  show au_acc0 s 1 (e :: r) bl = _
  unfold au_acc0
  rw [if_neg (by decide), if_pos rfl]
theorem ac7 {s : Sx} {e : Ae} {r bl : List Ae} : au_acc (s, 7, e :: r, bl) = if au_ko s = 30 then au_lv s (fun s2 => .inl (s2, 0, r, (if e.1 = 52 then 6 else 10, e.2.1, e.2.2.2.1, 0, e.2.2.1, s.2 2) :: bl)) else .inr (3, s.2 2) := by
  rw [au_acc_n (by decide)]; unfold au_acc0
  rw [if_neg (by decide), if_neg (by decide), if_neg (by decide), if_neg (by decide), if_neg (by decide), if_pos rfl]
theorem ac8 {s : Sx} {op bl : List Ae} : au_acc (s, 8, op, bl) = au_dfw s op bl := by
  rw [au_acc_n (by decide)]; unfold au_acc0
  rw [if_neg (by decide), if_neg (by decide), if_neg (by decide), if_neg (by decide), if_neg (by decide), if_neg (by decide), if_pos rfl]
theorem ac9 {s : Sx} {op bl : List Ae} : au_acc (s, 9, op, bl) = if au_ko s = 28 then au_lv s fun s2 => .inl (s2, 10, op, bl) else .inr (3, s.2 2) := by
  rw [au_acc_n (by decide)]; unfold au_acc0
  rw [if_neg (by decide), if_neg (by decide), if_neg (by decide), if_neg (by decide), if_neg (by decide), if_neg (by decide), if_neg (by decide), if_pos rfl]
theorem ac10 {s : Sx} {op bl : List Ae} : au_acc (s, 10, op, bl) = if au_ko s = 29 then au_pcl s op bl else au_prm s op bl := by
  rw [au_acc_n (by decide)]; unfold au_acc0
  rw [if_neg (by decide), if_neg (by decide), if_neg (by decide), if_neg (by decide), if_neg (by decide), if_neg (by decide), if_neg (by decide), if_neg (by decide), if_pos rfl]
theorem ac11 {s : Sx} {op bl : List Ae} : au_acc (s, 11, op, bl) = au_prm s op bl := by
  rw [au_acc_n (by decide)]; unfold au_acc0
  rw [if_neg (by decide), if_neg (by decide), if_neg (by decide), if_neg (by decide), if_neg (by decide), if_neg (by decide), if_neg (by decide), if_neg (by decide), if_neg (by decide), if_pos rfl]
theorem ac12 {s : Sx} {op bl : List Ae} : au_acc (s, 12, op, bl) = if au_ko s = 32 then .inl (au_nx s, 11, op, bl) else if au_ko s = 29 then au_pcl s op bl else .inr (3, s.2 2) := by
  rw [au_acc_n (by decide)]; unfold au_acc0
  rw [if_neg (by decide), if_neg (by decide), if_neg (by decide), if_neg (by decide), if_neg (by decide), if_neg (by decide), if_neg (by decide), if_neg (by decide), if_neg (by decide), if_neg (by decide), if_pos rfl]
theorem ac14 {s : Sx} {e : Ae} {r bl : List Ae} : au_acc (s, 14, e :: r, bl) = if au_ko s = 33 then .inl (au_ep e.2.1 (au_nx s), 0, r, bl) else .inr (3, s.2 2) := by
  rw [au_acc_n (by decide)]; unfold au_acc0
  rw [if_neg (by decide), if_neg (by decide), if_neg (by decide), if_neg (by decide), if_neg (by decide), if_neg (by decide), if_neg (by decide), if_neg (by decide), if_neg (by decide), if_neg (by decide), if_neg (by decide), if_neg (by decide)]
/-- a parameter -/
theorem prmH {a e L : Nat} {s : Sx} {op bl : List Ae} {A : Au} (hL : Lv a e L s) (hac : au_acc A = au_prm s op bl) :
    (∃ f t, au_acc A = .inr (f, t) ∧ Dd f t (f_5016 s)) ∨ (au_acc A = .inl (f_5016 s, 12, op, bl) ∧ Lv (a + 1) e L (f_5016 s) ∧ a < e ∧ (f_5016 s).2 5 = s.2 5) := by
  unfold au_prm at hac
  unfold f_5016
  rw [show f_5003 s = au_ko s from rfl]
  by_cases h4 : au_ko s = 4
  · rw [if_pos h4] at hac ⊢
    have hae := hL.lt (by rw [h4]; decide)
    by_cases hp : xpos (s.1 14) (xg (s.1 1) (s.2 2)) = -1
    · rw [if_pos hp] at hac ⊢
      unfold au_var at hac
      by_cases cv : xpos (s.1 14) (xg (s.1 1) (s.2 2)) = -1 ∧ ¬ nI (s.1 14).length < 8
      · rw [if_pos cv] at hac
        left
        refine ⟨_, _, hac, ?_⟩
        rw [var_f cv]
        exact hL.ref (by decide)
      · rw [if_neg cv] at hac
        right
        obtain ⟨w1, w2⟩ := var_ok hL hae (by decide) cv
        exact ⟨hac, w1, hae, w2⟩
    · rw [if_neg hp] at hac ⊢
      exact Or.inl ⟨_, _, hac, hL.ref (by decide)⟩
  · rw [if_neg h4] at hac ⊢
    exact Or.inl ⟨_, _, hac, hL.ref (by decide)⟩
theorem dd_81 {f t : Int32} {s : Sx} (h : Dd f t (f_5006 29 s)) : ∃ d, f_5015_J81 s = some d ∧ Dd f t d := ⟨_, rfl, h.dn⟩
theorem dd_L45 {m : Nat} {f t x : Int32} {s : Sx} (h : Dd f t s) : ∃ d, f_5015_L45 (m + 1) x s = some d ∧ Dd f t d := by
  rw [f_5015_L45]
  split
  · exact dd_81 (h.ex (by decide))
  · rw [h.ko, if_neg (by decide)]
    exact dd_81 (h.ex (by decide))
/-- the outcome of the parameters -/
def GoP (R : Option Sx) (A : Au) (a e L : Nat) (s0 : Sx) (x : Ae) (r bl : List Ae) : Prop :=
  RdF R A ∨ ∃ k s1 a1, R = some (au_dn (au_nx s1)) ∧ au_it (k + 1) A = .inl (au_pz x.2.2.2.2.1 s1, 7, x :: r, bl) ∧ Lv a1 e (L + 1) s1 ∧ a < a1 ∧ a1 < e ∧ s1.2 5 = s0.2 5
theorem prm81 {A B : Au} {k a a' e L : Nat} {s0 s : Sx} {x : Ae} {r bl : List Ae} (hk : au_it k A = .inl B) (hL : Lv a' e (L + 1) s) (ha : a < a') (h5 : s.2 5 = s0.2 5)
    (hac : au_acc B = if au_ko s = 29 then au_pcl s (x :: r) bl else .inr (3, s.2 2)) : GoP (f_5015_J81 s) A a e L s0 x r bl := by
  by_cases h29 : au_ko s = 29
  · rw [if_pos h29] at hac
    refine Or.inr ⟨k, s, a', ?_, ?_, hL, ha, hL.lt (by rw [h29]; decide), h5⟩
    · unfold f_5015_J81
      rw [ex_y h29]
      rfl
    · rw [au_it_add hk, au_it_s hac]
      rfl
  · rw [if_neg h29] at hac
    obtain ⟨d, w1, w2⟩ := dd_81 (s := s) (by rw [ex_n h29]; exact hL.ref (f := 3) (t := s.2 2) (by decide))
    exact Or.inl ⟨3, s.2 2, k + 1, d, w1, by rw [au_it_add hk, au_it_f hac], w2⟩
theorem prm_loop {A : Au} {a e L : Nat} {s0 : Sx} {x : Ae} {r bl : List Ae} : ∀ (m l k : Nat) (s : Sx) (a' : Nat), e - a' < m → l ≤ a' → au_it k A = .inl (s, 12, x :: r, bl) → Lv a' e (L + 1) s → a < a' → s.2 5 = s0.2 5 → GoP (f_5015_L45 m (nI l) s) A a e L s0 x r bl := by
  intro m
  induction m with
  | zero => intro l k s a' hm; omega
  | succ m ih =>
    intro l k s a' hm hl hk hL ha h5
    have he := hL.2.2.2.2.1
    rw [f_5015_L45]
    by_cases h32 : au_ko s = 32
    · have hae := hL.lt (by rw [h32]; decide)
      have h300 : ¬ (300 : Int32) ≤ nI l := nI_ge (a := l) (b := 300) (by omega) (by decide)
      rw [if_neg h300, show f_5003 s = au_ko s from rfl, if_pos h32]
      have q1 : au_acc (s, 12, x :: r, bl) = .inl (au_nx s, 11, x :: r, bl) := by rw [ac12, if_pos h32]
      show GoP (f_5015_L45 m (nI l + 1) (f_5016 (au_nx s))) A a e L s0 x r bl
      rcases prmH (hL.nx hae) (ac11 (s := au_nx s) (op := x :: r) (bl := bl)) with ⟨f, t, w1, w2⟩ | ⟨w1, w2, w3, w4⟩
      · obtain ⟨d, v1, v2⟩ := dd_L45 (m := m - 1) (x := nI l + 1) w2
        rw [show m - 1 + 1 = m by omega] at v1
        exact Or.inl ⟨f, t, k + (1 + 1), d, v1, by rw [au_it_add hk, au_it_s q1, au_it_f w1], v2⟩
      · rw [nI_1]
        refine ih (l + 1) (k + (1 + 1)) _ (a' + 1 + 1) (by omega) (by omega) ?_ w2 (by omega) (w4.trans h5)
        rw [au_it_add hk, au_it_s q1, au_it_s w1]
        rfl
    · have := prm81 (A := A) (a := a) hk hL ha h5 (by rw [ac12, if_neg h32])
      split
      · exact this
      · rw [show f_5003 s = au_ko s from rfl, if_neg h32]
        exact this
theorem x15 {a e L : Nat} {s : Sx} {x : Ae} {r bl : List Ae} (hL : Lv a e L s) (hl : L < 8) : GoP (f_5015 s) (sB s 14 [], 9, x :: r, bl) a e L s x r bl := by
  have he := hL.2.2.2.2.1
  unfold f_5015
  have hL8 : Lv a e L (sB s 14 []) := hL.co (Co_sB (by decide))
  generalize hg : sB s 14 [] = s8 at hL8
  have h85 : s8.2 5 = s.2 5 := by rw [← hg]; rfl
  rw [bS_eq]
  show GoP (if au_ko s8 = 28 then bS (f_5007 s8) (fun s11 => if f_5003 s11 = 29 then f_5015_J81 s11 else bS (f_5016 s11) fun s14 => f_5015_L45 400 (nI 0) s14) else bS (f_5005 3 (s8.2 2) s8) fun s15 => some s15) _ a e L s x r bl
  have q0 := ac9 (s := s8) (op := x :: r) (bl := bl)
  by_cases h28 : au_ko s8 = 28
  · rw [if_pos h28] at q0 ⊢
    have hae := hL8.lt (by rw [h28]; decide)
    unfold au_lv at q0
    rw [if_pos (hL8.l8.2 hl)] at q0
    rw [op_y (hL8.l8.2 hl)]
    have hL1 := hL8.up hae hl
    have q1 : au_it 1 (s8, 9, x :: r, bl) = .inl (au_up s8, 10, x :: r, bl) := by rw [au_it_s q0]; rfl
    rw [bS_eq]
    show GoP (if au_ko (au_up s8) = 29 then f_5015_J81 (au_up s8) else bS (f_5016 (au_up s8)) fun s14 => f_5015_L45 400 (nI 0) s14) _ a e L s x r bl
    by_cases h29 : au_ko (au_up s8) = 29
    · rw [if_pos h29]
      exact prm81 q1 hL1 (by omega) h85 (by rw [ac10, if_pos h29, if_pos h29])
    · rw [if_neg h29]
      rcases prmH hL1 (A := (au_up s8, 10, x :: r, bl)) (op := x :: r) (bl := bl) (by rw [ac10, if_neg h29]) with ⟨f, t, w1, w2⟩ | ⟨w1, w2, w3, w4⟩
      · obtain ⟨d, v1, v2⟩ := dd_L45 (m := 399) (x := nI 0) w2
        rw [bS_eq]
        exact Or.inl ⟨f, t, 1 + 1, d, v1, by rw [au_it_s q0, au_it_f w1], v2⟩
      · rw [bS_eq]
        refine prm_loop 400 0 (1 + 1) _ (a + 1 + 1) (by omega) (by omega) ?_ w2 (by omega) (w4.trans h85)
        rw [au_it_s q0, au_it_s w1]
        rfl
  · rw [if_neg h28] at q0 ⊢
    exact Or.inl (RdF.one rfl q0 (hL8.ref (by decide)))
