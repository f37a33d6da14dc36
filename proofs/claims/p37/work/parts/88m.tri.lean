/-! every act: what goes on, what is a fault -/
section OUT
variable {tx : List Int32} {s : Sx} {op bl : List Ae} {a L : Nat} {m : Mx}
abbrev isK (k : Int32) : Prop := 0 ≤ k.toInt ∧ k.toInt ≤ 33
theorem isK_tk (tx : List Int32) (p : Nat) : isK (lx_tk tx p).1 := by
  unfold lx_tk
  split
  · exact ite_P (P := isK) (by decide) (by decide)
  · split
    · show isK (lx_kw _)
      unfold lx_kw
      repeat (refine ite_P (P := isK) (by decide) ?_)
      decide
    · split
      · show isK (lx_1 _)
        unfold lx_1 f_9013
        repeat (refine ite_P (P := isK) (by decide) ?_)
        decide
      · show isK (lx_2 _ _)
        unfold lx_2 f_9012
        refine ite_P (P := isK) (ite_P (by decide) (ite_P (by decide) (ite_P (by decide) (ite_P (by decide) (by decide))))) (ite_P (ite_P (by decide) (ite_P (by decide) (by decide))) (by decide))
theorem tkd_K {i : Nat} (h : i < (tks tx).length) : isK (tkd (tks tx) i) := by
  rcases Nat.lt_or_ge (i + 1) (tks tx).length with q | q
  · rw [(tks_at q).1.1]
    unfold lx_nx
    split
    · exact (by decide : isK 0)
    · exact isK_tk tx _
  · have e : i = (tks tx).length - 1 := by omega
    rw [e, tks_end.2.1]
    exact (by decide : isK 0)
theorem isK_n {k : Int32} (h : isK k) : ∃ j, j < 34 ∧ k = nI j := by
  refine ⟨k.toInt.toNat, by have := h.1; have := h.2; omega, ?_⟩
  rw [i_eq, nI_T (by have := h.1; have := h.2; omega)]
  have := h.1
  omega
theorem km_i : ∀ j, j < 34 → ∀ l, l < 34 → km (nI j) = km (nI l) → j = l := by decide +kernel
theorem km_inj {k l : Int32} (hk : isK k) (hl : isK l) (h : km k = km l) : k = l := by
  obtain ⟨j, j1, j2⟩ := isK_n hk
  obtain ⟨i, i1, i2⟩ := isK_n hl
  rw [j2, i2] at h
  rw [j2, i2, km_i j j1 i i1 h]
theorem Tok.nk (ht : Tok tx a m) (ha : a < (tks tx).length) (v w : Int32) (hv : isK v) (hw : km v = w) (h : tkd (tks tx) a ≠ v) : ¬ mf m 5 = w := by
  intro e
  have h5 : mf m 5 = km (tkd (tks tx) a) := ht.1
  rw [h5, ← hw] at e
  exact h (km_inj (tkd_K ha) hv e)
theorem tk_lt (ha : a < (tks tx).length) (h : tkd (tks tx) a ≠ 0) : a + 1 < (tks tx).length := by
  rcases Nat.lt_or_ge (a + 1) (tks tx).length with q | q
  · exact q
  · exfalso
    have e : a = (tks tx).length - 1 := by omega
    apply h
    rw [e]
    exact tks_end.2.1
/-- the relation at a token that may be the end -/
def RelF (tx : List Int32) (A : Au) (a L : Nat) (m : Mx) : Prop :=
  Lv a ((tks tx).length - 1) L A.1 ∧ Raw tx A.1 a ∧ RR (tks tx) tx A.1 a (mop A.2.1 A.2.2.1) A.2.2.2 (oeP A.2.2.1 A.2.2.2) (ocP A.2.2.1) (pdN A.2.1) m ∧ (m 0 32 = A.2.1 ∧ m 0 33 = A.1.2 4 ∧ m 0 34 = scN A.2.1 (A.1.2 5)) ∧ Ex A.2.1 A.2.2.1 A.2.2.2 a A.1 m
def Out (tx : List Int32) (st : Int32) (r : Ar) (a : Nat) (m : Mx) : Prop := (∀ B, r = .inl B → Good tx st B a m) ∧ ∀ f t, r = .inr (f, t) → t = nI a ∧ Bad tx a f m
theorem Out.g {st : Int32} {B : Au} (h : Good tx st B a m) : Out tx st (.inl B) a m := ⟨(fun B' e => by cases e; exact h), (fun f t e => by cases e)⟩
theorem Out.b {st f t : Int32} (h1 : t = nI a) (h2 : Bad tx a f m) : Out tx st (.inr (f, t)) a m := ⟨(fun B' e => by cases e), (fun f t e => by cases e; exact ⟨h1, h2⟩)⟩
theorem Bad3 {st : Int32} (ht : Tok tx a m) (hs : mf m 32 = st) (h : ¬ (tkd (tks tx) a = 1 ∨ tkd (tks tx) a = 2) → Fb (mAcc st m) m 3) : Bad tx a 3 m := by
  by_cases q : tkd (tks tx) a = 1 ∨ tkd (tks tx) a = 2
  · exact bad_tok ht q
  · exact (h q).bad ht q hs
theorem mAcc_0 : mAcc 0 m = f_12042 m := by
  unfold mAcc
  rw [if_pos rfl]
theorem mAcc_1 : mAcc 1 m = f_12039 m := by
  unfold mAcc
  rw [if_neg (by decide), if_pos rfl]
theorem mAcc_5 : mAcc 5 m = f_12053 25 2 m := by
  unfold mAcc
  rw [if_neg (by decide), if_neg (by decide), if_neg (by decide), if_neg (by decide), if_neg (by decide), if_pos rfl]
theorem mAcc_6 : mAcc 6 m = bOv (f_12024 49 0 m) fun s11 => f_12053 25 2 s11 := by
  unfold mAcc
  rw [if_neg (by decide), if_neg (by decide), if_neg (by decide), if_neg (by decide), if_neg (by decide), if_neg (by decide), if_pos rfl]
theorem sets_b {x0 x1 : Int32} {M : Mx} (h : ¬ mf M 5 = x0) (h6 : mf M 6 = mf m 6) : Fb (f_12053 x0 x1 M) m 3 := by
  refine ⟨M, ?_, h6⟩
  unfold f_12053
  rw [if_neg h]
  rfl
theorem up_b {M : Mx} (h33 : mf M 33 = nI 8) : f_12026 M = (mp (mp M 9 4) 10 (mf M 6), 0) := lv_12026b h33
theorem RelF.ko {A : Au} (h : RelF tx A a L m) (ha : a < (tks tx).length) : au_ko A.1 = tkd (tks tx) a := h.2.1.ko h.1 ha
theorem RelF.q33 {A : Au} (h : RelF tx A a L m) : mf m 33 = nI L := h.2.2.2.1.2.1.trans h.1.2.2.2.2.2.2.1
theorem out5 (h : RelF tx (s, 5, op, bl) a L m) (hg : a + 1 < (tks tx).length → Rel tx (s, 5, op, bl) a L m 1) (hI : Inv tx (s, 5, op, bl) a L) (ht : Tok tx a m) (ha : a < (tks tx).length) : Out tx 5 (au_acc (s, 5, op, bl)) a m := by
  have hko : au_ko s = tkd (tks tx) a := h.ko ha
  have h22 : s.2 2 = nI a := h.1.2.1
  rw [ac56 (Or.inl rfl), hko]
  by_cases e : tkd (tks tx) a = 27
  · rw [if_pos e]
    have hl := tk_lt ha (by rw [e]; decide)
    exact Out.g (go5 (hg hl) hI ht hl e)
  · rw [if_neg e]
    refine Out.b h22 (Bad3 (st := 5) ht h.2.2.2.1.1 fun _ => ?_)
    rw [mAcc_5]
    exact sets_b (ht.nk ha 27 25 (by decide) rfl e) rfl
theorem out6 (h : RelF tx (s, 6, op, bl) a L m) (hg : a + 1 < (tks tx).length → Rel tx (s, 6, op, bl) a L m 1) (hI : Inv tx (s, 6, op, bl) a L) (ht : Tok tx a m) (ha : a < (tks tx).length) : Out tx 6 (au_acc (s, 6, op, bl)) a m := by
  have hko : au_ko s = tkd (tks tx) a := h.ko ha
  have h22 : s.2 2 = nI a := h.1.2.1
  rw [ac56 (Or.inr rfl), hko]
  by_cases e : tkd (tks tx) a = 27
  · rw [if_pos e]
    have hl := tk_lt ha (by rw [e]; decide)
    exact Out.g (go6 (hg hl) hI ht hl e)
  · rw [if_neg e]
    refine Out.b h22 (Bad3 (st := 6) ht h.2.2.2.1.1 fun _ => ?_)
    have hM : RR (tks tx) tx s a (mop 6 op) bl (oeP op bl) (ocP op) (pdN 6) m := h.2.2.1
    obtain ⟨f, hf, _⟩ := Sh.s6 (s := s) (op := op) (bl := bl) (a := a) (tx := tx) hI.2.2.1
    rw [hf] at hM
    have h35 : mf m 35 = nI 0 := hM.2.2.2.2.2.2.2.1.1
    rw [mAcc_6, MO_e h35 (by decide), bOv_some]
    exact sets_b (M := MO 49 0 m) (by rw [mf_MO (by decide)]; exact ht.nk ha 27 25 (by decide) rfl e) (mf_MO (by decide))
theorem out14 (h : RelF tx (s, 14, op, bl) a L m) (hg : a + 1 < (tks tx).length → Rel tx (s, 14, op, bl) a L m 1) (hI : Inv tx (s, 14, op, bl) a L) (ht : Tok tx a m) (ha : a < (tks tx).length) : Out tx 14 (au_acc (s, 14, op, bl)) a m := by
  have hko : au_ko s = tkd (tks tx) a := h.ko ha
  have h22 : s.2 2 = nI a := h.1.2.1
  obtain ⟨f, hf, e1, ⟨⟨p, hp, hp2⟩, t, ht1, ht2, ht3⟩⟩ := Sh.s14 (s := s) (op := op) (bl := bl) (a := a) (tx := tx) hI.2.2.1
  have h300 := h.1.2.2.2.2.1
  subst hf
  rw [ac14, hko]
  by_cases e : tkd (tks tx) a = 33
  · rw [if_pos e]
    have hl := tk_lt ha (by rw [e]; decide)
    obtain ⟨f', hf', hG⟩ := go14 (hg hl) hI ht hl e
    rw [← (List.cons.inj hf').1] at hG
    exact Out.g hG
  · rw [if_neg e]
    refine Out.b h22 (Bad3 (st := 14) ht h.2.2.2.1.1 fun _ => ?_)
    have hE' : Ex 14 ([] ++ [f]) bl a s m := h.2.2.2.2
    have h43 : mf m 43 = nI p := (hE'.f43 (by rw [e1]; decide) (by rw [e1]; decide)).trans hp
    have h301 := h.1.2.2.2.1
    have hp5 : p < (s.1 5).length := hp2
    have ht3' : 3 * (s.1 5).length ≤ t + 3 := ht3
    rw [mAcc_14, h43, gd_e (vi_n (by omega) (by omega)), bS_eq]
    exact sets_b (M := ms m 8 (nI p) (mf m 14)) (by rw [mf_ms (by decide)]; exact ht.nk ha 33 31 (by decide) rfl e) (mf_ms (by decide))
theorem out13 (h : RelF tx (s, 13, op, bl) a L m) (hg : a + 1 < (tks tx).length → Rel tx (s, 13, op, bl) a L m 1) (hI : Inv tx (s, 13, op, bl) a L) (ht : Tok tx a m) (ha : a < (tks tx).length) : Out tx 13 (au_acc (s, 13, op, bl)) a m := by
  have h22 : s.2 2 = nI a := h.1.2.1
  have hLs : Lv a ((tks tx).length - 1) L s := h.1
  obtain ⟨xs, f, _, _, _, _, _, e5⟩ := Sh.sE (s := s) (op := op) (bl := bl) (a := a) (tx := tx) (st := 13) hI.2.2.1 (by decide)
  have hk := e5 rfl
  have hl := tk_lt ha (by rw [hk]; decide)
  rw [ac13]
  unfold au_lv
  have e4 : (au_sk 38 s).2 4 = s.2 4 := rfl
  rw [e4]
  by_cases q : s.2 4 < 8
  · rw [if_pos q]
    exact Out.g (go13 (hg hl) hI hl (hLs.l8.1 q))
  · rw [if_neg q]
    have h8 : L = 8 := by
      have := hLs.L8
      have hn : ¬ L < 8 := fun w => q (hLs.l8.2 w)
      omega
    exact Out.b h22 (bad13 (hg hl) ht (by rw [hk]; decide) h8)
theorem out9 (h : RelF tx (s, 9, op, bl) a L m) (hg : a + 1 < (tks tx).length → Rel tx (s, 9, op, bl) a L m 1) (hI : Inv tx (s, 9, op, bl) a L) (ht : Tok tx a m) (ha : a < (tks tx).length) : Out tx 9 (au_acc (s, 9, op, bl)) a m := by
  have hko : au_ko s = tkd (tks tx) a := h.ko ha
  have h22 : s.2 2 = nI a := h.1.2.1
  have hLs : Lv a ((tks tx).length - 1) L s := h.1
  rw [ac9, hko]
  by_cases e : tkd (tks tx) a = 28
  · rw [if_pos e]
    have hl := tk_lt ha (by rw [e]; decide)
    obtain ⟨g1, g2⟩ := go9 (hg hl) hI ht hl e
    unfold au_lv
    rw [if_pos (hLs.l8.2 g1)]
    exact Out.g g2
  · rw [if_neg e]
    refine Out.b h22 (Bad3 (st := 9) ht h.2.2.2.1.1 fun _ => ?_)
    rw [mAcc_9, if_neg (ht.nk ha 28 26 (by decide) rfl e)]
    exact Fb.i
/-- a parameter, or none -/
theorem outPrm {st : Int32} (hst : st = 10 ∨ st = 11) (h : RelF tx (s, st, op, bl) a L m) (hg : a + 1 < (tks tx).length → Rel tx (s, st, op, bl) a L m 1) (hI : Inv tx (s, st, op, bl) a L) (ht : Tok tx a m) (ha : a < (tks tx).length) (h29 : st = 10 → tkd (tks tx) a ≠ 29) : Out tx st (au_prm s op bl) a m := by
  have hko : au_ko s = tkd (tks tx) a := h.ko ha
  have h22 : s.2 2 = nI a := h.1.2.1
  have hLs : Lv a ((tks tx).length - 1) L s := h.1
  have h32 : mf m 32 = st := h.2.2.2.1.1
  have hJ : mAcc st m = f_12050_J37 m := by
    rcases hst with e | e
    · subst e
      rw [mAcc_10]
      unfold f_12050
      rw [if_neg (ht.nk ha 29 27 (by decide) rfl (h29 rfl))]
    · subst e
      rw [mAcc_11]
      unfold f_12050
      by_cases q : mf m 5 = 27
      · rw [if_pos q, if_neg (by rw [h32]; decide)]
      · rw [if_neg q]
  unfold au_prm
  rw [hko]
  by_cases e : tkd (tks tx) a = 4
  · rw [if_pos e]
    have hl := tk_lt ha (by rw [e]; decide)
    have hR := hg hl
    have hval : xg (s.1 1) (s.2 2) = tvl (tks tx) a := h.2.1.vl h.1 ha
    have hM : RR (tks tx) tx s a (mop st op) bl (oeP op bl) (ocP op) (pdN st) m := h.2.2.1
    have hpd : pdN st = 1 := by rcases hst with e | e <;> rw [e] <;> rfl
    have h34' : mf m 34 = nI 1 := by
      have q : m 0 34 = scN st (s.2 5) := h.2.2.2.1.2.2
      have : scN st (s.2 5) = 1 := by rcases hst with e | e <;> rw [e] <;> rfl
      rw [this] at q
      exact q
    have h7 : m 0 7 = nI (bend (tks tx) (a + 1)) := hR.2.2.2.1
    have h5 := ht.k e
    have h8 : (s.1 14).length ≤ 8 := hM.2.2.2.1.2.2.2.1
    have h8i : nI (s.1 14).length < 8 ↔ (s.1 14).length < 8 := ⟨fun w => Classical.byContradiction fun q => by
      have e8 : (s.1 14).length = 8 := by omega
      rw [e8] at w
      exact absurd w (by decide), fun w => nI_lt (b := 8) w (by decide)⟩
    rw [hpd] at hM
    have hvv : xpos (s.1 14) (tvl (tks tx) a) = -1 → (s.1 14).length < 8 → Out tx st (.inl ((f_5022 14 s).1, 12, op, bl)) a m := fun hx h8' => Out.g (goPrm hst hR hI ht hl e hx h8')
    have v2 : xpos (s.1 14) (tvl (tks tx) a) = -1 → ¬ (s.1 14).length < 8 → f_12029 m = some (m, -1) ∧ f_12028 m = some (xpos (s.1 14) (tvl (tks tx) a)) := fun hx h8' => by
      rcases hst with e | e
      · subst e
        obtain ⟨w1, w2, w3, w4⟩ := var_12029 hM (o := 1) (Nat.le_refl _) h34' ht.2.1 h7 hl ‹_›
        exact ⟨w2 hx h8', w4⟩
      · subst e
        obtain ⟨w1, w2, w3, w4⟩ := var_12029 hM (o := 1) (Nat.le_refl _) h34' ht.2.1 h7 hl ‹_›
        exact ⟨w2 hx h8', w4⟩
    have v4 : f_12028 m = some (xpos (s.1 14) (tvl (tks tx) a)) := by
      obtain ⟨w1, w2, w3, w4⟩ := var_12029 hM (o := 1) (Nat.le_refl _) h34' ht.2.1 h7 hl e
      exact w4
    rw [hval]
    by_cases hx : xpos (s.1 14) (tvl (tks tx) a) = -1
    · rw [if_pos hx]
      unfold au_var
      rw [hval]
      by_cases h8' : (s.1 14).length < 8
      · rw [if_neg (fun q => q.2 (h8i.2 h8'))]
        exact hvv hx h8'
      · rw [if_pos ⟨hx, fun w => h8' (h8i.1 w)⟩]
        refine Out.b h22 (Bad.at (m2 := m) (st := st) ht (by rw [e]; decide) h32 ?_ rfl)
        rw [hJ]
        unfold f_12050_J37
        rw [if_pos (by rw [h5]; rfl), v4, bP_some, if_pos hx, (v2 hx h8').1, bO_some, if_pos rfl]
        rfl
    · rw [if_neg hx]
      refine Out.b h22 (Bad.at (m2 := m) (st := st) ht (by rw [e]; decide) h32 ?_ rfl)
      rw [hJ]
      unfold f_12050_J37
      rw [if_pos (by rw [h5]; rfl), v4, bP_some, if_neg hx]
      rfl
  · rw [if_neg e]
    refine Out.b h22 (Bad3 (st := st) ht h32 fun _ => ?_)
    rw [hJ]
    unfold f_12050_J37
    rw [if_neg (ht.nk ha 4 2 (by decide) rfl e)]
    exact Fb.i
theorem out10 (h : RelF tx (s, 10, op, bl) a L m) (hg : a + 1 < (tks tx).length → Rel tx (s, 10, op, bl) a L m 1) (hI : Inv tx (s, 10, op, bl) a L) (ht : Tok tx a m) (ha : a < (tks tx).length) : Out tx 10 (au_acc (s, 10, op, bl)) a m := by
  have hko : au_ko s = tkd (tks tx) a := h.ko ha
  rw [ac10, hko]
  by_cases e : tkd (tks tx) a = 29
  · rw [if_pos e]
    have hl := tk_lt ha (by rw [e]; decide)
    obtain ⟨f, hf, hG⟩ := goPz (Or.inl rfl) (hg hl) hI ht hl e
    subst hf
    exact Out.g hG
  · rw [if_neg e]
    exact outPrm (Or.inl rfl) h hg hI ht ha (fun _ => e)
theorem out11 (h : RelF tx (s, 11, op, bl) a L m) (hg : a + 1 < (tks tx).length → Rel tx (s, 11, op, bl) a L m 1) (hI : Inv tx (s, 11, op, bl) a L) (ht : Tok tx a m) (ha : a < (tks tx).length) : Out tx 11 (au_acc (s, 11, op, bl)) a m := by
  rw [ac11]
  exact outPrm (Or.inr rfl) h hg hI ht ha (fun q => absurd q (by decide))
theorem out12 (h : RelF tx (s, 12, op, bl) a L m) (hg : a + 1 < (tks tx).length → Rel tx (s, 12, op, bl) a L m 1) (hI : Inv tx (s, 12, op, bl) a L) (ht : Tok tx a m) (ha : a < (tks tx).length) : Out tx 12 (au_acc (s, 12, op, bl)) a m := by
  have hko : au_ko s = tkd (tks tx) a := h.ko ha
  have h22 : s.2 2 = nI a := h.1.2.1
  rw [ac12, hko]
  by_cases e : tkd (tks tx) a = 32
  · rw [if_pos e]
    have hl := tk_lt ha (by rw [e]; decide)
    exact Out.g (go12c (hg hl) hI ht hl e)
  · rw [if_neg e]
    by_cases e2 : tkd (tks tx) a = 29
    · rw [if_pos e2]
      have hl := tk_lt ha (by rw [e2]; decide)
      obtain ⟨f, hf, hG⟩ := goPz (Or.inr rfl) (hg hl) hI ht hl e2
      subst hf
      exact Out.g hG
    · rw [if_neg e2]
      refine Out.b h22 (Bad3 (st := 12) ht h.2.2.2.1.1 fun _ => ?_)
      have n27 : ¬ mf m 5 = 27 := ht.nk ha 29 27 (by decide) rfl e2
      rw [mAcc_12]
      unfold f_12051
      rw [if_neg (ht.nk ha 32 30 (by decide) rfl e), if_neg n27]
      unfold f_12051_J37
      rw [bS_eq, if_neg (by rw [mf_mp (by decide)]; exact n27)]
      exact ⟨_, rfl, mf_mp (by decide)⟩
theorem out8 (h : RelF tx (s, 8, op, bl) a L m) (hg : a + 1 < (tks tx).length → Rel tx (s, 8, op, bl) a L m 1) (hI : Inv tx (s, 8, op, bl) a L) (ht : Tok tx a m) (ha : a < (tks tx).length) : Out tx 8 (au_acc (s, 8, op, bl)) a m := by
  have hko : au_ko s = tkd (tks tx) a := h.ko ha
  have h22 : s.2 2 = nI a := h.1.2.1
  rw [ac8]
  unfold au_dfw
  rw [hko]
  by_cases e : tkd (tks tx) a = 4
  · rw [if_pos e]
    have hl := tk_lt ha (by rw [e]; decide)
    have hval : xg (s.1 1) (s.2 2) = tvl (tks tx) a := h.2.1.vl h.1 ha
    rw [hval]
    have hx0 : f_4012 (tvl (tks tx) a) s = xpos (s.1 9) (tvl (tks tx) a) := rfl
    rw [hx0]
    by_cases hx : xpos (s.1 9) (tvl (tks tx) a) = -1
    · rw [if_pos hx]
      obtain ⟨f, hf, hG⟩ := go8 (hg hl) hI ht hl e hx
      subst hf
      exact Out.g hG
    · rw [if_neg hx]
      refine Out.b h22 (Bad.at (m2 := m) (st := 8) ht (by rw [e]; decide) h.2.2.2.1.1 ?_ rfl)
      have h5 := ht.k e
      have hM : RR (tks tx) tx s a (mop 8 op) bl (oeP op bl) (ocP op) (pdN 8) m := h.2.2.1
      obtain ⟨d1, d2, d3, d4, d5, d6⟩ := hM.2.2.2.2.2.1
      have h7 : m 0 7 = nI (bend (tks tx) (a + 1)) := (hg hl).2.2.2.1
      have hN := hI.2.2.2.2.2.2.2
      have hN' : 8 * (s.1 9).length + 3 ≤ bend (tks tx) a + 0 := hN
      have hb := bend_le (tx := tx) ha
      have h300 : tx.length ≤ 300 := hM.1.1.1
      have hsub : mf m 7 - mf m 6 = nI (ten (tks tx) a - tpl (tks tx) a) := by
        have q7 : mf m 7 = nI (ten (tks tx) a) := h7
        have q6 : mf m 6 = nI (tpl (tks tx) a) := ht.2.1
        have tj := tks_at hl
        have : nI (ten (tks tx) a) = nI (ten (tks tx) a - tpl (tks tx) a) + nI (tpl (tks tx) a) := by rw [nI_add]; congr 1; omega
        rw [q7, q6, this, Int32.add_sub_cancel]
      have q6 : mf m 6 = nI (tpl (tks tx) a) := ht.2.1
      rw [mAcc_8]
      unfold f_12049
      rw [if_pos (by rw [h5]; rfl), hsub, q6, def_12030 hM.1.1 (by omega) d4 d5 d1 hl e, bP_some, if_neg hx]
      rw [← q6]
      rfl
  · rw [if_neg e]
    refine Out.b h22 (Bad3 (st := 8) ht h.2.2.2.1.1 fun _ => ?_)
    rw [mAcc_8]
    unfold f_12049
    rw [if_neg (ht.nk ha 4 2 (by decide) rfl e)]
    exact Fb.i
/-- a block of else, or of a def: what the reference does -/
theorem acc7 (h : RelF tx (s, 7, op, bl) a L m) (hI : Inv tx (s, 7, op, bl) a L) (ht : Tok tx a m) (ha : a < (tks tx).length) (hk : tkd (tks tx) a = 30) : ∃ k p c, f_12052 m = f_12037 k p c 0 m := by
  have hl := tk_lt ha (by rw [hk]; decide)
  have h5 := ht.k hk
  have hL : Lv a ((tks tx).length - 1) L s := h.1
  have hM' : RR (tks tx) tx s a (mop 7 op) bl (oeP op bl) (ocP op) 0 m := h.2.2.1
  have hE' : Ex 7 op bl a s m := h.2.2.2.2
  have hS2 : Sh tx s 7 op bl a := hI.2.2.1
  have h14 : mf m 14 = nI a := hM'.2.2.1.1
  have h38 : mf m 38 = nI bl.length := hM'.2.2.2.2.2.2.2.2.1
  have q4 : L + 0 = bl.length + lc op + 0 := hI.2.2.2.2.2.2.1
  have hL8 := hL.L8
  have hnb : bl.length < 10 := by omega
  have ha3 := hL.2.2.2.2.1
  have hae := hL.2.2.2.1
  have h1a : 1 ≤ a := by
    rcases Sh.s7 hS2 with ⟨p, o, k, hop, _⟩ | ⟨_, f, hop, f1, ⟨_, t, _, f2, _⟩, _⟩
    · exact (hE'.2.2.2.1 _ hop rfl).2.2.1
    · omega
  have h14' : mf m 14 - 1 = nI (a - 1) := by
    rw [h14]
    have : nI a = nI ((a - 1) + 1) := by congr 1; omega
    rw [this, nI_pred]
  have hw6 : ∀ i, i < a → mg m 6 (nI i) = wm ((s.1 0).getD i 0) := fun i hi => by
    rw [mg_n (by omega)]
    exact hM'.2.2.1.2 i hi
  rcases Sh.s7 hS2 with ⟨p, o, k, hop, hpt, hcd, h3a⟩ | ⟨hbl, f, hop, f1, ⟨hpt, t, ft1, ft2, ft3⟩, f3, f4⟩
  · obtain ⟨y1, y2, y3, y4⟩ := hE'.2.2.2.1 _ hop rfl
    refine ⟨5, m 23 bl.length, m 24 bl.length, ?_⟩
    unfold f_12052
    rw [if_pos (by rw [h5]; rfl), h14', gd_e (vi_n (by omega) (by omega)), hw6 (a - 1) (by omega), y4, if_pos (by decide)]
    unfold f_12052_J35
    rw [if_neg (by decide)]
    unfold f_12052_J47
    rw [if_neg (by decide), h38, gd_e (vi_n (by omega) (by omega)), mg_n (by omega)]
    unfold f_12052_J67
    rw [h38, gd_e (vi_n (by omega) (by omega)), mg_n (by omega), bO_id]
  · obtain ⟨_, y2, y3, y4⟩ := hE'.2.2.2.2.1 f hop f1 (by decide)
    refine ⟨9, mf m 43, m 24 bl.length, ?_⟩
    unfold f_12052
    rw [if_pos (by rw [h5]; rfl), h14', gd_e (vi_n (by omega) (by omega)), hw6 (a - 1) (by omega), y4 rfl, if_neg (by decide)]
    unfold f_12052_J35
    rw [if_pos rfl]
    unfold f_12052_J47
    rw [if_pos rfl]
    unfold f_12052_J67
    rw [h38, gd_e (vi_n (by omega) (by omega)), mg_n (by omega), bO_id]
theorem out7 (h : RelF tx (s, 7, op, bl) a L m) (hg : a + 1 < (tks tx).length → Rel tx (s, 7, op, bl) a L m 1) (hI : Inv tx (s, 7, op, bl) a L) (ht : Tok tx a m) (ha : a < (tks tx).length) : Out tx 7 (au_acc (s, 7, op, bl)) a m := by
  have hko : au_ko s = tkd (tks tx) a := h.ko ha
  have h22 : s.2 2 = nI a := h.1.2.1
  have hLs : Lv a ((tks tx).length - 1) L s := h.1
  have hop : ∃ f, op = [f] := by
    rcases Sh.s7 (s := s) (op := op) (bl := bl) (a := a) (tx := tx) hI.2.2.1 with ⟨p, o, k, hop, _⟩ | ⟨_, f, hop, _⟩
    · exact ⟨_, hop⟩
    · exact ⟨_, hop⟩
  obtain ⟨f, hop⟩ := hop
  subst hop
  rw [ac7, hko]
  by_cases e : tkd (tks tx) a = 30
  · rw [if_pos e]
    have hl := tk_lt ha (by rw [e]; decide)
    unfold au_lv
    by_cases q : s.2 4 < 8
    · rw [if_pos q]
      obtain ⟨f', hf', hG⟩ := go7 (hg hl) hI ht hl e (hLs.l8.1 q)
      rw [← (List.cons.inj hf').1] at hG
      exact Out.g hG
    · rw [if_neg q]
      have h8 : L = 8 := by
        have := hLs.L8
        have hn : ¬ L < 8 := fun w => q (hLs.l8.2 w)
        omega
      obtain ⟨k, p, c, hacc⟩ := acc7 h hI ht ha e
      refine Out.b h22 (Bad.at (m2 := m) (st := 7) ht (by rw [e]; decide) h.2.2.2.1.1 ?_ rfl)
      rw [mAcc_7, hacc]
      unfold f_12037
      rw [up_b (by rw [h.q33, h8]), bT_eq, if_pos rfl]
  · rw [if_neg e]
    refine Out.b h22 (Bad3 (st := 7) ht h.2.2.2.1.1 fun _ => ?_)
    rw [mAcc_7]
    unfold f_12052
    rw [if_neg (ht.nk ha 30 28 (by decide) rfl e)]
    exact Fb.i
end OUT
