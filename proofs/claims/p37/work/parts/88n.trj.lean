/-! every act: operands, operations, statements -/
section OUT2
variable {tx : List Int32} {s : Sx} {op bl : List Ae} {a L : Nat} {m : Mx}
theorem Raw.k1 {e : Nat} (h : Raw tx s a) (hL : Lv a e L s) (ha : a + 1 < (tks tx).length) : xg (s.1 0) (s.2 2 + 1) = tkd (tks tx) (a + 1) := by
  have h1 := hL.2.2.2.1
  have h2 := hL.2.2.2.2.1
  rw [hL.2.1, nI_1, xg_n (by omega)]
  exact (h.2 (a + 1) (by omega) ha).1
/-- a call is an operand -/
theorem goCallO {st : Int32} (hst : st = 2 ∨ st = 3) (h : Rel tx (s, st, op, bl) a L m 1) (hI : Inv tx (s, st, op, bl) a L) (ht : Tok tx a m) (ha : a + 1 < (tks tx).length) (hk : tkd (tks tx) a = 4) (hk1 : tkd (tks tx) (a + 1) = 28) : ∃ B, au_call s op bl = .inl B ∧ Good tx st B a m := by
  have h5 := ht.k hk
  have hst4 : st = 2 ∨ st = 3 ∨ st = 4 := hst.elim Or.inl (fun e => Or.inr (Or.inl e))
  obtain ⟨hO, hB, hS, hN⟩ := hI.opx hst4
  obtain ⟨hL, hR, hM, h7, h33, h34, hE, h32⟩ := h.opx hst4
  obtain ⟨xs, f, hop, g1, g2, g3, g4, g5⟩ := Sh.sE hS (hst.elim Or.inl (fun e => Or.inr (Or.inl e)))
  subst hop
  obtain ⟨q1, q2, q3, q4, q5⟩ := hN
  have h51 := stF_b g2
  have h53 : ∀ x, x ∈ xs ++ [f] → x.1 ≠ 53 := fun x q => by
    rcases List.mem_append.1 q with r | r
    · exact (isEx_n (g1 x r)).1
    · rw [List.mem_singleton.1 r]; exact h51.2.2.2.2.2.2.2.2.1
  have z1 : s13 st = 0 := by rcases hst with e | e <;> rw [e] <;> rfl
  have z2 : sPr st = 0 := by rcases hst with e | e <;> rw [e] <;> rfl
  have z3 : dsA st = 0 := by rcases hst with e | e <;> rw [e] <;> rfl
  have z4 : st ≠ 8 ∧ st ≠ 9 ∧ sPr st = 0 := ⟨by rcases hst with e | e <;> rw [e] <;> decide, by rcases hst with e | e <;> rw [e] <;> decide, z2⟩
  have z5 : st ≠ 4 := by rcases hst with e | e <;> rw [e] <;> decide
  rw [dsB_n z4 h53, z3] at q5
  rw [z1] at q1 q3 q4
  rw [z2] at q4
  rw [if_neg z5] at g3
  obtain ⟨m', L', e1, e2, e3⟩ := call1 hL hR hM h7 h33 h34 (hE.f43 h51.2.2.2.2.2.2.2.2.2.1 h51.2.2.2.2.2.2.2.2.2.2.1) (fun q => hE.f47 q) g2 g1 hO (g3.up RwS.r (by omega)) hB ⟨by omega, by omega, by omega, by omega⟩ ht ha hk hk1
  refine ⟨_, rfl, m', L', ?_, e2, e3⟩
  rw [mAcc_23 hst]
  have hop : f_12014 m = some 1 := by
    rw [opb_a hM.1.1 h7 ha, if_pos hk1]
  unfold f_12043
  rw [if_neg (by rw [h5]; decide), if_pos (by rw [h5]; rfl), hop, bP_some, if_neg (by decide), e1, bO_some]
theorem opd_no (h1 : ¬ mf m 5 = 1) (h2 : ¬ mf m 5 = 2) (h8 : ¬ mf m 5 = 8) (h12 : ¬ mf m 5 = 12) (h24 : ¬ mf m 5 = 24) (h26 : ¬ mf m 5 = 26) (h27 : ¬ mf m 5 = 27 ∨ ¬ mf m 32 = 3) (h32 : ¬ mf m 5 = 32) : Fb (f_12043 m) m 3 := by
  unfold f_12043
  rw [if_neg h1, if_neg h2, if_neg h8, if_neg h12, if_neg h24, if_neg h26]
  rcases h27 with q | q
  · rw [if_neg q, if_neg h32]
    exact Fb.i
  · by_cases w : mf m 5 = 27
    · rw [if_pos w, if_neg q]
      exact Fb.i
    · rw [if_neg w, if_neg h32]
      exact Fb.i
theorem L8_of (hL : Lv a ((tks tx).length - 1) L s) (q : ¬ s.2 4 < 8) : L = 8 := by
  have := hL.L8
  have hn : ¬ L < 8 := fun w => q (hL.l8.2 w)
  omega
theorem un_b (h33 : mf m 33 = nI 8) (hk : mf m 5 = 12 ∨ mf m 5 = 24 ∨ mf m 5 = 32) : f_12043 m = some (mp (mp m 9 4) 10 (mf m 6), 0) := by
  have hJ : f_12043_J171 m = some (mp (mp m 9 4) 10 (mf m 6), 0) := by
    unfold f_12043_J171
    rw [up_b h33, bT_eq, if_pos rfl]
  rw [← hJ]
  unfold f_12043
  rcases hk with h5 | h5 | h5
  · rw [if_neg (by rw [h5]; decide), if_neg (by rw [h5]; decide), if_neg (by rw [h5]; decide), if_pos h5]
  · rw [if_neg (by rw [h5]; decide), if_neg (by rw [h5]; decide), if_neg (by rw [h5]; decide), if_neg (by rw [h5]; decide), if_pos h5]
  · rw [if_neg (by rw [h5]; decide), if_neg (by rw [h5]; decide), if_neg (by rw [h5]; decide), if_neg (by rw [h5]; decide), if_neg (by rw [h5]; decide), if_neg (by rw [h5]; decide), if_neg (by rw [h5]; decide), if_pos h5]
theorem out23 {st : Int32} (hst : st = 2 ∨ st = 3) (h : RelF tx (s, st, op, bl) a L m) (hg : a + 1 < (tks tx).length → Rel tx (s, st, op, bl) a L m 1) (hI : Inv tx (s, st, op, bl) a L) (ht : Tok tx a m) (ha : a < (tks tx).length) : Out tx st (au_acc (s, st, op, bl)) a m := by
  have hko : au_ko s = tkd (tks tx) a := h.ko ha
  have h22 : s.2 2 = nI a := h.1.2.1
  have hLs : Lv a ((tks tx).length - 1) L s := h.1
  have hRs : Raw tx s a := h.2.1
  have h32 : mf m 32 = st := h.2.2.2.1.1
  have hval : xg (s.1 1) (s.2 2) = tvl (tks tx) a := hRs.vl hLs ha
  have hst1 : st ≠ 1 := by rcases hst with e | e <;> rw [e] <;> decide
  have h33 := h.q33
  rw [ac2 hst]
  unfold au_opd
  rw [hko, hval]
  by_cases k3 : tkd (tks tx) a = 3
  · rw [if_pos k3]
    have hl := tk_lt ha (by rw [k3]; decide)
    exact Out.g (goNum hst (hg hl) hI ht hl k3)
  rw [if_neg k3]
  by_cases k9 : tkd (tks tx) a = 9
  · rw [if_pos k9]
    have hl := tk_lt ha (by rw [k9]; decide)
    exact Out.g (goIn hst (hg hl) hI ht hl k9)
  rw [if_neg k9]
  by_cases k28 : tkd (tks tx) a = 28
  · rw [if_pos k28]
    have hl := tk_lt ha (by rw [k28]; decide)
    unfold au_lv
    by_cases q : s.2 4 < 8
    · rw [if_pos q]
      exact Out.g (goPar hst (hg hl) hI ht hl k28 (hLs.l8.1 q))
    · rw [if_neg q]
      have h5 := ht.k k28
      refine Out.b h22 (Bad.at (m2 := m) (st := st) ht (by rw [k28]; decide) h32 ?_ rfl)
      rw [mAcc_23 hst]
      unfold f_12043
      rw [if_neg (by rw [h5]; decide), if_neg (by rw [h5]; decide), if_neg (by rw [h5]; decide), if_neg (by rw [h5]; decide), if_neg (by rw [h5]; decide), if_pos (by rw [h5]; rfl), up_b (by rw [h33, L8_of hLs q]), bT_eq, if_pos rfl]
  rw [if_neg k28]
  by_cases k13 : tkd (tks tx) a = 13
  · rw [if_pos k13]
    have hl := tk_lt ha (by rw [k13]; decide)
    unfold au_lv
    rw [show (au_sk 36 s).2 = s.2 from rfl]
    by_cases q : s.2 4 < 8
    · rw [if_pos q]
      exact Out.g (goUn hst (hg hl) hI ht hl (hLs.l8.1 q) (w := 36) k13 (by decide) (Or.inl ⟨rfl, rfl, rfl⟩))
    · rw [if_neg q]
      refine Out.b h22 (Bad.at (m2 := m) (st := st) ht (by rw [k13]; decide) h32 ?_ rfl)
      rw [mAcc_23 hst]
      exact un_b (by rw [h33, L8_of hLs q]) (Or.inl (ht.k k13))
  rw [if_neg k13]
  by_cases k25 : tkd (tks tx) a = 25 ∨ tkd (tks tx) a = 26
  · rw [if_pos k25]
    have hl := tk_lt ha (by rcases k25 with e | e <;> rw [e] <;> decide)
    unfold au_lv
    by_cases q : s.2 4 < 8
    · rw [if_pos q]
      exact Out.g (goUn hst (hg hl) hI ht hl (hLs.l8.1 q) rfl (Or.inr k25) (Or.inr ⟨k13, rfl, rfl⟩))
    · rw [if_neg q]
      refine Out.b h22 (Bad.at (m2 := m) (st := st) ht (by rcases k25 with e | e <;> rw [e] <;> decide) h32 ?_ rfl)
      rw [mAcc_23 hst]
      refine un_b (by rw [h33, L8_of hLs q]) ?_
      rcases k25 with e | e
      · exact Or.inr (Or.inl (ht.k e))
      · exact Or.inr (Or.inr (ht.k e))
  rw [if_neg k25]
  by_cases k4 : tkd (tks tx) a = 4
  · rw [if_pos k4]
    have hl := tk_lt ha (by rw [k4]; decide)
    rw [hRs.k1 hLs hl]
    by_cases k1 : tkd (tks tx) (a + 1) = 28
    · rw [if_pos k1]
      obtain ⟨B, b1, b2⟩ := goCallO hst (hg hl) hI ht hl k4 k1
      rw [b1]
      exact Out.g b2
    · rw [if_neg k1]
      obtain ⟨w1, w2⟩ := goVar hst (hg hl) hI ht hl k4 k1
      unfold au_var
      by_cases q : xpos (s.1 (f_5004 s)) (xg (s.1 1) (s.2 2)) = -1 ∧ ¬ nI (s.1 (f_5004 s)).length < 8
      · rw [if_pos q]
        exact Out.b h22 (w2 q)
      · rw [if_neg q]
        exact Out.g (w1 q)
  rw [if_neg k4]
  by_cases k29 : tkd (tks tx) a = 29 ∧ st = 3
  · rw [if_pos k29]
    have hl := tk_lt ha (by rw [k29.1]; decide)
    obtain ⟨k29, e3⟩ := k29
    subst e3
    obtain ⟨e, r, her, hG⟩ := go3c (hg hl) hI ht hl k29
    subst her
    exact Out.g hG
  rw [if_neg k29]
  refine Out.b h22 (Bad3 (st := st) ht h32 fun _ => ?_)
  rw [mAcc_23 hst]
  refine opd_no (ht.nk ha 3 1 (by decide) rfl k3) (ht.nk ha 4 2 (by decide) rfl k4) (ht.nk ha 9 8 (by decide) rfl k9) (ht.nk ha 13 12 (by decide) rfl k13) (ht.nk ha 25 24 (by decide) rfl (fun q => k25 (Or.inl q))) (ht.nk ha 28 26 (by decide) rfl k28) ?_ (ht.nk ha 26 32 (by decide) rfl (fun q => k25 (Or.inr q)))
  by_cases q : tkd (tks tx) a = 29
  · right
    rw [h32]
    exact fun w => k29 ⟨q, w⟩
  · exact Or.inl (ht.nk ha 29 27 (by decide) rfl q)
theorem nbin_i : ∀ j, j < 34 → isBin (nI j) ∨ f_12031 (km (nI j)) (fun _ _ => 0) ≤ 0 := by decide +kernel
theorem nbin {k : Int32} (hk : isK k) (h : ¬ isBin k) : f_12031 (km k) m ≤ 0 := by
  obtain ⟨j, j1, j2⟩ := isK_n hk
  rw [j2] at h ⊢
  rcases nbin_i j j1 with q | q
  · exact absurd q h
  · exact q
theorem bin_iff {k : Int32} : (0 < lvK k ∧ lvK k < 7) ↔ isBin k := by
  rw [i_lt, i_lt]
  have e0 : (0 : Int32).toInt = 0 := rfl
  have e7 : (7 : Int32).toInt = 7 := rfl
  constructor
  · rintro ⟨h1, h2⟩
    exact ⟨by omega, by omega⟩
  · rintro ⟨h1, h2⟩
    exact ⟨by omega, by omega⟩
theorem ar4F (h : RelF tx (s, 4, op, bl) a L m) (hI : Inv tx (s, 4, op, bl) a L) : ∃ e r, (au_fl 1 op s).1 = e :: r ∧ f_12033 m = some e.1 := by
  have hst4 : (4 : Int32) = 2 ∨ (4 : Int32) = 3 ∨ (4 : Int32) = 4 := by decide
  obtain ⟨hO, hB, hS, hN⟩ := hI.opx hst4
  have hM : RR (tks tx) tx s a op bl (oeP op bl) (ocP op) 0 m := h.2.2.1
  have hL : Lv a ((tks tx).length - 1) L s := h.1
  obtain ⟨xs, f, hop, g1, g2, g3, g4, g5⟩ := Sh.sE hS (by decide)
  obtain ⟨q1, q2, q3, q4, q5⟩ := hN
  have q1' : (s.1 7).length + op.length + 2 * bl.length ≤ 2 * a + 0 := q1
  have q4' : L + 0 = bl.length + lc op + 0 := q4
  have h300 := hL.2.2.2.2.1
  have h301 := hL.2.2.2.1
  have hL8 := hL.L8
  have hlen : op.length < 100 := by
    rw [hop]
    exact op_len (by rw [hop] at hO; exact hO) g1 (by rw [hop] at q4'; omega)
  obtain ⟨v1, v2, v3, v4, v5, v6, v7, ⟨q, v8, v9⟩, v10⟩ := fl_inv (lv := 1) (by decide) op s hO (by omega)
  cases hfl : (au_fl 1 op s).1 with
  | nil =>
    exfalso
    rw [hfl, List.append_nil] at v8
    exact (stF_b g2).2.1 (v9 f (by rw [← v8, hop]; exact List.mem_append_right _ (List.mem_singleton.2 rfl)))
  | cons e r =>
    refine ⟨e, r, rfl, ?_⟩
    have h35 : mf m 35 = nI op.length := hM.2.2.2.2.2.2.2.1.1
    unfold f_12033
    rw [h35]
    exact ar_12033 op 1000 s s m e r hM.2.2.2.2.2.2.2.1.2 (fun x hx => hO.1 x hx) hlen (by omega) hfl
theorem opr_no {w : Int32} (h31 : f_12031 (mf m 5) m ≤ 0) (har : f_12033 m = some w) (h27 : mf m 5 = 27 → ¬ w = 41 ∧ ¬ w = 42) (h28 : mf m 5 = 28 → ¬ w = 46 ∧ ¬ w = 47) (h30 : mf m 5 = 30 → ¬ w = 42) (h31' : mf m 5 = 31 → ¬ w = 43 ∧ ¬ w = 44 ∧ ¬ w = 45 ∧ ¬ w = 49) : Fb (f_12045 m) m 3 := by
  unfold f_12045
  rw [if_pos h31, har, bP_some]
  by_cases k27 : mf m 5 = 27
  · rw [if_pos k27, if_neg (h27 k27).1, if_neg (h27 k27).2]
    exact Fb.i
  rw [if_neg k27]
  by_cases k28 : mf m 5 = 28
  · rw [if_pos k28, if_neg (h28 k28).1, if_neg (h28 k28).2]
    exact Fb.i
  rw [if_neg k28]
  by_cases k29 : mf m 5 = 29
  · rw [if_pos k29]
    exact Fb.i
  rw [if_neg k29]
  by_cases k30 : mf m 5 = 30
  · rw [if_pos k30, if_neg (h30 k30)]
    exact Fb.i
  rw [if_neg k30]
  by_cases k31 : mf m 5 = 31
  · rw [if_pos k31, if_neg (h31' k31).1, if_neg (h31' k31).2.1, if_neg (h31' k31).2.2.1, if_neg (h31' k31).2.2.2]
    exact Fb.i
  rw [if_neg k31]
  exact Fb.i
theorem km_bk (ht : Tok tx a m) (ha : a < (tks tx).length) (v w : Int32) (hv : isK v) (hw : km v = w) (h : mf m 5 = w) : tkd (tks tx) a = v := Classical.byContradiction fun q => ht.nk ha v w hv hw q h
theorem out4 (h : RelF tx (s, 4, op, bl) a L m) (hg : a + 1 < (tks tx).length → Rel tx (s, 4, op, bl) a L m 1) (hI : Inv tx (s, 4, op, bl) a L) (hT : Tb op bl a) (ht : Tok tx a m) (ha : a < (tks tx).length) : Out tx 4 (au_acc (s, 4, op, bl)) a m := by
  have hko : au_ko s = tkd (tks tx) a := h.ko ha
  have h22 : s.2 2 = nI a := h.1.2.1
  have hLs : Lv a ((tks tx).length - 1) L s := h.1
  have h32 : mf m 32 = 4 := h.2.2.2.1.1
  have h5' : mf m 5 = km (tkd (tks tx) a) := ht.1
  rw [ac4]
  unfold au_opr
  rw [hko]
  by_cases hb : isBin (tkd (tks tx) a)
  · rw [if_pos (bin_iff.2 hb)]
    have hl := tk_lt ha (fun e => by rw [e] at hb; exact absurd hb (by decide +kernel))
    have hG := goBin (hg hl) hI hT ht hl rfl hb
    by_cases c : tkd (tks tx) a = 23 ∨ tkd (tks tx) a = 24
    · rw [if_pos c] at hG ⊢
      exact Out.g hG
    · rw [if_neg c] at hG ⊢
      exact Out.g hG
  rw [if_neg (fun q => hb (bin_iff.1 q))]
  obtain ⟨e, r, he, har⟩ := ar4F h hI
  have h31 : f_12031 (mf m 5) m ≤ 0 := by rw [h5']; exact nbin (tkd_K ha) hb
  rw [he]
  show Out tx 4 (if tkd (tks tx) a = 29 ∧ e.1 = 41 then _ else _) a m
  by_cases c1 : tkd (tks tx) a = 29 ∧ e.1 = 41
  · rw [if_pos c1]
    have hl := tk_lt ha (by rw [c1.1]; decide)
    exact Out.g (go4p (hg hl) hI hT ht hl c1.1 he c1.2)
  rw [if_neg c1]
  by_cases c2 : tkd (tks tx) a = 29 ∧ e.1 = 42
  · rw [if_pos c2]
    have hl := tk_lt ha (by rw [c2.1]; decide)
    exact Out.g (go4c (hg hl) hI hT ht hl c2.1 he c2.2)
  rw [if_neg c2]
  by_cases c3 : tkd (tks tx) a = 32 ∧ e.1 = 42
  · rw [if_pos c3]
    have hl := tk_lt ha (by rw [c3.1]; decide)
    exact Out.g (go4m (hg hl) hI hT ht hl c3.1 he c3.2)
  rw [if_neg c3]
  have od : ∀ {v : Int32}, e.1 = v → v ≠ 40 → v ≠ 42 → v ≠ 43 → v ≠ 23 → v ≠ 24 → odm e = 0 := fun h1 h2 h3 h4 h5 h6 => by
    unfold odm
    rw [h1, if_neg h2, if_neg h3, if_neg h4, if_neg (by rintro (q | q); exact h5 q; exact h6 q)]
  by_cases c4 : tkd (tks tx) a = 33 ∧ e.1 = 43
  · rw [if_pos c4]
    have hl := tk_lt ha (by rw [c4.1]; decide)
    exact Out.g (go4s (hg hl) hI hT ht hl c4.1 he (c := 3) (w := 3) rfl rfl (by unfold odm; rw [c4.2, if_neg (by decide), if_neg (by decide), if_pos rfl]) (Or.inl ⟨c4.2, rfl⟩))
  rw [if_neg c4]
  by_cases c5 : tkd (tks tx) a = 33 ∧ e.1 = 44
  · rw [if_pos c5]
    have hl := tk_lt ha (by rw [c5.1]; decide)
    exact Out.g (go4s (hg hl) hI hT ht hl c5.1 he (c := 6) (w := 11) rfl rfl (od c5.2 (by decide) (by decide) (by decide) (by decide) (by decide)) (Or.inr (Or.inl ⟨c5.2, rfl⟩)))
  rw [if_neg c5]
  by_cases c6 : tkd (tks tx) a = 33 ∧ e.1 = 45
  · rw [if_pos c6]
    have hl := tk_lt ha (by rw [c6.1]; decide)
    exact Out.g (go4s (hg hl) hI hT ht hl c6.1 he (c := 16) (w := 15) rfl rfl (od c6.2 (by decide) (by decide) (by decide) (by decide) (by decide)) (Or.inr (Or.inr (Or.inl ⟨c6.2, rfl⟩))))
  rw [if_neg c6]
  by_cases c7 : tkd (tks tx) a = 33 ∧ e.1 = 49
  · rw [if_pos c7]
    have hl := tk_lt ha (by rw [c7.1]; decide)
    exact Out.g (go4s (hg hl) hI hT ht hl c7.1 he (c := 4) (w := 12) rfl rfl (od c7.2 (by decide) (by decide) (by decide) (by decide) (by decide)) (Or.inr (Or.inr (Or.inr ⟨c7.2, rfl⟩))))
  rw [if_neg c7]
  have hs2 : (au_cd 14 0 (au_fl 1 op s).2).2 = s.2 := by
    show (au_fl 1 op s).2.2 = s.2
    exact (fl_inv (lv := 1) (by decide) op s (hI.opx (by decide)).1 (by
      have q1 : (s.1 7).length + op.length + 2 * bl.length ≤ 2 * a + 0 := hI.2.2.2.1
      have := hLs.2.2.2.2.1
      have := hLs.2.2.2.1
      omega)).2.2.2.2.2.2.1
  have nest : tkd (tks tx) a = 30 → (e.1 = 46 ∨ e.1 = 47) → ¬ s.2 4 < 8 → Out tx 4 (.inr (4, s.2 2)) a m := fun hk he' q => by
    have h5 := ht.k hk
    refine Out.b h22 (Bad.at (m2 := m) (st := 4) ht (by rw [hk]; decide) h32 ?_ rfl)
    have h48 : f_12048 m = some (mp (mp m 9 4) 10 (mf m 6), 0) := by
      unfold f_12048
      rw [if_pos (by rw [h.q33, L8_of hLs q]; rfl)]
      rfl
    rw [mAcc_4]
    unfold f_12045
    rw [if_pos h31, har, bP_some, if_neg (by rw [h5]; decide), if_pos (by rw [h5]; rfl)]
    rcases he' with q | q
    · rw [if_pos q, h48, bO_some]
    · rw [if_neg (by rw [q]; decide), if_pos q, h48, bO_some]
  by_cases c8 : tkd (tks tx) a = 30 ∧ e.1 = 46
  · rw [if_pos c8]
    unfold au_lv
    rw [hs2]
    by_cases q : s.2 4 < 8
    · rw [if_pos q]
      have hl := tk_lt ha (by rw [c8.1]; decide)
      exact Out.g (go4b (hg hl) hI hT ht hl c8.1 he (k := 5) (v := 0) (Or.inl ⟨c8.2, rfl⟩) (hLs.l8.1 q))
    · rw [if_neg q]
      exact nest c8.1 (Or.inl c8.2) q
  rw [if_neg c8]
  by_cases c9 : tkd (tks tx) a = 30 ∧ e.1 = 47
  · rw [if_pos c9]
    unfold au_lv
    rw [hs2]
    by_cases q : s.2 4 < 8
    · rw [if_pos q]
      have hl := tk_lt ha (by rw [c9.1]; decide)
      exact Out.g (go4b (hg hl) hI hT ht hl c9.1 he (k := 7) (v := e.2.2.2.1) (Or.inr ⟨c9.2, rfl, rfl⟩) (hLs.l8.1 q))
    · rw [if_neg q]
      exact nest c9.1 (Or.inr c9.2) q
  rw [if_neg c9]
  refine Out.b h22 (Bad3 (st := 4) ht h32 fun _ => ?_)
  rw [mAcc_4]
  refine opr_no h31 har (fun q => ?_) (fun q => ?_) (fun q => ?_) (fun q => ?_)
  · have hk := km_bk ht ha 29 27 (by decide) rfl q
    exact ⟨fun w => c1 ⟨hk, w⟩, fun w => c2 ⟨hk, w⟩⟩
  · have hk := km_bk ht ha 30 28 (by decide) rfl q
    exact ⟨fun w => c8 ⟨hk, w⟩, fun w => c9 ⟨hk, w⟩⟩
  · have hk := km_bk ht ha 32 30 (by decide) rfl q
    exact fun w => c3 ⟨hk, w⟩
  · have hk := km_bk ht ha 33 31 (by decide) rfl q
    exact ⟨fun w => c4 ⟨hk, w⟩, fun w => c5 ⟨hk, w⟩, fun w => c6 ⟨hk, w⟩, fun w => c7 ⟨hk, w⟩⟩
/-- where a statement is looked for, perhaps at the end -/
def S0F (tx : List Int32) (s : Sx) (bl : List Ae) (a L : Nat) (m : Mx) : Prop :=
  (Lv a ((tks tx).length - 1) L s ∧ Raw tx s a ∧ RR (tks tx) tx s a [] bl (oeP [] bl) (fun _ => False) 0 m) ∧ (m 0 33 = s.2 4 ∧ m 0 34 = s.2 5) ∧
  (∀ b, b ∈ bl → BlV s b) ∧ 3 * (s.1 5).length ≤ a ∧ ((s.1 7).length + 2 * bl.length ≤ 2 * a ∧ (bl = [] → a = 0 ∨ (s.1 7).length + 2 ≤ 2 * a) ∧ 3 * (s.1 15).length ≤ a ∧ L = bl.length ∧ 8 * (s.1 9).length ≤ bend (tks tx) a + if (bl.any fun b => b.1 == 10) = true then 1 else 0)
theorem S0F.to (h : S0F tx s bl a L m) (h7 : m 0 7 = nI (bend (tks tx) (a + 1))) : S0 tx s bl a L m := ⟨h.1, ⟨h7, h.2.1⟩, h.2.2⟩
def OutS (tx : List Int32) (r : Ar) (a : Nat) (x : Option (Mx × Int32)) (m : Mx) : Prop := (∀ B, r = .inl B → Go x tx B a) ∧ ∀ f t, r = .inr (f, t) → t = nI a ∧ Fb x m f ∧ (tkd (tks tx) a = 1 ∨ tkd (tks tx) a = 2 → f = 3)
theorem OutS.g {x : Option (Mx × Int32)} {B : Au} (h : Go x tx B a) : OutS tx (.inl B) a x m := ⟨(fun B' e => by cases e; exact h), (fun f t e => by cases e)⟩
theorem OutS.b {x : Option (Mx × Int32)} {f t : Int32} (h1 : t = nI a) (h2 : Fb x m f) (h3 : tkd (tks tx) a = 1 ∨ tkd (tks tx) a = 2 → f = 3) : OutS tx (.inr (f, t)) a x m := ⟨(fun B' e => by cases e), (fun f t e => by cases e; exact ⟨h1, h2, h3⟩)⟩
theorem outS (h : S0F tx s bl a L m) (hg : a + 1 < (tks tx).length → S0 tx s bl a L m) (hT : Tb [] bl a) (ht : Tok tx a m) (ha : a < (tks tx).length) (hend : tkd (tks tx) a = 0 → bl ≠ []) : OutS tx (au_s0 s bl) a (f_12042 m) m := by
  have hLs : Lv a ((tks tx).length - 1) L s := h.1.1
  have hRs : Raw tx s a := h.1.2.1
  have hM := h.1.2.2
  have hko : au_ko s = tkd (tks tx) a := hRs.ko hLs ha
  have h22 : s.2 2 = nI a := hLs.2.1
  have h38 : mf m 38 = nI bl.length := hM.2.2.2.2.2.2.2.2.1
  have hLb : L = bl.length := h.2.2.2.2.2.2.2.1
  have hL8 := hLs.L8
  have h33 : mf m 33 = nI L := h.2.1.1.trans hLs.2.2.2.2.2.2.1
  have h34 : mf m 34 = s.2 5 := h.2.1.2
  unfold au_s0
  rw [hko]
  by_cases k31 : tkd (tks tx) a = 31
  · rw [if_pos k31]
    have hl := tk_lt ha (by rw [k31]; decide)
    have h5 := ht.k k31
    cases bl with
    | nil =>
      refine OutS.b h22 ?_ (fun _ => rfl)
      unfold f_12042
      rw [if_neg (by rw [h5]; decide), if_neg (by rw [h5]; decide), if_neg (by rw [h5]; decide), if_neg (by rw [h5]; decide), if_neg (by rw [h5]; decide), if_neg (by rw [h5]; decide), if_neg (by rw [h5]; decide), if_neg (by rw [h5]; decide), if_neg (by rw [h5]; decide), if_neg (by rw [h5]; decide), if_neg (by rw [h5]; decide), if_neg (by rw [h5]; decide), if_neg (by rw [h5]; decide), if_neg (by rw [h5]; decide), if_neg (by rw [h5]; decide), if_neg (by rw [h5]; decide), if_neg (by rw [h5]; decide), if_neg (by rw [h5]; decide), if_neg (by rw [h5]; decide), if_neg (by rw [h5]; decide), if_neg (by rw [h5]; decide), if_neg (by rw [h5]; decide), if_neg (by rw [h5]; decide), if_neg (by rw [h5]; decide), if_neg (by rw [h5]; decide), if_neg (by rw [h5]; decide), if_neg (by rw [h5]; decide), if_neg (by rw [h5]; decide), if_neg (by rw [h5]; decide), if_pos (by rw [h5]; rfl)]
      rw [if_pos (by rw [h38]; decide)]
      exact Fb.i
    | cons b r =>
      obtain ⟨t1, t2⟩ := hT.2 b (List.mem_cons_self ..)
      exact OutS.g (sClose (hg hl) ht hl k31 t1 t2)
  rw [if_neg k31]
  unfold au_st
  rw [hko]
  by_cases k4 : tkd (tks tx) a = 4
  · rw [if_pos k4]
    have hl := tk_lt ha (by rw [k4]; decide)
    rw [hRs.k1 hLs hl]
    by_cases k1 : tkd (tks tx) (a + 1) = 28
    · rw [if_pos k1]
      obtain ⟨B, b1, b2⟩ := sCall (hg hl) ht hl k4 k1
      rw [b1]
      exact OutS.g b2
    · rw [if_neg k1]
      obtain ⟨w1, w2⟩ := sVar (hg hl) ht hl k4 k1
      have hc : (xpos ((au_cd 0 0 (au_bp s)).1 (f_5004 s)) (xg ((au_cd 0 0 (au_bp s)).1 1) ((au_cd 0 0 (au_bp s)).2 2)) = -1 ∧ ¬ nI ((au_cd 0 0 (au_bp s)).1 (f_5004 s)).length < 8) ↔ (xpos (s.1 (f_5004 s)) (xg (s.1 1) (s.2 2)) = -1 ∧ ¬ nI (s.1 (f_5004 s)).length < 8) := by
        rcases n5004 s with e | e <;> rw [e] <;> exact Iff.rfl
      unfold au_var
      by_cases q : xpos (s.1 (f_5004 s)) (xg (s.1 1) (s.2 2)) = -1 ∧ ¬ nI (s.1 (f_5004 s)).length < 8
      · rw [if_pos (hc.2 q)]
        exact OutS.b h22 (w2 q) (fun w => absurd w (by rw [k4]; decide))
      · rw [if_neg (fun w => q (hc.1 w))]
        exact OutS.g (w1 q)
  rw [if_neg k4]
  by_cases k26 : tkd (tks tx) a = 26
  · rw [if_pos k26]
    have hl := tk_lt ha (by rw [k26]; decide)
    unfold au_lv
    have e4 : (au_sk 37 (au_cd 0 0 (au_bp s))).2 = s.2 := rfl
    rw [e4]
    by_cases q : s.2 4 < 8
    · rw [if_pos q]
      exact OutS.g (sCell (hg hl) ht hl k26 (hLs.l8.1 q))
    · rw [if_neg q]
      have h5 := ht.k k26
      refine OutS.b h22 ⟨m, ?_, rfl⟩ (fun w => absurd w (by rw [k26]; decide))
      unfold f_12042
      rw [if_neg (by rw [h5]; decide), if_neg (by rw [h5]; decide), if_neg (by rw [h5]; decide), if_neg (by rw [h5]; decide), if_neg (by rw [h5]; decide), if_neg (by rw [h5]; decide), if_neg (by rw [h5]; decide), if_neg (by rw [h5]; decide), if_neg (by rw [h5]; decide), if_neg (by rw [h5]; decide), if_neg (by rw [h5]; decide), if_neg (by rw [h5]; decide), if_neg (by rw [h5]; decide), if_neg (by rw [h5]; decide), if_neg (by rw [h5]; decide), if_neg (by rw [h5]; decide), if_neg (by rw [h5]; decide), if_neg (by rw [h5]; decide), if_neg (by rw [h5]; decide), if_neg (by rw [h5]; decide), if_neg (by rw [h5]; decide), if_neg (by rw [h5]; decide), if_neg (by rw [h5]; decide), if_neg (by rw [h5]; decide), if_neg (by rw [h5]; decide), if_neg (by rw [h5]; decide), if_neg (by rw [h5]; decide), if_neg (by rw [h5]; decide), if_neg (by rw [h5]; decide), if_neg (by rw [h5]; decide), if_neg (by rw [h5]; decide), if_neg (by rw [h5]; decide), if_pos (by rw [h5]; rfl)]
      rw [up_b (by rw [h33, L8_of hLs q]), bT_eq, if_pos rfl]
  rw [if_neg k26]
  by_cases k8 : tkd (tks tx) a = 8
  · rw [if_pos k8]
    have hl := tk_lt ha (by rw [k8]; decide)
    exact OutS.g (sOut (hg hl) ht hl k8)
  rw [if_neg k8]
  by_cases k5 : tkd (tks tx) a = 5
  · rw [if_pos k5]
    have hl := tk_lt ha (by rw [k5]; decide)
    exact OutS.g (sIf (hg hl) ht hl k5)
  rw [if_neg k5]
  by_cases k7 : tkd (tks tx) a = 7
  · rw [if_pos k7]
    have hl := tk_lt ha (by rw [k7]; decide)
    exact OutS.g (sWhile (hg hl) ht hl k7)
  rw [if_neg k7]
  by_cases k11 : tkd (tks tx) a = 11
  · rw [if_pos k11]
    have hl := tk_lt ha (by rw [k11]; decide)
    have h5 := ht.k k11
    by_cases q : s.2 5 = 0
    · rw [if_pos q]
      refine OutS.b h22 ?_ (fun _ => rfl)
      unfold f_12042
      rw [if_neg (by rw [h5]; decide), if_neg (by rw [h5]; decide), if_neg (by rw [h5]; decide), if_neg (by rw [h5]; decide), if_neg (by rw [h5]; decide), if_neg (by rw [h5]; decide), if_neg (by rw [h5]; decide), if_neg (by rw [h5]; decide), if_neg (by rw [h5]; decide), if_neg (by rw [h5]; decide), if_pos (by rw [h5]; rfl)]
      rw [if_pos (by rw [h34]; exact q)]
      exact Fb.i
    · rw [if_neg q]
      exact OutS.g (sRet (hg hl) ht hl k11 q)
  rw [if_neg k11]
  by_cases k10 : tkd (tks tx) a = 10
  · rw [if_pos k10]
    have hl := tk_lt ha (by rw [k10]; decide)
    have h5 := ht.k k10
    have h24 : s.2 4 = nI L := hLs.2.2.2.2.2.2.1
    by_cases q : bl = []
    · have hL0 : L = 0 := by rw [hLb, q]; rfl
      rw [if_pos (by rw [h24, hL0]; decide)]
      exact OutS.g (sDef (hg hl) ht hl k10 q)
    · have hbl : 0 < bl.length := List.length_pos_iff.2 q
      have n0 : ∀ {k : Nat}, 0 < k → k < 1000 → ¬ nI k ≤ 0 := fun hk hk2 e => by
        rw [i_le, nI_T (by omega)] at e
        have : (0 : Int32).toInt = 0 := rfl
        omega
      rw [if_neg (by rw [h24]; exact n0 (by omega) (by omega))]
      refine OutS.b h22 ?_ (fun _ => rfl)
      unfold f_12042
      rw [if_neg (by rw [h5]; decide), if_neg (by rw [h5]; decide), if_neg (by rw [h5]; decide), if_neg (by rw [h5]; decide), if_neg (by rw [h5]; decide), if_neg (by rw [h5]; decide), if_neg (by rw [h5]; decide), if_neg (by rw [h5]; decide), if_neg (by rw [h5]; decide), if_pos (by rw [h5]; rfl)]
      rw [if_neg (by rw [h38]; exact n0 hbl (by omega))]
      exact Fb.i
  rw [if_neg k10, if_neg (fun q => hend q.1 (List.isEmpty_iff.1 q.2))]
  by_cases k0 : tkd (tks tx) a = 0
  · have h5 := ht.k k0
    have hbl : 0 < bl.length := List.length_pos_iff.2 (hend k0)
    refine OutS.b h22 ?_ (fun _ => rfl)
    unfold f_12042
    rw [if_pos (by rw [h5]; rfl), if_neg (by
      rw [h38]
      intro e
      have e' : nI bl.length = nI 0 := e
      rw [nI_eq (by omega) (by omega)] at e'
      omega)]
    exact Fb.i
  · refine OutS.b h22 (sNo (ht.nk ha 0 0 (by decide) rfl k0) (ht.nk ha 4 2 (by decide) rfl k4) (ht.nk ha 5 4 (by decide) rfl k5) (ht.nk ha 7 6 (by decide) rfl k7) (ht.nk ha 8 7 (by decide) rfl k8) (ht.nk ha 10 9 (by decide) rfl k10) (ht.nk ha 11 10 (by decide) rfl k11) (ht.nk ha 31 29 (by decide) rfl k31) (ht.nk ha 26 32 (by decide) rfl k26)) (fun _ => rfl)
end OUT2
