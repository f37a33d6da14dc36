/-! acts: names as operands; calls open and close -/
theorem mp_ms {m : Mx} {j f : Nat} {i x y : Int32} (h : j ≠ 0) : mp (ms m j i x) f y = ms (mp m f y) j i x := by
  funext k l
  by_cases e : k = 0
  · subst e
    rw [ms_j (fun q => h q.symm)]
    by_cases e2 : l = f
    · subst e2
      rw [mp_s, mp_s]
    · rw [mp_n e2, mp_n e2, ms_j (fun q => h q.symm)]
  · rw [mp_j e]
    by_cases e2 : k = j
    · subst e2
      unfold ms u2
      rw [if_pos rfl, if_pos rfl, mp_j e]
    · rw [ms_j e2, ms_j e2, mp_j e]
theorem mp_mp {m : Mx} {f g : Nat} {x y : Int32} (h : f ≠ g) : mp (mp m f x) g y = mp (mp m g y) f x := by
  funext k l
  by_cases e : k = 0
  · subst e
    by_cases e1 : l = f
    · subst e1
      rw [mp_n h, mp_s, mp_s]
    · rw [mp_n (m := mp m g y) e1]
      by_cases e2 : l = g
      · subst e2
        rw [mp_s, mp_s]
      · rw [mp_n e2, mp_n e2, mp_n e1]
  · rw [mp_j e, mp_j e, mp_j e, mp_j e]
theorem ms_ms {m : Mx} {j k : Nat} {i i' x y : Int32} (h : j ≠ k) : ms (ms m j i x) k i' y = ms (ms m k i' y) j i x := by
  funext a l
  by_cases e : a = j
  · subst e
    rw [ms_j h]
    unfold ms u2
    rw [if_pos rfl, if_pos rfl, if_neg h]
  · rw [ms_j (m := ms m k i' y) e]
    by_cases e2 : a = k
    · subst e2
      unfold ms u2
      rw [if_pos rfl, if_pos rfl, if_neg e]
    · rw [ms_j e2, ms_j e2, ms_j e]
theorem MK_MC {nc : Nat} {p z w st : Int32} {m : Mx} : MK w st (MC nc p z m) = MC nc p z (MK w st m) := by
  show mp (mp (ms (mp (mp (ms (ms (ms (ms (ms m 16 (nI nc) p) 17 (nI nc) z) 18 (nI nc) 0) 20 (mf m 35) 42) 21 (mf m 35) (nI nc)) 35 (mf m 35 + 1)) 27 (nI nc + 1)) 6 (mf m 14) w) 14 (mf m 14 + 1)) 32 st =
    mp (mp (ms (ms (ms (ms (ms (mp (mp (ms m 6 (mf m 14) w) 14 (mf m 14 + 1)) 32 st) 16 (nI nc) p) 17 (nI nc) z) 18 (nI nc) 0) 20 (mf m 35) 42) 21 (mf m 35) (nI nc)) 35 (mf m 35 + 1)) 27 (nI nc + 1)
  have A : ms (mp (mp (ms (ms (ms (ms (ms m 16 (nI nc) p) 17 (nI nc) z) 18 (nI nc) 0) 20 (mf m 35) 42) 21 (mf m 35) (nI nc)) 35 (mf m 35 + 1)) 27 (nI nc + 1)) 6 (mf m 14) w =
      mp (mp (ms (ms (ms (ms (ms (ms m 6 (mf m 14) w) 16 (nI nc) p) 17 (nI nc) z) 18 (nI nc) 0) 20 (mf m 35) 42) 21 (mf m 35) (nI nc)) 35 (mf m 35 + 1)) 27 (nI nc + 1) := by
    rw [← mp_ms (by decide), ← mp_ms (by decide), ms_ms (j := 21) (by decide), ms_ms (j := 20) (by decide), ms_ms (j := 18) (by decide), ms_ms (j := 17) (by decide), ms_ms (j := 16) (by decide)]
  rw [A]
  have B : ∀ (X : Mx) (g : Nat) (y : Int32), mp (ms (ms (ms (ms (ms X 16 (nI nc) p) 17 (nI nc) z) 18 (nI nc) 0) 20 (mf m 35) 42) 21 (mf m 35) (nI nc)) g y = ms (ms (ms (ms (ms (mp X g y) 16 (nI nc) p) 17 (nI nc) z) 18 (nI nc) 0) 20 (mf m 35) 42) 21 (mf m 35) (nI nc) := fun X g y => by
    rw [mp_ms (by decide), mp_ms (by decide), mp_ms (by decide), mp_ms (by decide), mp_ms (by decide)]
  rw [mp_mp (f := 27) (by decide), mp_mp (f := 35) (by decide), mp_mp (f := 27) (by decide), mp_mp (f := 35) (g := 32) (by decide), B, B]
section OPN
variable {tx : List Int32} {s : Sx} {op bl : List Ae} {a L : Nat} {m : Mx}
theorem opb_a (h : MT tx m) (h7 : mf m 7 = nI (bend (tks tx) (a + 1))) (ha : a + 1 < (tks tx).length) : f_12014 m = some (if tkd (tks tx) (a + 1) = 28 then 1 else 0) := by
  have hb := bend_le (tx := tx) (i := a + 1) ha
  rw [opb_12014 h h7 hb]
  rcases Nat.lt_or_ge (a + 1 + 1) (tks tx).length with w | w
  · rw [(tks_at w).1.1]
  · have e : a + 1 = (tks tx).length - 1 := by omega
    have t := tks_end (tx := tx)
    rw [e, t.1, t.2.1]
/-- a variable that is taken -/
theorem goV {st : Int32} (hst : st = 2 ∨ st = 3) (h : Rel tx (s, st, op, bl) a L m 1) (hI : Inv tx (s, st, op, bl) a L) (ha : a + 1 < (tks tx).length) {s1 : Sx} {m1 : Mx} {v : Int32}
    (hL1 : Lv a ((tks tx).length - 1) L s1) (hR1 : Raw tx s1 a) (hM1 : RR (tks tx) tx s1 a op bl (oeP op bl) (ocP op) 0 m1) (i1 : s1.2 = s.2) (r0 : s1.1 0 = s.1 0) (r5 : s1.1 5 = s.1 5) (r7 : s1.1 7 = s.1 7) (r15 : s1.1 15 = s.1 15) (r9 : s1.1 9 = s.1 9) (hm1 : ∀ j, j ≠ 9 → j ≠ 10 → j ≠ 11 → m1 j = m j) (hv : v ≠ -1)
    (hx : f_12029 m = some (m1, v)) : ∃ m' L', f_12044 m = some (m', 1) ∧ Rel tx (au_en bl op (au_cd 2 v (au_nx (au_sv (s1.2 2) v (au_sk 34 s1))))) (a + 1) L' m' 0 ∧ Inv tx (au_en bl op (au_cd 2 v (au_nx (au_sv (s1.2 2) v (au_sk 34 s1))))) (a + 1) L' := by
  have ha3 := h.a3 ha
  have h14 := h.q14
  have hae : a < (tks tx).length - 1 := by omega
  have hst4 : st = 2 ∨ st = 3 ∨ st = 4 := hst.elim Or.inl (fun e => Or.inr (Or.inl e))
  obtain ⟨hc6, _⟩ := hI.c6 ha ha3 hst4
  obtain ⟨hL, hR, hM, h7, h33, h34, hE, h32⟩ := h.opx hst4
  have m0 : m1 0 = m 0 := hm1 0 (by decide) (by decide) (by decide)
  have hc1 : (s1.1 7).length < 600 := by rw [r7]; exact hc6
  have hM2 := (hM1.cd (c := 2) (x := v) (w := 2) (y := v) hc1 rfl rfl).var (v := v) (st := 4) (hL1.co Co_cd) hae
  have hM3 : RR (tks tx) tx (au_cd 2 v (au_nx (au_sv (s1.2 2) v (au_sk 34 s1)))) (a + 1) op bl (oeP op bl) (ocP op) 0 (MK 2 4 (MA 2 v m1)) :=
    hM2.cs rfl rfl rfl rfl rfl rfl rfl rfl rfl rfl rfl rfl rfl rfl
  have hc2 : ((au_nx (au_sv (s1.2 2) v (au_sk 34 s1))).1 7).length < 600 := hc1
  have e7 : ((au_cd 2 v (au_nx (au_sv (s1.2 2) v (au_sk 34 s1)))).1 7).length = (s.1 7).length + 1 := by
    rw [len_cd (c := 2) (y := v) hc2]
    show (s1.1 7).length + 1 = _
    rw [r7]
  obtain ⟨m', L', e1, e2, e3⟩ := opnd hst hI hE ha (by omega) ((hL1.var hae).co Co_cd) (hR1.var hL1) hM3 (by show m1 0 7 = _; rw [m0]; exact h7) (by show m1 0 33 = s1.2 4; rw [m0, i1]; exact h33) (by show m1 0 34 = s1.2 5; rw [m0, i1]; exact h34) (by show m1 0 43 = _; rw [m0]) (by show m1 25 = _; exact hm1 25 (by decide) (by decide) (by decide))
    ((RwS.of (s' := s1) r0 (by rw [r5]) r7).tr ((RwS.var hL1 hae).tr (RwS.cd hc2))) e7 (by show (s1.1 15).length = _; rw [r15]) (by show (s1.1 9).length = _; rw [r9])
  refine ⟨m', L', ?_, e2, e3⟩
  have f11 : mf m1 11 = nI (s.1 7).length := by rw [← r7]; exact hM1.2.1.1
  have f14 : mf m1 14 = nI a := hM1.2.2.1.1
  unfold f_12044
  rw [hx, bO_some, if_neg hv, MA_e f11 (by omega), bO_some, MK_e (m := MA 2 v m1) f14 (by omega), bO_some, if_neg (by decide), e1, bO_some, if_neg (by decide)]
/-- a variable: the name is known, or there is a place -/
theorem var_all {oe oc : Nat → Prop} {mo : List Ae} (hL : Lv a ((tks tx).length - 1) L s) (hR : Raw tx s a) (hM : RR (tks tx) tx s a mo bl oe oc 0 m) (h7 : m 0 7 = nI (bend (tks tx) (a + 1))) (h34 : m 0 34 = s.2 5) (ht : Tok tx a m) (ha : a + 1 < (tks tx).length) (hk : tkd (tks tx) a = 4) :
    (¬ (xpos (s.1 (f_5004 s)) (xg (s.1 1) (s.2 2)) = -1 ∧ ¬ nI (s.1 (f_5004 s)).length < 8) → ∃ s1 m1 v, (f_5022 (f_5004 s) s) = (au_nx (au_sv (s1.2 2) v (au_sk 34 s1)), v) ∧ f_12029 m = some (m1, v) ∧ Lv a ((tks tx).length - 1) L s1 ∧ Raw tx s1 a ∧ RR (tks tx) tx s1 a mo bl oe oc 0 m1 ∧ s1.2 = s.2 ∧ (∀ k, k ≠ 13 → k ≠ 14 → s1.1 k = s.1 k) ∧ (∀ j, j ≠ 9 → j ≠ 10 → j ≠ 11 → m1 j = m j) ∧ v ≠ -1) ∧
    (xpos (s.1 (f_5004 s)) (xg (s.1 1) (s.2 2)) = -1 ∧ ¬ nI (s.1 (f_5004 s)).length < 8 → f_12029 m = some (m, -1)) := by
  have hval := hR.vl hL (by omega)
  have h5 : s.2 5 = 0 ∨ s.2 5 = 1 := hL.2.2.2.2.2.2.2.2.2.2
  have ho : ∃ o, o ≤ 1 ∧ s.2 5 = nI o ∧ f_5004 s = 13 + o := by
    rcases h5 with e | e
    · exact ⟨0, by omega, e, by unfold f_5004; rw [if_pos e]⟩
    · exact ⟨1, by omega, e, by unfold f_5004; rw [if_neg (by rw [e]; decide)]⟩
  obtain ⟨o, ho1, ho2, ho3⟩ := ho
  obtain ⟨v1, v2, v3, v4⟩ := var_12029 hM (o := o) ho1 (by show m 0 34 = _; rw [h34, ho2]) ht.2.1 h7 ha hk
  rw [ho3, hval]
  have h8 : (s.1 (13 + o)).length ≤ 8 := by
    have := hM.2.2.2.1
    rcases (by omega : o = 0 ∨ o = 1) with e | e <;> subst e
    · exact this.2.2.1
    · exact this.2.2.2.1
  have h8i : nI (s.1 (13 + o)).length < 8 ↔ (s.1 (13 + o)).length < 8 := ⟨fun e => Classical.byContradiction fun q => by
    have e8 : (s.1 (13 + o)).length = 8 := by omega
    rw [e8] at e
    exact absurd e (by decide), fun e => nI_lt (b := 8) e (by decide)⟩
  refine ⟨fun hn => ?_, fun hy => v2 hy.1 (fun q => hy.2 (h8i.2 q))⟩
  by_cases q : xpos (s.1 (13 + o)) (tvl (tks tx) a) = -1
  · have hl8 : (s.1 (13 + o)).length < 8 := h8i.1 (Classical.byContradiction fun w => hn ⟨q, w⟩)
    obtain ⟨m1, w1, w2, w3⟩ := v3 q hl8
    refine ⟨sB s (13 + o) (s.1 (13 + o) ++ [tvl (tks tx) a]), m1, nI (s.1 (13 + o)).length, ?_, w1, hL.co (Co_sB (by omega)), ?_, w2, rfl, fun k k1 k2 => ?_, w3, ?_⟩
    · unfold f_5022
      rw [if_pos (by rw [hval]; exact q), if_pos (h8i.2 hl8), bS_eq, hval, show xadd (ev_cap (13 + o)) (s.1 (13 + o)) (tvl (tks tx) a) = s.1 (13 + o) ++ [tvl (tks tx) a] from by
        rcases (by omega : o = 0 ∨ o = 1) with e | e <;> subst e <;> exact xadd_e hl8]
      rfl
    · refine ⟨?_, fun i hi hi2 => ?_⟩
      · show ((if 1 = 13 + o then _ else s.1 1)).length = _
        rw [if_neg (by omega)]
        exact hR.1
      · show (if 0 = 13 + o then _ else s.1 0).getD i 0 = _ ∧ (if 1 = 13 + o then _ else s.1 1).getD i 0 = _
        rw [if_neg (by omega), if_neg (by omega)]
        exact hR.2 i hi hi2
    · show (if k = 13 + o then _ else s.1 k) = _
      rw [if_neg (by omega)]
    · intro e
      have h0 : (0 : Int32) ≤ nI (s.1 (13 + o)).length := nI_pos' (by omega)
      rw [e] at h0
      exact absurd h0 (by decide)
  · refine ⟨s, m, xpos (s.1 (13 + o)) (tvl (tks tx) a), ?_, v1 q, hL, hR, hM, rfl, fun _ _ _ => rfl, fun _ _ _ _ => rfl, q⟩
    unfold f_5022
    rw [hval, if_neg q]
    rfl
theorem goVar {st : Int32} (hst : st = 2 ∨ st = 3) (h : Rel tx (s, st, op, bl) a L m 1) (hI : Inv tx (s, st, op, bl) a L) (ht : Tok tx a m) (ha : a + 1 < (tks tx).length) (hk : tkd (tks tx) a = 4) (hk1 : tkd (tks tx) (a + 1) ≠ 28) :
    (¬ (xpos (s.1 (f_5004 s)) (xg (s.1 1) (s.2 2)) = -1 ∧ ¬ nI (s.1 (f_5004 s)).length < 8) → Good tx st (au_en bl op (au_cd 2 (f_5022 (f_5004 s) s).2 (f_5022 (f_5004 s) s).1)) a m) ∧
    (xpos (s.1 (f_5004 s)) (xg (s.1 1) (s.2 2)) = -1 ∧ ¬ nI (s.1 (f_5004 s)).length < 8 → Bad tx a 5 m) := by
  have h5 := ht.k hk
  have hst4 : st = 2 ∨ st = 3 ∨ st = 4 := hst.elim Or.inl (fun e => Or.inr (Or.inl e))
  obtain ⟨hL, hR, hM, h7, h33, h34, hE, h32⟩ := h.opx hst4
  obtain ⟨w1, w2⟩ := var_all hL hR hM h7 h34 ht ha hk
  have hop : f_12014 m = some 0 := by
    rw [opb_a hM.1.1 h7 ha, if_neg hk1]
  have hf : f_12043 m = bO (f_12044 m) fun s14 r14 => some (s14, r14) := by
    unfold f_12043
    rw [if_neg (by rw [h5]; decide), if_pos (by rw [h5]; rfl), hop, bP_some, if_pos rfl]
  refine ⟨fun hn => ?_, fun hy => ?_⟩
  · obtain ⟨s1, m1, v, x1, x2, x3, x4, x5, x6, x7, x8, x9⟩ := w1 hn
    rw [x1]
    obtain ⟨m', L', e1, e2, e3⟩ := goV hst h hI ha x3 x4 x5 x6 (x7 0 (by decide) (by decide)) (x7 5 (by decide) (by decide)) (x7 7 (by decide) (by decide)) (x7 15 (by decide) (by decide)) (x7 9 (by decide) (by decide)) x8 x9 x2
    exact ⟨m', L', by rw [mAcc_23 hst, hf, e1]; rfl, e2, e3⟩
  · refine Bad.at (m2 := m) (st := st) ht (by rw [hk]; decide) h32 ?_ rfl
    rw [mAcc_23 hst, hf]
    unfold f_12044
    rw [w2 hy, bO_some, if_pos rfl]
    rfl
/-- a call opens -/
theorem call1 {xs : List Ae} {f : Ae} (hL : Lv a ((tks tx).length - 1) L s) (hR : Raw tx s a) (hM : RR (tks tx) tx s a (xs ++ [f]) bl (oeP (xs ++ [f]) bl) (ocP (xs ++ [f])) 0 m) (h7 : m 0 7 = nI (bend (tks tx) (a + 1))) (h33 : m 0 33 = s.2 4) (h34 : m 0 34 = s.2 5)
    (h43 : m 0 43 = f.2.1) (h25 : f.1 = 47 → m 25 bl.length = f.2.2.2.1) (hf : stF f.1) (hx : ∀ x, x ∈ xs → isEx x.1) (hO : IvO s (xs ++ [f])) (hF : FV s f (a + 1) 1) (hB : ∀ b, b ∈ bl → BlV s b)
    (hN : (s.1 7).length + (xs ++ [f]).length + 2 * bl.length ≤ 2 * a + 2 ∧ 3 * (s.1 15).length ≤ a + cc (xs ++ [f]) ∧ L = bl.length + lc (xs ++ [f]) ∧ 8 * (s.1 9).length ≤ bend (tks tx) a + if (bl.any fun b => b.1 == 10) = true then 1 else 0)
    (ht : Tok tx a m) (ha : a + 1 < (tks tx).length) (hk : tkd (tks tx) a = 4) (hk1 : tkd (tks tx) (a + 1) = 28) :
    ∃ m' L', f_12035 m = some (m', 1) ∧ Rel tx (au_nx (au_sk 35 (au_ca 17 0 (au_ca 16 0 (au_ca 15 (s.2 2) s)))), 13, (42, nI (s.1 15).length, 0, s.2 2 + 1, 0, 0) :: (xs ++ [f]), bl) (a + 1) L' m' 0 ∧ Inv tx (au_nx (au_sk 35 (au_ca 17 0 (au_ca 16 0 (au_ca 15 (s.2 2) s)))), 13, (42, nI (s.1 15).length, 0, s.2 2 + 1, 0, 0) :: (xs ++ [f]), bl) (a + 1) L' := by
  obtain ⟨q1, q2, q3, q4⟩ := hN
  have hL8 := hL.L8
  have ha3 : a < 300 := by
    have := hL.2.2.2.2.1
    omega
  have hae : a < (tks tx).length - 1 := by omega
  have hcl : cc (xs ++ [f]) ≤ lc (xs ++ [f]) := by
    unfold cc lc
    refine List.countP_mono_left fun x _ h => ?_
    unfold ccF at h
    unfold lcF
    rw [h]
    simp
  have hnc : (s.1 15).length < 110 := by omega
  have hlen : (xs ++ [f]).length < 100 := op_len hO hx (by omega)
  have hval := hR.vl hL (by omega)
  have hi : s.2 2 = nI a := hL.2.1
  have h35 : ((au_sk 35 s).1 0).getD a 0 = 35 := sk_s hL hae
  have f27 : mf m 27 = nI (s.1 15).length := hM.2.2.2.2.2.2.1.1
  have f14 : mf m 14 = nI a := hM.2.2.1.1
  have f35 : mf m 35 = nI (xs ++ [f]).length := hM.2.2.2.2.2.2.2.1.1
  have f6 : mf m 6 = nI (tpl (tks tx) a) := ht.2.1
  have f7 : mf m 7 = nI (ten (tks tx) a) := h7
  have tj := tks_at ha
  have hsub : nI (ten (tks tx) a) - nI (tpl (tks tx) a) = nI (ten (tks tx) a - tpl (tks tx) a) := by
    have : nI (ten (tks tx) a) = nI (ten (tks tx) a - tpl (tks tx) a) + nI (tpl (tks tx) a) := by rw [nI_add]; congr 1; omega
    rw [this, Int32.add_sub_cancel]
  have hacc : f_12035 m = some (MK 3 13 (MC (s.1 15).length (nI (tpl (tks tx) a)) (nI (ten (tks tx) a - tpl (tks tx) a)) m), 1) := by
    unfold f_12035
    have v : vi (nI (s.1 15).length) 110 := vi_n hnc (by omega)
    rw [f27, f6, gd_e v, bS_eq]
    have g27 : ∀ j i x, j ≠ 0 → mf (ms m j i x) 27 = nI (s.1 15).length := fun j i x hj => by rw [mf_ms hj]; exact f27
    simp only [mf_ms (show (16 : Nat) ≠ 0 by decide), mf_ms (show (17 : Nat) ≠ 0 by decide), mf_ms (show (18 : Nat) ≠ 0 by decide)]
    rw [f27, gd_e v, bS_eq, f6, f7, hsub]
    simp only [mf_ms (show (16 : Nat) ≠ 0 by decide), mf_ms (show (17 : Nat) ≠ 0 by decide), mf_ms (show (18 : Nat) ≠ 0 by decide)]
    rw [f27, gd_e v, bS_eq]
    simp only [mf_ms (show (16 : Nat) ≠ 0 by decide), mf_ms (show (17 : Nat) ≠ 0 by decide), mf_ms (show (18 : Nat) ≠ 0 by decide)]
    rw [f27]
    rw [MO_e (m := ms (ms (ms m 16 (nI (s.1 15).length) (nI (tpl (tks tx) a))) 17 (nI (s.1 15).length) (nI (ten (tks tx) a - tpl (tks tx) a))) 18 (nI (s.1 15).length) 0) (c := (xs ++ [f]).length) (by rw [mf_ms (by decide), mf_ms (by decide), mf_ms (by decide)]; exact f35) hlen, bOv_some, bS_eq]
    rw [show mf (MO 42 (nI (s.1 15).length) (ms (ms (ms m 16 (nI (s.1 15).length) (nI (tpl (tks tx) a))) 17 (nI (s.1 15).length) (nI (ten (tks tx) a - tpl (tks tx) a))) 18 (nI (s.1 15).length) 0)) 27 = nI (s.1 15).length from f27]
    rw [MK_e (m := mp (MO 42 (nI (s.1 15).length) (ms (ms (ms m 16 (nI (s.1 15).length) (nI (tpl (tks tx) a))) 17 (nI (s.1 15).length) (nI (ten (tks tx) a - tpl (tks tx) a))) 18 (nI (s.1 15).length) 0)) 27 (nI (s.1 15).length + 1)) f14 (by omega), bO_some]
    rfl
  have hM1 := (hM.sk (x := 35) hi (by omega)).nx (w := 3) (st := 13) (by omega) (by rw [h35]; rfl)
  have hM2 := hM1.cal (i := a) (nc := (s.1 15).length) (y := s.2 2 + 1) rfl hnc (by omega) ha hk (by show ((au_sk 35 s).1 0).getD a 0 = 35; exact h35) (by
    show (s.1 1).getD a 0 = _
    exact (hR.2 a (Nat.le_refl _) (by omega)).2) (by omega) (fun x hx h42 => hO.2.1.all x hx h42)
  rw [← MK_MC] at hM2
  have hL' : Lv (a + 1) ((tks tx).length - 1) L (au_nx (au_sk 35 (au_ca 17 0 (au_ca 16 0 (au_ca 15 (s.2 2) s))))) :=
    ((((hL.co (s' := au_ca 15 (s.2 2) s) (Co_sB (by decide))).co (s' := au_ca 16 0 (au_ca 15 (s.2 2) s)) (Co_sB (by decide))).co (s' := au_ca 17 0 (au_ca 16 0 (au_ca 15 (s.2 2) s))) (Co_sB (by decide))).sk hae (by decide)).nx hae
  have e15 : (au_nx (au_sk 35 (au_ca 17 0 (au_ca 16 0 (au_ca 15 (s.2 2) s))))).1 15 = s.1 15 ++ [nI a] := by
    show xadd 150 (s.1 15) (s.2 2) = _
    rw [hi, xadd_e (by omega)]
  refine ⟨_, L, hacc, Rel.mk hL' ?_ ?_ h7 (by unfold MK; rw [mp_s]) ?_ ?_ ?_, ?_⟩
  · exact hR.nx (fun i hi => sk_n (s := s) hL (by omega)) (fun _ _ => rfl) rfl
  · have hM3 : RR (tks tx) tx (au_nx (au_sk 35 (au_ca 17 0 (au_ca 16 0 (au_ca 15 (s.2 2) s))))) (a + 1) ((42, nI (s.1 15).length, 0, s.2 2 + 1, 0, 0) :: (xs ++ [f])) bl (oeP (xs ++ [f]) bl) (fun k => k = (s.1 15).length ∨ ocP (xs ++ [f]) k) 0 (MK 3 13 (MC (s.1 15).length (nI (tpl (tks tx) a)) (nI (ten (tks tx) a - tpl (tks tx) a)) m)) := by
      rw [← hi] at hM2
      exact hM2.cs rfl rfl rfl rfl rfl rfl rfl rfl rfl rfl rfl rfl rfl rfl
    refine (hM3.oew (fun k hk => ?_)).ocw (fun k hk => ?_)
    · obtain ⟨k1, ⟨z, hz, hz2⟩ | q⟩ := hk
      · exact ⟨k1, Or.inl ⟨z, List.mem_cons_of_mem _ hz, hz2⟩⟩
      · exact ⟨k1, Or.inr q⟩
    · rcases hk with e | ⟨k1, z, hz, hz2⟩
      · rw [e]
        exact ⟨by omega, _, List.mem_cons_self .., rfl, rfl⟩
      · exact ⟨k1, z, List.mem_cons_of_mem _ hz, hz2⟩
  · exact h33
  · exact h34
  · refine Ex.mkE (xs := (42, nI (s.1 15).length, 0, s.2 2 + 1, 0, 0) :: xs) (Or.inl hf) h43 (fun q => ?_) rfl
    exact h25 q
  · have hr : RwS s (au_nx (au_sk 35 (au_ca 17 0 (au_ca 16 0 (au_ca 15 (s.2 2) s))))) :=
      (RwS.of (s' := au_ca 17 0 (au_ca 16 0 (au_ca 15 (s.2 2) s))) rfl rfl rfl).tr ((RwS.sk4 (s := au_ca 17 0 (au_ca 16 0 (au_ca 15 (s.2 2) s))) (a := a) hi (by omega) ((hR.2 a (Nat.le_refl _) (by omega)).1.trans hk)).tr RwS.nx)
    have l15 : ((au_nx (au_sk 35 (au_ca 17 0 (au_ca 16 0 (au_ca 15 (s.2 2) s))))).1 15).length = (s.1 15).length + 1 := by
      rw [e15, List.length_append]; rfl
    have hO1 := hO.up hr (by omega)
    have hb := (bend_s ha).1
    have c1 : cc ((42, nI (s.1 15).length, 0, s.2 2 + 1, 0, 0) :: (xs ++ [f])) = cc (xs ++ [f]) + 1 := by rw [cc_cons]; rfl
    have c2 : lc ((42, nI (s.1 15).length, 0, s.2 2 + 1, 0, 0) :: (xs ++ [f])) = lc (xs ++ [f]) + 1 := by rw [lc_cons]; rfl
    have hxb : ¬ isBin (42 : Int32) := by decide +kernel
    have hx' : ∀ x, x ∈ (42, nI (s.1 15).length, 0, s.2 2 + 1, 0, 0) :: xs → isEx x.1 := fun x hxm => by
      rcases List.mem_cons.1 hxm with e | e
      · rw [e]; exact Or.inr (Or.inr (Or.inr rfl))
      · exact hx x e
    have hf53 : f.1 ≠ 53 := by rcases hf with e | e | e | e | e | e | e | e <;> rw [e] <;> decide
    have h53 : ∀ x, x ∈ (42, nI (s.1 15).length, 0, s.2 2 + 1, 0, 0) :: (xs ++ [f]) → x.1 ≠ 53 := fun x q => by
      rcases List.mem_append.1 (show x ∈ ((42, nI (s.1 15).length, 0, s.2 2 + 1, 0, 0) :: xs) ++ [f] from q) with r | r
      · exact (isEx_n (hx' x r)).1
      · rw [List.mem_singleton.1 r]; exact hf53
    refine Inv.mk ?_ (fun b hb => (hB b hb).up hr) (Sh.mkE (xs := (42, nI (s.1 15).length, 0, s.2 2 + 1, 0, 0) :: xs) (Or.inr (Or.inr (Or.inr rfl))) hx' hf (hF.up hr (d' := 1) (by omega)) rfl (fun _ => ⟨_, _, rfl, rfl⟩) (fun _ => hk1)) ?_
    · refine ⟨fun z hz => ?_, ?_, fun q => absurd q hxb, hO1.2.2⟩
      · rcases List.mem_cons.1 hz with e | e
        · rw [e]
          exact ⟨Or.inl ⟨by show (40 : Int32) ≤ 42; decide, by show lvK 42 = 0; decide +kernel⟩, fun q => absurd q (by show ¬ ((42 : Int32) = 23 ∨ (42 : Int32) = 24); decide)⟩
        · exact hO1.1 z e
      · show Dc _ ((42, nI (s.1 15).length, 0, s.2 2 + 1, 0, 0) :: (xs ++ [f]))
        unfold Dc
        rw [if_pos rfl]
        exact ⟨(s.1 15).length, rfl, by omega, hO.2.1⟩
    · refine ⟨?_, fun q => absurd q (by decide), ?_, ?_, ?_⟩
      · show (s.1 7).length + ((xs ++ [f]).length + 1) + 2 * bl.length ≤ 2 * (a + 1) + 1
        omega
      · rw [l15, c1]
        show _ ≤ a + 1 + _ + 1
        omega
      · show L + 1 = bl.length + lc ((42, nI (s.1 15).length, 0, s.2 2 + 1, 0, 0) :: (xs ++ [f])) + 0
        omega
      · rw [dsB_n (by decide) h53]
        show 8 * (s.1 9).length + 0 ≤ _
        omega
end OPN
