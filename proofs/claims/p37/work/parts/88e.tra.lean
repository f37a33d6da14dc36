/-! acts: operands -/
section OPD
variable {tx : List Int32} {s : Sx} {op bl : List Ae} {a L : Nat} {m : Mx}
theorem mAcc_2 : mAcc 2 m = f_12043 m := by
  unfold mAcc
  rw [if_neg (by decide), if_neg (by decide), if_pos rfl]
theorem mAcc_3 : mAcc 3 m = f_12043 m := by
  unfold mAcc
  rw [if_neg (by decide), if_neg (by decide), if_neg (by decide), if_pos rfl]
theorem mAcc_23 {st : Int32} (hst : st = 2 ∨ st = 3) : mAcc st m = f_12043 m := by
  rcases hst with e | e <;> rw [e]
  · exact mAcc_2
  · exact mAcc_3
/-- what holds while an expression is read -/
def OpX (tx : List Int32) (s : Sx) (st : Int32) (op bl : List Ae) (a L : Nat) (m : Mx) : Prop :=
  Lv a ((tks tx).length - 1) L s ∧ Raw tx s a ∧ RR (tks tx) tx s a op bl (oeP op bl) (ocP op) 0 m ∧ m 0 7 = nI (bend (tks tx) (a + 1)) ∧ m 0 33 = s.2 4 ∧ m 0 34 = s.2 5 ∧ Ex st op bl a s m ∧ m 0 32 = st
theorem Rel.opx {st : Int32} (hst : st = 2 ∨ st = 3 ∨ st = 4) (h : Rel tx (s, st, op, bl) a L m 1) : OpX tx s st op bl a L m := by
  obtain ⟨hL, hR, hM, h7, ⟨h32, h33, h34⟩, hE⟩ := h
  refine ⟨hL, hR, ?_, h7, h33, ?_, hE, h32⟩
  · have q : RR (tks tx) tx s a (mop st op) bl (oeP op bl) (ocP op) (pdN st) m := hM
    rcases hst with e | e | e <;> rw [e] at q <;> exact q
  · have q : m 0 34 = scN st (s.2 5) := h34
    rcases hst with e | e | e <;> rw [e] at q <;> exact q
theorem Inv.opx {st : Int32} (hst : st = 2 ∨ st = 3 ∨ st = 4) (h : Inv tx (s, st, op, bl) a L) : IvO s op ∧ (∀ b, b ∈ bl → BlV s b) ∧ Sh tx s st op bl a ∧ Nm tx s st op bl a L := by
  obtain ⟨hO, hB, hS, hN⟩ := h
  refine ⟨?_, hB, hS, hN⟩
  have q : IvO s (mop st op) := hO
  rcases hst with e | e | e <;> rw [e] at q <;> exact q
theorem OpX.o1 {st : Int32} (h : OpX tx s st op bl a L m) (hs : (s.1 7).length ≤ 600) : mf m 11 = nI (s.1 7).length ∧ mf m 14 = nI a ∧ mf m 33 = nI L := ⟨h.2.2.1.2.1.1, h.2.2.1.2.2.1.1, h.2.2.2.2.1.trans h.1.2.2.2.2.2.2.1⟩
theorem Nm.c6 {st : Int32} (h : Nm tx s st op bl a L) (ha : a + 1 < (tks tx).length) (ha3 : a < 300) (hst : st ≠ 13) (ho : 0 < op.length) : (s.1 7).length < 600 := by
  have := h.1
  rw [s13_n hst] at this
  omega
theorem Inv.c6 {st : Int32} (hI : Inv tx (s, st, op, bl) a L) (ha : a + 1 < (tks tx).length) (ha3 : a < 300) (hst : st = 2 ∨ st = 3 ∨ st = 4) : (s.1 7).length < 600 ∧ 0 < op.length := by
  obtain ⟨hO, hB, hS, hN⟩ := Inv.opx hst hI
  obtain ⟨xs, f, rfl, _⟩ := Sh.sE hS (by rcases hst with e | e | e <;> rw [e] <;> decide)
  have : 0 < (xs ++ [f]).length := by rw [List.length_append]; exact Nat.succ_pos _
  exact ⟨Nm.c6 hN ha ha3 (by rcases hst with e | e | e <;> rw [e] <;> decide) this, this⟩
/-- a code, the token, the end of the operand -/
theorem goCode {st : Int32} (hst : st = 2 ∨ st = 3) (h : Rel tx (s, st, op, bl) a L m 1) (hI : Inv tx (s, st, op, bl) a L) (ha : a + 1 < (tks tx).length) {c x w y kw : Int32} (hw : w = cm c) (hy : y = cdm c x) (hkw : kw = wm (tkd (tks tx) a))
    (hacc : ∀ m', f_12034 (MK kw 4 (MA w y m)) = some (m', 1) → f_12043 m = some (m', 1)) : Good tx st (au_en bl op (au_nx (au_cd c x s))) a m := by
  have ha3 := h.a3 ha
  have hae : a < (tks tx).length - 1 := by omega
  have hr0 := h.r0 ha
  obtain ⟨hc6, _⟩ := hI.c6 ha ha3 (hst.elim Or.inl (fun e => Or.inr (Or.inl e)))
  obtain ⟨hL, hR, hM, h7, h33, h34, hE, h32⟩ := h.opx (hst.elim Or.inl (fun e => Or.inr (Or.inl e)))
  have hR2 := (hM.cd (c := c) (x := x) hc6 hw hy).nx (w := kw) (st := 4) (by omega) (by
    rw [hkw]
    show _ = wm ((s.1 0).getD a 0)
    rw [show (s.1 0).getD a 0 = _ from hr0])
  have e7 : ((au_nx (au_cd c x s)).1 7).length = (s.1 7).length + 1 := len_cd (s := s) (c := c) (y := x) hc6
  obtain ⟨m', L', e1, e2, e3⟩ := opnd hst hI hE ha (by omega) (s3 := au_nx (au_cd c x s)) ((hL.co Co_cd).nx hae) (hR.nx (fun _ _ => rfl) (fun _ _ => rfl) rfl) hR2 h7 h33 h34 rfl rfl ((RwS.cd hc6).tr RwS.nx) e7 rfl rfl
  exact ⟨m', L', by rw [mAcc_23 hst]; exact hacc m' e1, e2, e3⟩
theorem nI_nn {k : Nat} (h : k < 100000) : ¬ nI k < 0 := by
  intro e
  have h0 : (0 : Int32) ≤ nI k := nI_pos' (by omega)
  rw [i_lt] at e
  rw [i_le] at h0
  omega
theorem goNum {st : Int32} (hst : st = 2 ∨ st = 3) (h : Rel tx (s, st, op, bl) a L m 1) (hI : Inv tx (s, st, op, bl) a L) (ht : Tok tx a m) (ha : a + 1 < (tks tx).length) (hk : tkd (tks tx) a = 3) : Good tx st (au_en bl op (au_nx (au_cd 1 (tvl (tks tx) a) s))) a m := by
  have h5 := ht.k hk
  have ha3 := h.a3 ha
  have h14 := h.q14
  obtain ⟨hc6, _⟩ := hI.c6 ha ha3 (hst.elim Or.inl (fun e => Or.inr (Or.inl e)))
  have h11 : mf m 11 = nI (s.1 7).length := h.2.2.1.2.1.1
  refine goCode hst h hI ha (w := 1) (y := tvl (tks tx) a) (kw := 1) rfl rfl (by rw [hk]; rfl) (fun m' e => ?_)
  have h8 : mf m 8 = tvl (tks tx) a := ht.2.2 hk
  unfold f_12043
  rw [if_pos (by rw [h5]; rfl), h8, MA_e h11 (by omega), bO_some, if_neg (nI_nn (by omega)), MK_e (m := MA 1 (tvl (tks tx) a) m) h14 (by omega), bO_some, if_neg (by decide), e, bO_some, if_neg (by decide)]
theorem goIn {st : Int32} (hst : st = 2 ∨ st = 3) (h : Rel tx (s, st, op, bl) a L m 1) (hI : Inv tx (s, st, op, bl) a L) (ht : Tok tx a m) (ha : a + 1 < (tks tx).length) (hk : tkd (tks tx) a = 9) : Good tx st (au_en bl op (au_nx (au_cd 5 0 s))) a m := by
  have h5 := ht.k hk
  have ha3 := h.a3 ha
  have h14 := h.q14
  obtain ⟨hc6, _⟩ := hI.c6 ha ha3 (hst.elim Or.inl (fun e => Or.inr (Or.inl e)))
  have h11 : mf m 11 = nI (s.1 7).length := h.2.2.1.2.1.1
  refine goCode hst h hI ha (w := 9) (y := 0) (kw := 8) rfl rfl (by rw [hk]; rfl) (fun m' e => ?_)
  unfold f_12043
  rw [if_neg (by rw [h5]; decide), if_neg (by rw [h5]; decide), if_pos (by rw [h5]; rfl), MA_e h11 (by omega), bO_some, if_neg (nI_nn (by omega)), MK_e (m := MA 9 0 m) h14 (by omega), bO_some, if_neg (by decide), e, bO_some, if_neg (by decide)]
/-- an entry above, one level deeper -/
theorem goUp {st : Int32} (hst : st = 2 ∨ st = 3) (h : Rel tx (s, st, op, bl) a L m 1) (hI : Inv tx (s, st, op, bl) a L) (ha : a + 1 < (tks tx).length) (hl : L < 8) {x : Ae} (hx : x.1 = 40 ∨ x.1 = 41) {s1 : Sx} (hs1 : s1 = s ∨ ∃ k, k ≠ 0 ∧ (k ≠ 35 ∧ k ≠ 4) ∧ s1 = au_sk k s) {y kw : Int32} (hy : y = odm x) (hkw : kw = wm ((s1.1 0).getD a 0))
    (hacc : f_12043 m = some (MK kw 2 (MO x.1 y (mp m 33 (nI (L + 1)))), 1)) : Good tx st (au_up s1, 2, x :: op, bl) a m := by
  have ha3 := h.a3 ha
  have hae : a < (tks tx).length - 1 := by omega
  have hst4 : st = 2 ∨ st = 3 ∨ st = 4 := hst.elim Or.inl (fun e => Or.inr (Or.inl e))
  obtain ⟨hO, hB, hS, hN⟩ := hI.opx hst4
  obtain ⟨hL, hR, hM, h7, h33, h34, hE, h32⟩ := h.opx hst4
  obtain ⟨xs, f, rfl, g1, g2, g3, g4, g5⟩ := Sh.sE hS (hst.elim Or.inl (fun e => Or.inr (Or.inl e)))
  have h51 : f.1 ≠ 51 ∧ f.1 ≠ 52 ∧ f.1 ≠ 53 := by rcases g2 with e | e | e | e | e | e | e | e <;> rw [e] <;> decide
  have z1 : s13 st = 0 := by rcases hst with e | e <;> rw [e] <;> rfl
  have z2 : sPr st = 0 := by rcases hst with e | e <;> rw [e] <;> rfl
  have z3 : dsA st = 0 := by rcases hst with e | e <;> rw [e] <;> rfl
  have z4 : st ≠ 8 ∧ st ≠ 9 ∧ sPr st = 0 := ⟨by rcases hst with e | e <;> rw [e] <;> decide, by rcases hst with e | e <;> rw [e] <;> decide, z2⟩
  have z5 : st ≠ 4 := by rcases hst with e | e <;> rw [e] <;> decide
  have h53 : ∀ x, x ∈ xs ++ [f] → x.1 ≠ 53 := fun x q => by
    rcases List.mem_append.1 q with r | r
    · exact (isEx_n (g1 x r)).1
    · rw [List.mem_singleton.1 r]; exact h51.2.2
  have hlen : (xs ++ [f]).length < 100 := op_len hO g1 (by
    have := hN.2.2.2.1
    rw [z1, z2] at this
    have := hL.L8
    omega)
  -- the state, with the token's mark
  have F : Lv a ((tks tx).length - 1) L s1 ∧ RR (tks tx) tx s1 a (xs ++ [f]) bl (oeP (xs ++ [f]) bl) (ocP (xs ++ [f])) 0 m ∧ Raw tx s1 (a + 1) ∧ RwS s s1 ∧ (s1.1 7).length = (s.1 7).length ∧ (s1.1 15).length = (s.1 15).length ∧ (s1.1 9).length = (s.1 9).length ∧ s1.2 = s.2 := by
    rcases hs1 with rfl | ⟨k, k0, k35, rfl⟩
    · exact ⟨hL, hM, hR.nx (fun _ _ => rfl) (fun _ _ => rfl) rfl, RwS.r, rfl, rfl, rfl, rfl⟩
    · exact ⟨hL.sk hae k0, hM.sk hL.2.1 (by omega), hR.nx (fun i hi => sk_n hL (by omega)) (fun _ _ => rfl) rfl, RwS.sk hL.2.1 (by omega) k35, rfl, rfl, rfl, rfl⟩
  obtain ⟨hL1, hM1, hR1, hr1, e7, e15, e9, ei⟩ := F
  have hx43 : ¬ (43 : Int32) ≤ x.1 ∧ x.1 ≠ 42 := by rcases hx with e | e <;> rw [e] <;> decide
  have hxl : lvK x.1 = 0 := by rcases hx with e | e <;> rw [e] <;> decide +kernel
  have hxb : ¬ isBin x.1 := fun q => by
    have := q.1
    rw [hxl] at this
    exact absurd this (by decide)
  have hok : x.1 = okm x.1 := by rcases hx with e | e <;> rw [e] <;> rfl
  have hex : isEx x.1 := by rcases hx with e | e <;> rw [e] <;> decide +kernel
  refine ⟨MK kw 2 (MO x.1 y (mp m 33 (nI (L + 1)))), L + 1, ?_, ?_, ?_⟩
  · rw [mAcc_23 hst]
    exact hacc
  · refine Rel.mk (hL1.up hae hl) (hR1) ?_ h7 (by unfold MK; rw [mp_s]) ?_ ?_ ?_
    · have hp := (((hM1.f (f := 33) (x := nI (L + 1)) (by decide)).psh (x := x) (w := x.1) (y := y) (by omega) hok hy (fun q => absurd q hx43.2)).i (s' := sV s1 4 (s1.2 4 + 1)) rfl).nx (w := kw) (st := 2) (by omega) hkw
      refine (hp.oew (fun k hk => ?_)).ocw (fun k hk => ?_)
      · obtain ⟨k1, ⟨z, hz, hz2⟩ | q⟩ := hk
        · exact ⟨k1, Or.inl ⟨z, List.mem_cons_of_mem _ hz, hz2⟩⟩
        · exact ⟨k1, Or.inr q⟩
      · obtain ⟨k1, z, hz, hz2⟩ := hk
        exact ⟨k1, z, List.mem_cons_of_mem _ hz, hz2⟩
    · unfold MK
      rw [mp_n (by decide)]
      show mp m 33 (nI (L + 1)) 0 33 = s1.2 4 + 1
      rw [mp_s, hL1.2.2.2.2.2.2.1, nI_1]
    · show m 0 34 = s1.2 5
      rw [ei]
      exact h34
    · exact Ex.mkE (xs := x :: xs) (Or.inl g2) (hE.f43 h51.1 h51.2.1) (fun q => hE.f47 q) rfl
  · have hr : RwS s (au_up s1) := hr1.tr (RwS.of rfl rfl rfl)
    have hO1 : IvO (au_up s1) (xs ++ [f]) := hO.up hr (by show _ ≤ (s1.1 15).length; omega)
    rw [if_neg z5] at g3
    refine Inv.mk ?_ (fun b hb => (hB b hb).up hr) (Sh.mkE (xs := x :: xs) (Or.inl rfl) (fun z hz => ?_) g2 (g3.up hr (d' := 1) (by omega)) rfl (fun q => absurd q (by decide)) (fun q => absurd q (by decide))) ?_
    · show IvO (au_up s1) (x :: (xs ++ [f]))
      refine ⟨fun z hz => ?_, ?_, fun q => absurd q hxb, hO1.2.2⟩
      · rcases List.mem_cons.1 hz with e | e
        · rw [e]
          refine ⟨Or.inl ⟨by rcases hx with q | q <;> rw [q] <;> decide, hxl⟩, fun q => ?_⟩
          rcases hx with w | w <;> rw [w] at q <;> exact absurd q (by decide)
        · exact hO1.1 z e
      · unfold Dc
        rw [if_neg hx43.2]
        exact hO1.2.1
    · rcases List.mem_cons.1 hz with e | e
      · rw [e]; exact hex
      · exact g1 z e
    · obtain ⟨q1, q2, q3, q4, q5⟩ := hN
      rw [z1] at q1 q3 q4
      rw [z2] at q4
      have hb := (bend_s ha).1
      have c1 : cc (x :: (xs ++ [f])) = cc (xs ++ [f]) := by
        rw [cc_cons]
        unfold ccF
        rw [if_neg (by simpa using hx43.2)]
        rfl
      have c2 : lc (x :: (xs ++ [f])) = lc (xs ++ [f]) + 1 := by
        rw [lc_cons]
        unfold lcF
        rw [if_pos (by rcases hx with e | e <;> rw [e] <;> rfl)]
      have c3 : dsB 2 (x :: (xs ++ [f])) bl = dsB st (xs ++ [f]) bl := by
        rw [dsB_n z4 h53, dsB_n (by decide) (fun z hz => by
          rcases List.mem_cons.1 hz with e | e
          · rw [e]; exact (isEx_n hex).1
          · exact h53 z e)]
      refine ⟨?_, fun q => absurd q (by decide), ?_, ?_, ?_⟩
      · show (s1.1 7).length + ((xs ++ [f]).length + 1) + 2 * bl.length ≤ 2 * (a + 1) + 0
        omega
      · show 3 * (s1.1 15).length ≤ a + 1 + cc (x :: (xs ++ [f])) + 0
        omega
      · show L + 1 + 0 = bl.length + lc (x :: (xs ++ [f])) + 0
        omega
      · show 8 * (s1.1 9).length + 0 ≤ bend (tks tx) (a + 1) + dsB 2 (x :: (xs ++ [f])) bl
        rw [c3]
        omega
theorem Rel.o35 {st : Int32} (hst : st = 2 ∨ st = 3 ∨ st = 4) (h : Rel tx (s, st, op, bl) a L m 1) (hI : Inv tx (s, st, op, bl) a L) : mf m 35 = nI op.length ∧ op.length < 100 := by
  obtain ⟨hO, hB, hS, hN⟩ := hI.opx hst
  obtain ⟨hL, hR, hM, h7, h33, h34, hE, h32⟩ := h.opx hst
  refine ⟨hM.2.2.2.2.2.2.2.1.1, ?_⟩
  obtain ⟨xs, f, rfl, g1, g2, g3, g4, g5⟩ := Sh.sE hS (by rcases hst with e | e | e <;> rw [e] <;> decide)
  refine op_len hO g1 ?_
  have := hN.2.2.2.1
  rw [show s13 st = 0 from by rcases hst with e | e | e <;> rw [e] <;> rfl, show sPr st = 0 from by rcases hst with e | e | e <;> rw [e] <;> rfl] at this
  have := hL.L8
  omega
/-- a ( -/
theorem goPar {st : Int32} (hst : st = 2 ∨ st = 3) (h : Rel tx (s, st, op, bl) a L m 1) (hI : Inv tx (s, st, op, bl) a L) (ht : Tok tx a m) (ha : a + 1 < (tks tx).length) (hk : tkd (tks tx) a = 28) (hl : L < 8) : Good tx st (au_up s, 2, (41, s.2 2, 0, 0, 0, 0) :: op, bl) a m := by
  have h5 := ht.k hk
  have ha3 := h.a3 ha
  have h14 := h.q14
  have hr0 := h.r0 ha
  obtain ⟨h35, hlen⟩ := h.o35 (hst.elim Or.inl (fun e => Or.inr (Or.inl e))) hI
  refine goUp hst h hI ha hl (Or.inr rfl) (Or.inl rfl) (y := 0) (kw := 26) rfl (by rw [show (s.1 0).getD a 0 = _ from hr0, hk]; rfl) ?_
  unfold f_12043
  rw [if_neg (by rw [h5]; decide), if_neg (by rw [h5]; decide), if_neg (by rw [h5]; decide), if_neg (by rw [h5]; decide), if_neg (by rw [h5]; decide), if_pos (by rw [h5]; rfl), lv_12026 h.q33 hl, bT_eq, if_neg (by decide), MO_e (m := mp m 33 (nI (L + 1))) h35 hlen, bOv_some, MK_e (m := MO 41 0 (mp m 33 (nI (L + 1)))) h14 (by omega), bO_some]
/-- what stands before an operand -/
theorem goUn {st : Int32} (hst : st = 2 ∨ st = 3) (h : Rel tx (s, st, op, bl) a L m 1) (hI : Inv tx (s, st, op, bl) a L) (ht : Tok tx a m) (ha : a + 1 < (tks tx).length) (hl : L < 8) {k w : Int32} (hk : tkd (tks tx) a = k) (hk3 : k = 13 ∨ k = 25 ∨ k = 26) {s1 : Sx} (hs1 : k = 13 ∧ w = 36 ∧ s1 = au_sk 36 s ∨ k ≠ 13 ∧ w = k ∧ s1 = s) :
    Good tx st (au_up s1, 2, (40, w, s.2 2, 0, 0, 0) :: op, bl) a m := by
  have h5 := ht.k hk
  have ha3 := h.a3 ha
  have h14 := h.q14
  have hr0 := h.r0 ha
  have hL : Lv a ((tks tx).length - 1) L s := h.1
  obtain ⟨h35, hlen⟩ := h.o35 (hst.elim Or.inl (fun e => Or.inr (Or.inl e))) hI
  refine goUp hst h hI ha hl (x := (40, w, s.2 2, 0, 0, 0)) (Or.inl rfl) ?_ (y := km k) (kw := km k) ?_ ?_ ?_
  · rcases hs1 with ⟨_, _, e⟩ | ⟨_, _, e⟩
    · exact Or.inr ⟨36, by decide, by decide, e⟩
    · exact Or.inl e
  · show km k = wm w
    rcases hs1 with ⟨e1, e2, _⟩ | ⟨e1, e2, _⟩
    · rw [e1, e2]; rfl
    · rw [e2]
      rcases hk3 with q | q | q
      · exact absurd q e1
      · rw [q]; rfl
      · rw [q]; rfl
  · rcases hs1 with ⟨e1, _, e2⟩ | ⟨e1, _, e2⟩
    · rw [e2, sk_s hL (by omega), e1]; rfl
    · rw [e2, show (s.1 0).getD a 0 = _ from hr0, hk]
      rcases hk3 with q | q | q
      · exact absurd q e1
      · rw [q]; rfl
      · rw [q]; rfl
  · have hJ : f_12043_J171 m = some (MK (km k) 2 (MO 40 (km k) (mp m 33 (nI (L + 1)))), 1) := by
      unfold f_12043_J171
      have g5 : mf (mp m 33 (nI (L + 1))) 5 = km k := h5
      rw [lv_12026 h.q33 hl, bT_eq, if_neg (by decide), g5, MO_e (m := mp m 33 (nI (L + 1))) h35 hlen, bOv_some]
      rw [show mf (MO 40 (km k) (mp m 33 (nI (L + 1)))) 5 = km k from h5, MK_e (m := MO 40 (km k) (mp m 33 (nI (L + 1)))) h14 (by omega), bO_some]
    rw [← hJ]
    unfold f_12043
    rcases hk3 with q | q | q
    · rw [q] at h5
      rw [if_neg (by rw [h5]; decide), if_neg (by rw [h5]; decide), if_neg (by rw [h5]; decide), if_pos (by rw [h5]; rfl)]
    · rw [q] at h5
      rw [if_neg (by rw [h5]; decide), if_neg (by rw [h5]; decide), if_neg (by rw [h5]; decide), if_neg (by rw [h5]; decide), if_pos (by rw [h5]; rfl)]
    · rw [q] at h5
      rw [if_neg (by rw [h5]; decide), if_neg (by rw [h5]; decide), if_neg (by rw [h5]; decide), if_neg (by rw [h5]; decide), if_neg (by rw [h5]; decide), if_neg (by rw [h5]; decide), if_neg (by rw [h5]; decide), if_pos (by rw [h5]; rfl)]
end OPD
