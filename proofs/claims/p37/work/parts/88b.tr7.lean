/-! acts: the name of a def -/
section DN
variable {tx : List Int32} {s : Sx} {op bl : List Ae} {a L : Nat} {m : Mx}
theorem mf_ms {m : Mx} {j f : Nat} {i x : Int32} (h : j ≠ 0) : mf (ms m j i x) f = mf m f := by
  show ms m j i x 0 f = m 0 f
  rw [ms_j (fun e => h e.symm)]
theorem mf_mp {m : Mx} {g f : Nat} {x : Int32} (h : f ≠ g) : mf (mp m g x) f = mf m f := mp_n h
theorem mf_MA {m : Mx} {w x : Int32} {f : Nat} (h : f ≠ 11) : mf (MA w x m) f = mf m f := by
  unfold MA
  rw [mf_mp h, mf_ms (by decide), mf_ms (by decide)]
def MD (nd c : Nat) (p z : Int32) (m : Mx) : Mx := MK 3 9 (ms (mp (mp (ms (ms (MA 14 0 (ms (ms (ms m 12 (nI nd) p) 13 (nI nd) z) 14 (nI nd) 0)) 24 0 (nI c)) 15 (nI nd) (nI (c + 1))) 22 (nI (nd + 1))) 34 1) 9 1 0)
theorem MD_e {nd c P : Nat} {z : Int32} (h5 : mf m 5 = 2) (h30 : f_12030 (mf m 6) (mf m 7 - mf m 6) m = some (-1)) (h22 : mf m 22 = nI nd) (hnd : nd < 40) (h11 : mf m 11 = nI c) (hc : c < 600) (h6 : mf m 6 = nI P) (hz : mf m 7 - mf m 6 = z) (h14 : mf m 14 = nI a) (ha : a < 301) :
    f_12049 m = some (MD nd c (nI P) z m, 1) := by
  have v : vi (nI nd) 40 := vi_n (by omega) (by omega)
  unfold f_12049
  rw [if_pos h5, h30, bP_some, if_pos rfl, h22, gd_e v, bS_eq]
  simp only [mf_ms (j := 12) (show (12 : Nat) ≠ 0 by decide)]
  rw [h22, gd_e v, bS_eq, hz, h6]
  simp only [mf_ms (j := 13) (show (13 : Nat) ≠ 0 by decide), mf_ms (j := 12) (show (12 : Nat) ≠ 0 by decide)]
  rw [h22, gd_e v, bS_eq]
  generalize hm3 : ms (ms (ms m 12 (nI nd) (nI P)) 13 (nI nd) z) 14 (nI nd) 0 = m3
  have k : ∀ f, mf m3 f = mf m f := fun f => by
    rw [← hm3, mf_ms (by decide), mf_ms (by decide), mf_ms (by decide)]
  rw [MA_e (m := m3) ((k 11).trans h11) (by omega), bO_some, gd_e (by decide), bS_eq, mf_ms (by decide), mf_MA (by decide), k, h22, gd_e v, bS_eq]
  have g11 : mf (ms (MA 14 0 m3) 24 0 (nI c)) 11 = nI (c + 1) := by
    rw [mf_ms (by decide)]
    unfold MA
    show mp _ 11 _ 0 11 = _
    rw [mp_s, k, h11, nI_1]
  rw [g11, mf_ms (by decide), mf_ms (by decide), mf_MA (by decide), k, h22, nI_1, bS_eq, bS_eq, gd_e (by decide), bS_eq, bO_id]
  have g14 : mf (ms (mp (mp (ms (ms (MA 14 0 m3) 24 0 (nI c)) 15 (nI nd) (nI (c + 1))) 22 (nI (nd + 1))) 34 1) 9 1 0) 14 = nI a := by
    rw [mf_ms (by decide), mf_mp (by decide), mf_mp (by decide), mf_ms (by decide), mf_ms (by decide), mf_MA (by decide), k]
    exact h14
  rw [MK_e g14 ha]
  unfold MD
  rw [hm3]
theorem MD_f {nd c : Nat} {p z : Int32} (hnd : nd < 40) : MD nd c p z m 24 0 = nI c ∧ MD nd c p z m 14 nd = 0 ∧ MD nd c p z m 15 nd = nI (c + 1) := by
  unfold MD MK
  refine ⟨?_, ?_, ?_⟩
  · rw [mp_j (by decide), mp_j (by decide), ms_j (by decide), ms_j (by decide), mp_j (by decide), mp_j (by decide), ms_j (by decide), show (0 : Int32) = nI 0 from rfl, ms_s (by omega)]
    exact if_pos rfl
  · rw [mp_j (by decide), mp_j (by decide), ms_j (by decide), ms_j (by decide), mp_j (by decide), mp_j (by decide), ms_j (by decide), ms_j (by decide)]
    unfold MA
    rw [mp_j (by decide), ms_j (by decide), ms_j (by decide), ms_s (by omega)]
    exact if_pos rfl
  · rw [mp_j (by decide), mp_j (by decide), ms_j (by decide), ms_j (by decide), mp_j (by decide), mp_j (by decide), ms_s (by omega)]
    exact if_pos rfl
theorem RR.cs {T : List Tk} {mo : List Ae} {oe oc : Nat → Prop} {pd : Nat} {s' : Sx} (h : RR T tx s a mo bl oe oc pd m) (e0 : s'.1 0 = s.1 0) (e1 : s'.1 1 = s.1 1) (e5 : s'.1 5 = s.1 5) (e6 : s'.1 6 = s.1 6) (e7 : s'.1 7 = s.1 7) (e8 : s'.1 8 = s.1 8) (e9 : s'.1 9 = s.1 9) (e10 : s'.1 10 = s.1 10) (e12 : s'.1 12 = s.1 12) (e13 : s'.1 13 = s.1 13) (e14 : s'.1 14 = s.1 14) (e15 : s'.1 15 = s.1 15) (e16 : s'.1 16 = s.1 16) (e17 : s'.1 17 = s.1 17) : RR T tx s' a mo bl oe oc pd m := by
  unfold RR
  rw [e0, e1, e5, e6, e7, e8, e9, e10, e12, e13, e14, e15, e16, e17]
  exact h
/-- what lies above the defs -/
theorem RR.dw {T : List Tk} {mo : List Ae} {oe oc : Nat → Prop} {nd j : Nat} {x : Int32} (h : RR T tx s a mo bl oe oc 0 m) (hnd : (s.1 9).length = nd) (hn : nd < 1000) (hj : j = 12 ∨ j = 13 ∨ j = 14 ∨ j = 15) : RR T tx s a mo bl oe oc 0 (ms m j (nI nd) x) := by
  obtain ⟨g1, g2, g3, g4, g5, ⟨q1, q2, q3, q4, q5, q6⟩, g7⟩ := h
  have w : ∀ k, k < nd → ms m j (nI nd) x j k = m j k := fun k hk => by
    rw [ms_s (by omega)]
    exact if_neg (by omega)
  rcases hj with e | e | e | e
  all_goals subst e
  · refine ⟨g1, g2, g3, g4, g5, ⟨q1, q2, q3, q4, fun k hk => ?_, q6⟩, g7⟩
    rw [w k (by omega)]
    exact q5 k hk
  · refine ⟨g1, g2, g3, g4, g5, ⟨q1, q2, q3, q4, fun k hk => ?_, q6⟩, g7⟩
    rw [w k (by omega)]
    exact q5 k hk
  · refine ⟨g1, g2, g3, g4, g5, ⟨q1, q2, q3, q4, q5, fun k hk => ?_⟩, g7⟩
    rw [w k (by omega)]
    exact q6 k hk
  · refine ⟨g1, g2, g3, g4, g5, ⟨q1, q2, q3, q4, q5, fun k hk => ?_⟩, g7⟩
    rw [w k (by omega)]
    exact q6 k hk
theorem RR.d22 {mo : List Ae} {oe oc : Nat → Prop} {nd i : Nat} (h : RR (tks tx) tx s a mo bl oe oc 0 m) (hnd : (s.1 9).length = nd) (hn : nd < 40) (hj : i + 1 < (tks tx).length) (h4 : tkd (tks tx) i = 4) (hv : tvl (tks tx) i ∉ s.1 9) (h12 : m 12 nd = nI (tpl (tks tx) i)) (h13 : m 13 nd = nI (ten (tks tx) i - tpl (tks tx) i)) :
    RR (tks tx) tx (f_4010 (tvl (tks tx) i) s).1 a mo bl oe oc 1 (mp m 22 (nI (nd + 1))) := by
  obtain ⟨g1, g2, g3, g4, g5, ⟨q1, q2, q3, q4, q5, q6⟩, g7⟩ := h
  have e9 : (f_4010 (tvl (tks tx) i) s).1.1 9 = s.1 9 ++ [tvl (tks tx) i] := by
    show xadd 75 (s.1 9) _ = _
    exact xadd_e (by omega)
  have e10 : (f_4010 (tvl (tks tx) i) s).1.1 10 = s.1 10 ++ [0] := by
    show xadd 75 (s.1 10) _ = _
    exact xadd_e (by omega)
  have e12 : (f_4010 (tvl (tks tx) i) s).1.1 12 = s.1 12 ++ [0] := by
    show xadd 75 (s.1 12) _ = _
    exact xadd_e (by omega)
  have l1 : ∀ y : Int32, [y].length = 1 := fun _ => rfl
  have hQ : Qd (tks tx) (nI (nd + 1)) (m 12) (m 13) (m 14) (m 15) (s.1 9 ++ [tvl (tks tx) i]) (s.1 10 ++ [0]) (s.1 12 ++ [0]) 1 := by
    refine ⟨?_, ?_, ?_, nodup_app q4 hv, fun k hk => ?_, fun k hk => ?_⟩
    · rw [List.length_append, hnd, l1]
    · rw [List.length_append, List.length_append, q2, l1, l1]
    · rw [List.length_append, List.length_append, q3, l1, l1]
    · rw [List.length_append, l1] at hk
      rw [gD_n hnd]
      by_cases e : k = nd
      · rw [if_pos e, e]
        exact ⟨i, hj, h4, h12, h13, rfl⟩
      · rw [if_neg e]
        exact q5 k (by omega)
    · rw [List.length_append, l1] at hk
      rw [gD_app_l (by omega), gD_app_l (by omega)]
      exact q6 k (by omega)
  unfold RR
  rw [e9, e10, e12, mp_s]
  exact ⟨g1, g2, g3, g4, g5, hQ, g7⟩
/-- the name of a def -/
theorem go8 (h : Rel tx (s, 8, op, bl) a L m 1) (hI : Inv tx (s, 8, op, bl) a L) (ht : Tok tx a m) (ha : a + 1 < (tks tx).length) (hk : tkd (tks tx) a = 4) (hx : xpos (s.1 9) (tvl (tks tx) a) = -1) : ∃ e, op = [e] ∧
    Good tx 8 (sB (au_cd 13 0 (au_nx (au_sk 35 (f_4010 (tvl (tks tx) a) s).1))) 14 [], 9, [(53, e.2.1, e.2.2.1, au_cn (au_cd 13 0 (au_nx (au_sk 35 (f_4010 (tvl (tks tx) a) s).1))), (f_4010 (tvl (tks tx) a) s).2, 0)], bl) a m := by
  obtain ⟨hO, hB, hS, hN⟩ := hI
  have hS2 : Sh tx s 8 op bl a := hS
  obtain ⟨hbl, f, hop, e1, e2, e3, e4, e5⟩ := Sh.sP hS2 (by decide)
  subst hbl
  subst hop
  refine ⟨f, rfl, ?_⟩
  have h5 := ht.k hk
  have h14 := h.q14
  have ha3 := h.a3 ha
  have hr0 := h.r0 ha
  have hL' : Lv a ((tks tx).length - 1) L s := h.1
  have hR' : Raw tx s a := h.2.1
  have tj := tks_at ha
  obtain ⟨hL, hR, hM, h7, ⟨_, h33, h34⟩, hE⟩ := h
  have hE' : Ex 8 [f] [] a s m := hE
  have hM' : RR (tks tx) tx s a [] [] (oeP [f] []) (ocP [f]) 0 m := hM
  have hN' : Nm tx s 8 [f] [] a L := hN
  have hae : a < (tks tx).length - 1 := by omega
  obtain ⟨q1, q2, q3, q4, q5⟩ := hN'
  rw [show s13 8 = 0 from rfl] at q1 q3 q4
  rw [show sPr 8 = 0 from rfl, (cc53 e1).2] at q4
  rw [show dsA 8 = 3 from rfl, show dsB 8 [f] [] = 0 from rfl] at q5
  have hL0 : L = 0 := by simpa using q4
  have hx300 : tx.length ≤ 300 := hM'.1.1.1
  have hbnd := bend_s ha
  have hQd := hM'.2.2.2.2.2.1
  have hnd40 : (s.1 9).length < 40 := by omega
  have hc6 : (s.1 7).length < 600 := by
    have q1' : (s.1 7).length + 1 + 2 * 0 ≤ 2 * a + 0 := q1
    omega
  have hvn : tvl (tks tx) a ∉ s.1 9 := (xpos_m1 (by omega)).1 hx
  have h22 : mf m 22 = nI (s.1 9).length := hQd.1
  have h11 : mf m 11 = nI (s.1 7).length := hM'.2.1.1
  have hsub : mf m 7 - mf m 6 = nI (ten (tks tx) a - tpl (tks tx) a) := by
    rw [show mf m 6 = _ from ht.2.1, show mf m 7 = nI (ten (tks tx) a) from h7]
    have : nI (ten (tks tx) a) = nI (ten (tks tx) a - tpl (tks tx) a) + nI (tpl (tks tx) a) := by rw [nI_add]; congr 1; omega
    rw [this, Int32.add_sub_cancel]
  have h30 : f_12030 (mf m 6) (mf m 7 - mf m 6) m = some (-1) := by
    rw [hsub, show mf m 6 = _ from ht.2.1, def_12030 hM'.1.1 (by omega) hQd.2.2.2.1 hQd.2.2.2.2.1 h22 ha hk, hx]
  have hacc : mAcc 8 m = some (MD (s.1 9).length (s.1 7).length (nI (tpl (tks tx) a)) (nI (ten (tks tx) a - tpl (tks tx) a)) m, 1) := by
    rw [mAcc_8]
    exact MD_e (by rw [h5]; rfl) h30 h22 hnd40 h11 hc6 ht.2.1 hsub h14 (by omega)
  -- the state, step by step
  have c7 : ((au_cd 13 0 s).1 7).length = (s.1 7).length + 1 := len_cd hc6
  have hA := ((hM'.dw (j := 12) (x := nI (tpl (tks tx) a)) rfl (by omega) (Or.inl rfl)).dw (j := 13) (x := nI (ten (tks tx) a - tpl (tks tx) a)) rfl (by omega) (Or.inr (Or.inl rfl))).dw (j := 14) (x := 0) rfl (by omega) (Or.inr (Or.inr (Or.inl rfl)))
  have hB1 := (((hA.cd (c := 13) (x := 0) (w := 14) (y := 0) hc6 rfl rfl).bw (j := 24) (x := nI (s.1 7).length) (Or.inr (Or.inr (Or.inl rfl))) (by decide)).dw (nd := (s.1 9).length) (j := 15) (x := nI ((s.1 7).length + 1)) rfl (by omega) (Or.inr (Or.inr (Or.inr rfl))))
  have hC := hB1.d22 (i := a) (nd := (s.1 9).length) rfl hnd40 ha hk hvn (by
    rw [ms_j (by decide), ms_j (by decide)]
    unfold MA
    rw [mp_j (by decide), ms_j (by decide), ms_j (by decide), ms_j (by decide), ms_j (by decide), ms_s (by omega)]
    exact if_pos rfl) (by
    rw [ms_j (by decide), ms_j (by decide)]
    unfold MA
    rw [mp_j (by decide), ms_j (by decide), ms_j (by decide), ms_j (by decide), ms_s (by omega)]
    exact if_pos rfl)
  have hD := (hC.f (f := 34) (x := 1) (by decide)).nil14
  have hLc : Lv a ((tks tx).length - 1) L (sB (f_4010 (tvl (tks tx) a) (au_cd 13 0 s)).1 14 []) := hL'.co (s' := sB (f_4010 (tvl (tks tx) a) (au_cd 13 0 s)).1 14 []) ⟨rfl, fun _ _ => rfl⟩
  have h35' : ((au_sk 35 (sB (f_4010 (tvl (tks tx) a) (au_cd 13 0 s)).1 14 [])).1 0).getD a 0 = 35 := sk_s hLc hae
  have hR2 := ((hD.sk (x := 35) hLc.2.1 (by omega)).nx (w := 3) (st := 9) (by omega) (by rw [h35']; rfl)).cs (s' := sB (au_cd 13 0 (au_nx (au_sk 35 (f_4010 (tvl (tks tx) a) s).1))) 14 []) rfl rfl rfl rfl rfl rfl rfl rfl rfl rfl rfl rfl rfl rfl
  generalize hs1 : (f_4010 (tvl (tks tx) a) s).1 = s1 at *
  have i1 : s1.2 = s.2 := by rw [← hs1]; rfl
  have r0s : s1.1 0 = s.1 0 := by rw [← hs1]; rfl
  have r1s : s1.1 1 = s.1 1 := by rw [← hs1]; rfl
  have r5s : s1.1 5 = s.1 5 := by rw [← hs1]; rfl
  have r7s : s1.1 7 = s.1 7 := by rw [← hs1]; rfl
  have r15s : s1.1 15 = s.1 15 := by rw [← hs1]; rfl
  have r9s : s1.1 9 = s.1 9 ++ [tvl (tks tx) a] := by
    rw [← hs1]
    show xadd 75 (s.1 9) _ = _
    exact xadd_e (by omega)
  have hd : (f_4010 (tvl (tks tx) a) s).2 = nI (s.1 9).length := by
    show nI (xadd 75 (s.1 9) (tvl (tks tx) a)).length - 1 = _
    rw [xadd_e (by omega), List.length_append, show [tvl (tks tx) a].length = 1 from rfl, nI_pred]
  rw [hd]
  have hL1 : Lv a ((tks tx).length - 1) L s1 := by
    have co : Co s s1 := by rw [← hs1]; exact ⟨rfl, fun _ _ => rfl⟩
    exact hL'.co co
  have hcn : au_cn (au_cd 13 0 (au_nx (au_sk 35 s1))) = nI (s.1 7).length := by
    have e7 : (au_cd 13 0 (au_nx (au_sk 35 s1))).1 7 = s.1 7 ++ [13] := by
      have : (au_nx (au_sk 35 s1)).1 7 = s.1 7 := r7s
      show xadd 600 ((au_nx (au_sk 35 s1)).1 7) 13 = _
      rw [this]
      exact xadd_e hc6
    unfold au_cn
    rw [e7, List.length_append, show [(13 : Int32)].length = 1 from rfl, nI_pred]
  rw [hcn]
  have h35 : ((au_sk 35 s1).1 0).getD a 0 = 35 := sk_s hL1 hae
  have hLn : Lv (a + 1) ((tks tx).length - 1) L (sB (au_cd 13 0 (au_nx (au_sk 35 s1))) 14 []) := (((hL1.sk (x := 35) hae (by decide)).nx hae).co Co_cd).co (Co_sB (by decide))
  have hcdl : ((au_cd 13 0 (au_nx (au_sk 35 s1))).1 7).length = (s.1 7).length + 1 := by
    rw [len_cd (s := au_nx (au_sk 35 s1)) (by show (s1.1 7).length < 600; rw [r7s]; exact hc6)]
    show (s1.1 7).length + 1 = _
    rw [r7s]
  refine ⟨MD (s.1 9).length (s.1 7).length (nI (tpl (tks tx) a)) (nI (ten (tks tx) a - tpl (tks tx) a)) m, L, hacc, ?_, ?_⟩
  · refine Rel.mk hLn ?_ ?_ h7 (by unfold MD MK; rw [mp_s]) (by show m 0 33 = s1.2 4; rw [i1]; exact h33) ?_ ?_
    · refine hR'.nx (fun i hi => ?_) (fun i hi => ?_) ?_
      · show ((au_sk 35 s1).1 0).getD i 0 = _
        rw [sk_n hL1 (by omega), r0s]
      · show (s1.1 1).getD i 0 = _
        rw [r1s]
      · show (s1.1 1).length = _
        rw [r1s]
    · refine RR.oew (oe := oeP [f] []) ?_ (fun j hj => ?_)
      · refine RR.ocw (oc := ocP [f]) ?_ (fun j hj => ?_)
        · exact hR2
        · obtain ⟨_, x, hx, q, _⟩ := hj
          rw [List.mem_singleton.1 hx, e1] at q
          exact absurd q (by decide)
      · obtain ⟨j1, ⟨x, hx, _, hx2⟩ | ⟨b, hb, _⟩⟩ := hj
        · rw [List.mem_singleton.1 hx] at hx2
          exact ⟨j1, Or.inl ⟨_, List.mem_singleton.2 rfl, by show (43 : Int32) ≤ 53; decide, hx2⟩⟩
        · cases hb
    · rfl
    · refine Ex.mkP rfl (hE'.1 [] f rfl (by rw [e1]; decide) (by rw [e1]; decide)) (fun _ => ⟨?_, by omega, fun q => absurd q (by decide)⟩) (fun _ => ⟨?_, ?_, ?_⟩)
      · exact (MD_f hnd40).1
      · show 0 < (s1.1 9).length
        rw [r9s, List.length_append]
        exact Nat.succ_pos _
      · show MD _ _ _ _ m 14 ((s1.1 9).length - 1) = nI ([] : List Int32).length
        rw [r9s, List.length_append, show [tvl (tks tx) a].length = 1 from rfl, Nat.add_sub_cancel, (MD_f hnd40).2.1]
        rfl
      · show MD _ _ _ _ m 15 ((s1.1 9).length - 1) = nI ((au_cd 13 0 (au_nx (au_sk 35 s1))).1 7).length
        rw [r9s, List.length_append, show [tvl (tks tx) a].length = 1 from rfl, Nat.add_sub_cancel, (MD_f hnd40).2.2, hcdl]
  · have hf0 : (s.1 0).getD a 0 = 4 := hr0.trans hk
    obtain ⟨t, ft1, ft2, ft3⟩ := e2.2
    obtain ⟨ti, fi1, fi2, fi3⟩ := e3
    have hti : ti = t := (nI_eq (by omega) (by omega)).1 (fi1.symm.trans ft1)
    rw [if_pos rfl] at ft2
    have h7n : (sB (au_cd 13 0 (au_nx (au_sk 35 s1))) 14 []).1 7 = s.1 7 ++ [13] := by
      show xadd 600 (s1.1 7) 13 = _
      rw [r7s]
      exact xadd_e hc6
    refine Inv.mk IvO.nil (fun b hb => by cases hb) (Sh.mkP (d := 2) (Or.inr (Or.inr (Or.inl rfl))) rfl ⟨?_, t, ft1, by omega, ?_⟩ rfl ⟨ti, fi1, fi2, ?_⟩ (fun _ => ⟨(s.1 7).length, rfl, ?_, ?_⟩) (fun _ => ⟨(s.1 9).length, rfl, ?_⟩)) ?_
    · obtain ⟨p, p1, p2⟩ := e2.1
      exact ⟨p, p1, by show p < (s1.1 5).length; rw [r5s]; exact p2⟩
    · show 3 * (s1.1 5).length ≤ t + 3
      rw [r5s]
      exact ft3
    · show ((au_sk 35 s1).1 0).getD ti 0 ≠ 35 ∧ ((au_sk 35 s1).1 0).getD ti 0 ≠ 4
      rw [sk_n hL1 (by omega), r0s]
      exact fi3
    · rw [h7n, List.length_append]
      exact Nat.lt_succ_self _
    · rw [h7n, gD_app_r]
      decide
    · show (s.1 9).length + 1 = (s1.1 9).length
      rw [r9s, List.length_append]
      rfl
    · have c1 := (cc53 (f := (53, f.2.1, f.2.2.1, nI (s.1 7).length, nI (s.1 9).length, 0)) rfl).1
      have c2 := (cc53 (f := (53, f.2.1, f.2.2.1, nI (s.1 7).length, nI (s.1 9).length, 0)) rfl).2
      have c3 := (cc53 e1).1
      refine ⟨?_, fun e => absurd e (by decide), ?_, ?_, ?_⟩
      · rw [h7n, List.length_append]
        show (s.1 7).length + 1 + 1 + 2 * 0 ≤ 2 * (a + 1) + 0
        have q1' : (s.1 7).length + 1 + 2 * 0 ≤ 2 * a + 0 := q1
        omega
      · show 3 * (s1.1 15).length ≤ a + 1 + cc _ + 0
        rw [r15s, c1]
        omega
      · show L + 0 = 0 + lc _ + 0
        rw [c2, hL0]
      · show 8 * (s1.1 9).length + 0 ≤ bend (tks tx) (a + 1) + 4
        rw [r9s, List.length_append, show [tvl (tks tx) a].length = 1 from rfl]
        omega
end DN
