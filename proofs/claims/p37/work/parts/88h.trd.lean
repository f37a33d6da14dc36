/-! acts: names begin statements -/
section S0N
variable {tx : List Int32} {s : Sx} {op bl : List Ae} {a L : Nat} {m : Mx}
theorem sB_id {k : Nat} : sB s k (s.1 k) = s := by
  have : (fun j => if j = k then s.1 k else s.1 j) = s.1 := by
    funext j
    by_cases e : j = k
    · rw [if_pos e, e]
    · rw [if_neg e]
  show (fun j => if j = k then s.1 k else s.1 j, s.2) = s
  rw [this]
def vrv (x : Nat) (s : Sx) : Int32 := if xpos (s.1 x) (xg (s.1 1) (s.2 2)) = -1 then nI (s.1 x).length else xpos (s.1 x) (xg (s.1 1) (s.2 2))
def vrr (x : Nat) (s : Sx) : List Int32 := if xpos (s.1 x) (xg (s.1 1) (s.2 2)) = -1 then xadd (ev_cap x) (s.1 x) (xg (s.1 1) (s.2 2)) else s.1 x
theorem f5022_v {x : Nat} (hn : ¬ (xpos (s.1 x) (xg (s.1 1) (s.2 2)) = -1 ∧ ¬ nI (s.1 x).length < 8)) : f_5022 x s = (au_nx (au_sv (s.2 2) (vrv x s) (au_sk 34 (sB s x (vrr x s)))), vrv x s) := by
  unfold f_5022 vrv vrr
  by_cases q : xpos (s.1 x) (xg (s.1 1) (s.2 2)) = -1
  · have h8 : nI (s.1 x).length < 8 := Classical.byContradiction fun w => hn ⟨q, w⟩
    simp only [if_pos q]
    rw [if_pos h8]
    rfl
  · simp only [if_neg q]
    rw [sB_id]
    rfl
theorem vr_bp {x : Nat} (hx : x = 13 ∨ x = 14) : vrv x (au_cd 0 0 (au_bp s)) = vrv x s ∧ vrr x (au_cd 0 0 (au_bp s)) = vrr x s := by
  rcases hx with rfl | rfl <;> exact ⟨rfl, rfl⟩
theorem n5004 (s : Sx) : f_5004 s = 13 ∨ f_5004 s = 14 := by
  unfold f_5004
  split
  · exact Or.inl rfl
  · exact Or.inr rfl
/-- a variable: the name is known, or there is a place; told by rows -/
theorem var_rr {oe oc : Nat → Prop} {mo : List Ae} (hL : Lv a ((tks tx).length - 1) L s) (hR : Raw tx s a) (hM : RR (tks tx) tx s a mo bl oe oc 0 m) (h7 : m 0 7 = nI (bend (tks tx) (a + 1))) (h34 : m 0 34 = s.2 5) (ht : Tok tx a m) (ha : a + 1 < (tks tx).length) (hk : tkd (tks tx) a = 4) :
    (¬ (xpos (s.1 (f_5004 s)) (xg (s.1 1) (s.2 2)) = -1 ∧ ¬ nI (s.1 (f_5004 s)).length < 8) → ∃ m1, f_12029 m = some (m1, vrv (f_5004 s) s) ∧ RR (tks tx) tx (sB s (f_5004 s) (vrr (f_5004 s) s)) a mo bl oe oc 0 m1 ∧ (∀ j, j ≠ 9 → j ≠ 10 → j ≠ 11 → m1 j = m j) ∧ vrv (f_5004 s) s ≠ -1) ∧
    (xpos (s.1 (f_5004 s)) (xg (s.1 1) (s.2 2)) = -1 ∧ ¬ nI (s.1 (f_5004 s)).length < 8 → f_12029 m = some (m, -1)) := by
  have hval := hR.vl hL (by omega)
  have h5 : s.2 5 = 0 ∨ s.2 5 = 1 := hL.2.2.2.2.2.2.2.2.2.2
  have ho : ∃ o, o ≤ 1 ∧ s.2 5 = nI o ∧ f_5004 s = 13 + o := by
    rcases h5 with e | e
    · exact ⟨0, by omega, e, by unfold f_5004; rw [if_pos e]⟩
    · exact ⟨1, by omega, e, by unfold f_5004; rw [if_neg (by rw [e]; decide)]⟩
  obtain ⟨o, ho1, ho2, ho3⟩ := ho
  obtain ⟨v1, v2, v3, v4⟩ := var_12029 hM (o := o) ho1 (by show m 0 34 = _; rw [h34, ho2]) ht.2.1 h7 ha hk
  rw [ho3]
  unfold vrv vrr
  rw [hval]
  have h8 : (s.1 (13 + o)).length ≤ 8 := by
    have := hM.2.2.2.1
    rcases (by omega : o = 0 ∨ o = 1) with e | e <;> subst e
    · exact this.2.2.1
    · exact this.2.2.2.1
  have h8i : nI (s.1 (13 + o)).length < 8 ↔ (s.1 (13 + o)).length < 8 := ⟨fun e => Classical.byContradiction fun q => by
    have e8 : (s.1 (13 + o)).length = 8 := by omega
    rw [e8] at e
    exact absurd e (by decide), fun e => nI_lt (b := 8) e (by decide)⟩
  refine ⟨fun hn => ?_, fun hy => v2 hy.1 (fun q => hy.2 (h8i.2 q))⟩
  by_cases q : xpos (s.1 (13 + o)) (tvl (tks tx) a) = -1
  · have hl8 : (s.1 (13 + o)).length < 8 := h8i.1 (Classical.byContradiction fun w => hn ⟨q, w⟩)
    obtain ⟨m1, w1, w2, w3⟩ := v3 q hl8
    simp only [if_pos q]
    rw [show xadd (ev_cap (13 + o)) (s.1 (13 + o)) (tvl (tks tx) a) = s.1 (13 + o) ++ [tvl (tks tx) a] from by
        rcases (by omega : o = 0 ∨ o = 1) with e | e <;> subst e <;> exact xadd_e hl8]
    refine ⟨m1, w1, w2, w3, ?_⟩
    intro e
    have h0 : (0 : Int32) ≤ nI (s.1 (13 + o)).length := nI_pos' (by omega)
    rw [e] at h0
    exact absurd h0 (by decide)
  · simp only [if_neg q]
    rw [sB_id]
    exact ⟨m, v1 q, hM, fun _ _ _ _ => rfl, q⟩
/-- a fault -/
def Fb (x : Option (Mx × Int32)) (m : Mx) (f : Int32) : Prop := ∃ m2, x = some (mp (mp m2 9 f) 10 (mf m2 6), 0) ∧ mf m2 6 = mf m 6
theorem Fb.bad {st f : Int32} (h : Fb (mAcc st m) m f) (ht : Tok tx a m) (hk : ¬ (tkd (tks tx) a = 1 ∨ tkd (tks tx) a = 2)) (hs : mf m 32 = st) : Bad tx a f m := by
  obtain ⟨m2, e1, e2⟩ := h
  exact Bad.at ht hk hs e1 e2
theorem Fb.i {k : Int32} : Fb (bT (f_12020 k m) fun s r => some (s, r)) m k := ⟨m, rfl, rfl⟩
/-- a variable is to be set -/
theorem sVar (h : S0 tx s bl a L m) (ht : Tok tx a m) (ha : a + 1 < (tks tx).length) (hk : tkd (tks tx) a = 4) (hk1 : tkd (tks tx) (a + 1) ≠ 28) :
    (¬ (xpos (s.1 (f_5004 s)) (xg (s.1 1) (s.2 2)) = -1 ∧ ¬ nI (s.1 (f_5004 s)).length < 8) → Go (f_12042 m) tx ((f_5022 (f_5004 s) (au_cd 0 0 (au_bp s))).1, 5, [(43, au_pn (au_bp s), s.2 2, (f_5022 (f_5004 s) (au_cd 0 0 (au_bp s))).2, 0, 0)], bl) a) ∧
    (xpos (s.1 (f_5004 s)) (xg (s.1 1) (s.2 2)) = -1 ∧ ¬ nI (s.1 (f_5004 s)).length < 8 → Fb (f_12042 m) m 5) := by
  have h5 := ht.k hk
  obtain ⟨ha3, hc, hb, h5'⟩ := h.b ha
  obtain ⟨⟨hL, hR, hM⟩, ⟨h7, h33, h34⟩, hB, hp, q1, q2, q3, q4, q5⟩ := h
  obtain ⟨w1, w2⟩ := var_rr hL hR hM h7 h34 ht ha hk
  have hop : f_12014 m = some 0 := by
    rw [opb_a hM.1.1 h7 ha, if_neg hk1]
  have hf : f_12042 m = f_12041 m := by
    unfold f_12042
    rw [if_neg (by rw [h5]; decide), if_neg (by rw [h5]; decide), if_pos (by rw [h5]; rfl)]
    rw [bO_id]
  refine ⟨fun hn => ?_, fun hy => ?_⟩
  · obtain ⟨m1, x1, x2, x3, x4⟩ := w1 hn
    have hx := n5004 s
    have hst : stF (43 : Int32) := by decide
    generalize hxe : f_5004 s = x at *
    have hx0 : x ≠ 0 := by omega
    have hn2 : ¬ (xpos ((au_cd 0 0 (au_bp s)).1 x) (xg ((au_cd 0 0 (au_bp s)).1 1) ((au_cd 0 0 (au_bp s)).2 2)) = -1 ∧ ¬ nI ((au_cd 0 0 (au_bp s)).1 x).length < 8) := by
      rcases hx with rfl | rfl <;> exact hn
    have hv2 := vr_bp (s := s) hx
    rw [f5022_v hn2, hv2.1, hv2.2]
    generalize hv : vrv x s = v at *
    generalize hr : vrr x s = r at *
    dsimp only
    have hae : a < (tks tx).length - 1 := by omega
    have hL1 : Lv a ((tks tx).length - 1) L (sB s x r) := hL.co (Co_sB hx0)
    have r5 : (sB s x r).1 5 = s.1 5 := by rcases hx with rfl | rfl <;> rfl
    have r7 : (sB s x r).1 7 = s.1 7 := by rcases hx with rfl | rfl <;> rfl
    have hpn : au_pn (au_bp s) = nI (s.1 5).length := pn_e (by omega)
    obtain ⟨z1, z2, z3, z4⟩ := beg (k := 43) (m := m1) (s := sB s x r) (x := (43, au_pn (au_bp s), s.2 2, v, 0, 0)) (y := v) rfl hL1 x2 ha3 (by rw [r5]; exact hp) (by rw [r7]; exact hc) hb hst (by
      unfold odm
      rw [if_neg (by show ¬ (43 : Int32) = 40; decide), if_neg (by show ¬ (43 : Int32) = 42; decide), if_pos rfl]) (by rw [r5]; exact hpn) (fun q => absurd (show (43 : Int32) = 47 from q) (by decide))
    have hL2 : Lv a ((tks tx).length - 1) L (au_cd 0 0 (au_bp (sB s x r))) := hL1.co (Co_bp.tr Co_cd)
    have hL3 : Lv a ((tks tx).length - 1) L (sB (au_cd 0 0 (au_bp s)) x r) := (hL.co (Co_bp.tr Co_cd)).co (Co_sB hx0)
    have hR3 : Raw tx (sB (au_cd 0 0 (au_bp s)) x r) a := by
      rcases hx with rfl | rfl <;> exact hR
    have hM2 : RR (tks tx) tx (au_nx (au_sv (s.2 2) v (au_sk 34 (au_cd 0 0 (au_bp (sB s x r)))))) (a + 1) [(43, au_pn (au_bp s), s.2 2, v, 0, 0)] bl (oeP [(43, au_pn (au_bp s), s.2 2, v, 0, 0)] bl) (fun _ => False) 0 (MK 2 5 (MB 43 v m1)) := z2.var hL2 hae
    have hM3 : RR (tks tx) tx (au_nx (au_sv (s.2 2) v (au_sk 34 (sB (au_cd 0 0 (au_bp s)) x r)))) (a + 1) [(43, au_pn (au_bp s), s.2 2, v, 0, 0)] bl (oeP [(43, au_pn (au_bp s), s.2 2, v, 0, 0)] bl) (fun _ => False) 0 (MK 2 5 (MB 43 v m1)) := by
      rcases hx with rfl | rfl <;> exact hM2.cs rfl rfl rfl rfl rfl rfl rfl rfl rfl rfl rfl rfl rfl rfl
    have m0 : m1 0 = m 0 := x3 0 (by decide) (by decide) (by decide)
    have h14 : mf (MB 43 v m1) 14 = nI a := (mf_MB (by decide)).trans x2.2.2.1.1
    have l5 : ((au_bp s).1 5).length = (s.1 5).length + 1 := len_bp (by omega)
    have l7 : ((au_cd 0 0 (au_bp s)).1 7).length = (s.1 7).length + 1 := len_cd (s := au_bp s) (c := 0) (y := 0) hc
    have t5 : (sB (au_cd 0 0 (au_bp s)) x r).1 5 = (au_bp s).1 5 := by rcases hx with rfl | rfl <;> rfl
    have t7 : (sB (au_cd 0 0 (au_bp s)) x r).1 7 = (au_cd 0 0 (au_bp s)).1 7 := by rcases hx with rfl | rfl <;> rfl
    have t15 : (sB (au_cd 0 0 (au_bp s)) x r).1 15 = s.1 15 := by rcases hx with rfl | rfl <;> rfl
    have t9 : (sB (au_cd 0 0 (au_bp s)) x r).1 9 = s.1 9 := by rcases hx with rfl | rfl <;> rfl
    have t0 : (sB (au_cd 0 0 (au_bp s)) x r).1 0 = (au_cd 0 0 (au_bp s)).1 0 := by rcases hx with rfl | rfl <;> rfl
    have hcl : cc [((43 : Int32), au_pn (au_bp s), s.2 2, v, (0 : Int32), (0 : Int32))] = 0 ∧ lc [((43 : Int32), au_pn (au_bp s), s.2 2, v, (0 : Int32), (0 : Int32))] = 0 := by
      unfold cc lc ccF lcF
      rw [List.countP_singleton, List.countP_singleton]
      exact ⟨rfl, rfl⟩
    refine ⟨MK 2 5 (MB 43 v m1), L, ?_, ?_, ?_⟩
    · rw [hf]
      unfold f_12041
      rw [hop, bP_some, if_pos rfl, x1, bO_some, if_neg x4, z1, bO_some, MK_e h14 (by omega), bO_some]
    · refine Rel.mk (hL3.var hae) (hR3.var hL3) (hM3.ocw (fun _ q => q.elim)) ?_ MK_32 ?_ ?_ ?_
      · rw [MK_0 (by decide), MB_0 (by decide), m0]
        exact h7
      · rw [MK_0 (by decide), MB_0 (by decide), m0]
        exact h33
      · rw [MK_0 (by decide), MB_0 (by decide), m0]
        exact h34
      · exact Ex.mkE (xs := []) (Or.inl hst) (by rw [MK_0 (by decide)]; exact z3) (fun q => absurd (show (43 : Int32) = 47 from q) (by decide)) rfl
    · have hr : RwS (au_bp s) (au_nx (au_sv (s.2 2) v (au_sk 34 (sB (au_cd 0 0 (au_bp s)) x r)))) := (RwS.cd (s := au_bp s) hc).tr ((RwS.of t0 (by rw [t5]; rfl) t7).tr (RwS.var hL3 hae))
      refine Inv.mk (IvO.one hst) (fun b hb => ((hB b hb).bp (by omega)).up hr) (Or.inr (Or.inr (Or.inr (Or.inl ⟨rfl, _, rfl, rfl, ?_⟩)))) ?_
      · refine ⟨⟨(s.1 5).length, hpn, ?_⟩, a, hL.2.1, by omega, ?_⟩
        · show (s.1 5).length < ((sB (au_cd 0 0 (au_bp s)) x r).1 5).length
          rw [t5]
          omega
        · show 3 * ((sB (au_cd 0 0 (au_bp s)) x r).1 5).length ≤ a + 3
          rw [t5]
          omega
      · refine ⟨?_, fun q => absurd q (by decide), ?_, ?_, ?_⟩
        · show ((sB (au_cd 0 0 (au_bp s)) x r).1 7).length + 1 + 2 * bl.length ≤ 2 * (a + 1) + 0
          rw [t7]
          omega
        · rw [hcl.1]
          show 3 * ((sB (au_cd 0 0 (au_bp s)) x r).1 15).length ≤ a + 1 + 0 + 0
          rw [t15]
          omega
        · rw [hcl.2]
          show L + 0 = bl.length + 0 + 0
          omega
        · rw [dsB_n (by decide) (fun z hz => by rw [List.mem_singleton.1 hz]; exact (stF_b hst).2.2.2.2.2.2.2.2.1)]
          have := (bend_s ha).1
          show 8 * ((sB (au_cd 0 0 (au_bp s)) x r).1 9).length + 0 ≤ _
          rw [t9]
          omega
  · refine ⟨m, ?_, rfl⟩
    rw [hf]
    unfold f_12041
    rw [hop, bP_some, if_pos rfl, w2 hy, bO_some, if_pos rfl]
    rfl
/-- a call is a statement -/
theorem sCall (h : S0 tx s bl a L m) (ht : Tok tx a m) (ha : a + 1 < (tks tx).length) (hk : tkd (tks tx) a = 4) (hk1 : tkd (tks tx) (a + 1) = 28) :
    ∃ B, au_call (au_cd 0 0 (au_bp s)) [(50, au_pn (au_bp s), s.2 2, 0, 0, 0)] bl = .inl B ∧ Go (f_12042 m) tx B a := by
  have h5 := ht.k hk
  obtain ⟨ha3, hc, hb, h5'⟩ := h.b ha
  obtain ⟨⟨hL, hR, hM⟩, ⟨h7, h33, h34⟩, hB, hp, q1, q2, q3, q4, q5⟩ := h
  have hop : f_12014 m = some 1 := by
    rw [opb_a hM.1.1 h7 ha, if_pos hk1]
  have hst : stF (50 : Int32) := by decide
  have hpn : au_pn (au_bp s) = nI (s.1 5).length := pn_e (by omega)
  obtain ⟨z1, z2, z3, z4⟩ := beg (k := 50) (x := (50, au_pn (au_bp s), s.2 2, 0, 0, 0)) (y := 0) rfl hL hM ha3 hp hc hb hst rfl hpn (fun q => absurd (show (50 : Int32) = 47 from q) (by decide))
  have l5 : ((au_bp s).1 5).length = (s.1 5).length + 1 := len_bp (by omega)
  have l7 : ((au_cd 0 0 (au_bp s)).1 7).length = (s.1 7).length + 1 := len_cd (s := au_bp s) (c := 0) (y := 0) hc
  have hcl : cc [((50 : Int32), au_pn (au_bp s), s.2 2, (0 : Int32), (0 : Int32), (0 : Int32))] = 0 ∧ lc [((50 : Int32), au_pn (au_bp s), s.2 2, (0 : Int32), (0 : Int32), (0 : Int32))] = 0 := by
    unfold cc lc ccF lcF
    rw [List.countP_singleton, List.countP_singleton]
    exact ⟨rfl, rfl⟩
  have hr : RwS (au_bp s) (au_cd 0 0 (au_bp s)) := RwS.cd (s := au_bp s) hc
  have ht' : Tok tx a (MB 50 0 m) := by
    unfold Tok
    rw [MB_0 (by decide), MB_0 (by decide), MB_0 (by decide)]
    exact ht
  obtain ⟨m', L', e1, e2, e3⟩ := call1 (s := au_cd 0 0 (au_bp s)) (m := MB 50 0 m) (L := L) (xs := []) (f := (50, au_pn (au_bp s), s.2 2, 0, 0, 0)) (bl := bl) (a := a) (hL.co (Co_bp.tr Co_cd)) hR (z2.ocw (fun _ q => q.elim)) (by rw [MB_0 (by decide)]; exact h7) (by rw [MB_0 (by decide)]; exact h33) (by rw [MB_0 (by decide)]; exact h34) z3 (fun q => absurd (show (50 : Int32) = 47 from q) (by decide)) hst (fun x hx => by cases hx) (IvO.one hst) (by
      refine ⟨⟨(s.1 5).length, hpn, ?_⟩, a, hL.2.1, by omega, ?_⟩
      · show (s.1 5).length < ((au_bp s).1 5).length
        omega
      · show 3 * ((au_bp s).1 5).length ≤ a + 3
        omega) (fun b hb => ((hB b hb).bp (by omega)).up hr) (by
      refine ⟨?_, ?_, ?_, ?_⟩
      · show ((au_cd 0 0 (au_bp s)).1 7).length + 1 + 2 * bl.length ≤ 2 * a + 2
        omega
      · show 3 * (s.1 15).length ≤ a + cc [((50 : Int32), au_pn (au_bp s), s.2 2, (0 : Int32), (0 : Int32), (0 : Int32))]
        omega
      · show L = bl.length + lc [((50 : Int32), au_pn (au_bp s), s.2 2, (0 : Int32), (0 : Int32), (0 : Int32))]
        omega
      · exact q5) ht' ha hk hk1
  refine ⟨_, rfl, m', L', ?_, e2, e3⟩
  unfold f_12042
  rw [if_neg (by rw [h5]; decide), if_neg (by rw [h5]; decide), if_pos (by rw [h5]; rfl)]
  rw [bO_id]
  unfold f_12041
  rw [hop, bP_some, if_neg (by decide), z1, bO_some, e1, bO_some]
/-- no statement begins so -/
theorem sNo (h0 : ¬ mf m 5 = 0) (h2 : ¬ mf m 5 = 2) (h4 : ¬ mf m 5 = 4) (h6 : ¬ mf m 5 = 6) (h7 : ¬ mf m 5 = 7) (h9 : ¬ mf m 5 = 9) (h10 : ¬ mf m 5 = 10) (h29 : ¬ mf m 5 = 29) (h32 : ¬ mf m 5 = 32) : Fb (f_12042 m) m 3 := by
  unfold f_12042
  rw [if_neg h0]
  by_cases g1 : mf m 5 = 1
  · rw [if_pos g1]
    exact Fb.i
  rw [if_neg g1]
  rw [if_neg h2]
  by_cases g3 : mf m 5 = 3
  · rw [if_pos g3]
    exact Fb.i
  rw [if_neg g3]
  rw [if_neg h4]
  by_cases g5 : mf m 5 = 5
  · rw [if_pos g5]
    exact Fb.i
  rw [if_neg g5]
  rw [if_neg h6]
  rw [if_neg h7]
  by_cases g8 : mf m 5 = 8
  · rw [if_pos g8]
    exact Fb.i
  rw [if_neg g8]
  rw [if_neg h9]
  rw [if_neg h10]
  by_cases g11 : mf m 5 = 11
  · rw [if_pos g11]
    exact Fb.i
  rw [if_neg g11]
  by_cases g12 : mf m 5 = 12
  · rw [if_pos g12]
    exact Fb.i
  rw [if_neg g12]
  by_cases g13 : mf m 5 = 13
  · rw [if_pos g13]
    exact Fb.i
  rw [if_neg g13]
  by_cases g14 : mf m 5 = 14
  · rw [if_pos g14]
    exact Fb.i
  rw [if_neg g14]
  by_cases g15 : mf m 5 = 15
  · rw [if_pos g15]
    exact Fb.i
  rw [if_neg g15]
  by_cases g16 : mf m 5 = 16
  · rw [if_pos g16]
    exact Fb.i
  rw [if_neg g16]
  by_cases g17 : mf m 5 = 17
  · rw [if_pos g17]
    exact Fb.i
  rw [if_neg g17]
  by_cases g18 : mf m 5 = 18
  · rw [if_pos g18]
    exact Fb.i
  rw [if_neg g18]
  by_cases g19 : mf m 5 = 19
  · rw [if_pos g19]
    exact Fb.i
  rw [if_neg g19]
  by_cases g20 : mf m 5 = 20
  · rw [if_pos g20]
    exact Fb.i
  rw [if_neg g20]
  by_cases g21 : mf m 5 = 21
  · rw [if_pos g21]
    exact Fb.i
  rw [if_neg g21]
  by_cases g22 : mf m 5 = 22
  · rw [if_pos g22]
    exact Fb.i
  rw [if_neg g22]
  by_cases g23 : mf m 5 = 23
  · rw [if_pos g23]
    exact Fb.i
  rw [if_neg g23]
  by_cases g24 : mf m 5 = 24
  · rw [if_pos g24]
    exact Fb.i
  rw [if_neg g24]
  by_cases g25 : mf m 5 = 25
  · rw [if_pos g25]
    exact Fb.i
  rw [if_neg g25]
  by_cases g26 : mf m 5 = 26
  · rw [if_pos g26]
    exact Fb.i
  rw [if_neg g26]
  by_cases g27 : mf m 5 = 27
  · rw [if_pos g27]
    exact Fb.i
  rw [if_neg g27]
  by_cases g28 : mf m 5 = 28
  · rw [if_pos g28]
    exact Fb.i
  rw [if_neg g28]
  rw [if_neg h29]
  by_cases g30 : mf m 5 = 30
  · rw [if_pos g30]
    exact Fb.i
  rw [if_neg g30]
  by_cases g31 : mf m 5 = 31
  · rw [if_pos g31]
    exact Fb.i
  rw [if_neg g31]
  rw [if_neg h32]
  exact Fb.i
end S0N
