/-! acts: statements begin -/
section S0S
variable {tx : List Int32} {s : Sx} {op bl : List Ae} {a L : Nat} {m : Mx}
/-- a statement, or what closes, is looked for -/
def S0 (tx : List Int32) (s : Sx) (bl : List Ae) (a L : Nat) (m : Mx) : Prop :=
  (Lv a ((tks tx).length - 1) L s ∧ Raw tx s a ∧ RR (tks tx) tx s a [] bl (oeP [] bl) (fun _ => False) 0 m) ∧ (m 0 7 = nI (bend (tks tx) (a + 1)) ∧ m 0 33 = s.2 4 ∧ m 0 34 = s.2 5) ∧
  (∀ b, b ∈ bl → BlV s b) ∧ 3 * (s.1 5).length ≤ a ∧ ((s.1 7).length + 2 * bl.length ≤ 2 * a ∧ (bl = [] → a = 0 ∨ (s.1 7).length + 2 ≤ 2 * a) ∧ 3 * (s.1 15).length ≤ a ∧ L = bl.length ∧ 8 * (s.1 9).length ≤ bend (tks tx) a + if (bl.any fun b => b.1 == 10) = true then 1 else 0)
def Go (x : Option (Mx × Int32)) (tx : List Int32) (B : Au) (a : Nat) : Prop := ∃ m' L', x = some (m', 1) ∧ Rel tx B (a + 1) L' m' 0 ∧ Inv tx B (a + 1) L'
theorem pn_e (h : (s.1 5).length < 150) : au_pn (au_bp s) = nI (s.1 5).length := by
  unfold au_pn
  show nI (xadd 150 (s.1 5) (s.2 2)).length - 1 = _
  rw [xadd_e h, List.length_append]
  exact nI_pred _
theorem cn_e {c x : Int32} (h : (s.1 7).length < 600) : au_cn (au_cd c x s) = nI (s.1 7).length := by
  unfold au_cn
  rw [len_cd h]
  exact nI_pred _
theorem len_bp (h : (s.1 5).length < 150) : ((au_bp s).1 5).length = (s.1 5).length + 1 := by
  show (xadd 150 (s.1 5) (s.2 2)).length = _
  rw [xadd_e h, List.length_append]
  rfl
theorem PtV.bp {x : Int32} (h : PtV s x) (h5 : (s.1 5).length < 150) : PtV (au_bp s) x := by
  obtain ⟨p, h1, h2⟩ := h
  exact ⟨p, h1, by rw [len_bp h5]; omega⟩
theorem BlV.bp {b : Ae} (h : BlV s b) (h5 : (s.1 5).length < 150) : BlV (au_bp s) b := ⟨h.1, h.2.1.bp h5, h.2.2.1, h.2.2.2.1, h.2.2.2.2⟩
theorem stF_b {k : Int32} (h : stF k) : lvK k = 0 ∧ ¬ isBin k ∧ (40 : Int32) ≤ k ∧ k ≠ 42 ∧ k ≠ 23 ∧ k ≠ 24 ∧ okm k = k ∧ (43 : Int32) ≤ k ∧ k ≠ 53 ∧ k ≠ 51 ∧ k ≠ 52 ∧ k ≠ 40 ∧ k ≠ 41 := by
  rcases h with e | e | e | e | e | e | e | e <;> rw [e] <;> decide +kernel
theorem IvO.one {x : Ae} (h : stF x.1) : IvO s [x] := by
  obtain ⟨e1, e2, e3, e4, e5, e6, _⟩ := stF_b h
  refine ⟨fun z hz => ?_, ?_, fun q => absurd q e2, trivial⟩
  · rw [List.mem_singleton.1 hz]
    exact ⟨Or.inl ⟨e3, e1⟩, fun q => (q.elim (fun w => absurd w e5) (fun w => absurd w e6))⟩
  · unfold Dc
    rw [if_neg e4]
    trivial
theorem MK_0 {w st : Int32} {f : Nat} (h : f ≠ 14 ∧ f ≠ 32) : MK w st m 0 f = m 0 f := by
  unfold MK
  rw [mp_n h.2, mp_n h.1, ms_j (by decide)]
theorem MK_32 {w st : Int32} : MK w st m 0 32 = st := by
  unfold MK
  rw [mp_s]
theorem MK_n {w st : Int32} {j : Nat} (h : j ≠ 0) (h6 : j ≠ 6) : MK w st m j = m j := by
  unfold MK
  rw [mp_j h, mp_j h, ms_j h6]
theorem MA_0 {w x : Int32} {f : Nat} (h : f ≠ 11) : MA w x m 0 f = m 0 f := by
  unfold MA
  rw [mp_n h, ms_j (by decide), ms_j (by decide)]
theorem MA_n {w x : Int32} {j : Nat} (h : j ≠ 0) (h4 : j ≠ 4) (h5 : j ≠ 5) : MA w x m j = m j := by
  unfold MA
  rw [mp_j h, ms_j h5, ms_j h4]
theorem MP_0 {f : Nat} (h : f ≠ 16) (h3 : f ≠ 43) : MP m 0 f = m 0 f := by
  unfold MP
  rw [mp_n h, ms_j (by decide), mp_n h3]
theorem MP_43 : MP m 0 43 = mf m 16 := by
  unfold MP
  rw [mp_n (by decide), ms_j (by decide), mp_s]
theorem MP_n {j : Nat} (h : j ≠ 0) (h7 : j ≠ 7) : MP m j = m j := by
  unfold MP
  rw [mp_j h, ms_j h7, mp_j h]
theorem MO_0 {w x : Int32} {f : Nat} (h : f ≠ 35) : MO w x m 0 f = m 0 f := by
  unfold MO
  rw [mp_n h, ms_j (by decide), ms_j (by decide)]
theorem MO_n {w x : Int32} {j : Nat} (h : j ≠ 0) (h4 : j ≠ 20) (h5 : j ≠ 21) : MO w x m j = m j := by
  unfold MO
  rw [mp_j h, ms_j h5, ms_j h4]
theorem MB_0 {w x : Int32} {f : Nat} (h : f ≠ 35 ∧ f ≠ 11 ∧ f ≠ 16 ∧ f ≠ 43) : MB w x m 0 f = m 0 f := by
  unfold MB
  rw [MO_0 h.1, ms_j (by decide), MA_0 h.2.1, MP_0 h.2.2.1 h.2.2.2]
theorem MB_43 {w x : Int32} : MB w x m 0 43 = mf m 16 := by
  unfold MB
  rw [MO_0 (by decide), ms_j (by decide), MA_0 (by decide), MP_43]
theorem MB_n {w x : Int32} {j : Nat} (h : j ∉ [0, 4, 5, 7, 20, 21, 25]) : MB w x m j = m j := by
  simp only [List.mem_cons, List.not_mem_nil, or_false, not_or] at h
  unfold MB
  rw [MO_n h.1 h.2.2.2.2.1 h.2.2.2.2.2.1, ms_j h.2.2.2.2.2.2, MA_n h.1 h.2.1 h.2.2.1, MP_n h.1 h.2.2.2.1]
theorem MB_25 {w x : Int32} : MB w x m 25 = ms m 25 (mf m 38) (mf m 11) 25 := by
  unfold MB
  rw [MO_n (by decide) (by decide) (by decide)]
  funext i
  unfold ms u2
  rw [if_pos rfl, if_pos rfl, MA_n (by decide) (by decide) (by decide), MP_n (by decide) (by decide)]
theorem mf_MO {w x : Int32} {f : Nat} (h : f ≠ 35) : mf (MO w x m) f = mf m f := by
  unfold MO
  rw [mf_mp h, mf_ms (by decide), mf_ms (by decide)]
theorem mf_MP {f : Nat} (h : f ≠ 16) (h3 : f ≠ 43) : mf (MP m) f = mf m f := by
  unfold MP
  rw [mf_mp h, mf_ms (by decide), mf_mp h3]
theorem mf_MB {w x : Int32} {f : Nat} (h : f ≠ 35 ∧ f ≠ 11 ∧ f ≠ 16 ∧ f ≠ 43) : mf (MB w x m) f = mf m f := by
  unfold MB
  rw [mf_MO h.1, mf_ms (by decide), mf_MA h.2.1, mf_MP h.2.2.1 h.2.2.2]
theorem mf_MK {w st : Int32} {f : Nat} (h : f ≠ 14 ∧ f ≠ 32) : mf (MK w st m) f = mf m f := by
  unfold MK
  rw [mf_mp h.2, mf_mp h.1, mf_ms (by decide)]
/-- a part and its code begin -/
theorem beg {x : Ae} {k y : Int32} (hxk : x.1 = k) (hL : Lv a ((tks tx).length - 1) L s) (hM : RR (tks tx) tx s a [] bl (oeP [] bl) (fun _ => False) 0 m) (ha3 : a < 300) (hp : 3 * (s.1 5).length ≤ a) (hc : (s.1 7).length < 600) (hb : bl.length < 10) (hx : stF x.1) (hy : y = odm x) (hx2 : x.2.1 = nI (s.1 5).length) (h47 : x.1 = 47 → x.2.2.2.1 = nI (s.1 7).length) :
    f_12040 k y m = some (MB k y m, 1) ∧ RR (tks tx) tx (au_cd 0 0 (au_bp s)) a [x] bl (oeP [x] bl) (fun _ => False) 0 (MB k y m) ∧ MB k y m 0 43 = x.2.1 ∧ (x.1 = 47 → MB k y m 25 bl.length = x.2.2.2.1) := by
  have f16 : mf m 16 = nI (s.1 5).length := hM.2.2.2.2.1.1.1
  have f11 : mf m 11 = nI (s.1 7).length := hM.2.1.1
  have f38 : mf m 38 = nI bl.length := hM.2.2.2.2.2.2.2.2.1
  have f35 : mf m 35 = nI 0 := hM.2.2.2.2.2.2.2.1.1
  obtain ⟨e1, e2, e3, e4, e5, e6, e7, e8, _⟩ := stF_b hx
  refine ⟨MB_e f16 (by omega) f11 (by omega) f38 hb f35 (by decide), ?_, MB_43.trans (f16.trans hx2.symm), fun q => ?_⟩
  · have h1 := hM.bp hL.2.1 (by omega)
    have h2 := h1.cd (c := 0) (x := 0) (w := 0) (y := 0) hc rfl rfl
    have h3 := h2.bw (j := 25) (x := mf m 11) (Or.inr (Or.inr (Or.inr rfl))) (by omega)
    rw [← f38] at h3
    have h4 := h3.psh (x := x) (w := k) (y := y) (by decide) (hxk.symm.trans e7.symm) hy (fun q => absurd q e4)
    refine h4.oew (fun k hk => ?_)
    rcases hk with e | ⟨k1, ⟨z, hz, _⟩ | q⟩
    · exact ⟨by omega, Or.inl ⟨x, List.mem_singleton.2 rfl, e8, by rw [hx2, e]⟩⟩
    · cases hz
    · exact ⟨k1, Or.inr q⟩
  · rw [MB_25, f38, ms_s (by omega), h47 q]
    show (if bl.length = bl.length then _ else _) = _
    rw [if_pos rfl, f11]
theorem S0.b (h : S0 tx s bl a L m) (ha : a + 1 < (tks tx).length) : a < 300 ∧ (s.1 7).length < 600 ∧ bl.length < 10 ∧ (s.1 5).length < 100 := by
  obtain ⟨⟨hL, hR, hM⟩, _, hB, hp, h1, h2, h3, h4, h5⟩ := h
  have := hL.2.2.2.2.1
  have := hL.L8
  refine ⟨by omega, by omega, by omega, by omega⟩
/-- a statement with an expression next -/
theorem beg2 (h : S0 tx s bl a L m) (ha : a + 1 < (tks tx).length) {k kw v : Int32} (hk : k = 44 ∨ k = 45 ∨ k = 46 ∨ k = 47) (hv : k = 47 → v = nI (s.1 7).length) (hkw : kw = wm (tkd (tks tx) a)) :
    f_12040 k 0 m = some (MB k 0 m, 1) ∧ f_12022 kw 2 (MB k 0 m) = some (MK kw 2 (MB k 0 m), 1) ∧ Rel tx (au_nx (au_cd 0 0 (au_bp s)), 2, [(k, au_pn (au_bp s), s.2 2, v, 0, 0)], bl) (a + 1) L (MK kw 2 (MB k 0 m)) 0 ∧ Inv tx (au_nx (au_cd 0 0 (au_bp s)), 2, [(k, au_pn (au_bp s), s.2 2, v, 0, 0)], bl) (a + 1) L := by
  obtain ⟨ha3, hc, hb, h5⟩ := h.b ha
  obtain ⟨⟨hL, hR, hM⟩, ⟨h7, h33, h34⟩, hB, hp, q1, q2, q3, q4, q5⟩ := h
  have hae : a < (tks tx).length - 1 := by omega
  have hst : stF k := by
    rcases hk with e | e | e | e
    · exact Or.inr (Or.inl e)
    · exact Or.inr (Or.inr (Or.inl e))
    · exact Or.inr (Or.inr (Or.inr (Or.inl e)))
    · exact Or.inr (Or.inr (Or.inr (Or.inr (Or.inl e))))
  have hpn : au_pn (au_bp s) = nI (s.1 5).length := pn_e (by omega)
  obtain ⟨z1, z2, z3, z4⟩ := beg (k := k) (x := (k, au_pn (au_bp s), s.2 2, v, 0, 0)) (y := 0) rfl hL hM ha3 hp hc hb hst (by rcases hk with e | e | e | e <;> rw [e] <;> rfl) hpn hv
  have h14 : mf (MB k 0 m) 14 = nI a := (mf_MB (by decide)).trans hM.2.2.1.1
  have hr0 : (s.1 0).getD a 0 = tkd (tks tx) a := (hR.2 a (Nat.le_refl _) (by omega)).1
  have l5 : ((au_bp s).1 5).length = (s.1 5).length + 1 := len_bp (by omega)
  have l7 : ((au_nx (au_cd 0 0 (au_bp s))).1 7).length = (s.1 7).length + 1 := len_cd (s := au_bp s) (c := 0) (y := 0) hc
  have hFV : FV (au_nx (au_cd 0 0 (au_bp s))) (k, au_pn (au_bp s), s.2 2, v, 0, 0) (a + 1) 1 := by
    refine ⟨⟨(s.1 5).length, hpn, ?_⟩, a, hL.2.1, by omega, ?_⟩
    · show (s.1 5).length < ((au_bp s).1 5).length
      omega
    · show 3 * ((au_bp s).1 5).length ≤ a + 3
      omega
  have hcl : cc [(k, au_pn (au_bp s), s.2 2, v, (0 : Int32), (0 : Int32))] = 0 ∧ lc [(k, au_pn (au_bp s), s.2 2, v, (0 : Int32), (0 : Int32))] = 0 := by
    unfold cc lc ccF lcF
    rw [List.countP_singleton, List.countP_singleton]
    rcases hk with e | e | e | e <;> rw [e] <;> exact ⟨rfl, rfl⟩
  refine ⟨z1, MK_e h14 (by omega), ?_, ?_⟩
  · refine Rel.mk ((hL.co (Co_bp.tr Co_cd)).nx hae) (hR.nx (fun _ _ => rfl) (fun _ _ => rfl) rfl) ?_ ?_ MK_32 ?_ ?_ ?_
    · exact (z2.nx (w := kw) (st := 2) (by omega) (by rw [hkw, ← hr0]; rfl)).ocw (fun _ q => q.elim)
    · rw [MK_0 (by decide), MB_0 (by decide)]
      exact h7
    · rw [MK_0 (by decide), MB_0 (by decide)]
      exact h33
    · rw [MK_0 (by decide), MB_0 (by decide)]
      exact h34
    · exact Ex.mkE (xs := []) (Or.inl hst) (by rw [MK_0 (by decide)]; exact z3) (fun q => by rw [MK_n (by decide) (by decide)]; exact z4 q) rfl
  · have hr : RwS (au_bp s) (au_nx (au_cd 0 0 (au_bp s))) := (RwS.cd (s := au_bp s) hc).tr RwS.nx
    refine Inv.mk (IvO.one hst) (fun b hb => ((hB b hb).bp (by omega)).up hr) (Sh.to2 rfl hst hFV) ?_
    refine ⟨?_, fun q => absurd q (by decide), ?_, ?_, ?_⟩
    · rw [l7]
      show (s.1 7).length + 1 + 1 + 2 * bl.length ≤ 2 * (a + 1) + 0
      omega
    · rw [hcl.1]
      show 3 * (s.1 15).length ≤ a + 1 + 0 + 0
      omega
    · rw [hcl.2]
      show L + 0 = bl.length + 0 + 0
      omega
    · rw [dsB_n (by decide) (fun z hz => by rw [List.mem_singleton.1 hz]; exact (stF_b hst).2.2.2.2.2.2.2.2.1)]
      have := (bend_s ha).1
      show 8 * (s.1 9).length + 0 ≤ _
      omega
theorem sOut (h : S0 tx s bl a L m) (ht : Tok tx a m) (ha : a + 1 < (tks tx).length) (hk : tkd (tks tx) a = 8) : Go (f_12042 m) tx (au_nx (au_cd 0 0 (au_bp s)), 2, [(44, au_pn (au_bp s), s.2 2, 0, 0, 0)], bl) a := by
  have h5 := ht.k hk
  obtain ⟨e1, e2, e3, e4⟩ := beg2 h ha (k := 44) (kw := 7) (v := 0) (by decide) (fun q => absurd q (by decide)) (by rw [hk]; rfl)
  refine ⟨_, L, ?_, e3, e4⟩
  unfold f_12042
  rw [if_neg (by rw [h5]; decide), if_neg (by rw [h5]; decide), if_neg (by rw [h5]; decide), if_neg (by rw [h5]; decide), if_neg (by rw [h5]; decide), if_neg (by rw [h5]; decide), if_neg (by rw [h5]; decide), if_pos (by rw [h5]; rfl)]
  rw [e1, bO_some, if_neg (by decide), e2, bO_some, if_neg (by decide)]
theorem sIf (h : S0 tx s bl a L m) (ht : Tok tx a m) (ha : a + 1 < (tks tx).length) (hk : tkd (tks tx) a = 5) : Go (f_12042 m) tx (au_nx (au_cd 0 0 (au_bp s)), 2, [(46, au_pn (au_bp s), s.2 2, 0, 0, 0)], bl) a := by
  have h5 := ht.k hk
  obtain ⟨e1, e2, e3, e4⟩ := beg2 h ha (k := 46) (kw := 4) (v := 0) (by decide) (fun q => absurd q (by decide)) (by rw [hk]; rfl)
  refine ⟨_, L, ?_, e3, e4⟩
  unfold f_12042
  rw [if_neg (by rw [h5]; decide), if_neg (by rw [h5]; decide), if_neg (by rw [h5]; decide), if_neg (by rw [h5]; decide), if_pos (by rw [h5]; rfl)]
  rw [e1, bO_some, if_neg (by decide), e2, bO_some, if_neg (by decide)]
theorem sWhile (h : S0 tx s bl a L m) (ht : Tok tx a m) (ha : a + 1 < (tks tx).length) (hk : tkd (tks tx) a = 7) : Go (f_12042 m) tx (au_cd 0 0 (au_nx (au_bp s)), 2, [(47, au_pn (au_bp s), s.2 2, au_cn (au_cd 0 0 (au_nx (au_bp s))), 0, 0)], bl) a := by
  have h5 := ht.k hk
  obtain ⟨ha3, hc, _⟩ := h.b ha
  have hcn : au_cn (au_cd 0 0 (au_nx (au_bp s))) = nI (s.1 7).length := cn_e (s := au_nx (au_bp s)) hc
  obtain ⟨e1, e2, e3, e4⟩ := beg2 h ha (k := 47) (kw := 6) (v := au_cn (au_cd 0 0 (au_nx (au_bp s)))) (by decide) (fun _ => hcn) (by rw [hk]; rfl)
  refine ⟨_, L, ?_, e3, e4⟩
  unfold f_12042
  rw [if_neg (by rw [h5]; decide), if_neg (by rw [h5]; decide), if_neg (by rw [h5]; decide), if_neg (by rw [h5]; decide), if_neg (by rw [h5]; decide), if_neg (by rw [h5]; decide), if_pos (by rw [h5]; rfl)]
  rw [e1, bO_some, if_neg (by decide), e2, bO_some, if_neg (by decide)]
theorem S0.m34 (h : S0 tx s bl a L m) : mf m 34 = s.2 5 := h.2.1.2.2
theorem sRet (h : S0 tx s bl a L m) (ht : Tok tx a m) (ha : a + 1 < (tks tx).length) (hk : tkd (tks tx) a = 11) (h0 : ¬ s.2 5 = 0) : Go (f_12042 m) tx (au_nx (au_cd 0 0 (au_bp s)), 2, [(45, au_pn (au_bp s), s.2 2, 0, 0, 0)], bl) a := by
  have h5 := ht.k hk
  have h34 := h.m34
  obtain ⟨e1, e2, e3, e4⟩ := beg2 h ha (k := 45) (kw := 10) (v := 0) (by decide) (fun q => absurd q (by decide)) (by rw [hk]; rfl)
  refine ⟨_, L, ?_, e3, e4⟩
  unfold f_12042
  rw [if_neg (by rw [h5]; decide), if_neg (by rw [h5]; decide), if_neg (by rw [h5]; decide), if_neg (by rw [h5]; decide), if_neg (by rw [h5]; decide), if_neg (by rw [h5]; decide), if_neg (by rw [h5]; decide), if_neg (by rw [h5]; decide), if_neg (by rw [h5]; decide), if_neg (by rw [h5]; decide), if_pos (by rw [h5]; rfl)]
  rw [if_neg (by rw [h34]; exact h0), e1, bO_some, if_neg (by decide), e2, bO_some, if_neg (by decide)]
/-- a cell is set -/
theorem sCell (h : S0 tx s bl a L m) (ht : Tok tx a m) (ha : a + 1 < (tks tx).length) (hk : tkd (tks tx) a = 26) (hl : L < 8) : Go (f_12042 m) tx (au_up (au_sk 37 (au_cd 0 0 (au_bp s))), 2, [(48, au_pn (au_bp s), s.2 2, 0, 0, 0)], bl) a := by
  have h5 := ht.k hk
  obtain ⟨ha3, hc, hb, h5'⟩ := h.b ha
  obtain ⟨⟨hL, hR, hM⟩, ⟨h7, h33, h34⟩, hB, hp, q1, q2, q3, q4, q5⟩ := h
  have hae : a < (tks tx).length - 1 := by omega
  have hst : stF (48 : Int32) := by decide
  have hpn : au_pn (au_bp s) = nI (s.1 5).length := pn_e (by omega)
  have hm33 : mf m 33 = nI L := h33.trans hL.2.2.2.2.2.2.1
  obtain ⟨z1, z2, z3, z4⟩ := beg (k := 48) (m := mp m 33 (nI (L + 1))) (x := (48, au_pn (au_bp s), s.2 2, 0, 0, 0)) (y := 0) rfl hL (hM.f (by decide)) ha3 hp hc hb hst rfl hpn (fun q => absurd (show (48 : Int32) = 47 from q) (by decide))
  have h14 : mf (MB 48 0 (mp m 33 (nI (L + 1)))) 14 = nI a := (mf_MB (by decide)).trans ((mf_mp (by decide)).trans hM.2.2.1.1)
  have hL1 : Lv a ((tks tx).length - 1) L (au_cd 0 0 (au_bp s)) := hL.co (Co_bp.tr Co_cd)
  have l5 : ((au_bp s).1 5).length = (s.1 5).length + 1 := len_bp (by omega)
  have l7 : ((au_cd 0 0 (au_bp s)).1 7).length = (s.1 7).length + 1 := len_cd (s := au_bp s) (c := 0) (y := 0) hc
  have hcl : cc [((48 : Int32), au_pn (au_bp s), s.2 2, (0 : Int32), (0 : Int32), (0 : Int32))] = 0 ∧ lc [((48 : Int32), au_pn (au_bp s), s.2 2, (0 : Int32), (0 : Int32), (0 : Int32))] = 1 := by
    unfold cc lc ccF lcF
    rw [List.countP_singleton, List.countP_singleton]
    exact ⟨rfl, rfl⟩
  refine ⟨MK 32 2 (MB 48 0 (mp m 33 (nI (L + 1)))), L + 1, ?_, ?_, ?_⟩
  · unfold f_12042
    rw [if_neg (by rw [h5]; decide), if_neg (by rw [h5]; decide), if_neg (by rw [h5]; decide), if_neg (by rw [h5]; decide), if_neg (by rw [h5]; decide), if_neg (by rw [h5]; decide), if_neg (by rw [h5]; decide), if_neg (by rw [h5]; decide), if_neg (by rw [h5]; decide), if_neg (by rw [h5]; decide), if_neg (by rw [h5]; decide), if_neg (by rw [h5]; decide), if_neg (by rw [h5]; decide), if_neg (by rw [h5]; decide), if_neg (by rw [h5]; decide), if_neg (by rw [h5]; decide), if_neg (by rw [h5]; decide), if_neg (by rw [h5]; decide), if_neg (by rw [h5]; decide), if_neg (by rw [h5]; decide), if_neg (by rw [h5]; decide), if_neg (by rw [h5]; decide), if_neg (by rw [h5]; decide), if_neg (by rw [h5]; decide), if_neg (by rw [h5]; decide), if_neg (by rw [h5]; decide), if_neg (by rw [h5]; decide), if_neg (by rw [h5]; decide), if_neg (by rw [h5]; decide), if_neg (by rw [h5]; decide), if_neg (by rw [h5]; decide), if_neg (by rw [h5]; decide), if_pos (by rw [h5]; rfl)]
    rw [lv_12026 hm33 hl, bT_eq, if_neg (by decide), z1, bO_some, if_neg (by decide), MK_e h14 (by omega), bO_some, if_neg (by decide)]
  · refine Rel.mk ((hL1.sk (x := 37) hae (by decide)).up hae hl) (hR.nx (fun i hi => sk_n (s := au_cd 0 0 (au_bp s)) hL1 (by omega)) (fun _ _ => rfl) rfl) ?_ ?_ MK_32 ?_ ?_ ?_
    · have := (((z2.sk (x := 37) hL1.2.1 ha3).i (s' := sV (au_sk 37 (au_cd 0 0 (au_bp s))) 4 (s.2 4 + 1)) rfl).nx (w := 32) (st := 2) ha3 (by
        show (32 : Int32) = wm (((au_sk 37 (au_cd 0 0 (au_bp s))).1 0).getD a 0)
        rw [sk_s (s := au_cd 0 0 (au_bp s)) hL1 hae]
        rfl)).ocw (oc' := ocP [(48, au_pn (au_bp s), s.2 2, 0, 0, 0)]) (fun _ q => q.elim)
      exact this
    · rw [MK_0 (by decide), MB_0 (by decide), mp_n (by decide)]
      exact h7
    · rw [MK_0 (by decide), MB_0 (by decide), mp_s]
      show nI (L + 1) = s.2 4 + 1
      rw [hL.2.2.2.2.2.2.1, nI_1]
    · rw [MK_0 (by decide), MB_0 (by decide), mp_n (by decide)]
      exact h34
    · exact Ex.mkE (xs := []) (Or.inl hst) (by rw [MK_0 (by decide)]; exact z3) (fun q => by rw [MK_n (by decide) (by decide)]; exact z4 q) rfl
  · have hr : RwS (au_bp s) (au_up (au_sk 37 (au_cd 0 0 (au_bp s)))) := (RwS.cd (s := au_bp s) hc).tr ((RwS.sk (s := au_cd 0 0 (au_bp s)) (x := 37) (a := a) hL.2.1 (by omega) (by decide)).tr (RwS.of (s' := au_up (au_sk 37 (au_cd 0 0 (au_bp s)))) rfl rfl rfl))
    refine Inv.mk (IvO.one hst) (fun b hb => ((hB b hb).bp (by omega)).up hr) (Sh.to2 rfl hst ?_) ?_
    · refine ⟨⟨(s.1 5).length, hpn, ?_⟩, a, hL.2.1, by omega, ?_⟩
      · show (s.1 5).length < ((au_bp s).1 5).length
        omega
      · show 3 * ((au_bp s).1 5).length ≤ a + 3
        omega
    · refine ⟨?_, fun q => absurd q (by decide), ?_, ?_, ?_⟩
      · show ((au_cd 0 0 (au_bp s)).1 7).length + 1 + 2 * bl.length ≤ 2 * (a + 1) + 0
        omega
      · rw [hcl.1]
        show 3 * (s.1 15).length ≤ a + 1 + 0 + 0
        omega
      · rw [hcl.2]
        show L + 1 + 0 = bl.length + 1 + 0
        omega
      · rw [dsB_n (by decide) (fun z hz => by rw [List.mem_singleton.1 hz]; exact (stF_b hst).2.2.2.2.2.2.2.2.1)]
        have := (bend_s ha).1
        show 8 * (s.1 9).length + 0 ≤ _
        omega
/-- a def -/
theorem sDef (h : S0 tx s bl a L m) (ht : Tok tx a m) (ha : a + 1 < (tks tx).length) (hk : tkd (tks tx) a = 10) (h0 : bl = []) : Go (f_12042 m) tx (au_nx (au_bp s), 8, [(53, au_pn (au_bp s), s.2 2, 0, 0, 0)], bl) a := by
  have h5 := ht.k hk
  obtain ⟨ha3, hc, hb, h5'⟩ := h.b ha
  obtain ⟨⟨hL, hR, hM⟩, ⟨h7, h33, h34⟩, hB, hp, q1, q2, q3, q4, q5⟩ := h
  subst h0
  have hae : a < (tks tx).length - 1 := by omega
  have hpn : au_pn (au_bp s) = nI (s.1 5).length := pn_e (by omega)
  have f16 : mf m 16 = nI (s.1 5).length := hM.2.2.2.2.1.1.1
  have f14 : mf m 14 = nI a := hM.2.2.1.1
  have f38 : mf m 38 = nI 0 := hM.2.2.2.2.2.2.2.2.1
  have hr0 : (s.1 0).getD a 0 = tkd (tks tx) a := (hR.2 a (Nat.le_refl _) (by omega)).1
  have l5 : ((au_bp s).1 5).length = (s.1 5).length + 1 := len_bp (by omega)
  have hM1 := hM.bp hL.2.1 (by omega)
  have h0l : L = 0 := q4
  refine ⟨MK 9 8 (MP m), L, ?_, ?_, ?_⟩
  · unfold f_12042
    rw [if_neg (by rw [h5]; decide), if_neg (by rw [h5]; decide), if_neg (by rw [h5]; decide), if_neg (by rw [h5]; decide), if_neg (by rw [h5]; decide), if_neg (by rw [h5]; decide), if_neg (by rw [h5]; decide), if_neg (by rw [h5]; decide), if_neg (by rw [h5]; decide), if_pos (by rw [h5]; rfl)]
    rw [if_pos (by rw [f38]; decide), MP_e f16 (by omega), bOv_some, MK_e (m := MP m) f14 (by omega), bO_some]
  · refine Rel.mk ((hL.co Co_bp).nx hae) (hR.nx (fun _ _ => rfl) (fun _ _ => rfl) rfl) ?_ h7 (by unfold MK; rw [mp_s]) ?_ h34 ?_
    · refine ((hM1.nx (w := 9) (st := 8) ha3 (by
        show (9 : Int32) = wm ((s.1 0).getD a 0)
        rw [hr0, hk]
        rfl)).oew (fun k hk => ?_)).ocw (fun _ q => q.elim)
      rcases hk with e | ⟨k1, ⟨z, hz, _⟩ | q⟩
      · exact ⟨by omega, Or.inl ⟨_, List.mem_singleton.2 rfl, by show (43 : Int32) ≤ 53; decide, by show au_pn (au_bp s) = nI k; rw [hpn, e]⟩⟩
      · cases hz
      · exact ⟨k1, Or.inr q⟩
    · unfold MK
      rw [mp_n (by decide)]
      exact h33
    · exact Ex.mkP rfl (f16.trans hpn.symm) (fun q => absurd rfl q) (fun q => absurd q (by decide))
  · refine Inv.mk IvO.nil (fun b hb => by cases hb) (Sh.mkP (d := 1) (Or.inr (Or.inl rfl)) rfl ?_ rfl ?_ (fun q => absurd rfl q) (fun q => absurd q (by decide))) ?_
    · refine ⟨⟨(s.1 5).length, hpn, ?_⟩, a, hL.2.1, by omega, ?_⟩
      · show (s.1 5).length < ((au_bp s).1 5).length
        omega
      · show 3 * ((au_bp s).1 5).length ≤ a + 3
        omega
    · exact ⟨a, hL.2.1, by omega, by show (s.1 0).getD a 0 ≠ 35 ∧ (s.1 0).getD a 0 ≠ 4; rw [hr0, hk]; decide⟩
    · have hb := (bend_s ha).2.1 hk
      refine ⟨?_, fun q => absurd q (by decide), ?_, ?_, ?_⟩
      · show (s.1 7).length + 1 + 2 * 0 ≤ 2 * (a + 1) + 0
        have q1' : (s.1 7).length + 2 * 0 ≤ 2 * a := q1
        omega
      · show 3 * (s.1 15).length ≤ a + 1 + 0 + 0
        omega
      · show L + 0 = 0 + 0 + 0
        omega
      · show 8 * (s.1 9).length + 3 ≤ _ + 0
        have q5' : 8 * (s.1 9).length ≤ bend (tks tx) a + 0 := q5
        omega
end S0S
