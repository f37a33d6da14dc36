/-! acts: a statement ends, a block opens behind an expression -/
section OPS
variable {tx : List Int32} {s : Sx} {op bl : List Ae} {a L : Nat} {m : Mx}
theorem RwS.up : RwS s (au_up s) := RwS.of rfl rfl rfl
/-- the own entry of a statement is alone: what holds then -/
theorem own1 (h : Rel tx (s, 4, op, bl) a L m 1) (hI : Inv tx (s, 4, op, bl) a L) (hT : Tb op bl a) (ha : a + 1 < (tks tx).length) {e : Ae} {r : List Ae} (he : (au_fl 1 op s).1 = e :: r) (he1 : stF e.1) :
    r = [] ∧ ∃ s' m', (au_fl 1 op s).2 = s' ∧ f_12032 1 m = some m' ∧ (Lv a ((tks tx).length - 1) L s' ∧ Raw tx s' a ∧ RR (tks tx) tx s' a [e] bl (oeP [e] bl) (fun _ => False) 0 m') ∧ (∀ g, g ≠ 11 → g ≠ 35 → m' 0 g = m 0 g) ∧ FrA m m' ∧
      (FV s' e a 2 ∧ RwS s s' ∧ (∀ b, b ∈ bl → BlV s' b)) ∧ ((s'.1 7).length + 1 + 2 * bl.length ≤ 2 * a ∧ 3 * (s'.1 15).length ≤ a ∧ L = bl.length + lc [e] ∧ 8 * (s'.1 9).length ≤ bend (tks tx) a + if (bl.any fun b => b.1 == 10) = true then 1 else 0) ∧
      (m 0 43 = e.2.1 ∧ (e.1 = 47 → m 25 bl.length = e.2.2.2.1)) ∧ s'.2 = s.2 ∧ a < 300 ∧ ((s'.1 15).length = (s.1 15).length ∧ (s'.1 9).length = (s.1 9).length) := by
  obtain ⟨s', op', xs, f, m', e1, e2, e3, ⟨hL, hR, hM⟩, e4, e5, ⟨g1, g2, g3, g4, g5, g6⟩, ⟨b1, b2, b3, b4⟩, e6, ⟨e7, e8⟩, e9, ⟨ha3, hlen, hL8⟩, ⟨r15, r9, _⟩⟩ := flAll (lv := 1) (by decide) h hI hT ha
  rw [e1] at he ⊢
  dsimp only at he ⊢
  obtain ⟨hx0, hfe, hr⟩ := suf0 (e2.symm.trans he) g1 he1
  subst hr
  subst hfe
  subst he
  have hcc : cc [f] = 0 := by
    rw [cc_cons]
    unfold ccF
    rw [if_neg (by simpa using (stF_b he1).2.2.2.1)]
    rfl
  rw [hcc] at b2
  refine ⟨rfl, s', m', rfl, e3, ⟨hL, hR, hM.ocw (fun j hj => ?_)⟩, e4, e5, ⟨g3, g5, g6⟩, ⟨b1, b2, b3, b4⟩, ⟨e7, e8⟩, e9, ha3, r15, r9⟩
  obtain ⟨_, z, hz, hz1, _⟩ := hj
  rw [List.mem_singleton.1 hz] at hz1
  exact (stF_b he1).2.2.2.1 hz1
theorem lc1 {e : Ae} (h : stF e.1) (h48 : e.1 ≠ 48) : lc [e] = 0 := by
  have hb := stF_b h
  rw [lc_cons]
  unfold lcF
  rw [if_neg]
  · rfl
  · simp [h48, hb.2.2.2.1, hb.2.2.2.2.2.2.2.2.2.2.2.1, hb.2.2.2.2.2.2.2.2.2.2.2.2]
theorem f31_0 {k : Int32} (h : k = 27 ∨ k = 28 ∨ k = 29 ∨ k = 30 ∨ k = 31) : f_12031 k m ≤ 0 := by
  rcases h with e | e | e | e | e <;> rw [e] <;> exact (by decide : (0 : Int32) ≤ 0)
/-- ; -/
theorem go4s (h : Rel tx (s, 4, op, bl) a L m 1) (hI : Inv tx (s, 4, op, bl) a L) (hT : Tb op bl a) (ht : Tok tx a m) (ha : a + 1 < (tks tx).length) (hk : tkd (tks tx) a = 33) {e : Ae} {r : List Ae} (he : (au_fl 1 op s).1 = e :: r) {c w y : Int32} (hw : w = cm c) (hy : y = cdm c y) (hyo : odm e = y)
    (hk0 : e.1 = 43 ∧ w = 3 ∨ e.1 = 44 ∧ w = 11 ∨ e.1 = 45 ∧ w = 15 ∨ e.1 = 49 ∧ w = 12) :
    Good tx 4 (au_ep e.2.1 (au_nx (au_cd c y (au_fl 1 op s).2)), 0, r, bl) a m := by
  have h5 := ht.k hk
  have har := ar4 h hI he
  have h7' : m 0 7 = nI (bend (tks tx) (a + 1)) := h.2.2.2.1
  have h33 : m 0 33 = s.2 4 := h.2.2.2.2.1.2.1
  have h34 : m 0 34 = s.2 5 := h.2.2.2.2.1.2.2
  have hst : stF e.1 := by
    rcases hk0 with ⟨q, _⟩ | ⟨q, _⟩ | ⟨q, _⟩ | ⟨q, _⟩ <;> rw [q] <;> decide
  have h48 : e.1 ≠ 48 := by
    rcases hk0 with ⟨q, _⟩ | ⟨q, _⟩ | ⟨q, _⟩ | ⟨q, _⟩ <;> rw [q] <;> decide
  have hI' := hI
  have hst4 : (4 : Int32) = 2 ∨ (4 : Int32) = 3 ∨ (4 : Int32) = 4 := by decide
  obtain ⟨hr0, s', m', e0, e3, ⟨hL, hR, hM⟩, e4, e5, ⟨g3, g5, g6⟩, ⟨b1, b2, b3, b4⟩, ⟨e7, e8⟩, e9, ha3, r15, r9⟩ := own1 h hI hT ha he hst
  subst hr0
  rw [e0]
  rw [lc1 hst h48] at b3
  have hae : a < (tks tx).length - 1 := by omega
  have hc : (s'.1 7).length < 600 := by omega
  obtain ⟨⟨p, hp, hp2⟩, t, ht1, ht2, ht3⟩ := g3
  have hr0 : (s'.1 0).getD a 0 = 33 := ((hR.2 a (Nat.le_refl _) (by omega)).1).trans hk
  have k35 : mf m' 35 = nI 1 := hM.2.2.2.2.2.2.2.1.1
  have k20 : m' 20 0 = okm e.1 := hM.2.2.2.2.2.2.2.1.2.1
  have k21 : m' 21 0 = y := (hM.2.2.2.2.2.2.2.1.2.2.1).trans hyo
  have k11 : mf m' 11 = nI (s'.1 7).length := hM.2.1.1
  have k14 : mf m' 14 = nI a := hM.2.2.1.1
  have k43 : mf m' 43 = nI p := ((e4 43 (by decide) (by decide)).trans e7).trans hp
  have hok : okm e.1 = e.1 := (stF_b hst).2.2.2.2.2.2.1
  have d35 : mf m' 35 - 1 = nI 0 := by rw [k35]; exact nI_pred 0
  have hpop := hM.pop
  rw [d35] at hpop
  have hM2 := ((hpop.cd (c := c) (x := y) (w := w) (y := y) hc hw hy).m8 (k := p) (x := nI a) (by omega) ⟨by omega, Or.inl ⟨e, List.mem_singleton.2 rfl, (stF_b hst).2.2.2.2.2.2.2.1, hp⟩⟩).nx (w := 31) (st := 0) ha3 (by
    rw [cd_r (by decide) (by decide), hr0]
    rfl)
  have p0 : ∀ g, g ≠ 14 → g ≠ 32 → g ≠ 35 → g ≠ 11 → MK 31 0 (ms (MA w y (mp m' 35 (nI 0))) 8 (nI p) (nI a)) 0 g = m 0 g := fun g i1 i2 i3 i4 => by
    rw [MK_0 ⟨i1, i2⟩, ms_j (by decide), MA_0 i4, mp_n i3]
    exact e4 g i4 i3
  have l7 : (au_cd c y s').1 7 = s'.1 7 ++ [c] := cd7 hc
  refine ⟨MK 31 0 (ms (MA w y (mp m' 35 (nI 0))) 8 (nI p) (nI a)), L, ?_, ?_, ?_⟩
  · rw [mAcc_4]
    unfold f_12045
    rw [if_pos (by rw [h5]; exact f31_0 (by decide)), har, bP_some, if_neg (by rw [h5]; decide), if_neg (by rw [h5]; decide), if_neg (by rw [h5]; decide), if_neg (by rw [h5]; decide), if_pos (by rw [h5]; rfl)]
    have hv1 : vi (nI 0) 100 := vi_n (by omega) (by omega)
    have hJ : ∀ l1, f_12047_J60 l1 w (mp m' 35 (nI 0)) = some (MK 31 0 (ms (MA w y (mp m' 35 (nI 0))) 8 (nI p) (nI a)), 1) := fun l1 => by
      unfold f_12047_J60
      have q35 : mf (mp m' 35 (nI 0)) 35 = nI 0 := mf_s
      have q21 : mg (mp m' 35 (nI 0)) 21 (nI 0) = y := by rw [mg_n (by omega), mp_j (by decide)]; exact k21
      have q11 : mf (mp m' 35 (nI 0)) 11 = nI (s'.1 7).length := (mf_mp (by decide)).trans k11
      have q43 : mf (MA w y (mp m' 35 (nI 0))) 43 = nI p := (mf_MA (by decide)).trans ((mf_mp (by decide)).trans k43)
      have q14 : mf (MA w y (mp m' 35 (nI 0))) 14 = nI a := (mf_MA (by decide)).trans ((mf_mp (by decide)).trans k14)
      rw [q35, gd_e hv1, q21, MA_e q11 (by omega), bO_some, q43, gd_e (vi_n (by omega) (by omega)), q14, bS_eq, MK_e ((mf_ms (by decide)).trans q14) (by omega), bO_some]
    have h47 : f_12047 m = some (MK 31 0 (ms (MA w y (mp m' 35 (nI 0))) 8 (nI p) (nI a)), 1) := by
      unfold f_12047
      have q35 : mf (mp m' 35 (nI 0)) 35 = nI 0 := mf_s
      have q20 : mg (mp m' 35 (nI 0)) 20 (nI 0) = e.1 := by rw [mg_n (by omega), mp_j (by decide), k20, hok]
      rw [e3, bOv_some, d35, bS_eq, q35, gd_e hv1, q20]
      rcases hk0 with ⟨q, q2⟩ | ⟨q, q2⟩ | ⟨q, q2⟩ | ⟨q, q2⟩
      · rw [if_pos q, ← q2]; exact hJ _
      · rw [if_neg (by rw [q]; decide), if_pos q, ← q2]; exact hJ _
      · rw [if_neg (by rw [q]; decide), if_neg (by rw [q]; decide), if_pos q, ← q2]; exact hJ _
      · rw [if_neg (by rw [q]; decide), if_neg (by rw [q]; decide), if_neg (by rw [q]; decide), ← q2]; exact hJ _
    rcases hk0 with ⟨q, q2⟩ | ⟨q, q2⟩ | ⟨q, q2⟩ | ⟨q, q2⟩
    · rw [if_pos q, h47, bO_some]
    · rw [if_neg (by rw [q]; decide), if_pos q, h47, bO_some]
    · rw [if_neg (by rw [q]; decide), if_neg (by rw [q]; decide), if_pos q, h47, bO_some]
    · rw [if_neg (by rw [q]; decide), if_neg (by rw [q]; decide), if_neg (by rw [q]; decide), if_pos q, h47, bO_some]
  · refine Rel.end0 hp (by omega) ((hL.co Co_cd).nx hae) (hR.nx (fun i _ => by show ((au_cd c y s').1 0).getD i 0 = _; rw [cd_r (by decide) (by decide)]) (fun i _ => by show ((au_cd c y s').1 1).getD i 0 = _; rw [cd_r (by decide) (by decide)]) (by show ((au_cd c y s').1 1).length = _; rw [cd_r (by decide) (by decide)])) hM2 (by rw [p0 7 (by decide) (by decide) (by decide) (by decide)]; exact h7') MK_32 (by rw [p0 33 (by decide) (by decide) (by decide) (by decide), h33, ← e9]; rfl) (by rw [p0 34 (by decide) (by decide) (by decide) (by decide), h34, ← e9]; rfl) ?_
    rw [MK_n (by decide) (by decide), ms_s (by omega)]
    exact if_pos rfl
  · have hr : RwS s' (au_ep e.2.1 (au_nx (au_cd c y s'))) := (RwS.cd hc).tr (RwS.nx.tr RwS.ep)
    have hr2 : (au_ep e.2.1 (au_nx (au_cd c y s'))).1 7 = s'.1 7 ++ [c] := by
      rw [ep_r (by decide)]
      exact l7
    refine Inv.mk IvO.nil (fun b hb => (g6 b hb).up hr) (Or.inl ⟨rfl, rfl, ?_⟩) ?_
    · rw [hr.2.1]
      omega
    · have hbd := (bend_s ha).1
      refine ⟨?_, fun _ hbl => Or.inr ?_, ?_, ?_, ?_⟩
      · rw [hr2, List.length_append]
        show (s'.1 7).length + 1 + 0 + 2 * bl.length ≤ 2 * (a + 1) + 0
        omega
      · rw [hr2, List.length_append]
        show (s'.1 7).length + 1 + 0 + 2 ≤ 2 * (a + 1)
        omega
      · rw [ep_r (by decide)]
        show 3 * ((au_cd c y s').1 15).length ≤ a + 1 + 0 + 0
        rw [cd_r (by decide) (by decide)]
        omega
      · show L + 0 = bl.length + 0 + 0
        omega
      · rw [dsB_n (by decide) (fun x hx => by cases hx), ep_r (by decide)]
        show 8 * ((au_cd c y s').1 9).length + 0 ≤ _
        rw [cd_r (by decide) (by decide)]
        omega
/-- { behind the expression of if or while -/
theorem go4b (h : Rel tx (s, 4, op, bl) a L m 1) (hI : Inv tx (s, 4, op, bl) a L) (hT : Tb op bl a) (ht : Tok tx a m) (ha : a + 1 < (tks tx).length) (hk : tkd (tks tx) a = 30) {e : Ae} {r : List Ae} (he : (au_fl 1 op s).1 = e :: r) {k v : Int32}
    (hk0 : e.1 = 46 ∧ k = 5 ∨ e.1 = 47 ∧ k = 7 ∧ v = e.2.2.2.1) (hl : L < 8) :
    Good tx 4 (au_up (au_cd 14 0 (au_fl 1 op s).2), 0, r, (k, e.2.1, au_cn (au_cd 14 0 (au_fl 1 op s).2), v, e.2.2.1, s.2 2) :: bl) a m := by
  have h5 := ht.k hk
  have har := ar4 h hI he
  have h7' : m 0 7 = nI (bend (tks tx) (a + 1)) := h.2.2.2.1
  have h33 : m 0 33 = s.2 4 := h.2.2.2.2.1.2.1
  have h34 : m 0 34 = s.2 5 := h.2.2.2.2.1.2.2
  have hst : stF e.1 := by
    rcases hk0 with ⟨q, _⟩ | ⟨q, _⟩ <;> rw [q] <;> decide
  have h48 : e.1 ≠ 48 := by
    rcases hk0 with ⟨q, _⟩ | ⟨q, _⟩ <;> rw [q] <;> decide
  obtain ⟨hr0, s', m', e0, e3, ⟨hL, hR, hM⟩, e4, e5, ⟨g3, g5, g6⟩, ⟨b1, b2, b3, b4⟩, ⟨e7, e8⟩, e9, ha3, r15, r9⟩ := own1 h hI hT ha he hst
  subst hr0
  rw [e0]
  rw [lc1 hst h48] at b3
  have hae : a < (tks tx).length - 1 := by omega
  have hc : (s'.1 7).length < 600 := by omega
  have hcn : au_cn (au_cd 14 0 s') = nI (s'.1 7).length := cn_e hc
  rw [hcn]
  obtain ⟨⟨p, hp, hp2⟩, t, ht1, ht2, ht3⟩ := g3
  have hr0 : (s'.1 0).getD a 0 = 30 := ((hR.2 a (Nat.le_refl _) (by omega)).1).trans hk
  have k35 : mf m' 35 = nI 1 := hM.2.2.2.2.2.2.2.1.1
  have k20 : m' 20 0 = okm e.1 := hM.2.2.2.2.2.2.2.1.2.1
  have k11 : mf m' 11 = nI (s'.1 7).length := hM.2.1.1
  have k14 : mf m' 14 = nI a := hM.2.2.1.1
  have k38 : mf m' 38 = nI bl.length := hM.2.2.2.2.2.2.2.2.1
  have k43 : mf m' 43 = e.2.1 := (e4 43 (by decide) (by decide)).trans e7
  have m33 : mf m 33 = nI L := h33.trans ((by rw [← e9]; exact hL.2.2.2.2.2.2.1))
  have k33 : mf m' 33 = nI L := (e4 33 (by decide) (by decide)).trans m33
  have k25 : e.1 = 47 → m' 25 bl.length = e.2.2.2.1 := fun q => by
    rw [e5 25 (by decide) (by decide) (by decide)]
    exact e8 q
  have hok : okm e.1 = e.1 := (stF_b hst).2.2.2.2.2.2.1
  have d35 : mf m' 35 - 1 = nI 0 := by rw [k35]; exact nI_pred 0
  have hpop := hM.pop
  rw [d35] at hpop
  have hM2 := hpop.cd (c := 14) (x := 0) (w := 13) (y := 0) hc rfl rfl
  have l7 : (au_cd 14 0 s').1 7 = s'.1 7 ++ [14] := cd7 hc
  have hnb : bl.length < 10 := by have := hL.L8; omega
  have hkb : bkm k = if e.1 = 46 then 4 else 6 := by
    rcases hk0 with ⟨q, q2⟩ | ⟨q, q2, _⟩
    · rw [q, q2]; decide
    · rw [q, q2]; decide
  have hR1 : Raw tx (au_cd 14 0 s') a := hR.cd
  have h0c : ((au_cd 14 0 s').1 0).getD a 0 = 30 := by rw [cd_r (by decide) (by decide)]; exact hr0
  have f43 : mf (MA 13 0 (mp m' 35 (nI 0))) 43 = e.2.1 := (mf_MA (by decide)).trans ((mf_mp (by decide)).trans k43)
  have f38 : mf (MA 13 0 (mp m' 35 (nI 0))) 38 = nI bl.length := (mf_MA (by decide)).trans ((mf_mp (by decide)).trans k38)
  have f33 : mf (MA 13 0 (mp m' 35 (nI 0))) 33 = nI L := (mf_MA (by decide)).trans ((mf_mp (by decide)).trans k33)
  have f14 : mf (MA 13 0 (mp m' 35 (nI 0))) 14 = nI a := (mf_MA (by decide)).trans ((mf_mp (by decide)).trans k14)
  have f25 : MA 13 0 (mp m' 35 (nI 0)) 25 = m' 25 := by rw [MA_n (by decide) (by decide) (by decide), mp_j (by decide)]
  have hI5 : s'.2 2 = nI a := hL.2.1
  have hs2 : s.2 2 = nI a := by rw [← e9]; exact hI5
  have p0 : ∀ g, g ≠ 35 → g ≠ 11 → MA 13 0 (mp m' 35 (nI 0)) 0 g = m 0 g := fun g i3 i4 => by
    rw [MA_0 i4, mp_n i3]
    exact e4 g i4 i3
  refine ⟨MW (bkm k) e.2.1 (nI (s'.1 7).length) (m' 25 bl.length) L bl.length (MA 13 0 (mp m' 35 (nI 0))), L + 1, ?_, ?_, ?_⟩
  · have h48' : f_12048 m = some (MW (bkm k) e.2.1 (nI (s'.1 7).length) (m' 25 bl.length) L bl.length (MA 13 0 (mp m' 35 (nI 0))), 1) := by
      unfold f_12048
      have q35 : mf (MA 13 0 (mp m' 35 (nI 0))) 35 = nI 0 := (mf_MA (by decide)).trans mf_s
      have q11 : mf (mp m' 35 (nI 0)) 11 = nI (s'.1 7).length := (mf_mp (by decide)).trans k11
      have q20 : mg (MA 13 0 (mp m' 35 (nI 0))) 20 (nI 0) = e.1 := by rw [mg_n (by omega), MA_n (by decide) (by decide) (by decide), mp_j (by decide), k20, hok]
      have hJ : ∀ k0, k0 = bkm k → f_12048_J59 (nI (s'.1 7).length) k0 (MA 13 0 (mp m' 35 (nI 0))) = some (MW (bkm k) e.2.1 (nI (s'.1 7).length) (m' 25 bl.length) L bl.length (MA 13 0 (mp m' 35 (nI 0))), 1) := fun k0 hk0 => by
        unfold f_12048_J59
        rw [f38, gd_e (vi_n hnb (by omega)), f43, mg_n (by omega), f25, hk0, MW_e f33 hl f38 hnb f14 (by omega), bO_some]
      have n8 : ¬ mf m 33 = 8 := by
        rw [m33]
        intro q
        have q' : nI L = nI 8 := q
        rw [nI_eq (by omega) (by omega)] at q'
        omega
      rw [if_neg n8, e3, bOv_some, d35, bS_eq, MA_e q11 (by omega), bO_some, q35, gd_e (vi_n (by omega) (by omega)), q20]
      by_cases q : e.1 = 46
      · rw [if_pos q]; exact hJ 4 (by rw [hkb, if_pos q])
      · rw [if_neg q]; exact hJ 6 (by rw [hkb, if_neg q])
    rw [mAcc_4]
    unfold f_12045
    rw [if_pos (by rw [h5]; exact f31_0 (by decide)), har, bP_some, if_neg (by rw [h5]; decide), if_pos (by rw [h5]; rfl)]
    rcases hk0 with ⟨q, _⟩ | ⟨q, _⟩
    · rw [if_pos q, h48', bO_some]
    · rw [if_neg (by rw [q]; decide), if_pos q, h48', bO_some]
  · refine blk0 (b := (k, e.2.1, nI (s'.1 7).length, v, e.2.2.1, s.2 2)) (hL.co Co_cd) hR1 hM2 ha hl rfl hnb rfl (fun q => ?_) h0c (fun j hj => ?_) (by rw [p0 7 (by decide) (by decide)]; exact h7') (by rw [p0 34 (by decide) (by decide), h34, ← e9]; rfl)
    · have q' : k = 7 := q
      rcases hk0 with ⟨_, q2⟩ | ⟨q1, _, q3⟩
      · rw [q2] at q'; exact absurd q' (by decide)
      · show m' 25 bl.length = v
        rw [k25 q1, q3]
    · obtain ⟨j1, ⟨x, hx, _, hx2⟩ | ⟨b, hb1, hb2⟩⟩ := hj
      · rw [List.mem_singleton.1 hx] at hx2
        exact ⟨j1, Or.inr ⟨_, List.mem_cons_self .., hx2⟩⟩
      · exact ⟨j1, Or.inr ⟨b, List.mem_cons_of_mem _ hb1, hb2⟩⟩
  · have hr : RwS s' (au_up (au_cd 14 0 s')) := (RwS.cd (c := 14) (y := 0) hc).tr RwS.up
    have l7' : (au_up (au_cd 14 0 s')).1 7 = s'.1 7 ++ [14] := l7
    refine Inv.mk IvO.nil (fun b hb => ?_) (Or.inl ⟨rfl, rfl, ?_⟩) ?_
    · rcases List.mem_cons.1 hb with r | r
      · rw [r]
        refine ⟨?_, ⟨p, hp, by rw [hr.2.1]; exact hp2⟩, ⟨(s'.1 7).length, rfl, ?_, ?_⟩, ⟨a, hs2, by omega, ?_⟩, fun q => ?_⟩
        · rcases hk0 with ⟨_, q2⟩ | ⟨_, q2, _⟩
          · exact Or.inl q2
          · exact Or.inr (Or.inr (Or.inl q2))
        · rw [l7', List.length_append]
          exact Nat.lt_succ_self _
        · rw [l7', gD_app_r]
          decide
        · show ((au_cd 14 0 s').1 0).getD a 0 ≠ 35 ∧ ((au_cd 14 0 s').1 0).getD a 0 ≠ 4
          rw [h0c]
          decide
        · have q' : k = 10 := q
          rcases hk0 with ⟨_, q2⟩ | ⟨_, q2, _⟩ <;> rw [q2] at q' <;> exact absurd q' (by decide)
      · exact (g6 b r).up hr
    · rw [hr.2.1]
      omega
    · have hbd := (bend_s ha).1
      refine ⟨?_, (fun _ q => by cases q), ?_, ?_, ?_⟩
      · rw [l7', List.length_append]
        show (s'.1 7).length + 1 + 0 + 2 * (bl.length + 1) ≤ 2 * (a + 1) + 0
        omega
      · show 3 * ((au_cd 14 0 s').1 15).length ≤ a + 1 + 0 + 0
        rw [cd_r (by decide) (by decide)]
        omega
      · show L + 1 + 0 = bl.length + 1 + 0 + 0
        omega
      · rw [dsB_n (by decide) (fun x hx => by cases hx), List.any_cons]
        show 8 * ((au_cd 14 0 s').1 9).length + 0 ≤ _
        rw [cd_r (by decide) (by decide)]
        have hk10 : ((k, e.2.1, nI (s'.1 7).length, v, e.2.2.1, s.2 2).1 == (10 : Int32)) = false := by
          rcases hk0 with ⟨_, q2⟩ | ⟨_, q2, _⟩ <;> rw [q2] <;> rfl
        rw [hk10, Bool.false_or]
        omega
end OPS
