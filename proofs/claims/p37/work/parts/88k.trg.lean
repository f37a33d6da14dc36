/-! acts: what ends an expression -/
section OPE
variable {tx : List Int32} {s : Sx} {op bl : List Ae} {a L : Nat} {m : Mx}
theorem RwS.rs {k : Nat} {i x : Int32} (h : k ≠ 0 ∧ k ≠ 5 ∧ k ≠ 7) : RwS s (au_rs k i x s) := by
  have e : ∀ j, j ≠ k → (au_rs k i x s).1 j = s.1 j := fun j hj => if_neg hj
  exact RwS.of (e 0 (fun q => h.1 q.symm)) (by rw [e 5 (fun q => h.2.1 q.symm)]) (e 7 (fun q => h.2.2 q.symm))
theorem rs_r {k j : Nat} {i x : Int32} (h : j ≠ k) : (au_rs k i x s).1 j = s.1 j := if_neg h
theorem clz_def (c n : Int32) : au_clz c n s = au_rs 17 c (au_cn (au_cd 15 0 (au_rs 16 c n (au_dn (au_nx s))))) (au_cd 15 0 (au_rs 16 c n (au_dn (au_nx s)))) := rfl
theorem clz_r {c n : Int32} {j : Nat} (h : j ≠ 7 ∧ j ≠ 8 ∧ j ≠ 16 ∧ j ≠ 17) : (au_clz c n s).1 j = s.1 j := by
  rw [clz_def, rs_r h.2.2.2, cd_r h.1 h.2.1, rs_r h.2.2.1]
  rfl
theorem clz_7 {c n : Int32} (hc : (s.1 7).length < 600) : (au_clz c n s).1 7 = s.1 7 ++ [15] := by
  have e : (au_rs 16 c n (au_dn (au_nx s))).1 7 = s.1 7 := by
    rw [rs_r (by decide)]
    rfl
  rw [clz_def, rs_r (by decide), cd7 (by rw [e]; exact hc), e]
theorem RwS.clz {c n : Int32} (hc : (s.1 7).length < 600) : RwS s (au_clz c n s) := by
  refine ⟨fun i h => ?_, by rw [clz_r (by decide)], ?_, fun k hk => ?_⟩
  · rw [clz_r (by decide)]; exact h
  · rw [clz_7 hc, List.length_append]; omega
  · rw [clz_7 hc, gD_app_l hk]
/-- a call is closed: all that is so then -/
theorem cl36 {k : Nat} {n : Int32} {xr : Int32 × Int32 × Int32} {xs : List Ae} {f : Ae} (hL : Lv a ((tks tx).length - 1) (L + 1) s) (hR : Raw tx s a) (hM : RR (tks tx) tx s a ((42, nI k, n, xr) :: (xs ++ [f])) bl (oeP ((42, nI k, n, xr) :: (xs ++ [f])) bl) (ocP ((42, nI k, n, xr) :: (xs ++ [f]))) 0 m) (hkk : k < 110)
    (h7 : m 0 7 = nI (bend (tks tx) (a + 1))) (h33 : m 0 33 = s.2 4) (h34 : m 0 34 = s.2 5) (h43 : m 0 43 = f.2.1) (h25 : f.1 = 47 → m 25 bl.length = f.2.2.2.1) (hf : stF f.1) (hx : ∀ x, x ∈ xs → isEx x.1) (hO : IvO s (xs ++ [f])) (hF : FV s f (a + 1) 2) (hB : ∀ b, b ∈ bl → BlV s b)
    (b1 : (s.1 7).length + (xs ++ [f]).length + 2 * bl.length ≤ 2 * a) (b2 : 3 * (s.1 15).length ≤ a + 1 + cc (xs ++ [f])) (b3 : L = bl.length + lc (xs ++ [f])) (b4 : 8 * (s.1 9).length ≤ bend (tks tx) a + if (bl.any fun b => b.1 == 10) = true then 1 else 0)
    (hlen : (xs ++ [f]).length < 99) (ha : a + 1 < (tks tx).length) (hk : tkd (tks tx) a = 29) (ha3 : a < 300) :
    ∃ m' L', f_12036 m = some (m', 1) ∧ Rel tx (au_en bl (xs ++ [f]) (au_clz (nI k) n s)) (a + 1) L' m' 0 ∧ Inv tx (au_en bl (xs ++ [f]) (au_clz (nI k) n s)) (a + 1) L' := by
  have hae : a < (tks tx).length - 1 := by omega
  have hop1 : 1 ≤ (xs ++ [f]).length := by rw [List.length_append]; exact Nat.le_add_left _ _
  have hc : (s.1 7).length < 600 := by omega
  have hr0 : (s.1 0).getD a 0 = 29 := ((hR.2 a (Nat.le_refl _) (by omega)).1).trans hk
  have f14 : mf m 14 = nI a := hM.2.2.1.1
  have f11 : mf m 11 = nI (s.1 7).length := hM.2.1.1
  have f35 : mf m 35 = nI ((xs ++ [f]).length + 1) := hM.2.2.2.2.2.2.2.1.1
  have f21 : m 21 (xs ++ [f]).length = nI k := by
    have := hM.2.2.2.2.2.2.2.1.2.2.1
    rw [this]
    unfold odm
    dsimp only
    rw [if_neg (by decide), if_pos rfl]
  have f33 : mf m 33 = nI (L + 1) := h33.trans hL.2.2.2.2.2.2.1
  have hM1 := hM.cls (w := 27) (st := 4) hkk (oc' := ocP (xs ++ [f])) (fun j hj => by
    by_cases e : j = k
    · exact Or.inl e
    · right
      rintro ⟨j1, z, hz, hz1, hz2⟩
      rcases List.mem_cons.1 hz with r | r
      · rw [r] at hz2
        exact e ((nI_eq (by omega) (by omega)).1 hz2).symm
      · exact hj ⟨j1, z, r, hz1, hz2⟩) ha3 (by rw [hr0]; rfl) hc
  have e35 : mf (MK 27 4 m) 35 - 1 = nI (xs ++ [f]).length := by rw [mf_MK (by decide), f35, nI_pred]
  have e33 : mf (mp (MK 27 4 m) 35 (nI (xs ++ [f]).length)) 33 - 1 = nI L := by rw [mf_mp (by decide), mf_MK (by decide), f33, nI_pred]
  rw [e35, e33] at hM1
  generalize hm4 : ms (MA 10 0 (mp (mp (MK 27 4 m) 35 (nI (xs ++ [f]).length)) 33 (nI L))) 19 (nI k) (nI (s.1 7).length) = m4 at hM1
  have g0 : ∀ g, g ≠ 11 → g ≠ 33 → g ≠ 35 → g ≠ 14 → g ≠ 32 → m4 0 g = m 0 g := fun g i1 i2 i3 i4 i5 => by
    rw [← hm4, ms_j (by decide), MA_0 i1, mp_n i2, mp_n i3, MK_0 ⟨i4, i5⟩]
  have g33 : m4 0 33 = nI L := by rw [← hm4, ms_j (by decide), MA_0 (by decide), mp_s]
  have g25 : m4 25 = m 25 := by rw [← hm4, ms_j (by decide), MA_n (by decide) (by decide) (by decide), mp_j (by decide), mp_j (by decide), MK_n (by decide) (by decide)]
  have hacc : f_12036 m = f_12034 m4 := by
    unfold f_12036
    rw [MK_e f14 (by omega), bO_some, bS_eq, e35, bS_eq, e33]
    have q35 : mf (mp (mp (MK 27 4 m) 35 (nI (xs ++ [f]).length)) 33 (nI L)) 35 = nI (xs ++ [f]).length := by rw [mf_mp (by decide), mf_s]
    have q11 : mf (mp (mp (MK 27 4 m) 35 (nI (xs ++ [f]).length)) 33 (nI L)) 11 = nI (s.1 7).length := by rw [mf_mp (by decide), mf_mp (by decide), mf_MK (by decide)]; exact f11
    have q21 : mg (mp (mp (MK 27 4 m) 35 (nI (xs ++ [f]).length)) 33 (nI L)) 21 (nI (xs ++ [f]).length) = nI k := by
      rw [mg_n (by omega), mp_j (by decide), mp_j (by decide), MK_n (by decide) (by decide)]
      exact f21
    rw [q35, gd_e (vi_n (by omega) (by omega)), MA_e q11 (by omega), bO_some, q21, gd_e (vi_n hkk (by omega)), bS_eq, hm4, bO_id]
  have hLv : Lv (a + 1) ((tks tx).length - 1) L (au_clz (nI k) n s) := ((hL.nx hae).dn).co Co_clz
  have hRz : Raw tx (au_clz (nI k) n s) (a + 1) := hR.nx (fun i _ => by rw [clz_r (by decide)]) (fun i _ => by rw [clz_r (by decide)]) (by rw [clz_r (by decide)])
  have hr : RwS s (au_clz (nI k) n s) := RwS.clz hc
  have hM2 := hM1.oew (oe' := oeP (xs ++ [f]) bl) (fun j hj => by
    obtain ⟨j1, ⟨z, hz, hz1, hz2⟩ | q⟩ := hj
    · rcases List.mem_cons.1 hz with r | r
      · rw [r] at hz1
        exact absurd hz1 (by show ¬ (43 : Int32) ≤ 42; decide)
      · exact ⟨j1, Or.inl ⟨z, r, hz1, hz2⟩⟩
    · exact ⟨j1, Or.inr q⟩)
  have hbd := (bend_s ha).1
  obtain ⟨m', L', x1, x2, x3⟩ := Rel.en hLv hRz hM2 (by rw [g0 7 (by decide) (by decide) (by decide) (by decide) (by decide)]; exact h7) (by rw [g33]; exact hLv.2.2.2.2.2.2.1.symm) (by
      rw [g0 34 (by decide) (by decide) (by decide) (by decide) (by decide), h34]
      rfl) (by rw [g0 43 (by decide) (by decide) (by decide) (by decide) (by decide)]; exact h43) (fun q => by rw [g25]; exact h25 q) hf hx (hO.up hr (by rw [clz_r (by decide)]; exact Nat.le_refl _)) (hF.up hr (by omega)) (fun b hb => (hB b hb).up hr)
    ⟨by rw [clz_7 hc, List.length_append]; show (s.1 7).length + 1 + _ + _ + 1 ≤ _; omega, by rw [clz_r (by decide)]; omega, b3, by
      rw [clz_r (by decide)]
      split at b4
      · rename_i w; rw [if_pos w]; omega
      · rename_i w; rw [if_neg w]; omega⟩ (by omega)
  exact ⟨m', L', hacc.trans x1, x2, x3⟩
/-- ) of a call without arguments -/
theorem go3c (h : Rel tx (s, 3, op, bl) a L m 1) (hI : Inv tx (s, 3, op, bl) a L) (ht : Tok tx a m) (ha : a + 1 < (tks tx).length) (hk : tkd (tks tx) a = 29) : ∃ e r, op = e :: r ∧ Good tx 3 (au_en bl r (au_clz e.2.1 e.2.2.1 s)) a m := by
  have h5 := ht.k hk
  have ha3 := h.a3 ha
  have hst : (3 : Int32) = 2 ∨ (3 : Int32) = 3 ∨ (3 : Int32) = 4 := by decide
  obtain ⟨hO, hB, hS, hN⟩ := hI.opx hst
  obtain ⟨h35, hlen⟩ := h.o35 hst hI
  obtain ⟨hL, hR, hM, h7, h33, h34, hE, h32⟩ := h.opx hst
  obtain ⟨xs, f, hop, g1, g2, g3, g4, g5⟩ := Sh.sE hS (by decide)
  obtain ⟨q1, q2, q3, q4, q5⟩ := hN
  obtain ⟨⟨e0, e1, en, xr⟩, r, her, he42⟩ := g4 (by decide)
  have he42' : e0 = 42 := he42
  subst he42'
  have h51 := stF_b g2
  have hxs : ∃ ys, xs = (42, e1, en, xr) :: ys ∧ r = ys ++ [f] := by
    rw [hop] at her
    cases xs with
    | nil =>
      exfalso
      have : f = (42, e1, en, xr) := (List.cons.inj her).1
      rw [this] at h51
      exact h51.2.2.2.1 rfl
    | cons y ys =>
      obtain ⟨p1, p2⟩ := List.cons.inj her
      exact ⟨ys, by rw [p1], p2.symm⟩
  obtain ⟨ys, hxs1, hr1⟩ := hxs
  subst hr1
  have h53 : ∀ x, x ∈ op → x.1 ≠ 53 := fun x q => by
    rw [hop] at q
    rcases List.mem_append.1 q with r | r
    · exact (isEx_n (g1 x r)).1
    · rw [List.mem_singleton.1 r]; exact h51.2.2.2.2.2.2.2.2.1
  rw [dsB_n (by decide) h53] at q5
  rw [her] at hM hO hlen q1 q3 q4
  have hD := hO.2.1
  unfold Dc at hD
  rw [if_pos rfl] at hD
  obtain ⟨k, hk1, hk2, hk3⟩ := hD
  have hk1' : e1 = nI k := hk1
  subst hk1'
  have q1' : (s.1 7).length + ((ys ++ [f]).length + 1) + 2 * bl.length ≤ 2 * a + 0 := q1
  have c1 : cc ((42, nI k, en, xr) :: (ys ++ [f])) = cc (ys ++ [f]) + 1 := by rw [cc_cons]; rfl
  have c2 : lc ((42, nI k, en, xr) :: (ys ++ [f])) = lc (ys ++ [f]) + 1 := by rw [lc_cons]; rfl
  rw [c1] at q3
  rw [c2] at q4
  have q3' : 3 * (s.1 15).length ≤ a + (cc (ys ++ [f]) + 1) + 0 := q3
  have q4' : L + 0 = bl.length + (lc (ys ++ [f]) + 1) + 0 := q4
  have q5' : 8 * (s.1 9).length + 0 ≤ _ := q5
  have g3' : FV s f a 1 := g3
  have hL1 : L = (bl.length + lc (ys ++ [f])) + 1 := by omega
  rw [hL1] at hL
  have hlen' : (ys ++ [f]).length + 1 < 100 := hlen
  have hcl : cc (ys ++ [f]) ≤ lc (ys ++ [f]) := by
    unfold cc lc
    refine List.countP_mono_left fun x _ h => ?_
    unfold ccF at h
    unfold lcF
    rw [h]
    simp
  have hL8 := hL.L8
  have hE' : Ex 3 (xs ++ [f]) bl a s m := by rw [hop] at hE; exact hE
  obtain ⟨m', L', x1, x2, x3⟩ := cl36 (k := k) (n := en) (xr := xr) (xs := ys) (f := f) (L := bl.length + lc (ys ++ [f])) hL hR hM (by omega) h7 h33 h34 (hE'.f43 h51.2.2.2.2.2.2.2.2.2.1 h51.2.2.2.2.2.2.2.2.2.2.1) (fun q => hE'.f47 q) g2 (fun x hx => g1 x (by rw [hxs1]; exact List.mem_cons_of_mem _ hx)) hO.tl (g3'.up RwS.r (by omega)) hB (by omega) (by omega) rfl (by omega) (by omega) ha hk ha3
  refine ⟨_, _, her, m', L', ?_, x2, x3⟩
  rw [mAcc_3]
  unfold f_12043
  rw [if_neg (by rw [h5]; decide), if_neg (by rw [h5]; decide), if_neg (by rw [h5]; decide), if_neg (by rw [h5]; decide), if_neg (by rw [h5]; decide), if_neg (by rw [h5]; decide), if_pos (by rw [h5]; rfl), if_pos (show mf m 32 = 3 from h32), x1, bO_some]
/-- what is around, at a token that is no operation -/
theorem ar4 (h : Rel tx (s, 4, op, bl) a L m 1) (hI : Inv tx (s, 4, op, bl) a L) {e : Ae} {r : List Ae} (he : (au_fl 1 op s).1 = e :: r) : f_12033 m = some e.1 := by
  have hst4 : (4 : Int32) = 2 ∨ (4 : Int32) = 3 ∨ (4 : Int32) = 4 := by decide
  obtain ⟨hO, hB, hS, hN⟩ := hI.opx hst4
  obtain ⟨h35, hlen⟩ := h.o35 hst4 hI
  obtain ⟨hL, hR, hM, h7, h33, h34, hE, h32⟩ := h.opx hst4
  unfold f_12033
  rw [h35]
  exact ar_12033 op 1000 s s m e r hM.2.2.2.2.2.2.2.1.2 (fun x hx => hO.1 x hx) hlen (by omega) he
theorem suf {xs : List Ae} {f e : Ae} {r : List Ae} (h : xs ++ [f] = e :: r) (hf : stF f.1) (he : ¬ stF e.1) : ∃ ys, xs = e :: ys ∧ r = ys ++ [f] := by
  cases xs with
  | nil =>
    exfalso
    have : f = e := (List.cons.inj h).1
    rw [this] at hf
    exact he hf
  | cons y ys =>
    obtain ⟨p1, p2⟩ := List.cons.inj h
    exact ⟨ys, by rw [p1], p2.symm⟩
theorem suf0 {xs : List Ae} {f e : Ae} {r : List Ae} (h : xs ++ [f] = e :: r) (hx : ∀ x, x ∈ xs → isEx x.1) (he : stF e.1) : xs = [] ∧ f = e ∧ r = [] := by
  cases xs with
  | nil =>
    obtain ⟨p1, p2⟩ := List.cons.inj h
    exact ⟨rfl, p1, p2.symm⟩
  | cons y ys =>
    exfalso
    obtain ⟨p1, p2⟩ := List.cons.inj h
    have := hx y (List.mem_cons_self ..)
    rw [p1] at this
    have hb := stF_b he
    rcases this with q | q | q | q
    · exact hb.2.1 q
    · exact hb.2.2.2.2.2.2.2.2.2.2.2.1 q
    · exact hb.2.2.2.2.2.2.2.2.2.2.2.2 q
    · exact hb.2.2.2.1 q
/-- ) of a parenthesis -/
theorem go4p (h : Rel tx (s, 4, op, bl) a L m 1) (hI : Inv tx (s, 4, op, bl) a L) (hT : Tb op bl a) (ht : Tok tx a m) (ha : a + 1 < (tks tx).length) (hk : tkd (tks tx) a = 29) {e : Ae} {r : List Ae} (he : (au_fl 1 op s).1 = e :: r) (he1 : e.1 = 41) :
    Good tx 4 (au_en bl r (au_dn (au_nx (au_fl 1 op s).2))) a m := by
  have h5 := ht.k hk
  have har := ar4 h hI he
  have h7' : m 0 7 = nI (bend (tks tx) (a + 1)) := h.2.2.2.1
  have h33 : m 0 33 = s.2 4 := h.2.2.2.2.1.2.1
  have h34 : m 0 34 = s.2 5 := h.2.2.2.2.1.2.2
  obtain ⟨s', op', xs, f, m', e1, e2, e3, ⟨hL, hR, hM⟩, e4, e5, ⟨g1, g2, g3, g4, g5, g6⟩, ⟨b1, b2, b3, b4⟩, e6, ⟨e7, e8⟩, e9, ⟨ha3, hlen, hL8⟩, _⟩ := flAll (lv := 1) (by decide) h hI hT ha
  rw [e1] at he ⊢
  dsimp only at he ⊢
  have hae : a < (tks tx).length - 1 := by omega
  obtain ⟨ys, hy1, hy2⟩ := suf (e2.symm.trans he) g2 (by rw [he1]; decide)
  subst hy2
  subst he
  have c1 : cc (e :: (ys ++ [f])) = cc (ys ++ [f]) := by
    rw [cc_cons]
    unfold ccF
    rw [he1]
    rfl
  have c2 : lc (e :: (ys ++ [f])) = lc (ys ++ [f]) + 1 := by
    rw [lc_cons]
    unfold lcF
    rw [he1]
    rfl
  rw [c1] at b2
  rw [c2] at b3
  have b1' : (s'.1 7).length + ((ys ++ [f]).length + 1) + 2 * bl.length ≤ 2 * a := b1
  have hr0 : (s'.1 0).getD a 0 = 29 := ((hR.2 a (Nat.le_refl _) (by omega)).1).trans hk
  have hL1 : L = (bl.length + lc (ys ++ [f])) + 1 := by omega
  rw [hL1] at hL
  have hlen' : (ys ++ [f]).length + 1 < 100 := hlen
  have k35 : mf m' 35 = nI ((ys ++ [f]).length + 1) := hM.2.2.2.2.2.2.2.1.1
  have k14 : mf m' 14 = nI a := hM.2.2.1.1
  have k33 : mf m' 33 = nI (bl.length + lc (ys ++ [f]) + 1) := ((e4 33 (by decide) (by decide)).trans h33).trans (by rw [← e9]; exact hL.2.2.2.2.2.2.1)
  have d35 : mf m' 35 - 1 = nI (ys ++ [f]).length := by rw [k35, nI_pred]
  have hp := hM.pop
  rw [d35] at hp
  have d33 : mf (mp m' 35 (nI (ys ++ [f]).length)) 33 - 1 = nI (bl.length + lc (ys ++ [f])) := by rw [mf_mp (by decide), k33, nI_pred]
  have hM2 := ((hp.f (f := 33) (x := nI (bl.length + lc (ys ++ [f]))) (by decide)).nx (w := 27) (st := 4) ha3 (by rw [hr0]; rfl)).i (s' := au_dn (au_nx s')) rfl
  have hM3 := (hM2.oew (oe' := oeP (ys ++ [f]) bl) (fun j hj => by
    obtain ⟨j1, ⟨z, hz, hz1, hz2⟩ | q⟩ := hj
    · rcases List.mem_cons.1 hz with r | r
      · rw [r, he1] at hz1
        exact absurd hz1 (by decide)
      · exact ⟨j1, Or.inl ⟨z, r, hz1, hz2⟩⟩
    · exact ⟨j1, Or.inr q⟩)).ocw (oc' := ocP (ys ++ [f])) (fun j hj => by
    obtain ⟨j1, z, hz, hz1, hz2⟩ := hj
    rcases List.mem_cons.1 hz with r | r
    · rw [r, he1] at hz1
      exact absurd hz1 (by decide)
    · exact ⟨j1, z, r, hz1, hz2⟩)
  have p0 : ∀ g, g ≠ 14 → g ≠ 32 → g ≠ 33 → g ≠ 35 → g ≠ 11 → MK 27 4 (mp (mp m' 35 (nI (ys ++ [f]).length)) 33 (nI (bl.length + lc (ys ++ [f])))) 0 g = m 0 g := fun g i1 i2 i3 i4 i5 => by
    rw [MK_0 ⟨i1, i2⟩, mp_n i3, mp_n i4]
    exact e4 g i5 i4
  have hLv : Lv (a + 1) ((tks tx).length - 1) (bl.length + lc (ys ++ [f])) (au_dn (au_nx s')) := (hL.nx hae).dn
  have hr : RwS s' (au_dn (au_nx s')) := RwS.of rfl rfl rfl
  have hbd := (bend_s ha).1
  obtain ⟨m3, L3, x1, x2, x3⟩ := Rel.en hLv (hR.nx (fun _ _ => rfl) (fun _ _ => rfl) rfl) hM3 (by rw [p0 7 (by decide) (by decide) (by decide) (by decide) (by decide)]; exact h7') (by rw [MK_0 (by decide), mp_s]; exact hLv.2.2.2.2.2.2.1.symm) (by rw [p0 34 (by decide) (by decide) (by decide) (by decide) (by decide), h34, ← e9]; rfl)
    (by rw [p0 43 (by decide) (by decide) (by decide) (by decide) (by decide)]; exact e7) (fun q => by
      rw [MK_n (by decide) (by decide), mp_j (by decide), mp_j (by decide), e5 25 (by decide) (by decide) (by decide)]
      exact e8 q) g2 (fun x hx => g1 x (by rw [hy1]; exact List.mem_cons_of_mem _ hx)) (g4.tl.up hr (Nat.le_refl _)) (g3.up hr (by omega)) (fun b hb => (g6 b hb).up hr)
    ⟨by show (s'.1 7).length + _ + _ + 1 ≤ _; omega, by show 3 * (s'.1 15).length ≤ _; omega, rfl, by
      show 8 * (s'.1 9).length ≤ _
      split at b4
      · rename_i w; rw [if_pos w]; omega
      · rename_i w; rw [if_neg w]; omega⟩ (by omega)
  refine ⟨m3, L3, ?_, x2, x3⟩
  rw [mAcc_4]
  unfold f_12045
  rw [if_pos (by rw [h5]; exact (by decide : f_12031 27 (fun _ _ => 0) ≤ 0)), har, bP_some, if_pos (by rw [h5]; rfl), if_pos he1]
  unfold f_12045_J132 f_12046
  rw [e3, bOv_some, if_neg (by rw [he1]; decide), bS_eq, bS_eq, d35, d33, MK_e (m := mp (mp m' 35 (nI (ys ++ [f]).length)) 33 (nI (bl.length + lc (ys ++ [f])))) ((mf_mp (by decide)).trans ((mf_mp (by decide)).trans k14)) (by omega), bO_some, if_neg (by decide), x1, bO_some, if_neg (by decide), bO_some]
/-- , and ) of a call: what they have in common -/
theorem call42 (h : Rel tx (s, 4, op, bl) a L m 1) (hI : Inv tx (s, 4, op, bl) a L) (hT : Tb op bl a) (ha : a + 1 < (tks tx).length) {e : Ae} {r : List Ae} (he : (au_fl 1 op s).1 = e :: r) (he1 : e.1 = 42) :
    ∃ s' k n xr ys f m', (au_fl 1 op s).2 = s' ∧ e = (42, nI k, n, xr) ∧ r = ys ++ [f] ∧ f_12032 1 m = some m' ∧ (Lv a ((tks tx).length - 1) (bl.length + lc (ys ++ [f]) + 1) s' ∧ Raw tx s' a ∧ RR (tks tx) tx s' a ((42, nI k, n + 1, xr) :: (ys ++ [f])) bl (oeP ((42, nI k, n + 1, xr) :: (ys ++ [f])) bl) (ocP ((42, nI k, n + 1, xr) :: (ys ++ [f]))) 0 (ms m' 18 (nI k) (n + 1))) ∧ (∀ g, g ≠ 11 → g ≠ 35 → m' 0 g = m 0 g) ∧ FrA m m' ∧
      ((∀ x, x ∈ ys → isEx x.1) ∧ stF f.1 ∧ FV s' f a 2 ∧ IvO s' ((42, nI k, n + 1, xr) :: (ys ++ [f])) ∧ RwS s s' ∧ (∀ b, b ∈ bl → BlV s' b)) ∧ ((s'.1 7).length + (ys ++ [f]).length + 1 + 2 * bl.length ≤ 2 * a ∧ 3 * (s'.1 15).length ≤ a + (cc (ys ++ [f]) + 1) ∧ L = bl.length + lc (ys ++ [f]) + 1 ∧ 8 * (s'.1 9).length ≤ bend (tks tx) a + if (bl.any fun b => b.1 == 10) = true then 1 else 0) ∧
      (m 0 43 = f.2.1 ∧ (f.1 = 47 → m 25 bl.length = f.2.2.2.1)) ∧ s'.2 = s.2 ∧ (a < 300 ∧ (ys ++ [f]).length < 99 ∧ k < 110) ∧ (mf m' 35 = nI ((ys ++ [f]).length + 1) ∧ m' 21 (ys ++ [f]).length = nI k ∧ m' 18 k = n) := by
  obtain ⟨s', op', xs, f, m', e1, e2, e3, ⟨hL, hR, hM⟩, e4, e5, ⟨g1, g2, g3, g4, g5, g6⟩, ⟨b1, b2, b3, b4⟩, e6, ⟨e7, e8⟩, e9, ⟨ha3, hlen, hL8⟩, _⟩ := flAll (lv := 1) (by decide) h hI hT ha
  rw [e1] at he ⊢
  dsimp only at he ⊢
  obtain ⟨ys, hy1, hy2⟩ := suf (e2.symm.trans he) g2 (by rw [he1]; decide)
  subst hy2
  subst he
  obtain ⟨e0, ek, n, xr⟩ := e
  have he1' : e0 = 42 := he1
  subst he1'
  have hD := g4.2.1
  unfold Dc at hD
  rw [if_pos rfl] at hD
  obtain ⟨k, hk1, hk2, hk3⟩ := hD
  have hk1' : ek = nI k := hk1
  subst hk1'
  have c1 : cc ((42, nI k, n, xr) :: (ys ++ [f])) = cc (ys ++ [f]) + 1 := by rw [cc_cons]; rfl
  have c2 : lc ((42, nI k, n, xr) :: (ys ++ [f])) = lc (ys ++ [f]) + 1 := by rw [lc_cons]; rfl
  rw [c1] at b2
  rw [c2] at b3
  have b1' : (s'.1 7).length + ((ys ++ [f]).length + 1) + 2 * bl.length ≤ 2 * a := b1
  have hlen' : (ys ++ [f]).length + 1 < 100 := hlen
  have hcl : cc (ys ++ [f]) ≤ lc (ys ++ [f]) := by
    unfold cc lc
    refine List.countP_mono_left fun x _ h => ?_
    unfold ccF at h
    unfold lcF
    rw [h]
    simp
  have hk110 : k < 110 := by omega
  have f21 : m' 21 (ys ++ [f]).length = nI k := by
    have := hM.2.2.2.2.2.2.2.1.2.2.1
    rw [this]
    unfold odm
    dsimp only
    rw [if_neg (by decide), if_pos rfl]
  have f18 : m' 18 k = n := by
    obtain ⟨k', w1, w2, w3⟩ := hM.2.2.2.2.2.2.2.1.2.2.2.1 rfl
    have : k = k' := (nI_eq (by omega) (by omega)).1 w1
    rw [this]
    exact w3
  refine ⟨s', k, n, xr, ys, f, m', rfl, rfl, rfl, e3, ⟨by rw [show bl.length + lc (ys ++ [f]) + 1 = L by omega]; exact hL, hR, ?_⟩, e4, e5, ⟨fun x hx => g1 x (by rw [hy1]; exact List.mem_cons_of_mem _ hx), g2, g3, ?_, g5, g6⟩, ⟨by omega, b2, by omega, b4⟩, ⟨e7, e8⟩, e9, ⟨ha3, by omega, hk110⟩, hM.2.2.2.2.2.2.2.1.1, f21, f18⟩
  · have z := hM.giv (x := n + 1) hk110 ⟨by omega, _, List.mem_cons_self .., rfl, rfl⟩ (fun x hx h42 => hk3.all x hx h42)
    refine (z.oew (fun j hj => ?_)).ocw (fun j hj => ?_)
    · obtain ⟨j1, ⟨z, hz, hz1, hz2⟩ | q⟩ := hj
      · rcases List.mem_cons.1 hz with r | r
        · rw [r] at hz1
          exact absurd hz1 (by show ¬ (43 : Int32) ≤ 42; decide)
        · exact ⟨j1, Or.inl ⟨z, List.mem_cons_of_mem _ r, hz1, hz2⟩⟩
      · exact ⟨j1, Or.inr q⟩
    · obtain ⟨j1, z, hz, hz1, hz2⟩ := hj
      rcases List.mem_cons.1 hz with r | r
      · rw [r] at hz2
        exact ⟨j1, _, List.mem_cons_self .., rfl, hz2⟩
      · exact ⟨j1, z, List.mem_cons_of_mem _ r, hz1, hz2⟩
  · refine ⟨fun x hx => ?_, ?_, fun q => absurd q (by show ¬ isBin 42; decide +kernel), g4.2.2.2⟩
    · rcases List.mem_cons.1 hx with r | r
      · have := g4.1 _ (List.mem_cons_self ..)
        rw [r]
        exact ⟨this.1, fun q => absurd q (by show ¬ ((42 : Int32) = 23 ∨ (42 : Int32) = 24); decide)⟩
      · exact g4.1 x (List.mem_cons_of_mem _ r)
    · show Dc _ ((42, nI k, n + 1, xr) :: (ys ++ [f]))
      unfold Dc
      rw [if_pos rfl]
      exact ⟨k, rfl, hk2, hk3⟩
/-- ) of a call -/
theorem go4c (h : Rel tx (s, 4, op, bl) a L m 1) (hI : Inv tx (s, 4, op, bl) a L) (hT : Tb op bl a) (ht : Tok tx a m) (ha : a + 1 < (tks tx).length) (hk : tkd (tks tx) a = 29) {e : Ae} {r : List Ae} (he : (au_fl 1 op s).1 = e :: r) (he1 : e.1 = 42) :
    Good tx 4 (au_en bl r (au_clz e.2.1 (e.2.2.1 + 1) (au_fl 1 op s).2)) a m := by
  have h5 := ht.k hk
  have har := ar4 h hI he
  have h7' : m 0 7 = nI (bend (tks tx) (a + 1)) := h.2.2.2.1
  have h33 : m 0 33 = s.2 4 := h.2.2.2.2.1.2.1
  have h34 : m 0 34 = s.2 5 := h.2.2.2.2.1.2.2
  obtain ⟨s', k, n, xr, ys, f, m', e0, e1, e2, e3, ⟨hL, hR, hM⟩, e4, e5, ⟨g1, g2, g3, g4, g5, g6⟩, ⟨b1, b2, b3, b4⟩, ⟨e7, e8⟩, e9, ⟨ha3, hlen, hk110⟩, k35, k21, k18⟩ := call42 h hI hT ha he he1
  rw [e0]
  subst e1
  subst e2
  dsimp only
  obtain ⟨m3, L3, x1, x2, x3⟩ := cl36 (k := k) (n := n + 1) (xr := xr) (xs := ys) (f := f) (L := bl.length + lc (ys ++ [f])) hL hR hM hk110 (by rw [ms_j (by decide), e4 7 (by decide) (by decide)]; exact h7') (by rw [ms_j (by decide), e4 33 (by decide) (by decide), h33, ← e9]) (by rw [ms_j (by decide), e4 34 (by decide) (by decide), h34, ← e9]) (by rw [ms_j (by decide), e4 43 (by decide) (by decide)]; exact e7) (fun q => by
      rw [ms_j (by decide), e5 25 (by decide) (by decide) (by decide)]
      exact e8 q) g2 g1 g4.tl (g3.up RwS.r (by omega)) g6 (by omega) (by omega) rfl b4 (by omega) ha hk ha3
  refine ⟨m3, L3, ?_, x2, x3⟩
  rw [mAcc_4]
  unfold f_12045
  rw [if_pos (by rw [h5]; exact (by decide : f_12031 27 (fun _ _ => 0) ≤ 0)), har, bP_some, if_pos (by rw [h5]; rfl), if_neg (by show ¬ (42 : Int32) = 41; decide), if_pos rfl]
  unfold f_12045_J132 f_12046
  rw [e3, bOv_some, if_pos rfl, k35, nI_pred, gd_e (vi_n (by omega) (by omega)), mg_n (by omega), k21, gd_e (vi_n hk110 (by omega)), gd_e (vi_n hk110 (by omega)), mg_n (by omega), k18, bS_eq, x1, bO_some, bO_some]
/-- , between arguments -/
theorem go4m (h : Rel tx (s, 4, op, bl) a L m 1) (hI : Inv tx (s, 4, op, bl) a L) (hT : Tb op bl a) (ht : Tok tx a m) (ha : a + 1 < (tks tx).length) (hk : tkd (tks tx) a = 32) {e : Ae} {r : List Ae} (he : (au_fl 1 op s).1 = e :: r) (he1 : e.1 = 42) :
    Good tx 4 (au_nx (au_fl 1 op s).2, 2, (42, e.2.1, e.2.2.1 + 1, e.2.2.2) :: r, bl) a m := by
  have h5 := ht.k hk
  have har := ar4 h hI he
  have h7' : m 0 7 = nI (bend (tks tx) (a + 1)) := h.2.2.2.1
  have h33 : m 0 33 = s.2 4 := h.2.2.2.2.1.2.1
  have h34 : m 0 34 = s.2 5 := h.2.2.2.2.1.2.2
  obtain ⟨s', k, n, xr, ys, f, m', e0, e1, e2, e3, ⟨hL, hR, hM⟩, e4, e5, ⟨g1, g2, g3, g4, g5, g6⟩, ⟨b1, b2, b3, b4⟩, ⟨e7, e8⟩, e9, ⟨ha3, hlen, hk110⟩, k35, k21, k18⟩ := call42 h hI hT ha he he1
  rw [e0]
  subst e1
  subst e2
  dsimp only
  have hae : a < (tks tx).length - 1 := by omega
  have hr0 : (s'.1 0).getD a 0 = 32 := ((hR.2 a (Nat.le_refl _) (by omega)).1).trans hk
  have k14 : mf (ms m' 18 (nI k) (n + 1)) 14 = nI a := hM.2.2.1.1
  have hM2 := hM.nx (w := 30) (st := 2) ha3 (by rw [hr0]; rfl)
  have hx : ∀ x, x ∈ (42, nI k, n + 1, xr) :: ys → isEx x.1 := fun x hx => by
    rcases List.mem_cons.1 hx with r | r
    · rw [r]; exact Or.inr (Or.inr (Or.inr rfl))
    · exact g1 x r
  have p0 : ∀ g, g ≠ 14 → g ≠ 32 → g ≠ 35 → g ≠ 11 → MK 30 2 (ms m' 18 (nI k) (n + 1)) 0 g = m 0 g := fun g i1 i2 i3 i4 => by
    rw [MK_0 ⟨i1, i2⟩, ms_j (by decide)]
    exact e4 g i4 i3
  have hL1 : bl.length + lc (ys ++ [f]) + 1 = L := b3.symm
  refine ⟨MK 30 2 (ms m' 18 (nI k) (n + 1)), bl.length + lc (ys ++ [f]) + 1, ?_, ?_, ?_⟩
  · rw [mAcc_4]
    unfold f_12045
    rw [if_pos (by rw [h5]; exact (by decide : f_12031 30 (fun _ _ => 0) ≤ 0)), har, bP_some, if_neg (by rw [h5]; decide), if_neg (by rw [h5]; decide), if_neg (by rw [h5]; decide), if_pos (by rw [h5]; rfl), if_pos rfl]
    rw [e3, bOv_some, k35, nI_pred, gd_e (vi_n (by omega) (by omega)), mg_n (by omega), k21, gd_e (vi_n hk110 (by omega)), gd_e (vi_n hk110 (by omega)), mg_n (by omega), k18, bS_eq, MK_e k14 (by omega), bO_some]
  · refine Rel.mk (hL.nx hae) (hR.nx (fun _ _ => rfl) (fun _ _ => rfl) rfl) hM2 (by rw [p0 7 (by decide) (by decide) (by decide) (by decide)]; exact h7') MK_32 (by rw [p0 33 (by decide) (by decide) (by decide) (by decide), h33, ← e9]; rfl) (by rw [p0 34 (by decide) (by decide) (by decide) (by decide), h34, ← e9]; rfl) ?_
    exact Ex.mkE (xs := (42, nI k, n + 1, xr) :: ys) (Or.inl g2) (by rw [p0 43 (by decide) (by decide) (by decide) (by decide)]; exact e7) (fun q => by
      rw [MK_n (by decide) (by decide), ms_j (by decide), e5 25 (by decide) (by decide) (by decide)]
      exact e8 q) rfl
  · have hr : RwS s' (au_nx s') := RwS.nx
    have hbd := (bend_s ha).1
    have c1 : cc ((42, nI k, n + 1, xr) :: (ys ++ [f])) = cc (ys ++ [f]) + 1 := by rw [cc_cons]; rfl
    have c2 : lc ((42, nI k, n + 1, xr) :: (ys ++ [f])) = lc (ys ++ [f]) + 1 := by rw [lc_cons]; rfl
    refine Inv.mk (g4.up hr (Nat.le_refl _)) (fun b hb => (g6 b hb).up hr) (Sh.mkE (xs := (42, nI k, n + 1, xr) :: ys) (Or.inl rfl) hx g2 (g3.up hr (d' := 1) (by omega)) rfl (fun q => absurd q (by decide)) (fun q => absurd q (by decide))) ?_
    refine ⟨?_, fun q => absurd q (by decide), ?_, ?_, ?_⟩
    · show (s'.1 7).length + ((ys ++ [f]).length + 1) + 2 * bl.length ≤ 2 * (a + 1) + 0
      omega
    · rw [c1]
      show 3 * (s'.1 15).length ≤ a + 1 + (cc (ys ++ [f]) + 1) + 0
      omega
    · rw [c2]
      show bl.length + lc (ys ++ [f]) + 1 + 0 = bl.length + (lc (ys ++ [f]) + 1) + 0
      omega
    · rw [dsB_n (by decide) (fun z hz => by
        rcases List.mem_append.1 (show z ∈ ((42, nI k, n + 1, xr) :: ys) ++ [f] from hz) with r | r
        · exact (isEx_n (hx z r)).1
        · rw [List.mem_singleton.1 r]; exact (stF_b g2).2.2.2.2.2.2.2.2.1)]
      show 8 * (s'.1 9).length + 0 ≤ _
      omega
end OPE
