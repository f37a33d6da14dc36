/-! acts: behind an operand -/
section OPR
variable {tx : List Int32} {s : Sx} {op bl : List Ae} {a L : Nat} {m : Mx}
theorem RwS.pop {e : Ae} (hc : (s.1 7).length < 600) : RwS s (au_pop e s) := by
  unfold au_pop
  split
  · exact (RwS.cd (s := s) (c := 10) (y := 0) hc).tr (RwS.pt.tr RwS.sv)
  · exact RwS.cd hc
theorem len_pop {e : Ae} (hc : (s.1 7).length < 600) : ((au_pop e s).1 7).length = (s.1 7).length + 1 := by
  unfold au_pop
  split
  · rw [sv_r (by decide), pt_r (by decide)]
    exact len_cd hc
  · exact len_cd hc
theorem fl_rws {lv : Int32} : ∀ (op : List Ae) (s : Sx), (s.1 7).length + op.length ≤ 600 → RwS s (au_fl lv op s).2 := by
  intro op
  induction op with
  | nil => intro s _; exact RwS.r
  | cons e r ih =>
    intro s hc
    have hc' : (s.1 7).length + (r.length + 1) ≤ 600 := hc
    have hdef : au_fl lv (e :: r) s = if lv ≤ lvK e.1 then au_fl lv r (au_pop e s) else (e :: r, s) := rfl
    rw [hdef]
    split
    · exact (RwS.pop (e := e) (by omega)).tr (ih _ (by rw [len_pop (by omega)]; omega))
    · exact RwS.r
theorem pop_raw {e : Ae} (he : e.1 = 23 ∨ e.1 = 24 → TB e.2.1 a) (ha : a < 1000) : ((au_pop e s).1 1).length = (s.1 1).length ∧ ∀ j, a ≤ j → ((au_pop e s).1 1).getD j 0 = (s.1 1).getD j 0 := by
  unfold au_pop
  split
  · rename_i h
    obtain ⟨i, hi1, hi2⟩ := he h
    have e1 : (au_pt e.2.2.1 (au_cd 10 0 s)).1 1 = s.1 1 := by rw [pt_r (by decide), cd_r (by decide) (by decide)]
    refine ⟨?_, fun j hj => ?_⟩
    · show (xset ((au_pt e.2.2.1 (au_cd 10 0 s)).1 1) e.2.1 _).length = _
      rw [xset_len, e1]
    · rw [hi1, svg (by omega) (by omega), e1]
  · rw [cd_r (by decide) (by decide)]
    exact ⟨rfl, fun _ _ => rfl⟩
theorem fl_raw {lv : Int32} (ha : a < 1000) : ∀ (op : List Ae) (s : Sx), (∀ x, x ∈ op → x.1 = 23 ∨ x.1 = 24 → TB x.2.1 a) → ((au_fl lv op s).2.1 1).length = (s.1 1).length ∧ ∀ j, a ≤ j → ((au_fl lv op s).2.1 1).getD j 0 = (s.1 1).getD j 0 := by
  intro op
  induction op with
  | nil => intro s _; exact ⟨rfl, fun _ _ => rfl⟩
  | cons e r ih =>
    intro s hT
    have hdef : au_fl lv (e :: r) s = if lv ≤ lvK e.1 then au_fl lv r (au_pop e s) else (e :: r, s) := rfl
    rw [hdef]
    split
    · obtain ⟨p1, p2⟩ := pop_raw (s := s) (hT e (List.mem_cons_self ..)) ha
      obtain ⟨q1, q2⟩ := ih (au_pop e s) (fun x hx => hT x (List.mem_cons_of_mem _ hx))
      exact ⟨q1.trans p1, fun j hj => (q2 j hj).trans (p2 j hj)⟩
    · exact ⟨rfl, fun _ _ => rfl⟩
theorem bin_lt {k : Int32} (h : isBin k) : ¬ (43 : Int32) ≤ k ∧ k ≠ 42 ∧ k ≠ 40 ∧ k ≠ 41 := by
  have h40 := (lvK_31 (fun _ _ => 0) h.1 h.2).2.2.2
  refine ⟨fun w => h40 ?_, ?_, ?_, ?_⟩
  · rw [i_le] at w ⊢
    have e40 : (40 : Int32).toInt = 40 := rfl
    have e43 : (43 : Int32).toInt = 43 := rfl
    omega
  all_goals (intro e; rw [e] at h40; exact h40 (by decide))
/-- the end of operations: all that is so then -/
theorem flAll {lv : Int32} (hlv : 1 ≤ lv.toInt) (h : Rel tx (s, 4, op, bl) a L m 1) (hI : Inv tx (s, 4, op, bl) a L) (hT : Tb op bl a) (ha : a + 1 < (tks tx).length) :
    ∃ s' op' xs f m', au_fl lv op s = (op', s') ∧ op' = xs ++ [f] ∧ f_12032 lv m = some m' ∧ (Lv a ((tks tx).length - 1) L s' ∧ Raw tx s' a ∧ RR (tks tx) tx s' a op' bl (oeP op' bl) (ocP op') 0 m') ∧ (∀ g, g ≠ 11 → g ≠ 35 → m' 0 g = m 0 g) ∧ FrA m m' ∧
      ((∀ x, x ∈ xs → isEx x.1) ∧ stF f.1 ∧ FV s' f a 2 ∧ IvO s' op' ∧ RwS s s' ∧ (∀ b, b ∈ bl → BlV s' b)) ∧ ((s'.1 7).length + op'.length + 2 * bl.length ≤ 2 * a ∧ 3 * (s'.1 15).length ≤ a + cc op' ∧ L = bl.length + lc op' ∧ 8 * (s'.1 9).length ≤ bend (tks tx) a + if (bl.any fun b => b.1 == 10) = true then 1 else 0) ∧
      (∀ x r, op' = x :: r → ¬ lv ≤ lvK x.1) ∧ (m 0 43 = f.2.1 ∧ (f.1 = 47 → m 25 bl.length = f.2.2.2.1)) ∧ s'.2 = s.2 ∧ (a < 300 ∧ op'.length < 100 ∧ L ≤ 8) ∧ ((s'.1 15).length = (s.1 15).length ∧ (s'.1 9).length = (s.1 9).length ∧ (s'.1 7).length + op'.length = (s.1 7).length + op.length ∧ cc op' = cc op ∧ lc op' = lc op) := by
  have ha3 := h.a3 ha
  have hst4 : (4 : Int32) = 2 ∨ (4 : Int32) = 3 ∨ (4 : Int32) = 4 := by decide
  obtain ⟨hO, hB, hS, hN⟩ := hI.opx hst4
  obtain ⟨h35, hlen⟩ := h.o35 hst4 hI
  obtain ⟨hL, hR, hM, h7, h33, h34, hE, h32⟩ := h.opx hst4
  obtain ⟨xs, f, hop, g1, g2, g3, g4, g5⟩ := Sh.sE hS (by decide)
  obtain ⟨q1, q2, q3, q4, q5⟩ := hN
  have h51 := stF_b g2
  have h53 : ∀ x, x ∈ op → x.1 ≠ 53 := fun x q => by
    rw [hop] at q
    rcases List.mem_append.1 q with r | r
    · exact (isEx_n (g1 x r)).1
    · rw [List.mem_singleton.1 r]; exact h51.2.2.2.2.2.2.2.2.1
  rw [dsB_n (by decide) h53] at q5
  have q1' : (s.1 7).length + op.length + 2 * bl.length ≤ 2 * a + 0 := q1
  have q3' : 3 * (s.1 15).length ≤ a + cc op + 0 := q3
  have q4' : L + 0 = bl.length + lc op + 0 := q4
  have q5' : 8 * (s.1 9).length + 0 ≤ _ := q5
  have hL8 := hL.L8
  have g3' : FV s f a 2 := g3
  obtain ⟨m', u1, u2, u3⟩ := fl_12032 hlv op 1000 s m hM (fun x hx => hO.1 x hx) hlen (by omega) (by omega)
  have u4 : FrA m m' := fl_fr 1000 lv m m' u1
  obtain ⟨v1, v2, v3, v4, v5, v6, v7, ⟨q, v8, v9⟩, v10⟩ := fl_inv hlv op s hO (by omega)
  have w1 : RwS s (au_fl lv op s).2 := fl_rws op s (by omega)
  obtain ⟨w2, w3⟩ := fl_raw (lv := lv) (a := a) (by omega) op s (fun x hx => (hT.1 x hx).1)
  have w4 : Co s (au_fl lv op s).2 := Co_fl
  generalize hfl : au_fl lv op s = F at *
  obtain ⟨op', s'⟩ := F
  dsimp only at *
  have r15 : (s'.1 15).length = (s.1 15).length := by rw [v6 15 (by decide) (by decide) (by decide)]
  have r9 : (s'.1 9).length = (s.1 9).length := by rw [v6 9 (by decide) (by decide) (by decide)]
  have hfb : ¬ isBin f.1 := h51.2.1
  -- what is left ends in the statement's own entry
  have key : ∃ xs', op' = xs' ++ [f] ∧ ∀ x, x ∈ xs' → isEx x.1 := by
    have e0 : q ++ op' = xs ++ [f] := v8.symm.trans hop
    rcases List.eq_nil_or_concat op' with e | ⟨ys, y, e⟩
    · exfalso
      rw [e, List.append_nil] at e0
      exact hfb (v9 f (by rw [e0]; exact List.mem_append_right _ (List.mem_singleton.2 rfl)))
    · rw [List.concat_eq_append] at e
      rw [e, ← List.append_assoc] at e0
      have ey : y = f := app1 e0
      rw [ey] at e e0
      have e1 : q ++ ys = xs := List.append_cancel_right e0
      exact ⟨ys, e, fun x hx => g1 x (by rw [← e1]; exact List.mem_append_right _ hx)⟩
  obtain ⟨xs', e1, e2⟩ := key
  have hq : ∀ x, x ∈ q → ¬ (43 : Int32) ≤ x.1 ∧ x.1 ≠ 42 := fun x hx => ⟨(bin_lt (v9 x hx)).1, (bin_lt (v9 x hx)).2.1⟩
  refine ⟨s', op', xs', f, m', rfl, e1, u1, ⟨hL.co w4, ⟨?_, fun i hi hi2 => ⟨?_, ?_⟩⟩, ?_⟩, u3, u4, ⟨e2, g2, g3'.up w1 (by omega), v1, w1, fun b hb => (hB b hb).up w1⟩, ⟨by omega, by omega, by omega, by omega⟩, v10, ⟨?_, fun e => ?_⟩, v7, ⟨ha3, by omega, hL8⟩, r15, r9, v2, v4, v3⟩
  · rw [w2]; exact hR.1
  · rw [v6 0 (by decide) (by decide) (by decide)]; exact (hR.2 i hi hi2).1
  · rw [w3 i hi]; exact (hR.2 i hi hi2).2
  · refine (u2.oew (fun k hk => ?_)).ocw (fun k hk => ?_)
    · obtain ⟨k1, ⟨z, hz, hz43, hz2⟩ | w⟩ := hk
      · rw [v8] at hz
        rcases List.mem_append.1 hz with r | r
        · exact absurd hz43 (hq z r).1
        · exact ⟨k1, Or.inl ⟨z, r, hz43, hz2⟩⟩
      · exact ⟨k1, Or.inr w⟩
    · obtain ⟨k1, z, hz, hz42, hz2⟩ := hk
      rw [v8] at hz
      rcases List.mem_append.1 hz with r | r
      · exact absurd hz42 (hq z r).2
      · exact ⟨k1, z, r, hz42, hz2⟩
  · rw [hop] at hE
    exact hE.f43 h51.2.2.2.2.2.2.2.2.2.1 h51.2.2.2.2.2.2.2.2.2.2.1
  · rw [hop] at hE
    exact hE.f47 e
theorem mAcc_4 : mAcc 4 m = f_12045 m := by
  unfold mAcc
  rw [if_neg (by decide), if_neg (by decide), if_neg (by decide), if_neg (by decide), if_pos rfl]
theorem bin_k {k : Int32} (h : isBin k) : wm k = km k ∧ k ≠ 35 ∧ k ≠ 4 ∧ km k ≠ 0 ∧ (km k = 22 ↔ k = 23) ∧ (km k = 23 ↔ k = 24) := by
  have h40 := (lvK_31 (fun _ _ => 0) h.1 h.2).2.2.2
  have hk : k = 12 ∨ k = 13 ∨ k = 14 ∨ k = 15 ∨ k = 16 ∨ k = 17 ∨ k = 18 ∨ k = 19 ∨ k = 20 ∨ k = 21 ∨ k = 22 ∨ k = 23 ∨ k = 24 := by
    have h1 := h.1
    have h6 := h.2
    unfold lvK f_9003 at h1 h6
    by_cases c12 : k = 12
    · exact Or.inl c12
    by_cases c13 : k = 13
    · simp [c13]
    by_cases c14 : k = 14
    · simp [c14]
    by_cases c15 : k = 15
    · simp [c15]
    by_cases c16 : k = 16
    · simp [c16]
    by_cases c17 : k = 17
    · simp [c17]
    by_cases c18 : k = 18
    · simp [c18]
    by_cases c19 : k = 19
    · simp [c19]
    by_cases c20 : k = 20
    · simp [c20]
    by_cases c21 : k = 21
    · simp [c21]
    by_cases c22 : k = 22
    · simp [c22]
    by_cases c23 : k = 23
    · simp [c23]
    by_cases c24 : k = 24
    · simp [c24]
    exfalso
    rw [if_neg c12, if_neg c13, if_neg c14, if_neg c15, if_neg c16, if_neg c17, if_neg c18, if_neg c19, if_neg c20, if_neg c21, if_neg c22, if_neg c23, if_neg c24] at h1 h6
    by_cases c25 : k = 25
    · rw [c25] at h6; exact absurd h6 (by decide)
    by_cases c26 : k = 26
    · rw [c26] at h6; exact absurd h6 (by decide)
    by_cases c36 : k = 36
    · rw [c36] at h6; exact absurd h6 (by decide)
    have : ∀ (x : Int32), (if k = 25 then (7 : Int32) else if k = 26 then 7 else if k = 27 then 0 else if k = 28 then 0 else if k = 29 then 0 else if k = 30 then 0 else if k = 31 then 0 else if k = 32 then 0 else if k = 33 then 0 else if k = 34 then 0 else if k = 35 then 0 else if k = 36 then 7 else 0) = x → x = 0 := by
      intro x hx
      rw [if_neg c25, if_neg c26, if_neg c36] at hx
      rw [← hx]
      split
      · rfl
      split
      · rfl
      split
      · rfl
      split
      · rfl
      split
      · rfl
      split
      · rfl
      split
      · rfl
      split
      · rfl
      split
      · rfl
      rfl
    have h0 := this _ rfl
    rw [h0] at h1
    exact absurd h1 (by decide)
  rcases hk with e | e | e | e | e | e | e | e | e | e | e | e | e <;> rw [e] <;> decide
/-- an operation -/
theorem goBin (h : Rel tx (s, 4, op, bl) a L m 1) (hI : Inv tx (s, 4, op, bl) a L) (hT : Tb op bl a) (ht : Tok tx a m) (ha : a + 1 < (tks tx).length) {k : Int32} (hk : tkd (tks tx) a = k) (hb : isBin k) :
    Good tx 4 (if k = 23 ∨ k = 24 then
      (au_cd (if k = 23 then 11 else 12) 0 (au_nx (au_fl (lvK k) op s).2), 2, (k, s.2 2, au_cn (au_cd (if k = 23 then 11 else 12) 0 (au_nx (au_fl (lvK k) op s).2)), 0, 0, 0) :: (au_fl (lvK k) op s).1, bl)
      else (au_nx (au_fl (lvK k) op s).2, 2, (k, s.2 2, 0, 0, 0, 0) :: (au_fl (lvK k) op s).1, bl)) a m := by
  have h5 : mf m 5 = km k := ht.k hk
  have h14 := h.q14
  have h7' : m 0 7 = nI (bend (tks tx) (a + 1)) := h.2.2.2.1
  have h33 : m 0 33 = s.2 4 := h.2.2.2.2.1.2.1
  have h34 : m 0 34 = s.2 5 := h.2.2.2.2.1.2.2
  obtain ⟨s', op', xs, f, m', e1, e2, e3, ⟨hL, hR, hM⟩, e4, e5, ⟨g1, g2, g3, g4, g5, g6⟩, ⟨b1, b2, b3, b4⟩, e6, ⟨e7, e8⟩, e9, ⟨ha3, hlen, hL8⟩, _⟩ := flAll hb.1 h hI hT ha
  rw [e1]
  dsimp only
  have hae : a < (tks tx).length - 1 := by omega
  obtain ⟨y1, y2, y3, y4⟩ := lvK_31 m hb.1 hb.2
  obtain ⟨z1, z2, z3, z4, z5, z6⟩ := bin_k hb
  have hb' := bin_lt hb
  have k35 : mf m' 35 = nI op'.length := hM.2.2.2.2.2.2.2.1.1
  have k11 : mf m' 11 = nI (s'.1 7).length := hM.2.1.1
  have k14 : mf m' 14 = nI a := hM.2.2.1.1
  have k5 : mf m' 5 = km k := (e4 5 (by decide) (by decide)).trans h5
  have hr0 : (s'.1 0).getD a 0 = k := ((hR.2 a (Nat.le_refl _) (by omega)).1).trans hk
  have hop1 : 1 ≤ op'.length := by rw [e2, List.length_append]; exact Nat.le_add_left _ _
  have hc : (s'.1 7).length < 600 := by omega
  have hnle : ¬ lvK k ≤ 0 := by
    rw [i_le]
    have : (0 : Int32).toInt = 0 := rfl
    have := hb.1
    omega
  have hcn : ∀ c : Int32, au_cn (au_cd c 0 (au_nx s')) = nI (s'.1 7).length := fun c => cn_e (s := au_nx s') hc
  -- what is open, with the operation above
  have fin : ∀ (x : Ae) (s3 : Sx) (m3 : Mx), x.1 = k → OpV s3 x → Lv (a + 1) ((tks tx).length - 1) L s3 → Raw tx s3 (a + 1) → RwS s' s3 → (s3.1 7).length ≤ (s'.1 7).length + 1 → (s3.1 15).length = (s'.1 15).length → (s3.1 9).length = (s'.1 9).length → RR (tks tx) tx s3 (a + 1) (x :: op') bl (oeP op' bl) (ocP op') 0 m3 →
      m3 0 7 = nI (bend (tks tx) (a + 1)) → m3 0 32 = 2 → m3 0 33 = s3.2 4 → m3 0 34 = s3.2 5 → m3 0 43 = f.2.1 → (f.1 = 47 → m3 25 bl.length = f.2.2.2.1) → Rel tx (s3, 2, x :: op', bl) (a + 1) L m3 0 ∧ Inv tx (s3, 2, x :: op', bl) (a + 1) L := by
    intro x s3 m3 hx1 hxV hL3 hR3 hr l7 l15 l9 hM3 n7 n32 n33 n34 n43 n25
    have hex : isEx x.1 := by rw [hx1]; exact Or.inl hb
    have hxs : ∀ z, z ∈ x :: xs → isEx z.1 := fun z hz => by
      rcases List.mem_cons.1 hz with e | e
      · rw [e]; exact hex
      · exact g1 z e
    have hxe : x :: op' = (x :: xs) ++ [f] := by rw [e2]; rfl
    refine ⟨?_, ?_⟩
    · refine Rel.mk hL3 hR3 ((hM3.oew (fun j hj => ?_)).ocw (fun j hj => ?_)) n7 n32 n33 n34 ?_
      · obtain ⟨j1, ⟨z, hz, hz2⟩ | q⟩ := hj
        · exact ⟨j1, Or.inl ⟨z, List.mem_cons_of_mem _ hz, hz2⟩⟩
        · exact ⟨j1, Or.inr q⟩
      · obtain ⟨j1, z, hz, hz2⟩ := hj
        exact ⟨j1, z, List.mem_cons_of_mem _ hz, hz2⟩
      · rw [hxe]
        exact Ex.mkE (Or.inl g2) n43 n25 rfl
    · have hO3 := g4.up hr (by omega)
      have c1 : cc (x :: op') = cc op' := by
        rw [cc_cons]
        unfold ccF
        rw [if_neg (by rw [hx1]; simpa using hb'.2.1)]
        rfl
      have c2 : lc (x :: op') = lc op' := by
        rw [lc_cons]
        unfold lcF
        rw [if_neg]
        · rfl
        · rw [hx1]
          have q1 := hb'.2.1
          have q2 := hb'.2.2.1
          have q3 := hb'.2.2.2
          have q4 : k ≠ 48 := fun e => absurd (show (43 : Int32) ≤ k by rw [e]; decide) hb'.1
          simp [q1, q2, q3, q4]
      refine Inv.mk ⟨fun z hz => ?_, ?_, fun _ y q hyq => ?_, hO3.2.2⟩ (fun b hb => (g6 b hb).up hr) ?_ ?_
      · rcases List.mem_cons.1 hz with e | e
        · rw [e]; exact hxV
        · exact hO3.1 z e
      · show Dc _ (x :: op')
        unfold Dc
        rw [if_neg (by rw [hx1]; exact hb'.2.1)]
        exact hO3.2.1
      · have := e6 y q hyq
        rw [hx1]
        rw [i_le] at this
        omega
      · rw [hxe]
        exact Sh.mkE (Or.inl rfl) hxs g2 (g3.up hr (d' := 1) (by omega)) rfl (fun q => absurd q (by decide)) (fun q => absurd q (by decide))
      · have hbd := (bend_s ha).1
        refine ⟨?_, fun q => absurd q (by decide), ?_, ?_, ?_⟩
        · show (s3.1 7).length + (op'.length + 1) + 2 * bl.length ≤ 2 * (a + 1) + 0
          omega
        · rw [c1]
          show 3 * (s3.1 15).length ≤ a + 1 + cc op' + 0
          omega
        · rw [c2]
          show L + 0 = bl.length + lc op' + 0
          omega
        · rw [dsB_n (by decide) (fun z hz => by
            rw [hxe] at hz
            rcases List.mem_append.1 hz with r | r
            · exact (isEx_n (hxs z r)).1
            · rw [List.mem_singleton.1 r]; exact (stF_b g2).2.2.2.2.2.2.2.2.1)]
          show 8 * (s3.1 9).length + 0 ≤ _
          omega
  have hw : km k = wm ((s'.1 0).getD a 0) := by rw [hr0, z1]
  have hI5 : s'.2 2 = nI a := hL.2.1
  have hs2 : s.2 2 = nI a := by rw [← e9]; exact hI5
  have hf : ∀ (M : Mx), f_12032 (lvK k) m = some M → f_12045 m = (if mf M 5 = 22 then bO (f_12021 6 0 M) fun s36 r36 => f_12045_J56 (lvK k) r36 s36 else if mf M 5 = 23 then bO (f_12021 7 0 M) fun s35 r35 => f_12045_J56 (lvK k) r35 s35 else f_12045_J56 (lvK k) 0 M) := by
    intro M hM
    unfold f_12045
    rw [h5, y1, if_neg hnle, hM, bOv_some]
  by_cases c : k = 23 ∨ k = 24
  · rw [if_pos c]
    have w : ∃ cd w : Int32, (if k = 23 then (11 : Int32) else 12) = cd ∧ w = cm cd ∧ cd ≠ 8 ∧ cd ≠ 9 ∧ f_12045 m = bO (f_12021 w 0 m') fun s36 r36 => f_12045_J56 (lvK k) r36 s36 := by
      rcases c with e | e
      · refine ⟨11, 6, by rw [if_pos e], rfl, by decide, by decide, ?_⟩
        rw [hf m' e3, k5, if_pos (z5.2 e)]
      · have n23 : ¬ k = 23 := by rw [e]; decide
        refine ⟨12, 7, by rw [if_neg n23], rfl, by decide, by decide, ?_⟩
        rw [hf m' e3, k5, if_neg (fun q => n23 (z5.1 q)), if_pos (z6.2 e)]
    obtain ⟨cd, w, w1, w2, w3, w4, w5⟩ := w
    rw [w1, hcn]
    have hc0 : cdm cd 0 = 0 := by
      unfold cdm
      rw [if_neg (by rintro (q | q); exact w3 q; exact w4 q)]
    have l7 : (au_cd cd 0 (au_nx s')).1 7 = s'.1 7 ++ [cd] := cd7 (s := au_nx s') hc
    have hM1 := (hM.cd (c := cd) (x := 0) (w := w) (y := 0) hc w2 hc0.symm).psh (x := (k, s.2 2, nI (s'.1 7).length, 0, 0, 0)) (w := km k) (y := nI (s'.1 7).length) (by omega) y3.symm (by
      unfold odm
      dsimp only
      rw [if_neg hb'.2.2.1, if_neg hb'.2.1, if_neg (fun q => by rw [q] at hb'; exact absurd (show (43 : Int32) ≤ 43 by decide) hb'.1), if_pos c]) (fun q => absurd q hb'.2.1)
    have hM2 := hM1.nx (w := km k) (st := 2) ha3 (by
      show km k = wm (((au_cd cd 0 s').1 0).getD a 0)
      rw [cd_r (by decide) (by decide)]
      exact hw)
    have hM3 : RR (tks tx) tx (au_cd cd 0 (au_nx s')) (a + 1) ((k, s.2 2, nI (s'.1 7).length, 0, 0, 0) :: op') bl (oeP op' bl) (ocP op') 0 (MK (km k) 2 (MO (km k) (nI (s'.1 7).length) (MA w 0 m'))) := hM2.cs rfl rfl rfl rfl rfl rfl rfl rfl rfl rfl rfl rfl rfl rfl
    have p0 : ∀ g, g ≠ 14 → g ≠ 32 → g ≠ 35 → g ≠ 11 → MK (km k) 2 (MO (km k) (nI (s'.1 7).length) (MA w 0 m')) 0 g = m 0 g := fun g i1 i2 i3 i4 => by
      rw [MK_0 ⟨i1, i2⟩, MO_0 i3, MA_0 i4]
      exact e4 g i4 i3
    have hV : OpV (au_cd cd 0 (au_nx s')) (k, s.2 2, nI (s'.1 7).length, 0, 0, 0) := by
      refine ⟨Or.inr hb, fun _ => ⟨⟨a, hs2, by omega, ?_⟩, (s'.1 7).length, rfl, ?_, ?_⟩⟩
      · rw [cd_r (by decide) (by decide)]
        show (s'.1 0).getD a 0 ≠ 35 ∧ (s'.1 0).getD a 0 ≠ 4
        rw [hr0]
        exact ⟨z2, z3⟩
      · rw [l7, List.length_append]
        exact Nat.lt_succ_self _
      · rw [l7, gD_app_r]
        exact ⟨w3, w4⟩
    obtain ⟨r1, r2⟩ := fin (k, s.2 2, nI (s'.1 7).length, 0, 0, 0) (au_cd cd 0 (au_nx s')) _ rfl hV ((hL.nx hae).co Co_cd) ((hR.nx (fun _ _ => rfl) (fun _ _ => rfl) rfl).cd) (RwS.nx.tr (RwS.cd (s := au_nx s') hc)) (by rw [l7, List.length_append]; exact Nat.le_refl _) (by rw [cd_r (by decide) (by decide)]; rfl) (by rw [cd_r (by decide) (by decide)]; rfl) hM3
      (by rw [p0 7 (by decide) (by decide) (by decide) (by decide)]; exact h7') MK_32 (by rw [p0 33 (by decide) (by decide) (by decide) (by decide), h33, ← e9]; rfl) (by rw [p0 34 (by decide) (by decide) (by decide) (by decide), h34, ← e9]; rfl) (by rw [p0 43 (by decide) (by decide) (by decide) (by decide)]; exact e7) (fun q => by
        rw [MK_n (by decide) (by decide), MO_n (by decide) (by decide) (by decide), MA_n (by decide) (by decide) (by decide), e5 25 (by decide) (by decide) (by decide)]
        exact e8 q)
    · refine ⟨_, L, ?_, r1, r2⟩
      rw [mAcc_4, w5, MA_e k11 (by omega), bO_some]
      unfold f_12045_J56
      have f5 : mf (MA w 0 m') 5 = km k := (mf_MA (by decide)).trans k5
      have f35 : mf (MA w 0 m') 35 = nI op'.length := (mf_MA (by decide)).trans k35
      have f14 : mf (MO (km k) (nI (s'.1 7).length) (MA w 0 m')) 14 = nI a := (mf_MO (by decide)).trans ((mf_MA (by decide)).trans k14)
      have f5' : mf (MO (km k) (nI (s'.1 7).length) (MA w 0 m')) 5 = km k := (mf_MO (by decide)).trans f5
      rw [f5, MO_e f35 (by omega), bOv_some, f5', MK_e f14 (by omega), bO_some]
  · rw [if_neg c]
    have hM1 := hM.psh (x := (k, s.2 2, 0, 0, 0, 0)) (w := km k) (y := 0) (by omega) y3.symm (by
      unfold odm
      dsimp only
      rw [if_neg hb'.2.2.1, if_neg hb'.2.1, if_neg (fun q => by rw [q] at hb'; exact absurd (show (43 : Int32) ≤ 43 by decide) hb'.1), if_neg c]) (fun q => absurd q hb'.2.1)
    have hM3 := hM1.nx (w := km k) (st := 2) ha3 hw
    have p0 : ∀ g, g ≠ 14 → g ≠ 32 → g ≠ 35 → g ≠ 11 → MK (km k) 2 (MO (km k) 0 m') 0 g = m 0 g := fun g i1 i2 i3 i4 => by
      rw [MK_0 ⟨i1, i2⟩, MO_0 i3]
      exact e4 g i4 i3
    obtain ⟨r1, r2⟩ := fin (k, s.2 2, 0, 0, 0, 0) (au_nx s') _ rfl ⟨Or.inr hb, fun q => absurd q c⟩ (hL.nx hae) (hR.nx (fun _ _ => rfl) (fun _ _ => rfl) rfl) RwS.nx (Nat.le_succ _) rfl rfl hM3
      (by rw [p0 7 (by decide) (by decide) (by decide) (by decide)]; exact h7') MK_32 (by rw [p0 33 (by decide) (by decide) (by decide) (by decide), h33, ← e9]; rfl) (by rw [p0 34 (by decide) (by decide) (by decide) (by decide), h34, ← e9]; rfl) (by rw [p0 43 (by decide) (by decide) (by decide) (by decide)]; exact e7) (fun q => by
        rw [MK_n (by decide) (by decide), MO_n (by decide) (by decide) (by decide), e5 25 (by decide) (by decide) (by decide)]
        exact e8 q)
    refine ⟨_, L, ?_, r1, r2⟩
    have n22 : ¬ km k = 22 := fun q => c (Or.inl (z5.1 q))
    have n23 : ¬ km k = 23 := fun q => c (Or.inr (z6.1 q))
    rw [mAcc_4, hf m' e3, k5, if_neg n22, if_neg n23]
    unfold f_12045_J56
    have f14 : mf (MO (km k) 0 m') 14 = nI a := (mf_MO (by decide)).trans k14
    have f5' : mf (MO (km k) 0 m') 5 = km k := (mf_MO (by decide)).trans k5
    rw [k5, MO_e k35 (by omega), bOv_some, f5', MK_e f14 (by omega), bO_some]
end OPR
