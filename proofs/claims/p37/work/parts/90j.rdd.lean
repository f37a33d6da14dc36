/-! the school: the draft is read, whatever was there before -/
section RDE
variable {x : Nat} {T T' : Tx} {m m' : Mx} {tx : List Int32} {es : List Nat} {ts : Nat → List Nat} {as : List Nat} {ps : Nat → Nat} {txs : Nat → List Int32} {ss : Nat → Sx} {pd : Nat} {own : Nat → Nat}
theorem rdD (h : SInv x T m tx es ts as ps txs ss pd own) : ∃ T' pd' own', h_11042 x T = some T' ∧ SInv x T' m tx es ts as ps txs ss pd' own' ∧ tV T' x 2 = 1 := by
  have hS := h.1
  have hx : tK T x = 12 := hS.1
  obtain ⟨l1, l2, l3, l4, l5⟩ := h.low
  rcases h.2.1.2.2.2.2.1 with c2 | ⟨c2, c2'⟩
  · rcases h.2.1.2.2.2.2.2.1 with ⟨c3, hps⟩ | c3
    · obtain ⟨T', g1, g2, g3⟩ := rd_J31 (bc := 40) (bs := 3700) h c2 c3 hps
      refine ⟨T', pd, own, ?_, g2, g3⟩
      unfold h_11042
      rw [gd_e hx, if_pos c2, gd_e hx, if_pos c3, g1]
    · obtain ⟨T2, e1, e2, e3, e4⟩ := h4000_e (T := tNew T 5) (me := tZ T) tK_new rfl
      have ao : ∀ a, a < tZ T → Agr T T2 a := fun a ha => (Agr.N ha).tr (e4 a ha)
      have ax := ao x (by omega)
      obtain ⟨T4, hT4⟩ : ∃ T4, T4 = tsV (tsW T2 x 1 (some (tZ T))) x 3 0 := ⟨_, rfl⟩
      have a4 : ∀ a, a < tZ T → a ≠ x → Agr T T4 a := fun a ha hn => (ao a ha).tr (by rw [hT4]; exact (Agr.W hn).tr (Agr.V hn))
      have z4 : tZ T4 = tZ T + 28 := by rw [hT4]; exact e3
      have v4 : ∀ f, f ≠ 3 → tV T4 x f = tV T x f := fun f hf => by
        rw [hT4, tV_n (Or.inr hf)]
        exact congrFun ax.2.2.2.2.2 f
      have w4 : ∀ f, f ≠ 1 → tW T4 x f = tW T x f := fun f hf => by
        rw [hT4]
        show tW (tsW T2 x 1 _) x f = _
        rw [tW_n (Or.inr hf)]
        exact congrFun ax.2.2.1 f
      have k4 : ∀ a, a < tZ T → tK T4 a = tK T a ∧ (tK T a = 7 → tC T4 a = tC T a) := fun a ha => by
        rw [hT4]; exact ⟨(ao a ha).1, (ao a ha).2.1⟩
      have hS4 : Shp T4 x := hS.of (fun a h1 h2 => k4 a (by omega)) (fun a f h1 h2 h3 h4 h5 h6 => by
        by_cases e : a = x
        · subst e; exact w4 f (by omega)
        · exact congrFun (a4 a (by omega) e).2.2.1 f) (by omega)
      have hP4 : PrgAt T4 (tZ T) := by
        refine e2.of (fun a h1 h2 => ?_) (fun a f h1 h2 => ?_) ?_
        · rw [hT4]; exact ⟨rfl, fun _ => rfl⟩
        · rw [hT4]
          show tW (tsW T2 x 1 _) a f = _
          rw [tW_n (Or.inl (by omega))]
        · rw [hT4]; exact Nat.le_refl _
      obtain ⟨d1, d2⟩ := h.dyn (T' := T4) (by omega) ⟨(a4 _ (by omega) (by omega)).2.2.2.1, (a4 _ (by omega) (by omega)).2.2.2.1⟩ (fun a h1 h2 h3 => a4 a h2 (by omega))
      have hI : SInv x T4 m tx es ts as ps txs ss (tZ T) (fun y => if tZ T ≤ y then 4 * tZ T + 1 else own y) := by
        obtain ⟨a1, ⟨⟨b1, b1'⟩, b2, b3, b4, b5, b6, b7⟩, a3, a4', a5, ⟨o1, o2, o3, o4⟩⟩ := h
        refine ⟨hS4, ⟨⟨by rw [(a4 _ (by omega) (by omega)).2.2.2.2.1]; exact b1, b1'⟩, ?_, hP4, Or.inr l5, Or.inl ?_, Or.inl ⟨?_, fun i hi => ?_⟩, ?_⟩, ?_, d1, d2, ⟨fun i hi k hk => ?_, fun p hp h1 k hk => ?_, fun i hi => ?_, fun i hi j hj => ?_⟩⟩
        · rw [hT4]; exact tW_s
        · rw [v4 2 (by decide)]; exact c2
        · rw [hT4]; exact tV_s
        · have := (l2 i hi).2.2.2; omega
        · rw [(a4 _ (by omega) (by omega)).2.2.2.2.1]; exact b7
        · exact a3.of (a4 _ (by omega) (by omega)).2.2.2.2.1 (a4 _ (by omega) (by omega)).2.2.2.2.1 (congrFun (a4 _ (by omega) (by omega)).2.2.2.2.2 4) (v4 13 (by decide))
        · have := (l2 i hi).2.1
          show (if _ then _ else _) = _
          rw [if_neg (by omega)]
          exact o1 i hi k hk
        · rcases hp with e | ⟨i, hi, e⟩
          · show (if _ then _ else _) = _
            rw [e, if_pos (by omega)]
          · have := (l2 i hi).2.2.2
            show (if _ then _ else _) = _
            rw [if_neg (by omega)]
            exact o2 p (Or.inr ⟨i, hi, e⟩) h1 k hk
        · have := (l1 i hi).2.1
          show (if _ then _ else _) = _ ∧ (if _ then _ else _) = _
          rw [if_neg (by omega), if_neg (by omega)]
          exact o3 i hi
        · have := ((l1 i hi).2.2 j hj).2
          show (if _ then _ else _) = _
          rw [if_neg (by omega)]
          exact o4 i hi j hj
      obtain ⟨T', g1, g2, g3⟩ := rd_J31 (bc := 9) (bs := 189) hI (by rw [v4 2 (by decide)]; exact c2) (by rw [hT4]; exact tV_s) (fun i hi => by have := (l2 i hi).2.2.2; omega)
      refine ⟨T', _, _, ?_, g2, g3⟩
      unfold h_11042
      rw [gd_e hx, if_pos c2, gd_e hx, if_neg (by rw [c3]; decide), bS_eq, gd_e (show tK (tNew T 5) (tZ T) = 5 from tK_new), e1, bOv_some, gd_e (ax.1.trans hx), bS_eq, gd_e (show tK (tsW T2 x 1 (some (tZ T))) x = 12 from ax.1.trans hx), bS_eq, ← hT4, g1]
  · refine ⟨T, pd, own, ?_, h, c2⟩
    unfold h_11042
    rw [gd_e hx, if_neg (by rw [c2]; decide)]
theorem FrL.ms (h : FrL m m') : MSm m m' := by
  refine ⟨fun j h0 hj => h.1 j h0 (by omega), fun f hf => ?_⟩
  rcases hf with e | e | e | e | e | e <;> subst e <;> exact h.2 _ (by decide) (by decide)
/-- the draft is read on both sides -/
theorem rdB (h : SInv x T m tx es ts as ps txs ss pd own) : ∃ T' pd' own' m' s1, h_11042 x T = some T' ∧ f_12071 m = some m' ∧ MSm m m' ∧ SInv x T' m' tx es ts as ps txs ss pd' own' ∧ tV T' x 2 = 1 ∧ PrgIs T' pd' s1 ∧ m' 0 9 = s1.2 0 ∧
    (s1.2 0 ≠ 0 ∧ (∃ i, s1.2 1 = nI i ∧ i < (tks tx).length ∧ m' 0 10 = nI (tpl (tks tx) i) ∧ (s1.1 2).getD i 0 = nI (tpl (tks tx) i)) ∨ s1.2 0 = 0 ∧ m' 0 10 = -1 ∧ Red tx s1 ∧ ∃ i c d, i + 1 = (tks tx).length ∧ PgC s1 i c d ∧ PgM s1 i c d m' ∧ TkO s1 i) := by
  obtain ⟨T', pd', own', g1, g2, g3⟩ := rdD h
  obtain ⟨b1, b2, b3, b4, b5⟩ := g2.2.1.1
  have hr : ReadIs T' pd' tx := by
    rcases g2.2.1.2.2.2.2.1 with w | w
    · rw [g3] at w; exact absurd w (by decide)
    · exact w.2
  obtain ⟨s0, s1, r1, r2, r3, r4⟩ := hr
  obtain ⟨m1, c1, c2, c3⟩ := ld_dr (m := m) b2 (fun k hk => (b3 _ (gD_mem hk)).ch.2) b4 (fun k hk => b5 k hk)
  obtain ⟨s', m', d1, d2, d3, d4, d5, d6⟩ := rd_all b2 r1 c1 r2
  rw [r3] at d1
  cases d1
  have hM := (c3 m' d3).ms
  refine ⟨T', pd', own', m', s1, g1, c2.trans d2, hM, g2.mm hM, g3, r4, ?_⟩
  rcases d6 with ⟨i, f, w1, w2, w3, w4, w5, w6⟩ | ⟨w2, w3, w4, i, c, d, w5, w6, w7⟩
  · refine ⟨w5.trans w2.symm, Or.inl ⟨by rw [w2]; exact w1, i, w3, w4, w6, ?_⟩⟩
    rw [d4.1 2 (by decide), r1.2.2, List.getD_eq_getElem?_getD, List.getElem?_map, tpl, List.getD_eq_getElem?_getD, List.getElem?_eq_getElem w4]
    rfl
  · refine ⟨w3.trans w2.symm, Or.inr ⟨w2, w4, ⟨s0, r1, r2, r3, w2⟩, ?_⟩⟩
    have := rd_loc b2 r1 r3 w2
    rw [show (tks tx).length - 1 = i by omega] at this
    exact ⟨i, c, d, w5, w6, w7, this⟩
end RDE
