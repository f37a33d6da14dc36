/-! the school: the draft is read -/
section RDD
variable {x : Nat} {T T' : Tx} {m m' : Mx} {tx : List Int32} {es : List Nat} {ts : Nat → List Nat} {as : List Nat} {ps : Nat → Nat} {txs : Nat → List Int32} {ss : Nat → Sx} {pd : Nat} {own : Nat → Nat}
/-- the same, when the draft's program may change that no answer has -/
theorem SInv.dyn2 (h : SInv x T m tx es ts as ps txs ss pd own) (hZ : tZ T ≤ tZ T') (hA : tA T' (x + 68) = tA T (x + 68) ∧ tA T' (x + 69) = tA T (x + 69)) (hps : ∀ i, i < as.length → ps i ≠ pd) (hg : ∀ a, x + 3 ≤ a → a < tZ T → (a < x + 31 ∨ x + 74 ≤ a) → ¬ (pd ≤ a ∧ a < pd + 28) → Agr T T' a) : ExI x T' m es ts ∧ AnI x T' m es ts as ps txs ss := by
  obtain ⟨l1, l2, l3, l4, l5⟩ := h.low
  obtain ⟨o1, o2, o3, o4⟩ := h.2.2.2.2.2
  have ow : ∀ a, x + 74 ≤ a → (∀ q, own a ≠ 4 * q + 1) → ¬ (pd ≤ a ∧ a < pd + 28) := fun a ha hq hw => by
    rcases l3 with l3 | l3
    · omega
    · have := o2 pd (Or.inl rfl) l3 (a - pd) (by omega)
      rw [show pd + (a - pd) = a by omega] at this
      exact hq _ this
  refine ⟨h.2.2.2.1.agr hZ hA.1 (fun i hi => ?_), h.2.2.2.2.1.agr hZ hA.2 (fun i hi => ?_)⟩
  · obtain ⟨g1, g2, g3⟩ := l1 i hi
    obtain ⟨w1, w2⟩ := o3 i hi
    exact ⟨hg _ (by omega) (by omega) (Or.inr (by omega)) (ow _ (by omega) (fun q => by omega)), hg _ (by omega) (by omega) (Or.inr (by omega)) (ow _ (by omega) (fun q => by omega)), fun j hj => hg _ (by have := (g3 j hj).1; omega) (g3 j hj).2 (Or.inr (g3 j hj).1) (ow _ (g3 j hj).1 (fun q => by have := o4 i hi j hj; omega))⟩
  · obtain ⟨g1, g2, g3, g4⟩ := l2 i hi
    refine ⟨fun k hk => hg _ (by omega) (by omega) (Or.inr (by omega)) (ow _ (by omega) (fun q => by have := o1 i hi k hk; omega)), fun k hk => hg _ (by omega) (by omega) (by omega) (fun hw => ?_)⟩
    rcases g3 with g3 | g3
    · rcases l3 with l3 | l3
      · exact hps i hi (g3.trans l3.symm)
      · omega
    · rcases l3 with l3 | l3
      · omega
      · have e1 := o2 (ps i) (Or.inr ⟨i, hi, rfl⟩) g3 k hk
        have e2 := o2 pd (Or.inl rfl) l3 (ps i + k - pd) (by omega)
        rw [show pd + (ps i + k - pd) = ps i + k by omega, e1] at e2
        exact hps i hi (by omega)
/-- the draft is read into its program -/
theorem rd_J31 (h : SInv x T m tx es ts as ps txs ss pd own) (h2 : tV T x 2 = 0) (h3 : tV T x 3 = 0) (hps : ∀ i, i < as.length → ps i ≠ pd) {bc bs : Nat} : ∃ T', h_11042_J31 x bc bs T = some T' ∧ SInv x T' m tx es ts as ps txs ss pd own ∧ tV T' x 2 = 1 := by
  obtain ⟨t1, t2, t3, t4, t5, t6, t7⟩ := h.text
  have hS := h.1
  obtain ⟨b1, b2, b3, b4, b5, b6, b7⟩ := h.2.1
  have hu : x + 42 = x + egU true := rfl
  -- scan
  obtain ⟨s, hs⟩ : ∃ s, s = pj T x pd true := ⟨_, rfl⟩
  have s25 : s.1 25 = tx := by rw [hs, pj_x (by decide) (by decide)]; exact t4
  obtain ⟨s', ns', c1, c2, c3, _⟩ := scan_9001 s25 t5
  obtain ⟨T4, hT4⟩ : ∃ T4, T4 = emb T x pd (x + egU true) s' := ⟨_, rfl⟩
  have e9 : h_9001 x (pd + 1) (x + 1) T = some T4 := by
    unfold h_9001
    rw [b2, bP_some, hS.2.2.2.1.1, bP_some, gdc_e ⟨eng_ok hS b3 b4 true rfl, b3.2.2.1, t1⟩, hu, proj_e hS b3, ← hs, c1, bOv_some, hT4]
  have hp4 : pj T4 x pd true = s' := by
    rw [hT4]
    refine pj_emb hS b3 b4 (fun k hk => ?_) (fun w hw => ?_)
    · rw [c3.2 k (by omega), hs]
    · rw [c3.1, hs]
  have hS4 : Shp T4 x := by rw [hT4]; exact hS
  have hP4 : PrgAt T4 pd := by rw [hT4]; exact b3
  -- read
  obtain ⟨T5, hT5⟩ : ∃ T5, T5 = tsW (tsW T4 (x + 31) 0 (some pd)) (x + 31) 1 (some (pd + 1)) := ⟨_, rfl⟩
  have o5 : ∀ a, a ≠ x + 31 → Agr T4 T5 a := fun a ha => by rw [hT5]; exact (Agr.W ha).tr (Agr.W ha)
  have w5 : ∀ f, 6 ≤ f → tW T5 (x + 31) f = tW T4 (x + 31) f := fun f hf => by rw [hT5, tW_n (Or.inr (by omega)), tW_n (Or.inr (by omega))]
  have k5 : ∀ a, tK T5 a = tK T4 a ∧ (tK T4 a = 7 → tC T5 a = tC T4 a) := fun a => by rw [hT5]; exact ⟨rfl, fun _ => rfl⟩
  have hS5 : Shp T5 x := hS4.of (fun a _ _ => k5 a) (fun a f h1 h2 h3 h4 h5 h6 => by
    by_cases e : a = x + 31
    · rw [e]; exact w5 f (by omega)
    · rw [(o5 a e).2.2.1]) (by rw [hT5]; exact Nat.le_refl _)
  have hP5 : PrgAt T5 pd := hP4.of (fun a _ _ => k5 a) (fun a f h1 h2 => by rw [(o5 a (by omega)).2.2.1]) (by rw [hT5]; exact Nat.le_refl _)
  have hp5 : pj T5 x pd true = s' := by
    rw [← hp4, hT5]
    rfl
  have s14 : (s'.1 14).length ≤ 8 := by
    rw [c3.2 14 (by decide), hs, pj_x (by decide) (by decide)]
    exact b7
  obtain ⟨m1, hm1, _, _⟩ := ld_dr (m := m) t5 (fun k hk => (b1.2.2.1 _ (gD_mem hk)).ch.2) t6 (fun k hk => b1.2.2.2.2 k hk)
  obtain ⟨s1, m2, r1, r2, r3, r4, r5, r6⟩ := rd_all t5 c2 hm1 s14
  obtain ⟨T7, hT7⟩ : ∃ T7, T7 = emb T5 x pd (x + egU true) s1 := ⟨_, rfl⟩
  have w1 : tW T4 x 1 = some pd := by rw [hT4]; exact b2
  have e5 : h_5001 x (x + 31) pd T4 = some T7 := by
    unfold h_5001
    rw [show tW T4 x 5 = some (x + 42) from hS4.2.2.2.1.1, bP_some, hP4.2.2.1, bP_some, bS_eq, ← hT5, gdc_e ⟨eng_ok hS5 hP5 b4 true rfl, hS5.2.2.1.1, hP5.2.2.1, hS4.2.2.1.2.1⟩, hu, proj_e hS5 hP5, hp5, r1, bOv_some, hT7]
  have hS7 : Shp T7 x := by rw [hT7]; exact hS5
  have f1 : ∀ k, 18 ≤ k → s1.1 k = s.1 k := fun k hk => (r4.1 k (by omega)).trans (c3.2 k (by omega))
  have f2 : ∀ w, 6 ≤ w → s1.2 w = s.2 w := fun w hw => (r4.2 w hw).trans (by rw [c3.1])
  -- what has changed
  have gB : ∀ a, (∀ k, k < 26 → a = egA x pd true (6 + k) → 18 ≤ k) → tB T7 a = tB T a := fun a ha => by
    rw [hT7]
    refine (emb_same hS5 hP5 b4 (fun k hk e => ?_)).trans ?_
    · rw [hp5, f1 k (ha k hk e), c3.2 k (by have := ha k hk e; omega)]
    · show tB T5 a = tB T a
      rw [show tB T5 a = tB T4 a by rw [hT5]; rfl, hT4]
      exact emb_same hS b3 b4 (fun k hk e => by rw [c3.2 k (by have := ha k hk e; omega), hs])
  have gV : ∀ a f, (∀ w, w < 14 → a = egA x pd true (ev_ob w) → f = ev_fl w → 6 ≤ w) → tV T7 a f = tV T a f := fun a f ha => by
    rw [hT7]
    refine (emb_samei hS5 hP5 b4 (fun w hw e e' => ?_)).trans ?_
    · rw [hp5, f2 w (ha w hw e e'), c3.1, hs]
    · show tV T5 a f = tV T a f
      rw [show tV T5 a f = tV T4 a f by rw [hT5]; rfl, hT4]
      exact emb_samei hS b3 b4 (fun w hw e e' => by rw [c3.1, hs])
  have tabR : ∀ k, k < 26 → ¬ 18 ≤ k → (egP (6 + k) = true ∧ egO true (6 + k) < 28) ∨ (egP (6 + k) = false ∧ 32 ≤ egO true (6 + k) ∧ egO true (6 + k) ≤ 40) := by decide
  have tabO : ∀ w, w < 14 → ¬ 6 ≤ w → (egP (ev_ob w) = true ∧ egO true (ev_ob w) = 0) ∨ (egP (ev_ob w) = false ∧ egO true (ev_ob w) = 31) := by decide
  have gB' : ∀ a, ¬ (pd ≤ a ∧ a < pd + 28) → ¬ (x + 32 ≤ a ∧ a ≤ x + 40) → tB T7 a = tB T a := fun a h1 h2 => gB a (fun k hk e => by
    by_cases c : 18 ≤ k
    · exact c
    · exfalso
      unfold egA at e
      rw [if_pos (by omega)] at e
      rcases tabR k hk c with ⟨q1, q2⟩ | ⟨q1, q2, q3⟩
      · rw [q1, if_pos rfl] at e; omega
      · rw [q1, if_neg (by decide)] at e; omega)
  have gV' : ∀ a, a ≠ pd → a ≠ x + 31 → tV T7 a = tV T a := fun a h1 h2 => funext fun f => gV a f (fun w hw e _ => by
    by_cases c : 6 ≤ w
    · exact c
    · exfalso
      unfold egA at e
      rw [if_pos (by have := ev_ob6 w; omega)] at e
      rcases tabO w hw c with ⟨q1, q2⟩ | ⟨q1, q2⟩
      · rw [q1, if_pos rfl, q2] at e; omega
      · rw [q1, if_neg (by decide), q2] at e; omega)
  have gA : ∀ a, ¬ (pd ≤ a ∧ a < pd + 28) → ¬ (x + 31 ≤ a ∧ a ≤ x + 40) → Agr T T7 a := fun a h1 h2 => by
    refine ⟨?_, ?_, ?_, ?_, gB' a h1 (by omega), gV' a (by omega) (by omega)⟩
    · rw [hT7]; show tK T5 a = _; rw [(k5 a).1, hT4]; rfl
    · intro hk
      rw [hT7]
      show tC T5 a = _
      rw [(k5 a).2 (by rw [hT4]; exact hk), hT4]; rfl
    · rw [hT7]; show tW T5 a = _; rw [(o5 a (by omega)).2.2.1, hT4]; rfl
    · rw [hT7]; show tA T5 a = _; rw [(o5 a (by omega)).2.2.2.1, hT4]; rfl
  have hZ7 : tZ T7 = tZ T := by rw [hT7]; show tZ T5 = _; rw [hT5]; show tZ T4 = _; rw [hT4]; rfl
  obtain ⟨d1, d2⟩ := h.dyn2 (T' := tsV T7 x 2 1) (by show tZ T ≤ tZ T7; omega) (by
    obtain ⟨l1, l2, l3, l4, l5⟩ := h.low
    exact ⟨(gA (x + 68) (by omega) (by omega)).2.2.2.1, (gA (x + 69) (by omega) (by omega)).2.2.2.1⟩) hps (fun a h1 h2 h3 h4 => (gA a h4 (by omega)).tr (Agr.V (by omega)))
  have hx7 : tK T7 x = 12 := hS7.1
  obtain ⟨l1, l2, l3, l4, l5⟩ := h.low
  have a1 : Agr T T7 (x + 1) := gA _ (by omega) (by omega)
  have r43 : Agr T T7 (x + 43) := gA _ (by omega) (by omega)
  have r45 : Agr T T7 (x + 45) := gA _ (by omega) (by omega)
  have r42 : Agr T T7 (x + 42) := gA _ (by omega) (by omega)
  have ax : Agr T T7 x := gA _ (by omega) (by omega)
  refine ⟨tsV T7 x 2 1, ?_, ⟨hS7, ⟨⟨a1.2.2.2.2.1.trans b1.1, b1.2⟩, ?_, ?_, b4, Or.inr ⟨tV_s, s', s1, c2, s14, r1, fun k hk => ?_, ?_, ?_⟩, Or.inl ?_, ?_⟩, ?_, d1, d2, h.2.2.2.2.2⟩, tV_s⟩
  · unfold h_11042_J31
    rw [gd_e t7, b2, bP_some, gd_e b3.1, b3.2.2.1, bP_some, gd_e t7, t1, bP_some, gd_e b3.2.1, e9, bOv_some, gd_e hS4.1, hS4.2.2.1.1, bP_some, gd_e hS4.1, w1, bP_some, gd_e hS4.2.2.1.2.1, e5, bOv_some, gd_e hx7, bS_eq]
  · show tW T7 x 1 = _
    rw [ax.2.2.1]; exact b2
  · show PrgAt T7 pd
    rw [hT7]; exact hP5
  · show tB T7 (pd + 2 + 2 * k) = _
    have he : egA x pd true (6 + k) = pd + 2 + 2 * k := by
      have ht : ∀ k, k < 13 → egP (6 + k) = true ∧ egO true (6 + k) = 2 + 2 * k := by decide
      unfold egA
      rw [if_pos (by omega), (ht k hk).1, if_pos rfl, (ht k hk).2, Nat.add_assoc]
    rw [hT7, ← he]
    exact emb_r hS5 hP5 b4 (by omega)
  · rw [tV_n (Or.inl (by omega)), hT7]
    exact emb_i (v := true) (w := 0) hS5 hP5 b4 (by decide)
  · rw [tV_n (Or.inl (by omega)), hT7]
    exact emb_i (v := true) (w := 1) hS5 hP5 b4 (by decide)
  · rw [tV_n (Or.inr (by decide)), ax.2.2.2.2.2]
    rcases b6 with w | w
    · exact w
    · rw [h3] at w; exact absurd w (by decide)
  · show (tB T7 (x + 34)).length ≤ 8
    have := emb_r (v := true) (s := s1) (k := 14) hS5 hP5 b4 (by decide)
    rw [show egA x pd true (6 + 14) = x + 34 from rfl] at this
    rw [hT7, this]
    exact r5
  · exact h.2.2.1.of r43.2.2.2.2.1 r45.2.2.2.2.1 (by rw [tV_n (Or.inl (by omega)), r42.2.2.2.2.2]) (by rw [tV_n (Or.inr (by decide)), ax.2.2.2.2.2])
end RDD
