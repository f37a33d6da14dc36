/-! the school: a new exercise -/
section EXE
variable {x : Nat} {T T' : Tx} {m m' : Mx} {tx : List Int32} {es es' : List Nat} {ts ts' : Nat → List Nat} {as : List Nat} {ps : Nat → Nat} {txs : Nat → List Int32} {ss : Nat → Sx} {pd : Nat} {own : Nat → Nat} {v w : Int32}
/-- what lay there before stays -/
theorem SInv.old (h : SInv x T m tx es ts as ps txs ss pd own) (hZ : tZ T ≤ tZ T') (hg : ∀ a, (x ≤ a ∧ a < x + 74 ∨ pd ≤ a ∧ a < pd + 28) → a ≠ x + 68 → a ≠ x + 69 → Agr T T' a) (h8 : ∀ a, a = x + 68 ∨ a = x + 69 → tK T' a = tK T a ∧ tW T' a = tW T a) : Shp T' x ∧ DrI x T' m tx as.length ps pd ∧ TrI x T' m := by
  obtain ⟨l1, l2, l3, l4, l5⟩ := h.low
  obtain ⟨a1, ⟨⟨b1, b1'⟩, b2, b3, b4, b5, b6, b7⟩, a3, a4, a5, a6⟩ := h
  have gx := hg x (by omega) (by omega) (by omega)
  have gp : ∀ k, k < 28 → Agr T T' (pd + k) := fun k hk => hg _ (by omega) (by omega) (by omega)
  have n68 : tK T (x + 68) = 1 := a1.2.2.2.2.2.2.2.1.2
  have n69 : tK T (x + 69) = 1 := a1.2.2.2.2.2.2.2.2.1.2
  refine ⟨a1.of (fun a h1 h2 => ?_) (fun a f h1 h2 h3 h4 h5 h6 => ?_) hZ, ⟨⟨by rw [(hg _ (by omega) (by omega) (by omega)).2.2.2.2.1]; exact b1, b1'⟩, by rw [gx.2.2.1]; exact b2, b3.agr hZ gp, b4, ?_, by rw [gx.2.2.2.2.2]; exact b6, by rw [(hg _ (by omega) (by omega) (by omega)).2.2.2.2.1]; exact b7⟩, a3.of (hg _ (by omega) (by omega) (by omega)).2.2.2.2.1 (hg _ (by omega) (by omega) (by omega)).2.2.2.2.1 (by rw [(hg (x + 42) (by omega) (by omega) (by omega)).2.2.2.2.2]) (by rw [gx.2.2.2.2.2])⟩
  · by_cases e : a = x + 68 ∨ a = x + 69
    · refine ⟨(h8 a e).1, fun k => ?_⟩
      rcases e with e | e
      · rw [e, n68] at k; exact absurd k (by decide)
      · rw [e, n69] at k; exact absurd k (by decide)
    · have := hg a (by omega) (by omega) (by omega)
      exact ⟨this.1, this.2.1⟩
  · by_cases e : a = x + 68 ∨ a = x + 69
    · rw [(h8 a e).2]
    · rw [(hg a (by omega) (by omega) (by omega)).2.2.1]
  · rw [gx.2.2.2.2.2]
    rcases b5 with w | ⟨w, s0, s1, z1, z2, z3, z4⟩
    · exact Or.inl w
    · exact Or.inr ⟨w, s0, s1, z1, z2, z3, z4.agr gp⟩
theorem DrI.mm {na : Nat} (h : DrI x T m tx na ps pd) (e0 : m' 0 0 = m 0 0) (e1 : m' 1 = m 1) : DrI x T m' tx na ps pd := by
  unfold DrI Txt at h ⊢
  rw [e0, e1]
  exact h
theorem gN_l {l : List Nat} {a i : Nat} (h : i < l.length) : gNl (l ++ [a]) i = gNl l i := by
  show (l ++ [a]).getD i 0 = l.getD i 0
  rw [List.getD_eq_getElem?_getD, List.getD_eq_getElem?_getD, List.getElem?_append_left h]
theorem gN_e {l : List Nat} {a : Nat} : gNl (l ++ [a]) l.length = a := by
  show (l ++ [a]).getD l.length 0 = a
  rw [List.getD_eq_getElem?_getD, List.getElem?_append_right (Nat.le_refl _), Nat.sub_self]
  rfl
theorem ExR.ref {e i : Nat} {tl : List Nat} (h : ExR x T m e i tl) (h1 : ∀ j, j = 37 ∨ j = 38 ∨ j = 39 → m' j i = m j i) (h2 : ∀ j, 40 ≤ j → j ≤ 44 → m' j = m j) : ExR x T m' e i tl := by
  have e40 : m' 40 = m 40 := h2 _ (by decide) (by decide)
  have e41 : m' 41 = m 41 := h2 _ (by decide) (by decide)
  have e42 : m' 42 = m 42 := h2 _ (by decide) (by decide)
  have e43 : m' 43 = m 43 := h2 _ (by decide) (by decide)
  have e44 : m' 44 = m 44 := h2 _ (by decide) (by decide)
  unfold ExR TstR at h ⊢
  rw [e40, e41, e42, e43, e44, h1 37 (by omega), h1 38 (by omega), h1 39 (by omega)]
  exact h
theorem AnR.ref {a i p : Nat} {s : Sx} {qs : Nat → Sx} (h : AnR x T m es ts a i p tx s qs) (h1 : ∀ j, j < es.length → j < es'.length ∧ gNl es' j = gNl es j ∧ ts' j = ts j ∧ m' 37 j = m 37 j) (hj : ∀ j, j ≠ 0 → j ≠ 37 → j ≠ 38 → j ≠ 39 → m' j = m j) : AnR x T m' es' ts' a i p tx s qs := by
  obtain ⟨a1, a2, a3, a4, b1, a5, c1, d1, d2, d3, ⟨j, e1, e2, e3, e4, e5, e6⟩, f1⟩ := h
  obtain ⟨g1, g2, g3, g4⟩ := h1 j e1
  have e41 : m' 41 = m 41 := hj _ (by decide) (by decide) (by decide) (by decide)
  have e42 : m' 42 = m 42 := hj _ (by decide) (by decide) (by decide) (by decide)
  have e43 : m' 43 = m 43 := hj _ (by decide) (by decide) (by decide) (by decide)
  have e46 : m' 46 = m 46 := hj _ (by decide) (by decide) (by decide) (by decide)
  have e47 : m' 47 = m 47 := hj _ (by decide) (by decide) (by decide) (by decide)
  have e48 : m' 48 = m 48 := hj _ (by decide) (by decide) (by decide) (by decide)
  have e49 : m' 49 = m 49 := hj _ (by decide) (by decide) (by decide) (by decide)
  have e50 : m' 50 = m 50 := hj _ (by decide) (by decide) (by decide) (by decide)
  have e51 : m' 51 = m 51 := hj _ (by decide) (by decide) (by decide) (by decide)
  refine ⟨a1, a2, a3, by rw [e46]; exact a4, b1, by rw [e48]; exact a5, c1, by rw [e49]; exact d1, d2.of (hj _ (by decide) (by decide) (by decide) (by decide)) (hj _ (by decide) (by decide) (by decide) (by decide)), d3, ⟨j, g1, by rw [e47]; exact e2, by rw [g2]; exact e3, by rw [g3]; exact e4, by rw [g3]; exact e5, ?_⟩, f1⟩
  rw [g3, g4, e41, e42, e43, e50, e51]
  exact e6
theorem tA_s {a y : Nat} : tA (tAdd T a y) a = tA T a ++ [y] := if_pos rfl
theorem tZ_add {a y : Nat} : tZ T ≤ tZ (tAdd T a y) := by
  show tZ T ≤ (if (tA T a).length < tC T a then tZ T else tZ T + 1)
  split <;> omega
theorem h2000_e {me : Nat} {a b c : Int32} (hk : tK T me = 3) (hz : me + 1 = tZ T) : ∃ T', h_2000 me a b c T = some T' ∧ tZ T' = me + 2 ∧ (∀ y, y < me → Agr T T' y) ∧ tK T' me = 3 ∧ tW T' me 3 = some (me + 1) ∧ tK T' (me + 1) = 1 ∧ tA T' (me + 1) = [] ∧ tV T' me 0 = a ∧ tV T' me 1 = b ∧ tV T' me 2 = c := by
  obtain ⟨T2, hT2⟩ : ∃ T2, T2 = tLst (tNew T 101) (tZ T) := ⟨_, rfl⟩
  have o2 : ∀ y, y < tZ T → Agr T T2 y := fun y hy => by rw [hT2]; exact (Agr.N hy).tr (Agr.L (by omega))
  have k2 : tK T2 me = 3 := (o2 me (by omega)).1.trans hk
  obtain ⟨T6, hT6⟩ : ∃ T6, T6 = tsV (tsV (tsV (tsW T2 me 3 (some (tZ T))) me 0 a) me 1 b) me 2 c := ⟨_, rfl⟩
  refine ⟨T6, ?_, ?_, fun y hy => (o2 y (by omega)).tr ?_, ?_, ?_, ?_, ?_, ?_, ?_, ?_⟩
  · unfold h_2000
    rw [bS_eq, gd_e tK_new, bS_eq, ← hT2, gd_e k2, bS_eq, gd_e (show tK (tsW T2 me 3 (some (tZ T))) me = 3 from k2), bS_eq, gd_e (show tK (tsV (tsW T2 me 3 (some (tZ T))) me 0 a) me = 3 from k2), bS_eq, gd_e (show tK (tsV (tsV (tsW T2 me 3 (some (tZ T))) me 0 a) me 1 b) me = 3 from k2), bS_eq, ← hT6]
  · rw [hT6]
    show tZ T2 = _
    rw [hT2]
    show tZ T + 1 = _
    omega
  · rw [hT6]
    exact (((Agr.W (by omega)).tr (Agr.V (by omega))).tr (Agr.V (by omega))).tr (Agr.V (by omega))
  · rw [hT6]; exact k2
  · rw [hT6]
    show tW (tsW T2 me 3 (some (tZ T))) me 3 = _
    rw [tW_s, hz]
  · rw [hT6, hz]
    show tK T2 (tZ T) = 1
    rw [hT2]
    exact if_pos rfl
  · rw [hT6, hz]
    show tA T2 (tZ T) = []
    rw [hT2]
    exact if_pos rfl
  · rw [hT6, tV_n (Or.inr (by decide)), tV_n (Or.inr (by decide)), tV_s]
  · rw [hT6, tV_n (Or.inr (by decide)), tV_s]
  · rw [hT6, tV_s]
/-- the class's side of a new exercise -/
theorem ex_new (h : SInv x T m tx es ts as ps txs ss pd own) (h4 : es.length < 4) (hv : 1 ≤ v.toInt ∧ v.toInt ≤ 2000) (hw : (tV T x 13).toInt ≤ w.toInt ∧ w.toInt ≤ 1000) (h65 : m' 0 65 = nI (es.length + 1)) (h37 : ∀ k, m' 37 k = if k = es.length then v else m 37 k) (h38 : ∀ k, m' 38 k = if k = es.length then w else m 38 k) (h39 : ∀ k, m' 39 k = if k = es.length then 0 else m 39 k) (hj : ∀ j, j ≠ 0 → j ≠ 37 → j ≠ 38 → j ≠ 39 → m' j = m j) (hf : ∀ f, f = 0 ∨ f = 60 ∨ f = 63 ∨ f = 64 ∨ f = 74 → m' 0 f = m 0 f) : ∃ T', h_11015 x v w T = some (T', .inr (nI es.length)) ∧ SINV x T' m' := by
  obtain ⟨l1, l2, l3, l4, l5⟩ := h.low
  have hS := h.1
  have w9 : tW T x 9 = some (x + 68) := hS.2.2.2.2.2.2.2.1.1
  have k68 : tK T (x + 68) = 1 := hS.2.2.2.2.2.2.2.1.2
  have a68 : tA T (x + 68) = es := h.2.2.2.1.2.2.1
  obtain ⟨T9, hT9⟩ : ∃ T9, T9 = tNew T 3 := ⟨_, rfl⟩
  have o9 : ∀ y, y < tZ T → Agr T T9 y := fun y hy => by rw [hT9]; exact Agr.N hy
  obtain ⟨T12, e1, e2, e3, e4, e5, e6, e7, e8, e9, e10⟩ := h2000_e (T := T9) (me := tZ T) (a := nI es.length) (b := v) (c := w) (by rw [hT9]; exact tK_new) (by rw [hT9]; rfl)
  have o12 : ∀ y, y < tZ T → Agr T T12 y := fun y hy => (o9 y hy).tr (e3 y hy)
  obtain ⟨T13, hT13⟩ : ∃ T13, T13 = tAdd T12 (x + 68) (tZ T) := ⟨_, rfl⟩
  have o13 : ∀ y, y ≠ x + 68 → Agr T12 T13 y := fun y hy => by rw [hT13]; exact Agr.A hy
  have z13 : tZ T + 2 ≤ tZ T13 := by rw [hT13, ← e2]; exact tZ_add
  have a13 : tA T13 (x + 68) = es ++ [tZ T] := by rw [hT13, tA_s, (o12 _ (by omega)).2.2.2.1, a68]
  have g : ∀ a, a < tZ T → a ≠ x + 68 → Agr T T13 a := fun a ha h8 => (o12 a ha).tr (o13 a h8)
  have K : ∀ a, a < tZ T → tK T13 a = tK T a ∧ tW T13 a = tW T a := fun a ha => by rw [hT13]; exact ⟨(o12 a ha).1, (o12 a ha).2.2.1⟩
  have hlen : (es ++ [tZ T]).length = es.length + 1 := by simp
  refine ⟨T13, ?_, ?_⟩
  · unfold h_11015
    rw [if_neg (by rw [i_lt, i_1]; omega), if_neg (by rw [i_lt, show (2000 : Int32).toInt = 2000 by decide]; omega), gd_e hS.1, if_neg (by rw [i_lt]; omega), if_pos (by rw [i_le, show (1000 : Int32).toInt = 1000 by decide]; omega), gd_e hS.1, w9, bP_some, gd_e k68, a68, if_pos (show nI es.length < 4 by rw [i_lt, nI_T (by omega), show (4 : Int32).toInt = 4 by decide]; omega), gd_e hS.1, bP_some, bS_eq, ← hT9]
    rw [gd_e ((o9 x (by omega)).1.trans hS.1), (o9 x (by omega)).2.2.1, w9, bP_some, gd_e ((o9 _ (by omega)).1.trans k68), gd_e (show tK T9 (tZ T) = 3 by rw [hT9]; exact tK_new), (o9 (x + 68) (by omega)).2.2.2.1, a68, e1, bOv_some, gd_e ((o12 _ (by omega)).1.trans k68), gd_e ⟨by rw [(o12 (x + 68) (by omega)).2.2.2.1, a68]; omega, by rw [e4]; decide⟩, bS_eq, ← hT13, gd_e ((K x (by omega)).1.trans hS.1), (K x (by omega)).2, w9, bP_some, gd_e ((K (x + 68) (by omega)).1.trans k68), a13, hlen, nI_pp (by omega)]
  · obtain ⟨o1, o2, o3⟩ := h.old (T' := T13) (by omega) (fun a h1 h2 h3 => g a (by omega) h2) (fun a ha => K a (by omega))
    have hn1 := h.2.2.2.1
    have hn2 := h.2.2.2.2.1
    have hts : ∀ i, i < es.length → (if i = es.length then [] else ts i) = ts i := fun i hi => if_neg (by omega)
    refine ⟨tx, es ++ [tZ T], fun i => if i = es.length then [] else ts i, as, ps, txs, ss, pd, fun y => if tZ T ≤ y then 4 * es.length + 2 else own y, o1, o2.mm (hf 0 (by omega)) (hj 1 (by decide) (by decide) (by decide) (by decide)), o3.mm (hf 60 (by omega)) (hf 63 (by omega)) (hf 64 (by omega)) (hj _ (by decide) (by decide) (by decide) (by decide)) (hj _ (by decide) (by decide) (by decide) (by decide)), ⟨by rw [hlen]; exact h65, by rw [hlen]; omega, a13, fun i hi => ?_⟩, ⟨(hf 74 (by omega)).trans hn2.1, hn2.2.1, (g _ (by omega) (by omega)).2.2.2.1.trans hn2.2.2.1, fun i hi => ?_⟩, ⟨fun i hi k hk => ?_, fun p hp h1 k hk => ?_, fun i hi => ?_, fun i hi j hj => ?_⟩⟩
    · rw [hlen] at hi
      by_cases e : i = es.length
      · subst e
        show ExR x T13 m' (gNl (es ++ [tZ T]) es.length) es.length (if es.length = es.length then [] else ts es.length)
        rw [gN_e, if_pos rfl]
        have q1 := o13 (tZ T) (by omega)
        have q2 := o13 (tZ T + 1) (by omega)
        have y8 := h.2.2.1.2.2.2.2.2.2.2
        have := y8.1
        refine ⟨l5, z13, q1.1.trans e4, by rw [q1.2.2.1]; exact e5, q2.1.trans e6, q2.2.2.2.1.trans e7, by simp, by rw [q1.2.2.2.2.2]; exact e8, by rw [q1.2.2.2.2.2, h37, if_pos rfl]; exact e9, ?_, by rw [q1.2.2.2.2.2, h38, if_pos rfl]; exact e10, ?_, by rw [h39, if_pos rfl]; decide, fun j hj => absurd hj (by simp)⟩
        · rw [h37, if_pos rfl]; exact hv
        · rw [h38, if_pos rfl]; exact ⟨by omega, hw.2⟩
      · obtain ⟨p1, p2, p3⟩ := l1 i (by omega)
        show ExR x T13 m' (gNl (es ++ [tZ T]) i) i (if i = es.length then [] else ts i)
        rw [gN_l (by omega), if_neg e]
        refine ((hn1.2.2.2 i (by omega)).agr (by omega) (g _ (by omega) (by omega)) (g _ (by omega) (by omega)) (fun j hj => g _ (p3 j hj).2 (by have := (p3 j hj).1; omega))).ref (fun j hj' => ?_) (fun j h1 h2 => hj j (by omega) (by omega) (by omega) (by omega))
        rcases hj' with e' | e' | e' <;> subst e'
        · rw [h37, if_neg e]
        · rw [h38, if_neg e]
        · rw [h39, if_neg e]
    · obtain ⟨p1, p2, p3, p4⟩ := l2 i hi
      refine ((hn2.2.2.2 i hi).agr (by omega) (fun k hk => g _ (by omega) (by omega)) (fun k hk => g _ (by omega) (by omega))).ref (fun j hj' => ⟨by rw [hlen]; omega, gN_l hj', hts j hj', by rw [h37, if_neg (by omega)]⟩) hj
    · have := (l2 i hi).2.1
      show (if _ then _ else _) = _
      rw [if_neg (by omega)]
      exact h.2.2.2.2.2.1 i hi k hk
    · have : p + 28 ≤ tZ T := by
        rcases hp with e | ⟨i, hi, e⟩
        · rw [e]; exact l4
        · rw [e]; exact (l2 i hi).2.2.2
      show (if _ then _ else _) = _
      rw [if_neg (by omega)]
      exact h.2.2.2.2.2.2.1 p hp h1 k hk
    · rw [hlen] at hi
      by_cases e : i = es.length
      · subst e
        rw [gN_e]
        show (if _ then _ else _) = _ ∧ (if _ then _ else _) = _
        rw [if_pos (by omega), if_pos (by omega)]
        exact ⟨rfl, rfl⟩
      · rw [gN_l (by omega)]
        have := (l1 i (by omega)).2.1
        show (if _ then _ else _) = _ ∧ (if _ then _ else _) = _
        rw [if_neg (by omega), if_neg (by omega)]
        exact h.2.2.2.2.2.2.2.1 i (by omega)
    · rw [hlen] at hi
      by_cases e : i = es.length
      · subst e
        dsimp only at hj
        rw [if_pos rfl] at hj
        exact absurd hj (by simp)
      · dsimp only at hj ⊢
        rw [if_neg e] at hj ⊢
        have := ((l1 i (by omega)).2.2 j hj).2
        rw [if_neg (by omega)]
        exact h.2.2.2.2.2.2.2.2 i (by omega) j hj
theorem bIn {a b : Int} {a' b' : Int64} (ha : a'.toInt = a) (hb : b'.toInt = b) : f_12002 v.toInt64 a' b' m = if a ≤ v.toInt ∧ v.toInt ≤ b then 1 else 0 := by
  rw [in_e, ha, hb, Int32.toInt_toInt64]
theorem mfms {j : Nat} {i u : Int32} {f : Nat} (hj : j ≠ 0) : mf (ms m j i u) f = mf m f := by
  show ms m j i u 0 f = m 0 f
  rw [ms_j (fun e => hj e.symm)]
theorem c_addExercise (h : SInv x T m tx es ts as ps txs ss pd own) : SameT (h_11015 x v w T) (f_12084 v w m) cA (SINV x) := by
  have hI : SINV x T m := ⟨_, _, _, _, _, _, _, _, _, h⟩
  have e1 : f_12002 v.toInt64 1 2000 m = if 1 ≤ v.toInt ∧ v.toInt ≤ 2000 then 1 else 0 := bIn (by decide) (by decide)
  have h64 : mf m 64 = tV T x 13 := h.2.2.1.2.2.2.2.2.2.1
  have e2 : f_12002 w.toInt64 ((mf m 64).toInt64) 1000 m = if (tV T x 13).toInt ≤ w.toInt ∧ w.toInt ≤ 1000 then 1 else 0 := bIn (by rw [h64, Int32.toInt_toInt64]) (by decide)
  have h65 : mf m 65 = nI es.length := h.2.2.2.1.1
  have hle := h.2.2.2.1.2.1
  by_cases hv : (1 ≤ v.toInt ∧ v.toInt ≤ 2000) ∧ (tV T x 13).toInt ≤ w.toInt ∧ w.toInt ≤ 1000
  · by_cases h4 : es.length < 4
    · obtain ⟨m3, hm3⟩ : ∃ m3, m3 = ms (ms (ms (mp m 82 0) 37 (nI es.length) v) 38 (nI es.length) w) 39 (nI es.length) 0 := ⟨_, rfl⟩
      have f3 : ∀ f, m3 0 f = mp m 82 0 0 f := fun f => by rw [hm3, ms_j (by decide), ms_j (by decide), ms_j (by decide)]
      have hf : f_12084 v w m = some (mp m3 65 (nI (es.length + 1)), nI es.length) := by
        unfold f_12084 f_12084_J34 f_12084_J47
        rw [e1, if_pos hv.1, if_neg (by decide), e2, if_pos hv.2, if_neg (by decide), if_neg (by rw [h65, i_le, nI_T (by omega), show (4 : Int32).toInt = 4 by decide]; omega), goes2 i_01 i_01, if_pos rfl, if_pos rfl, bT_eq, if_neg (by decide)]
        have q0 : mf (mp m 82 0) 65 = nI es.length := (mp_n (by decide)).trans h65
        have q3 : mf m3 65 = nI es.length := (f3 65).trans q0
        rw [q0, gd_e (vi_n (by omega) (by omega)), bS_eq, mfms (by decide), q0, gd_e (vi_n (by omega) (by omega)), bS_eq, mfms (by decide), mfms (by decide), q0, gd_e (vi_n (by omega) (by omega)), bS_eq, ← hm3, q3, nI_p1 (by omega), bS_eq, show mf (mp m3 65 (nI (es.length + 1))) 65 = nI (es.length + 1) from mp_s, nI_pp (by omega)]
      obtain ⟨T', g1, g2⟩ := ex_new (m' := mp m3 65 (nI (es.length + 1))) h h4 hv.1 hv.2 mp_s
        (fun k => by rw [mp_j (by decide), hm3, ms_j (by decide), ms_j (by decide), ms_s (by omega), mp_j (by decide)])
        (fun k => by rw [mp_j (by decide), hm3, ms_j (by decide), ms_s (by omega), ms_j (by decide), mp_j (by decide)])
        (fun k => by rw [mp_j (by decide), hm3, ms_s (by omega), ms_j (by decide), ms_j (by decide), mp_j (by decide)])
        (fun j h0 h1 h2 h3 => by rw [mp_j h0, hm3, ms_j h3, ms_j h2, ms_j h1, mp_j h0])
        (fun f hf => by rw [mp_n (by omega), f3, mp_n (by omega)])
      exact ⟨_, _, _, _, g1, hf, g2, Or.inl ⟨_, rfl, by rw [mp_n (by decide), f3, mp_s], rfl⟩⟩
    · have hf : f_12084 v w m = some (mp m 82 2, 0) := by
        unfold f_12084 f_12084_J34 f_12084_J47
        rw [e1, if_pos hv.1, if_neg (by decide), e2, if_pos hv.2, if_neg (by decide), if_pos (by rw [h65, i_le, nI_T (by omega), show (4 : Int32).toInt = 4 by decide]; omega), goes2 i_01 (Or.inl rfl), if_pos rfl, if_neg (by decide), bT_eq, if_pos rfl]
      have hh : h_11015 x v w T = some (T, .inl 3) := by
        unfold h_11015
        rw [if_neg (by rw [i_lt, i_1]; omega), if_neg (by rw [i_lt, show (2000 : Int32).toInt = 2000 by decide]; omega), gd_e h.1.1, if_neg (by rw [i_lt]; omega), if_pos (by rw [i_le, show (1000 : Int32).toInt = 1000 by decide]; omega), gd_e h.1.1, h.1.2.2.2.2.2.2.2.1.1, bP_some, gd_e h.1.2.2.2.2.2.2.2.1.2, h.2.2.2.1.2.2.1, if_neg (by rw [i_lt, nI_T (by omega), show (4 : Int32).toInt = 4 by decide]; omega)]
      exact ⟨_, _, _, _, hh, hf, hI.mm m82, Or.inr ⟨3, rfl, by decide, mp_s⟩⟩
  · have hk : ∃ k0, (k0 = 0 ∨ k0 = 1) ∧ f_12084 v w m = f_12084_J47 v w k0 0 m := by
      have hJ : ∃ k0, (k0 = 0 ∨ k0 = 1) ∧ f_12084_J33 v w m = f_12084_J47 v w k0 0 m := by
        unfold f_12084_J33 f_12084_J34
        by_cases c : (4 : Int32) ≤ mf m 65
        · exact ⟨0, Or.inl rfl, by rw [if_pos c]⟩
        · exact ⟨1, Or.inr rfl, by rw [if_neg c]⟩
      unfold f_12084
      rw [e1, e2]
      by_cases c1 : 1 ≤ v.toInt ∧ v.toInt ≤ 2000
      · rw [if_pos c1, if_neg (by decide), if_neg (fun q => hv ⟨c1, q⟩), if_pos rfl]
        exact hJ
      · rw [if_neg c1, if_pos rfl]
        exact hJ
    obtain ⟨k0, hk0, hk1⟩ := hk
    have hf : f_12084 v w m = some (mp m 82 1, 0) := by
      rw [hk1]
      unfold f_12084_J47
      rw [goes2 (Or.inl rfl) hk0, if_neg (by decide), bT_eq, if_pos rfl]
    have hh : h_11015 x v w T = some (T, .inl 1) := by
      unfold h_11015
      by_cases c1 : v < 1
      · rw [if_pos c1]
      · rw [if_neg c1]
        by_cases c2 : 2000 < v
        · rw [if_pos c2]
        · rw [if_neg c2, gd_e h.1.1]
          by_cases c3 : w < tV T x 13
          · rw [if_pos c3]
          · rw [if_neg c3, if_neg (fun q => by
              rw [i_lt, i_1] at c1
              rw [i_lt, show (2000 : Int32).toInt = 2000 by decide] at c2
              rw [i_lt] at c3
              rw [i_le, show (1000 : Int32).toInt = 1000 by decide] at q
              exact hv ⟨⟨by omega, by omega⟩, by omega, by omega⟩)]
    exact ⟨_, _, _, _, hh, hf, hI.mm m82, Or.inr ⟨1, rfl, by decide, mp_s⟩⟩
end EXE
