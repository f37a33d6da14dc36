/-! three runs at once: blocks and calls -/
section GBX
variable {s : Sx} {m : Mx} {x y : Int32} {n d f t : Nat} {O C V bW bM vs wt w : List Int32} {i k c r j q : Nat} {z z' : Int32}
theorem g_if (hX : Cx s m n d) (hc : c ≤ n) (hi : i < 900) (hk : k < 900) (hl : w.length < 1630) (hd : (s.1 0).getD i 0 = 30) (h : (s.1 0).getD k 0 = 5) (ht : (s.1 1).getD i 0 = nI j) (hj : j < 900) (h7 : (s.1 7).getD c 0 = 14) (h8 : (s.1 8).getD c 0 = nI q) (hv : vs.length < 1290)
    (G1 : Gl s m x y f t O C V bW bM vs w (if (s.1 0).getD j 0 = 6 then j + 2 else j) 0 q r) (G2 : Gl s m x y f t O C V bW bM vs w (i + 1) 0 (c + 1) r) : Gl s m x y f t O C V bW bM (vs ++ [z]) (w ++ [nI k]) i 2 c (r + 1) := by
  have h4 : m 4 c = 13 := (hX.c4 hc h7).trans (by decide)
  have h5 : m 5 c = nI q := (hX.c5 hc h7 h8).trans (if_neg (by decide))
  have h17 : m 4 c ≠ 17 := by rw [h4]; decide
  have hn := hX.1
  have hW := W_if (O := O) (C := C) (V := V) (vm := s.1 22) (vw := vs) (b := bW) (f := nI f) (x := x) (y := y) (t := nI t) (p := s.2 11) (z := z) (w := w) (show i < 1000 by omega) (show k < 1000 by omega) (show j < 1000 by omega) (by omega) hd h ht
  have hM := mc14 (s := s) (O := O) (C := C) (V := V) (b := bM) (vm := vs) (vw := s.1 23) (wt := s.1 24) (f := nI f) (x := x) (y := y) (t := nI t) (e := -1) (i := s.2 12) (u := s.2 13) (z := z) (c := c) (by omega) h7 h8
  have hR : ∀ A, AR A O C V (vs ++ [z]) bM → _ := fun A hA => rc13 (A := A) (f := nI f) (e := 0) (t := nI t) (D := nI bM.length) (o := nI O.length) (x := x) (y := y) (c := c) (h := vs.length) (by omega) h4 h5 (by omega)
  by_cases e : z = 0
  · rw [if_pos e] at hW hM
    have ej : (if (s.1 0).getD j 0 = 6 then nI (j + 2) else nI j) = nI (if (s.1 0).getD j 0 = 6 then j + 2 else j) := by split <;> rfl
    rw [ej] at hW
    refine Gl.go hW hM (fun A hA => ⟨A, hA.pop, ?_⟩) (by omega) h17 (by omega) G1
    have := hR A hA
    rw [hA.top, if_pos e] at this
    rw [len1]; exact this
  · rw [if_neg e] at hW hM
    refine Gl.go hW hM (fun A hA => ⟨A, hA.pop, ?_⟩) (by omega) h17 (by omega) G2
    have := hR A hA
    rw [hA.top, if_neg e] at this
    rw [len1]; exact this
theorem g_wh (hX : Cx s m n d) (hc : c ≤ n) (hi : i < 900) (hk : k < 900) (hl : w.length < 1630) (hd : (s.1 0).getD i 0 = 30) (h : (s.1 0).getD k 0 = 7) (ht : (s.1 1).getD i 0 = nI j) (h7 : (s.1 7).getD c 0 = 14) (h8 : (s.1 8).getD c 0 = nI q) (hv : vs.length < 1290)
    (G1 : Gl s m x y f t O C V bW bM vs w j 0 q r) (G2 : Gl s m x y f t O C V bW bM vs w (i + 1) 0 (c + 1) r) : Gl s m x y f t O C V bW bM (vs ++ [z]) (w ++ [nI k]) i 2 c (r + 1) := by
  have h4 : m 4 c = 13 := (hX.c4 hc h7).trans (by decide)
  have h5 : m 5 c = nI q := (hX.c5 hc h7 h8).trans (if_neg (by decide))
  have h17 : m 4 c ≠ 17 := by rw [h4]; decide
  have hn := hX.1
  have hW := W_wh (O := O) (C := C) (V := V) (vm := s.1 22) (vw := vs) (b := bW) (f := nI f) (x := x) (y := y) (t := nI t) (p := s.2 11) (z := z) (w := w) (show i < 1000 by omega) (show k < 1000 by omega) (by omega) hd h ht
  have hM := mc14 (s := s) (O := O) (C := C) (V := V) (b := bM) (vm := vs) (vw := s.1 23) (wt := s.1 24) (f := nI f) (x := x) (y := y) (t := nI t) (e := -1) (i := s.2 12) (u := s.2 13) (z := z) (c := c) (by omega) h7 h8
  have hR : ∀ A, AR A O C V (vs ++ [z]) bM → _ := fun A hA => rc13 (A := A) (f := nI f) (e := 0) (t := nI t) (D := nI bM.length) (o := nI O.length) (x := x) (y := y) (c := c) (h := vs.length) (by omega) h4 h5 (by omega)
  by_cases e : z = 0
  · rw [if_pos e] at hW hM
    refine Gl.go hW hM (fun A hA => ⟨A, hA.pop, ?_⟩) (by omega) h17 (by omega) G1
    have := hR A hA
    rw [hA.top, if_pos e] at this
    rw [len1]; exact this
  · rw [if_neg e] at hW hM
    refine Gl.go hW hM (fun A hA => ⟨A, hA.pop, ?_⟩) (by omega) h17 (by omega) G2
    have := hR A hA
    rw [hA.top, if_neg e] at this
    rw [len1]; exact this
theorem g_jmp {u u' : Int32} (hX : Cx s m n d) (hc : c ≤ n) (h7 : (s.1 7).getD c 0 = 13) (h8 : (s.1 8).getD c 0 = nI q)
    (hW : wst (cS s O C V bW (s.1 22) vs wt (nI f) x y (nI t) (-1) (s.2 11) (nI i) u) = some (cS s O C V bW (s.1 22) vs wt (nI f) x y (nI t) (-1) (s.2 11) (nI j) u'))
    (G : Gl s m x y f t O C V bW bM vs wt j u' q r) : Gl s m x y f t O C V bW bM vs wt i u c (r + 1) := by
  have h4 : m 4 c = 14 := (hX.c4 hc h7).trans (by decide)
  have h5 : m 5 c = nI q := (hX.c5 hc h7 h8).trans (if_neg (by decide))
  have h17 : m 4 c ≠ 17 := by rw [h4]; decide
  have hn := hX.1
  exact Gl.go hW (mc13 (by omega) h7 h8) (fun A hA => ⟨A, hA, rc14 (by omega) h4 h5⟩) (by omega) h17 (by omega) G
theorem g_cld {o j : Nat} (hX : Cx s m n d) (hc : c + 1 ≤ n) (hi : i < 900) (ho : o < 900) (hd : (s.1 0).getD i 0 = 31) (ht : (s.1 1).getD i 0 = nI o) (hko : (s.1 0).getD o 0 = 10) (h7 : (s.1 7).getD c 0 = 1) (h8 : (s.1 8).getD c 0 = 0) (h7' : (s.1 7).getD (c + 1) 0 = 16) (hv : vs.length < 1290) (hb : bM.length < 10)
    (G : Gl s m x y f t O C V bW bM (vs ++ [0]) wt j 2 q r) : Gl s m x y f t O C V (bW ++ [nI j]) (bM ++ [nI q]) vs wt i 0 c (r + 2) := by
  have h4 : m 4 c = 1 := (hX.c4 (by omega) h7).trans (by decide)
  have h5 : m 5 c = 0 := (hX.c5 (by omega) h7 h8).trans (if_neg (by decide))
  have h4' : m 4 (c + 1) = 15 := (hX.c4 hc h7').trans (by decide)
  have hn := hX.1
  intro A hA
  obtain ⟨kW, kM, kR, rW, rM, rR, g1, g2, g3, g4, g5, g6, g7⟩ := G _ (hA.push (v := 0)).leave.1
  refine ⟨kW + 1, kM + 1 + 1, kR + 1 + 1, rW, rM, rR, ⟨rfl, _, W_cld (by omega) (by omega) hd ht hko (by omega), g1⟩, ⟨rfl, _, mc1 (by omega) h7 h8 (by omega), rfl, _, mc16 (by omega) h7', g2⟩, ER.cons (by omega) (by rw [h4]; decide) (rc1 (by omega) h4 h5 (by omega)) (ER.cons (A' := u2 A 30 vs.length 0) (F' := nI f) (T' := nI t) (D' := nI bM.length) (h' := nI (vs.length + 1)) (o' := nI O.length) (c' := q) (by omega) (by rw [h4']; decide) ?_ (by rw [← len1 (v := 0)]; exact g3)), by omega, by omega, by omega, g7⟩
  rw [len1, rc15 (by omega) (by omega) h4', (hA.push (v := 0)).leave.2]
-- calls
theorem ex_con {l : List Int32} (h : 0 < l.length) : ∃ l' v, l = l' ++ [v] :=
  ⟨l.dropLast, l.getLast (fun e => by rw [e] at h; exact absurd h (by decide)), (List.dropLast_concat_getLast _).symm⟩
theorem z8_len (D : Nat) : ∀ (k : Nat) (V : List Int32), (z8 V D k).length = V.length := by
  intro k
  induction k with
  | zero => intro V; rfl
  | succ k ih => intro V; exact (ih _).trans List.length_set
theorem pv_len (D : Nat) : ∀ (p : Nat) (V vs : List Int32), (pv D p V vs).1.length = V.length := by
  intro p
  induction p with
  | zero => intro V vs; rfl
  | succ p ih => intro V vs; exact (ih _ _).trans List.length_set
theorem pv_s (D : Nat) : ∀ (p : Nat) (V vs us : List Int32), us.length = p → (pv D p V (vs ++ us)).2 = vs := by
  intro p
  induction p with
  | zero =>
    intro V vs us h
    rw [List.eq_nil_of_length_eq_zero h, List.append_nil]
    rfl
  | succ p ih =>
    intro V vs us h
    obtain ⟨l, v, e⟩ := ex_con (l := us) (by omega)
    subst e
    have hl : l.length = p := by rw [len1] at h; omega
    show (pv D p _ (vs ++ (l ++ [v])).dropLast).2 = vs
    rw [← List.append_assoc, List.dropLast_concat]
    exact ih _ _ _ hl
theorem zA_n {A : Nat → Nat → Int32} (D : Nat) {j : Nat} (hj : j ≠ 31) : ∀ (k : Nat) (A : Nat → Nat → Int32) (i : Nat), zA D k A j i = A j i := by
  intro k
  induction k with
  | zero => intro A i; rfl
  | succ k ih => intro A i; exact (ih _ i).trans (uA_n hj)
theorem zA_s (D : Nat) : ∀ (k : Nat) (A : Nat → Nat → Int32) (V : List Int32), k ≤ 8 → 8 * D + 8 ≤ V.length → (∀ i, i < 8 * D + (8 - k) → A 31 i = V.getD i 0) → ∀ i, i < 8 * D + 8 → zA D k A 31 i = (z8 V D k).getD i 0 := by
  intro k
  induction k with
  | zero => intro A V _ _ h i hi; exact h i hi
  | succ k ih =>
    intro A V hk hV h i hi
    refine ih (u2 A 31 (8 * D + (7 - k)) 0) (V.set (8 * D + (7 - k)) 0) (by omega) (by rw [List.length_set]; exact hV) (fun a ha => ?_) i hi
    rw [uA_s, gset_cases (by omega)]
    by_cases e : a = 8 * D + (7 - k)
    · rw [if_pos e, if_pos e]
    · rw [if_neg e, if_neg e]
      exact h a (by omega)
theorem AR.par {A : Nat → Nat → Int32} {D : Nat} : ∀ (p : Nat) (A : Nat → Nat → Int32) (V vs : List Int32), AR A O C V vs bM → p ≤ 8 → p ≤ vs.length → 8 * D + 8 ≤ V.length → AR (pA D p vs.length A) O C (pv D p V vs).1 (pv D p V vs).2 bM := by
  intro p
  induction p with
  | zero => intro A V vs h _ _ _; exact h
  | succ p ih =>
    intro A V vs h hp hl hV
    obtain ⟨l, v, e⟩ := ex_con (l := vs) (by omega)
    subst e
    rw [len1] at hl ⊢
    show AR (pA D p l.length (u2 A 31 (8 * D + p) (A 30 l.length))) O C (pv D p (V.set (8 * D + p) (xlast (l ++ [v]))) (l ++ [v]).dropLast).1 (pv D p (V.set (8 * D + p) (xlast (l ++ [v]))) (l ++ [v]).dropLast).2 bM
    rw [List.dropLast_concat, xlast_a, h.top]
    exact ih _ _ _ (h.pop.var (by omega)) (by omega) (by omega) (by rw [List.length_set]; exact hV)
theorem AR.ent {A : Nat → Nat → Int32} {b' : Int32} {p : Nat} {us : List Int32} (h : AR A O C V (vs ++ us) bM) (hb : bM.length < 10) (hV : V.length = 88) (hp : p ≤ 8) (hu : us.length = p) :
    AR (pA (bM.length + 1) p (vs ++ us).length (zA (bM.length + 1) 8 (u2 A 32 (bM.length + 1) b'))) O C (pv (bM.length + 1) p (z8 V (bM.length + 1) 8) (vs ++ us)).1 vs (bM ++ [b']) := by
  have e := pv_s (bM.length + 1) p (z8 V (bM.length + 1) 8) vs us hu
  have hh : AR (zA (bM.length + 1) 8 (u2 A 32 (bM.length + 1) b')) O C (z8 V (bM.length + 1) 8) (vs ++ us) (bM ++ [b']) := by
    obtain ⟨h1, h2, h3, h4, h5⟩ := h
    refine ⟨fun k hk => ?_, fun k hk => ?_, fun k hk => ?_, fun k hk => ?_, fun k hk => ?_⟩
    · rw [zA_n (A := A) _ (by decide), uA_n (by decide)]; exact h1 k hk
    · rw [len1] at hk
      refine zA_s (bM.length + 1) 8 _ V (by omega) (by omega) (fun a ha => ?_) k (by omega)
      rw [uA_n (by decide)]
      exact h2 a (by omega)
    · rw [zA_n (A := A) _ (by decide), uA_s, gapp hk]
      by_cases c : k = bM.length
      · rw [if_pos (by omega), if_pos c]
      · rw [len1] at hk
        rw [if_neg (by omega), if_neg c]
        exact h3 k (by omega)
    · rw [zA_n (A := A) _ (by decide), uA_n (by decide)]; exact h4 k hk
    · rw [zA_n (A := A) _ (by decide), uA_n (by decide)]; exact h5 k hk
  have := AR.par (A := A) (D := bM.length + 1) p _ _ _ hh hp (by rw [List.length_append]; omega) (by rw [z8_len]; omega)
  rw [e] at this
  exact this
theorem g_call {u : Int32} {i0 l p k' : Nat} {us : List Int32} (hX : Cx s m n d) (ho : Ok3 f t O C V bW bM) (hc : c ≤ n) (hi : i < 900) (hk : k < 900) (ht : (s.1 1).getD k 0 = nI l) (hl : l < d) (h7 : (s.1 7).getD c 0 = 15) (h8 : (s.1 8).getD c 0 = nI l)
    (h10 : (s.1 10).getD l 0 = nI p) (hp : p ≤ 8) (h11 : (s.1 11).getD l 0 = nI k') (hk' : k' < 900) (h12 : (s.1 12).getD l 0 = nI q) (hu : us.length = p) (hv : (vs ++ us).length < 1290) (hr : 1 ≤ r)
    (hW : wst (cS s O C V bW (s.1 22) (vs ++ us) wt (nI f) x y (nI t) (-1) (s.2 11) (nI i0) u) = bOv (f_10013 (cS s O C V bW (s.1 22) (vs ++ us) (w ++ [nI (k + 1)]) (nI f) x y (nI t) (-1) (s.2 11) (nI i) u)) fun z => some z)
    (G : ∀ g V', f = g + 1 → bM.length < 10 → V'.length = 88 → Gl s m x y g t O C V' (bW ++ [nI (i + 1)]) (bM ++ [nI (c + 1)]) vs w (k' + 1) 0 q (r + 179)) : Gl s m x y f t O C V bW bM (vs ++ us) wt i0 u c r := by
  obtain ⟨o1, o2, o3, o4, o5, o6, o7⟩ := ho
  have h4 : m 4 c = 10 := (hX.c4 hc h7).trans (by decide)
  have h5 : m 5 c = nI l := (hX.c5 hc h7 h8).trans (if_neg (by decide))
  have h17 : m 4 c ≠ 17 := by rw [h4]; decide
  have hn := hX.1
  have hd := hX.2.1
  obtain ⟨e14, e15⟩ := hX.2.2.2 l hl
  rw [h10] at e14
  rw [h12] at e15
  cases f with
  | zero =>
    rw [w_cz, bOv_some] at hW
    exact Gl.en (e := 1) (by decide) (by decide) o3 o4 o1 hr hW (mc15z (by omega) h7) (fun A hA => ⟨A, _, _, _, _, rst_z (by omega) h4 (by decide), hA.2.2.2.1, hA.2.2.2.2⟩) (by omega) h17
  | succ f =>
    by_cases hb : bM.length < 10
    · rw [w_c (by omega) (by omega) (by omega) (by omega) ht (by omega) h10 hp h11 (by omega), bOv_some, o6, pv_s _ _ _ _ _ hu] at hW
      have hM := mc15 (s := s) (O := O) (C := C) (V := V) (b := bM) (vm := vs ++ us) (vw := s.1 23) (wt := s.1 24) (x := x) (y := y) (t := nI t) (i := s.2 12) (u := s.2 13) (c := c) (n := f) (by omega) hb (by omega) h7 h8 (by omega) h10 hp h12
      rw [pv_s _ _ _ _ _ hu] at hM
      refine Gl.go hW hM (fun A hA => ⟨_, hA.ent hb o5 hp hu, ?_⟩) (by omega) h17 (by omega) (G f _ rfl hb (by rw [pv_len, z8_len]; exact o5))
      rw [rc10 (by omega) hb (by omega) h4 h5 (by omega) e14 hp (by rw [List.length_append]; omega) (by omega), e15, len1, show (vs ++ us).length - p = vs.length by rw [List.length_append]; omega]
    · have hb10 : bM.length = 10 := by omega
      rw [w_cx (by omega) (by omega), bOv_some] at hW
      refine Gl.en (e := 7) (by decide) (by decide) o3 o4 (by omega) hr hW (mc15x (by omega) hb10 (by omega) h7) (fun A hA => ⟨A, _, _, _, _, by rw [hb10]; exact rc10x (by omega) (by omega) h4, hA.2.2.2.1, hA.2.2.2.2⟩) (by omega) h17
end GBX
