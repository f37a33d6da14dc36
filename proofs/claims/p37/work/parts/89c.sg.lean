/-! the pass over a text that is read without fault: what is kept, what is new -/
section SGS
def rw4 (s : Sx) : Rw := (fun x => (s.1 0).getD x 0, fun x => (s.1 1).getD x 0, fun x => (s.1 7).getD x 0, fun x => (s.1 8).getD x 0)
def Qs (s : Sx) (k k' : Nat) (i c n : Nat) : Prop := ∃ q, (i < 1000 ∧ c < 1000 ∧ k ≤ q) ∧ q < k' ∧ (s.1 15).getD q 0 = nI i ∧ (s.1 16).getD q 0 = nI n ∧ (s.1 17).getD q 0 = nI c
def Ln (s : Sx) (c k : Nat) : Prop := (s.1 7).length = c ∧ (s.1 8).length = c ∧ (s.1 15).length = k ∧ (s.1 16).length = k ∧ (s.1 17).length = k
def Nl (s : Sx) : Prop := (s.1 13).length ≤ 8 ∧ (s.1 14).length ≤ 8
/-- the calls: each at its own token and its own code -/
def CI (s : Sx) (a a' c c' k k' : Nat) : Prop := ∀ q, k ≤ q → q < k' → ∃ t x, (s.1 15).getD q 0 = nI t ∧ a ≤ t ∧ t < a' ∧ (s.1 17).getD q 0 = nI x ∧ c ≤ x ∧ x < c' ∧ (s.1 7).getD x 0 = 15 ∧ (s.1 0).getD t 0 = 35 ∧ ∀ p, k ≤ p → p < q → (s.1 15).getD p 0 ≠ nI t ∧ (s.1 17).getD p 0 ≠ nI x
/-- what is before stays -/
def Fx (s s' : Sx) (a c k : Nat) : Prop := (s'.1 1).length = (s.1 1).length ∧ (∀ x, x < a → (s'.1 0).getD x 0 = (s.1 0).getD x 0 ∧ (s'.1 1).getD x 0 = (s.1 1).getD x 0) ∧ (∀ x, (s.1 0).getD x 0 ≠ 6 → (s'.1 0).getD x 0 ≠ 6) ∧ (∀ x, x < c → (s'.1 7).getD x 0 = (s.1 7).getD x 0 ∧ (s'.1 8).getD x 0 = (s.1 8).getD x 0) ∧ (∀ q, q < k → (s'.1 15).getD q 0 = (s.1 15).getD q 0 ∧ (s'.1 16).getD q 0 = (s.1 16).getD q 0 ∧ (s'.1 17).getD q 0 = (s.1 17).getD q 0) ∧ ∀ j, 9 ≤ j → j ≤ 12 → s'.1 j = s.1 j
def Sg (s s' : Sx) (a a' c c' k k' : Nat) : Prop := (a ≤ a' ∧ a' ≤ 300 ∧ c ≤ c' ∧ c' ≤ 600 ∧ k ≤ k') ∧ Ln s c k ∧ Ln s' c' k' ∧ Fx s s' a c k ∧ CI s' a a' c c' k k'
variable {s s1 s' : Sx} {a a1 a' c c1 c' k k1 k' e L : Nat}
theorem Fx.tr (h : Fx s s1 a c k) (h' : Fx s1 s' a1 c1 k1) (ha : a ≤ a1) (hc : c ≤ c1) (hk : k ≤ k1) : Fx s s' a c k := by
  obtain ⟨p1, p2, p3, p4, p5, p6⟩ := h
  obtain ⟨q1, q2, q3, q4, q5, q6⟩ := h'
  refine ⟨q1.trans p1, fun x hx => ?_, fun x hx => q3 x (p3 x hx), fun x hx => ?_, fun q hq => ?_, fun j h1 h2 => (q6 j h1 h2).trans (p6 j h1 h2)⟩
  · rw [(q2 x (by omega)).1, (q2 x (by omega)).2]
    exact p2 x hx
  · rw [(q4 x (by omega)).1, (q4 x (by omega)).2]
    exact p4 x hx
  · rw [(q5 q (by omega)).1, (q5 q (by omega)).2.1, (q5 q (by omega)).2.2]
    exact p5 q hq
theorem nI_ne {a b : Nat} (h : a ≠ b) (ha : a < 100000) (hb : b < 100000) : nI a ≠ nI b := fun q => by
  rw [nI_eq (by omega) (by omega)] at q
  exact h q
theorem CI.old (h : CI s1 a a1 c c1 k k1) (h' : Fx s1 s' a1 c1 k1) : CI s' a a1 c c1 k k1 := by
  obtain ⟨q1, q2, q3, q4, q5, q6⟩ := h'
  intro q h1 h2
  obtain ⟨t, x, w1, w2, w3, w4, w5, w6, w7, w8, w9⟩ := h q h1 h2
  refine ⟨t, x, by rw [(q5 q h2).1]; exact w1, w2, w3, by rw [(q5 q h2).2.2]; exact w4, w5, w6, by rw [(q4 x w6).1]; exact w7, by rw [(q2 t w3).1]; exact w8, fun p h3 h4 => ?_⟩
  rw [(q5 p (by omega)).1, (q5 p (by omega)).2.2]
  exact w9 p h3 h4
theorem CI.app (h : CI s a a1 c c1 k k1) (h' : CI s a1 a' c1 c' k1 k') (h1 : a ≤ a1) (h2 : a1 ≤ a') (h3 : a' ≤ 300) (h4 : c ≤ c1) (h5 : c1 ≤ c') (h6 : c' ≤ 600) : CI s a a' c c' k k' := by
  intro q g1 g2
  by_cases hq : q < k1
  · obtain ⟨t, x, w1, w2, w3, w4, w5, w6, w7, w8, w9⟩ := h q g1 hq
    exact ⟨t, x, w1, w2, by omega, w4, w5, by omega, w7, w8, w9⟩
  · obtain ⟨t, x, w1, w2, w3, w4, w5, w6, w7, w8, w9⟩ := h' q (by omega) g2
    refine ⟨t, x, w1, by omega, w3, w4, by omega, w6, w7, w8, fun p g3 g4 => ?_⟩
    by_cases hp : p < k1
    · obtain ⟨t', x', v1, v2, v3, v4, v5, v6, _⟩ := h p g3 hp
      rw [v1, v4]
      exact ⟨nI_ne (by omega) (by omega) (by omega), nI_ne (by omega) (by omega) (by omega)⟩
    · exact w9 p (by omega) g4
theorem Sg.tr (h : Sg s s1 a a1 c c1 k k1) (h' : Sg s1 s' a1 a' c1 c' k1 k') : Sg s s' a a' c c' k k' := by
  obtain ⟨⟨p1, p2, p3, p4, p5⟩, p6, p7, p8, p9⟩ := h
  obtain ⟨⟨q1, q2, q3, q4, q5⟩, q6, q7, q8, q9⟩ := h'
  exact ⟨⟨by omega, q2, by omega, q4, by omega⟩, p6, q7, p8.tr q8 p1 p3 p5, (p9.old q8).app q9 p1 q1 q2 p3 q3 q4⟩
theorem Fx.r : Fx s s a c k := ⟨rfl, fun _ _ => ⟨rfl, rfl⟩, fun _ h => h, fun _ _ => ⟨rfl, rfl⟩, fun _ _ => ⟨rfl, rfl, rfl⟩, fun _ _ _ => rfl⟩
theorem CI.nil : CI s a a' c c' k k := fun q h1 h2 => by omega
/-- nothing new -/
theorem Sg.i (h : s'.1 = s.1) (hl : Ln s c k) (ha : a ≤ a') (h3 : a' ≤ 300) (hc : c ≤ 600) : Sg s s' a a' c c k k := by
  refine ⟨⟨ha, h3, Nat.le_refl _, hc, Nat.le_refl _⟩, hl, ?_, ?_, CI.nil⟩
  · unfold Ln; rw [h]; exact hl
  · unfold Fx; rw [h]; exact Fx.r
theorem Sg.co (h : Sg s s1 a a' c c' k k') (e : s'.1 = s1.1) : Sg s s' a a' c c' k k' := by
  unfold Sg Ln Fx CI at h ⊢
  rw [e]
  exact h
/-- a code more -/
theorem Sg.cd {x y : Int32} (hl : Ln s c k) (h6 : c < 600) (ha : a ≤ 300) : Sg s (au_cd x y s) a a c (c + 1) k k ∧ (rw4 (au_cd x y s)).2.2.1 c = x ∧ (rw4 (au_cd x y s)).2.2.2 c = y := by
  obtain ⟨l1, l2, l3, l4, l5⟩ := hl
  have e7 : (au_cd x y s).1 7 = s.1 7 ++ [x] := xadd_e (by rw [l1]; exact h6)
  have e8 : (au_cd x y s).1 8 = s.1 8 ++ [y] := by
    show xadd 600 (s.1 8) y = _
    exact xadd_e (by rw [l2]; exact h6)
  have ej : ∀ j, j ≠ 7 → j ≠ 8 → (au_cd x y s).1 j = s.1 j := fun j h7 h8 => by
    show (if j = 8 then _ else if j = 7 then _ else s.1 j) = _
    rw [if_neg h8, if_neg h7]
  refine ⟨⟨⟨Nat.le_refl _, ha, by omega, by omega, Nat.le_refl _⟩, ⟨l1, l2, l3, l4, l5⟩, ⟨?_, ?_, ?_, ?_, ?_⟩, ⟨?_, fun z hz => ?_, fun z hz => ?_, fun z hz => ?_, fun z hz => ?_, fun j h1 h2 => ej j (by omega) (by omega)⟩, CI.nil⟩, ?_, ?_⟩
  · rw [e7, List.length_append, l1]; rfl
  · rw [e8, List.length_append, l2]; rfl
  · rw [ej 15 (by decide) (by decide)]; exact l3
  · rw [ej 16 (by decide) (by decide)]; exact l4
  · rw [ej 17 (by decide) (by decide)]; exact l5
  · rw [ej 1 (by decide) (by decide)]
  · rw [ej 0 (by decide) (by decide), ej 1 (by decide) (by decide)]; exact ⟨rfl, rfl⟩
  · rw [ej 0 (by decide) (by decide)]; exact hz
  · rw [e7, e8, gD_app_l (by omega), gD_app_l (by omega)]; exact ⟨rfl, rfl⟩
  · rw [ej 15 (by decide) (by decide), ej 16 (by decide) (by decide), ej 17 (by decide) (by decide)]; exact ⟨rfl, rfl, rfl⟩
  · show ((au_cd x y s).1 7).getD c 0 = x
    rw [e7, ← l1, gD_app_r]
  · show ((au_cd x y s).1 8).getD c 0 = y
    rw [e8, ← l2, gD_app_r]
/-- a token is told apart -/
theorem Sg.sk {x : Int32} (hl : Ln s c k) (hL : Lv a e L s) (hae : a < e) (hx : x ≠ 6) (hc : c ≤ 600) (h : s'.1 = (au_sk x s).1) (h1 : a ≤ a1) (h2 : a1 ≤ 300) : Sg s s' a a1 c c k k ∧ (rw4 s').1 a = x := by
  have he := hL.2.2.2.2.1
  have e0 : (au_sk x s).1 0 = (s.1 0).set a x := by
    show xset (s.1 0) (s.2 2) x = _
    rw [hL.2.1, xset_n (by omega)]
  have ej : ∀ j, j ≠ 0 → (au_sk x s).1 j = s.1 j := fun j hj => if_neg hj
  have hl0 : a < (s.1 0).length := by rw [hL.2.2.2.2.2.1]; omega
  obtain ⟨l1, l2, l3, l4, l5⟩ := hl
  refine ⟨⟨⟨h1, h2, Nat.le_refl _, hc, Nat.le_refl _⟩, ⟨l1, l2, l3, l4, l5⟩, ?_, ⟨?_, fun z hz => ?_, fun z hz => ?_, fun z hz => ?_, fun z hz => ?_, fun j h1 h2 => ?_⟩, CI.nil⟩, ?_⟩
  · unfold Ln
    rw [h, ej 7 (by decide), ej 8 (by decide), ej 15 (by decide), ej 16 (by decide), ej 17 (by decide)]
    exact ⟨l1, l2, l3, l4, l5⟩
  · rw [h, ej 1 (by decide)]
  · rw [h, ej 1 (by decide), e0, gD_set_n (by omega)]; exact ⟨rfl, rfl⟩
  · rw [h, e0]
    by_cases q : a = z
    · rw [← q, gD_set_s hl0]; exact hx
    · rw [gD_set_n q]; exact hz
  · rw [h, ej 7 (by decide), ej 8 (by decide)]; exact ⟨rfl, rfl⟩
  · rw [h, ej 15 (by decide), ej 16 (by decide), ej 17 (by decide)]; exact ⟨rfl, rfl, rfl⟩
  · rw [h]; exact ej j (by omega)
  · show (s'.1 0).getD a 0 = x
    rw [h, e0, gD_set_s hl0]
/-- an operand that is told later -/
theorem Sg.pt {x : Int32} {p : Nat} (h : Sg s s1 a a' c c' k k') (hx : x = nI p) (hp : c ≤ p) (hp2 : p < c') : Sg s (au_pt x s1) a a' c c' k k' ∧ (rw4 (au_pt x s1)).2.2.2 p = nI c' ∧ ∀ z, z ≠ p → (rw4 (au_pt x s1)).2.2.2 z = (rw4 s1).2.2.2 z := by
  obtain ⟨⟨p1, p2, p3, p4, p5⟩, p6, ⟨l1, l2, l3, l4, l5⟩, ⟨f1, f2, f3, f4, f5, f6⟩, p9⟩ := h
  have e8 : (au_pt x s1).1 8 = (s1.1 8).set p (nI c') := by
    show xset (s1.1 8) x (nI (s1.1 7).length) = _
    rw [hx, xset_n (by omega), l1]
  have ej : ∀ j, j ≠ 8 → (au_pt x s1).1 j = s1.1 j := fun j hj => if_neg hj
  refine ⟨⟨⟨p1, p2, p3, p4, p5⟩, p6, ⟨?_, ?_, ?_, ?_, ?_⟩, ⟨?_, fun z hz => ?_, fun z hz => ?_, fun z hz => ?_, fun z hz => ?_, fun j h1 h2 => ?_⟩, ?_⟩, ?_, fun z hz => ?_⟩
  · rw [ej 7 (by decide)]; exact l1
  · rw [e8, List.length_set]; exact l2
  · rw [ej 15 (by decide)]; exact l3
  · rw [ej 16 (by decide)]; exact l4
  · rw [ej 17 (by decide)]; exact l5
  · rw [ej 1 (by decide)]; exact f1
  · rw [ej 0 (by decide), ej 1 (by decide)]; exact f2 z hz
  · rw [ej 0 (by decide)]; exact f3 z hz
  · rw [ej 7 (by decide), e8, gD_set_n (by omega)]; exact f4 z hz
  · rw [ej 15 (by decide), ej 16 (by decide), ej 17 (by decide)]; exact f5 z hz
  · rw [ej j (by omega)]; exact f6 j h1 h2
  · unfold CI
    rw [ej 15 (by decide), ej 17 (by decide), ej 7 (by decide), ej 0 (by decide)]
    exact p9
  · show ((au_pt x s1).1 8).getD p 0 = _
    rw [e8, gD_set_s (by omega)]
  · show ((au_pt x s1).1 8).getD z 0 = (s1.1 8).getD z 0
    rw [e8, gD_set_n (fun q => hz q.symm)]
/-- a value that is told later -/
theorem Sg.sv {x v : Int32} {t : Nat} (h : Sg s s1 a a' c c' k k') (hx : x = nI t) (hp : a ≤ t) (ht : t < (s1.1 1).length) (ht3 : t ≤ 300) : Sg s (au_sv x v s1) a a' c c' k k' ∧ (rw4 (au_sv x v s1)).2.1 t = v ∧ ∀ z, z ≠ t → (rw4 (au_sv x v s1)).2.1 z = (rw4 s1).2.1 z := by
  obtain ⟨⟨p1, p2, p3, p4, p5⟩, p6, ⟨l1, l2, l3, l4, l5⟩, ⟨f1, f2, f3, f4, f5, f6⟩, p9⟩ := h
  have e1 : (au_sv x v s1).1 1 = (s1.1 1).set t v := by
    show xset (s1.1 1) x v = _
    rw [hx, xset_n (by omega)]
  have ej : ∀ j, j ≠ 1 → (au_sv x v s1).1 j = s1.1 j := fun j hj => if_neg hj
  refine ⟨⟨⟨p1, p2, p3, p4, p5⟩, p6, ⟨?_, ?_, ?_, ?_, ?_⟩, ⟨?_, fun z hz => ?_, fun z hz => ?_, fun z hz => ?_, fun z hz => ?_, fun j h1 h2 => ?_⟩, ?_⟩, ?_, fun z hz => ?_⟩
  · rw [ej 7 (by decide)]; exact l1
  · rw [ej 8 (by decide)]; exact l2
  · rw [ej 15 (by decide)]; exact l3
  · rw [ej 16 (by decide)]; exact l4
  · rw [ej 17 (by decide)]; exact l5
  · rw [e1, List.length_set]; exact f1
  · rw [ej 0 (by decide), e1, gD_set_n (by omega)]; exact f2 z hz
  · rw [ej 0 (by decide)]; exact f3 z hz
  · rw [ej 7 (by decide), ej 8 (by decide)]; exact f4 z hz
  · rw [ej 15 (by decide), ej 16 (by decide), ej 17 (by decide)]; exact f5 z hz
  · rw [ej j (by omega)]; exact f6 j h1 h2
  · unfold CI
    rw [ej 15 (by decide), ej 17 (by decide), ej 7 (by decide), ej 0 (by decide)]
    exact p9
  · show ((au_sv x v s1).1 1).getD t 0 = _
    rw [e1, gD_set_s ht]
  · show ((au_sv x v s1).1 1).getD z 0 = (s1.1 1).getD z 0
    rw [e1, gD_set_n (fun q => hz q.symm)]
theorem Qs.w {i x n : Nat} {k0 k2 : Nat} (h : Qs s k k' i x n) (h1 : k0 ≤ k) (h2 : k' ≤ k2) : Qs s k0 k2 i x n := by
  obtain ⟨q, w1, w2, w3⟩ := h
  exact ⟨q, by omega, by omega, w3⟩
/-- what was read before stays so -/
theorem PX.sg {k0 k2 k3 : Nat} {n g j o l i i' b b' : Nat} (h : PX (rw4 s1) (Qs s1 k k2) n g j o l i i' b b') (hS : Fx s1 s' a1 c1 k1) (h1 : i' ≤ a1) (h2 : b' ≤ c1) (h3 : k2 ≤ k1) (h4 : k0 ≤ k) (h5 : k2 ≤ k3) : PX (rw4 s') (Qs s' k0 k3) n g j o l i i' b b' := by
  obtain ⟨q1, q2, q3, q4, q5, q6⟩ := hS
  refine PX.ag (fun i c m hq => ?_) n h ⟨fun x _ hx => ⟨(q2 x (by omega)).1, fun _ => (q2 x (by omega)).2⟩, q3 i', fun x _ hx => ⟨(q4 x (by omega)).1, fun _ => (q4 x (by omega)).2⟩⟩
  obtain ⟨q, w1, w2, w3, w4, w5⟩ := hq
  exact ⟨q, by omega, by omega, by rw [(q5 q (by omega)).1]; exact w3, by rw [(q5 q (by omega)).2.1]; exact w4, by rw [(q5 q (by omega)).2.2]; exact w5⟩
theorem PX.pt {k0 k2 : Nat} {n g j o l i i' b b' p : Nat} {x : Int32} (h : PX (rw4 s1) (Qs s1 k0 k2) n g j o l i i' b b') (hz : ∀ z, z ≠ p → (rw4 (au_pt x s1)).2.2.2 z = (rw4 s1).2.2.2 z) (hp : p < b ∨ b' ≤ p) : PX (rw4 (au_pt x s1)) (Qs (au_pt x s1) k0 k2) n g j o l i i' b b' :=
  PX.ag (fun i c m hq => hq) n h ⟨fun z _ _ => ⟨rfl, fun _ => rfl⟩, fun q => q, fun z _ _ => ⟨rfl, fun _ => hz z (by omega)⟩⟩
theorem PX.sv {k0 k2 : Nat} {n g j o l i i' b b' p : Nat} {x v : Int32} (h : PX (rw4 s1) (Qs s1 k0 k2) n g j o l i i' b b') (hz : ∀ z, z ≠ p → (rw4 (au_sv x v s1)).2.1 z = (rw4 s1).2.1 z) (hp : p < i ∨ i' ≤ p) : PX (rw4 (au_sv x v s1)) (Qs (au_sv x v s1) k0 k2) n g j o l i i' b b' :=
  PX.ag (fun i c m hq => hq) n h ⟨fun z _ _ => ⟨rfl, fun _ => hz z (by omega)⟩, fun q => q, fun z _ _ => ⟨rfl, fun _ => rfl⟩⟩
theorem Sg.K (h : Sg s s' a a' c c' k k') {x : Nat} (hx : x < a) : (rw4 s').1 x = (rw4 s).1 x := (h.2.2.2.1.2.1 x hx).1
theorem Sg.V (h : Sg s s' a a' c c' k k') {x : Nat} (hx : x < a) : (rw4 s').2.1 x = (rw4 s).2.1 x := (h.2.2.2.1.2.1 x hx).2
theorem Sg.C (h : Sg s s' a a' c c' k k') {x : Nat} (hx : x < c) : (rw4 s').2.2.1 x = (rw4 s).2.2.1 x := (h.2.2.2.1.2.2.2.1 x hx).1
theorem Sg.D (h : Sg s s' a a' c c' k k') {x : Nat} (hx : x < c) : (rw4 s').2.2.2 x = (rw4 s).2.2.2 x := (h.2.2.2.1.2.2.2.1 x hx).2
theorem Sg.F (h : Sg s s' a a' c c' k k') : Fx s s' a c k := h.2.2.2.1
theorem Sg.ln (h : Sg s s' a a' c c' k k') : Ln s' c' k' := h.2.2.1
theorem Sg.l1 (h : Sg s s' a a' c c' k k') : (s'.1 1).length = (s.1 1).length := h.2.2.2.1.1
end SGS
