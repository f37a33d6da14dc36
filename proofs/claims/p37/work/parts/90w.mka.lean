/-! the school: an answer is marked anew -/
section MKA
variable {x : Nat} {T T' : Tx} {m m' m1 m2 : Mx} {tx : List Int32} {es es' : List Nat} {ts ts' : Nat → List Nat} {as : List Nat} {ps : Nat → Nat} {txs : Nat → List Int32} {ss : Nat → Sx} {pd : Nat} {own : Nat → Nat} {v w : Int32} {i j k : Nat}
/-- a test looks at a run -/
theorem g8001 {t u r q : Nat} {O : List Int32} {e : Int32} (hT : TstR T m t q) (hu : tK T u = 8) (hw : tW T u 0 = some r) (hr : tK T r = 7) (hO : tB T r = O) (he : tV T u 8 = e) : ∃ b, h_8001 t u T = some b ∧ PasIs e O (m 42 q) (m 43 (2 * q)) (m 43 (2 * q + 1)) b := by
  obtain ⟨b1, b2, c1, b3, c2, c3, c4, b4, c5, c6, c7, b5⟩ := hT
  have hJ : h_8001_J38 t u T = some (if m 42 q < 2 ∨ xg O 1 = m 43 (2 * q + 1) then 1 else 0) := by
    unfold h_8001_J38 h_7006
    rw [gd_e b1, c4]
    by_cases p1 : m 42 q < 2
    · rw [if_pos p1, if_pos (Or.inl p1)]
    · rw [if_neg p1, gd_e hu, gd_e hu, hw, bP_some, gd_e hr, hO, bP_some, gd_e b1, c6]
      by_cases p2 : xg O 1 = m 43 (2 * q + 1)
      · rw [if_pos p2, if_pos (Or.inr p2)]
      · rw [if_neg p2, if_neg (fun z => z.elim p1 p2)]
  refine ⟨if e = 0 ∧ nI O.length = m 42 q ∧ (m 42 q < 1 ∨ xg O 0 = m 43 (2 * q)) ∧ (m 42 q < 2 ∨ xg O 1 = m 43 (2 * q + 1)) then 1 else 0, ?_, rfl⟩
  unfold h_8001 h_7003 h_7005 h_7006
  rw [gd_e hu, gd_e hu, he, bP_some]
  by_cases p0 : e = 0
  · rw [if_pos p0, gd_e hu, gd_e hu, hw, bP_some, gd_e hr, hO, bP_some, gd_e b1, c4]
    by_cases p3 : nI O.length = m 42 q
    · have fin : (m 42 q < 1 ∨ xg O 0 = m 43 (2 * q)) → h_8001_J38 t u T = some (if e = 0 ∧ nI O.length = m 42 q ∧ (m 42 q < 1 ∨ xg O 0 = m 43 (2 * q)) ∧ (m 42 q < 2 ∨ xg O 1 = m 43 (2 * q + 1)) then 1 else 0) := by
        intro z
        rw [hJ]
        by_cases p6 : m 42 q < 2 ∨ xg O 1 = m 43 (2 * q + 1)
        · rw [if_pos p6, if_pos ⟨p0, p3, z, p6⟩]
        · rw [if_neg p6, if_neg (fun y => p6 y.2.2.2)]
      rw [if_pos p3, gd_e b1]
      by_cases p4 : m 42 q < 1
      · rw [if_pos p4]
        exact fin (Or.inl p4)
      · rw [if_neg p4, gd_e hu, gd_e hu, bP_some, gd_e hr, hO, bP_some, gd_e b1, c5]
        by_cases p5 : xg O 0 = m 43 (2 * q)
        · rw [if_pos p5]
          exact fin (Or.inr p5)
        · rw [if_neg p5, if_neg (fun y => y.2.2.1.elim p4 p5)]
    · rw [if_neg p3, if_neg (fun y => p3 y.2.1)]
  · rw [if_neg p0, if_neg (fun y => p0 y.1)]
theorem PasIs.eq {e c a b v v' : Int32} {O : List Int32} (h : PasIs e O c a b v) (h' : PasIs e O c a b v') : v = v' := by
  unfold PasIs at h h'
  rw [h, h']
theorem RunIs.eq {s : Sx} {f a b e e' : Int32} {O O' : List Int32} (h : RunIs s f a b e O) (h' : RunIs s f a b e' O') : e = e' ∧ O = O' := by
  obtain ⟨r, h1, h2, h3⟩ := h
  obtain ⟨r', h1', h2', h3'⟩ := h'
  rw [h1] at h1'
  cases h1'
  exact ⟨h2.symm.trans h2', h3.symm.trans h3'⟩
/-- a run on the row of the tests -/
theorem SInv.rnT {O C : List Int32} {f' : Nat} {e : Int32} (h : SInv x T m tx es ts as ps txs ss pd own) (hR : RunT T T' x false O C f' e) : SInv x T' m tx es ts as ps txs ss pd own := by
  obtain ⟨r1, r2, r3, r4, r5, r6, r7, r8⟩ := hR
  have g : ∀ a, ¬ (x + 51 ≤ a ∧ a < x + 68) → Agr T T' a := fun a ha => r7 a (by show ¬ (x + 51 ≤ a ∧ a < x + 51 + 9); omega) (by omega)
  exact h.eng r1 r6 (fun a ha => g a (by omega)) (h.2.2.1.of (g _ (by omega)).2.2.2.2.1 (g _ (by omega)).2.2.2.2.1 (congrFun (g _ (by omega)).2.2.2.2.2 4) (congrFun (g x (by omega)).2.2.2.2.2 13)) (fun _ _ _ => rfl) (fun _ _ => rfl)
/-- the program of an answer runs -/
theorem SInv.rn (h : SInv x T m tx es ts as ps txs ss pd own) (hi : i < as.length) {f : Nat} (hf : f ≤ 5000) {a b : Int32} : ∃ (O C : List Int32) (f' : Nat) (e : Int32), O.length ≤ 8 ∧ RunIs (ss i) (nI f) a b e O ∧ (∃ T', h_3001 x (x + 60) (ps i) (x + 51) (nI f) a b T = some T' ∧ RunT T T' x false O C f' e) ∧ ∃ T', h_10001 x (x + 63) (ps i) (x + 51) (nI f) a b T = some T' ∧ RunT T T' x false O C f' e := by
  obtain ⟨m0, I, c, d, k1, k2, k3, k4, k5, k6⟩ := h.rdA hi
  obtain ⟨a1, a2, a3, a4, ⟨b1, b2, b3, b4⟩, a5, c1, d1, d2, d3, _⟩ := h.2.2.2.2.1.2.2.2 i hi
  obtain ⟨O, C, f', e, rR, g1, g2, g3, g4, g5, g6, g7⟩ := run3 (x := a) (y := b) hf k4 k5
  obtain ⟨rW, rM, p1, p2, p3, p4⟩ := g7 (ss i) (fun _ _ => rfl)
  obtain ⟨qW, qM, q1, q2, q3, q4⟩ := g7 (pj T x (ps i) false) b4.pj
  obtain ⟨T1, t1, t2⟩ := en_m h.1 b2 b3 q2 q4
  obtain ⟨T2, t3, t4⟩ := en_w h.1 b2 b3 q1 q3
  have t1' : h_3001 x (x + 60) (ps i) (x + 51) (nI f) a b T = some T1 := t1
  have t3' : h_10001 x (x + 63) (ps i) (x + 51) (nI f) a b T = some T2 := t3
  exact ⟨O, C, f', e, g2, ⟨rM, p2, p4.2.2.2.1, p4.1⟩, ⟨T1, t1', t2⟩, ⟨T2, t3', t4⟩⟩
/-- what an answer keeps of a test -/
theorem SInv.kp (h : SInv x T m tx es ts as ps txs ss pd own) (hi : i < as.length) (hj : j < es.length) (h47 : m 47 i = nI j) : tW T (gNl as i) 1 = some (gNl es j) ∧ ∀ k, k < (ts j).length → ∃ O, RunIs (ss i) (m 37 j) (m 41 (2 * (8 * j + k))) (m 41 (2 * (8 * j + k) + 1)) (m 50 (8 * i + k)) O ∧ PasIs (m 50 (8 * i + k)) O (m 42 (8 * j + k)) (m 43 (2 * (8 * j + k))) (m 43 (2 * (8 * j + k) + 1)) (m 51 (8 * i + k)) := by
  obtain ⟨a1, a2, a3, a4, b1, a5, c1, d1, d2, d3, ⟨j', e1, e2, e3, e4, e5, e6⟩, f1⟩ := h.2.2.2.2.1.2.2.2 i hi
  have h4 := h.2.2.2.1.2.1
  have : j' = j := by
    have := e2.symm.trans h47
    rw [nI_eq (by omega) (by omega)] at this
    exact this
  subst this
  exact ⟨e3, fun k hk => (e6 k hk).2.2⟩
theorem mn_L (hi : i < as.length) (hj : j < es.length) (h47 : m 47 i = nI j) : ∀ (q n l bc bs : Nat) (T : Tx), SInv x T m tx es ts as ps txs ss pd own → l + q = (ts j).length → q < n → q ≤ bc → 6 * q ≤ bs → (tB T (x + 72)).length = l → (∀ k, k < l → (tB T (x + 72)).getD k 0 = m 51 (8 * i + k)) →
    ∃ T' M, h_11026_L21 n x v (gNl as i) (gNl es j) (nI l) bc bs T = some (T', .inr M) ∧ f_12098 (nI i) m = some M ∧ SInv x T' m tx es ts as ps txs ss pd own ∧ tZ T' = tZ T := by
  intro q
  induction q with
  | zero =>
    intro n l bc bs T h hl hn hc hs hB hB'
    obtain ⟨n, rfl⟩ : ∃ q, n = q + 1 := ⟨n - 1, by omega⟩
    have h4 := h.2.2.2.1.2.1
    have h30 := h.2.2.2.2.1.2.1
    have hE := h.2.2.2.1.2.2.2 j hj
    have ht8 := hE.2.2.2.2.2.2.1
    obtain ⟨e1, e2⟩ := h.kp hi hj h47
    obtain ⟨j', j1, j2, j3, a1, a2, a3, a4, a5, a6, a7, a8, a9, ⟨a0, b1, b2, b3⟩, _⟩ := h.an hi
    obtain ⟨P, p1, p2⟩ := pts_e (r := x + 72) (i := i) hE h.1.2.2.2.2.2.2.2.2.2.2.1.2.1 (fun k hk => ⟨hB' k (by omega), by
      obtain ⟨O, o1, o2⟩ := e2 k hk
      exact o2.b⟩) h47 j3 (by omega)
    obtain ⟨M, q1, q2⟩ := mk_e hE a1 e1 ⟨b1, b2⟩ b3 h47 j3 (by omega) p2
    refine ⟨T, M, ?_, q2, h, rfl⟩
    rw [h_11026_L21, gd_e hE.2.2.1, g2002 hE, bP_some, if_pos ((nI_le' (by omega) (by omega)).2 (by omega)), gd_e h.1.1, h.1.2.2.2.2.2.2.2.2.2.2.1.1, bP_some, gd_e hE.2.2.1, p1, bP_some, gd_e a1, q1, bP_some]
  | succ q ih =>
    intro n l bc bs T h hl hn hc hs hB hB'
    obtain ⟨n, rfl⟩ : ∃ q, n = q + 1 := ⟨n - 1, by omega⟩
    have h4 := h.2.2.2.1.2.1
    have h30 := h.2.2.2.2.1.2.1
    have hE := h.2.2.2.1.2.2.2 j hj
    have ht8 := hE.2.2.2.2.2.2.1
    obtain ⟨e1, e2⟩ := h.kp hi hj h47
    obtain ⟨O', o1, o2⟩ := e2 l (by omega)
    obtain ⟨a1, a2, a3, a4, ⟨b1, b2, b3, b4⟩, _⟩ := h.2.2.2.2.1.2.2.2 i hi
    have hT := (hE.2.2.2.2.2.2.2.2.2.2.2.2.2 l (by omega)).2
    have b37 := hE.2.2.2.2.2.2.2.2.2.1
    have f37 : m 37 j = nI (m 37 j).toInt.toNat := of_nI (by have := b37.1; omega) (by have := b37.2; omega)
    obtain ⟨O, C, f', e, r1, r2, _, T10, r3, r4⟩ := h.rn hi (f := (m 37 j).toInt.toNat) (a := m 41 (2 * (8 * j + l))) (b := m 41 (2 * (8 * j + l) + 1)) (by have := b37.2; omega)
    rw [← f37] at r2 r3
    obtain ⟨u1, u2⟩ := r2.eq o1
    subst u2
    have h10 := h.rnT r4
    obtain ⟨y1, y2, y3, y4, y5, y6, y7, y8⟩ := r4
    have hE10 := h10.2.2.2.1.2.2.2 j hj
    have hT10 := (hE10.2.2.2.2.2.2.2.2.2.2.2.2.2 l (by omega)).2
    have R6 := h10.1.2.2.2.2.1.2
    obtain ⟨b, s1, s2⟩ := g8001 (u := x + 51) (r := x + 52) hT10 R6.1 (R6.2 0 (by decide)).1 (R6.2 0 (by decide)).2.1 y2 y5
    rw [u1] at s2
    have eb := s2.eq o2
    have g72 : tB T10 (x + 72) = tB T (x + 72) := (y7 (x + 72) (by show ¬ (x + 51 ≤ _ ∧ _ < x + 51 + 9); omega) (by omega)).2.2.2.2.1
    have hg : h_11041 (gNl es j) (nI l) T = some (.inr (gNl (ts j) l)) := by
      rw [g41 hE, if_pos ⟨by rw [nI_T (by omega)]; omega, by rw [nI_T (by omega)]; omega⟩, nI_T (by omega)]
      rfl
    have W12 := h10.1.2.2.2.2.2.2.2.2.2.2.1
    have ex : ∀ c, xadd (tC T10 (x + 72)) (tB T10 (x + 72)) c = tB T (x + 72) ++ [c] := fun c => by
      rw [W12.2.2, g72]
      unfold xadd
      rw [if_pos (by omega)]
    have hrow := h10.row (y := x + 72) (l := tB T (x + 72) ++ [b]) (Or.inr rfl)
    obtain ⟨T', M, z1, z2, z3, z4⟩ := ih n (l + 1) (bc - 1) (bs - 6) _ hrow (by omega) (by omega) (by omega) (by omega) (by rw [tB_s]; simp; omega) (fun k hk => by
      rw [tB_s]
      by_cases c : k = l
      · subst c
        rw [← hB, List.getD_eq_getElem?_getD, List.getElem?_append_right (Nat.le_refl _), Nat.sub_self]
        rw [← hB] at eb
        exact eb
      · rw [List.getD_eq_getElem?_getD, List.getElem?_append_left (by omega), ← List.getD_eq_getElem?_getD]
        exact hB' k (by omega))
    refine ⟨T', M, ?_, z2, z3, z4.trans y6⟩
    have b01 := o2.b
    rw [← eb] at b01
    rw [h_11026_L21, gd_e hE.2.2.1, g2002 hE, bP_some, if_neg (fun z => by have := (nI_le' (by omega) (by omega)).1 z; omega), gd_e ⟨by omega, by omega⟩, hg, bXp_some, gd_e h.1.1, h.1.2.2.2.2.2.2.1.1, bP_some, gd_e a3, b1, bP_some, gd_e h.1.1, h.1.2.2.2.2.1.1, bP_some, gd_e hE.2.2.1, gd_e hT.1, gd_e hT.1, gd_e h.1.2.2.2.2.2.2.1.2.1, hE.2.2.2.2.2.2.2.2.1, hT.2.2.2.2.1, hT.2.2.2.2.2.1, r3, bOv_some, gd_e h10.1.1, W12.1, bP_some, gd_e h10.1.1, h10.1.2.2.2.2.1.1, bP_some, gd_e hT10.1, s1, bP_some, gd_e W12.2.1, gd_e W12.2.1, ex, ex, bS_eq, bS_eq, nI_p1 (by omega)]
    rcases b01 with c | c
    · rw [if_pos c]
      rw [c] at z1
      exact z1
    · rw [if_neg (by rw [c]; decide)]
      rw [c] at z1
      exact z1
theorem c_markAnew (h : SInv x T m tx es ts as ps txs ss pd own) : SameT (h_11026 x v T) (f_12101 v m) cD (SINV x) := by
  have hI : SINV x T m := ⟨_, _, _, _, _, _, _, _, _, h⟩
  have h01 : f_12090 v m = 0 ∨ f_12090 v m = 1 := in_01
  have h30 := h.2.2.2.2.1.2.1
  by_cases c : 0 ≤ v.toInt ∧ v.toInt < as.length
  · have h0 := (h.m0 (u := 0)).row (y := x + 72) (l := []) (Or.inr rfl)
    obtain ⟨j, j1, j2, j3, a1, a2, a3, a4, _⟩ := h0.an (i := v.toInt.toNat) (by omega)
    have a1' : tK T (gNl as v.toInt.toNat) = 2 := a1
    have ht8 := a3.2.2.2.2.2.2.1
    obtain ⟨T', M, z1, z2, z3, _⟩ := mn_L (v := v) (i := v.toInt.toNat) (by omega) j1 a4 (ts j).length 100 0 8 48 _ h0 (by omega) (by omega) (by omega) (by omega) (by rw [tB_s]; rfl) (fun k hk => absurd hk (by omega))
    have hh : h_11026 x v T = some (T', .inr M) := by
      unfold h_11026
      rw [gd_e h.1.1, g39 h, if_pos c, bXp_some, gd_e a1', show tW T (gNl as v.toInt.toNat) 1 = _ from a2, bP_some, gd_e h.1.1, h.1.2.2.2.2.2.2.2.2.2.2.1.1, bP_some, gd_e h.1.2.2.2.2.2.2.2.2.2.2.1.2.1, bS_eq]
      exact z1
    have hf : f_12101 v m = some (mp m 82 0, M) := by
      unfold f_12101 f_12100
      rw [goes1 h01, f90 h, if_pos c, if_pos rfl, bT_eq, if_neg (by decide), of_nI (v := v) c.1 (by omega), z2, bP_some, bO_some]
    exact ⟨_, _, _, _, hh, hf, ⟨_, _, _, _, _, _, _, _, _, z3⟩, Or.inl ⟨_, rfl, mp_s, rfl⟩⟩
  · have hh : h_11026 x v T = some (T, .inl 2) := by
      unfold h_11026
      rw [gd_e h.1.1, g39 h, if_neg c]
      rfl
    have hf : f_12101 v m = some (mp m 82 1, 0) := by
      unfold f_12101 f_12100
      rw [goes1 h01, f90 h, if_neg c, if_neg (by decide), bT_eq, if_pos rfl, bO_some]
    exact ⟨_, _, _, _, hh, hf, hI.mm m82, Or.inr ⟨2, rfl, by decide, mp_s⟩⟩
end MKA
