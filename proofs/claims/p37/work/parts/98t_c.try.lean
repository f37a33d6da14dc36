/-! the law tries a draft -/
section TRY
variable {x p1 p2 : Nat} {T T' : Tx} {m m0 m' : Mx} {tx : List Int32} {n F L : Nat} {s : Sx} {a b e : Int32} {O C : List Int32} {A : Nat → List Int32}
/-- runs with less fuel -/
theorem Wt.less (h : Wt x m0 T tx) (hok : ∀ s0 s1, tkR s0 (tks tx) → f_5001 s0 = some s1 → s1.2 0 = 0) (hF : F ≤ 5000) (hR : RN tx F a b O C L e) (hL : L ≤ 5000) (he : e ≠ -1) (hO : O.length ≤ 8) (hC : C.length = 32) : L ≤ F ∧ (0 ≤ e.toInt ∧ e.toInt < 8) ∧ (e = 1 → L = 0) ∧ RN tx (F - L) a b O C 0 e ∧ (L < F → ∃ O3 C3 : List Int32, O3.length ≤ 8 ∧ C3.length = 32 ∧ O3 <+: O ∧ RN tx (F - L - 1) a b O3 C3 0 1) := by
  obtain ⟨_, _, _, _, _, _, _, _, _, s, hs⟩ := h.run hok F a b hF
  obtain ⟨rW, rM, q1, q2, q3, q4⟩ := hR s hs s (fun _ _ => rfl)
  obtain ⟨L', l1, l2, ⟨r1, k1, k2, k3, k4, k5⟩, l4⟩ := fuel_run hF q2
  have eL : L' = L := by
    have := l2.symm.trans q4.2.2.1
    exact (nI_eq (by omega) (by omega)).1 this
  subst eL
  have hE := run_end hF q2
  have e10 : rM.2 10 = e := q4.2.2.2.1
  have e6 : rM.2 6 = nI L' := q4.2.2.1
  have z0 : nI 0 = 0 := rfl
  have hend : (0 ≤ e.toInt ∧ e.toInt < 8) ∧ (e = 1 → L' = 0) := by
    rcases hE.2 with w | ⟨w1, w2⟩
    · exact absurd (e10.symm.trans w) he
    · rw [e10] at w1 w2
      refine ⟨w1, fun z => ?_⟩
      have := w2 z
      rw [e6] at this
      exact (nI_eq (b := 0) (by omega) (by omega)).1 (this.trans z0.symm)
  refine ⟨l1, hend.1, hend.2, ?_, fun hlt => ?_⟩
  · obtain ⟨O2, C2, L2, e2, n1, n2, n3, n4, hR2, _⟩ := h.run hok (F - L') a b (by omega)
    obtain ⟨_, rM2, _, m2, _, m4⟩ := hR2 s hs s (fun _ _ => rfl)
    rw [k1] at m2
    cases m2
    have eO : O2 = O := m4.1.symm.trans (k4.trans q4.1)
    have eC : C2 = C := m4.2.1.symm.trans (k5.trans q4.2.1)
    have eL2 : L2 = 0 := (nI_eq (b := 0) (by omega) (by omega)).1 ((m4.2.2.1.symm.trans k3).trans z0.symm)
    have ee : e2 = e := m4.2.2.2.1.symm.trans (k2.trans e10)
    rw [eO, eC, eL2, ee] at hR2
    exact hR2
  · obtain ⟨r2, j1, j2, j3, j4⟩ := l4 hlt
    obtain ⟨O2, C2, L2, e2, n1, n2, n3, n4, hR2, _⟩ := h.run hok (F - L' - 1) a b (by omega)
    obtain ⟨_, rM2, _, m2, _, m4⟩ := hR2 s hs s (fun _ _ => rfl)
    rw [j1] at m2
    cases m2
    have eL2 : L2 = 0 := (nI_eq (b := 0) (by omega) (by omega)).1 ((m4.2.2.1.symm.trans j3).trans z0.symm)
    have ee : e2 = 1 := m4.2.2.2.1.symm.trans j2
    rw [eL2, ee] at hR2
    refine ⟨O2, C2, n2, n3, ?_, hR2⟩
    rw [← m4.1, ← q4.1]
    exact j4
theorem vin {k : Nat} {l : List Int32} (h : k < l.length) (h' : l.length ≤ 1000) : vi (nI k) l.length := vi_n (by omega) (by omega)
/-- the outputs are kept -/
theorem t121 (h : Wt x m0 T tx) (ht : TrS x T O C L) (hO : O.length ≤ 8) (l1 l2 l3 l4 l5 l9 : Int32) : ∀ (q n i bc bs : Nat) (A : Nat → List Int32), i + q = O.length → q < n → (A p1).length = 8 → (∀ k, k < i → (A p1).getD k 0 = O.getD k 0) → q ≤ bc → 6 * q ≤ bs →
    ∃ V bc' bs', V.length = 8 ∧ (∀ k, k < O.length → V.getD k 0 = O.getD k 0) ∧ bc ≤ bc' + q ∧ bs ≤ bs' + 6 * q ∧ l_13035_L121 n x l1 l2 l3 l4 l5 (nI O.length) p1 p2 l9 (nI i) bc bs (T, A) = l_13035_L148 40 x l1 l2 l3 l4 l5 (nI O.length) p1 p2 l9 0 bc' bs' (T, u1 A p1 V) := by
  intro q
  induction q with
  | zero =>
    intro n i bc bs A hi hn hl hv hc hs
    obtain ⟨n, rfl⟩ : ∃ j, n = j + 1 := ⟨n - 1, by omega⟩
    refine ⟨A p1, bc, bs, hl, fun k hk => hv k (by omega), by omega, by omega, ?_⟩
    have eA : u1 A p1 (A p1) = A := by
      funext z
      by_cases e : z = p1
      · rw [e, u1_s]
      · exact u1_n _ _ e
    rw [l_13035_L121, if_pos ((nI_gle (by omega) (by omega)).2 (by omega)), eA]
  | succ q ih =>
    intro n i bc bs A hi hn hl hv hc hs
    obtain ⟨n, rfl⟩ : ∃ j, n = j + 1 := ⟨n - 1, by omega⟩
    obtain ⟨V, bc', bs', g1, g2, g3, g4, g5⟩ := ih n (i + 1) (bc - 1) (bs - 6) (u1 A p1 ((A p1).set i (O.getD i 0))) (by omega) (by omega) (by rw [u1_s, List.length_set, hl]) (fun k hk => by
      rw [u1_s]
      by_cases c : k = i
      · rw [c, gset (by omega)]
      · rw [gD_set_n (fun z => c z.symm)]
        exact hv k (by omega)) (by omega) (by omega)
    rw [u1_u1] at g5
    refine ⟨V, bc', bs', g1, g2, by omega, by omega, ?_⟩
    rw [l_13035_L121, if_neg (fun z => by have := (nI_gle (by omega) (by omega)).1 z; omega)]
    show gd (tK T x = 12) (gd (1 ≤ bc ∧ 6 ≤ bs) (bP (h_13008 x (nI i) T) _)) = _
    rw [gd_e h.k12, gd_e ⟨by omega, by omega⟩, h.outAt ht (by omega), bP_some]
    show gd (vi (nI i) (A p1).length) (bS (lSet (T, A) p1 (nI i) (O.getD i 0)) _) = _
    rw [gd_e (vin (by omega) (by omega)), lSet_e (by omega), bS_eq, nI_p1 (by omega)]
    exact g5
/-- the cells are kept -/
theorem t148 (h : Wt x m0 T tx) (ht : TrS x T O C L) (l1 l2 l3 l4 l5 l6 l9 : Int32) : ∀ (q n i bc bs : Nat) (A : Nat → List Int32), i + q = 32 → q < n → (A p2).length = 32 → (∀ k, k < i → (A p2).getD k 0 = C.getD k 0) → q ≤ bc → 6 * q ≤ bs →
    ∃ V bc' bs', V.length = 32 ∧ (∀ k, k < 32 → V.getD k 0 = C.getD k 0) ∧ bc ≤ bc' + q ∧ bs ≤ bs' + 6 * q ∧ l_13035_L148 n x l1 l2 l3 l4 l5 l6 p1 p2 l9 (nI i) bc bs (T, A) = l_13035_L175 40 x l1 l2 l3 l4 l5 l6 p1 p2 l9 0 bc' bs' (T, u1 A p2 V) := by
  intro q
  induction q with
  | zero =>
    intro n i bc bs A hi hn hl hv hc hs
    obtain ⟨n, rfl⟩ : ∃ j, n = j + 1 := ⟨n - 1, by omega⟩
    refine ⟨A p2, bc, bs, hl, fun k hk => hv k (by omega), by omega, by omega, ?_⟩
    have eA : u1 A p2 (A p2) = A := by
      funext z
      by_cases e : z = p2
      · rw [e, u1_s]
      · exact u1_n _ _ e
    rw [l_13035_L148, if_pos (show (32 : Int32) ≤ nI i from (nI_gle (a := 32) (by omega) (by omega)).2 (by omega)), eA]
  | succ q ih =>
    intro n i bc bs A hi hn hl hv hc hs
    obtain ⟨n, rfl⟩ : ∃ j, n = j + 1 := ⟨n - 1, by omega⟩
    obtain ⟨V, bc', bs', g1, g2, g3, g4, g5⟩ := ih n (i + 1) (bc - 1) (bs - 6) (u1 A p2 ((A p2).set i (C.getD i 0))) (by omega) (by omega) (by rw [u1_s, List.length_set, hl]) (fun k hk => by
      rw [u1_s]
      by_cases c : k = i
      · rw [c, gset (by omega)]
      · rw [gD_set_n (fun z => c z.symm)]
        exact hv k (by omega)) (by omega) (by omega)
    rw [u1_u1] at g5
    refine ⟨V, bc', bs', g1, g2, by omega, by omega, ?_⟩
    rw [l_13035_L148, if_neg (fun z => by have := (nI_gle (a := 32) (by omega) (by omega)).1 z; omega)]
    show gd (tK T x = 12) (gd (1 ≤ bc ∧ 6 ≤ bs) (bP (h_13009 x (nI i) T) _)) = _
    rw [gd_e h.k12, gd_e ⟨by omega, by omega⟩, h.celAt ht (by omega), bP_some]
    show gd (vi (nI i) (A p2).length) (bS (lSet (T, A) p2 (nI i) (C.getD i 0)) _) = _
    rw [gd_e (vin (by omega) (by omega)), lSet_e (by omega), bS_eq, nI_p1 (by omega)]
    exact g5
/-- the cells are the same -/
theorem t306 (h : Wt x m0 T tx) (ht : TrS x T O C L) (hl : (A p2).length = 32) (hv : ∀ k, k < 32 → (A p2).getD k 0 = C.getD k 0) (K : Nat → Int32 → Int32 → Int32 → Int32 → Int32 → Int32 → Nat → Nat → Int32 → Int32 → Nat → Nat → Lx → Option (Lx × Int32)) (l1 l2 l3 l4 l5 l6 l10 l11 : Int32) : ∀ (q n i bc bs : Nat), i + q = 32 → q < n → q ≤ bc → 6 * q ≤ bs →
    ∃ bc' bs', bc ≤ bc' + q ∧ bs ≤ bs' + 6 * q ∧ l_13035_L306 K n x l1 l2 l3 l4 l5 l6 p1 p2 1 l10 l11 (nI i) bc bs (T, A) = K x l1 l2 l3 l4 l5 l6 p1 p2 1 (l10 + 1) bc' bs' (T, A) := by
  intro q
  induction q with
  | zero =>
    intro n i bc bs hi hn hc hs
    obtain ⟨n, rfl⟩ : ∃ j, n = j + 1 := ⟨n - 1, by omega⟩
    refine ⟨bc, bs, by omega, by omega, ?_⟩
    rw [l_13035_L306, if_pos (show (32 : Int32) ≤ nI i from (nI_gle (a := 32) (by omega) (by omega)).2 (by omega))]
  | succ q ih =>
    intro n i bc bs hi hn hc hs
    obtain ⟨n, rfl⟩ : ∃ j, n = j + 1 := ⟨n - 1, by omega⟩
    obtain ⟨bc', bs', g3, g4, g5⟩ := ih n (i + 1) (bc - 1) (bs - 6) (by omega) (by omega) (by omega) (by omega)
    refine ⟨bc', bs', by omega, by omega, ?_⟩
    rw [l_13035_L306, if_neg (fun z => by have := (nI_gle (a := 32) (by omega) (by omega)).1 z; omega), if_neg one_0]
    show gd (tK T x = 12) (gd (1 ≤ bc ∧ 6 ≤ bs) (bP (h_13009 x (nI i) T) _)) = _
    rw [gd_e h.k12, gd_e ⟨by omega, by omega⟩, h.celAt ht (by omega), bP_some]
    show gd (vi (nI i) (A p2).length) (if C.getD i 0 = xg (A p2) (nI i) then _ else _) = _
    rw [gd_e (vin (by omega) (by omega)), xg_n (by omega), hv i (by omega), if_pos rfl, nI_p1 (by omega)]
    exact g5
/-- the outputs are the same -/
theorem t264 (h : Wt x m0 T tx) (ht : TrS x T O C L) (hO : O.length ≤ 8) (hl1 : (A p1).length = 8) (hv1 : ∀ k, k < O.length → (A p1).getD k 0 = O.getD k 0) (hl : (A p2).length = 32) (hv : ∀ k, k < 32 → (A p2).getD k 0 = C.getD k 0) (K : Nat → Int32 → Int32 → Int32 → Int32 → Int32 → Int32 → Nat → Nat → Int32 → Int32 → Nat → Nat → Lx → Option (Lx × Int32)) (l1 l2 l3 l4 l5 l10 l11 : Int32) : ∀ (q n i bc bs : Nat), i + q = O.length → q < n → q + 32 ≤ bc → 6 * q + 192 ≤ bs →
    ∃ bc' bs', bc ≤ bc' + q + 32 ∧ bs ≤ bs' + 6 * q + 192 ∧ l_13035_L264 K n x l1 l2 l3 l4 l5 (nI O.length) p1 p2 1 l10 l11 (nI i) bc bs (T, A) = K x l1 l2 l3 l4 l5 (nI O.length) p1 p2 1 (l10 + 1) bc' bs' (T, A) := by
  intro q
  induction q with
  | zero =>
    intro n i bc bs hi hn hc hs
    obtain ⟨n, rfl⟩ : ∃ j, n = j + 1 := ⟨n - 1, by omega⟩
    obtain ⟨bc', bs', g1, g2, g3⟩ := t306 (p1 := p1) (m0 := m0) h ht hl hv K l1 l2 l3 l4 l5 (nI O.length) l10 l11 32 40 0 bc bs (by omega) (by omega) (by omega) (by omega)
    refine ⟨bc', bs', by omega, by omega, ?_⟩
    rw [l_13035_L264, if_pos ((nI_gle (by omega) (by omega)).2 (by omega))]
    exact g3
  | succ q ih =>
    intro n i bc bs hi hn hc hs
    obtain ⟨n, rfl⟩ : ∃ j, n = j + 1 := ⟨n - 1, by omega⟩
    obtain ⟨bc', bs', g3, g4, g5⟩ := ih n (i + 1) (bc - 1) (bs - 6) (by omega) (by omega) (by omega) (by omega)
    refine ⟨bc', bs', by omega, by omega, ?_⟩
    rw [l_13035_L264, if_neg (fun z => by have := (nI_gle (by omega) (by omega)).1 z; omega), if_neg one_0]
    show gd (tK T x = 12) (gd (1 ≤ bc ∧ 6 ≤ bs) (bP (h_13008 x (nI i) T) _)) = _
    rw [gd_e h.k12, gd_e ⟨by omega, by omega⟩, h.outAt ht (by omega), bP_some]
    show gd (vi (nI i) (A p1).length) (if O.getD i 0 = xg (A p1) (nI i) then _ else _) = _
    rw [gd_e (vin (by omega) (by omega)), xg_n (by omega), hv1 i (by omega), if_pos rfl, nI_p1 (by omega)]
    exact g5
/-- a run with less fuel begins alike -/
theorem t404 {O3 C3 : List Int32} (h : Wt x m0 T tx) (ht : TrS x T O3 C3 0) (hO : O.length ≤ 8) (hp : O3 <+: O) (hl1 : (A p1).length = 8) (hv1 : ∀ k, k < O.length → (A p1).getD k 0 = O.getD k 0) (l1 l2 l3 l4 l5 l6 : Int32) : ∀ (q n i bc bs : Nat), i + q = O3.length → q < n → q ≤ bc → 6 * q ≤ bs →
    l_13035_L404 n x l1 l2 l3 l4 l5 l6 p1 p2 1 (nI i) bc bs (T, A) = some ((T, A), 1) := by
  obtain ⟨W, hW⟩ := hp
  have hle : O3.length ≤ O.length := by rw [← hW, List.length_append]; omega
  intro q
  induction q with
  | zero =>
    intro n i bc bs hi hn hc hs
    obtain ⟨n, rfl⟩ : ∃ j, n = j + 1 := ⟨n - 1, by omega⟩
    rw [l_13035_L404]
    show gd (tK T x = 12) (bP (h_11011 x T) _) = _
    rw [gd_e h.k12, (h.outs ht).1, bP_some, if_pos ((nI_gle (by omega) (by omega)).2 (by omega)), gd_e (Or.inr rfl)]
  | succ q ih =>
    intro n i bc bs hi hn hc hs
    obtain ⟨n, rfl⟩ : ∃ j, n = j + 1 := ⟨n - 1, by omega⟩
    have e3 : O3.getD i 0 = (A p1).getD i 0 := by
      rw [hv1 i (by omega), ← hW, List.getD_eq_getElem?_getD, List.getD_eq_getElem?_getD, List.getElem?_append_left (by omega)]
    rw [l_13035_L404]
    show gd (tK T x = 12) (bP (h_11011 x T) _) = _
    rw [gd_e h.k12, (h.outs ht).1, bP_some, if_neg (fun z => by have := (nI_gle (by omega) (by omega)).1 z; omega), if_neg one_0, gd_e (show tK (T, A).1 x = 12 from h.k12), gd_e ⟨by omega, by omega⟩]
    show bP (h_13008 x (nI i) T) _ = _
    rw [h.outAt ht (by omega), bP_some]
    show gd (vi (nI i) (A p1).length) (if O3.getD i 0 = xg (A p1) (nI i) then _ else _) = _
    rw [gd_e (vin (by omega) (by omega)), xg_n (by omega), e3, if_pos rfl, nI_p1 (by omega)]
    exact ih n (i + 1) (bc - 1) (bs - 6) (by omega) (by omega) (by omega) (by omega)
end TRY
