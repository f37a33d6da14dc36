/-! the school: a test is added -/
section ADT
variable {x : Nat} {T T' : Tx} {m m' m1 m2 : Mx} {tx : List Int32} {es es' : List Nat} {ts ts' tsN : Nat → List Nat} {tsI : Nat → Nat → List Nat} {as : List Nat} {ps : Nat → Nat} {txs : Nat → List Int32} {ss : Nat → Sx} {pd : Nat} {own : Nat → Nat} {v w : Int32} {i j k : Nat} {s : Sx}
theorem AnR.rx {a p : Nat} {pss pss' : Nat → Sx} (h : AnR x T m es ts a i p tx s pss) (e2 : ∀ k, k < 300 → m' 2 (300 * i + k) = m 2 (300 * i + k)) (e4 : ∀ J, 45 ≤ J → J ≤ 49 → m' J i = m J i) (hE : ∀ j, j < es.length → m 47 i = nI j → j < es'.length ∧ gNl es' j = gNl es j ∧ ts' j = ts j ∧ m' 37 j = m 37 j ∧ ∀ k, k < (ts j).length → m' 41 (2 * (8 * j + k)) = m 41 (2 * (8 * j + k)) ∧ m' 41 (2 * (8 * j + k) + 1) = m 41 (2 * (8 * j + k) + 1) ∧ m' 42 (8 * j + k) = m 42 (8 * j + k) ∧ m' 43 (2 * (8 * j + k)) = m 43 (2 * (8 * j + k)) ∧ m' 43 (2 * (8 * j + k) + 1) = m 43 (2 * (8 * j + k) + 1) ∧ m' 50 (8 * i + k) = m 50 (8 * i + k) ∧ m' 51 (8 * i + k) = m 51 (8 * i + k)) (hs : ∀ k, k < i → pss' k = pss k) : AnR x T m' es' ts' a i p tx s pss' := by
  obtain ⟨a1, a2, a3, a4, b1, a5, c1, d1, ⟨t1, t2, t3, t4, t5⟩, d3, ⟨j, e1, e2', e3, e4', e5, e6⟩, f1, f2, f3⟩ := h
  obtain ⟨g1, g2, g3, g4, g5⟩ := hE j e1 e2'
  refine ⟨a1, a2, a3, by rw [e4 46 (by decide) (by decide)]; exact a4, b1, by rw [e4 48 (by decide) (by decide)]; exact a5, c1, by rw [e4 49 (by decide) (by decide)]; exact d1, ⟨t1, t2, t3, by rw [e4 45 (by decide) (by decide)]; exact t4, fun k hk => by rw [e2 k (by omega)]; exact t5 k hk⟩, d3, ⟨j, g1, by rw [e4 47 (by decide) (by decide)]; exact e2', by rw [g2]; exact e3, by rw [g3]; exact e4', by rw [g3]; exact e5, fun k hk => ?_⟩, f1, f2, fun k hk => by rw [hs k hk]; exact f3 k hk⟩
  rw [g3] at hk
  obtain ⟨y1, y2, y3, y4, y5, y6, y7⟩ := g5 k hk
  rw [g4, y1, y2, y3, y4, y5, y6, y7]
  exact e6 k hk
theorem AnR.rd {a p : Nat} {pss : Nat → Sx} (h : AnR x T m es ts a i p tx s pss) : ∃ m' I c d, f_12072 (nI i) m = some m' ∧ FrL m m' ∧ PgC s I c d ∧ PgM s I c d m' := by
  obtain ⟨a1, a2, a3, a4, b1, a5, c1, d1, ⟨g1, g2, g3, g4, g5⟩, d3, _⟩ := h
  obtain ⟨m1, k1, k2, k3⟩ := ld_an g1 g2 g3 g4 g5
  obtain ⟨m', I, c, d, e1, e2, e3, e4, e5, e6, e7, e8⟩ := d3.go g2 k1
  exact ⟨m', I, c, d, k2.trans e1, k3 m' e2, e6, e7⟩
theorem ExR.rx {e : Nat} {tl : List Nat} (h : ExR x T m e i tl) (h37 : m' 37 i = m 37 i) (h38 : m' 38 i = m 38 i) (h39 : m' 39 i = m 39 i) (hk : ∀ k, k < tl.length → m' 40 (8 * i + k) = m 40 (8 * i + k) ∧ m' 41 (2 * (8 * i + k)) = m 41 (2 * (8 * i + k)) ∧ m' 41 (2 * (8 * i + k) + 1) = m 41 (2 * (8 * i + k) + 1) ∧ m' 42 (8 * i + k) = m 42 (8 * i + k) ∧ m' 43 (2 * (8 * i + k)) = m 43 (2 * (8 * i + k)) ∧ m' 43 (2 * (8 * i + k) + 1) = m 43 (2 * (8 * i + k) + 1) ∧ m' 44 (8 * i + k) = m 44 (8 * i + k)) : ExR x T m' e i tl := by
  obtain ⟨b1, b2, b3, b4, b5, b6, b7, b8, b9, c0, c1, c2, c3, c4⟩ := h
  refine ⟨b1, b2, b3, b4, b5, b6, b7, b8, by rw [h37]; exact b9, by rw [h37]; exact c0, by rw [h38]; exact c1, by rw [h38]; exact c2, by rw [h39]; exact c3, fun k hk' => ⟨(c4 k hk').1, ?_⟩⟩
  obtain ⟨y1, y2, y3, y4, y5, y6, y7⟩ := hk k hk'
  have := (c4 k hk').2
  unfold TstR at this ⊢
  rw [y1, y2, y3, y4, y5, y6, y7]
  exact this
theorem DrI.agr {na : Nat} (h : DrI x T m tx na ps pd) (hZ : tZ T ≤ tZ T') (g0 : Agr T T' x) (g1 : Agr T T' (x + 1)) (g34 : Agr T T' (x + 34)) (gp : ∀ k, k < 28 → Agr T T' (pd + k)) : DrI x T' m tx na ps pd := by
  obtain ⟨⟨b1, b1'⟩, b2, b3, b4, b5, b6, b7⟩ := h
  refine ⟨⟨by rw [g1.2.2.2.2.1]; exact b1, b1'⟩, by rw [g0.2.2.1]; exact b2, b3.agr hZ gp, b4, ?_, by rw [g0.2.2.2.2.2]; exact b6, by rw [g34.2.2.2.2.1]; exact b7⟩
  rw [g0.2.2.2.2.2]
  rcases b5 with w | ⟨w, s0, s1, z1, z2, z3, z4⟩
  · exact Or.inl w
  · exact Or.inr ⟨w, s0, s1, z1, z2, z3, z4.agr gp⟩
/-- while answers take up a new test -/
def MidA (x : Nat) (T : Tx) (m : Mx) (tx : List Int32) (es : List Nat) (tsN : Nat → List Nat) (as : List Nat) (tsI : Nat → Nat → List Nat) (ps : Nat → Nat) (txs : Nat → List Int32) (ss : Nat → Sx) (pd : Nat) : Prop :=
  Shp T x ∧ DrI x T m tx as.length ps pd ∧ TrI x T m ∧ ExI x T m es tsN ∧ m 0 74 = nI as.length ∧ as.length ≤ 30 ∧ tA T (x + 69) = as ∧ ∀ i, i < as.length → AnR x T m es (tsI i) (gNl as i) i (ps i) (txs i) (ss i) ss
/-- the answers' cells are their own -/
def NaI (x : Nat) (es : List Nat) (tsN : Nat → List Nat) (as : List Nat) (ps : Nat → Nat) (pd : Nat) : Prop :=
  ∀ i, i < as.length → ∀ q, q < 7 → (∀ i', i' < as.length → i' ≠ i → ∀ k, k < 7 → gNl as i' + k ≠ gNl as i + q) ∧ (∀ p, p = pd ∨ (∃ i', i' < as.length ∧ p = ps i') → ∀ k, k < 28 → p + k ≠ gNl as i + q) ∧ (∀ j, j < es.length → gNl es j ≠ gNl as i + q ∧ gNl es j + 1 ≠ gNl as i + q) ∧ ∀ j, j < es.length → ∀ k, k < (tsN j).length → gNl (tsN j) k ≠ gNl as i + q
theorem MidA.stp (h : MidA x T m tx es tsN as tsI ps txs ss pd) (hna : NaI x es tsN as ps pd) (hi : i < as.length) (hI : tsI i = ts) (hj : j < es.length) (h47 : m 47 i = nI j) (hk : (ts j).length = k) (hk8 : k < 8) (hk' : (tsN j).length = k + 1) (hL : ∀ i' j', i' < as.length → j' < es.length → (tsI i' j').length ≤ (tsN j').length) :
    ∃ T' m1 m', f_12072 (nI i) m = some m1 ∧ h_11044 x (gNl as i) (gNl (tsN j) k) T = some T' ∧ f_12085 (nI i) (nI k) m1 = some m' ∧ MidA x T' m' tx es tsN as (fun i' => if i' = i then tsN else tsI i') ps txs ss pd ∧ m' 0 82 = m 0 82 ∧ m' 47 = m 47 := by
  obtain ⟨q1, q2, q3, q4, q5, q6, q7, q8⟩ := h
  have hA := q8 i hi
  rw [hI] at hA
  obtain ⟨m1, I, c, d, k1, k2, k3, k4⟩ := hA.rd
  have hE := q4.2.2.2 j hj
  obtain ⟨n1, n2, n3, n4⟩ := hna i hi 1 (by decide)
  obtain ⟨o1, o2, o3, o4⟩ := hna i hi 3 (by decide)
  have hT := hE.2.2.2.2.2.2.2.2.2.2.2.2.2 k (by omega)
  obtain ⟨T', m', p1, p2, p3, p4, p5, p6, p7, p8, p9, p10, p11⟩ := hA.stp (ts' := tsN) (m1 := m1) (t := gNl (tsN j) k) q1 hj q4.2.1 h47 hk hk8 hk' ⟨hE.2.2.1, hE.2.2.2.2.2.2.2.2.1, hE.2.2.2.2.2.2.2.2.2.1⟩ hT.2 hT.1 (n4 j hj k (by omega)) (fun z hz => ⟨n2 _ (Or.inr ⟨i, hi, rfl⟩) z hz, o2 _ (Or.inr ⟨i, hi, rfl⟩) z hz⟩) k3 k4 (fun J hJ => k2.1 J (by omega) (by omega))
  have la : x + 74 ≤ gNl as i := hA.1
  have fm : ∀ J, J ≠ 0 → J < 3 ∨ 34 < J → J ≠ 50 → J ≠ 51 → m' J = m J := fun J h0 h1 h2 h3 => (p9 J h0 (by omega) h2 h3).trans (k2.1 J h0 (by omega))
  have ff : ∀ g, g = 0 ∨ g = 60 ∨ g = 63 ∨ g = 64 ∨ g = 65 ∨ g = 74 ∨ g = 82 → m' 0 g = m 0 g := fun g hg => by
    rw [p10 g (by omega) (by omega) (by omega) (by omega) (by omega) (by omega)]
    rcases hg with e | e | e | e | e | e | e <;> subst e <;> exact k2.2 _ (by decide) (by decide)
  refine ⟨T', m1, m', k1, p1, p2, ⟨p4, ?_, ?_, ?_, (ff 74 (by omega)).trans q5, q6, ?_, fun i' hi' => ?_⟩, ff 82 (by omega), fm 47 (by decide) (by decide) (by decide) (by decide)⟩
  · have hp := q2.2.2.2.1
    exact (q2.agr (T' := T') (by omega) (p6 x (by omega) (by omega) (by omega)) (p6 _ (by omega) (by omega) (by omega)) (p6 _ (by omega) (by omega) (by omega)) (fun z hz => p6 _ (by omega) (n2 pd (Or.inl rfl) z hz) (o2 pd (Or.inl rfl) z hz))).mm (ff 0 (by omega)) (fm 1 (by decide) (by decide) (by decide) (by decide))
  · exact (q3.of (T' := T') (p6 _ (by omega) (by omega) (by omega)).2.2.2.2.1 (p6 _ (by omega) (by omega) (by omega)).2.2.2.2.1 (congrFun (p6 (x + 42) (by omega) (by omega) (by omega)).2.2.2.2.2 4) (congrFun (p6 x (by omega) (by omega) (by omega)).2.2.2.2.2 13)).mm (ff 60 (by omega)) (ff 63 (by omega)) (ff 64 (by omega)) (fm 35 (by decide) (by decide) (by decide) (by decide)) (fm 36 (by decide) (by decide) (by decide) (by decide))
  · refine (q4.agr (T' := T') (by omega) (p6 _ (by omega) (by omega) (by omega)).2.2.2.1 (fun j' hj' => ⟨?_, ?_, fun z hz => ?_⟩)).mm (ff 65 (by omega)) (fun J h1 h2 => fm J (by omega) (by omega) (by omega) (by omega))
    · have := (q4.2.2.2 j' hj').1
      exact p6 _ (by omega) (n3 j' hj').1 (o3 j' hj').1
    · have := (q4.2.2.2 j' hj').1
      exact p6 _ (by omega) (n3 j' hj').2 (o3 j' hj').2
    · have := ((q4.2.2.2 j' hj').2.2.2.2.2.2.2.2.2.2.2.2.2 z hz).1
      exact p6 _ (by omega) (n4 j' hj' z hz) (o4 j' hj' z hz)
  · exact (p6 _ (by omega) (by omega) (by omega)).2.2.2.1.trans q7
  · dsimp only
    by_cases e : i' = i
    · subst e
      rw [if_pos rfl]
      exact p3
    · rw [if_neg e]
      have hA' := q8 i' hi'
      have l1 := hA'.1
      have l2 := hA'.2.2.2.2.1.2.2.1
      have h8 : ∀ j', j' < es.length → m 47 i' = nI j' → (tsI i' j').length ≤ 8 := fun j' hj' hq => by
        have y1 := hL i' j' hi' hj'
        have y2 := (q4.2.2.2 j' hj').2.2.2.2.2.2.1
        omega
      refine (hA'.agr (T' := T') (by omega) (fun z hz => p6 _ (by omega) (n1 i' hi' e z hz) (o1 i' hi' e z hz)) (fun z hz => p6 _ (by omega) (n2 _ (Or.inr ⟨i', hi', rfl⟩) z hz) (o2 _ (Or.inr ⟨i', hi', rfl⟩) z hz))).rx (fun z hz => by rw [fm 2 (by decide) (by decide) (by decide) (by decide)]) (fun J h1 h2 => by rw [fm J (by omega) (by omega) (by omega) (by omega)]) (fun j' hj' hq => ⟨hj', rfl, rfl, by rw [fm 37 (by decide) (by decide) (by decide) (by decide)], fun z hz => ?_⟩) (fun _ _ => rfl)
      have := h8 j' hj' hq
      rw [fm 41 (by decide) (by decide) (by decide) (by decide), fm 42 (by decide) (by decide) (by decide) (by decide), fm 43 (by decide) (by decide) (by decide) (by decide)]
      exact ⟨rfl, rfl, rfl, rfl, rfl, p7 _ (by omega), p8 _ (by omega)⟩
theorem at_L {t n0 : Nat} {u1 u2 u3 u4 u5 u6 u7 : Int32} (hj : j < es.length) (hn0 : (ts j).length = n0) (h8 : n0 < 8) (hN : tsN j = ts j ++ [t]) (hO : ∀ j', j' ≠ j → tsN j' = ts j') (hna : NaI x es tsN as ps pd) : ∀ (q n n' l bc bs : Nat) (T : Tx) (m : Mx), l + q = as.length → q < n → q < n' → MidA x T m tx es tsN as (fun i => if i < l then tsN else ts) ps txs ss pd →
    ∃ T' m', h_11016_L88 n x (nI j) u1 u2 u3 u4 u5 u6 (gNl es j) t (nI l) bc bs T = some (T', .inr (nI n0)) ∧ f_12086_L171 n' (nI j) u1 u2 u3 u4 u5 u6 u7 (nI n0) (nI (8 * j + n0)) (nI l) m = some (m', nI n0) ∧ MidA x T' m' tx es tsN as (fun _ => tsN) ps txs ss pd ∧ m' 0 82 = m 0 82 := by
  have hlen : (tsN j).length = n0 + 1 := by rw [hN, List.length_append, hn0]; rfl
  have gt : gNl (tsN j) n0 = t := by
    rw [hN, ← hn0]
    exact gN_e
  intro q
  induction q with
  | zero =>
    intro n n' l bc bs T m hl hn hn' h
    obtain ⟨n, rfl⟩ : ∃ q, n = q + 1 := ⟨n - 1, by omega⟩
    obtain ⟨n', rfl⟩ : ∃ q, n' = q + 1 := ⟨n' - 1, by omega⟩
    obtain ⟨q1, q2, q3, q4, q5, q6, q7, q8⟩ := h
    have hE := q4.2.2.2 j hj
    have c : nI as.length ≤ nI l := (nI_le' (by omega) (by omega)).2 (by omega)
    refine ⟨T, m, ?_, ?_, ⟨q1, q2, q3, q4, q5, q6, q7, fun i hi => ?_⟩, rfl⟩
    · rw [h_11016_L88, gd_e q1.1, q1.2.2.2.2.2.2.2.2.1.1, bP_some, gd_e q1.2.2.2.2.2.2.2.2.1.2, q7, if_pos c, gd_e hE.2.2.1, g2002 hE, bP_some, hlen, nI_pp (by omega)]
    · rw [f_12086_L171, show mf m 74 = nI as.length from q5, if_pos c]
    · have := q8 i hi
      dsimp only at this
      rw [if_pos (by omega)] at this
      exact this
  | succ q ih =>
    intro n n' l bc bs T m hl hn hn' h
    obtain ⟨n, rfl⟩ : ∃ q, n = q + 1 := ⟨n - 1, by omega⟩
    obtain ⟨n', rfl⟩ : ∃ q, n' = q + 1 := ⟨n' - 1, by omega⟩
    have h' := h
    obtain ⟨q1, q2, q3, q4, q5, q6, q7, q8⟩ := h'
    have h4 := q4.2.1
    have c : ¬ nI as.length ≤ nI l := fun z => by have := (nI_le' (by omega) (by omega)).1 z; omega
    have hA := q8 l (by omega)
    dsimp only at hA
    rw [if_neg (by omega)] at hA
    obtain ⟨a1, a2, a3, a4, b1, a5, c1, d1, d2, d3, ⟨j', e1, e2, e3, _⟩, _⟩ := hA
    have hE' := q4.2.2.2 j' e1
    have eg : as.getD (nI l).toNatClampNeg 0 = gNl as l := by rw [nI_C (by omega)]
    have e47 : mg m 47 (nI l) = nI j' := by rw [mg_n (by omega)]; exact e2
    have hh : h_11016_L88 (n + 1) x (nI j) u1 u2 u3 u4 u5 u6 (gNl es j) t (nI l) bc bs T = if nI j' = nI j then bOv (h_11044 x (gNl as l) t T) fun T9 => h_11016_L88 n x (nI j) u1 u2 u3 u4 u5 u6 (gNl es j) t (nI (l + 1)) bc bs T9 else h_11016_L88 n x (nI j) u1 u2 u3 u4 u5 u6 (gNl es j) t (nI (l + 1)) bc bs T := by
      rw [h_11016_L88, gd_e q1.1, q1.2.2.2.2.2.2.2.2.1.1, bP_some, gd_e q1.2.2.2.2.2.2.2.2.1.2, q7, if_neg c, gd_e q1.1, bP_some, gd_e q1.2.2.2.2.2.2.2.2.1.2, q7, gd_e (vi_n (by omega) (by omega)), bS_eq, eg, gd_e a3, gd_e a3, e3, bP_some, gd_e hE'.2.2.1, hE'.2.2.2.2.2.2.2.1, gd_e q1.1, nI_p1 (by omega)]
    have hf : f_12086_L171 (n' + 1) (nI j) u1 u2 u3 u4 u5 u6 u7 (nI n0) (nI (8 * j + n0)) (nI l) m = if nI j' = nI j then bOv (f_12072 (nI l) m) fun s3 => bOv (f_12085 (nI l) (nI n0) s3) fun s4 => f_12086_L171 n' (nI j) u1 u2 u3 u4 u5 u6 u7 (nI n0) (nI (8 * j + n0)) (nI (l + 1)) s4 else f_12086_L171 n' (nI j) u1 u2 u3 u4 u5 u6 u7 (nI n0) (nI (8 * j + n0)) (nI (l + 1)) m := by
      rw [f_12086_L171, show mf m 74 = nI as.length from q5, if_neg c, gd_e (vi_n (by omega) (by omega)), e47, nI_p1 (by omega)]
    rw [hh, hf]
    by_cases hc : nI j' = nI j
    · have ej : j' = j := by
        rw [nI_eq (by omega) (by omega)] at hc
        exact hc
      subst ej
      obtain ⟨T1, m1, m2, g1, g2, g3, g4, g5, g6⟩ := h.stp (ts := ts) (i := l) hna (by omega) (if_neg (by omega)) hj e2 hn0 h8 hlen (fun i' j2 hi' hj2 => by
        show ((if i' < l then tsN else ts) j2).length ≤ _
        by_cases c2 : i' < l
        · rw [if_pos c2]; exact Nat.le_refl _
        · rw [if_neg c2]
          by_cases c3 : j2 = j'
          · subst c3; omega
          · rw [hO j2 c3]; exact Nat.le_refl _)
      rw [gt] at g2
      rw [if_pos rfl, if_pos rfl, g2, bOv_some, g1, bOv_some, g3, bOv_some]
      have g4' : MidA x T1 m2 tx es tsN as (fun i => if i < l + 1 then tsN else ts) ps txs ss pd := by
        obtain ⟨y1, y2, y3, y4, y5, y6, y7, y8⟩ := g4
        refine ⟨y1, y2, y3, y4, y5, y6, y7, fun i hi => ?_⟩
        have := y8 i hi
        dsimp only at this ⊢
        by_cases z : i = l
        · rw [if_pos z] at this
          rw [if_pos (by omega)]
          exact this
        · rw [if_neg z] at this
          by_cases z' : i < l
          · rw [if_pos z'] at this
            rw [if_pos (by omega)]
            exact this
          · rw [if_neg z'] at this
            rw [if_neg (by omega)]
            exact this
      obtain ⟨T', m', k1, k2, k3, k4⟩ := ih n n' (l + 1) bc bs T1 m2 (by omega) (by omega) (by omega) g4'
      exact ⟨T', m', k1, k2, k3, k4.trans g5⟩
    · rw [if_neg hc, if_neg hc]
      have g4' : MidA x T m tx es tsN as (fun i => if i < l + 1 then tsN else ts) ps txs ss pd := by
        refine ⟨q1, q2, q3, q4, q5, q6, q7, fun i hi => ?_⟩
        have := q8 i hi
        dsimp only at this ⊢
        by_cases z : i = l
        · subst z
          rw [if_neg (by omega)] at this
          rw [if_pos (by omega)]
          refine this.rx (fun _ _ => rfl) (fun _ _ _ => rfl) (fun j2 hj2 h2 => ⟨hj2, rfl, hO j2 (fun z => ?_), rfl, fun _ _ => ⟨rfl, rfl, rfl, rfl, rfl, rfl, rfl⟩⟩) (fun _ _ => rfl)
          rw [z] at h2
          exact hc (e2.symm.trans h2)
        · by_cases z' : i < l
          · rw [if_pos z'] at this
            rw [if_pos (by omega)]
            exact this
          · rw [if_neg z'] at this
            rw [if_neg (by omega)]
            exact this
      exact ih n n' (l + 1) bc bs T m (by omega) (by omega) (by omega) g4'
end ADT
