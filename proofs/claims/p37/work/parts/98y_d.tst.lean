/-! the school: a new test, with what changes -/
section AD2
variable {x : Nat} {T T' : Tx} {m m' m1 m2 : Mx} {tx : List Int32} {es es' : List Nat} {ts ts' tsN : Nat → List Nat} {tsI : Nat → Nat → List Nat} {as : List Nat} {ps : Nat → Nat} {txs : Nat → List Int32} {ss : Nat → Sx} {pd : Nat} {own : Nat → Nat} {v w : Int32} {i j k : Nat} {s : Sx}
def HG (m m' : Mx) : Prop := (∀ J, J ≠ 0 → J < 3 ∨ 34 < J → J ≠ 50 → J ≠ 51 → m' J = m J) ∧ ∀ g, g = 0 ∨ g = 64 ∨ g = 65 ∨ g = 74 → m' 0 g = m 0 g
theorem MidA.stp2 (h : MidA x T m tx es tsN as tsI ps txs ss pd) (hna : NaI x es tsN as ps pd) (hi : i < as.length) (hI : tsI i = ts) (hj : j < es.length) (h47 : m 47 i = nI j) (hk : (ts j).length = k) (hk8 : k < 8) (hk' : (tsN j).length = k + 1) (hL : ∀ i' j', i' < as.length → j' < es.length → (tsI i' j').length ≤ (tsN j').length) :
    ∃ T' m1 m', f_12072 (nI i) m = some m1 ∧ h_11044 x (gNl as i) (gNl (tsN j) k) T = some T' ∧ f_12085 (nI i) (nI k) m1 = some m' ∧ MidA x T' m' tx es tsN as (fun i' => if i' = i then tsN else tsI i') ps txs ss pd ∧ HG m m' ∧ tZ T' = tZ T := by
  obtain ⟨q1, q2, q3, q4, q5, q6, q7, q8⟩ := h
  have hA := q8 i hi
  rw [hI] at hA
  obtain ⟨m1, I, c, d, k1, k2, k3, k4⟩ := hA.rd
  have hE := q4.2.2.2 j hj
  obtain ⟨n1, n2, n3, n4⟩ := hna i hi 1 (by decide)
  obtain ⟨o1, o2, o3, o4⟩ := hna i hi 3 (by decide)
  have hT := hE.2.2.2.2.2.2.2.2.2.2.2.2.2 k (by omega)
  obtain ⟨T', m', p1, p2, p3, p4, p5, p6, p7, p8, p9, p10, p11⟩ := hA.stp (ts' := tsN) (m1 := m1) (t := gNl (tsN j) k) q1 hj q4.2.1 h47 hk hk8 hk' ⟨hE.2.2.1, hE.2.2.2.2.2.2.2.2.1, hE.2.2.2.2.2.2.2.2.2.1⟩ hT.2 hT.1 (n4 j hj k (by omega)) (fun z hz => ⟨n2 _ (Or.inr ⟨i, hi, rfl⟩) z hz, o2 _ (Or.inr ⟨i, hi, rfl⟩) z hz⟩) k3 k4 (fun J hJ => k2.1 J (by omega) (by omega))
  have la : x + 74 ≤ gNl as i := hA.1
  have fm : ∀ J, J ≠ 0 → J < 3 ∨ 34 < J → J ≠ 50 → J ≠ 51 → m' J = m J := fun J h0 h1 h2 h3 => (p9 J h0 (by omega) h2 h3).trans (k2.1 J h0 (by omega))
  have ff : ∀ g, g = 0 ∨ g = 60 ∨ g = 63 ∨ g = 64 ∨ g = 65 ∨ g = 74 ∨ g = 82 → m' 0 g = m 0 g := fun g hg => by
    rw [p10 g (by omega) (by omega) (by omega) (by omega) (by omega) (by omega)]
    rcases hg with e | e | e | e | e | e | e <;> subst e <;> exact k2.2 _ (by decide) (by decide)
  refine ⟨T', m1, m', k1, p1, p2, ⟨p4, ?_, ?_, ?_, (ff 74 (by omega)).trans q5, q6, ?_, fun i' hi' => ?_⟩, ⟨fm, fun g hg => ff g (by omega)⟩, p5⟩
  · have hp := q2.2.2.2.1
    exact (q2.agr (T' := T') (by omega) (p6 x (by omega) (by omega) (by omega)) (p6 _ (by omega) (by omega) (by omega)) (p6 _ (by omega) (by omega) (by omega)) (fun z hz => p6 _ (by omega) (n2 pd (Or.inl rfl) z hz) (o2 pd (Or.inl rfl) z hz))).mm (ff 0 (by omega)) (fm 1 (by decide) (by decide) (by decide) (by decide))
  · exact (q3.of (T' := T') (p6 _ (by omega) (by omega) (by omega)).2.2.2.2.1 (p6 _ (by omega) (by omega) (by omega)).2.2.2.2.1 (congrFun (p6 (x + 42) (by omega) (by omega) (by omega)).2.2.2.2.2 4) (congrFun (p6 x (by omega) (by omega) (by omega)).2.2.2.2.2 13)).mm (ff 60 (by omega)) (ff 63 (by omega)) (ff 64 (by omega)) (fm 35 (by decide) (by decide) (by decide) (by decide)) (fm 36 (by decide) (by decide) (by decide) (by decide))
  · refine (q4.agr (T' := T') (by omega) (p6 _ (by omega) (by omega) (by omega)).2.2.2.1 (fun j' hj' => ⟨?_, ?_, fun z hz => ?_⟩)).mm (ff 65 (by omega)) (fun J h1 h2 => fm J (by omega) (by omega) (by omega) (by omega))
    · have := (q4.2.2.2 j' hj').1
      exact p6 _ (by omega) (n3 j' hj').1 (o3 j' hj').1
    · have := (q4.2.2.2 j' hj').1
      exact p6 _ (by omega) (n3 j' hj').2 (o3 j' hj').2
    · have := ((q4.2.2.2 j' hj').2.2.2.2.2.2.2.2.2.2.2.2.2 z hz).1
      exact p6 _ (by omega) (n4 j' hj' z hz) (o4 j' hj' z hz)
  · exact (p6 _ (by omega) (by omega) (by omega)).2.2.2.1.trans q7
  · dsimp only
    by_cases e : i' = i
    · subst e
      rw [if_pos rfl]
      exact p3
    · rw [if_neg e]
      have hA' := q8 i' hi'
      have l1 := hA'.1
      have l2 := hA'.2.2.2.2.1.2.2.1
      have h8 : ∀ j', j' < es.length → m 47 i' = nI j' → (tsI i' j').length ≤ 8 := fun j' hj' hq => by
        have y1 := hL i' j' hi' hj'
        have y2 := (q4.2.2.2 j' hj').2.2.2.2.2.2.1
        omega
      refine (hA'.agr (T' := T') (by omega) (fun z hz => p6 _ (by omega) (n1 i' hi' e z hz) (o1 i' hi' e z hz)) (fun z hz => p6 _ (by omega) (n2 _ (Or.inr ⟨i', hi', rfl⟩) z hz) (o2 _ (Or.inr ⟨i', hi', rfl⟩) z hz))).rx (fun z hz => by rw [fm 2 (by decide) (by decide) (by decide) (by decide)]) (fun J h1 h2 => by rw [fm J (by omega) (by omega) (by omega) (by omega)]) (fun j' hj' hq => ⟨hj', rfl, rfl, by rw [fm 37 (by decide) (by decide) (by decide) (by decide)], fun z hz => ?_⟩) (fun _ _ => rfl)
      have := h8 j' hj' hq
      rw [fm 41 (by decide) (by decide) (by decide) (by decide), fm 42 (by decide) (by decide) (by decide) (by decide), fm 43 (by decide) (by decide) (by decide) (by decide)]
      exact ⟨rfl, rfl, rfl, rfl, rfl, p7 _ (by omega), p8 _ (by omega)⟩
theorem at_L2 {t n0 : Nat} {u1 u2 u3 u4 u5 u6 : Int32} (hj : j < es.length) (hn0 : (ts j).length = n0) (h8 : n0 < 8) (hN : tsN j = ts j ++ [t]) (hO : ∀ j', j' ≠ j → tsN j' = ts j') (hna : NaI x es tsN as ps pd) : ∀ (q n n' l bc bs : Nat) (T : Tx) (m : Mx), l + q = as.length → q < n → q < n' → MidA x T m tx es tsN as (fun i => if i < l then tsN else ts) ps txs ss pd →
    ∃ T' m', h_11016_L88 n x (nI j) u1 u2 u3 u4 u5 u6 (gNl es j) t (nI l) bc bs T = some (T', .inr (nI n0)) ∧ MidA x T' m' tx es tsN as (fun _ => tsN) ps txs ss pd ∧ HG m m' ∧ tZ T' = tZ T := by
  have hlen : (tsN j).length = n0 + 1 := by rw [hN, List.length_append, hn0]; rfl
  have gt : gNl (tsN j) n0 = t := by
    rw [hN, ← hn0]
    exact gN_e
  intro q
  induction q with
  | zero =>
    intro n n' l bc bs T m hl hn hn' h
    obtain ⟨n, rfl⟩ : ∃ q, n = q + 1 := ⟨n - 1, by omega⟩
    obtain ⟨n', rfl⟩ : ∃ q, n' = q + 1 := ⟨n' - 1, by omega⟩
    obtain ⟨q1, q2, q3, q4, q5, q6, q7, q8⟩ := h
    have hE := q4.2.2.2 j hj
    have c : nI as.length ≤ nI l := (nI_le' (by omega) (by omega)).2 (by omega)
    refine ⟨T, m, ?_, ⟨q1, q2, q3, q4, q5, q6, q7, fun i hi => ?_⟩, ⟨fun _ _ _ _ _ => rfl, fun _ _ => rfl⟩, rfl⟩
    · rw [h_11016_L88, gd_e q1.1, q1.2.2.2.2.2.2.2.2.1.1, bP_some, gd_e q1.2.2.2.2.2.2.2.2.1.2, q7, if_pos c, gd_e hE.2.2.1, g2002 hE, bP_some, hlen, nI_pp (by omega)]
    · have := q8 i hi
      dsimp only at this
      rw [if_pos (by omega)] at this
      exact this
  | succ q ih =>
    intro n n' l bc bs T m hl hn hn' h
    obtain ⟨n, rfl⟩ : ∃ q, n = q + 1 := ⟨n - 1, by omega⟩
    obtain ⟨n', rfl⟩ : ∃ q, n' = q + 1 := ⟨n' - 1, by omega⟩
    have h' := h
    obtain ⟨q1, q2, q3, q4, q5, q6, q7, q8⟩ := h'
    have h4 := q4.2.1
    have c : ¬ nI as.length ≤ nI l := fun z => by have := (nI_le' (by omega) (by omega)).1 z; omega
    have hA := q8 l (by omega)
    dsimp only at hA
    rw [if_neg (by omega)] at hA
    obtain ⟨a1, a2, a3, a4, b1, a5, c1, d1, d2, d3, ⟨j', e1, e2, e3, _⟩, _⟩ := hA
    have hE' := q4.2.2.2 j' e1
    have eg : as.getD (nI l).toNatClampNeg 0 = gNl as l := by rw [nI_C (by omega)]
    have e47 : mg m 47 (nI l) = nI j' := by rw [mg_n (by omega)]; exact e2
    have hh : h_11016_L88 (n + 1) x (nI j) u1 u2 u3 u4 u5 u6 (gNl es j) t (nI l) bc bs T = if nI j' = nI j then bOv (h_11044 x (gNl as l) t T) fun T9 => h_11016_L88 n x (nI j) u1 u2 u3 u4 u5 u6 (gNl es j) t (nI (l + 1)) bc bs T9 else h_11016_L88 n x (nI j) u1 u2 u3 u4 u5 u6 (gNl es j) t (nI (l + 1)) bc bs T := by
      rw [h_11016_L88, gd_e q1.1, q1.2.2.2.2.2.2.2.2.1.1, bP_some, gd_e q1.2.2.2.2.2.2.2.2.1.2, q7, if_neg c, gd_e q1.1, bP_some, gd_e q1.2.2.2.2.2.2.2.2.1.2, q7, gd_e (vi_n (by omega) (by omega)), bS_eq, eg, gd_e a3, gd_e a3, e3, bP_some, gd_e hE'.2.2.1, hE'.2.2.2.2.2.2.2.1, gd_e q1.1, nI_p1 (by omega)]
    rw [hh]
    by_cases hc : nI j' = nI j
    · have ej : j' = j := by
        rw [nI_eq (by omega) (by omega)] at hc
        exact hc
      subst ej
      obtain ⟨T1, m1, m2, g1, g2, g3, g4, g5, g6⟩ := h.stp2 (ts := ts) (i := l) hna (by omega) (if_neg (by omega)) hj e2 hn0 h8 hlen (fun i' j2 hi' hj2 => by
        show ((if i' < l then tsN else ts) j2).length ≤ _
        by_cases c2 : i' < l
        · rw [if_pos c2]; exact Nat.le_refl _
        · rw [if_neg c2]
          by_cases c3 : j2 = j'
          · subst c3; omega
          · rw [hO j2 c3]; exact Nat.le_refl _)
      rw [gt] at g2
      rw [if_pos rfl, g2, bOv_some]
      have g4' : MidA x T1 m2 tx es tsN as (fun i => if i < l + 1 then tsN else ts) ps txs ss pd := by
        obtain ⟨y1, y2, y3, y4, y5, y6, y7, y8⟩ := g4
        refine ⟨y1, y2, y3, y4, y5, y6, y7, fun i hi => ?_⟩
        have := y8 i hi
        dsimp only at this ⊢
        by_cases z : i = l
        · rw [if_pos z] at this
          rw [if_pos (by omega)]
          exact this
        · rw [if_neg z] at this
          by_cases z' : i < l
          · rw [if_pos z'] at this
            rw [if_pos (by omega)]
            exact this
          · rw [if_neg z'] at this
            rw [if_neg (by omega)]
            exact this
      obtain ⟨T', m', k1, k3, k4, k5⟩ := ih n n' (l + 1) bc bs T1 m2 (by omega) (by omega) (by omega) g4'
      exact ⟨T', m', k1, k3, ⟨fun J h0 h1 h2 h3 => (k4.1 J h0 h1 h2 h3).trans (g5.1 J h0 h1 h2 h3), fun g hg => (k4.2 g hg).trans (g5.2 g hg)⟩, k5.trans g6⟩
    · rw [if_neg hc]
      have g4' : MidA x T m tx es tsN as (fun i => if i < l + 1 then tsN else ts) ps txs ss pd := by
        refine ⟨q1, q2, q3, q4, q5, q6, q7, fun i hi => ?_⟩
        have := q8 i hi
        dsimp only at this ⊢
        by_cases z : i = l
        · subst z
          rw [if_neg (by omega)] at this
          rw [if_pos (by omega)]
          refine this.rx (fun _ _ => rfl) (fun _ _ _ => rfl) (fun j2 hj2 h2 => ⟨hj2, rfl, hO j2 (fun z => ?_), rfl, fun _ _ => ⟨rfl, rfl, rfl, rfl, rfl, rfl, rfl⟩⟩) (fun _ _ => rfl)
          rw [z] at h2
          exact hc (e2.symm.trans h2)
        · by_cases z' : i < l
          · rw [if_pos z'] at this
            rw [if_pos (by omega)]
            exact this
          · rw [if_neg z'] at this
            rw [if_neg (by omega)]
            exact this
      exact ih n n' (l + 1) bc bs T m (by omega) (by omega) (by omega) g4'
theorem z2001 {e t : Nat} (he : h_2001 e t T = some T') : tZ T ≤ tZ T' := by
  unfold h_2001 at he
  replace he := gd_v he
  obtain ⟨r1, h1⟩ := bP_ex he
  replace he := bP_go he h1
  replace he := gd_v he
  replace he := gd_v he
  rw [bS_eq] at he
  cases he
  exact tZ_add
/-- what a new test changes -/
def AdM (m m' : Mx) (j n0 : Nat) (y1 y2 y3 y4 y5 y6 : Int32) : Prop :=
  (∀ g, g = 0 ∨ g = 64 ∨ g = 65 ∨ g = 74 → m' 0 g = m 0 g) ∧ (∀ k, m' 39 k = if k = j then nI (n0 + 1) else m 39 k) ∧ (∀ k, m' 40 k = if k = 8 * j + n0 then y1 else m 40 k) ∧ (∀ k, m' 41 k = if k = 2 * (8 * j + n0) then y2 else if k = 2 * (8 * j + n0) + 1 then y3 else m 41 k) ∧ (∀ k, m' 42 k = if k = 8 * j + n0 then y4 else m 42 k) ∧ (∀ k, m' 43 k = if k = 2 * (8 * j + n0) then y5 else if k = 2 * (8 * j + n0) + 1 then y6 else m 43 k) ∧ (∀ k, m' 44 k = if k = 8 * j + n0 then 0 else m 44 k) ∧ ∀ J, J = 1 ∨ J = 37 ∨ J = 38 ∨ J = 46 ∨ J = 47 ∨ J = 48 ∨ J = 49 → m' J = m J
theorem c_addTs2 {n0 : Nat} {y1 y2 y3 y4 y5 y6 : Int32} (h : SInv x T m tx es ts as ps txs ss pd own) (hJ : j < es.length) (hn0 : (ts j).length = n0) (c8 : n0 < 8) (hb : (1 ≤ y1.toInt ∧ y1.toInt ≤ 10) ∧ 0 ≤ y4.toInt ∧ y4.toInt ≤ 2) : ∃ T' m', h_11016 x (nI j) y1 y2 y3 y4 y5 y6 T = some (T', .inr (nI n0)) ∧ SINV x T' m' ∧ tZ T ≤ tZ T' ∧ AdM m m' j n0 y1 y2 y3 y4 y5 y6 := by
  have h4 := h.2.2.2.1.2.1
  have h30 := h.2.2.2.2.1.2.1
  have i10 : (10 : Int32).toInt = 10 := by decide
  have i2 : (2 : Int32).toInt = 2 := by decide
  have ejT : (nI j).toInt = j := nI_T (by omega)
  have g40' : h_11040 x (nI j) T = some (.inr (gNl es j)) := by rw [g40 h, if_pos (by omega), ejT, Int.toNat_natCast]
  have hE := h.2.2.2.1.2.2.2 j hJ
  have t8 := hE.2.2.2.2.2.2.1
  have hx : ∀ {α : Type} (X Y : α), (if y1 < 1 then X else if 10 < y1 then X else if y4 < 0 then X else if y4 ≤ 2 then Y else X) = Y := fun X Y => by
    rw [if_neg (by rw [i_lt, i_1]; omega), if_neg (by rw [i_lt, i10]; omega), if_neg (by rw [i_lt, i_0]; omega), if_pos (by rw [i_le, i2]; omega)]
  obtain ⟨m1, hm⟩ : ∃ m1, m1 = mU (mU (mU (mU (mU (mU m 39 (fun k => if k = j then nI (n0 + 1) else m 39 k)) 40 (fun k => if k = 8 * j + n0 then y1 else m 40 k)) 41 (fun k => if k = 2 * (8 * j + n0) then y2 else if k = 2 * (8 * j + n0) + 1 then y3 else m 41 k)) 42 (fun k => if k = 8 * j + n0 then y4 else m 42 k)) 43 (fun k => if k = 2 * (8 * j + n0) then y5 else if k = 2 * (8 * j + n0) + 1 then y6 else m 43 k)) 44 (fun k => if k = 8 * j + n0 then 0 else m 44 k) := ⟨_, rfl⟩
  have e44 : ∀ k, m1 44 k = if k = 8 * j + n0 then 0 else m 44 k := fun k => by rw [hm, mU_s]
  have e43 : ∀ k, m1 43 k = if k = 2 * (8 * j + n0) then y5 else if k = 2 * (8 * j + n0) + 1 then y6 else m 43 k := fun k => by rw [hm, mU_n (by decide), mU_s]
  have e42 : ∀ k, m1 42 k = if k = 8 * j + n0 then y4 else m 42 k := fun k => by rw [hm, mU_n (by decide), mU_n (by decide), mU_s]
  have e41 : ∀ k, m1 41 k = if k = 2 * (8 * j + n0) then y2 else if k = 2 * (8 * j + n0) + 1 then y3 else m 41 k := fun k => by rw [hm, mU_n (by decide), mU_n (by decide), mU_n (by decide), mU_s]
  have e40 : ∀ k, m1 40 k = if k = 8 * j + n0 then y1 else m 40 k := fun k => by rw [hm, mU_n (by decide), mU_n (by decide), mU_n (by decide), mU_n (by decide), mU_s]
  have e39 : ∀ k, m1 39 k = if k = j then nI (n0 + 1) else m 39 k := fun k => by rw [hm, mU_n (by decide), mU_n (by decide), mU_n (by decide), mU_n (by decide), mU_n (by decide), mU_s]
  have eJ : ∀ J, J < 39 ∨ 44 < J → m1 J = m J := fun J hJ => by rw [hm, mU_n (by omega), mU_n (by omega), mU_n (by omega), mU_n (by omega), mU_n (by omega), mU_n (by omega)]
  obtain ⟨T18, T19, k1, k2, k3, k4, k5, k6⟩ := ad_new (m' := m1) (u1 := y1) (u2 := y2) (u3 := y3) (u4 := y4) (u5 := y5) (u6 := y6) h hJ hn0 c8 hb.1 hb.2 (fun J _ hJ => eJ J hJ) (fun g _ => by rw [eJ 0 (by decide)]) e39 e40 e41 e42 e43 e44
  obtain ⟨T', m', p1, p3, p4, p5⟩ := at_L2 (ts := ts) (t := tZ T) (u1 := y1) (u2 := y2) (u3 := y3) (u4 := y4) (u5 := y5) (u6 := y6) hJ hn0 c8 (if_pos rfl) (fun j' hj' => if_neg hj') k5 as.length 100 1000 0 5 67 T19 m1 (by omega) (by omega) (by omega) (by
    obtain ⟨q1, q2, q3, q4, q5, q6, q7, q8⟩ := k4
    refine ⟨q1, q2, q3, q4, q5, q6, q7, fun i hi => ?_⟩
    dsimp only
    rw [if_neg (by omega)]
    exact q8 i hi)
  obtain ⟨q1, q2, q3, q4, q5, q6, q7, q8⟩ := p3
  have z18 : tZ T18 = tZ T + 1 := by
    rw [h8000_e tK_new] at k1
    cases k1
    rfl
  have z19 := z2001 k3
  have hh : h_11016 x (nI j) y1 y2 y3 y4 y5 y6 T = some (T', .inr (nI n0)) := by
    unfold h_11016
    rw [gd_e h.1.1, g40', bXp_some, hx, gd_e hE.2.2.1, g2002 hE, bP_some, if_pos (by rw [hn0, i_lt, nI_T (by omega), show (8 : Int32).toInt = 8 by decide]; omega), bS_eq, gd_e tK_new, k1, bOv_some, gd_e k2, k3, bOv_some]
    exact p1
  refine ⟨T', m', hh, ⟨_, _, _, _, _, _, _, _, _, q1, q2, q3, q4, ⟨q5, q6, q7, q8⟩, k6⟩, by omega, fun g hg => (p4.2 g hg).trans (by rw [eJ 0 (by decide)]), fun k => ?_, fun k => ?_, fun k => ?_, fun k => ?_, fun k => ?_, fun k => ?_, fun J hJ => (p4.1 J (by omega) (by omega) (by omega) (by omega)).trans (eJ J (by omega))⟩
  · rw [p4.1 39 (by decide) (by decide) (by decide) (by decide), e39]
  · rw [p4.1 40 (by decide) (by decide) (by decide) (by decide), e40]
  · rw [p4.1 41 (by decide) (by decide) (by decide) (by decide), e41]
  · rw [p4.1 42 (by decide) (by decide) (by decide) (by decide), e42]
  · rw [p4.1 43 (by decide) (by decide) (by decide) (by decide), e43]
  · rw [p4.1 44 (by decide) (by decide) (by decide) (by decide), e44]
theorem c_addTsF {y1 y2 y3 y4 y5 y6 : Int32} (h : SInv x T m tx es ts as ps txs ss pd own) (hJ : j < es.length) (c8 : ¬ (ts j).length < 8) (hb : (1 ≤ y1.toInt ∧ y1.toInt ≤ 10) ∧ 0 ≤ y4.toInt ∧ y4.toInt ≤ 2) : h_11016 x (nI j) y1 y2 y3 y4 y5 y6 T = some (T, .inl 3) := by
  have h4 := h.2.2.2.1.2.1
  have i10 : (10 : Int32).toInt = 10 := by decide
  have i2 : (2 : Int32).toInt = 2 := by decide
  have ejT : (nI j).toInt = j := nI_T (by omega)
  have g40' : h_11040 x (nI j) T = some (.inr (gNl es j)) := by rw [g40 h, if_pos (by omega), ejT, Int.toNat_natCast]
  have hE := h.2.2.2.1.2.2.2 j hJ
  have t8 := hE.2.2.2.2.2.2.1
  have hx : ∀ {α : Type} (X Y : α), (if y1 < 1 then X else if 10 < y1 then X else if y4 < 0 then X else if y4 ≤ 2 then Y else X) = Y := fun X Y => by
    rw [if_neg (by rw [i_lt, i_1]; omega), if_neg (by rw [i_lt, i10]; omega), if_neg (by rw [i_lt, i_0]; omega), if_pos (by rw [i_le, i2]; omega)]
  unfold h_11016
  rw [gd_e h.1.1, g40', bXp_some, hx, gd_e hE.2.2.1, g2002 hE, bP_some, if_neg (by rw [i_lt, nI_T (by omega), show (8 : Int32).toInt = 8 by decide]; omega)]
theorem c_addTsG (h : SInv x T m tx es ts as ps txs ss pd own) (hJ : j < es.length) : h_11016 x (nI j) 0 0 0 0 0 0 T = some (T, .inl 1) ∧ h_11016 x (nI j) 1 0 0 3 0 0 T = some (T, .inl 1) ∧ h_11016 x (nI es.length) 0 0 0 0 0 0 T = some (T, .inl 2) := by
  have h4 := h.2.2.2.1.2.1
  have ejT : (nI j).toInt = j := nI_T (by omega)
  have enT : (nI es.length).toInt = es.length := nI_T (by omega)
  have g40' : h_11040 x (nI j) T = some (.inr (gNl es j)) := by rw [g40 h, if_pos (by omega), ejT, Int.toNat_natCast]
  refine ⟨?_, ?_, ?_⟩
  · unfold h_11016
    rw [gd_e h.1.1, g40', bXp_some, if_pos (by decide)]
  · unfold h_11016
    rw [gd_e h.1.1, g40', bXp_some, if_neg (by decide), if_neg (by decide), if_neg (by decide), if_neg (by decide)]
  · unfold h_11016
    rw [gd_e h.1.1, g40 h, if_neg (by omega)]
    rfl
end AD2
