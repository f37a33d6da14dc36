/-! the school: a test is withdrawn -/
section WDR
variable {x : Nat} {T T' : Tx} {m m' m1 m2 : Mx} {tx : List Int32} {es es' : List Nat} {ts ts' : Nat → List Nat} {as : List Nat} {ps : Nat → Nat} {txs : Nat → List Int32} {ss : Nat → Sx} {pd : Nat} {own : Nat → Nat} {v w : Int32} {i j k : Nat}
theorem tsB2 {y : Nat} {l l' : List Int32} : tsB (tsB T y l) y l' = tsB T y l' := by
  unfold tsB
  have : u1 (u1 (tB T) y l) y l' = u1 (tB T) y l' := by
    funext b
    by_cases e : b = y
    · subst e; rw [u1_s, u1_s]
    · rw [u1_n _ _ e, u1_n _ _ e, u1_n _ _ e]
  show (tK T, tC T, u1 (u1 (tB T) y l) y l', tV T, tW T, tA T, tZ T) = _
  rw [this]
/-- a row that only marks pass through -/
theorem SInv.row {y : Nat} {l : List Int32} (h : SInv x T m tx es ts as ps txs ss pd own) (hy : y = x + 70 ∨ y = x + 72) : SInv x (tsB T y l) m tx es ts as ps txs ss pd own := by
  have g : ∀ b, b ≠ y → Agr T (tsB T y l) b := fun b hb => Agr.B hb
  obtain ⟨d1, d2⟩ := h.dyn (T' := tsB T y l) (Nat.le_refl _) ⟨rfl, rfl⟩ (fun a h1 h2 h3 => g a (by omega))
  obtain ⟨a1, ⟨⟨b1, b1'⟩, b2, b3, b4, b5, b6, b7⟩, a3, a4, a5, a6⟩ := h
  refine ⟨a1, ⟨⟨by rw [(g _ (by omega)).2.2.2.2.1]; exact b1, b1'⟩, b2, b3, b4, ?_, b6, by rw [(g _ (by omega)).2.2.2.2.1]; exact b7⟩, a3.of (g _ (by omega)).2.2.2.2.1 (g _ (by omega)).2.2.2.2.1 rfl rfl, d1, d2, a6⟩
  rcases b5 with w | ⟨w, s0, s1, z1, z2, z3, z4⟩
  · exact Or.inl w
  · exact Or.inr ⟨w, s0, s1, z1, z2, z3, z4.agr (fun k hk => g _ (by omega))⟩
/-- a test's cell is its own -/
theorem SInv.nt (h : SInv x T m tx es ts as ps txs ss pd own) (hj : j < es.length) (hk : k < (ts j).length) : (∀ i', i' < as.length → ∀ q, q < 7 → gNl as i' + q ≠ gNl (ts j) k) ∧ (∀ p, p = pd ∨ (∃ i', i' < as.length ∧ p = ps i') → ∀ q, q < 28 → p + q ≠ gNl (ts j) k) ∧ (∀ j', j' < es.length → gNl es j' ≠ gNl (ts j) k ∧ gNl es j' + 1 ≠ gNl (ts j) k) ∧ ∀ j', j' < es.length → ∀ k', k' < (ts j').length → 8 * j' + k' ≠ 8 * j + k → gNl (ts j') k' ≠ gNl (ts j) k := by
  obtain ⟨o1, o2, o3, o4⟩ := h.2.2.2.2.2
  obtain ⟨l1, l2, l3, l4, l5⟩ := h.low
  have e := o4 j hj k hk
  have l := ((l1 j hj).2.2 k hk).1
  refine ⟨fun i' hi' q hq q' => ?_, fun p hp q hq q' => ?_, fun j' hj' => ⟨fun q' => ?_, fun q' => ?_⟩, fun j' hj' k' hk' hn q' => ?_⟩
  · have := o1 i' hi' q hq
    rw [q', e] at this
    omega
  · have hp' : p = x + 3 ∨ x + 74 ≤ p := by
      rcases hp with z | ⟨i', hi', z⟩
      · rw [z]; exact l3
      · rw [z]; exact (l2 i' hi').2.2.1
    rcases hp' with z | z
    · omega
    · have := o2 p hp z q hq
      rw [q', e] at this
      omega
  · have := (o3 j' hj').1
    rw [q', e] at this
    omega
  · have := (o3 j' hj').2
    rw [q', e] at this
    omega
  · have := o4 j' hj' k' hk'
    rw [q', e] at this
    omega
theorem ExR.m44 {e i : Nat} {tl : List Nat} (h : ExR x T m e i tl) (hj : ∀ j, j ≠ 44 → m' j = m j) (h44 : ∀ k, k < tl.length → m' 44 (8 * i + k) = m 44 (8 * i + k)) : ExR x T m' e i tl := by
  obtain ⟨b1, b2, b3, b4, b5, b6, b7, b8, b9, c0, c1, c2, c3, c4⟩ := h
  refine ⟨b1, b2, b3, b4, b5, b6, b7, b8, by rw [hj 37 (by decide)]; exact b9, by rw [hj 37 (by decide)]; exact c0, by rw [hj 38 (by decide)]; exact c1, by rw [hj 38 (by decide)]; exact c2, by rw [hj 39 (by decide)]; exact c3, fun k hk => ⟨(c4 k hk).1, ?_⟩⟩
  have := (c4 k hk).2
  unfold TstR at this ⊢
  rw [hj 40 (by decide), hj 41 (by decide), hj 42 (by decide), hj 43 (by decide), h44 k hk]
  exact this
theorem AnI.of44 (h : AnI x T m es ts as ps txs ss) (h0 : m' 0 = m 0) (hj : ∀ j, j ≠ 44 → m' j = m j) : AnI x T m' es ts as ps txs ss := by
  unfold AnI AnR TxA at h ⊢
  rw [h0, hj 2 (by decide), hj 37 (by decide), hj 41 (by decide), hj 42 (by decide), hj 43 (by decide), hj 45 (by decide), hj 46 (by decide), hj 47 (by decide), hj 48 (by decide), hj 49 (by decide), hj 50 (by decide), hj 51 (by decide)]
  exact h
/-- a test is withdrawn -/
theorem SInv.wdr (h : SInv x T m tx es ts as ps txs ss pd own) (hJ : j < es.length) (hk : k < (ts j).length) (h44 : ∀ q, m' 44 q = if q = 8 * j + k then 1 else m 44 q) (hj : ∀ j, j ≠ 44 → m' j = m j) : SInv x (tsV T (gNl (ts j) k) 6 1) m' tx es ts as ps txs ss pd own := by
  obtain ⟨l1, l2, l3, l4, l5⟩ := h.low
  obtain ⟨n1, n2, n3, n4⟩ := h.nt hJ hk
  have z := ((l1 j hJ).2.2 k hk).1
  have g : ∀ b, b ≠ gNl (ts j) k → Agr T (tsV T (gNl (ts j) k) 6 1) b := fun b hb => Agr.V hb
  have h0 : m' 0 = m 0 := hj 0 (by decide)
  obtain ⟨o1, o2, o3⟩ := h.old (T' := tsV T (gNl (ts j) k) 6 1) (Nat.le_refl _) (fun a h1 h2 h3 => g a (by
    rcases h1 with h1 | h1
    · omega
    · intro q
      exact n2 pd (Or.inl rfl) (a - pd) (by omega) (by omega))) (fun a ha => ⟨rfl, rfl⟩)
  have hE := h.2.2.2.1
  refine ⟨o1, o2.mm (by rw [h0]) (hj 1 (by decide)), o3.mm (by rw [h0]) (by rw [h0]) (by rw [h0]) (hj 35 (by decide)) (hj 36 (by decide)), ⟨by rw [h0]; exact hE.1, hE.2.1, hE.2.2.1, fun j' hj' => ?_⟩, (h.2.2.2.2.1.agr (T' := tsV T (gNl (ts j) k) 6 1) (Nat.le_refl _) rfl (fun i' hi' => ⟨fun q hq => g _ (n1 i' hi' q hq), fun q hq => g _ (n2 _ (Or.inr ⟨i', hi', rfl⟩) q hq)⟩)).of44 h0 hj, h.2.2.2.2.2⟩
  obtain ⟨b1, b2, b3, b4, b5, b6, b7, b8, b9, c0, c1, c2, c3, c4⟩ := hE.2.2.2 j' hj'
  have g1 := g _ (n3 j' hj').1
  refine ⟨b1, b2, b3, b4, b5, b6, b7, by rw [g1.2.2.2.2.2]; exact b8, by rw [g1.2.2.2.2.2, hj 37 (by decide)]; exact b9, by rw [hj 37 (by decide)]; exact c0, by rw [g1.2.2.2.2.2, hj 38 (by decide)]; exact c1, by rw [hj 38 (by decide)]; exact c2, by rw [hj 39 (by decide)]; exact c3, fun k' hk' => ⟨(c4 k' hk').1, ?_⟩⟩
  have hT := (c4 k' hk').2
  by_cases e : 8 * j' + k' = 8 * j + k
  · have t8 := (hE.2.2.2 j hJ).2.2.2.2.2.2.1
    have e1 : j' = j := by omega
    subst e1
    have e2 : k' = k := by omega
    subst e2
    have vo : ∀ f, f ≠ 6 → tV (tsV T (gNl (ts j') k') 6 1) (gNl (ts j') k') f = tV T (gNl (ts j') k') f := fun f hf => tV_n (Or.inr hf)
    unfold TstR at hT ⊢
    rw [vo 0 (by decide), vo 1 (by decide), vo 2 (by decide), vo 3 (by decide), vo 4 (by decide), vo 5 (by decide), tV_s, hj 40 (by decide), hj 41 (by decide), hj 42 (by decide), hj 43 (by decide), h44, if_pos rfl]
    obtain ⟨y1, y2, y3, y4, y5, y6, y7, y8, y9, z0, z1, z2⟩ := hT
    exact ⟨y1, y2, y3, y4, y5, y6, y7, y8, y9, z0, rfl, Or.inr rfl⟩
  · have := hT.agr (T' := tsV T (gNl (ts j) k) 6 1) (Nat.le_refl _) (g _ (n4 j' hj' k' hk' e))
    unfold TstR at this ⊢
    rw [hj 40 (by decide), hj 41 (by decide), hj 42 (by decide), hj 43 (by decide), h44, if_neg e]
    exact this
end WDR
