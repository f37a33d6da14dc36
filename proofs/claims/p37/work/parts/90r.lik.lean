/-! the school: parts, common parts, likeness, doubt -/
section LIK
variable {x : Nat} {T T' : Tx} {m m' m1 m2 : Mx} {tx : List Int32} {es es' : List Nat} {ts ts' : Nat → List Nat} {as : List Nat} {ps : Nat → Nat} {txs : Nat → List Int32} {ss : Nat → Sx} {pd : Nat} {own : Nat → Nat} {v w : Int32} {i j k : Nat}
/-- the reference reads an answer again -/
theorem SInv.rdA (h : SInv x T m tx es ts as ps txs ss pd own) (hi : i < as.length) : ∃ m' I c d, f_12072 (nI i) m = some m' ∧ FrL m m' ∧ m' 0 9 = 0 ∧ PgC (ss i) I c d ∧ PgM (ss i) I c d m' ∧ TkO (ss i) I := by
  obtain ⟨a1, a2, a3, a4, b1, a5, c1, d1, ⟨g1, g2, g3, g4, g5⟩, d3, _⟩ := h.2.2.2.2.1.2.2.2 i hi
  obtain ⟨m1, k1, k2, k3⟩ := ld_an g1 g2 g3 g4 g5
  obtain ⟨m', I, c, d, e1, e2, e3, e4, e5, e6, e7, e8⟩ := d3.go g2 k1
  exact ⟨m', I, c, d, k2.trans e1, k3 m' e2, e3, e6, e7, e8⟩
theorem SInv.Pb (h : SInv x T m tx es ts as ps txs ss pd own) (hi : i < as.length) : Pb (ss i) := by
  obtain ⟨m', I, c, d, h1, h2, h3, h4, h5, h6⟩ := h.rdA hi
  exact Pb.of h4 h5 h6
theorem FrX.ms (h : FrX m m') : MSm m m' := by
  refine ⟨fun j h0 hj => h.1 j h0 (by omega), fun f hf => ?_⟩
  rcases hf with e | e | e | e | e | e <;> subst e <;> exact h.2 _ (by decide) (by decide) (by decide)
theorem FrX.f82 (h : FrX m m') : m' 0 82 = m 0 82 := h.2 _ (by decide) (by decide) (by decide)
theorem FrX.tr (h : FrX m m1) (h' : FrX m1 m2) : FrX m m2 := ⟨fun j h0 hj => (h'.1 j h0 hj).trans (h.1 j h0 hj), fun f h1 h2 h3 => (h'.2 f h1 h2 h3).trans (h.2 f h1 h2 h3)⟩
/-- the reference counts what two answers have in common -/
theorem SInv.cmR (h : SInv x T m tx es ts as ps txs ss pd own) (hi : i < as.length) (hk : k < as.length) : ∃ m', FrX m m' ∧ m' 0 16 = nI ((ss i).1 5).length ∧ m' 0 44 = nI ((ss k).1 5).length ∧ f_12106 (nI i) (nI k) m = some (m', nI (gi (ss i) (ss k))) := by
  obtain ⟨a1, a2, a3, a4, b1, a5, c1, d1, d2, d3, _⟩ := h.2.2.2.2.1.2.2.2 i hi
  obtain ⟨a1', a2', a3', a4', b1', a5', c1', d1', d2', d3', _⟩ := h.2.2.2.2.1.2.2.2 k hk
  obtain ⟨m', g1, g2, g3, g4, g5, g6, g7⟩ := sh_ref d2 d2' d3 d3'
  obtain ⟨_, I, c, d, _, _, _, p4, p5, p6⟩ := h.rdA hi
  obtain ⟨_, I', c', d', _, _, _, q4, q5, q6⟩ := h.rdA hk
  rw [gi_wm p4 p5 p6 q4 q5 q6] at g7
  exact ⟨m', g1, g2, g3, g7⟩
theorem g46 (h : SInv x T m tx es ts as ps txs ss pd own) (hi : i < as.length) (hk : k < as.length) : h_11046 x (nI i) (nI k) T = some (.inr (nI (gi (ss i) (ss k)))) := by
  have h30 := h.2.2.2.2.1.2.1
  have key : ∀ a b, a < as.length → b ≤ a → gd (tK T (gNl as a) = 2) (bP (tW T (gNl as a) 6) fun r2 => gd (tK T r2 = 7) (some (Sum.inr (α := Nat) (xg (tB T r2) (nI b))))) = some (.inr (nI (gi (ss a) (ss b)))) := by
    intro a b ha hb
    obtain ⟨a1, a2, a3, a4, b1, a5, c1, d1, d2, d3, _, ⟨f1, f2, f3⟩⟩ := h.2.2.2.2.1.2.2.2 a ha
    rw [gd_e a3, c1.2.2.2.2.1, bP_some, gd_e c1.2.2.2.2.2.1, xg_at (by rw [nI_T (by omega)]; omega), nI_T (by omega)]
    show some (Sum.inr ((tB T (gNl as a + 5)).getD b 0)) = _
    by_cases e : b = a
    · subst e
      rw [f2, gi_self (h.Pb ha)]
    · rw [f3 b (by omega)]
      rfl
  have l1 : nI i < nI k ↔ i < k := by rw [i_lt, nI_T (by omega), nI_T (by omega)]; omega
  have l2 : nI k < nI i ↔ k < i := by rw [i_lt, nI_T (by omega), nI_T (by omega)]; omega
  unfold h_11046
  by_cases c : i < k
  · rw [if_pos (l1.2 c), if_neg (fun q => by have := l2.1 q; omega), gd_e h.1.1, g39 h, if_pos (by rw [nI_T (by omega)]; omega), bXn_some, nI_T (by omega)]
    rw [gi_comm (h.Pb hi) (h.Pb hk)]
    exact key k i hk (by omega)
  · rw [if_neg (fun q => c (l1.1 q)), gd_e h.1.1, g39 h, if_pos (by rw [nI_T (by omega)]; omega), bXn_some, nI_T (by omega)]
    by_cases c' : k < i
    · rw [if_pos (l2.2 c')]
      exact key i k hi (by omega)
    · have : i = k := by omega
      subst this
      rw [if_neg (fun q => c' (l2.1 q))]
      exact key i i hi (by omega)
theorem SInv.prt (h : SInv x T m tx es ts as ps txs ss pd own) (hi : i < as.length) : tW T (gNl as i) 2 = some (ps i) ∧ tK T (ps i) = 5 ∧ h_4004 (ps i) T = some (nI ((ss i).1 5).length) ∧ tK T (gNl as i) = 2 := by
  obtain ⟨a1, a2, a3, a4, b1, _⟩ := h.2.2.2.2.1.2.2.2 i hi
  exact ⟨b1.1, b1.2.1.1, g4004 b1.2.1 b1.2.2.2, a3⟩
theorem in_as (h : SInv x T m tx es ts as ps txs ss pd own) (hi : i < as.length) : 0 ≤ (nI i).toInt ∧ (nI i).toInt < as.length := by
  have h30 := h.2.2.2.2.1.2.1
  rw [nI_T (by omega)]
  omega
theorem g39n (h : SInv x T m tx es ts as ps txs ss pd own) (hi : i < as.length) : h_11039 x (nI i) T = some (.inr (gNl as i)) := by
  have h30 := h.2.2.2.2.1.2.1
  rw [g39 h, if_pos (in_as h hi), nI_T (by omega)]
  rfl
theorem lik (h : SInv x T m tx es ts as ps txs ss pd own) (hi : i < as.length) (hk : k < as.length) : ∃ m' L, FrX m m' ∧ h_11047 x (nI i) (nI k) T = some (.inr L) ∧ f_12107 (nI i) (nI k) m = some (m', L) := by
  obtain ⟨m', g1, g2, g3, g4⟩ := h.cmR hi hk
  obtain ⟨p1, p2, p3, p4⟩ := h.prt hi
  obtain ⟨q1, q2, q3, q4⟩ := h.prt hk
  refine ⟨m', if nI ((ss i).1 5).length + nI ((ss k).1 5).length = 0 then 0 else 200 * nI (gi (ss i) (ss k)) / (nI ((ss i).1 5).length + nI ((ss k).1 5).length), g1, ?_, ?_⟩
  · unfold h_11047
    rw [gd_e h.1.1, g39n h hi, bXn_some, gd_e p4, p1, bP_some, gd_e p2, p3, bP_some, gd_e h.1.1, g39n h hk, bXn_some, gd_e q4, q1, bP_some, gd_e q2, q3, bP_some]
    by_cases c : nI ((ss i).1 5).length + nI ((ss k).1 5).length = 0
    · rw [if_pos c, if_pos c]
    · rw [if_neg c, if_neg c, gd_e h.1.1, g46 h hi hk, bXn_some, gd_e c]
  · unfold f_12107
    rw [g4, bO_some, show mf m' 16 = nI ((ss i).1 5).length from g2, show mf m' 44 = nI ((ss k).1 5).length from g3]
    by_cases c : nI ((ss i).1 5).length + nI ((ss k).1 5).length = 0
    · rw [if_pos c, if_pos c]
    · rw [if_neg c, if_neg c, gd_e c]
theorem nI_le' {a b : Nat} (ha : a < 90000) (hb : b < 90000) : nI a ≤ nI b ↔ a ≤ b := nI_leI (by omega) (by omega)
/-- is there a doubt -/
theorem sus (h : SInv x T m tx es ts as ps txs ss pd own) (hi : i < as.length) (hk : k < as.length) : ∃ m' r, FrX m m' ∧ h_11048 x (nI i) (nI k) T = some (.inr r) ∧ f_12111 (nI i) (nI k) m = some (m', r) ∧ (r = 0 ∨ r = 1) := by
  have h30 := h.2.2.2.2.1.2.1
  obtain ⟨j, j1, j2, j3, a1, a2, a3, a4, a5, a6, a7, a8, a9, ⟨a0, _⟩, b1⟩ := h.an hi
  obtain ⟨j', j1', j2', j3', a1', a2', a3', a4', a5', a6', a7', a8', a9', ⟨a0', _⟩, b1'⟩ := h.an hk
  have r0 : FrX m m := ⟨fun _ _ _ => rfl, fun _ _ _ _ => rfl⟩
  have e46 : mg m 46 (nI i) = m 46 i := mg_n (by omega)
  have e46' : mg m 46 (nI k) = m 46 k := mg_n (by omega)
  have e47 : mg m 47 (nI i) = nI j := by rw [mg_n (by omega)]; exact a4
  have e47' : mg m 47 (nI k) = nI j' := by rw [mg_n (by omega)]; exact a4'
  have hh : h_11048 x (nI i) (nI k) T = if nI i ≤ nI k then some (.inr 0) else if m 46 i = m 46 k then some (.inr 0) else if nI j = nI j' then (bXn (h_11047 x (nI i) (nI k) T) fun r8 => if r8 < 80 then some (.inr 0) else gd (tK T x = 12) <| bXn (h_11046 x (nI i) (nI k) T) fun r10 => if r10 < 3 then some (.inr 0) else some (.inr 1)) else some (.inr 0) := by
    unfold h_11048
    rw [gd_e h.1.1, g39n h hi, bXn_some, gd_e h.1.1, g39n h hk, bXn_some, gd_e a1, gd_e a1', a0, a0', gd_e a1, a2, bP_some, gd_e a3.2.2.1, gd_e a1', a2', bP_some, gd_e a3'.2.2.1, b1, b1', gd_e h.1.1]
  have hf : f_12111 (nI i) (nI k) m = if nI i ≤ nI k then some (m, 0) else if m 46 i = m 46 k then some (m, 0) else if nI j = nI j' then f_12111_J40 (nI i) (nI k) 1 m else some (m, 0) := by
    unfold f_12111 f_12111_J39
    have z : f_12111_J40 (nI i) (nI k) 0 m = some (m, 0) := by unfold f_12111_J40; rw [if_pos rfl]
    rw [z, gd_e (vi_n (by omega) (by omega)), gd_e (vi_n (by omega) (by omega)), gd_e (vi_n (by omega) (by omega)), gd_e (vi_n (by omega) (by omega)), e46, e46', e47, e47']
  rw [hh, hf]
  by_cases c1 : nI i ≤ nI k
  · rw [if_pos c1, if_pos c1]
    exact ⟨m, 0, r0, rfl, rfl, Or.inl rfl⟩
  rw [if_neg c1, if_neg c1]
  by_cases c2 : m 46 i = m 46 k
  · rw [if_pos c2, if_pos c2]
    exact ⟨m, 0, r0, rfl, rfl, Or.inl rfl⟩
  rw [if_neg c2, if_neg c2]
  by_cases c3 : nI j = nI j'
  · rw [if_pos c3, if_pos c3]
    obtain ⟨m1, L, g1, g2, g3⟩ := lik h hi hk
    unfold f_12111_J40
    rw [if_neg (by decide), g2, g3, bXn_some, bO_some]
    by_cases c4 : L < 80
    · rw [if_pos c4, if_pos c4]
      exact ⟨m1, 0, g1, rfl, rfl, Or.inl rfl⟩
    · have h1 := h.mm g1.ms
      obtain ⟨m2, k1, k2, k3, k4⟩ := h1.cmR hi hk
      rw [if_neg c4, if_neg c4, gd_e h.1.1, g46 h hi hk, k4, bXn_some, bO_some]
      by_cases c5 : nI (gi (ss i) (ss k)) < 3
      · rw [if_pos c5, if_pos c5]
        exact ⟨m2, 0, g1.tr k1, rfl, rfl, Or.inl rfl⟩
      · rw [if_neg c5, if_neg c5]
        exact ⟨m2, 1, g1.tr k1, rfl, rfl, Or.inr rfl⟩
  · rw [if_neg c3, if_neg c3]
    exact ⟨m, 0, r0, rfl, rfl, Or.inl rfl⟩
end LIK
