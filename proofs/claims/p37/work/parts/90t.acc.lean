/-! the school: doubt, accuse, clear -/
section ACC
variable {x : Nat} {T T' : Tx} {m m' m1 m2 : Mx} {tx : List Int32} {es es' : List Nat} {ts ts' : Nat → List Nat} {as : List Nat} {ps : Nat → Nat} {txs : Nat → List Int32} {ss : Nat → Sx} {pd : Nat} {own : Nat → Nat} {v w : Int32} {i j k : Nat}
def asc (D : Nat → Int32) (d : Int32) : Nat → Nat → Int32
  | 0, _ => d
  | q + 1, l => if D l = 0 then asc D d q (l + 1) else nI l
theorem asc_s {D : Nat → Int32} {d : Int32} : ∀ (q l : Nat), asc D d (q + 1) l = asc D (if D (l + q) = 0 then d else nI (l + q)) q l := by
  intro q
  induction q with
  | zero => intro l; rfl
  | succ q ih =>
    intro l
    rw [asc, ih, asc, show l + 1 + q = l + (q + 1) by omega]
/-- the class looks from below -/
theorem dbt_c {D : Nat → Int32} (h : SInv x T m tx es ts as ps txs ss pd own) (hi : i < as.length) (hD : ∀ k, k < as.length → h_11048 x (nI i) (nI k) T = some (.inr (D k))) : ∀ (q n l bc bs : Nat), l + q = i → q < n → 12 * q ≤ bc → 72 * q ≤ bs → h_11034_L7 n x (nI i) (nI l) bc bs T = some (.inr (asc D (-1) q l)) := by
  obtain ⟨t1, t2, t3, t4, t5, t6⟩ := h.ans
  intro q
  induction q with
  | zero =>
    intro n l bc bs hl hn _ _
    obtain ⟨n, rfl⟩ : ∃ q, n = q + 1 := ⟨n - 1, by omega⟩
    rw [h_11034_L7, if_pos ((nI_le' (by omega) (by omega)).2 (by omega))]
    rfl
  | succ q ih =>
    intro n l bc bs hl hn h1 h2
    obtain ⟨n, rfl⟩ : ∃ q, n = q + 1 := ⟨n - 1, by omega⟩
    rw [h_11034_L7, if_neg (fun z => by have := (nI_le' (by omega) (by omega)).1 z; omega), gd_e t6, t1, bP_some, gd_e t2, t3, if_neg (fun z => by have := (nI_le' (by omega) (by omega)).1 z; omega), gd_e t6, gd_e ⟨by omega, by omega⟩, hD l (by omega), bXn_some, nI_p1 (by omega), asc]
    by_cases c : D l = 0
    · rw [if_pos c, if_pos c]
      exact ih n (l + 1) _ _ (by omega) (by omega) (by omega) (by omega)
    · rw [if_neg c, if_neg c]
/-- the reference looks from above -/
theorem dbt_m {D : Nat → Int32} (h : SInv x T m tx es ts as ps txs ss pd own) (hi : i < as.length) (hD : ∀ k, k < as.length → h_11048 x (nI i) (nI k) T = some (.inr (D k))) : ∀ (q n : Nat) (l : Int32) (m1 : Mx), q ≤ i → q < n → FrX m m1 → ∃ m', FrX m m' ∧ f_12114_L22 n (nI i) l (nI q - 1) m1 = some (m', asc D l q 0) := by
  have h30 := h.2.2.2.2.1.2.1
  intro q
  induction q with
  | zero =>
    intro n l m1 hq hn hm
    obtain ⟨n, rfl⟩ : ∃ q, n = q + 1 := ⟨n - 1, by omega⟩
    refine ⟨m1, hm, ?_⟩
    rw [f_12114_L22, if_pos (by decide)]
    rfl
  | succ q ih =>
    intro n l m1 hq hn hm
    obtain ⟨n, rfl⟩ : ∃ q, n = q + 1 := ⟨n - 1, by omega⟩
    obtain ⟨m2, r, g1, g2, g3, g4⟩ := sus (h.mm hm.ms) hi (k := q) (by omega)
    have er : r = D q := by
      rw [hD q (by omega)] at g2
      injection g2 with g2
      injection g2 with g2
      exact g2.symm
    rw [nI_pp (by omega), f_12114_L22, if_neg (nI_nn (by omega)), g3, bO_some, er, nI_m1, asc_s, Nat.zero_add]
    by_cases c : D q = 0
    · rw [if_pos c, if_pos c]
      exact ih n l m2 (by omega) (by omega) (hm.tr g1)
    · rw [if_neg c, if_neg c]
      exact ih n (nI q) m2 (by omega) (by omega) (hm.tr g1)
theorem c_doubt (h : SInv x T m tx es ts as ps txs ss pd own) : SameR (h_11034 x v T) (f_12114 v m) cD (SINV x T) := by
  have hI : SINV x T m := ⟨_, _, _, _, _, _, _, _, _, h⟩
  have h30 := h.2.2.2.2.1.2.1
  have h01 : f_12090 v m = 0 ∨ f_12090 v m = 1 := in_01
  by_cases c : 0 ≤ v.toInt ∧ v.toInt < as.length
  · have ev := of_nI (v := v) c.1 (by omega)
    have hi : v.toInt.toNat < as.length := by omega
    have hD : ∃ D : Nat → Int32, ∀ k, k < as.length → h_11048 x (nI v.toInt.toNat) (nI k) T = some (.inr (D k)) := by
      have hx : ∀ k, ∃ r : Int32, k < as.length → h_11048 x (nI v.toInt.toNat) (nI k) T = some (.inr r) := fun k => by
        by_cases hk : k < as.length
        · obtain ⟨m2, r, g1, g2, g3, g4⟩ := sus h hi hk
          exact ⟨r, fun _ => g2⟩
        · exact ⟨0, fun z => absurd z hk⟩
      exact Classical.axiomOfChoice hx
    obtain ⟨D, hD⟩ := hD
    have p1 := dbt_c h hi hD v.toInt.toNat 100 0 359 2194 (by omega) (by omega) (by omega) (by omega)
    obtain ⟨m', p2, p3⟩ := dbt_m (h.m0 (u := 0)) hi hD v.toInt.toNat 1000 (-1) _ (Nat.le_refl _) (by omega) ⟨fun _ _ _ => rfl, fun _ _ _ _ => rfl⟩
    rw [← ev] at p1 p3
    have hh : h_11034 x v T = some (.inr (asc D (-1) v.toInt.toNat 0)) := by
      unfold h_11034
      rw [gd_e h.1.1, g38 h, if_pos c, bXn_some]
      exact p1
    have hf : f_12114 v m = some (m', asc D (-1) v.toInt.toNat 0) := by
      unfold f_12114
      rw [goes1 h01, f90 h, if_pos c, if_pos rfl, bT_eq, if_neg (by decide)]
      exact p3
    exact ⟨_, _, _, hh, hf, ⟨_, _, _, _, _, _, _, _, _, h.m0.mm p2.ms⟩, Or.inl ⟨_, rfl, p2.f82.trans mp_s, rfl⟩⟩
  · have hh : h_11034 x v T = some (.inl 2) := by
      unfold h_11034
      rw [gd_e h.1.1, g38 h, if_neg c]
      rfl
    have hf : f_12114 v m = some (mp m 82 1, 0) := by
      unfold f_12114
      rw [goes1 h01, f90 h, if_neg c, if_neg (by decide), bT_eq, if_pos rfl]
    exact ⟨_, _, _, hh, hf, hI.mm m82, Or.inr ⟨2, rfl, by decide, mp_s⟩⟩
/-- an answer's cells are its own -/
theorem SInv.na (h : SInv x T m tx es ts as ps txs ss pd own) (hi : i < as.length) {q : Nat} (hq : q < 7) : (∀ i', i' < as.length → i' ≠ i → ∀ k, k < 7 → gNl as i' + k ≠ gNl as i + q) ∧ (∀ p, p = pd ∨ (∃ i', i' < as.length ∧ p = ps i') → ∀ k, k < 28 → p + k ≠ gNl as i + q) ∧ (∀ j, j < es.length → gNl es j ≠ gNl as i + q ∧ gNl es j + 1 ≠ gNl as i + q) ∧ ∀ j, j < es.length → ∀ k, k < (ts j).length → gNl (ts j) k ≠ gNl as i + q := by
  obtain ⟨o1, o2, o3, o4⟩ := h.2.2.2.2.2
  obtain ⟨l1, l2, l3, l4, l5⟩ := h.low
  have e := o1 i hi q hq
  have l := (l2 i hi).1
  refine ⟨fun i' hi' hn k hk q' => ?_, fun p hp k hk q' => ?_, fun j hj => ⟨fun q' => ?_, fun q' => ?_⟩, fun j hj k hk q' => ?_⟩
  · have := o1 i' hi' k hk
    rw [q', e] at this
    omega
  · have hp' : p = x + 3 ∨ x + 74 ≤ p := by
      rcases hp with z | ⟨i', hi', z⟩
      · rw [z]; exact l3
      · rw [z]; exact (l2 i' hi').2.2.1
    rcases hp' with z | z
    · omega
    · have := o2 p hp z k hk
      rw [q', e] at this
      omega
  · have := (o3 j hj).1
    rw [q', e] at this
    omega
  · have := (o3 j hj).2
    rw [q', e] at this
    omega
  · have := o4 j hj k hk
    rw [q', e] at this
    omega
/-- an answer is struck, or not any more -/
theorem SInv.stk {u : Int32} (h : SInv x T m tx es ts as ps txs ss pd own) (hi : i < as.length) (hu : u = 0 ∨ u = 1) (h49 : ∀ k, m' 49 k = if k = i then u else m 49 k) (hj : ∀ j, j ≠ 49 → m' j = m j) : SInv x (tsV T (gNl as i) 7 u) m' tx es ts as ps txs ss pd own := by
  obtain ⟨l1, l2, l3, l4, l5⟩ := h.low
  obtain ⟨n1, n2, n3, n4⟩ := h.na hi (q := 0) (by omega)
  have z := (l2 i hi).1
  have g : ∀ b, b ≠ gNl as i → Agr T (tsV T (gNl as i) 7 u) b := fun b hb => Agr.V hb
  obtain ⟨o1, o2, o3⟩ := h.old (T' := tsV T (gNl as i) 7 u) (Nat.le_refl _) (fun a h1 h2 h3 => g a (by
    rcases h1 with h1 | h1
    · omega
    · intro q
      exact n2 pd (Or.inl rfl) (a - pd) (by omega) (by omega))) (fun a ha => ⟨rfl, rfl⟩)
  have h0 : m' 0 = m 0 := hj 0 (by decide)
  refine ⟨o1, o2.mm (by rw [h0]) (hj 1 (by decide)), o3.mm (by rw [h0]) (by rw [h0]) (by rw [h0]) (hj 35 (by decide)) (hj 36 (by decide)), ?_, ?_, h.2.2.2.2.2⟩
  · exact (h.2.2.2.1.agr (T' := tsV T (gNl as i) 7 u) (Nat.le_refl _) rfl (fun j hj' => ⟨g _ (n3 j hj').1, g _ (n3 j hj').2, fun k hk => g _ (n4 j hj' k hk)⟩)).mm (by rw [h0]) (fun j g1 g2 => hj j (by omega))
  · obtain ⟨b1, b2, b3, b4⟩ := h.2.2.2.2.1
    have J : ∀ j, j ≠ 49 → m' j = m j := hj
    refine ⟨by rw [h0]; exact b1, b2, b3, fun i' hi' => ?_⟩
    by_cases e : i' = i
    · subst e
      obtain ⟨a1, a2, a3, a4, ⟨c1, c2, c3, c4⟩, a5, ⟨d1, d2, d3, d4, d5, d6⟩, d7, d8, d9, ⟨j, e1, e2, e3, e4, e5, e6⟩, f1⟩ := b4 i' hi'
      have gp : ∀ k, k < 28 → Agr T (tsV T (gNl as i') 7 u) (ps i' + k) := fun k hk => g _ (n2 _ (Or.inr ⟨i', hi', rfl⟩) k hk)
      have v7 : ∀ f, f ≠ 7 → tV (tsV T (gNl as i') 7 u) (gNl as i') f = tV T (gNl as i') f := fun f hf => tV_n (Or.inr hf)
      refine ⟨a1, a2, a3, by rw [v7 0 (by decide), J 46 (by decide)]; exact a4, ⟨c1, c2.agr (Nat.le_refl _) gp, c3, c4.agr gp⟩, by rw [v7 3 (by decide), J 48 (by decide)]; exact a5, ⟨d1, d2, d3, d4, d5, d6⟩, ⟨by rw [tV_s, h49, if_pos rfl], by rw [h49, if_pos rfl]; exact hu⟩, d8.of (J 45 (by decide)) (J 2 (by decide)), d9, ⟨j, e1, by rw [J 47 (by decide)]; exact e2, e3, e4, e5, ?_⟩, f1⟩
      rw [J 37 (by decide), J 41 (by decide), J 42 (by decide), J 43 (by decide), J 50 (by decide), J 51 (by decide)]
      exact e6
    · have hA := (b4 i' hi').agr (T' := tsV T (gNl as i) 7 u) (Nat.le_refl _) (fun k hk => g _ (n1 i' hi' e k hk)) (fun k hk => g _ (n2 _ (Or.inr ⟨i', hi', rfl⟩) k hk))
      unfold AnR TxA at hA ⊢
      rw [J 2 (by decide), J 37 (by decide), J 41 (by decide), J 42 (by decide), J 43 (by decide), J 45 (by decide), J 46 (by decide), J 47 (by decide), J 48 (by decide), J 50 (by decide), J 51 (by decide), h49 i', if_neg e]
      exact hA
theorem ms49 {u : Int32} (hi : i < 90000) : (∀ k, ms m 49 (nI i) u 49 k = if k = i then u else m 49 k) ∧ ∀ j, j ≠ 49 → ms m 49 (nI i) u j = m j :=
  ⟨fun k => by rw [ms_s (by omega)], fun j hj => ms_j hj⟩
theorem c_accuse (h : SInv x T m tx es ts as ps txs ss pd own) : SameT (h_11032 x v w T) (f_12112 v w m) cB (SINV x) := by
  have hI : SINV x T m := ⟨_, _, _, _, _, _, _, _, _, h⟩
  have h30 := h.2.2.2.2.1.2.1
  by_cases c : (0 ≤ v.toInt ∧ v.toInt < as.length) ∧ 0 ≤ w.toInt ∧ w.toInt < as.length
  · have hi : v.toInt.toNat < as.length := by omega
    have ev := of_nI (v := v) c.1.1 (by omega)
    have ew := of_nI (v := w) c.2.1 (by omega)
    obtain ⟨j, j1, j2, j3, a1, a2, a3, a4, a5, a6, a7, a8, a9, ⟨a0, _, _, b7⟩, b1⟩ := h.an hi
    have h01 := (h.2.2.2.2.1.2.2.2 _ hi).2.2.2.2.2.2.2.1.2
    have q1 : f_12090 v m = 1 := by rw [f90 h, if_pos c.1]
    have q2 : f_12090 w m = 1 := by rw [f90 h, if_pos c.2]
    have e49 : mg m 49 v = m 49 v.toInt.toNat := rfl
    by_cases c1 : m 49 v.toInt.toNat = 0
    · obtain ⟨m1, r, g1, g2, g3, g4⟩ := sus h hi (k := w.toInt.toNat) (by omega)
      rw [← ev, ← ew] at g2 g3
      have h1 := h.mm g1.ms
      by_cases c2 : r = 0
      · have hh : h_11032 x v w T = some (T, .inl 3) := by
          unfold h_11032
          rw [gd_e h.1.1, g39 h, if_pos c.1, bXp_some, gd_e h.1.1, g38 h, if_pos c.2, bXp_some, gd_e a1, b7, if_pos c1, gd_e h.1.1, g2, bXp_some, if_pos c2]
        have hf : f_12112 v w m = some (mp m1 82 2, 0) := by
          unfold f_12112 f_12112_J21
          rw [q1, if_neg (by decide), q2, if_neg (by decide), if_neg (by decide), gd_e ⟨c.1.1, by omega⟩, e49, if_pos c1, g3, bO_some, if_pos c2]
          unfold f_12112_J50 f_12112_J51
          rw [goes2 i_01 (Or.inl rfl), if_pos rfl, if_neg (by decide), bT_eq, if_pos rfl]
        exact ⟨_, _, _, _, hh, hf, ⟨_, _, _, _, _, _, _, _, _, h1.mm m82⟩, Or.inr ⟨3, rfl, by decide, mp_s⟩⟩
      · obtain ⟨M, p1, p2⟩ := (h1.m0 (u := 0)).mrk hi
        rw [← ev] at p2
        have hh : h_11032 x v w T = some (tsV T (gNl as v.toInt.toNat) 7 1, .inr M) := by
          unfold h_11032
          rw [gd_e h.1.1, g39 h, if_pos c.1, bXp_some, gd_e h.1.1, g38 h, if_pos c.2, bXp_some, gd_e a1, b7, if_pos c1, gd_e h.1.1, g2, bXp_some, if_neg c2, gd_e a1, p1, bP_some, gd_e a1, bS_eq]
        have hf : f_12112 v w m = some (ms (mp m1 82 0) 49 v 1, M) := by
          unfold f_12112 f_12112_J21
          rw [q1, if_neg (by decide), q2, if_neg (by decide), if_neg (by decide), gd_e ⟨c.1.1, by omega⟩, e49, if_pos c1, g3, bO_some, if_neg c2]
          unfold f_12112_J51
          rw [goes2 i_01 i_01, if_pos rfl, if_pos rfl, bT_eq, if_neg (by decide), p2, bP_some, gd_e ⟨c.1.1, by omega⟩, nar_b1, bS_eq]
        obtain ⟨k1, k2⟩ := ms49 (m := mp m1 82 0) (u := 1) (i := v.toInt.toNat) (by omega)
        rw [← ev] at k1 k2
        exact ⟨_, _, _, _, hh, hf, ⟨_, _, _, _, _, _, _, _, _, (h1.m0 (u := 0)).stk hi (Or.inr rfl) k1 k2⟩, Or.inl ⟨_, rfl, by rw [k2 0 (by decide), mp_s], rfl⟩⟩
    · have hh : h_11032 x v w T = some (T, .inl 3) := by
        unfold h_11032
        rw [gd_e h.1.1, g39 h, if_pos c.1, bXp_some, gd_e h.1.1, g38 h, if_pos c.2, bXp_some, gd_e a1, b7, if_neg c1]
      have hf : f_12112 v w m = some (mp m 82 2, 0) := by
        unfold f_12112 f_12112_J21
        rw [q1, if_neg (by decide), q2, if_neg (by decide), if_neg (by decide), gd_e ⟨c.1.1, by omega⟩, e49, if_neg c1]
        unfold f_12112_J50 f_12112_J51
        rw [goes2 i_01 (Or.inl rfl), if_pos rfl, if_neg (by decide), bT_eq, if_pos rfl]
      exact ⟨_, _, _, _, hh, hf, hI.mm m82, Or.inr ⟨3, rfl, by decide, mp_s⟩⟩
  · have hh : h_11032 x v w T = some (T, .inl 2) := by
      unfold h_11032
      rw [gd_e h.1.1, g39 h]
      by_cases c1 : 0 ≤ v.toInt ∧ v.toInt < as.length
      · rw [if_pos c1, bXp_some, gd_e h.1.1, g38 h, if_neg (fun q => c ⟨c1, q⟩)]
        rfl
      · rw [if_neg c1]
        rfl
    have hf : f_12112 v w m = some (mp m 82 1, 0) := by
      have z : f_12112_J20 v w m = some (mp m 82 1, 0) := by
        unfold f_12112_J20 f_12112_J21 f_12112_J50 f_12112_J51
        rw [if_pos rfl, goes2 (Or.inl rfl) (Or.inl rfl), if_neg (by decide), bT_eq, if_pos rfl]
      unfold f_12112
      rw [z]
      by_cases c1 : 0 ≤ v.toInt ∧ v.toInt < as.length
      · have q1 : f_12090 v m = 1 := by rw [f90 h, if_pos c1]
        have q2 : f_12090 w m = 0 := by rw [f90 h, if_neg (fun q => c ⟨c1, q⟩)]
        rw [q1, if_neg (by decide), q2, if_pos rfl]
      · have q1 : f_12090 v m = 0 := by rw [f90 h, if_neg c1]
        rw [q1, if_pos rfl]
    exact ⟨_, _, _, _, hh, hf, hI.mm m82, Or.inr ⟨2, rfl, by decide, mp_s⟩⟩
theorem c_clear (h : SInv x T m tx es ts as ps txs ss pd own) : SameT (h_11033 x v T) (f_12113 v m) cB (SINV x) := by
  have hI : SINV x T m := ⟨_, _, _, _, _, _, _, _, _, h⟩
  have h30 := h.2.2.2.2.1.2.1
  by_cases c : 0 ≤ v.toInt ∧ v.toInt < as.length
  · have hi : v.toInt.toNat < as.length := by omega
    have ev := of_nI (v := v) c.1 (by omega)
    obtain ⟨j, j1, j2, j3, a1, a2, a3, a4, a5, a6, a7, a8, a9, ⟨a0, _, _, b7⟩, b1⟩ := h.an hi
    have q1 : f_12090 v m = 1 := by rw [f90 h, if_pos c]
    have e49 : mg m 49 v = m 49 v.toInt.toNat := rfl
    by_cases c1 : m 49 v.toInt.toNat = 0
    · have hh : h_11033 x v T = some (T, .inl 3) := by
        unfold h_11033
        rw [gd_e h.1.1, g39 h, if_pos c, bXp_some, gd_e a1, b7, if_pos c1]
      have hf : f_12113 v m = some (mp m 82 2, 0) := by
        unfold f_12113
        rw [q1, if_neg (by decide), gd_e ⟨c.1, by omega⟩, e49, if_pos c1]
        unfold f_12113_J25 f_12113_J26
        rw [goes2 i_01 (Or.inl rfl), if_pos rfl, if_neg (by decide), bT_eq, if_pos rfl]
      exact ⟨_, _, _, _, hh, hf, hI.mm m82, Or.inr ⟨3, rfl, by decide, mp_s⟩⟩
    · obtain ⟨k1, k2⟩ := ms49 (m := mp m 82 0) (u := 0) (i := v.toInt.toNat) (by omega)
      rw [← ev] at k1 k2
      have h1 := (h.m0 (u := 0)).stk hi (Or.inl rfl) k1 k2
      obtain ⟨M, p1, p2⟩ := h1.mrk hi
      rw [← ev] at p2
      have hh : h_11033 x v T = some (tsV T (gNl as v.toInt.toNat) 7 0, .inr M) := by
        unfold h_11033
        rw [gd_e h.1.1, g39 h, if_pos c, bXp_some, gd_e a1, b7, if_neg c1, gd_e a1, bS_eq, gd_e (show tK (tsV T (gNl as v.toInt.toNat) 7 0) (gNl as v.toInt.toNat) = 2 from a1), p1, bP_some]
      have hf : f_12113 v m = some (ms (mp m 82 0) 49 v 0, M) := by
        unfold f_12113
        rw [q1, if_neg (by decide), gd_e ⟨c.1, by omega⟩, e49, if_neg c1]
        unfold f_12113_J26
        rw [goes2 i_01 i_01, if_pos rfl, if_pos rfl, bT_eq, if_neg (by decide), gd_e ⟨c.1, by omega⟩, nar_b0, bS_eq, p2, bP_some]
      exact ⟨_, _, _, _, hh, hf, ⟨_, _, _, _, _, _, _, _, _, h1⟩, Or.inl ⟨_, rfl, by rw [k2 0 (by decide), mp_s], rfl⟩⟩
  · have hh : h_11033 x v T = some (T, .inl 2) := by
      unfold h_11033
      rw [gd_e h.1.1, g39 h, if_neg c]
      rfl
    have hf : f_12113 v m = some (mp m 82 1, 0) := by
      have q1 : f_12090 v m = 0 := by rw [f90 h, if_neg c]
      unfold f_12113
      rw [q1, if_pos rfl]
      unfold f_12113_J25 f_12113_J26
      rw [goes2 (Or.inl rfl) (Or.inl rfl), if_neg (by decide), bT_eq, if_pos rfl]
    exact ⟨_, _, _, _, hh, hf, hI.mm m82, Or.inr ⟨2, rfl, by decide, mp_s⟩⟩
end ACC
