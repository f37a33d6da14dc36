/-! how many parts two answers have in common: the reference's loops -/
section SNX
variable {m : Mx} {sa sb : Sx} {ia ib na nb : Nat}
def Fr29 (m s : Mx) : Prop := ∀ j, j ≠ 29 → s j = m j
def U29 (s : Mx) (u : Nat → Bool) (n : Nat) : Prop := ∀ x, x < n → s 29 x = if u x = true then 1 else 0
theorem Cmp.fr {s : Mx} (h : Cmp m sa sb ia ib na nb) (hF : Fr29 m s) : Cmp s sa sb ia ib na nb := by
  unfold Cmp
  rw [hF 0 (by decide), hF 6 (by decide), hF 26 (by decide), hF 7 (by decide), hF 8 (by decide), hF 27 (by decide), hF 28 (by decide)]
  exact h
theorem nar_b1 : vp_nar .boolean 1 = 1 := by decide
theorem nar_b0 : vp_nar .boolean 0 = 0 := by decide
theorem Fr29.ms {s : Mx} {i x : Int32} (h : Fr29 m s) : Fr29 m (ms s 29 i x) := fun j hj => (ms_j hj).trans (h j hj)
theorem U29.set {s : Mx} {u : Nat → Bool} {n r : Nat} (h : U29 s u n) (hr : r < 1000) : U29 (ms s 29 (nI r) 1) (gu u r) n := by
  intro x hx
  rw [ms_s (by omega)]
  dsimp only
  unfold gu
  by_cases e : x = r
  · rw [if_pos e, if_pos e, if_pos rfl]
  · rw [if_neg e, if_neg e]; exact h x hx
theorem U29.same {s : Mx} {u : Nat → Bool} {n r : Nat} {v : Int32} (h : U29 s u n) (hr : r < 1000) (hv : r < n → v = if u r = true then 1 else 0) : U29 (ms s 29 (nI r) v) u n := by
  intro x hx
  rw [ms_s (by omega)]
  dsimp only
  by_cases e : x = r
  · rw [if_pos e, e]; exact hv (by omega)
  · rw [if_neg e]; exact h x hx
theorem sn_113 {k98 : Int32 → Int32 → Int32 → Int32 → Mx → Option (Mx × Int32)} {l1 l2 l3 : Int32} {i : Nat} (hC : Cmp m sa sb ia ib na nb) (hi : i < na) {u : Nat → Bool} : ∀ (q n j : Nat) (s : Mx), j + q = nb → q + 1 < n → Fr29 m s → U29 s u nb →
    ∃ s' u' c, Fr29 m s' ∧ U29 s' u' nb ∧ f_12106_L113 k98 n l1 l2 l3 (nI i) 0 (nI j) s = k98 l1 l2 (l3 + c) (nI i + 1) s' ∧ ((∃ r, gf (alw wm sa sb i) u q j = some r ∧ u' = gu u r ∧ c = 1) ∨ (gf (alw wm sa sb i) u q j = none ∧ u' = u ∧ c = 0)) := by
  have hna := hC.2.2.1
  have hnb := hC.2.2.2.1
  intro q
  induction q with
  | zero =>
    intro n j s hj hn hF hU
    obtain ⟨n, rfl⟩ : ∃ n', n = n' + 1 := ⟨n - 1, by omega⟩
    have e44 : mf s 44 = nI nb := by show s 0 44 = _; rw [hF 0 (by decide)]; exact hC.2.2.2.2.2.1
    refine ⟨s, u, 0, hF, hU, ?_, Or.inr ⟨rfl, rfl, rfl⟩⟩
    rw [f_12106_L113, e44, if_pos ((nI_leI (by omega) (by omega)).2 (by omega))]
    unfold f_12106_J188
    rw [if_pos rfl]
  | succ q ih =>
    intro n j s hj hn hF hU
    obtain ⟨n, rfl⟩ : ∃ n', n = n' + 1 := ⟨n - 1, by omega⟩
    have e44 : mf s 44 = nI nb := by show s 0 44 = _; rw [hF 0 (by decide)]; exact hC.2.2.2.2.2.1
    have e29 : mg s 29 (nI j) = if u j = true then 1 else 0 := by unfold mg; rw [nI_C (by omega)]; exact hU j (by omega)
    have hv : vi (nI j) 100 := vi_n (by omega) (by omega)
    rw [f_12106_L113, e44, if_neg (fun w => by have := (nI_leI (by omega) (by omega)).1 w; omega), if_pos rfl, gd_e hv, e29, gf]
    by_cases c : u j = true
    · rw [if_pos c, if_neg (by decide)]
      unfold f_12106_J152 f_12106_J153 f_12106_J176
      rw [gd_e hv, e29, if_pos c, if_neg (by decide), gd_e hv, nar_b1, bS_eq, nI_p1 (by omega)]
      have ec : ¬ (u j = false ∧ alw wm sa sb i j = true) := fun w => by rw [c] at w; exact absurd w.1 (by decide)
      rw [if_neg ec]
      exact ih n (j + 1) _ (by omega) (by omega) hF.ms (hU.same (by omega) (fun _ => by rw [if_pos c]))
    · rw [if_neg c, if_pos rfl, al_ref (hC.fr hF) hi (by omega), bP_some]
      have cf : u j = false := by simpa using c
      by_cases a : alw wm sa sb i j = true
      · rw [if_pos a, if_neg (by decide)]
        unfold f_12106_J153 f_12106_J176
        rw [gd_e hv, e29, if_neg c, if_pos rfl, if_neg (by decide), gd_e hv, nar_b1, bS_eq, nI_p1 (by omega), if_pos ⟨cf, a⟩]
        refine ⟨_, gu u j, 1, hF.ms (i := nI j) (x := 1), hU.set (by omega), ?_, Or.inl ⟨j, rfl, rfl, rfl⟩⟩
        obtain ⟨n, rfl⟩ : ∃ n', n = n' + 1 := ⟨n - 1, by omega⟩
        rw [f_12106_L113]
        unfold f_12106_J188
        rw [if_neg (show ¬ (1 : Int32) = 0 by decide), if_neg (show ¬ (1 : Int32) = 0 by decide), ite_self]
      · rw [if_neg a, if_pos rfl]
        unfold f_12106_J152 f_12106_J153
        rw [gd_e hv, e29, if_neg c, if_pos rfl, if_pos rfl, gd_e hv, nar_b0, bS_eq, nI_p1 (by omega), if_neg (fun w => a w.2)]
        exact ih n (j + 1) _ (by omega) (by omega) hF.ms (hU.same (by omega) (fun _ => by rw [if_neg c]))
theorem gr_le {al : Nat → Nat → Bool} {nq : Nat} : ∀ (k i : Nat) (u : Nat → Bool), gr al nq k i u ≤ k := by
  intro k
  induction k with
  | zero => intro i u; exact Nat.le_refl _
  | succ k ih =>
    intro i u
    rw [gr]
    cases gf (al i) u nq 0 with
    | none => exact Nat.le_succ_of_le (ih _ _)
    | some j => exact Nat.succ_le_succ (ih _ _)
theorem sn_98 {l1 l2 : Int32} (hC : Cmp m sa sb ia ib na nb) : ∀ (k n i cnt : Nat) (u : Nat → Bool) (s : Mx), i + k = na → k < n → cnt ≤ i → Fr29 m s → U29 s u nb →
    ∃ s', Fr29 m s' ∧ f_12106_L98 n l1 l2 (nI cnt) (nI i) s = some (s', nI (cnt + gr (alw wm sa sb) nb k i u)) := by
  have hna := hC.2.2.1
  have hnb := hC.2.2.2.1
  intro k
  induction k with
  | zero =>
    intro n i cnt u s hi hn hc hF hU
    obtain ⟨n, rfl⟩ : ∃ n', n = n' + 1 := ⟨n - 1, by omega⟩
    have e16 : mf s 16 = nI na := by show s 0 16 = _; rw [hF 0 (by decide)]; exact hC.2.2.2.2.1
    refine ⟨s, hF, ?_⟩
    rw [f_12106_L98, e16, if_pos ((nI_leI (by omega) (by omega)).2 (by omega))]
    rfl
  | succ k ih =>
    intro n i cnt u s hi hn hc hF hU
    obtain ⟨n, rfl⟩ : ∃ n', n = n' + 1 := ⟨n - 1, by omega⟩
    have e16 : mf s 16 = nI na := by show s 0 16 = _; rw [hF 0 (by decide)]; exact hC.2.2.2.2.1
    obtain ⟨s', u', c, h1, h2, h3, h4⟩ := sn_113 (k98 := f_12106_L98 n) (l1 := l1) (l2 := l2) (l3 := nI cnt) hC (show i < na by omega) (u := u) nb 1000 0 s (by omega) (by omega) hF hU
    rw [f_12106_L98, e16, if_neg (fun w => by have := (nI_leI (by omega) (by omega)).1 w; omega), show (0 : Int32) = nI 0 by decide] 
    rw [show (nI 0 : Int32) = 0 by decide] at h3 ⊢
    rw [h3, nI_p1 (by omega), gr]
    rcases h4 with ⟨r, g1, g2, g3⟩ | ⟨g1, g2, g3⟩
    · rw [g1, g3, nI_p1 (by omega)]
      obtain ⟨s'', w1, w2⟩ := ih n (i + 1) (cnt + 1) u' s' (by omega) (by omega) (by omega) h1 h2
      refine ⟨s'', w1, ?_⟩
      rw [w2, g2]
      dsimp only
      rw [show cnt + 1 + gr (alw wm sa sb) nb k (i + 1) (gu u r) = cnt + (gr (alw wm sa sb) nb k (i + 1) (gu u r) + 1) by omega]
    · rw [g1, g3, Int32.add_zero]
      obtain ⟨s'', w1, w2⟩ := ih n (i + 1) cnt u' s' (by omega) (by omega) (by omega) h1 h2
      refine ⟨s'', w1, ?_⟩
      rw [w2, g2]
theorem cp_15 {l1 l2 : Int32} (h14 : m 0 14 = nI ib) (hib : ib ≤ 300) : ∀ (k n l : Nat) (s : Mx), l + k = ib → k < n → (∀ j, j ≠ 26 → s j = m j) → (∀ x, x < l → s 26 x = m 6 x) →
    ∃ s', (∀ j, j ≠ 26 → s' j = m j) ∧ (∀ x, x < ib → s' 26 x = m 6 x) ∧ f_12106_L15 n l1 l2 (nI l) s = f_12106_L43 1000 l1 l2 0 s' := by
  intro k
  induction k with
  | zero =>
    intro n l s hl hn hF h26
    obtain ⟨n, rfl⟩ : ∃ n', n = n' + 1 := ⟨n - 1, by omega⟩
    refine ⟨s, hF, fun x hx => h26 x (by omega), ?_⟩
    rw [f_12106_L15, show mf s 14 = nI ib from (congrFun (hF 0 (by decide)) 14).trans h14, if_pos ((nI_leI (by omega) (by omega)).2 (by omega))]
  | succ k ih =>
    intro n l s hl hn hF h26
    obtain ⟨n, rfl⟩ : ∃ n', n = n' + 1 := ⟨n - 1, by omega⟩
    have e6 : mg s 6 (nI l) = m 6 l := by unfold mg; rw [nI_C (by omega), hF 6 (by decide)]
    rw [f_12106_L15, show mf s 14 = nI ib from (congrFun (hF 0 (by decide)) 14).trans h14, if_neg (fun w => by have := (nI_leI (by omega) (by omega)).1 w; omega), gd_e (vi_n (by omega) (by omega)), gd_e (vi_n (by omega) (by omega)), e6, bS_eq, nI_p1 (by omega)]
    refine ih n (l + 1) _ (by omega) (by omega) (fun j hj => (ms_j hj).trans (hF j hj)) (fun x hx => ?_)
    rw [ms_s (by omega)]
    dsimp only
    by_cases e : x = l
    · rw [if_pos e, e]
    · rw [if_neg e]; exact h26 x (by omega)
theorem cp_43 {l1 l2 : Int32} (h16 : m 0 16 = nI nb) (hnb : nb ≤ 100) : ∀ (k n l : Nat) (s : Mx), l + k = nb → k < n → (∀ j, j ≠ 27 → j ≠ 28 → j ≠ 29 → s j = m j) → (∀ x, x < l → s 27 x = m 7 x ∧ s 28 x = m 8 x ∧ s 29 x = 0) →
    ∃ s', (∀ j, j ≠ 27 → j ≠ 28 → j ≠ 29 → s' j = m j) ∧ (∀ x, x < nb → s' 27 x = m 7 x ∧ s' 28 x = m 8 x ∧ s' 29 x = 0) ∧ f_12106_L43 n l1 l2 (nI l) s = bOv (f_12072 l1 s') fun s13 => f_12106_L98 1000 l1 l2 0 0 s13 := by
  intro k
  induction k with
  | zero =>
    intro n l s hl hn hF h27
    obtain ⟨n, rfl⟩ : ∃ n', n = n' + 1 := ⟨n - 1, by omega⟩
    refine ⟨s, hF, fun x hx => h27 x (by omega), ?_⟩
    rw [f_12106_L43, show mf s 16 = nI nb from (congrFun (hF 0 (by decide) (by decide) (by decide)) 16).trans h16, if_pos ((nI_leI (by omega) (by omega)).2 (by omega))]
  | succ k ih =>
    intro n l s hl hn hF h27
    obtain ⟨n, rfl⟩ : ∃ n', n = n' + 1 := ⟨n - 1, by omega⟩
    have hv : vi (nI l) 100 := vi_n (by omega) (by omega)
    have e7 : mg s 7 (nI l) = m 7 l := by unfold mg; rw [nI_C (by omega), hF 7 (by decide) (by decide) (by decide)]
    have e8 : mg (ms s 27 (nI l) (m 7 l)) 8 (nI l) = m 8 l := by
      unfold mg
      rw [ms_j (by decide), nI_C (by omega), hF 8 (by decide) (by decide) (by decide)]
    rw [f_12106_L43, show mf s 16 = nI nb from (congrFun (hF 0 (by decide) (by decide) (by decide)) 16).trans h16, if_neg (fun w => by have := (nI_leI (by omega) (by omega)).1 w; omega), gd_e hv, gd_e hv, e7, bS_eq, gd_e hv, gd_e hv, e8, bS_eq, gd_e hv, nar_b0, bS_eq, nI_p1 (by omega)]
    refine ih n (l + 1) _ (by omega) (by omega) (fun j h1 h2 h3 => by rw [ms_j h3, ms_j h2, ms_j h1]; exact hF j h1 h2 h3) (fun x hx => ?_)
    rw [ms_j (show (27 : Nat) ≠ 29 by decide), ms_j (show (27 : Nat) ≠ 28 by decide), ms_j (show (28 : Nat) ≠ 29 by decide), ms_s (by omega), ms_s (by omega), ms_s (by omega)]
    dsimp only
    by_cases e : x = l
    · subst e
      rw [if_pos rfl, if_pos rfl, if_pos rfl]
      exact ⟨rfl, rfl, rfl⟩
    · rw [if_neg e, if_neg e, if_neg e, ms_j (show (28 : Nat) ≠ 27 by decide), ms_j (show (29 : Nat) ≠ 28 by decide), ms_j (show (29 : Nat) ≠ 27 by decide)]
      exact h27 x (by omega)
/-- what it changes -/
def FrX (m m' : Mx) : Prop := (∀ j, j ≠ 0 → (j < 3 ∨ 29 < j) → m' j = m j) ∧ ∀ f, f ≠ 4 → f ≠ 44 → f ∉ RFs → m' 0 f = m 0 f
/-- a text that an answer has -/
def TxA (m : Mx) (a : Nat) (tx : List Int32) : Prop := a < 30 ∧ tx.length ≤ 300 ∧ (∀ k, k < tx.length → nch (tg tx k)) ∧ m 45 a = nI tx.length ∧ ∀ k, k < tx.length → m 2 (300 * a + k) = tg tx k
theorem TxA.of {m' : Mx} {a : Nat} {tx : List Int32} (h : TxA m a tx) (h45 : m' 45 = m 45) (h2 : m' 2 = m 2) : TxA m' a tx := by
  unfold TxA
  rw [h45, h2]
  exact h
theorem sh_ref {a b : Nat} {txa txb : List Int32} (hA : TxA m a txa) (hB : TxA m b txb) (rA : Red txa sa) (rB : Red txb sb) : ∃ m', FrX m m' ∧ m' 0 16 = nI (sa.1 5).length ∧ m' 0 44 = nI (sb.1 5).length ∧ (sa.1 5).length ≤ 100 ∧ (sb.1 5).length ≤ 100 ∧ m' 0 9 = 0 ∧
    f_12106 (nI a) (nI b) m = some (m', nI (gr (alw wm sa sb) (sb.1 5).length (sa.1 5).length 0 (fun _ => false))) := by
  obtain ⟨b1, b2, b3, b4, b5⟩ := hB
  obtain ⟨m1, c1, c2, c3⟩ := ld_an b1 b2 b3 b4 b5
  obtain ⟨m2, ib, cb, db, d1, d2, d3, d4, d5, d6, d7, d8⟩ := rB.go b2 c1
  have hF2 := c3 m2 d2
  obtain ⟨e1, e2, ⟨e3, e4⟩, e5, e6, e7, e8⟩ := d7
  have hib : ib ≤ 300 := d6.1
  obtain ⟨m3, g1, g2, g3⟩ := cp_15 (m := mp m2 44 (mf m2 16)) (l1 := nI a) (l2 := nI b) ((mp_n (by decide)).trans e3) hib ib 1000 0 _ (by omega) (by omega) (fun _ _ => rfl) (fun x hx => absurd hx (by omega))
  have h16 : m3 0 16 = nI (sb.1 5).length := by rw [g1 0 (by decide), mp_n (by decide)]; exact e5
  obtain ⟨m4, k1, k2, k3⟩ := cp_43 (l1 := nI a) (l2 := nI b) h16 (by omega) (sb.1 5).length 1000 0 m3 (by omega) (by omega) (fun _ _ _ _ => rfl) (fun x hx => absurd hx (by omega))
  have o4 : ∀ j, j ≠ 0 → (j < 3 ∨ 29 < j) → m4 j = m j := fun j h0 hj => by
    rw [k1 j (by omega) (by omega) (by omega), g1 j (by omega), mp_j h0, hF2.1 j h0 (by omega)]
  obtain ⟨a1, a2, a3, a4, a5⟩ := hA
  obtain ⟨m5, p1, p2, p3⟩ := ld_an (m := m4) a1 a2 a3 (by rw [o4 45 (by decide) (by decide)]; exact a4) (fun k hk => by rw [o4 2 (by decide) (by decide)]; exact a5 k hk)
  obtain ⟨m6, ia, ca, da, q1, q2, q3, q4, q5, q6, q7, q8⟩ := rA.go a2 p1
  have hF6 := p3 m6 q2
  obtain ⟨r1, r2, ⟨r3, r4⟩, r5, r6, r7, r8⟩ := q7
  have hia : ia ≤ 300 := q6.1
  have m6_4 : ∀ j, 25 < j → m6 j = m4 j := fun j hj => hF6.1 j (by omega) (by omega)
  have e44 : m6 0 44 = nI (sb.1 5).length := by
    rw [hF6.2 44 (by decide) (by decide), k1 0 (by decide) (by decide) (by decide), g1 0 (by decide), mp_s]
    exact e5
  have hC : Cmp m6 sa sb ia ib (sa.1 5).length (sb.1 5).length := by
    refine ⟨hia, hib, by omega, by omega, r5, e44, fun k hk => r4 k hk, fun k hk => ?_, fun k hk => ?_, fun k hk => ?_⟩
    · rw [m6_4 26 (by omega), k1 26 (by decide) (by decide) (by decide), g2 k hk, mp_j (by decide)]
      exact e4 k hk
    · obtain ⟨z1, z2, z3⟩ := q8.s hk hia
      obtain ⟨y1, y2⟩ := q8.e (k := k) (by omega) hia
      exact ⟨(r8 k hk).1.trans z1, by rw [(r8 k hk).2, y1], z2, y2⟩
    · obtain ⟨z1, z2, z3⟩ := d8.s hk hib
      obtain ⟨y1, y2⟩ := d8.e (k := k) (by omega) hib
      obtain ⟨x1, x2, x3⟩ := k2 k hk
      refine ⟨?_, ?_, z2, y2⟩
      · rw [m6_4 27 (by omega), x1, g1 7 (by decide), mp_j (by decide), (e8 k hk).1]; exact z1
      · rw [m6_4 28 (by omega), x2, g1 8 (by decide), mp_j (by decide), (e8 k hk).2, y1]
  have hU : U29 m6 (fun _ => false) (sb.1 5).length := fun x hx => by
    rw [m6_4 29 (by omega), (k2 x hx).2.2]
    rfl
  obtain ⟨m7, w1, w2⟩ := sn_98 (l1 := nI a) (l2 := nI b) hC (sa.1 5).length 1000 0 0 (fun _ => false) m6 (by omega) (by omega) (by omega) (fun _ _ => rfl) hU
  refine ⟨m7, ⟨fun j h0 hj => ?_, fun f h4 h44 hR => ?_⟩, by rw [w1 0 (by decide)]; exact r5, by rw [w1 0 (by decide)]; exact e44, by omega, by omega, by rw [w1 0 (by decide)]; exact q3, ?_⟩
  · rw [w1 j (by omega), hF6.1 j h0 (by omega), o4 j h0 hj]
  · rw [w1 0 (by decide), hF6.2 f h4 hR, k1 0 (by decide) (by decide) (by decide), g1 0 (by decide), mp_n (by omega), hF2.2 f h4 hR]
  · unfold f_12106
    rw [c2, d1, bOv_some, bS_eq]
    show f_12106_L15 1000 (nI a) (nI b) (nI 0) _ = _
    rw [g3]
    show f_12106_L43 1000 (nI a) (nI b) (nI 0) _ = _
    rw [k3, p2, q1, bOv_some]
    show f_12106_L98 1000 (nI a) (nI b) (nI 0) (nI 0) m6 = _
    rw [w2, Nat.zero_add]
end SNX
