/-! the reference loads a text; a text that was read before is read again alike -/
section LDX
variable {tx : List Int32} {s1 : Sx} {m : Mx}
/-- the program s1 was read from the text tx, without a fault -/
def Red (tx : List Int32) (s1 : Sx) : Prop := ∃ s0, tkR s0 (tks tx) ∧ (s0.1 14).length ≤ 8 ∧ f_5001 s0 = some s1 ∧ s1.2 0 = 0
theorem Red.go (h : Red tx s1) (hn : tx.length ≤ 300) (hm : MT tx m) : ∃ m' i c d, f_12055 m = some m' ∧ FrR m m' ∧ m' 0 9 = 0 ∧ m' 0 10 = -1 ∧ i + 1 = (tks tx).length ∧ PgC s1 i c d ∧ PgM s1 i c d m' ∧ TkO s1 i := by
  obtain ⟨s0, h1, h2, h3, h4⟩ := h
  obtain ⟨s', m', g1, g2, g3, g4, g5, g6⟩ := rd_all hn h1 hm h2
  rw [h3] at g1
  cases g1
  rcases g6 with ⟨i, f, w1, w2, _⟩ | ⟨w1, w2, w3, i, c, d, w4, w5, w6⟩
  · exact absurd (w2.symm.trans h4) w1
  · have := rd_loc hn h1 h3 h4
    rw [show (tks tx).length - 1 = i by omega] at this
    exact ⟨m', i, c, d, g2, g3, w2, w3, w4, w5, w6, this⟩
theorem nar_c {x : Int32} (h : nch x) : vp_nar .char x = x := by rw [vp_nar_char]; exact h
/-- only the text has changed -/
def Fr3 (m m' : Mx) : Prop := ∀ j, j ≠ 3 → m' j = m j
theorem ld_L10 (hn : tx.length ≤ 300) (hc : ∀ k, k < tx.length → nch (tg tx k)) (h0 : m 0 0 = nI tx.length) (h1 : ∀ k, k < tx.length → m 1 k = tg tx k) : ∀ (k n l : Nat) (m' : Mx), l + k = tx.length → k < n → Fr3 m m' → (∀ i, i < l → m' 3 i = tg tx i) →
    ∃ m'', Fr3 m m'' ∧ (∀ i, i < tx.length → m'' 3 i = tg tx i) ∧ f_12071_L10 n (nI l) m' = bOv (f_12055 m'') fun s2 => some s2 := by
  intro k
  induction k with
  | zero =>
    intro n l m' hl hk hF h3
    obtain ⟨n, rfl⟩ : ∃ n', n = n' + 1 := ⟨n - 1, by omega⟩
    refine ⟨m', hF, fun i hi => h3 i (by omega), ?_⟩
    rw [f_12071_L10, show mf m' 0 = nI tx.length from (congrFun (hF 0 (by decide)) 0).trans h0, if_pos ((nI_leI (by omega) (by omega)).2 (by omega))]
  | succ k ih =>
    intro n l m' hl hk hF h3
    obtain ⟨n, rfl⟩ : ∃ n', n = n' + 1 := ⟨n - 1, by omega⟩
    have e1 : mg m' 1 (nI l) = tg tx l := by
      unfold mg
      rw [nI_C (by omega), hF 1 (by decide)]
      exact h1 l (by omega)
    rw [f_12071_L10, show mf m' 0 = nI tx.length from (congrFun (hF 0 (by decide)) 0).trans h0, if_neg (fun q => by have := (nI_leI (by omega) (by omega)).1 q; omega), gd_e (vi_n (by omega) (by omega)), gd_e (vi_n (by omega) (by omega)), e1, nar_c (hc l (by omega)), bS_eq, nI_p1 (by omega)]
    refine ih n (l + 1) _ (by omega) (by omega) (fun j hj => (ms_j hj).trans (hF j hj)) (fun i hi => ?_)
    rw [ms_s (by omega)]
    dsimp only
    by_cases e : i = l
    · rw [if_pos e, e]
    · rw [if_neg e]; exact h3 i (by omega)
/-- what a load changes -/
def FrL (m m' : Mx) : Prop := (∀ j, j ≠ 0 → (j < 3 ∨ 25 < j) → m' j = m j) ∧ ∀ f, f ≠ 4 → f ∉ RFs → m' 0 f = m 0 f
theorem ld_dr (hn : tx.length ≤ 300) (hc : ∀ k, k < tx.length → nch (tg tx k)) (h0 : m 0 0 = nI tx.length) (h1 : ∀ k, k < tx.length → m 1 k = tg tx k) : ∃ m1, MT tx m1 ∧ f_12071 m = f_12055 m1 ∧ ∀ m', FrR m1 m' → FrL m m' := by
  obtain ⟨m1, g1, g2, g3⟩ := ld_L10 (m := mp m 4 (mf m 0)) hn hc ((mp_n (by decide)).trans h0) (fun k hk => by rw [mp_j (by decide)]; exact h1 k hk) tx.length 1000 0 _ (by omega) (by omega) (fun _ _ => rfl) (fun i hi => absurd hi (by omega))
  have e4 : m1 0 4 = nI tx.length := by rw [g1 0 (by decide), mp_s]; exact h0
  refine ⟨m1, ⟨hn, e4, g2⟩, ?_, fun m' hF => ⟨fun j h0 hj => ?_, fun f hf hR => ?_⟩⟩
  · unfold f_12071
    rw [bS_eq]
    show f_12071_L10 1000 (nI 0) _ = _
    rw [g3]
    cases f_12055 m1 <;> rfl
  · rw [hF.1 j h0 (by omega), g1 j (by omega), mp_j h0]
  · rw [hF.2 f hR, g1 0 (by decide), mp_n hf]
theorem ld_L12 {a : Nat} (ha : a < 30) (hn : tx.length ≤ 300) (hc : ∀ k, k < tx.length → nch (tg tx k)) (h0 : m 0 4 = nI tx.length) (h1 : ∀ k, k < tx.length → m 2 (300 * a + k) = tg tx k) : ∀ (k n l : Nat) (m' : Mx), l + k = tx.length → k < n → Fr3 m m' → (∀ i, i < l → m' 3 i = tg tx i) →
    ∃ m'', Fr3 m m'' ∧ (∀ i, i < tx.length → m'' 3 i = tg tx i) ∧ f_12072_L12 n (nI a) (nI l) m' = bOv (f_12055 m'') fun s2 => some s2 := by
  intro k
  induction k with
  | zero =>
    intro n l m' hl hk hF h3
    obtain ⟨n, rfl⟩ : ∃ n', n = n' + 1 := ⟨n - 1, by omega⟩
    refine ⟨m', hF, fun i hi => h3 i (by omega), ?_⟩
    rw [f_12072_L12, show mf m' 4 = nI tx.length from (congrFun (hF 0 (by decide)) 4).trans h0, if_pos ((nI_leI (by omega) (by omega)).2 (by omega))]
  | succ k ih =>
    intro n l m' hl hk hF h3
    obtain ⟨n, rfl⟩ : ∃ n', n = n' + 1 := ⟨n - 1, by omega⟩
    have ei : 300 * nI a + nI l = nI (300 * a + l) := by
      have h1 : (300 * nI a).toInt = 300 * a := by
        rw [Int32.toInt_mul, nI_T (by omega), show (300 : Int32).toInt = 300 by decide, Int.bmod_eq_of_le (by omega) (by omega)]
      rw [i_eq, Int32.toInt_add, h1, nI_T (by omega), nI_T (by omega), Int.bmod_eq_of_le (by omega) (by omega)]
      omega
    have e1 : mg m' 2 (nI (300 * a + l)) = tg tx l := by
      unfold mg
      rw [nI_C (by omega), hF 2 (by decide)]
      exact h1 l (by omega)
    rw [f_12072_L12, show mf m' 4 = nI tx.length from (congrFun (hF 0 (by decide)) 4).trans h0, if_neg (fun q => by have := (nI_leI (by omega) (by omega)).1 q; omega), ei, gd_e (vi_n (by omega) (by omega)), gd_e (vi_n (by omega) (by omega)), e1, nar_c (hc l (by omega)), bS_eq, nI_p1 (by omega)]
    refine ih n (l + 1) _ (by omega) (by omega) (fun j hj => (ms_j hj).trans (hF j hj)) (fun i hi => ?_)
    rw [ms_s (by omega)]
    dsimp only
    by_cases e : i = l
    · rw [if_pos e, e]
    · rw [if_neg e]; exact h3 i (by omega)
theorem ld_an {a : Nat} (ha : a < 30) (hn : tx.length ≤ 300) (hc : ∀ k, k < tx.length → nch (tg tx k)) (h0 : m 45 a = nI tx.length) (h1 : ∀ k, k < tx.length → m 2 (300 * a + k) = tg tx k) : ∃ m1, MT tx m1 ∧ f_12072 (nI a) m = f_12055 m1 ∧ ∀ m', FrR m1 m' → FrL m m' := by
  have e45 : mg m 45 (nI a) = nI tx.length := by
    unfold mg
    rw [nI_C (by omega)]; exact h0
  obtain ⟨m1, g1, g2, g3⟩ := ld_L12 (m := mp m 4 (mg m 45 (nI a))) ha hn hc (mp_s.trans e45) (fun k hk => by rw [mp_j (by decide)]; exact h1 k hk) tx.length 1000 0 _ (by omega) (by omega) (fun _ _ => rfl) (fun i hi => absurd hi (by omega))
  have e4 : m1 0 4 = nI tx.length := by rw [g1 0 (by decide), mp_s]; exact e45
  refine ⟨m1, ⟨hn, e4, g2⟩, ?_, fun m' hF => ⟨fun j h0 hj => ?_, fun f hf hR => ?_⟩⟩
  · unfold f_12072
    rw [gd_e (vi_n (by omega) (by omega)), bS_eq]
    show f_12072_L12 1000 (nI a) (nI 0) _ = _
    rw [g3]
    cases f_12055 m1 <;> rfl
  · rw [hF.1 j h0 (by omega), g1 j (by omega), mp_j h0]
  · rw [hF.2 f hR, g1 0 (by decide), mp_n hf]
end LDX
