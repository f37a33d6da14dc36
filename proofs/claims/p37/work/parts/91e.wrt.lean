/-! the school: signs are written -/
section WRT
variable {x : Nat} {T T' T0 : Tx} {m m' m1 m2 : Mx} {tx t0 : List Int32} {es es' : List Nat} {ts ts' tsN : Nat → List Nat} {as : List Nat} {ps : Nat → Nat} {txs : Nat → List Int32} {ss : Nat → Sx} {pd : Nat} {own : Nat → Nat} {i j k a I c d : Nat} {s : Sx} {v : Int64}
/-- one of the eight signs -/
def byt (v : Int64) (i : Int32) : Int64 := (v.toUInt64 >>> ((8 * i).toInt64.toUInt64 &&& Int64.toUInt64 63)).toInt64 &&& 255
theorem and_255 (y : Int64) : 0 ≤ (y &&& 255).toInt ∧ (y &&& 255).toInt ≤ 255 := by
  have e : (y &&& 255).toBitVec.toNat ≤ 255 := by
    rw [Int64.toBitVec_and, BitVec.toNat_and]
    exact Nat.le_trans Nat.and_le_right (by decide)
  have e' : (y &&& 255).toInt = ((y &&& 255).toBitVec.toNat : Int) := by
    show (y &&& 255).toBitVec.toInt = _
    rw [BitVec.toInt_eq_toNat_of_lt (by omega)]
  rw [e']
  omega
theorem byt_b {i : Int32} : bnd (byt v i).toInt32 0 255 ∧ (byt v i).toInt32.toInt = (byt v i).toInt := by
  have h := and_255 (v.toUInt64 >>> ((8 * i).toInt64.toUInt64 &&& Int64.toUInt64 63)).toInt64
  have e : (byt v i).toInt32.toInt = (byt v i).toInt := by
    rw [Int64.toInt_toInt32]
    exact Int.bmod_eq_of_le (by have := h.1; show -(2 ^ 32 / 2 : Int) ≤ _; unfold byt; omega) (by have := h.2; unfold byt; omega)
  refine ⟨?_, e⟩
  show 0 ≤ _ ∧ _ ≤ 255
  rw [e]
  exact h
def okz (c : Int32) : Prop := c = 0 ∨ okS c
theorem byt_ok {i : Int32} : f_12005 (byt v i) m = if lg_cmp (byt v i) 0 = 0 then 1 else if lg_cmp (byt v i) 10 = 0 then 1 else if (32 : Int) ≤ (byt v i).toInt ∧ (byt v i).toInt ≤ 126 then 1 else 0 := by
  unfold f_12005
  rw [in_e, show (32 : Int64).toInt = 32 by decide, show (126 : Int64).toInt = 126 by decide]
  by_cases c : (32 : Int) ≤ (byt v i).toInt ∧ (byt v i).toInt ≤ 126
  · rw [if_pos c, if_neg (show ¬ (1 : Int32) = 0 by decide)]
  · rw [if_neg c, if_pos (show (0 : Int32) = 0 from rfl)]
theorem byt_0 {i : Int32} : lg_cmp (byt v i) 0 = 0 ↔ (byt v i).toInt32 = 0 := by
  rw [lg_0, i_eq, byt_b.2, i_0, s0]
theorem byt_10 {i : Int32} : lg_cmp (byt v i) 10 = 0 ↔ (byt v i).toInt32 = 10 := by
  rw [lg_0, i_eq, byt_b.2, show (10 : Int64).toInt = 10 by decide, show (10 : Int32).toInt = 10 by decide]
theorem byt_z {i : Int32} : (okz (byt v i).toInt32 → f_12005 (byt v i) m = 1) ∧ (¬ okz (byt v i).toInt32 → f_12005 (byt v i) m = 0) := by
  rw [byt_ok]
  unfold okz okS
  show (_ ∨ _ ∨ ((32 : Int) ≤ (byt v i).toInt32.toInt ∧ (byt v i).toInt32.toInt ≤ 126) → _) ∧ (¬ (_ ∨ _ ∨ ((32 : Int) ≤ (byt v i).toInt32.toInt ∧ (byt v i).toInt32.toInt ≤ 126)) → _)
  rw [byt_b.2]
  by_cases c0 : (byt v i).toInt32 = 0
  · rw [if_pos (byt_0.2 c0)]
    exact ⟨fun _ => rfl, fun z => absurd (Or.inl c0) z⟩
  · rw [if_neg (fun z => c0 (byt_0.1 z))]
    by_cases c1 : (byt v i).toInt32 = 10
    · rw [if_pos (byt_10.2 c1)]
      exact ⟨fun _ => rfl, fun z => absurd (Or.inr (Or.inl c1)) z⟩
    · rw [if_neg (fun z => c1 (byt_10.1 z))]
      by_cases c2 : (32 : Int) ≤ (byt v i).toInt ∧ (byt v i).toInt ≤ 126
      · rw [if_pos c2]
        exact ⟨fun _ => rfl, fun z => absurd (Or.inr (Or.inr c2)) z⟩
      · rw [if_neg c2]
        exact ⟨fun z => z.elim (fun q => absurd q c0) (fun q => q.elim (fun q => absurd q c1) (fun q => absurd q c2)), fun _ => rfl⟩
/-- the signs from one on that are not 0 -/
def wsg (b : Nat → Int32) : Nat → Nat → List Int32
  | 0, _ => []
  | q + 1, l => if b l = 0 then wsg b q (l + 1) else b l :: wsg b q (l + 1)
theorem wsg_l {b : Nat → Int32} : ∀ (q l : Nat), (wsg b q l).length ≤ q := by
  intro q
  induction q with
  | zero => intro l; exact Nat.le_refl _
  | succ q ih =>
    intro l
    rw [wsg]
    by_cases c : b l = 0
    · rw [if_pos c]
      exact Nat.le_succ_of_le (ih _)
    · rw [if_neg c, List.length_cons]
      exact Nat.succ_le_succ (ih _)
theorem wsg_ok {b : Nat → Int32} : ∀ (q l : Nat), (∀ i, l ≤ i → i < l + q → okz (b i)) → ∀ c, c ∈ wsg b q l → okS c := by
  intro q
  induction q with
  | zero => intro l _ c hc; rw [wsg] at hc; exact absurd hc (List.not_mem_nil)
  | succ q ih =>
    intro l h c hc
    rw [wsg] at hc
    by_cases e : b l = 0
    · rw [if_pos e] at hc
      exact ih (l + 1) (fun i h1 h2 => h i (by omega) (by omega)) c hc
    · rw [if_neg e] at hc
      rcases List.mem_cons.1 hc with z | z
      · rw [z]
        exact (h l (Nat.le_refl _) (by omega)).resolve_left e
      · exact ih (l + 1) (fun i h1 h2 => h i (by omega) (by omega)) c z
def bt (v : Int64) (l : Nat) : Int32 := (byt v (nI l)).toInt32
theorem h35_e {l : Nat} : h_11035 v (nI l) T = some (bt v l) := rfl
theorem le8 {l : Nat} (h : l ≤ 8) : (8 : Int32) ≤ nI l ↔ 8 ≤ l := nI_leI (a := 8) (by omega) (by omega)
/-- the class looks at the signs -/
theorem w_L5 {t : List Int32} {bc bs : Nat} (hk : tK T x = 12) (hw : tW T x 0 = some (x + 1)) (h7 : tK T (x + 1) = 7) (ht : tB T (x + 1) = t) (hc : 1 ≤ bc ∧ 6 ≤ bs) : ∀ (q n l c : Nat), l + q = 8 → q < n → c ≤ l →
    ((∀ i, l ≤ i → i < 8 → okz (bt v i)) → h_11001_L5 n x v (nI c) (nI l) bc bs T = if nI t.length + nI (c + (wsg (bt v) q l).length) ≤ 300 then h_11001_L95 100 x v (nI (c + (wsg (bt v) q l).length)) 0 bc bs T else some (T, .inr (-1))) ∧ ((¬ ∀ i, l ≤ i → i < 8 → okz (bt v i)) → h_11001_L5 n x v (nI c) (nI l) bc bs T = some (T, .inl 1)) := by
  intro q
  induction q with
  | zero =>
    intro n l c hl hn hc'
    obtain ⟨n, rfl⟩ : ∃ q, n = q + 1 := ⟨n - 1, by omega⟩
    refine ⟨fun _ => ?_, fun z => absurd (fun i h1 h2 => by omega) z⟩
    rw [h_11001_L5, if_pos ((le8 (by omega)).2 (by omega)), gd_e hk, hw, bP_some, gd_e h7, ht, wsg]
    rfl
  | succ q ih =>
    intro n l c hl hn hc'
    obtain ⟨n, rfl⟩ : ∃ q, n = q + 1 := ⟨n - 1, by omega⟩
    have stp : (okz (bt v l) → h_11001_L5 (n + 1) x v (nI c) (nI l) bc bs T = if bt v l = 0 then h_11001_L5 n x v (nI c) (nI (l + 1)) bc bs T else h_11001_L5 n x v (nI (c + 1)) (nI (l + 1)) bc bs T) ∧ (¬ okz (bt v l) → h_11001_L5 (n + 1) x v (nI c) (nI l) bc bs T = some (T, .inl 1)) := by
      rw [h_11001_L5, if_neg (fun z => by have := (le8 (by omega)).1 z; omega), h35_e, bP_some]
      unfold h_11001_J56
      rw [nI_p1 (by omega), Int32.add_zero, nI_p1 (by omega)]
      have i32 : (32 : Int32).toInt = 32 := by decide
      have i126 : (126 : Int32).toInt = 126 := by decide
      by_cases c0 : bt v l = 0
      · rw [if_pos c0, if_pos c0]
        exact ⟨fun _ => rfl, fun z => absurd (Or.inl c0) z⟩
      · rw [if_neg c0, if_neg c0, gd_e hc]
        by_cases c1 : bt v l = 10
        · rw [if_pos c1]
          exact ⟨fun _ => rfl, fun z => absurd (Or.inr (Or.inl c1)) z⟩
        · rw [if_neg c1]
          by_cases c2 : bt v l < 32
          · rw [if_pos c2]
            exact ⟨fun z => z.elim (fun z => absurd z c0) (fun z => z.elim (fun z => absurd z c1) (fun z => by
              have := z.1
              rw [i_lt, i32] at c2
              omega)), fun _ => rfl⟩
          · rw [if_neg c2]
            rw [i_lt, i32] at c2
            by_cases c3 : bt v l ≤ 126
            · have c3' := c3
              rw [i_le, i126] at c3'
              rw [if_pos c3]
              exact ⟨fun _ => rfl, fun z => absurd (Or.inr (Or.inr ⟨by omega, by omega⟩)) z⟩
            · have c3' := c3
              rw [i_le, i126] at c3'
              rw [if_neg c3]
              exact ⟨fun z => z.elim (fun z => absurd z c0) (fun z => z.elim (fun z => absurd z c1) (fun z => by
                have := z.2
                omega)), fun _ => rfl⟩
    rw [wsg]
    refine ⟨fun z => ?_, fun z => ?_⟩
    · rw [stp.1 (z l (Nat.le_refl _) (by omega))]
      by_cases c0 : bt v l = 0
      · rw [if_pos c0, if_pos c0]
        exact (ih n (l + 1) c (by omega) (by omega) (by omega)).1 (fun i h1 h2 => z i (by omega) h2)
      · rw [if_neg c0, if_neg c0, List.length_cons, show c + ((wsg (bt v) q (l + 1)).length + 1) = c + 1 + (wsg (bt v) q (l + 1)).length by omega]
        exact (ih n (l + 1) (c + 1) (by omega) (by omega) (by omega)).1 (fun i h1 h2 => z i (by omega) h2)
    · by_cases cz : okz (bt v l)
      · rw [stp.1 cz]
        have z' : ¬ ∀ i, l + 1 ≤ i → i < 8 → okz (bt v i) := fun y => z (fun i h1 h2 => by
          by_cases e : i = l
          · rw [e]; exact cz
          · exact y i (by omega) h2)
        by_cases c0 : bt v l = 0
        · rw [if_pos c0]
          exact (ih n (l + 1) c (by omega) (by omega) (by omega)).2 z'
        · rw [if_neg c0]
          exact (ih n (l + 1) (c + 1) (by omega) (by omega) (by omega)).2 z'
      · rw [stp.2 cz]
/-- so does the reference -/
theorem w_L80 : ∀ (q n l : Nat) (u : Int32), l + q = 8 → q < n → f_12006_L8 n v 0 u (nI l) m = some (mp m 82 1, 0) := by
  intro q
  induction q with
  | zero =>
    intro n l u hl hn
    obtain ⟨n, rfl⟩ : ∃ q, n = q + 1 := ⟨n - 1, by omega⟩
    rw [f_12006_L8, if_pos ((le8 (by omega)).2 (by omega)), goes1 (Or.inl rfl), if_neg (by decide), bT_eq, if_pos rfl]
  | succ q ih =>
    intro n l u hl hn
    obtain ⟨n, rfl⟩ : ∃ q, n = q + 1 := ⟨n - 1, by omega⟩
    rw [f_12006_L8, if_neg (fun z => by have := (le8 (by omega)).1 z; omega), if_pos rfl]
    unfold f_12006_J44 f_12006_J45
    rw [nI_p1 (by omega)]
    split
    · exact ih n (l + 1) _ (by omega) (by omega)
    · exact ih n (l + 1) _ (by omega) (by omega)
theorem w_L8 {t : List Int32} (h0 : m 0 0 = nI t.length) : ∀ (q n l c : Nat), l + q = 8 → q < n → c ≤ l →
    ((∀ i, l ≤ i → i < 8 → okz (bt v i)) → ∃ u w, f_12006_L8 n v 1 (nI c) (nI l) m = if nI t.length + nI (c + (wsg (bt v) q l).length) ≤ 300 then f_12006_L99 1000 v u w 0 (mp m 82 0) else some (mp m 82 0, -1)) ∧ ((¬ ∀ i, l ≤ i → i < 8 → okz (bt v i)) → f_12006_L8 n v 1 (nI c) (nI l) m = some (mp m 82 1, 0)) := by
  intro q
  induction q with
  | zero =>
    intro n l c hl hn hc'
    obtain ⟨n, rfl⟩ : ∃ q, n = q + 1 := ⟨n - 1, by omega⟩
    refine ⟨fun _ => ⟨1, nI c, ?_⟩, fun z => absurd (fun i h1 h2 => by omega) z⟩
    rw [f_12006_L8, if_pos ((le8 (by omega)).2 (by omega)), goes1 i_01, if_pos rfl, bT_eq, if_neg (by decide), show mf (mp m 82 0) 0 = nI t.length from (mp_n (by decide)).trans h0, wsg]
    rfl
  | succ q ih =>
    intro n l c hl hn hc'
    obtain ⟨n, rfl⟩ : ∃ q, n = q + 1 := ⟨n - 1, by omega⟩
    have stp : f_12006_L8 (n + 1) v 1 (nI c) (nI l) m = if f_12005 (byt v (nI l)) m = 0 then f_12006_J44 (f_12006_L8 n) v 1 (nI c) (nI l) (byt v (nI l)) m else f_12006_J45 (f_12006_L8 n) v 1 (nI c) (nI l) (byt v (nI l)) 1 m := by
      rw [f_12006_L8, if_neg (fun z => by have := (le8 (by omega)).1 z; omega), if_neg (by decide)]
      rfl
    have b0 : lg_cmp (byt v (nI l)) 0 = 0 ↔ bt v l = 0 := byt_0
    have hz := byt_z (m := m) (v := v) (i := nI l)
    rw [stp, wsg]
    unfold f_12006_J44 f_12006_J45
    rw [nI_p1 (by omega), Int32.add_zero, nI_p1 (by omega)]
    refine ⟨fun z => ?_, fun z => ?_⟩
    · rw [hz.1 (z l (Nat.le_refl _) (by omega)), if_neg (by decide)]
      by_cases c0 : bt v l = 0
      · rw [if_pos (b0.2 c0), if_pos c0]
        exact (ih n (l + 1) c (by omega) (by omega) (by omega)).1 (fun i h1 h2 => z i (by omega) h2)
      · rw [if_neg (fun y => c0 (b0.1 y)), if_neg c0, List.length_cons, show c + ((wsg (bt v) q (l + 1)).length + 1) = c + 1 + (wsg (bt v) q (l + 1)).length by omega]
        exact (ih n (l + 1) (c + 1) (by omega) (by omega) (by omega)).1 (fun i h1 h2 => z i (by omega) h2)
    · by_cases cz : okz (bt v l)
      · rw [hz.1 cz, if_neg (by decide)]
        have z' : ¬ ∀ i, l + 1 ≤ i → i < 8 → okz (bt v i) := fun y => z (fun i h1 h2 => by
          by_cases e : i = l
          · rw [e]; exact cz
          · exact y i (by omega) h2)
        by_cases c0 : bt v l = 0
        · rw [if_pos (b0.2 c0)]
          exact (ih n (l + 1) c (by omega) (by omega) (by omega)).2 z'
        · rw [if_neg (fun y => c0 (b0.1 y))]
          exact (ih n (l + 1) (c + 1) (by omega) (by omega) (by omega)).2 z'
      · rw [hz.2 cz, if_pos rfl]
        split
        · exact w_L80 q n (l + 1) _ (by omega) (by omega)
        · exact w_L80 q n (l + 1) _ (by omega) (by omega)
/-- the class takes them -/
theorem w_L95 {u : Int32} {bc bs : Nat} (hk : tK T x = 12) (hw : tW T x 0 = some (x + 1)) (h7 : tK T (x + 1) = 7) (hC : tC T (x + 1) = 300) : ∀ (q n l : Nat) (t : List Int32), l + q = 8 → q < n → t.length + (wsg (bt v) q l).length ≤ 300 →
    h_11001_L95 n x v u (nI l) bc bs (tsB T (x + 1) t) = some (tsV (tsB T (x + 1) (t ++ wsg (bt v) q l)) x 2 0, .inr (nI (t ++ wsg (bt v) q l).length)) := by
  intro q
  induction q with
  | zero =>
    intro n l t hl hn ht
    obtain ⟨n, rfl⟩ : ∃ q, n = q + 1 := ⟨n - 1, by omega⟩
    rw [h_11001_L95, if_pos ((le8 (by omega)).2 (by omega)), gd_e (show tK (tsB T (x + 1) t) x = 12 from hk), bS_eq, gd_e (show tK (tsV (tsB T (x + 1) t) x 2 0) x = 12 from hk), show tW (tsV (tsB T (x + 1) t) x 2 0) x 0 = some (x + 1) from hw, bP_some, gd_e (show tK (tsV (tsB T (x + 1) t) x 2 0) (x + 1) = 7 from h7), wsg, List.append_nil]
    show some (_, Sum.inr (nI (tB (tsB T (x + 1) t) (x + 1)).length)) = _
    rw [tB_s]
  | succ q ih =>
    intro n l t hl hn ht
    obtain ⟨n, rfl⟩ : ∃ q, n = q + 1 := ⟨n - 1, by omega⟩
    rw [wsg] at ht ⊢
    rw [h_11001_L95, if_neg (fun z => by have := (le8 (by omega)).1 z; omega), h35_e, bP_some, nI_p1 (by omega)]
    by_cases c0 : bt v l = 0
    · rw [if_pos c0] at ht
      rw [if_pos c0, if_pos c0]
      exact ih n (l + 1) t (by omega) (by omega) ht
    · rw [if_neg c0, List.length_cons] at ht
      rw [if_neg c0, if_neg c0, gd_e (show tK (tsB T (x + 1) t) x = 12 from hk), show tW (tsB T (x + 1) t) x 0 = some (x + 1) from hw, bP_some, gd_e (show tK (tsB T (x + 1) t) (x + 1) = 7 from h7), tB_s, show tC (tsB T (x + 1) t) (x + 1) = 300 from hC, xadd_e (by omega), bS_eq, tsB2, List.append_cons t (bt v l) (wsg (bt v) q (l + 1))]
      exact ih n (l + 1) (t ++ [bt v l]) (by omega) (by omega) (by rw [List.length_append]; show t.length + 1 + _ ≤ _; omega)
theorem w_L99 {u w : Int32} (hz : ∀ i, i < 8 → okz (bt v i)) : ∀ (q n l : Nat) (t : List Int32) (mm : Mx), l + q = 8 → q < n → t.length + (wsg (bt v) q l).length ≤ 300 → mm 0 0 = nI t.length → (∀ k, k < t.length → mm 1 k = t.getD k 0) →
    ∃ m', f_12006_L99 n v u w (nI l) mm = some (m', nI (t ++ wsg (bt v) q l).length) ∧ m' 0 0 = nI (t ++ wsg (bt v) q l).length ∧ (∀ k, k < (t ++ wsg (bt v) q l).length → m' 1 k = (t ++ wsg (bt v) q l).getD k 0) ∧ (∀ J, J ≠ 0 → J ≠ 1 → m' J = mm J) ∧ ∀ g, g ≠ 0 → m' 0 g = mm 0 g := by
  intro q
  induction q with
  | zero =>
    intro n l t mm hl hn ht h0 h1
    obtain ⟨n, rfl⟩ : ∃ q, n = q + 1 := ⟨n - 1, by omega⟩
    rw [wsg, List.append_nil]
    refine ⟨mm, ?_, h0, h1, fun _ _ _ => rfl, fun _ _ => rfl⟩
    rw [f_12006_L99, if_pos ((le8 (by omega)).2 (by omega)), show mf mm 0 = nI t.length from h0]
  | succ q ih =>
    intro n l t mm hl hn ht h0 h1
    obtain ⟨n, rfl⟩ : ∃ q, n = q + 1 := ⟨n - 1, by omega⟩
    have b0 : lg_cmp (byt v (nI l)) 0 = 0 ↔ bt v l = 0 := byt_0
    have stp : f_12006_L99 (n + 1) v u w (nI l) mm = if lg_cmp (byt v (nI l)) 0 = 0 then f_12006_L99 n v u w (nI l + 1) mm else gd (vi (mf mm 0) 300) (bS (ms mm 1 (mf mm 0) (vp_nar .char ((bt v l).toUInt32 % 65536).toInt32)) fun s3 => bS (mp s3 0 ((mf s3 0) + 1)) fun s4 => f_12006_L99 n v u w (nI l + 1) s4) := by
      rw [f_12006_L99, if_neg (fun z => by have := (le8 (by omega)).1 z; omega)]
      rfl
    rw [wsg] at ht ⊢
    rw [stp, nI_p1 (by omega)]
    by_cases c0 : bt v l = 0
    · rw [if_pos c0] at ht
      rw [if_pos (b0.2 c0), if_pos c0]
      exact ih n (l + 1) t mm (by omega) (by omega) ht h0 h1
    · rw [if_neg c0, List.length_cons] at ht
      have hS : okS (bt v l) := (hz l (by omega)).resolve_left c0
      rw [if_neg (fun z => c0 (b0.1 z)), if_neg c0, show mf mm 0 = nI t.length from h0, gd_e (vi_n (by omega) (by omega)), hS.ch.1, nar_c hS.ch.2, bS_eq, mfms (by decide), show mf mm 0 = nI t.length from h0, nI_p1 (by omega), bS_eq, List.append_cons t (bt v l) (wsg (bt v) q (l + 1))]
      obtain ⟨m', k1, k2, k3, k4, k5⟩ := ih n (l + 1) (t ++ [bt v l]) (mp (ms mm 1 (nI t.length) (bt v l)) 0 (nI (t.length + 1))) (by omega) (by omega) (by rw [List.length_append]; show t.length + 1 + _ ≤ _; omega) (by rw [mp_s, List.length_append]; rfl) (fun k hk => by
        rw [List.length_append] at hk
        have hk' : k < t.length + 1 := hk
        rw [mp_j (by decide), ms_s (by omega)]
        dsimp only
        by_cases e : k = t.length
        · rw [if_pos e, e, gD_e]
        · rw [if_neg e, gD_l (by omega)]
          exact h1 k (by omega))
      exact ⟨m', k1, k2, k3, fun J h0 h1 => by rw [k4 J h0 h1, mp_j h0, ms_j h1], fun g hg => by rw [k5 g hg, mp_n hg, ms_j (by decide)]⟩
theorem c_write (h : SInv x T m tx es ts as ps txs ss pd own) : SameT (h_11001 x v T) (f_12006 v m) cE (SINV x) := by
  have hI : SINV x T m := ⟨_, _, _, _, _, _, _, _, _, h⟩
  obtain ⟨t1, t2, t3, t4, t5, t6, t7⟩ := h.text
  obtain ⟨b1, b2, b3, b4, b5⟩ := h.2.1.1
  obtain ⟨p1, p2⟩ := w_L5 (v := v) t7 t1 t2 t4 (show 1 ≤ 1 ∧ 6 ≤ 6 by omega) 8 100 0 0 (by omega) (by omega) (Nat.le_refl _)
  obtain ⟨q1, q2⟩ := w_L8 (v := v) (m := m) b4 8 1000 0 0 (by omega) (by omega) (Nat.le_refl _)
  have l8 := wsg_l (b := bt v) 8 0
  rw [Nat.zero_add] at p1 q1
  by_cases hz : ∀ i, 0 ≤ i → i < 8 → okz (bt v i)
  · have p := p1 hz
    obtain ⟨u, w, q⟩ := q1 hz
    have ec : nI tx.length + nI (wsg (bt v) 8 0).length ≤ 300 ↔ tx.length + (wsg (bt v) 8 0).length ≤ 300 := by
      rw [nI_pl (by omega) (by omega), i_le, nI_T (by omega), show (300 : Int32).toInt = 300 by decide]
      omega
    by_cases c : tx.length + (wsg (bt v) 8 0).length ≤ 300
    · rw [if_pos (ec.2 c)] at p q
      have eT : tsB T (x + 1) tx = T := by
        unfold tsB
        have : u1 (tB T) (x + 1) tx = tB T := by
          funext b
          by_cases e : b = x + 1
          · rw [e, u1_s]; exact t4.symm
          · exact u1_n _ _ e
        rw [this]
        rfl
      have k := w_L95 (v := v) (u := nI (wsg (bt v) 8 0).length) (bc := 1) (bs := 6) t7 t1 t2 t3 8 100 0 tx (by omega) (by omega) c
      rw [eT] at k
      obtain ⟨m', k1, k2, k3, k4, k5⟩ := w_L99 (v := v) (u := u) (w := w) (fun i hi => hz i (Nat.zero_le _) hi) 8 1000 0 tx (mp m 82 0) (by omega) (by omega) c (by rw [mp_n (by decide)]; exact b4) (fun k hk => by rw [mp_j (by decide)]; exact b5 k hk)
      have hS := h.txt (m' := m') (tx' := tx ++ wsg (bt v) 8 0) (by rw [List.length_append]; exact c) (fun c hc => by
        rcases List.mem_append.1 hc with z | z
        · exact b3 c z
        · exact wsg_ok 8 0 (fun i h1 h2 => hz i h1 (by omega)) c z) k2 k3 (fun J hJ => by rw [k4 J (by omega) (by omega), mp_j (by omega)]) (fun g hg => by rw [k5 g (by omega), mp_n (by omega)])
      exact ⟨_, _, _, _, p.trans k, q.trans k1, ⟨_, _, _, _, _, _, _, _, _, hS⟩, Or.inl ⟨_, rfl, by rw [k5 82 (by decide), mp_s], rfl⟩⟩
    · rw [if_neg (fun z => c (ec.1 z))] at p q
      exact ⟨_, _, _, _, p, q, hI.mm m82, Or.inl ⟨_, rfl, mp_s, rfl⟩⟩
  · exact ⟨_, _, _, _, p2 hz, q2 hz, hI.mm m82, Or.inr ⟨1, rfl, by decide, mp_s⟩⟩
end WRT
