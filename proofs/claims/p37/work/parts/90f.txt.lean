/-! the school: calls that change the text or the day -/
section TXC
variable {x : Nat} {T T' : Tx} {m m' : Mx} {tx tx' : List Int32} {es : List Nat} {ts : Nat → List Nat} {as : List Nat} {ps : Nat → Nat} {txs : Nat → List Int32} {ss : Nat → Sx} {pd : Nat} {own : Nat → Nat}
theorem ExI.mm (h : ExI x T m es ts) (e65 : m' 0 65 = m 0 65) (hj : ∀ j, 37 ≤ j → j ≤ 44 → m' j = m j) : ExI x T m' es ts := by
  have e37 : m' 37 = m 37 := hj _ (by decide) (by decide)
  have e38 : m' 38 = m 38 := hj _ (by decide) (by decide)
  have e39 : m' 39 = m 39 := hj _ (by decide) (by decide)
  have e40 : m' 40 = m 40 := hj _ (by decide) (by decide)
  have e41 : m' 41 = m 41 := hj _ (by decide) (by decide)
  have e42 : m' 42 = m 42 := hj _ (by decide) (by decide)
  have e43 : m' 43 = m 43 := hj _ (by decide) (by decide)
  have e44 : m' 44 = m 44 := hj _ (by decide) (by decide)
  unfold ExI ExR TstR at h ⊢
  rw [e37, e38, e39, e40, e41, e42, e43, e44, e65]
  exact h
theorem AnI.mm (h : AnI x T m es ts as ps txs ss) (e74 : m' 0 74 = m 0 74) (e2 : m' 2 = m 2) (hj : ∀ j, 37 ≤ j → j ≤ 51 → m' j = m j) : AnI x T m' es ts as ps txs ss := by
  have e37 : m' 37 = m 37 := hj _ (by decide) (by decide)
  have e41 : m' 41 = m 41 := hj _ (by decide) (by decide)
  have e42 : m' 42 = m 42 := hj _ (by decide) (by decide)
  have e43 : m' 43 = m 43 := hj _ (by decide) (by decide)
  have e45 : m' 45 = m 45 := hj _ (by decide) (by decide)
  have e46 : m' 46 = m 46 := hj _ (by decide) (by decide)
  have e47 : m' 47 = m 47 := hj _ (by decide) (by decide)
  have e48 : m' 48 = m 48 := hj _ (by decide) (by decide)
  have e49 : m' 49 = m 49 := hj _ (by decide) (by decide)
  have e50 : m' 50 = m 50 := hj _ (by decide) (by decide)
  have e51 : m' 51 = m 51 := hj _ (by decide) (by decide)
  unfold AnI AnR TxA at h ⊢
  rw [e2, e37, e41, e42, e43, e45, e46, e47, e48, e49, e50, e51, e74]
  exact h
theorem TrI.mm (h : TrI x T m) (e60 : m' 0 60 = m 0 60) (e63 : m' 0 63 = m 0 63) (e64 : m' 0 64 = m 0 64) (e35 : m' 35 = m 35) (e36 : m' 36 = m 36) : TrI x T m' := by
  unfold TrI at h ⊢
  rw [e60, e63, e64, e35, e36]
  exact h
theorem TrI.of (h : TrI x T m) (e1 : tB T' (x + 43) = tB T (x + 43)) (e2 : tB T' (x + 45) = tB T (x + 45)) (e3 : tV T' (x + 42) 4 = tV T (x + 42) 4) (e4 : tV T' x 13 = tV T x 13) : TrI x T' m := by
  unfold TrI at h ⊢
  rw [e1, e2, e3, e4]
  exact h
/-- another text -/
theorem SInv.txt (h : SInv x T m tx es ts as ps txs ss pd own) (hl : tx'.length ≤ 300) (hok : ∀ c, c ∈ tx' → okS c) (h0 : m' 0 0 = nI tx'.length) (h1 : ∀ k, k < tx'.length → m' 1 k = tx'.getD k 0) (hj : ∀ j, j = 2 ∨ 34 < j → m' j = m j) (hf : ∀ f, f = 60 ∨ f = 63 ∨ f = 64 ∨ f = 65 ∨ f = 74 → m' 0 f = m 0 f) : SInv x (tsV (tsB T (x + 1) tx') x 2 0) m' tx' es ts as ps txs ss pd own := by
  obtain ⟨d1, d2⟩ := h.dyn (T' := tsV (tsB T (x + 1) tx') x 2 0) (Nat.le_refl _) ⟨rfl, rfl⟩ (fun a h1 h2 h3 => (Agr.B (by omega)).tr (Agr.V (by omega)))
  obtain ⟨a1, a2, a3, a4, a5, a6⟩ := h
  obtain ⟨b1, b2, b3, b4, b5, b6, b7⟩ := a2
  refine ⟨a1, ⟨⟨tB_s, hl, hok, h0, h1⟩, b2, b3, b4, Or.inl tV_s, ?_, ?_⟩, ?_, d1.mm (hf _ (by decide)) (fun j g1 g2 => hj j (by omega)), d2.mm (hf _ (by decide)) (hj _ (by decide)) (fun j g1 g2 => hj j (by omega)), a6⟩
  · rw [tV_n (Or.inr (by decide))]
    exact b6
  · show (tB (tsB T (x + 1) tx') (x + 34)).length ≤ 8
    rw [tB_n (by omega)]
    exact b7
  · exact (a3.of (T' := tsV (tsB T (x + 1) tx') x 2 0) (tB_n (by omega)) (tB_n (by omega)) (tV_n (Or.inl (by omega))) (tV_n (Or.inr (by decide)))).mm (hf _ (by decide)) (hf _ (by decide)) (hf _ (by decide)) (hj _ (by decide)) (hj _ (by decide))
theorem c_wipe (h : SInv x T m tx es ts as ps txs ss pd own) : ∃ T' m' v, h_11002 x T = some (T', v) ∧ f_12007 m = (m', v) ∧ SINV x T' m' := by
  obtain ⟨t1, t2, t3, t4, t5, t6, t7⟩ := h.text
  refine ⟨tsV (tsB T (x + 1) []) x 2 0, mp (mp m 0 0) 82 0, nI tx.length, ?_, ?_, ?_⟩
  · unfold h_11002
    rw [gd_e t7, t1, bP_some, gd_e t2, gd_e t7, bP_some, gd_e t2, bS_eq, gd_e (show tK (tsB T (x + 1) []) x = 12 from t7), bS_eq, t4]
  · unfold f_12007
    rw [bS_eq, told_e, bT_eq, show mf m 0 = nI tx.length from t6]
  · refine ⟨_, _, _, _, _, _, _, _, _, h.txt (tx' := []) (by decide) (fun c hc => by cases hc) ?_ (fun k hk => absurd hk (by simp)) (fun j hj => ?_) (fun f hf => ?_)⟩
    · rw [mp_n (by decide), mp_s]; decide
    · rw [mp_j (by omega), mp_j (by omega)]
    · rw [mp_n (by omega), mp_n (by omega)]
theorem nI_subi {a : Nat} {v : Int32} (ha : a < 1000) (h1 : 1 ≤ v.toInt) (h2 : v.toInt ≤ a) : nI a - v = nI (a - v.toInt.toNat) := by
  rw [i_eq, Int32.toInt_sub, nI_T (by omega), nI_T (by omega), Int.bmod_eq_of_le (by omega) (by omega)]
  omega
theorem c_erase {v : Int32} (h : SInv x T m tx es ts as ps txs ss pd own) : SameT (h_11003 x v T) (some (f_12008 v m)) cE (SINV x) := by
  obtain ⟨t1, t2, t3, t4, t5, t6, t7⟩ := h.text
  have hI : SINV x T m := ⟨_, _, _, _, _, _, _, _, _, h⟩
  have e0 : f_12002 v.toInt64 1 ((mf m 0).toInt64) m = if 1 ≤ v.toInt ∧ v.toInt ≤ tx.length then 1 else 0 := by
    rw [in_e, show (1 : Int64).toInt = 1 by decide, show mf m 0 = nI tx.length from t6, Int32.toInt_toInt64, Int32.toInt_toInt64, nI_T (by omega)]
  have l1 : v < 1 ↔ v.toInt < 1 := by rw [i_lt, i_1]
  have ll : v ≤ nI tx.length ↔ v.toInt ≤ tx.length := by rw [i_le, nI_T (by omega)]
  by_cases c : 1 ≤ v.toInt ∧ v.toInt ≤ tx.length
  · have ex : xcut tx (nI (tx.length - v.toInt.toNat)) = tx.take (tx.length - v.toInt.toNat) := by
      unfold xcut
      rw [if_neg (nI_nn (by omega)), nI_C (by omega)]
    have el : (tx.take (tx.length - v.toInt.toNat)).length = tx.length - v.toInt.toNat := by rw [List.length_take]; omega
    have hh : h_11003 x v T = some (tsV (tsB T (x + 1) (tx.take (tx.length - v.toInt.toNat))) x 2 0, .inr (nI (tx.length - v.toInt.toNat))) := by
      unfold h_11003
      rw [if_neg (by rw [l1]; omega), gd_e t7, t1, bP_some, gd_e t2, t4, if_pos (ll.2 c.2), gd_e t7, bP_some, gd_e t7, bP_some, gd_e t2, gd_e t2, t4, nI_subi (by omega) c.1 c.2, ex, bS_eq]
      rw [gd_e (show tK (tsB T (x + 1) (tx.take (tx.length - v.toInt.toNat))) x = 12 from t7), bS_eq, gd_e (show tK (tsV (tsB T (x + 1) (tx.take (tx.length - v.toInt.toNat))) x 2 0) x = 12 from t7), show tW (tsV (tsB T (x + 1) (tx.take (tx.length - v.toInt.toNat))) x 2 0) x 0 = some (x + 1) from t1, bP_some, gd_e (show tK (tsV (tsB T (x + 1) (tx.take (tx.length - v.toInt.toNat))) x 2 0) (x + 1) = 7 from t2)]
      show some (_, Sum.inr (nI (tB (tsB T (x + 1) (tx.take (tx.length - v.toInt.toNat))) (x + 1)).length)) = _
      rw [tB_s, el]
    have em : mf (mp m 82 0) 0 - v = nI (tx.length - v.toInt.toNat) := by
      rw [show mf (mp m 82 0) 0 = nI tx.length from (mp_n (by decide)).trans t6, nI_subi (by omega) c.1 c.2]
    have hf : f_12008 v m = (mp (mp m 82 0) 0 (nI (tx.length - v.toInt.toNat)), nI (tx.length - v.toInt.toNat)) := by
      unfold f_12008
      rw [goes1 in_01, e0, if_pos c, if_pos rfl, bT_eq, if_neg (by decide), em, bS_eq]
      exact congrArg _ mp_s
    refine ⟨_, _, _, _, hh, congrArg some hf, ⟨_, _, _, _, _, _, _, _, _, h.txt (by rw [el]; omega) (fun c hc => h.2.1.1.2.2.1 c (List.mem_of_mem_take hc)) ?_ (fun k hk => ?_) (fun j hj => ?_) (fun f hf => ?_)⟩, Or.inl ⟨_, rfl, ?_, rfl⟩⟩
    · rw [mp_s, el]
    · rw [el] at hk
      rw [mp_j (by decide), mp_j (by decide), h.2.1.1.2.2.2.2 k (by omega), List.getD_eq_getElem?_getD, List.getD_eq_getElem?_getD, List.getElem?_take_of_lt (by omega)]
    · rw [mp_j (by omega), mp_j (by omega)]
    · rw [mp_n (by omega), mp_n (by omega)]
    · rw [mp_n (by decide), mp_s]
  · have hf : f_12008 v m = (mp m 82 1, 0) := by
      unfold f_12008
      rw [goes1 in_01, e0, if_neg c, if_neg (by decide), bT_eq, if_pos rfl]
    have hh : h_11003 x v T = some (T, .inl 1) := by
      unfold h_11003
      by_cases c1 : v < 1
      · rw [if_pos c1]
      · rw [if_neg c1, gd_e t7, t1, bP_some, gd_e t2, t4, if_neg (fun w => by
          rw [ll] at w
          rw [l1] at c1
          omega)]
    exact ⟨_, _, _, _, hh, congrArg some hf, hI.mm m82, Or.inr ⟨1, rfl, by decide, mp_s⟩⟩
theorem c_pass {v : Int32} (h : SInv x T m tx es ts as ps txs ss pd own) : SameT (h_11018 x v T) (some (f_12088 v m)) cA (SINV x) := by
  have hI : SINV x T m := ⟨_, _, _, _, _, _, _, _, _, h⟩
  obtain ⟨y1, y2, y3, y4, y5, y6, y7, y8⟩ := h.2.2.1
  have e0 : f_12002 v.toInt64 1 100 m = if 1 ≤ v.toInt ∧ v.toInt ≤ 100 then 1 else 0 := by
    rw [in_e, show (1 : Int64).toInt = 1 by decide, show (100 : Int64).toInt = 100 by decide, Int32.toInt_toInt64]
  have l1 : v < 1 ↔ v.toInt < 1 := by rw [i_lt, i_1]
  have l100 : v ≤ 100 ↔ v.toInt ≤ 100 := by rw [i_le, show (100 : Int32).toInt = 100 by decide]
  by_cases c : 1 ≤ v.toInt ∧ v.toInt ≤ 100
  · have es' : (tV T x 13 + v).toInt = (tV T x 13).toInt + v.toInt := by
      have := y8.1
      have := y8.2
      rw [Int32.toInt_add, Int.bmod_eq_of_le (by omega) (by omega)]
    have y7' : mf m 64 = tV T x 13 := y7
    by_cases c2 : (tV T x 13).toInt + v.toInt ≤ 1000
    · have e2 : tV T x 13 + v ≤ 1000 := by rw [i_le, es', show (1000 : Int32).toInt = 1000 by decide]; exact c2
      have hh : h_11018 x v T = some (tsV T x 13 (tV T x 13 + v), .inr (tV T x 13 + v)) := by
        unfold h_11018
        rw [if_neg (by rw [l1]; omega), if_pos (l100.2 c.2), gd_e h.1.1, if_pos e2, gd_e h.1.1, gd_e h.1.1, bS_eq, gd_e (show tK (tsV T x 13 (tV T x 13 + v)) x = 12 from h.1.1), tV_s]
      have em : mf (mp m 82 0) 64 + v = tV T x 13 + v := by rw [show mf (mp m 82 0) 64 = tV T x 13 from (mp_n (by decide)).trans y7]
      have hf : f_12088 v m = (mp (mp m 82 0) 64 (tV T x 13 + v), tV T x 13 + v) := by
        unfold f_12088 f_12088_J33
        rw [e0, if_pos c, if_neg (by decide), y7', if_neg (show ¬ (1000 : Int32) < tV T x 13 + v by rw [i_lt, es', show (1000 : Int32).toInt = 1000 by decide]; omega), goes2 i_01 i_01, if_pos rfl, if_pos rfl, bT_eq, if_neg (by decide), em, bS_eq]
        exact congrArg _ mp_s
      refine ⟨_, _, _, _, hh, congrArg some hf, ?_, Or.inl ⟨_, rfl, by rw [mp_n (by decide), mp_s], rfl⟩⟩
      obtain ⟨d1, d2⟩ := h.dyn (T' := tsV T x 13 (tV T x 13 + v)) (Nat.le_refl _) ⟨rfl, rfl⟩ (fun a h1 h2 h3 => Agr.V (by omega))
      obtain ⟨a1, ⟨b1, b2, b3, b4, b5, b6, b7⟩, a3, a4, a5, a6⟩ := h
      have hj : ∀ j, j ≠ 0 → mp (mp m 82 0) 64 (tV T x 13 + v) j = m j := fun j hj => by rw [mp_j hj, mp_j hj]
      have hf' : ∀ f, f ≠ 64 → f ≠ 82 → mp (mp m 82 0) 64 (tV T x 13 + v) 0 f = m 0 f := fun f h1 h2 => by rw [mp_n h1, mp_n h2]
      refine ⟨tx, es, ts, as, ps, txs, ss, pd, own, a1, ⟨?_, b2, b3, b4, ?_, ?_, b7⟩, ?_, d1.mm (hf' _ (by decide) (by decide)) (fun j g1 g2 => hj j (by omega)), d2.mm (hf' _ (by decide) (by decide)) (hj _ (by decide)) (fun j g1 g2 => hj j (by omega)), a6⟩
      · unfold Txt at b1 ⊢
        rw [hj 1 (by decide), hf' 0 (by decide) (by decide)]
        exact b1
      · rw [tV_n (Or.inr (by decide))]
        rcases b5 with w | ⟨w, s0, s1, z1, z2, z3, z4, z5, z6⟩
        · exact Or.inl w
        · exact Or.inr ⟨w, s0, s1, z1, z2, z3, z4, by rw [tV_n (Or.inl (by omega))]; exact z5, by rw [tV_n (Or.inl (by omega))]; exact z6⟩
      · rw [tV_n (Or.inr (by decide))]
        exact b6
      · unfold TrI
        rw [hj 35 (by decide), hj 36 (by decide), hf' 60 (by decide) (by decide), hf' 63 (by decide) (by decide), mp_s, tV_s, tV_n (Or.inl (by omega))]
        exact ⟨y1, y2, y3, y4, y5, y6, rfl, by have := y8.1; omega, by omega⟩
    · have e2 : ¬ tV T x 13 + v ≤ 1000 := by rw [i_le, es', show (1000 : Int32).toInt = 1000 by decide]; exact c2
      have hh : h_11018 x v T = some (T, .inl 3) := by
        unfold h_11018
        rw [if_neg (by rw [l1]; omega), if_pos (l100.2 c.2), gd_e h.1.1, if_neg e2]
      have hf : f_12088 v m = (mp m 82 2, 0) := by
        unfold f_12088 f_12088_J32 f_12088_J33
        rw [e0, if_pos c, if_neg (by decide), y7', if_pos (show (1000 : Int32) < tV T x 13 + v by rw [i_lt, es', show (1000 : Int32).toInt = 1000 by decide]; omega), goes2 i_01 (Or.inl rfl), if_pos rfl, if_neg (by decide), bT_eq, if_pos rfl]
      exact ⟨_, _, _, _, hh, congrArg some hf, hI.mm m82, Or.inr ⟨3, rfl, by decide, mp_s⟩⟩
  · have hf : f_12088 v m = (mp m 82 1, 0) := by
      unfold f_12088 f_12088_J32 f_12088_J33
      rw [e0, if_neg c, if_pos rfl, goes2 (Or.inl rfl) (Or.inl rfl), if_neg (by decide), bT_eq, if_pos rfl]
    have hh : h_11018 x v T = some (T, .inl 1) := by
      unfold h_11018
      by_cases c1 : v < 1
      · rw [if_pos c1]
      · rw [if_neg c1, if_neg (fun w => by
          rw [l100] at w
          rw [l1] at c1
          omega)]
    exact ⟨_, _, _, _, hh, congrArg some hf, hI.mm m82, Or.inr ⟨1, rfl, by decide, mp_s⟩⟩
end TXC
