/-! the school: withdraw, the call -/
section WDS
variable {x : Nat} {T T' : Tx} {m m' m1 m2 : Mx} {tx : List Int32} {es es' : List Nat} {ts ts' : Nat → List Nat} {as : List Nat} {ps : Nat → Nat} {txs : Nat → List Int32} {ss : Nat → Sx} {pd : Nat} {own : Nat → Nat} {v w : Int32} {i j k : Nat}
/-- a choice of numbers for the answers -/
theorem ch_n {P : Nat → Int32 → Prop} {n : Nat} (h : ∀ i, i < n → ∃ r, P i r) : ∃ F : Nat → Int32, ∀ i, i < n → P i (F i) := by
  have hx : ∀ i, ∃ r : Int32, i < n → P i r := fun i => by
    by_cases hi : i < n
    · obtain ⟨r, hr⟩ := h i hi
      exact ⟨r, fun _ => hr⟩
    · exact ⟨0, fun z => absurd z hi⟩
  exact Classical.axiomOfChoice hx
theorem rg_s (F : Nat → Int32) (n : Nat) : (List.range (n + 1)).map F = (List.range n).map F ++ [F n] := by
  rw [List.range_succ, List.map_append]
  rfl
theorem rg_g (F : Nat → Int32) {n i : Nat} (h : i < n) : ((List.range n).map F).getD i 0 = F i := by
  rw [List.getD_eq_getElem?_getD, List.getElem?_map, List.getElem?_range h]
  rfl
/-- the marks before -/
theorem mb_L (h : SInv x T m tx es ts as ps txs ss pd own) {F : Nat → Int32} (hF : ∀ i, i < as.length → f_12098 (nI i) m = some (F i)) : ∀ (q n l : Nat), l + q = as.length → q < n → h_11045_L9 n x (nI l) (tsB T (x + 70) ((List.range l).map F)) = some (tsB T (x + 70) ((List.range as.length).map F)) := by
  intro q
  induction q with
  | zero =>
    intro n l hl hn
    obtain ⟨n, rfl⟩ : ∃ q, n = q + 1 := ⟨n - 1, by omega⟩
    have h1 := h.row (y := x + 70) (l := (List.range l).map F) (Or.inl rfl)
    obtain ⟨t1, t2, t3, t4, t5, t6⟩ := h1.ans
    rw [h_11045_L9, gd_e t6, t1, bP_some, gd_e t2, t3, if_pos ((nI_le' (by omega) (by omega)).2 (by omega)), show l = as.length by omega]
  | succ q ih =>
    intro n l hl hn
    obtain ⟨n, rfl⟩ : ∃ q, n = q + 1 := ⟨n - 1, by omega⟩
    have h1 := h.row (y := x + 70) (l := (List.range l).map F) (Or.inl rfl)
    obtain ⟨t1, t2, t3, t4, t5, t6⟩ := h1.ans
    obtain ⟨j, j1, j2, j3, a1, _⟩ := h1.an (i := l) (by omega)
    obtain ⟨M, p1, p2⟩ := h1.mrk (i := l) (by omega)
    have eM : M = F l := by
      rw [hF l (by omega)] at p2
      injection p2 with p2
      exact p2.symm
    have eg : as.getD (nI l).toNatClampNeg 0 = gNl as l := by rw [nI_C (by omega)]
    have r70 : tW (tsB T (x + 70) ((List.range l).map F)) x 11 = some (x + 70) := h.1.2.2.2.2.2.2.2.2.2.1.1
    have k70 : RwAt (tsB T (x + 70) ((List.range l).map F)) (x + 70) 30 := h.1.2.2.2.2.2.2.2.2.2.1.2
    have ex : xadd 30 ((List.range l).map F) (F l) = (List.range (l + 1)).map F := by
      unfold xadd
      rw [if_pos (by rw [List.length_map, List.length_range]; omega), rg_s]
    rw [h_11045_L9, gd_e t6, t1, bP_some, gd_e t2, t3, if_neg (fun z => by have := (nI_le' (by omega) (by omega)).1 z; omega), gd_e t6, r70, bP_some, gd_e t6, bP_some, gd_e t2, t3, gd_e (vi_n (by omega) (by omega)), bS_eq, eg, gd_e a1, gd_e a1, p1, bP_some, gd_e k70.1, k70.2, tB_s, eM, ex, bS_eq, tsB2, nI_p1 (by omega)]
    exact ih n (l + 1) (by omega) (by omega)
theorem vi8 {a b n : Nat} (h : 8 * a + b < n) (hn : n < 1000) : vi (8 * nI a + nI b) n := by
  rw [n8 (by omega)]
  exact vi_n h (by omega)
/-- how many marks change -/
theorem wd_L {Tb : Tx} {e t bc bs : Nat} {F G : Nat → Int32} (h : SInv x T m tx es ts as ps txs ss pd own) (hJ : j < es.length) (hk : k < (ts j).length) (hw : SInv x Tb m' tx es ts as ps txs ss pd own) (hm : m' = ms m 44 (nI (8 * j + k)) 1) (h44 : m 44 (8 * j + k) = 0) (hB : tB Tb (x + 70) = (List.range as.length).map F)
    (hF : ∀ i, i < as.length → f_12098 (nI i) m = some (F i)) (hG : ∀ i, i < as.length → f_12098 (nI i) m' = some (G i)) (hn : ∀ i, i < as.length → m 47 i ≠ nI j → G i = F i) :
    ∀ (q n n' l : Nat) (b : Int32), l + q = as.length → q < n → q < n' → ∃ P, h_11017_L47 n x (nI j) (nI k) e t b (nI l) bc bs Tb = some (Tb, .inr P) ∧ f_12087_L47 n' (nI j) (nI k) 1 b (nI l) m = some (m', P) := by
  have h4 := h.2.2.2.1.2.1
  have ht8 := (h.2.2.2.1.2.2.2 j hJ).2.2.2.2.2.2.1
  obtain ⟨t1, t2, t3, t4, t5, t6⟩ := hw.ans
  have e74 : mf m 74 = nI as.length := h.ans.2.2.2.2.1
  have e8 : 8 * nI j + nI k = nI (8 * j + k) := n8 (by omega)
  have v8 : vi (nI (8 * j + k)) 32 := vi_n (by omega) (by omega)
  have back : ms m' 44 (nI (8 * j + k)) 0 = m := by
    rw [hm]
    funext J q
    by_cases eJ : J = 44
    · subst eJ
      rw [ms_s (by omega), ms_s (by omega)]
      dsimp only
      by_cases c : q = 8 * j + k
      · rw [if_pos c, c, h44]
      · rw [if_neg c, if_neg c]
    · rw [ms_j eJ, ms_j eJ]
  intro q
  induction q with
  | zero =>
    intro n n' l b hl hn' hn''
    obtain ⟨n, rfl⟩ : ∃ q, n = q + 1 := ⟨n - 1, by omega⟩
    obtain ⟨n', rfl⟩ : ∃ q, n' = q + 1 := ⟨n' - 1, by omega⟩
    have c : nI as.length ≤ nI l := (nI_le' (by omega) (by omega)).2 (by omega)
    refine ⟨b, ?_, ?_⟩
    · rw [h_11017_L47, gd_e t6, t1, bP_some, gd_e t2, t3, if_pos c]
    · rw [f_12087_L47, e74, if_pos c, e8, gd_e v8, nar_b1, bS_eq, ← hm]
  | succ q ih =>
    intro n n' l b hl hn' hn''
    obtain ⟨n, rfl⟩ : ∃ q, n = q + 1 := ⟨n - 1, by omega⟩
    obtain ⟨n', rfl⟩ : ∃ q, n' = q + 1 := ⟨n' - 1, by omega⟩
    have c : ¬ nI as.length ≤ nI l := fun w => by have := (nI_le' (by omega) (by omega)).1 w; omega
    obtain ⟨j', j1, j2, j3, a1, _⟩ := hw.an (i := l) (by omega)
    obtain ⟨M, p1, p2⟩ := hw.mrk (i := l) (by omega)
    have eM : M = G l := by
      rw [hG l (by omega)] at p2
      injection p2 with p2
      exact p2.symm
    have eg : as.getD (nI l).toNatClampNeg 0 = gNl as l := by rw [nI_C (by omega)]
    have ex : xg (tB Tb (x + 70)) (nI l) = F l := by
      rw [hB, xg_at (by rw [nI_T (by omega)]; omega), nI_T (by omega)]
      exact rg_g F (by omega)
    have e47 : mg m 47 (nI l) = m 47 l := mg_n (by omega)
    have r70 : tW Tb x 11 = some (x + 70) := hw.1.2.2.2.2.2.2.2.2.2.1.1
    have k70 : RwAt Tb (x + 70) 30 := hw.1.2.2.2.2.2.2.2.2.2.1.2
    have hh : h_11017_L47 (n + 1) x (nI j) (nI k) e t b (nI l) bc bs Tb = if G l = F l then h_11017_L47 n x (nI j) (nI k) e t (b + 0) (nI (l + 1)) bc bs Tb else h_11017_L47 n x (nI j) (nI k) e t (b + 1) (nI (l + 1)) bc bs Tb := by
      rw [h_11017_L47, gd_e t6, t1, bP_some, gd_e t2, t3, if_neg c, gd_e t6, bP_some, gd_e t2, t3, gd_e (vi_n (by omega) (by omega)), bS_eq, eg, gd_e a1, gd_e a1, p1, bP_some, gd_e t6, r70, bP_some, gd_e k70.1, ex, eM, nI_p1 (by omega)]
    have hf : f_12087_L47 (n' + 1) (nI j) (nI k) 1 b (nI l) m = if m 47 l = nI j then (if G l = F l then f_12087_L47 n' (nI j) (nI k) 1 (b + 0) (nI (l + 1)) m else f_12087_L47 n' (nI j) (nI k) 1 (b + 1) (nI (l + 1)) m) else f_12087_L47 n' (nI j) (nI k) 1 b (nI (l + 1)) m := by
      rw [f_12087_L47, e74, if_neg c, gd_e (vi_n (by omega) (by omega)), e47, e8, hF l (by omega), bP_some, gd_e v8, nar_b1, bS_eq, ← hm, hG l (by omega), bP_some]
      unfold f_12087_J105
      rw [e8, gd_e v8, gd_e v8, nar_b0, bS_eq, bS_eq, back, nI_p1 (by omega)]
    rw [hh, hf]
    by_cases c1 : m 47 l = nI j
    · rw [if_pos c1]
      by_cases c2 : G l = F l
      · rw [if_pos c2, if_pos c2]
        exact ih _ _ _ _ (by omega) (by omega) (by omega)
      · rw [if_neg c2, if_neg c2]
        exact ih _ _ _ _ (by omega) (by omega) (by omega)
    · rw [if_neg c1, if_pos (hn l (by omega) c1), Int32.add_zero]
      exact ih _ _ _ _ (by omega) (by omega) (by omega)
/-- a withdrawn test of another exercise changes no mark -/
theorem mk_oth (h : SInv x T m tx es ts as ps txs ss pd own) (hj : ∀ J, J ≠ 44 → m' J = m J) (h44 : ∀ q, q ≠ 8 * j + k → m' 44 q = m 44 q) (hk : k < 8) (hi : i < as.length) (hn : m 47 i ≠ nI j) : ∃ M, f_12098 (nI i) m = some M ∧ f_12098 (nI i) m' = some M := by
  obtain ⟨j', j1, j2, j3, a1, a2, a3, a4, a5, a6, a7, a8, a9, ⟨a0, b1, b2, b3⟩, _⟩ := h.an hi
  have ht8 := a3.2.2.2.2.2.2.1
  have hne : j' ≠ j := fun e => hn (by rw [a4, e])
  have a3' : ExR x T m' (gNl es j') j' (ts j') := a3.m44 hj (fun k' hk' => h44 _ (by omega))
  obtain ⟨P, p1, p2⟩ := pts_e a3 a8 (fun k hk => (a9 k hk).2) a4 j3 j2
  obtain ⟨P', p1', p2'⟩ := pts_e a3' a8 (fun k hk => by rw [hj 51 (by decide)]; exact (a9 k hk).2) (by rw [hj 47 (by decide)]; exact a4) j3 j2
  rw [p1] at p1'
  cases p1'
  obtain ⟨M, q1, q2⟩ := mk_e a3 a1 a2 ⟨b1, b2⟩ b3 a4 j3 j2 p2
  obtain ⟨M', q1', q2'⟩ := mk_e a3' a1 a2 (by rw [hj 48 (by decide)]; exact ⟨b1, b2⟩) (by rw [hj 49 (by decide)]; exact b3) (by rw [hj 47 (by decide)]; exact a4) j3 j2 p2'
  rw [q1] at q1'
  cases q1'
  exact ⟨M, q2, q2'⟩
theorem c_withdraw (h : SInv x T m tx es ts as ps txs ss pd own) : SameT (h_11017 x v w T) (f_12087 v w m) cB (SINV x) := by
  have hI : SINV x T m := ⟨_, _, _, _, _, _, _, _, _, h⟩
  have h4 := h.2.2.2.1.2.1
  by_cases c : (0 ≤ v.toInt ∧ v.toInt < es.length) ∧ 0 ≤ w.toInt ∧ w.toInt < (ts v.toInt.toNat).length
  · have hJ : v.toInt.toNat < es.length := by omega
    have hE := h.2.2.2.1.2.2.2 v.toInt.toNat hJ
    have ht8 := hE.2.2.2.2.2.2.1
    have hk : w.toInt.toNat < (ts v.toInt.toNat).length := by omega
    have ev := of_nI (v := v) c.1.1 (by omega)
    have ew := of_nI (v := w) c.2.1 (by omega)
    have hT := (hE.2.2.2.2.2.2.2.2.2.2.2.2.2 w.toInt.toNat hk).2
    have k9 : tK T (gNl (ts v.toInt.toNat) w.toInt.toNat) = 9 := hT.1
    have v6 : tV T (gNl (ts v.toInt.toNat) w.toInt.toNat) 6 = m 44 (8 * v.toInt.toNat + w.toInt.toNat) := hT.2.2.2.2.2.2.2.2.2.2.1
    have e8 : 8 * v + w = nI (8 * v.toInt.toNat + w.toInt.toNat) := by rw [ev, ew, nI_T (by omega), nI_T (by omega)]; exact n8 (by omega)
    have v8 : vi (8 * v + w) 32 := by rw [e8]; exact vi_n (by omega) (by omega)
    have e44 : mg m 44 (8 * v + w) = m 44 (8 * v.toInt.toNat + w.toInt.toNat) := by rw [e8]; exact mg_n (by omega)
    by_cases c1 : m 44 (8 * v.toInt.toNat + w.toInt.toNat) = 0
    · obtain ⟨m0, hm0⟩ : ∃ m0, m0 = mp m 82 0 := ⟨_, rfl⟩
      have h0 : SInv x T m0 tx es ts as ps txs ss pd own := by rw [hm0]; exact h.m0
      obtain ⟨mW, hmW⟩ : ∃ mW, mW = ms m0 44 (nI (8 * v.toInt.toNat + w.toInt.toNat)) 1 := ⟨_, rfl⟩
      have w44 : ∀ q, mW 44 q = if q = 8 * v.toInt.toNat + w.toInt.toNat then 1 else m0 44 q := fun q => by rw [hmW, ms_s (by omega)]
      have wj : ∀ J, J ≠ 44 → mW J = m0 J := fun J hJ => by rw [hmW, ms_j hJ]
      obtain ⟨F, hF⟩ := ch_n (P := fun i r => f_12098 (nI i) m0 = some r) (fun i hi => by
        obtain ⟨M, p1, p2⟩ := h0.mrk hi
        exact ⟨M, p2⟩)
      have hW := (h0.row (y := x + 70) (l := (List.range as.length).map F) (Or.inl rfl)).wdr hJ hk w44 wj
      obtain ⟨G, hG⟩ := ch_n (P := fun i r => f_12098 (nI i) mW = some r) (fun i hi => by
        obtain ⟨M, p1, p2⟩ := hW.mrk hi
        exact ⟨M, p2⟩)
      have z44 : m0 44 (8 * v.toInt.toNat + w.toInt.toNat) = 0 := by rw [hm0, mp_j (by decide)]; exact c1
      obtain ⟨P, p1, p2⟩ := wd_L (e := gNl es v.toInt.toNat) (t := gNl (ts v.toInt.toNat) w.toInt.toNat) (bc := 2) (bs := 28) h0 hJ hk hW hmW z44 (show tB (tsB T (x + 70) ((List.range as.length).map F)) (x + 70) = _ from tB_s) hF hG (fun i hi hn => by
        obtain ⟨M, q1, q2⟩ := mk_oth (m' := mW) h0 wj (fun q hq => by rw [w44, if_neg hq]) (by omega) hi hn
        rw [hF i hi] at q1
        rw [hG i hi] at q2
        injection q1 with q1
        injection q2 with q2
        rw [q1, q2]) as.length 100 1000 0 0 (by omega) (by have := h.2.2.2.2.1.2.1; omega) (by have := h.2.2.2.2.1.2.1; omega)
      have p0 := mb_L h0 hF as.length 100 0 (by omega) (by have := h.2.2.2.2.1.2.1; omega)
      rw [← ev, ← ew] at p1 p2
      have hh : h_11017 x v w T = some (tsV (tsB T (x + 70) ((List.range as.length).map F)) (gNl (ts v.toInt.toNat) w.toInt.toNat) 6 1, .inr P) := by
        unfold h_11017 h_11045
        rw [gd_e h.1.1, g40 h, if_pos c.1, bXp_some, g41 hE, if_pos c.2, bXp_some, gd_e k9, v6, if_pos c1, gd_e h.1.1, gd_e h.1.1, h.1.2.2.2.2.2.2.2.2.2.1.1, bP_some, gd_e h.1.2.2.2.2.2.2.2.2.2.1.2.1, bS_eq]
        rw [show h_11045_L9 100 x 0 (tsB T (x + 70) []) = some (tsB T (x + 70) ((List.range as.length).map F)) from p0, bOv_some, gd_e (show tK (tsB T (x + 70) ((List.range as.length).map F)) (gNl (ts v.toInt.toNat) w.toInt.toNat) = 9 from k9), bS_eq]
        exact p1
      have hf : f_12087 v w m = some (mW, P) := by
        unfold f_12087
        rw [f83 h, if_pos c, bP_some, if_neg (by decide), gd_e v8, e44, if_pos c1]
        unfold f_12087_J32
        rw [goes2 i_01 i_01, if_pos rfl, if_pos rfl, bT_eq, if_neg (by decide), ← hm0]
        exact p2
      exact ⟨_, _, _, _, hh, hf, ⟨_, _, _, _, _, _, _, _, _, hW⟩, Or.inl ⟨_, rfl, by rw [wj 0 (by decide), hm0, mp_s], rfl⟩⟩
    · have hh : h_11017 x v w T = some (T, .inl 3) := by
        unfold h_11017
        rw [gd_e h.1.1, g40 h, if_pos c.1, bXp_some, g41 hE, if_pos c.2, bXp_some, gd_e k9, v6, if_neg c1]
      have hf : f_12087 v w m = some (mp m 82 2, 0) := by
        unfold f_12087
        rw [f83 h, if_pos c, bP_some, if_neg (by decide), gd_e v8, e44, if_neg c1]
        unfold f_12087_J31 f_12087_J32
        rw [goes2 i_01 (Or.inl rfl), if_pos rfl, if_neg (by decide), bT_eq, if_pos rfl]
      exact ⟨_, _, _, _, hh, hf, hI.mm m82, Or.inr ⟨3, rfl, by decide, mp_s⟩⟩
  · have hh : h_11017 x v w T = some (T, .inl 2) := by
      unfold h_11017
      rw [gd_e h.1.1, g40 h]
      by_cases c1 : 0 ≤ v.toInt ∧ v.toInt < es.length
      · rw [if_pos c1, bXp_some, g41 (h.2.2.2.1.2.2.2 v.toInt.toNat (by omega)), if_neg (fun q => c ⟨c1, q⟩)]
        rfl
      · rw [if_neg c1]
        rfl
    have hf : f_12087 v w m = some (mp m 82 1, 0) := by
      unfold f_12087 f_12087_J31 f_12087_J32
      rw [f83 h, if_neg c, bP_some, if_pos rfl, goes2 (Or.inl rfl) (Or.inl rfl), if_neg (by decide), bT_eq, if_pos rfl]
    exact ⟨_, _, _, _, hh, hf, hI.mm m82, Or.inr ⟨2, rfl, by decide, mp_s⟩⟩
end WDS
