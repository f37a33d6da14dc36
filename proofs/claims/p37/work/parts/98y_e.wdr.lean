/-! the school: withdraw and pass, with what changes -/
section WD2
variable {x : Nat} {T T' : Tx} {m m' m1 m2 : Mx} {tx : List Int32} {es es' : List Nat} {ts ts' : Nat → List Nat} {as : List Nat} {ps : Nat → Nat} {txs : Nat → List Int32} {ss : Nat → Sx} {pd : Nat} {own : Nat → Nat} {v w : Int32} {i j k : Nat}
/-- how many marks change -/
def wdF (F G : Nat → Int32) : Nat → Nat → Int32 → Int32
  | 0, _, b => b
  | q + 1, l, b => wdF F G q (l + 1) (if G l = F l then b + 0 else b + 1)
theorem wd_L2 {Tb : Tx} {e t bc bs : Nat} {F G : Nat → Int32} (hw : SInv x Tb m' tx es ts as ps txs ss pd own) (hB : tB Tb (x + 70) = (List.range as.length).map F) (hG : ∀ i, i < as.length → f_12098 (nI i) m' = some (G i)) :
    ∀ (q n l : Nat) (b : Int32), l + q = as.length → q < n → h_11017_L47 n x (nI j) (nI k) e t b (nI l) bc bs Tb = some (Tb, .inr (wdF F G q l b)) := by
  obtain ⟨t1, t2, t3, t4, t5, t6⟩ := hw.ans
  intro q
  induction q with
  | zero =>
    intro n l b hl hn'
    obtain ⟨n, rfl⟩ : ∃ q, n = q + 1 := ⟨n - 1, by omega⟩
    have c : nI as.length ≤ nI l := (nI_le' (by omega) (by omega)).2 (by omega)
    rw [h_11017_L47, gd_e t6, t1, bP_some, gd_e t2, t3, if_pos c]
    rfl
  | succ q ih =>
    intro n l b hl hn'
    obtain ⟨n, rfl⟩ : ∃ q, n = q + 1 := ⟨n - 1, by omega⟩
    have c : ¬ nI as.length ≤ nI l := fun w => by have := (nI_le' (by omega) (by omega)).1 w; omega
    obtain ⟨j', j1, j2, j3, a1, _⟩ := hw.an (i := l) (by omega)
    obtain ⟨M, p1, p2⟩ := hw.mrk (i := l) (by omega)
    have eM : M = G l := by
      rw [hG l (by omega)] at p2
      injection p2 with p2
      exact p2.symm
    have eg : as.getD (nI l).toNatClampNeg 0 = gNl as l := by rw [nI_C (by omega)]
    have ex : xg (tB Tb (x + 70)) (nI l) = F l := by
      rw [hB, xg_at (by rw [nI_T (by omega)]; omega), nI_T (by omega)]
      exact rg_g F (by omega)
    have r70 : tW Tb x 11 = some (x + 70) := hw.1.2.2.2.2.2.2.2.2.2.1.1
    have k70 : RwAt Tb (x + 70) 30 := hw.1.2.2.2.2.2.2.2.2.2.1.2
    rw [h_11017_L47, gd_e t6, t1, bP_some, gd_e t2, t3, if_neg c, gd_e t6, bP_some, gd_e t2, t3, gd_e (vi_n (by omega) (by omega)), bS_eq, eg, gd_e a1, gd_e a1, p1, bP_some, gd_e t6, r70, bP_some, gd_e k70.1, ex, eM, nI_p1 (by omega), wdF]
    by_cases c2 : G l = F l
    · rw [if_pos c2, if_pos c2]
      exact ih _ _ _ (by omega) (by omega)
    · rw [if_neg c2, if_neg c2]
      exact ih _ _ _ (by omega) (by omega)
theorem c_wdr2 (h : SInv x T m tx es ts as ps txs ss pd own) (hJ : j < es.length) (hk : k < (ts j).length) (c1 : m 44 (8 * j + k) = 0) : ∃ T' mW F G, mW = ms m 44 (nI (8 * j + k)) 1 ∧ (∀ i, i < as.length → f_12098 (nI i) m = some (F i)) ∧ (∀ i, i < as.length → f_12098 (nI i) mW = some (G i)) ∧ h_11017 x (nI j) (nI k) T = some (T', .inr (wdF F G as.length 0 0)) ∧ SInv x T' mW tx es ts as ps txs ss pd own ∧ tZ T' = tZ T := by
  have h4 := h.2.2.2.1.2.1
  have h30 := h.2.2.2.2.1.2.1
  have hE := h.2.2.2.1.2.2.2 j hJ
  have ht8 := hE.2.2.2.2.2.2.1
  have hT := (hE.2.2.2.2.2.2.2.2.2.2.2.2.2 k hk).2
  have k9 : tK T (gNl (ts j) k) = 9 := hT.1
  have v6 : tV T (gNl (ts j) k) 6 = m 44 (8 * j + k) := hT.2.2.2.2.2.2.2.2.2.2.1
  have ejT : (nI j).toInt = j := nI_T (by omega)
  have ekT : (nI k).toInt = k := nI_T (by omega)
  obtain ⟨mW, hmW⟩ : ∃ mW, mW = ms m 44 (nI (8 * j + k)) 1 := ⟨_, rfl⟩
  have w44 : ∀ q, mW 44 q = if q = 8 * j + k then 1 else m 44 q := fun q => by rw [hmW, ms_s (by omega)]
  have wj : ∀ J, J ≠ 44 → mW J = m J := fun J hJ => by rw [hmW, ms_j hJ]
  obtain ⟨F, hF⟩ := ch_n (P := fun i r => f_12098 (nI i) m = some r) (fun i hi => by
    obtain ⟨M, p1, p2⟩ := h.mrk hi
    exact ⟨M, p2⟩)
  have hW := (h.row (y := x + 70) (l := (List.range as.length).map F) (Or.inl rfl)).wdr hJ hk w44 wj
  obtain ⟨G, hG⟩ := ch_n (P := fun i r => f_12098 (nI i) mW = some r) (fun i hi => by
    obtain ⟨M, p1, p2⟩ := hW.mrk hi
    exact ⟨M, p2⟩)
  have p1 := wd_L2 (j := j) (k := k) (e := gNl es j) (t := gNl (ts j) k) (bc := 2) (bs := 28) hW (show tB (tsB T (x + 70) ((List.range as.length).map F)) (x + 70) = _ from tB_s) hG as.length 100 0 0 (by omega) (by omega)
  have p0 := mb_L h hF as.length 100 0 (by omega) (by omega)
  refine ⟨_, mW, F, G, hmW, hF, hG, ?_, hW, rfl⟩
  unfold h_11017 h_11045
  rw [gd_e h.1.1, g40 h, if_pos (by omega), bXp_some, ejT, Int.toNat_natCast, g41 hE, if_pos (by omega), bXp_some, ekT, Int.toNat_natCast, gd_e k9, v6, if_pos c1, gd_e h.1.1, gd_e h.1.1, h.1.2.2.2.2.2.2.2.2.2.1.1, bP_some, gd_e h.1.2.2.2.2.2.2.2.2.2.1.2.1, bS_eq]
  rw [show h_11045_L9 100 x 0 (tsB T (x + 70) []) = some (tsB T (x + 70) ((List.range as.length).map F)) from p0, bOv_some, gd_e (show tK (tsB T (x + 70) ((List.range as.length).map F)) (gNl (ts j) k) = 9 from k9), bS_eq]
  exact p1
theorem c_wdrF (h : SInv x T m tx es ts as ps txs ss pd own) (hJ : j < es.length) (hk : k < (ts j).length) (c1 : m 44 (8 * j + k) ≠ 0) : h_11017 x (nI j) (nI k) T = some (T, .inl 3) := by
  have h4 := h.2.2.2.1.2.1
  have hE := h.2.2.2.1.2.2.2 j hJ
  have ht8 := hE.2.2.2.2.2.2.1
  have hT := (hE.2.2.2.2.2.2.2.2.2.2.2.2.2 k hk).2
  have k9 : tK T (gNl (ts j) k) = 9 := hT.1
  have v6 : tV T (gNl (ts j) k) 6 = m 44 (8 * j + k) := hT.2.2.2.2.2.2.2.2.2.2.1
  have ejT : (nI j).toInt = j := nI_T (by omega)
  have ekT : (nI k).toInt = k := nI_T (by omega)
  unfold h_11017
  rw [gd_e h.1.1, g40 h, if_pos (by omega), bXp_some, ejT, Int.toNat_natCast, g41 hE, if_pos (by omega), bXp_some, ekT, Int.toNat_natCast, gd_e k9, v6, if_neg c1]
theorem c_wdrG (h : SInv x T m tx es ts as ps txs ss pd own) (hJ : j < es.length) (hk : (ts j).length = 0) : h_11017 x (nI j) 0 T = some (T, .inl 2) := by
  have h4 := h.2.2.2.1.2.1
  have hE := h.2.2.2.1.2.2.2 j hJ
  have ejT : (nI j).toInt = j := nI_T (by omega)
  unfold h_11017
  rw [gd_e h.1.1, g40 h, if_pos (by omega), bXp_some, ejT, Int.toNat_natCast, g41 hE, if_neg (by rw [i_0, hk]; omega)]
  rfl
theorem c_pas2 (h : SInv x T m tx es ts as ps txs ss pd own) (c : 1 ≤ v.toInt ∧ v.toInt ≤ 100) (c2 : (m 0 64).toInt + v.toInt ≤ 1000) : h_11018 x v T = some (tsV T x 13 (m 0 64 + v), .inr (m 0 64 + v)) ∧ SInv x (tsV T x 13 (m 0 64 + v)) (mp m 64 (m 0 64 + v)) tx es ts as ps txs ss pd own := by
  obtain ⟨y1, y2, y3, y4, y5, y6, y7, y8⟩ := h.2.2.1
  rw [y7] at c2 ⊢
  have l1 : v < 1 ↔ v.toInt < 1 := by rw [i_lt, i_1]
  have l100 : v ≤ 100 ↔ v.toInt ≤ 100 := by rw [i_le, show (100 : Int32).toInt = 100 by decide]
  have es' : (tV T x 13 + v).toInt = (tV T x 13).toInt + v.toInt := by
    have := y8.1
    have := y8.2
    rw [Int32.toInt_add, Int.bmod_eq_of_le (by omega) (by omega)]
  have e2 : tV T x 13 + v ≤ 1000 := by rw [i_le, es', show (1000 : Int32).toInt = 1000 by decide]; exact c2
  have hh : h_11018 x v T = some (tsV T x 13 (tV T x 13 + v), .inr (tV T x 13 + v)) := by
    unfold h_11018
    rw [if_neg (by rw [l1]; omega), if_pos (l100.2 c.2), gd_e h.1.1, if_pos e2, gd_e h.1.1, gd_e h.1.1, bS_eq, gd_e (show tK (tsV T x 13 (tV T x 13 + v)) x = 12 from h.1.1), tV_s]
  obtain ⟨d1, d2⟩ := h.dyn (T' := tsV T x 13 (tV T x 13 + v)) (Nat.le_refl _) ⟨rfl, rfl⟩ (fun a h1 h2 h3 => Agr.V (by omega))
  obtain ⟨a1, ⟨b1, b2, b3, b4, b5, b6, b7⟩, a3, a4, a5, a6⟩ := h
  have hj : ∀ j, j ≠ 0 → mp m 64 (tV T x 13 + v) j = m j := fun j hj => by rw [mp_j hj]
  have hf' : ∀ f, f ≠ 64 → f ≠ 82 → mp m 64 (tV T x 13 + v) 0 f = m 0 f := fun f h1 h2 => by rw [mp_n h1]
  refine ⟨hh, a1, ⟨?_, b2, b3, b4, ?_, ?_, b7⟩, ?_, d1.mm (hf' _ (by decide) (by decide)) (fun j g1 g2 => hj j (by omega)), d2.mm (hf' _ (by decide) (by decide)) (hj _ (by decide)) (fun j g1 g2 => hj j (by omega)), a6⟩
  · unfold Txt at b1 ⊢
    rw [hj 1 (by decide), hf' 0 (by decide) (by decide)]
    exact b1
  · rw [tV_n (Or.inr (by decide))]
    rcases b5 with w | ⟨w, s0, s1, z1, z2, z3, z4, z5, z6⟩
    · exact Or.inl w
    · exact Or.inr ⟨w, s0, s1, z1, z2, z3, z4, by rw [tV_n (Or.inl (by omega))]; exact z5, by rw [tV_n (Or.inl (by omega))]; exact z6⟩
  · rw [tV_n (Or.inr (by decide))]
    exact b6
  · unfold TrI
    rw [hj 35 (by decide), hj 36 (by decide), hf' 60 (by decide) (by decide), hf' 63 (by decide) (by decide), mp_s, tV_s, tV_n (Or.inl (by omega))]
    exact ⟨y1, y2, y3, y4, y5, y6, rfl, by have := y8.1; omega, by omega⟩
theorem c_pasF : h_11018 x 0 T = some (T, .inl 1) ∧ h_11018 x 101 T = some (T, .inl 1) := by
  refine ⟨?_, ?_⟩
  · unfold h_11018
    rw [if_pos (by decide)]
  · unfold h_11018
    rw [if_neg (by decide), if_neg (by decide)]
end WD2
