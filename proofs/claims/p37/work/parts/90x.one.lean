/-! the school: one test of one answer -/
section ONE
variable {x : Nat} {T T' : Tx} {m m' m1 m2 : Mx} {tx : List Int32} {es es' : List Nat} {ts ts' : Nat → List Nat} {as : List Nat} {ps : Nat → Nat} {txs : Nat → List Int32} {ss : Nat → Sx} {pd : Nat} {own : Nat → Nat} {v w : Int32} {i j k f I c d : Nat} {s : Sx}
theorem n2 {a : Nat} (h : 2 * a < 90000) : 2 * nI a = nI (2 * a) := by
  rw [i_eq, Int32.toInt_mul, nI_T (by omega), nI_T (by omega), show (2 : Int32).toInt = 2 by decide, Int.bmod_eq_of_le (by omega) (by omega)]
  omega
/-- the reference notes how a run ended -/
theorem j125 {l3 l5 b : Int32} (hi : i < 30) (hk : k < 8) (hb : b = 0 ∨ b = 1) : f_12085_J125 (nI i) (nI k) l3 b l5 m = some (ms (ms m 50 (nI (8 * i + k)) (m 0 50)) 51 (nI (8 * i + k)) b) := by
  have e8 : 8 * nI i + nI k = nI (8 * i + k) := n8 (by omega)
  have eb : vp_nar .boolean b = b := by
    rcases hb with e | e
    · rw [e]; exact nar_b0
    · rw [e]; exact nar_b1
  unfold f_12085_J125
  rw [e8, gd_e (vi_n (by omega) (by omega)), bS_eq, gd_e (vi_n (by omega) (by omega)), eb, bS_eq]
  rfl
theorem l75_0 {n : Nat} {l5 : Int32} {q : Nat} (hi : i < 30) (hk : k < 8) (hq : q < 32) : f_12085_L75 (n + 1) (nI i) (nI k) (nI q) 0 l5 m = some (ms (ms m 50 (nI (8 * i + k)) (m 0 50)) 51 (nI (8 * i + k)) 0) := by
  rw [f_12085_L75, gd_e (vi_n (by omega) (by omega))]
  by_cases c0 : mg m 42 (nI q) ≤ l5
  · rw [if_pos c0, j125 hi hk (Or.inl rfl)]
  · rw [if_neg c0, if_pos rfl, j125 hi hk (Or.inl rfl)]
theorem xg_0 {l : List Int32} : xg l 0 = l.getD 0 0 := xg_at (l := l) (v := 0) (by decide)
theorem xg_1 {l : List Int32} : xg l 1 = l.getD 1 0 := xg_at (l := l) (v := 1) (by decide)
/-- what the reference compares -/
theorem l75 {q : Nat} {O : List Int32} (hi : i < 30) (hk : k < 8) (hq : q < 32) (hc : bnd (m 42 q) 0 2) (hn : nI O.length = m 42 q) (hl : O.length ≤ 8) (hO : ∀ z, z < O.length → m 33 z = O.getD z 0) :
    f_12085_L75 1000 (nI i) (nI k) (nI q) 1 0 m = some (ms (ms m 50 (nI (8 * i + k)) (m 0 50)) 51 (nI (8 * i + k)) (if (m 42 q < 1 ∨ xg O 0 = m 43 (2 * q)) ∧ (m 42 q < 2 ∨ xg O 1 = m 43 (2 * q + 1)) then 1 else 0)) := by
  have e42 : mg m 42 (nI q) = nI O.length := by rw [mg_n (by omega)]; exact hn.symm
  have hl2 : O.length ≤ 2 := by
    have := hc.2
    rw [← hn, nI_T (by omega)] at this
    omega
  have ea : mg m 33 0 = m 33 0 := mg_n (m := m) (j := 33) (k := 0) (by omega)
  have eb : mg m 33 1 = m 33 1 := mg_n (m := m) (j := 33) (k := 1) (by omega)
  have ec : mg m 43 (2 * nI q + 0) = m 43 (2 * q) := by rw [Int32.add_zero, n2 (by omega)]; exact mg_n (by omega)
  have ed : mg m 43 (2 * nI q + 1) = m 43 (2 * q + 1) := by rw [n2 (by omega), nI_p1 (by omega)]; exact mg_n (by omega)
  have va : vi (2 * nI q + 0) 64 := by rw [Int32.add_zero, n2 (by omega)]; exact vi_n (by omega) (by omega)
  have vb : vi (2 * nI q + 1) 64 := by rw [n2 (by omega), nI_p1 (by omega)]; exact vi_n (by omega) (by omega)
  have i1 : (0 : Int32) + 1 = 1 := by decide
  have i2 : (1 : Int32) + 1 = 2 := by decide
  have v0 : vi (0 : Int32) 9 := by decide
  have v1 : vi (1 : Int32) 9 := by decide
  have vq : vi (nI q) 32 := vi_n (by omega) (by omega)
  rw [← hn]
  rcases (show O.length = 0 ∨ O.length = 1 ∨ O.length = 2 by omega) with z | z | z
  · rw [f_12085_L75, gd_e vq, e42, z, if_pos (by decide), if_pos ⟨Or.inl (by decide), Or.inl (by decide)⟩, j125 hi hk (Or.inr rfl)]
  · have o0 := hO 0 (by omega)
    rw [f_12085_L75, gd_e vq, e42, z, if_neg (by decide), if_neg (by decide), gd_e v0, gd_e va, ea, ec, o0, xg_0, i1]
    by_cases c0 : O.getD 0 0 = m 43 (2 * q)
    · rw [if_pos c0, if_pos ⟨Or.inr c0, Or.inl (by decide)⟩, f_12085_L75, gd_e vq, e42, z, if_pos (by decide), j125 hi hk (Or.inr rfl)]
    · rw [if_neg c0, if_neg (fun y => y.1.elim (by decide) c0), l75_0 hi hk hq]
  · have o0 := hO 0 (by omega)
    have o1 := hO 1 (by omega)
    rw [f_12085_L75, gd_e vq, e42, z, if_neg (by decide), if_neg (by decide), gd_e v0, gd_e va, ea, ec, o0, xg_0, xg_1, i1]
    by_cases c0 : O.getD 0 0 = m 43 (2 * q)
    · rw [if_pos c0, f_12085_L75, gd_e vq, e42, z, if_neg (by decide), if_neg (by decide), gd_e v1, gd_e vb, eb, ed, o1, i2]
      by_cases c1 : O.getD 1 0 = m 43 (2 * q + 1)
      · rw [if_pos c1, if_pos ⟨Or.inr c0, Or.inr c1⟩, f_12085_L75, gd_e vq, e42, z, if_pos (by decide), j125 hi hk (Or.inr rfl)]
      · rw [if_neg c1, if_neg (fun y => y.2.elim (by decide) c1), l75_0 hi hk hq]
    · rw [if_neg c0, if_neg (fun y => y.1.elim (by decide) c0), l75_0 hi hk hq]
/-- the reference's side of one test of one answer -/
theorem f85 (hC : PgC s I c d) (hM : PgM s I c d m) (hi : i < 30) (hj : j < 4) (hk : k < 8) (h47 : m 47 i = nI j) (hf : f ≤ 5000) (h37 : m 37 j = nI f) (hc : bnd (m 42 (8 * j + k)) 0 2) :
    ∃ (O C : List Int32) (f' : Nat) (e b : Int32) (m' : Mx), O.length ≤ 8 ∧ PasIs e O (m 42 (8 * j + k)) (m 43 (2 * (8 * j + k))) (m 43 (2 * (8 * j + k) + 1)) b ∧ f_12085 (nI i) (nI k) m = some m' ∧
    (∀ y, m' 50 y = if y = 8 * i + k then e else m 50 y) ∧ (∀ y, m' 51 y = if y = 8 * i + k then b else m 51 y) ∧ (∀ j, j ≠ 0 → j < 30 ∨ 34 < j → j ≠ 50 → j ≠ 51 → m' j = m j) ∧ (∀ g, g ≠ 49 → g ≠ 50 → g ≠ 51 → g ≠ 52 → g ≠ 53 → g ≠ 57 → m' 0 g = m 0 g) ∧
    ∀ s' : Sx, (∀ k, k < 13 → s'.1 k = s.1 k) → ∃ rW rM, f_10001 (nI f) (m 41 (2 * (8 * j + k))) (m 41 (2 * (8 * j + k) + 1)) s' = some rW ∧ f_3001 (nI f) (m 41 (2 * (8 * j + k))) (m 41 (2 * (8 * j + k) + 1)) s' = some rM ∧ RunX s' O C f' e rW ∧ RunX s' O C f' e rM := by
  obtain ⟨O, C, f', e, rR, g1, g2, g3, g4, g5, ⟨r1, r2, r3, r4, r5, r6, r7⟩, g7⟩ := run3 (x := m 41 (2 * (8 * j + k))) (y := m 41 (2 * (8 * j + k) + 1)) hf hC hM
  have e47 : mg m 47 (nI i) = nI j := by rw [mg_n (by omega)]; exact h47
  have e37 : mg m 37 (nI j) = nI f := by rw [mg_n (by omega)]; exact h37
  have e8 : 8 * nI j + nI k = nI (8 * j + k) := n8 (by omega)
  have e2 : 2 * nI (8 * j + k) = nI (2 * (8 * j + k)) := n2 (by omega)
  have e41 : mg m 41 (nI (2 * (8 * j + k))) = m 41 (2 * (8 * j + k)) := mg_n (by omega)
  have e41' : mg m 41 (nI (2 * (8 * j + k) + 1)) = m 41 (2 * (8 * j + k) + 1) := mg_n (by omega)
  have q42 : rR 42 = m 42 := r6 42 (by decide) (by decide)
  have q43 : rR 43 = m 43 := r6 43 (by decide) (by decide)
  have e42 : mg rR 42 (nI (8 * j + k)) = m 42 (8 * j + k) := by rw [mg_n (by omega), q42]
  have hf' : ∃ b, PasIs e O (m 42 (8 * j + k)) (m 43 (2 * (8 * j + k))) (m 43 (2 * (8 * j + k) + 1)) b ∧ f_12085 (nI i) (nI k) m = some (ms (ms rR 50 (nI (8 * i + k)) e) 51 (nI (8 * i + k)) b) := by
    refine ⟨if e = 0 ∧ nI O.length = m 42 (8 * j + k) ∧ (m 42 (8 * j + k) < 1 ∨ xg O 0 = m 43 (2 * (8 * j + k))) ∧ (m 42 (8 * j + k) < 2 ∨ xg O 1 = m 43 (2 * (8 * j + k) + 1)) then 1 else 0, rfl, ?_⟩
    unfold f_12085
    rw [e47, e8, e2, nI_p1 (by omega), gd_e (vi_n (by omega) (by omega)), gd_e (vi_n (by omega) (by omega)), gd_e (vi_n (by omega) (by omega)), gd_e (vi_n (by omega) (by omega)), gd_e (vi_n (by omega) (by omega)), e37, e41, e41', g5, bOv_some, show mf rR 50 = e from r1, show mf rR 57 = nI O.length from r2, e42]
    by_cases p0 : e = 0
    · rw [if_pos p0, gd_e (vi_n (by omega) (by omega))]
      by_cases p1 : nI O.length = m 42 (8 * j + k)
      · rw [if_pos p1, l75 (O := O) hi hk (by omega) (by rw [q42]; exact hc) (by rw [q42]; exact p1) g2 (fun z hz => r4 z hz), q42, q43, r1]
        by_cases p2 : (m 42 (8 * j + k) < 1 ∨ xg O 0 = m 43 (2 * (8 * j + k))) ∧ (m 42 (8 * j + k) < 2 ∨ xg O 1 = m 43 (2 * (8 * j + k) + 1))
        · rw [if_pos p2, if_pos ⟨p0, p1, p2⟩]
        · rw [if_neg p2, if_neg (fun y => p2 y.2.2)]
      · rw [if_neg p1, l75_0 hi hk (by omega), r1, if_neg (fun y => p1 y.2.1)]
    · rw [if_neg p0, l75_0 hi hk (by omega), r1, if_neg (fun y => p0 y.1)]
  obtain ⟨b, hb, hf'⟩ := hf'
  refine ⟨O, C, f', e, b, _, g2, hb, hf', fun y => ?_, fun y => ?_, fun j h0 h1 h2 h3 => ?_, fun g h1 h2 h3 h4 h5 h6 => ?_, g7⟩
  · rw [ms_j (by decide), ms_s (by omega), r6 50 (by decide) (by decide)]
  · rw [ms_s (by omega), ms_j (by decide), r6 51 (by decide) (by decide)]
  · rw [ms_j h3, ms_j h2, r6 j h0 h1]
  · rw [ms_j (by decide), ms_j (by decide), r7 g h1 h2 h3 h4 h5 h6]
/-- the class's side -/
theorem h44 {a p e t q : Nat} {O C : List Int32} {f' : Nat} {u : Int32} (hS : Shp T x) (ha : x + 74 ≤ a) (ka : tK T a = 2) (w2 : tW T a 2 = some p) (hP : PrgAt T p) (hp : p = x + 3 ∨ x + 74 ≤ p) (w1 : tW T a 1 = some e) (ke : tK T e = 3) (w4 : tW T a 4 = some (a + 1)) (k4 : RwAt T (a + 1) 8) (w5 : tW T a 5 = some (a + 3)) (k5 : RwAt T (a + 3) 8) (hT : TstR T m t q) (ht : x + 74 ≤ t) (hn : t ≠ a + 1) (hl4 : (tB T (a + 1)).length < 8) (hl5 : (tB T (a + 3)).length < 8)
    (ef : tV T e 1 = nI f) {rM : Sx} (h1 : f_3001 (nI f) (m 41 (2 * q)) (m 41 (2 * q + 1)) (pj T x p false) = some rM) (h2 : RunX (pj T x p false) O C f' u rM) :
    ∃ T' b, h_11044 x a t T = some T' ∧ PasIs u O (m 42 q) (m 43 (2 * q)) (m 43 (2 * q + 1)) b ∧ Shp T' x ∧ tZ T' = tZ T ∧ (∀ y, ¬ (x + 51 ≤ y ∧ y < x + 68) → y ≠ a + 1 → y ≠ a + 3 → Agr T T' y) ∧ tB T' (a + 1) = tB T (a + 1) ++ [u] ∧ tB T' (a + 3) = tB T (a + 3) ++ [b] ∧ ∀ y, tK T' y = tK T y ∧ (tK T y = 7 → tC T' y = tC T y) ∧ (¬ (x + 51 ≤ y ∧ y < x + 68) → tW T' y = tW T y) := by
  obtain ⟨T5, r3, r4⟩ := en_m hS hP hp h1 h2
  obtain ⟨y1, y2, y3, y4, y5, y6, y7, y8⟩ := r4
  have g5 : ∀ y, ¬ (x + 51 ≤ y ∧ y < x + 68) → Agr T T5 y := fun a ha => y7 a (by show ¬ (x + 51 ≤ a ∧ a < x + 51 + 9); omega) (by omega)
  obtain ⟨T9, hT9⟩ : ∃ T9, T9 = tsB T5 (a + 1) (tB T (a + 1) ++ [u]) := ⟨_, rfl⟩
  have g9 : ∀ y, y ≠ a + 1 → Agr T5 T9 y := fun y hy => by rw [hT9]; exact Agr.B hy
  have g59 : ∀ y, ¬ (x + 51 ≤ y ∧ y < x + 68) → y ≠ a + 1 → Agr T T9 y := fun y h1 h2 => (g5 y h1).tr (g9 y h2)
  have R6 := y1.2.2.2.2.1.2
  have kW9 : ∀ y, tK T9 y = tK T5 y ∧ tW T9 y = tW T5 y ∧ tC T9 y = tC T5 y := fun y => by rw [hT9]; exact ⟨rfl, rfl, rfl⟩
  obtain ⟨b, s1, s2⟩ := g8001 (u := x + 51) (r := x + 52) (O := O) (e := u) (hT.agr (T' := T9) (by rw [hT9]; show tZ T ≤ tZ T5; omega) (g59 t (by omega) hn)) ((kW9 _).1.trans R6.1) (by rw [(kW9 _).2.1]; exact (R6.2 0 (by decide)).1) ((kW9 _).1.trans (R6.2 0 (by decide)).2.1) (by rw [(g9 (x + 52) (by omega)).2.2.2.2.1]; exact y2) (by rw [(g9 (x + 51) (by omega)).2.2.2.2.2]; exact y5)
  have ga := g5 a (by omega)
  have gt := g59 t (by omega) hn
  have e4 : ∀ z, xadd (tC T5 (a + 1)) (tB T5 (a + 1)) z = tB T (a + 1) ++ [z] := fun z => by
    rw [(g5 (a + 1) (by omega)).2.1 k4.1, k4.2, (g5 (a + 1) (by omega)).2.2.2.2.1]
    unfold xadd
    rw [if_pos hl4]
  have e5 : ∀ z, xadd (tC T9 (a + 3)) (tB T9 (a + 3)) z = tB T (a + 3) ++ [z] := fun z => by
    rw [(g59 (a + 3) (by omega) (by omega)).2.1 k5.1, k5.2, (g59 (a + 3) (by omega) (by omega)).2.2.2.2.1]
    unfold xadd
    rw [if_pos hl5]
  have k9 : tK T9 (a + 3) = 7 := (g59 (a + 3) (by omega) (by omega)).1.trans k5.1
  refine ⟨tsB T9 (a + 3) (tB T (a + 3) ++ [b]), b, ?_, s2, ?_, ?_, fun y n1 n2 n3 => (g59 y n1 n2).tr (Agr.B n3), ?_, tB_s, fun y => ?_⟩
  · have b01 := s2.b
    unfold h_11044
    rw [gd_e hS.1, hS.2.2.2.2.2.1.1, bP_some, gd_e ka, w2, bP_some, gd_e hS.1, hS.2.2.2.2.1.1, bP_some, gd_e ka, w1, bP_some, gd_e ke, gd_e hT.1, gd_e hT.1, gd_e hS.2.2.2.2.2.1.2.1, ef, hT.2.2.2.2.1, hT.2.2.2.2.2.1]
    rw [show h_3001 x (x + 60) p (x + 51) (nI f) (m 41 (2 * q)) (m 41 (2 * q + 1)) T = some T5 from r3, bOv_some, gd_e (ga.1.trans ka), ga.2.2.1, w4, bP_some, gd_e y1.1, y1.2.2.2.2.1.1, bP_some, gd_e R6.1]
    unfold h_7003
    rw [gd_e R6.1, show tV T5 (x + 51) 8 = u from y5, bP_some, gd_e ((g5 (a + 1) (by omega)).1.trans k4.1), e4, bS_eq, ← hT9, gd_e ((kW9 a).1.trans (ga.1.trans ka)), (kW9 a).2.1, ga.2.2.1, w5, bP_some, gd_e ((kW9 x).1.trans y1.1), (kW9 x).2.1, y1.2.2.2.2.1.1, bP_some, gd_e (gt.1.trans hT.1), s1, bP_some, gd_e k9, gd_e k9, e5, e5, bS_eq, bS_eq]
    rcases b01 with z | z
    · rw [if_pos z, z]
    · rw [if_neg (by rw [z]; decide), z]
  · exact y1.of (fun y _ _ => ⟨(kW9 y).1, fun _ => (kW9 y).2.2⟩) (fun y g _ _ _ _ _ _ => congrFun (kW9 y).2.1 g) (by rw [hT9]; exact Nat.le_refl _)
  · rw [← y6, hT9]; rfl
  · rw [tB_n (by omega), hT9, tB_s]
  · exact ⟨(kW9 y).1.trans (y8 y).1, fun z => (kW9 y).2.2.trans ((y8 y).2 z), fun n1 => (kW9 y).2.1.trans (g5 y n1).2.2.1⟩
theorem gD_l {l : List Int32} {u : Int32} {z : Nat} (h : z < l.length) : (l ++ [u]).getD z 0 = l.getD z 0 := by
  rw [List.getD_eq_getElem?_getD, List.getElem?_append_left h, ← List.getD_eq_getElem?_getD]
theorem gD_e {l : List Int32} {u : Int32} : (l ++ [u]).getD l.length 0 = u := by
  rw [List.getD_eq_getElem?_getD, List.getElem?_append_right (Nat.le_refl _), Nat.sub_self]
  rfl
/-- both sides -/
theorem AnR.stp {a p t : Nat} {pss : Nat → Sx} (h : AnR x T m es ts a i p tx s pss) (hS : Shp T x) (hj : j < es.length) (h4 : es.length ≤ 4) (h47 : m 47 i = nI j) (hk : (ts j).length = k) (hk8 : k < 8) (hk' : (ts' j).length = k + 1) (hE : tK T (gNl es j) = 3 ∧ tV T (gNl es j) 1 = m 37 j ∧ bnd (m 37 j) 1 2000) (hT : TstR T m t (8 * j + k)) (ht : x + 74 ≤ t) (hn : t ≠ a + 1) (hpa : ∀ k, k < 28 → p + k ≠ a + 1 ∧ p + k ≠ a + 3) (hC : PgC s I c d) (hM : PgM s I c d m1) (hm : ∀ J, J = 2 ∨ 36 < J → m1 J = m J) :
    ∃ T' m', h_11044 x a t T = some T' ∧ f_12085 (nI i) (nI k) m1 = some m' ∧ AnR x T' m' es ts' a i p tx s pss ∧ Shp T' x ∧ tZ T' = tZ T ∧ (∀ y, ¬ (x + 51 ≤ y ∧ y < x + 68) → y ≠ a + 1 → y ≠ a + 3 → Agr T T' y) ∧ (∀ y, y ≠ 8 * i + k → m' 50 y = m 50 y) ∧ (∀ y, y ≠ 8 * i + k → m' 51 y = m 51 y) ∧ (∀ j, j ≠ 0 → j < 30 ∨ 34 < j → j ≠ 50 → j ≠ 51 → m' j = m1 j) ∧ (∀ g, g ≠ 49 → g ≠ 50 → g ≠ 51 → g ≠ 52 → g ≠ 53 → g ≠ 57 → m' 0 g = m1 0 g) ∧ PgM s I c d m' := by
  obtain ⟨a1, a2, a3, a4, ⟨b1, b2, b3, b4⟩, a5, ⟨c1, c2, c3, c4, c5, c6⟩, d1, d2, d3, ⟨j', e1, e2, e3, e4, e5, e6⟩, f1⟩ := h
  have : j' = j := by
    have := e2.symm.trans h47
    rw [nI_eq (by omega) (by omega)] at this
    exact this
  subst this
  rw [hk] at e4 e5 e6
  have hi : i < 30 := d2.1
  have f37 : m 37 j' = nI (m 37 j').toInt.toNat := of_nI (by have := hE.2.2.1; omega) (by have := hE.2.2.2; omega)
  have n37 := hm 37 (by decide)
  have n41 := hm 41 (by decide)
  have n42 := hm 42 (by decide)
  have n43 := hm 43 (by decide)
  obtain ⟨O, C, f', e, b, m', g1, g2, g3, g4, g5, g6, g7, g8⟩ := f85 (i := i) (j := j') (k := k) (f := (m 37 j').toInt.toNat) hC hM hi (by omega) hk8 (by rw [hm 47 (by decide)]; exact e2) (by have := hE.2.2.2; omega) (by rw [n37]; exact f37) (by rw [n42]; exact hT.2.2.2.2.2.2.2.1)
  rw [n41] at g8
  rw [n42, n43] at g2
  obtain ⟨qW, qM, q1, q2, q3, q4⟩ := g8 (pj T x p false) b4.pj
  obtain ⟨rW, rM, p1, p2, p3, p4⟩ := g8 s (fun _ _ => rfl)
  obtain ⟨T', b', k1, k2, k3, k4, k5, k6, k7, k8⟩ := h44 (m := m) (q := 8 * j' + k) hS a1 a3 b1 b2 b3 e3 hE.1 c1 c2 c3 c4 hT ht hn (by omega) (by omega) (hE.2.1.trans f37) q2 q4
  have eb : b' = b := k2.eq g2
  subst eb
  have s37 : m' 37 = m 37 := (g6 37 (by decide) (by decide) (by decide) (by decide)).trans n37
  have s41 : m' 41 = m 41 := (g6 41 (by decide) (by decide) (by decide) (by decide)).trans n41
  have s42 : m' 42 = m 42 := (g6 42 (by decide) (by decide) (by decide) (by decide)).trans n42
  have s43 : m' 43 = m 43 := (g6 43 (by decide) (by decide) (by decide) (by decide)).trans n43
  have s46 : m' 46 = m 46 := (g6 46 (by decide) (by decide) (by decide) (by decide)).trans (hm 46 (by decide))
  have s47 : m' 47 = m 47 := (g6 47 (by decide) (by decide) (by decide) (by decide)).trans (hm 47 (by decide))
  have s48 : m' 48 = m 48 := (g6 48 (by decide) (by decide) (by decide) (by decide)).trans (hm 48 (by decide))
  have s49 : m' 49 = m 49 := (g6 49 (by decide) (by decide) (by decide) (by decide)).trans (hm 49 (by decide))
  have s45 : m' 45 = m 45 := (g6 45 (by decide) (by decide) (by decide) (by decide)).trans (hm 45 (by decide))
  have s2 : m' 2 = m 2 := (g6 2 (by decide) (by decide) (by decide) (by decide)).trans (hm 2 (by decide))
  have ga := k5 a (by omega) (by omega) (by omega)
  have gp : ∀ z, z < 28 → Agr T T' (p + z) := fun z hz => k5 _ (by omega) (hpa z hz).1 (hpa z hz).2
  have o50 : ∀ y, y ≠ 8 * i + k → m' 50 y = m 50 y := fun y hy => by rw [g4, if_neg hy, hm 50 (by decide)]
  have o51 : ∀ y, y ≠ 8 * i + k → m' 51 y = m 51 y := fun y hy => by rw [g5, if_neg hy, hm 51 (by decide)]
  refine ⟨T', m', k1, g3, ⟨a1, by omega, ga.1.trans a3, by rw [s46, ga.2.2.2.2.2]; exact a4, ⟨by rw [ga.2.2.1]; exact b1, b2.agr (by omega) gp, b3, b4.agr gp⟩, by rw [s48, ga.2.2.2.2.2]; exact a5, ⟨by rw [ga.2.2.1]; exact c1, c2.of ⟨(k8 _).1, (k8 _).2.1⟩, by rw [ga.2.2.1]; exact c3, c4.of ⟨(k8 _).1, (k8 _).2.1⟩, by rw [ga.2.2.1]; exact c5, c6.of ⟨(k8 _).1, (k8 _).2.1⟩⟩, by rw [s49, ga.2.2.2.2.2]; exact d1, d2.of s45 s2, d3, ⟨j', hj, by rw [s47]; exact e2, by rw [ga.2.2.1]; exact e3, ?_, ?_, fun z hz => ?_⟩, ?_⟩, k3, k4, k5, o50, o51, g6, g7, ?_⟩
  · rw [k6, hk', List.length_append, e4]
    rfl
  · rw [k7, hk', List.length_append, e5]
    rfl
  · rw [hk'] at hz
    rw [k6, k7, s37, s41, s42, s43]
    by_cases e : z = k
    · subst e
      rw [g4, g5, if_pos rfl, if_pos rfl]
      refine ⟨?_, ?_, O, ?_, g2⟩
      · have := gD_e (l := tB T (a + 1)) (u := e)
        rw [e4] at this
        exact this
      · have := gD_e (l := tB T (a + 3)) (u := b')
        rw [e5] at this
        exact this
      · rw [f37]
        exact ⟨rM, p2, p4.2.2.2.1, p4.1⟩
    · rw [o50 _ (by omega), o51 _ (by omega), gD_l (by omega), gD_l (by omega)]
      exact e6 z (by omega)
  · rw [(k5 (a + 5) (by omega) (by omega) (by omega)).2.2.2.2.1]
    exact f1
  · unfold PgM at hM ⊢
    rw [g6 4 (by decide) (by decide) (by decide) (by decide), g6 5 (by decide) (by decide) (by decide) (by decide), g6 6 (by decide) (by decide) (by decide) (by decide), g6 7 (by decide) (by decide) (by decide) (by decide), g6 8 (by decide) (by decide) (by decide) (by decide), g6 14 (by decide) (by decide) (by decide) (by decide), g6 15 (by decide) (by decide) (by decide) (by decide), g7 14 (by decide) (by decide) (by decide) (by decide) (by decide) (by decide), g7 16 (by decide) (by decide) (by decide) (by decide) (by decide) (by decide)]
    exact hM
end ONE
