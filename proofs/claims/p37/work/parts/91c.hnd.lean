/-! the school: an answer is handed in, the loops -/
section HNL
variable {x : Nat} {T T' T0 : Tx} {m m' m1 m2 : Mx} {tx : List Int32} {es es' : List Nat} {ts ts' tsN : Nat → List Nat} {as : List Nat} {ps : Nat → Nat} {txs : Nat → List Int32} {ss : Nat → Sx} {pd : Nat} {own : Nat → Nat} {v w : Int32} {i j k a I c d : Nat} {s : Sx}
def rw7 : List (Nat × Nat) := [(4, 8), (5, 8), (6, 30)]
/-- a new answer: it takes the next 7 cells -/
theorem h1000_e {me e p : Nat} {u t : Int32} (hk : tK T me = 2) (hz : me + 1 = tZ T) (h7 : tV T me 7 = 0) : ∃ T', h_1000 me u e t p T = some T' ∧ tZ T' = me + 7 ∧ (∀ y, y < me → Agr T T' y) ∧ tK T' me = 2 ∧ (tV T' me 0 = u ∧ tV T' me 3 = t ∧ tV T' me 7 = 0) ∧ tW T' me 1 = some e ∧ tW T' me 2 = some p ∧
    (tW T' me 4 = some (me + 1) ∧ RwAt T' (me + 1) 8 ∧ tB T' (me + 1) = []) ∧ (tW T' me 5 = some (me + 3) ∧ RwAt T' (me + 3) 8 ∧ tB T' (me + 3) = []) ∧ tW T' me 6 = some (me + 5) ∧ RwAt T' (me + 5) 30 ∧ tB T' (me + 5) = [] := by
  obtain ⟨T3, hT3⟩ : ∃ T3, T3 = rws me rw7 T := ⟨_, rfl⟩
  have k : ∀ (l : List (Nat × Nat)), tK (rws me l T) me = 2 ∧ me < tZ (rws me l T) := fun l => k_rws hk (by omega)
  have z3 : tZ T3 = me + 7 := by rw [hT3, rws_Z, ← hz]; rfl
  have k3 : tK T3 me = 2 := by rw [hT3]; exact (k _).1
  obtain ⟨q1, q2, q3⟩ := rws_me (me := me) rw7 T (by omega)
  have r0 := rws_i (me := me) rw7 T (by omega) (by decide) 0 (by decide)
  have r1 := rws_i (me := me) rw7 T (by omega) (by decide) 1 (by decide)
  have r2 := rws_i (me := me) rw7 T (by omega) (by decide) 2 (by decide)
  rw [← hT3] at q1 q2 q3 r0 r1 r2
  rw [show tZ T + 2 * 0 = me + 1 by omega] at r0
  rw [show tZ T + 2 * 1 = me + 3 by omega] at r1
  rw [show tZ T + 2 * 2 = me + 5 by omega] at r2
  obtain ⟨T7, hT7⟩ : ∃ T7, T7 = tsW (tsV (tsW (tsV T3 me 0 u) me 1 (some e)) me 3 t) me 2 (some p) := ⟨_, rfl⟩
  have g : ∀ y, y ≠ me → Agr T3 T7 y := fun y hy => by
    rw [hT7]
    exact (((Agr.V hy).tr (Agr.W hy)).tr (Agr.V hy)).tr (Agr.W hy)
  have W : ∀ f, f ≠ 1 → f ≠ 2 → tW T7 me f = tW T3 me f := fun f h1 h2 => by
    rw [hT7, tW_n (Or.inr h2)]
    exact tW_n (Or.inr h1)
  have V : ∀ f, f ≠ 0 → f ≠ 3 → tV T7 me f = tV T3 me f := fun f h1 h2 => by
    rw [hT7]
    exact (tV_n (T := tsW (tsV T3 me 0 u) me 1 (some e)) (Or.inr h2)).trans (tV_n (Or.inr h1))
  refine ⟨T7, ?_, ?_, fun y hy => ?_, ?_, ⟨?_, ?_, ?_⟩, ?_, ?_, ⟨(W 4 (by decide) (by decide)).trans r0.1, RwAt.agr (n := 8) r0.2.1 (g _ (by omega)), (g _ (by omega)).2.2.2.2.1.trans r0.2.2⟩, ⟨(W 5 (by decide) (by decide)).trans r1.1, RwAt.agr (n := 8) r1.2.1 (g _ (by omega)), (g _ (by omega)).2.2.2.2.1.trans r1.2.2⟩, (W 6 (by decide) (by decide)).trans r2.1, RwAt.agr (n := 30) r2.2.1 (g _ (by omega)), (g _ (by omega)).2.2.2.2.1.trans r2.2.2⟩
  · unfold h_1000
    rw [n301.2.2.2.2.2.1, n301.2.2.2.2.2.2]
    rw [row_step (T := T) (k []).1 (k []).2]
    rw [row_step (T := (rowAt T me 4 8)) (k [(4, 8)]).1 (k [(4, 8)]).2]
    rw [row_step (T := (rowAt (rowAt T me 4 8) me 5 8)) (k [(4, 8), (5, 8)]).1 (k [(4, 8), (5, 8)]).2]
    have e3 : rowAt (rowAt (rowAt T me 4 8) me 5 8) me 6 30 = T3 := hT3.symm
    rw [e3, gd_e k3, bS_eq, gd_e (show tK (tsV T3 me 0 u) me = 2 from k3), bS_eq, gd_e (show tK (tsW (tsV T3 me 0 u) me 1 (some e)) me = 2 from k3), bS_eq, gd_e (show tK (tsV (tsW (tsV T3 me 0 u) me 1 (some e)) me 3 t) me = 2 from k3), bS_eq, ← hT7]
  · rw [hT7]; exact z3
  · refine Agr.tr ?_ (g y (by omega))
    rw [hT3]
    exact rws_o _ _ _ (by omega) (by omega)
  · rw [hT7]; exact k3
  · rw [hT7]
    refine (tV_n (T := tsW (tsV T3 me 0 u) me 1 (some e)) (Or.inr (by decide))).trans ?_
    exact tV_s
  · rw [hT7]; exact tV_s (T := tsW (tsV T3 me 0 u) me 1 (some e))
  · rw [V 7 (by decide) (by decide), q2]; exact h7
  · rw [hT7, tW_n (Or.inr (by decide))]
    exact tW_s (T := tsV T3 me 0 u)
  · rw [hT7]; exact tW_s
/-- what the new answer has in common with those before -/
theorem hd_67 {e : Nat} (h0 : SInv x T0 m tx es ts as ps txs ss pd own) (lo : Lo x es ts as ps pd a) (hs : PrgIs T0 pd s) (hp : Prt s (s.1 5).length) (hps : ∀ k, k < as.length → Prt (ss k) ((ss k).1 5).length) (hn : as.length < 30) (ka : tK T0 a = 2) (wa : tW T0 a 6 = some (a + 5)) :
    ∀ (q n l bc bs : Nat) (T : Tx), l + q = as.length → q < n → 2 * q ≤ bc → 160 * q ≤ bs → (∀ y, y < a + 7 → y ≠ a + 5 → Agr T0 T y) → tZ T0 ≤ tZ T → a + 7 ≤ tZ T → RwAt T (a + 5) 30 → (tB T (a + 5)).length = l → (∀ k, k < l → (tB T (a + 5)).getD k 0 = nI (gi s (ss k))) →
    ∃ T', h_11020_L67 n x v w e a (nI l) bc bs T = h_11020_L133 100 x v w e a 0 (bc - 2 * q) (bs - 160 * q) T' ∧ (∀ y, y < a + 7 → y ≠ a + 5 → Agr T0 T' y) ∧ tZ T0 ≤ tZ T' ∧ a + 7 ≤ tZ T' ∧ RwAt T' (a + 5) 30 ∧ (tB T' (a + 5)).length = as.length + 1 ∧ (tB T' (a + 5)).getD as.length 0 = nI (s.1 5).length ∧ ∀ k, k < as.length → (tB T' (a + 5)).getD k 0 = nI (gi s (ss k)) := by
  have lo' := lo
  obtain ⟨o1, o2, o3, o4⟩ := lo
  intro q
  induction q with
  | zero =>
    intro n l bc bs T hl hq hb hb' hg hZ hz hr hL hG
    obtain ⟨n, rfl⟩ : ∃ q, n = q + 1 := ⟨n - 1, by omega⟩
    have h : SInv x T m tx es ts as ps txs ss pd own := h0.ex lo' (h0.1.of (fun y h1 h2 => ⟨(hg y (by omega) (by omega)).1, (hg y (by omega) (by omega)).2.1⟩) (fun y f h1 h2 _ _ _ _ => by rw [(hg y (by omega) (by omega)).2.2.1]) hZ) hZ (fun y hy _ => hg y (by omega) (by omega)) MSn.r
    obtain ⟨t1, t2, t3, t4, t5, t6⟩ := h.ans
    have ga := hg a (by omega) (by omega)
    have hP := h.2.1.2.2.1
    have hs' := hs.agr (T' := T) (fun z hz => hg _ (by omega) (by omega))
    have ex : xadd (tC T (a + 5)) (tB T (a + 5)) (nI (s.1 5).length) = tB T (a + 5) ++ [nI (s.1 5).length] := by rw [hr.2]; exact xadd_e (by omega)
    refine ⟨tsB T (a + 5) (tB T (a + 5) ++ [nI (s.1 5).length]), ?_, fun y h1 h2 => (hg y h1 h2).tr (Agr.B h2), hZ, hz, hr, ?_, ?_, fun k hk => ?_⟩
    · rw [h_11020_L67, gd_e t6, t1, bP_some, gd_e t2, t3, if_pos ((nI_le' (by omega) (by omega)).2 (by omega)), gd_e (ga.1.trans ka), ga.2.2.1, wa, bP_some, gd_e t6, h.2.1.2.1, bP_some, gd_e hP.1, g4004 hP hs', bP_some, gd_e hr.1, ex, bS_eq]
      rfl
    · rw [tB_s, List.length_append, hL]
      show l + 1 = _
      omega
    · rw [tB_s]
      have := gD_e (l := tB T (a + 5)) (u := nI (s.1 5).length)
      rw [hL, show l = as.length by omega] at this
      exact this
    · rw [tB_s, gD_l (by omega)]
      exact hG k (by omega)
  | succ q ih =>
    intro n l bc bs T hl hq hb hb' hg hZ hz hr hL hG
    obtain ⟨n, rfl⟩ : ∃ q, n = q + 1 := ⟨n - 1, by omega⟩
    have h : SInv x T m tx es ts as ps txs ss pd own := h0.ex lo' (h0.1.of (fun y h1 h2 => ⟨(hg y (by omega) (by omega)).1, (hg y (by omega) (by omega)).2.1⟩) (fun y f h1 h2 _ _ _ _ => by rw [(hg y (by omega) (by omega)).2.2.1]) hZ) hZ (fun y hy _ => hg y (by omega) (by omega)) MSn.r
    obtain ⟨t1, t2, t3, t4, t5, t6⟩ := h.ans
    have ga := hg a (by omega) (by omega)
    have hP := h.2.1.2.2.1
    have hs' := hs.agr (T' := T) (fun z hz => hg _ (by omega) (by omega))
    obtain ⟨a1, a2, a3, a4, ⟨b1, b2, b3, b4⟩, _⟩ := h.2.2.2.2.1.2.2.2 l (by omega)
    obtain ⟨T1, e1, e2, e3⟩ := h4016_e hP hs' b2 b4 hp (hps l (by omega))
    have eg : as.getD (nI l).toNatClampNeg 0 = gNl as l := by rw [nI_C (by omega)]
    have g5 := e3 (a + 5) (by omega)
    have ex : xadd (tC T1 (a + 5)) (tB T1 (a + 5)) (nI (gi s (ss l))) = tB T (a + 5) ++ [nI (gi s (ss l))] := by rw [g5.2.1 hr.1, hr.2, g5.2.2.2.2.1]; exact xadd_e (by omega)
    obtain ⟨T', k1, k2⟩ := ih n (l + 1) (bc - 2) (bs - 160) (tsB T1 (a + 5) (tB T (a + 5) ++ [nI (gi s (ss l))])) (by omega) (by omega) (by omega) (by omega) (fun y h1 h2 => ((hg y h1 h2).tr (e3 y (by omega))).tr (Agr.B h2)) (by show tZ T0 ≤ tZ T1; omega) (by show a + 7 ≤ tZ T1; omega) (hr.of ⟨g5.1, g5.2.1⟩) (by rw [tB_s, List.length_append, hL]; rfl) (fun k hk => by
      rw [tB_s]
      by_cases ek : k = l
      · subst ek
        have := gD_e (l := tB T (a + 5)) (u := nI (gi s (ss k)))
        rw [hL] at this
        exact this
      · rw [gD_l (by omega)]
        exact hG k (by omega))
    refine ⟨T', ?_, k2⟩
    rw [h_11020_L67, gd_e t6, t1, bP_some, gd_e t2, t3, if_neg (fun z => by have := (nI_le' (by omega) (by omega)).1 z; omega), gd_e (ga.1.trans ka), ga.2.2.1, wa, bP_some, gd_e t6, h.2.1.2.1, bP_some, gd_e t6, bP_some, gd_e t2, t3, gd_e (vi_n (by omega) (by omega)), bS_eq, eg, gd_e a3, gd_e a3, b1, bP_some, gd_e hP.1, gd_e ⟨by omega, by omega⟩, e1, bO_some, gd_e (g5.1.trans hr.1), ex, bS_eq, nI_p1 (by omega), k1, show bc - 2 - 2 * q = bc - 2 * (q + 1) by omega, show bs - 160 - 160 * q = bs - 160 * (q + 1) by omega]
theorem n300 {a b : Nat} (h : 300 * a + b < 90000) : 300 * nI a + nI b = nI (300 * a + b) := by
  have h1 : (300 * nI a).toInt = 300 * a := by
    rw [Int32.toInt_mul, nI_T (by omega), show (300 : Int32).toInt = 300 by decide, Int.bmod_eq_of_le (by omega) (by omega)]
  rw [i_eq, Int32.toInt_add, h1, nI_T (by omega), nI_T (by omega), Int.bmod_eq_of_le (by omega) (by omega)]
  omega
/-- the reference keeps the text -/
theorem hd_70 {n0 : Nat} (hn : n0 < 30) (h74 : m 0 74 = nI n0) (h0 : m 0 0 = nI tx.length) (hl : tx.length ≤ 300) (hok : ∀ c, c ∈ tx → okS c) (h1 : ∀ k, k < tx.length → m 1 k = tx.getD k 0) : ∀ (q n l : Nat) (mm : Mx), l + q = tx.length → q < n → (∀ J, J ≠ 2 → mm J = m J) → (∀ y, y < 300 * n0 → mm 2 y = m 2 y) → (∀ k, k < l → mm 2 (300 * n0 + k) = tx.getD k 0) →
    ∃ m', (∀ J, J ≠ 2 → m' J = m J) ∧ (∀ y, y < 300 * n0 → m' 2 y = m 2 y) ∧ (∀ k, k < tx.length → m' 2 (300 * n0 + k) = tx.getD k 0) ∧ f_12092_L70 n v w (nI l) mm = f_12092_L150 1000 v w 0 (ms (ms (ms (ms m' 46 (nI n0) v) 47 (nI n0) w) 48 (nI n0) (m 0 64)) 49 (nI n0) 0) := by
  intro q
  induction q with
  | zero =>
    intro n l mm hq hqn e1 e2 e3
    obtain ⟨n, rfl⟩ : ∃ q, n = q + 1 := ⟨n - 1, by omega⟩
    have f0 : ∀ g, mm 0 g = m 0 g := fun g => by rw [e1 0 (by decide)]
    refine ⟨mm, e1, e2, fun k hk => e3 k (by omega), ?_⟩
    have g74 : mf mm 74 = nI n0 := (f0 74).trans h74
    rw [f_12092_L70, show mf mm 0 = nI tx.length from (f0 0).trans h0, if_pos ((nI_le' (by omega) (by omega)).2 (by omega)), g74, gd_e (vi_n (by omega) (by omega)), bS_eq, mfms (by decide), g74, gd_e (vi_n (by omega) (by omega)), bS_eq, mfms (by decide), mfms (by decide), g74, gd_e (vi_n (by omega) (by omega)), mfms (by decide), mfms (by decide), show mf mm 64 = m 0 64 from f0 64, bS_eq, mfms (by decide), mfms (by decide), mfms (by decide), g74, gd_e (vi_n (by omega) (by omega)), nar_b0, bS_eq]
  | succ q ih =>
    intro n l mm hq hqn e1 e2 e3
    obtain ⟨n, rfl⟩ : ∃ q, n = q + 1 := ⟨n - 1, by omega⟩
    have f0 : ∀ g, mm 0 g = m 0 g := fun g => by rw [e1 0 (by decide)]
    have g74 : mf mm 74 = nI n0 := (f0 74).trans h74
    have eg : mg mm 1 (nI l) = tx.getD l 0 := by rw [mg_n (by omega), e1 1 (by decide)]; exact h1 l (by omega)
    have hc : nch (tx.getD l 0) := (hok _ (gD_mem (by omega))).ch.2
    obtain ⟨m', k1, k2, k3, k4⟩ := ih n (l + 1) (ms mm 2 (nI (300 * n0 + l)) (tx.getD l 0)) (by omega) (by omega) (fun J hJ => by rw [ms_j hJ]; exact e1 J hJ) (fun y hy => by
      rw [ms_s (by omega)]
      dsimp only
      rw [if_neg (by omega)]
      exact e2 y hy) (fun k hk => by
      rw [ms_s (by omega)]
      dsimp only
      by_cases e : k = l
      · subst e; rw [if_pos rfl]
      · rw [if_neg (by omega)]
        exact e3 k (by omega))
    refine ⟨m', k1, k2, k3, ?_⟩
    rw [f_12092_L70, show mf mm 0 = nI tx.length from (f0 0).trans h0, if_neg (fun z => by have := (nI_le' (by omega) (by omega)).1 z; omega), gd_e (vi_n (by omega) (by omega)), g74, n300 (by omega), gd_e (vi_n (by omega) (by omega)), eg, nar_c hc, bS_eq, nI_p1 (by omega), k4]
theorem take_l {l : List Nat} {k : Nat} (h : k ≤ l.length) : (l.take k).length = k := by rw [List.length_take]; omega
theorem hd_L (hj : j < es.length) (hn : as.length < 30) (hC : PgC s I c d) (lo : Lo x es ts as ps pd a) : ∀ (q n n' l bc bs : Nat) (T : Tx) (m : Mx), l + q = (ts j).length → q < n → q < n' → q + 1 ≤ bc → 6 * q + 40 ≤ bs → SInv x T m tx es ts as ps txs ss pd own → AnR x T m es (fun j' => (ts j').take l) a as.length pd tx s ss → m 47 as.length = nI j → PgM s I c d m → tV T x 3 = 1 →
    ∃ T' m', h_11020_L133 n x v w (gNl es j) a (nI l) bc bs T = some (T', .inr (nI as.length)) ∧ f_12092_L150 n' v (nI j) (nI l) m = some (m', nI as.length) ∧ SINV x T' m' ∧ m' 0 82 = m 0 82 := by
  have lo' := lo
  obtain ⟨o1, o2, o3, o4⟩ := lo
  intro q
  induction q with
  | zero =>
    intro n n' l bc bs T m hl hq hq' hb hb' h hA h47 hM h3
    obtain ⟨n, rfl⟩ : ∃ q, n = q + 1 := ⟨n - 1, by omega⟩
    obtain ⟨n', rfl⟩ : ∃ q, n' = q + 1 := ⟨n' - 1, by omega⟩
    have h4 := h.2.2.2.1.2.1
    have hE := h.2.2.2.1.2.2.2 j hj
    have t8 := hE.2.2.2.2.2.2.1
    obtain ⟨t1, t2, t3, t4, t5, t6⟩ := h.ans
    have cc : nI (ts j).length ≤ nI l := (nI_le' (by omega) (by omega)).2 (by omega)
    have hA' : AnR x T m es ts a as.length pd tx s ss := hA.rx (fun _ _ => rfl) (fun _ _ _ => rfl) (fun j' hj' hq => ⟨hj', rfl, by
      have : j' = j := by
        have := hq.symm.trans h47
        rw [nI_eq (by omega) (by omega)] at this
        exact this
      subst this
      exact (List.take_of_length_le (by omega)).symm, rfl, fun _ _ => ⟨rfl, rfl, rfl, rfl, rfl, rfl, rfl⟩⟩) (fun _ _ => rfl)
    have e74 : mf m 74 = nI as.length := t5
    have hS := h.hnd (m' := mp m 74 (nI (as.length + 1))) lo' hA' hn h3 mp_s (fun g hg => mp_n hg) (fun J hJ => mp_j hJ)
    have e39 : mg m 39 (nI j) = nI (ts j).length := by rw [mg_n (by omega)]; exact hE.2.2.2.2.2.2.2.2.2.2.2.2.1
    refine ⟨_, _, ?_, ?_, hS, mp_n (by decide)⟩
    · rw [h_11020_L133, gd_e hE.2.2.1, g2002 hE, bP_some, if_pos cc, gd_e t6, t1, bP_some, gd_e t2, gd_e ⟨by rw [t3]; omega, by rw [hA.2.2.1]; decide⟩, gd_e ⟨by omega, by omega⟩, bS_eq, gd_e (show tK (tAdd T (x + 69) a) x = 12 from t6), show tW (tAdd T (x + 69) a) x 10 = some (x + 69) from t1, bP_some, gd_e (show tK (tAdd T (x + 69) a) (x + 69) = 1 from t2), tA_s, t3, List.length_append]
      show some (tAdd T (x + 69) a, Sum.inr (nI (as.length + 1) - 1)) = _
      rw [nI_pp (by omega)]
    · rw [f_12092_L150, gd_e (vi_n (by omega) (by omega)), e39, if_pos cc, e74, nI_p1 (by omega), bS_eq, show mf (mp m 74 (nI (as.length + 1))) 74 = nI (as.length + 1) from mp_s, nI_pp (by omega)]
  | succ q ih =>
    intro n n' l bc bs T m hl hq hq' hb hb' h hA h47 hM h3
    obtain ⟨n, rfl⟩ : ∃ q, n = q + 1 := ⟨n - 1, by omega⟩
    obtain ⟨n', rfl⟩ : ∃ q, n' = q + 1 := ⟨n' - 1, by omega⟩
    have h4 := h.2.2.2.1.2.1
    have hE := h.2.2.2.1.2.2.2 j hj
    have t8 := hE.2.2.2.2.2.2.1
    obtain ⟨t1, t2, t3, t4, t5, t6⟩ := h.ans
    have cc : ¬ nI (ts j).length ≤ nI l := fun z => by have := (nI_le' (by omega) (by omega)).1 z; omega
    have hT := hE.2.2.2.2.2.2.2.2.2.2.2.2.2 l (by omega)
    have lt := (o1 j hj).2 l (by omega)
    obtain ⟨T1, m1, p1, p2, p3, p4, p5, p6, p7, p8, p9, p10, p11⟩ := hA.stp (ts' := fun j' => (ts j').take (l + 1)) (m1 := m) (k := l) h.1 hj h4 h47 (take_l (by omega)) (by omega) (take_l (by omega)) ⟨hE.2.2.1, hE.2.2.2.2.2.2.2.2.1, hE.2.2.2.2.2.2.2.2.2.1⟩ hT.2 hT.1 (by omega) (fun z hz => ⟨by omega, by omega⟩) hC hM (fun _ _ => rfl)
    have hS : SInv x T1 m1 tx es ts as ps txs ss pd own := h.ex lo' p4 (by omega) (fun y hy hy' => p6 y hy' (by omega) (by omega)) ⟨fun J h1 h2 => p9 J (by omega) (by omega) (by omega) (by omega), fun f hf => p10 f (by omega) (by omega) (by omega) (by omega) (by omega) (by omega), fun i hi => ⟨fun k hk => by rw [p9 2 (by decide) (by decide) (by decide) (by decide)], fun J h1 h2 => by rw [p9 J (by omega) (by omega) (by omega) (by omega)], fun k hk => ⟨p7 _ (by omega), p8 _ (by omega)⟩⟩⟩
    obtain ⟨T', m', k1, k2, k3, k4⟩ := ih n n' (l + 1) (bc - 1) (bs - 6) T1 m1 (by omega) (by omega) (by omega) (by omega) (by omega) hS p3 (by rw [p9 47 (by decide) (by decide) (by decide) (by decide)]; exact h47) p11 (by rw [(p6 x (by omega) (by have := hA.1; omega) (by have := hA.1; omega)).2.2.2.2.2]; exact h3)
    have e39 : mg m 39 (nI j) = nI (ts j).length := by rw [mg_n (by omega)]; exact hE.2.2.2.2.2.2.2.2.2.2.2.2.1
    have hg : h_11041 (gNl es j) (nI l) T = some (.inr (gNl (ts j) l)) := by
      rw [g41 hE, if_pos ⟨by rw [nI_T (by omega)]; omega, by rw [nI_T (by omega)]; omega⟩, nI_T (by omega)]
      rfl
    refine ⟨T', m', ?_, ?_, k3, k4.trans (p10 82 (by decide) (by decide) (by decide) (by decide) (by decide) (by decide))⟩
    · rw [h_11020_L133, gd_e hE.2.2.1, g2002 hE, bP_some, if_neg cc, gd_e ⟨by omega, by omega⟩, hg, bXp_some, gd_e t6, p1, bOv_some, nI_p1 (by omega)]
      exact k1
    · rw [f_12092_L150, gd_e (vi_n (by omega) (by omega)), e39, if_neg cc, show mf m 74 = nI as.length from t5, p2, bOv_some, nI_p1 (by omega)]
      exact k2
end HNL
