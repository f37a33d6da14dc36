/-! the law hands in: all of it -/
section HNU
variable {T T' : Tx} {m m0 m' : Mx} {tx : List Int32} {e0 n0 td i j k n l p N : Nat} {t : Nat → Nat} {A : Nat → List Int32} {v w : Int32} {es : List Nat} {ts : Nat → List Nat} {as : List Nat} {ps : Nat → Nat} {txs : Nat → List Int32} {ss : Nat → Sx} {pd : Nat} {own : Nat → Nat}
/-- a new answer in the books -/
theorem BkI.hnd (hB : BkI m A e0 n0 td t) (hm : HdM m m' n0 (nI p) j tx) (hp : p < 6) (hj : j < e0) (hn : n0 < 30) : BkI m' (u1 (u1 A 78 ((A 78).set n0 (nI (p + 8 * j + 32 * td + 65536 * 0)))) 79 ((A 79).set 1 (nI (n0 + 1)))) e0 (n0 + 1) td t := by
  obtain ⟨b1, b2, b3, ⟨l74, l75, l76, l77, l78, l79⟩, ⟨c1, c1', c1''⟩, cE, c0, cQ, cA⟩ := hB
  obtain ⟨⟨m74, mg⟩, m1, mJ, m46, m47, m48, m49, _, _⟩ := hm
  obtain ⟨A2, hA2⟩ : ∃ A2 : Nat → List Int32, A2 = u1 (u1 A 78 ((A 78).set n0 (nI (p + 8 * j + 32 * td + 65536 * 0)))) 79 ((A 79).set 1 (nI (n0 + 1))) := ⟨_, rfl⟩
  have o : ∀ z, z < 78 → A2 z = A z := fun z hz => by rw [hA2, u1_n _ _ (by omega), u1_n _ _ (by omega)]
  have o78 : A2 78 = (A 78).set n0 (nI (p + 8 * j + 32 * td + 65536 * 0)) := by rw [hA2, u1_n _ _ (by decide), u1_s]
  have o79 : A2 79 = (A 79).set 1 (nI (n0 + 1)) := by rw [hA2, u1_s]
  rw [← hA2]
  unfold BkE BkQ BkA at *
  unfold BkI BkE BkQ BkA
  rw [mg 64 (by omega), mg 65 (by omega), m74, mJ 37 (by decide) (by decide), mJ 38 (by decide) (by decide), mJ 39 (by decide) (by decide), mJ 40 (by decide) (by decide), mJ 41 (by decide) (by decide), mJ 42 (by decide) (by decide), mJ 43 (by decide) (by decide), mJ 44 (by decide) (by decide), o 74 (by decide), o 75 (by decide), o 76 (by decide), o 77 (by decide), o78, o79]
  refine ⟨b1, ⟨rfl, by omega⟩, b3, ⟨l74, l75, l76, l77, by rw [List.length_set]; exact l78, by rw [List.length_set]; exact l79⟩, ⟨by rw [gD_set_n (by decide)]; exact c1, gset (by omega), by rw [gD_set_n (by decide)]; exact c1''⟩, cE, c0, cQ, fun q hq => ?_⟩
  by_cases e : q = n0
  · refine ⟨p, j, td, 0, ?_, hp, ?_, hj, ?_, b3.2, ?_, by decide, ?_⟩
    · rw [m46, if_pos e]
    · rw [m47, if_pos e]
    · rw [m48, if_pos e]; exact b3.1
    · rw [m49, if_pos e]; rfl
    · rw [e, gset (by omega)]
  · obtain ⟨P', J', D', G', q1, q2, q3, q4, q5, q6, q7, q8, q9⟩ := cA q (by omega)
    refine ⟨P', J', D', G', ?_, q2, ?_, q4, ?_, q6, ?_, q8, ?_⟩
    · rw [m46, if_neg e]; exact q1
    · rw [m47, if_neg e]; exact q3
    · rw [m48, if_neg e]; exact q5
    · rw [m49, if_neg e]; exact q7
    · rw [gD_set_n (fun z => e z.symm)]; exact q9
/-- an answer is like itself -/
theorem lik_self {s : Sx} (h : gi s s = (s.1 5).length) (h1 : 1 ≤ (s.1 5).length) (h2 : (s.1 5).length ≤ 300) : likS s s = 100 := by
  unfold likS likV
  rw [h]
  obtain ⟨n, hn⟩ : ∃ n, n = (s.1 5).length := ⟨_, rfl⟩
  rw [← hn] at h1 h2 ⊢
  rw [nI_pl (by omega) (by omega), if_neg (fun z => by have := (nI_eq (b := 0) (by omega) (by omega)).1 z; omega)]
  have e2 : (200 : Int32) * nI n = nI (200 * n) := by
    rw [i_eq, Int32.toInt_mul, nI_TT (by omega), nI_TT (by omega), show (200 : Int32).toInt = 200 by decide, Int.bmod_eq_of_le (by omega) (by omega)]
    omega
  rw [e2, nI_dv (by omega) (by omega)]
  have e3 : 200 * n / (n + n) = 100 := by
    rw [show 200 * n = 100 * (n + n) by omega, Nat.mul_div_cancel _ (by omega)]
  rw [e3]
  rfl
/-- there are 30 answers -/
theorem c_handF (h : SInv 0 T m tx es ts as ps txs ss pd own) (hok : ∀ s0 s1, tkR s0 (tks tx) → f_5001 s0 = some s1 → s1.2 0 = 0) (hv : 0 ≤ v.toInt ∧ v.toInt < 6) (hJ : j < es.length) (cn : as.length = 30) : ∃ T' pd' own', h_13014 0 v (nI j) T = some (T', -1000003) ∧ SInv 0 T' m tx es ts as ps txs ss pd' own' ∧ tZ T ≤ tZ T' := by
  obtain ⟨T1, pd1, own1, g1, g4, g5⟩ := rdD h
  have h4 := g4.2.2.2.1.2.1
  have hP := g4.2.1.2.2.1
  obtain ⟨t1, t2, t3, t4, t5, t6⟩ := g4.ans
  have cf : tV T1 pd1 9 = 0 := by
    rcases g4.2.1.2.2.2.2.1 with w | ⟨_, s0, s2, r1, _, r3, r4⟩
    · rw [g5] at w; exact absurd w (by decide)
    · exact r4.2.1.trans (hok s0 s2 r1 r3)
  have ejT : (nI j).toInt = j := nI_T (by omega)
  have e37 : h_11037 v T = some (.inr ()) := by rw [g37, if_pos hv]
  have e40 : h_11040 0 (nI j) T = some (.inr (gNl es j)) := by rw [g40 h, if_pos (by omega), ejT, Int.toNat_natCast]
  have e43 : h_11043 0 T1 = some (.inr ()) := by rw [g43 (hS := t6) g4.2.1.2.1 hP.1, if_pos cf]
  have hh : h_11020 0 v (nI j) T = some (T1, .inl 3) := by
    unfold h_11020
    rw [e37, bXp_some, gd_e h.1.1, e40, bXp_some, gd_e h.1.1, g1, bOv_some, gd_e t6, e43, bXp_some, gd_e t6, t1, bP_some, gd_e t2, t3, if_neg (by rw [cn]; decide)]
  refine ⟨T1, pd1, own1, ?_, g4, rdz g1⟩
  unfold h_13014
  rw [hh]
  rfl
theorem a_handF : h_13014 0 6 0 T = some (T, -1000001) := by
  have hh : h_11020 0 6 0 T = some (T, .inl 2) := by
    unfold h_11020
    rw [g37, if_neg (by decide)]
    rfl
  unfold h_13014
  rw [hh]
  rfl
/-- what comes of handing in -/
def HnR (A : Nat → List Int32) (e0 td : Nat) (t : Nat → Nat) (tx : List Int32) (r : Option (Lx × Int32)) : Prop :=
  ∃ T' A' m' n1, r = some ((T', A'), 1) ∧ Dk 0 T' m' tx ∧ BkI m' A' e0 n1 td t ∧ (A' 79).getD 3 0 = (A 79).getD 3 0
theorem l_hnd (h : SInv 0 T m tx es ts as ps txs ss pd own) (hz : 80 ≤ tZ T) (hB : BkI m A e0 n0 td t) (hP : PrW tx n) (hn1 : 1 ≤ n ∧ n ≤ 300) (h3 : (A 79).getD 3 0 = nI n) (he0 : 0 < e0) (v : Int32) : HnR A e0 td t tx (l_13039 0 75 76 77 78 79 v (T, A)) := by
  have hlen := h.2.1.1.2.1
  have hok : ∀ s0 s1, tkR s0 (tks tx) → f_5001 s0 = some s1 → s1.2 0 = 0 := fun s0 s1 a b => (hP.ok hlen a b).1
  have hB' := hB
  obtain ⟨⟨b1, b1'⟩, ⟨b2, b2'⟩, ⟨b3, b3'⟩, ⟨l74, l75, l76, l77, l78, l79⟩, ⟨c1, c1', c1''⟩, cE, c0, cQ, cA⟩ := hB
  have h4 := h.2.2.2.1.2.1
  have h30 := h.2.2.2.2.1.2.1
  have en : n0 = as.length := by
    have q : m 0 74 = nI as.length := h.2.2.2.2.1.1
    rw [b2] at q
    exact (nI_eq (by omega) (by omega)).1 q
  have ee : e0 = es.length := by
    have q : m 0 65 = nI es.length := h.2.2.2.1.1
    rw [b1] at q
    exact (nI_eq (by omega) (by omega)).1 q
  obtain ⟨p, hp, ep⟩ := low_n v (n := 6) (by decide) (by decide) T
  obtain ⟨j, hj, ej⟩ := low_n (v >>> (3 &&& 31)) (n := e0) he0 (by omega) T
  have x0 : xg (A 79) 0 = nI e0 := by
    show xg (A 79) (nI 0) = _
    rw [xg_n (by omega), c1]
  have x1 : xg (A 79) 1 = nI n0 := by
    show xg (A 79) (nI 1) = _
    rw [xg_n (by omega), c1']
  have x2 : xg (A 79) 2 = nI td := by
    show xg (A 79) (nI 2) = _
    rw [xg_n (by omega), c1'']
  have v0 : vi 0 (A 79).length := by rw [l79]; exact vi_n (i := 0) (by omega) (by omega)
  have v1 : vi 1 (A 79).length := by rw [l79]; exact vi_n (i := 1) (by omega) (by omega)
  have v2 : vi 2 (A 79).length := by rw [l79]; exact vi_n (i := 2) (by omega) (by omega)
  have hpT : (nI p).toInt = p := nI_T (by omega)
  have hv : 0 ≤ (nI p).toInt ∧ (nI p).toInt < 6 := by rw [hpT]; omega
  unfold l_13039
  show HnR A e0 td t tx (bP (h_13001 v (nI 6) T) fun r23 => gd (vi 0 (A 79).length) (bP (h_13001 (v >>> (3 &&& 31)) (xg (A 79) 0) T) fun r24 => gd (tK T 0 = 12) (bO (h_13014 0 r23 r24 T) _)))
  rw [ep, bP_some, gd_e v0, x0, ej, bP_some, gd_e h.1.1]
  by_cases c30 : n0 = 30
  · obtain ⟨T1, pd1, own1, q1, q2, q3⟩ := c_handF (v := nI p) (j := j) h hok hv (by omega) (by omega)
    refine ⟨T1, A, m, n0, ?_, ⟨_, _, _, _, _, _, _, _, q2, by omega⟩, hB', rfl⟩
    rw [q1, bO_some, bS_eq]
    show gd (vi 1 (A 79).length) (if xg (A 79) 1 = 30 then _ else _) = _
    rw [gd_e v1, x1, if_pos (by rw [c30]; rfl), if_pos rfl]
    rfl
  · obtain ⟨T1, m1, q1, ⟨tx1, es1, ts1, as1, ps1, txs1, ss1, pd1, own1, q2⟩, q3, q4⟩ := c_hand2 (v := nI p) (j := j) h hok hv (by omega) (by omega)
    have etx : tx1 = tx := tx_of h q2 (q4.1.2 0 (by omega)) q4.2.1
    subst etx
    rw [← en] at q1 q4
    have hBk := hB'.hnd q4 hp hj (by omega)
    obtain ⟨A2, hA2⟩ : ∃ A2 : Nat → List Int32, A2 = u1 (u1 A 78 ((A 78).set n0 (nI (p + 8 * j + 32 * td + 65536 * 0)))) 79 ((A 79).set 1 (nI (n0 + 1))) := ⟨_, rfl⟩
    rw [← hA2] at hBk
    have o79 : A2 79 = (A 79).set 1 (nI (n0 + 1)) := by rw [hA2, u1_s]
    have l79' : (A2 79).length = 6 := by rw [o79, List.length_set]; exact l79
    have z1 : xg (A2 79) 1 = nI (n0 + 1) := by
      show xg (A2 79) (nI 1) = _
      rw [xg_n (by omega), o79, gset (by omega)]
    have z3 : xg (A2 79) 3 = nI n := by
      show xg (A2 79) (nI 3) = _
      rw [xg_n (by omega), o79, gD_set_n (by decide), h3]
    have w1 : vi 1 (A2 79).length := by rw [l79']; exact vi_n (i := 1) (by omega) (by omega)
    have w3 : vi 3 (A2 79).length := by rw [l79']; exact vi_n (i := 3) (by omega) (by omega)
    have n1 : as1.length = n0 + 1 := by
      have q : m1 0 74 = nI as1.length := q2.2.2.2.2.1.1
      have q' := q2.2.2.2.2.1.2.1
      rw [q4.1.1] at q
      exact ((nI_eq (by omega) (by omega)).1 q).symm
    have hi : n0 < as1.length := by omega
    obtain ⟨_, _, _, _, m47, _, _, m45, m2⟩ := q4
    have hRed := hn_red (ty := tx1) q2 hi hlen m45 m2
    have hpl : ((ss1 n0).1 5).length = n := by
      obtain ⟨s0, r1, _, r3, _⟩ := hRed
      exact (hP.ok hlen r1 r3).2
    have hself := (a_comm q2 hi hi).2.2.2.2
    have e13 : h_13014 0 (nI p) (nI j) T = some (T1, nI n0) := by
      unfold h_13014
      rw [q1]
      rfl
    obtain ⟨T2, y1, y2⟩ := hn_L (m := m1) (A := A2) (x6 := v) (x7 := nI p) (n := n) hP hBk m45 m2 (by rw [m47, if_pos rfl]) hj (t j) 12 0 430 30040 T1 (by omega) (by
      obtain ⟨F, D, f1, f2, f3, f4, f5, f6, f7, f8, f9⟩ := cE j hj
      omega) ⟨m1, ⟨_, _, _, _, _, _, _, _, q2, by omega⟩, Mw.r⟩ (by
      obtain ⟨F, D, f1, f2, f3, f4, f5, f6, f7, f8, f9⟩ := cE j hj
      omega) (by
      obtain ⟨F, D, f1, f2, f3, f4, f5, f6, f7, f8, f9⟩ := cE j hj
      omega)
    obtain ⟨m3, y3, y4⟩ := y1
    refine ⟨T2, A2, m3, n0 + 1, ?_, y3, hBk.of y4 (fun _ _ _ => rfl) l79' rfl rfl rfl, by rw [o79, gD_set_n (by decide)]⟩
    rw [e13, bO_some, bS_eq]
    show gd (vi 1 (A 79).length) (if xg (A 79) 1 = 30 then _ else gd (vi 1 (A 79).length) (gd (vi 2 (A 79).length) (gd (vi (xg (A 79) 1) (A 78).length) (bS (lSet (T1, A) 78 (xg (A 79) 1) (nI p + 8 * nI j + 32 * xg (A 79) 2)) fun S27 => gd (vi 1 (S27.2 79).length) (gd (vi 1 (S27.2 79).length) (bS (lSet S27 79 1 (xg (S27.2 79) 1 + 1)) _)))))) = _
    have ev : nI p + 8 * nI j + 32 * nI td = nI (p + 8 * j + 32 * td + 65536 * 0) := by
      rw [i_eq, Int32.toInt_add, Int32.toInt_add, Int32.toInt_mul, Int32.toInt_mul, nI_T (by omega), nI_T (by omega), nI_T (by omega), nI_T (by omega), show (8 : Int32).toInt = 8 by decide, show (32 : Int32).toInt = 32 by decide, Int.bmod_eq_of_le (n := 8 * (j : Int)) (by omega) (by omega), Int.bmod_eq_of_le (n := 32 * (td : Int)) (by omega) (by omega), Int.bmod_eq_of_le (n := (p : Int) + 8 * j) (by omega) (by omega), Int.bmod_eq_of_le (by omega) (by omega)]
      omega
    rw [gd_e v1, x1, if_neg (show ¬ nI n0 = 30 from fun z => c30 ((nI_eq (b := 30) (by omega) (by omega)).1 z)), gd_e v1, gd_e v2, gd_e (by rw [l78]; exact vi_n (by omega) (by omega)), x2, ev, lSet_e (by omega), bS_eq]
    have f79 : u1 A 78 ((A 78).set n0 (nI (p + 8 * j + 32 * td + 65536 * 0))) 79 = A 79 := u1_n _ _ (by decide)
    show gd (vi 1 (u1 A 78 ((A 78).set n0 (nI (p + 8 * j + 32 * td + 65536 * 0))) 79).length) (gd (vi 1 (u1 A 78 ((A 78).set n0 (nI (p + 8 * j + 32 * td + 65536 * 0))) 79).length) (bS (lSet (T1, u1 A 78 ((A 78).set n0 (nI (p + 8 * j + 32 * td + 65536 * 0)))) 79 (nI 1) (xg (u1 A 78 ((A 78).set n0 (nI (p + 8 * j + 32 * td + 65536 * 0))) 79) 1 + 1)) _)) = _
    rw [lSet_e (by omega), f79, gd_e v1, gd_e v1, x1, nI_p1 (by omega), ← hA2, bS_eq]
    show gd (vi 1 (A2 79).length) (if nI n0 = xg (A2 79) 1 - 1 then gd (tK T1 0 = 12) (bP (h_13022 0 (nI n0) T1) fun r30 => gd (vi 3 (A2 79).length) (if r30 = xg (A2 79) 3 then gd (tK T1 0 = 12) (bP (h_13023 0 (nI n0) (nI n0) T1) fun r32 => gd (vi 3 (A2 79).length) (if r32 = xg (A2 79) 3 then gd (tK T1 0 = 12) (bP (h_13024 0 (nI n0) (nI n0) T1) fun r34 => if r34 = 100 then gd (tK T1 0 = 12) (bO (h_13014 0 6 0 T1) _) else _) else _)) else _)) else _) = _
    rw [gd_e w1, z1, nI_pp (by omega), if_pos rfl, gd_e q2.1.1, a_parts q2 hi, bP_some, gd_e w3, hpl, z3, if_pos rfl, gd_e q2.1.1, a_common q2 hi hi, bP_some, gd_e w3, hself, hpl, if_pos rfl, gd_e q2.1.1, a_lik q2 hi hi, bP_some, lik_self hself (by omega) (by omega), if_pos rfl, gd_e q2.1.1, a_handF, bO_some, bS_eq, if_pos rfl]
    exact y2
end HNU
