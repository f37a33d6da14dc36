/-! the law: a new test -/
section SCT
variable {T T' : Tx} {m m0 m' : Mx} {tx : List Int32} {e0 n0 td i j k n l p N F D : Nat} {t : Nat → Nat} {A : Nat → List Int32} {v w : Int32} {es : List Nat} {ts : Nat → List Nat} {as : List Nat} {ps : Nat → Nat} {txs : Nat → List Int32} {ss : Nat → Sx} {pd : Nat} {own : Nat → Nat}
/-- the arrays of the books with a new test -/
noncomputable def tA2 (A : Nat → List Int32) (j q n : Nat) (W f u r : Int32) : Nat → List Int32 :=
  u1 (u1 (u1 (u1 A 74 ((A 74).set q W)) 75 (((A 75).set (2 * q) f).set (2 * q + 1) u)) 76 ((A 76).set q r)) 77 ((A 77).set (4 + j) (nI n))
theorem tA2_o {j q n z : Nat} {W f u r : Int32} (h : z < 74 ∨ 77 < z) : tA2 A j q n W f u r z = A z := by
  unfold tA2
  rw [u1_n _ _ (by omega), u1_n _ _ (by omega), u1_n _ _ (by omega), u1_n _ _ (by omega)]
theorem tA2_4 {j q n : Nat} {W f u r : Int32} : tA2 A j q n W f u r 74 = (A 74).set q W := by
  unfold tA2
  rw [u1_n _ _ (by decide), u1_n _ _ (by decide), u1_n _ _ (by decide), u1_s]
theorem tA2_5 {j q n : Nat} {W f u r : Int32} : tA2 A j q n W f u r 75 = ((A 75).set (2 * q) f).set (2 * q + 1) u := by
  unfold tA2
  rw [u1_n _ _ (by decide), u1_n _ _ (by decide), u1_s]
theorem tA2_6 {j q n : Nat} {W f u r : Int32} : tA2 A j q n W f u r 76 = (A 76).set q r := by
  unfold tA2
  rw [u1_n _ _ (by decide), u1_s]
theorem tA2_7 {j q n : Nat} {W f u r : Int32} : tA2 A j q n W f u r 77 = (A 77).set (4 + j) (nI n) := by
  unfold tA2
  rw [u1_s]
theorem BkI.tst (hB : BkI m A e0 n0 td t) {q W c u r : Nat} {f : Int32} (hj : j < e0) (ht : t j < 8) (hq : q = 8 * j + t j) (hm : AdM m m' j (t j) (nI W) f (nI u) (nI c) (nI u) (nI r)) (hW : 1 ≤ W ∧ W ≤ 10) (hc : c ≤ 2) (hu : u < 10) (hr : r < 10) : BkI m' (tA2 A j q (t j + 1) (nI W) f (nI u) (nI (c + 4 * u + 64 * r))) e0 n0 td (fun i => if i = j then t j + 1 else t i) := by
  obtain ⟨b1, b2, b3, ⟨l74, l75, l76, l77, l78, l79⟩, ⟨c1, c1', c1''⟩, cE, c0, cQ, cA⟩ := hB
  obtain ⟨mg, m39, m40, m41, m42, m43, m44, mJ⟩ := hm
  rw [← hq] at m40 m41 m42 m43 m44
  have hq32 : q < 32 := by omega
  refine ⟨⟨(mg 65 (by omega)).trans b1.1, b1.2⟩, ⟨(mg 74 (by omega)).trans b2.1, b2.2⟩, ⟨(mg 64 (by omega)).trans b3.1, b3.2⟩, ⟨by rw [tA2_4, List.length_set]; exact l74, by rw [tA2_5, List.length_set, List.length_set]; exact l75, by rw [tA2_6, List.length_set]; exact l76, by rw [tA2_7, List.length_set]; exact l77, by rw [tA2_o (by omega)]; exact l78, by rw [tA2_o (by omega)]; exact l79⟩, ⟨by rw [tA2_o (by omega)]; exact c1, by rw [tA2_o (by omega)]; exact c1', by rw [tA2_o (by omega)]; exact c1''⟩, fun i hi => ?_, fun i h1 h2 => ?_, fun i z hi hz => ?_, fun i hi => ?_⟩
  · obtain ⟨F', D', f1, f2, f3, f4, f5, f6, f7, f8, f9⟩ := cE i hi
    refine ⟨F', D', by rw [mJ 37 (by omega)]; exact f1, by rw [mJ 38 (by omega)]; exact f2, f3, f4, f5, by rw [tA2_7, gD_set_n (by omega)]; exact f6, ?_, ?_, ?_⟩
    · dsimp only
      by_cases e : i = j
      · rw [m39, if_pos e, if_pos e]
      · rw [m39, if_neg e, if_neg e]
        exact f7
    · dsimp only
      by_cases e : i = j
      · rw [if_pos e]
        omega
      · rw [if_neg e]
        exact f8
    · dsimp only
      by_cases e : i = j
      · rw [if_pos e, tA2_7, e, gset (by omega)]
      · rw [if_neg e, tA2_7, gD_set_n (by omega)]
        exact f9
  · rw [tA2_7, gD_set_n (by omega)]
    exact c0 i h1 h2
  · dsimp only at hz
    by_cases e : 8 * i + z = q
    · rw [e]
      refine ⟨W, 0, c, u, r, by rw [m40, if_pos rfl], hW.1, hW.2, by rw [m44, if_pos rfl]; rfl, by decide, by rw [tA2_4, gset (by omega)]; rfl, ?_, ?_, by rw [m42, if_pos rfl], hc, by rw [m43, if_pos rfl], hu, by rw [m43, if_neg (by omega), if_pos rfl], hr, by rw [tA2_6, gset (by omega)]⟩
      · rw [tA2_5, gD_set_n (by omega), gset (by omega), m41, if_pos rfl]
      · rw [tA2_5, gset (by rw [List.length_set]; omega), m41, if_neg (by omega), if_pos rfl]
    · have hz' : z < t i := by
        by_cases e2 : i = j
        · rw [if_pos e2] at hz
          subst e2
          omega
        · rw [if_neg e2] at hz
          exact hz
      obtain ⟨F', D', f1, f2, f3, f4, f5, f6, f7, f8, f9⟩ := cE i hi
      obtain ⟨W', G', c', u', v', g1, g2, g3, g4, g5, g6, g7, g8, g9, g10, g11, g12, g13, g14, g15⟩ := cQ i z hi hz'
      refine ⟨W', G', c', u', v', by rw [m40, if_neg e]; exact g1, g2, g3, by rw [m44, if_neg e]; exact g4, g5, by rw [tA2_4, gD_set_n (by omega)]; exact g6, ?_, ?_, by rw [m42, if_neg e]; exact g9, g10, by rw [m43, if_neg (by omega), if_neg (by omega)]; exact g11, g12, by rw [m43, if_neg (by omega), if_neg (by omega)]; exact g13, g14, by rw [tA2_6, gD_set_n (by omega)]; exact g15⟩
      · rw [tA2_5, gD_set_n (by omega), gD_set_n (by omega), m41, if_neg (by omega), if_neg (by omega)]
        exact g7
      · rw [tA2_5, gD_set_n (by omega), gD_set_n (by omega), m41, if_neg (by omega), if_neg (by omega)]
        exact g8
  · obtain ⟨P', J', D', G', q1, q2, q3, q4, q5, q6, q7, q8, q9⟩ := cA i hi
    refine ⟨P', J', D', G', by rw [mJ 46 (by omega)]; exact q1, q2, by rw [mJ 47 (by omega)]; exact q3, q4, by rw [mJ 48 (by omega)]; exact q5, q6, by rw [mJ 49 (by omega)]; exact q7, q8, by rw [tA2_o (by omega)]; exact q9⟩
/-- the law's tail of addTest -/
noncomputable def TsT (j tst : Int32) (w5 w2 w8 : Int32) (y : Int32) (r61 : Int32) (S61 : Lx) : Option (Lx × Int32) :=
  bP (h_13001 (y >>> (11 &&& 31)) 10 S61.1) fun r63 =>
  gd (vi ((8 * j) + tst) (S61.2 74).length) <|
  bS (lSet S61 74 ((8 * j) + tst) (1 + r63)) fun S64 =>
  gd (vi (2 * ((8 * j) + tst)) (S64.2 75).length) <|
  bS (lSet S64 75 (2 * ((8 * j) + tst)) w5) fun S65 =>
  gd (vi ((2 * ((8 * j) + tst)) + 1) (S65.2 75).length) <|
  bS (lSet S65 75 ((2 * ((8 * j) + tst)) + 1) w2) fun S66 =>
  gd (vi ((8 * j) + tst) (S66.2 76).length) <|
  bS (lSet S66 76 ((8 * j) + tst) w8) fun S67 =>
  gd (vi (4 + j) (S67.2 77).length) <|
  gd (vi (4 + j) (S67.2 77).length) <|
  bS (lSet S67 77 (4 + j) ((xg (S67.2 77) (4 + j)) + 1)) fun S68 =>
  if r61 = tst then
    gd (tK S68.1 0 = 12) <|
    bO (h_13011 0 j 0 0 0 0 0 0 S68.1) fun T70 r70 => bS (lT S68 T70) fun S70 =>
    if r70 = (-1000002) then
      gd (tK S70.1 0 = 12) <|
      bO (h_13011 0 j 1 0 0 3 0 0 S70.1) fun T72 r72 => bS (lT S70 T72) fun S72 =>
      if r72 = (-1000002) then
        gd (vi 0 (S72.2 79).length) <|
        gd (tK S72.1 0 = 12) <|
        bO (h_13011 0 (xg (S72.2 79) 0) 0 0 0 0 0 0 S72.1) fun T74 r74 => bS (lT S72 T74) fun S74 =>
        if r74 = (-1000001) then
          some (S74, 1)
        else
          some (S74, 0)
      else
        some (S72, 0)
    else
      some (S70, 0)
  else
    some (S68, 0)
theorem TsT_e {n : Nat} {q W : Nat} {f c8 : Int32} {u : Nat} (h : SInv 0 T m tx es ts as ps txs ss pd own) (hj : j < es.length) (hn : n < 8) (hq : q = 8 * j + n) {y : Int32} (hy : h_13001 (y >>> (11 &&& 31)) 10 T = some (nI W)) (hW : W < 10) (l74 : (A 74).length = 32) (l75 : (A 75).length = 64) (l76 : (A 76).length = 32) (l77 : (A 77).length = 8) (l79 : (A 79).length = 6) (c1 : (A 79).getD 0 0 = nI es.length) (h77 : (A 77).getD (4 + j) 0 = nI n) :
    TsT (nI j) (nI n) f (nI u) c8 y (nI n) (T, A) = some ((T, tA2 A j q (n + 1) (nI (1 + W)) f (nI u) c8), 1) := by
  have h4 := h.2.2.2.1.2.1
  have e8 : 8 * nI j + nI n = nI q := by rw [hq]; exact n8 (by omega)
  have e82 : 2 * nI q = nI (2 * q) := n2 (by omega)
  have e83 : nI (2 * q) + 1 = nI (2 * q + 1) := nI_p1 (by omega)
  have e4 : (4 : Int32) + nI j = nI (4 + j) := nI_pl (a := 4) (by omega) (by omega)
  have eW : (1 : Int32) + nI W = nI (1 + W) := nI_pl (a := 1) (by omega) (by omega)
  obtain ⟨k1, k2, k3⟩ := c_addTsG h hj
  have q1 : h_13011 0 (nI j) 0 0 0 0 0 0 T = some (T, -1000002) := by
    unfold h_13011
    rw [k1]
    rfl
  have q2 : h_13011 0 (nI j) 1 0 0 3 0 0 T = some (T, -1000002) := by
    unfold h_13011
    rw [k2]
    rfl
  have q3 : h_13011 0 (nI es.length) 0 0 0 0 0 0 T = some (T, -1000001) := by
    unfold h_13011
    rw [k3]
    rfl
  obtain ⟨A1, hA1⟩ : ∃ A1 : Nat → List Int32, A1 = u1 A 74 ((A 74).set q (nI (1 + W))) := ⟨_, rfl⟩
  obtain ⟨A2, hA2⟩ : ∃ A2 : Nat → List Int32, A2 = u1 A1 75 ((A 75).set (2 * q) f) := ⟨_, rfl⟩
  obtain ⟨A3, hA3⟩ : ∃ A3 : Nat → List Int32, A3 = u1 A2 75 (((A 75).set (2 * q) f).set (2 * q + 1) (nI u)) := ⟨_, rfl⟩
  obtain ⟨A4, hA4⟩ : ∃ A4 : Nat → List Int32, A4 = u1 A3 76 ((A 76).set q c8) := ⟨_, rfl⟩
  obtain ⟨A5, hA5⟩ : ∃ A5 : Nat → List Int32, A5 = u1 A4 77 ((A 77).set (4 + j) (nI (n + 1))) := ⟨_, rfl⟩
  have p1 : A1 75 = A 75 := by rw [hA1]; exact u1_n _ _ (by decide)
  have p2 : A2 75 = (A 75).set (2 * q) f := by rw [hA2, u1_s]
  have p3 : A3 76 = A 76 := by rw [hA3, u1_n _ _ (by decide), hA2, u1_n _ _ (by decide), hA1, u1_n _ _ (by decide)]
  have p4 : A4 77 = A 77 := by rw [hA4, u1_n _ _ (by decide), hA3, u1_n _ _ (by decide), hA2, u1_n _ _ (by decide), hA1, u1_n _ _ (by decide)]
  have p5 : A5 79 = A 79 := by rw [hA5, u1_n _ _ (by decide), hA4, u1_n _ _ (by decide), hA3, u1_n _ _ (by decide), hA2, u1_n _ _ (by decide), hA1, u1_n _ _ (by decide)]
  have fin : A5 = tA2 A j q (n + 1) (nI (1 + W)) f (nI u) c8 := by
    rw [hA5, hA4, hA3, hA2, hA1, u1_u1]
    rfl
  have x0 : xg (A5 79) 0 = nI es.length := by
    show xg (A5 79) (nI 0) = _
    rw [xg_n (by omega), p5, c1]
  rw [← fin]
  unfold TsT
  rw [show h_13001 (y >>> (11 &&& 31)) 10 (T, A).1 = some (nI W) from hy, bP_some, e8, e82, e83, e4, eW]
  rw [gd_e (show vi (nI q) ((T, A).2 74).length by show vi (nI q) (A 74).length; rw [l74]; exact vi_n (by omega) (by omega)), lSet_e (by omega), ← hA1, bS_eq]
  rw [gd_e (show vi (nI (2 * q)) ((T, A1).2 75).length by show vi (nI (2 * q)) (A1 75).length; rw [p1, l75]; exact vi_n (by omega) (by omega)), lSet_e (by omega), p1, ← hA2, bS_eq]
  rw [gd_e (show vi (nI (2 * q + 1)) ((T, A2).2 75).length by show vi (nI (2 * q + 1)) (A2 75).length; rw [p2, List.length_set, l75]; exact vi_n (by omega) (by omega)), lSet_e (by omega), p2, ← hA3, bS_eq]
  rw [gd_e (show vi (nI q) ((T, A3).2 76).length by show vi (nI q) (A3 76).length; rw [p3, l76]; exact vi_n (by omega) (by omega)), lSet_e (by omega), p3, ← hA4, bS_eq]
  have v77 : vi (nI (4 + j)) ((T, A4).2 77).length := by show vi (nI (4 + j)) (A4 77).length; rw [p4, l77]; exact vi_n (by omega) (by omega)
  have x77 : xg ((T, A4).2 77) (nI (4 + j)) + 1 = nI (n + 1) := by
    show xg (A4 77) (nI (4 + j)) + 1 = _
    rw [p4, xg_n (by omega), h77, nI_p1 (by omega)]
  rw [gd_e v77, gd_e v77, x77, lSet_e (by omega), p4, ← hA5, bS_eq, if_pos rfl]
  rw [gd_e (show tK (T, A5).1 0 = 12 from h.1.1), show h_13011 0 (nI j) 0 0 0 0 0 0 (T, A5).1 = some (T, -1000002) from q1, bO_some, bS_eq, if_pos rfl]
  show gd (tK T 0 = 12) (bO (h_13011 0 (nI j) 1 0 0 3 0 0 T) _) = _
  rw [gd_e h.1.1, q2, bO_some, bS_eq, if_pos rfl]
  show gd (vi 0 (A5 79).length) (gd (tK T 0 = 12) (bO (h_13011 0 (xg (A5 79) 0) 0 0 0 0 0 0 T) _)) = _
  rw [gd_e (by rw [p5, l79]; exact vi_n (i := 0) (by omega) (by omega)), gd_e h.1.1, x0, q3, bO_some, bS_eq, if_pos rfl]
  rfl
/-- a test is added, by the books -/
theorem sc_tst (h : SInv 0 T m tx es ts as ps txs ss pd own) (hz : 80 ≤ tZ T) (hB : BkI m A e0 n0 td t) (hj : j < e0) (y : Int32) (r : Option (Lx × Int32))
    (hr : r = bP (h_13001 y 3 T) fun r56 => bP (h_13001 (y >>> (2 &&& 31)) 10 T) fun r57 => bP (h_13001 (y >>> (5 &&& 31)) 10 T) fun r58 => bP (h_13001 (y >>> (8 &&& 31)) 12 T) fun r59 => bP (h_13001 (y >>> (11 &&& 31)) 10 T) fun r60 => gd (tK T 0 = 12) <| bO (h_13011 0 (nI j) (1 + r60) (r59 - 2) r57 r56 r57 r58 T) fun T61 r61 => if xg (A 77) (4 + nI j) = 8 then (if r61 = (-1000003) then some ((T61, A), 1) else some ((T61, A), 0)) else TsT (nI j) (xg (A 77) (4 + nI j)) (r59 - 2) r57 ((r56 + (4 * r57)) + (64 * r58)) y r61 (T61, A)) : ScR A td tx r := by
  obtain ⟨en, ee, et⟩ := hB.en h
  have hB' := hB
  obtain ⟨⟨b1, b1'⟩, ⟨b2, b2'⟩, ⟨b3, b3'⟩, ⟨l74, l75, l76, l77, l78, l79⟩, ⟨c1, c1', c1''⟩, cE, c0, cQ, cA⟩ := hB
  obtain ⟨F, D, f1, f2, f3, f4, f5, f6, f7, f8, f9⟩ := cE j hj
  obtain ⟨c, hc, ec⟩ := low_n y (n := 3) (by decide) (by decide) T
  obtain ⟨u, hu, eu⟩ := low_n (y >>> (2 &&& 31)) (n := 10) (by decide) (by decide) T
  obtain ⟨o, ho, eo⟩ := low_n (y >>> (5 &&& 31)) (n := 10) (by decide) (by decide) T
  obtain ⟨f, hf, ef⟩ := low_n (y >>> (8 &&& 31)) (n := 12) (by decide) (by decide) T
  obtain ⟨W, hW, eW⟩ := low_n (y >>> (11 &&& 31)) (n := 10) (by decide) (by decide) T
  have e4 : (4 : Int32) + nI j = nI (4 + j) := nI_pl (a := 4) (by omega) (by omega)
  have x4 : xg (A 77) (4 + nI j) = nI (t j) := by rw [e4, xg_n (by omega), f9]
  have eW1 : (1 : Int32) + nI W = nI (1 + W) := nI_pl (a := 1) (by omega) (by omega)
  have ev : nI c + 4 * nI u + 64 * nI o = nI (c + 4 * u + 64 * o) := by
    rw [i_eq, Int32.toInt_add, Int32.toInt_add, Int32.toInt_mul, Int32.toInt_mul, nI_T (by omega), nI_T (by omega), nI_T (by omega), nI_T (by omega), show (4 : Int32).toInt = 4 by decide, show (64 : Int32).toInt = 64 by decide, Int.bmod_eq_of_le (n := 4 * (u : Int)) (by omega) (by omega), Int.bmod_eq_of_le (n := 64 * (o : Int)) (by omega) (by omega), Int.bmod_eq_of_le (n := (c : Int) + 4 * u) (by omega) (by omega), Int.bmod_eq_of_le (by omega) (by omega)]
    omega
  have hb : (1 ≤ (nI (1 + W)).toInt ∧ (nI (1 + W)).toInt ≤ 10) ∧ 0 ≤ (nI c).toInt ∧ (nI c).toInt ≤ 2 := by
    rw [nI_T (by omega), nI_T (by omega)]
    omega
  rw [hr, show h_13001 y 3 T = some (nI c) from ec, bP_some, show h_13001 (y >>> (2 &&& 31)) 10 T = some (nI u) from eu, bP_some, show h_13001 (y >>> (5 &&& 31)) 10 T = some (nI o) from eo, bP_some, show h_13001 (y >>> (8 &&& 31)) 12 T = some (nI f) from ef, bP_some, show h_13001 (y >>> (11 &&& 31)) 10 T = some (nI W) from eW, bP_some, gd_e h.1.1, eW1, x4, ev]
  by_cases c8 : t j < 8
  · obtain ⟨T1, m1, q1, ⟨tx1, es1, ts1, as1, ps1, txs1, ss1, pd1, own1, q2⟩, q3, q4⟩ := c_addTs2 (y1 := nI (1 + W)) (y2 := nI f - 2) (y3 := nI u) (y4 := nI c) (y5 := nI u) (y6 := nI o) h (by omega) (et j hj).symm c8 hb
    have etx : tx1 = tx := tx_of h q2 (by
      have q := q2.2.1.1
      exact q4.1 0 (by omega)) (q4.2.2.2.2.2.2.2 1 (by omega))
    subst etx
    have hBk := hB'.tst (q := 8 * j + t j) hj c8 rfl q4 (by omega) (by omega) hu ho
    have e13 : h_13011 0 (nI j) (nI (1 + W)) (nI f - 2) (nI u) (nI c) (nI u) (nI o) T = some (T1, nI (t j)) := by
      unfold h_13011
      rw [q1]
      rfl
    have ee1 : es1.length = e0 := by
      have q : m1 0 65 = nI es1.length := q2.2.2.2.1.1
      have q' := q2.2.2.2.1.2.1
      rw [q4.1 65 (by omega), b1] at q
      exact ((nI_eq (by omega) (by omega)).1 q).symm
    obtain ⟨W', hW', eW'⟩ := low_n (y >>> (11 &&& 31)) (n := 10) (by decide) (by decide) T1
    have eWW : W' = W := by
      have a1 : h_13001 (y >>> (11 &&& 31)) (nI 10) T1 = h_13001 (y >>> (11 &&& 31)) (nI 10) T := rfl
      rw [eW', eW] at a1
      injection a1 with a1
      exact (nI_eq (by omega) (by omega)).1 a1
    subst eWW
    refine ⟨T1, _, m1, e0, n0, td, _, ?_, ⟨_, _, _, _, _, _, _, _, q2, by omega⟩, hBk, by rw [tA2_o (by omega)], by omega⟩
    rw [e13, bO_some, if_neg (show ¬ nI (t j) = 8 from fun z => by have := (nI_eq (b := 8) (by omega) (by omega)).1 z; omega)]
    exact TsT_e q2 (by omega) c8 rfl eW' hW' l74 l75 l76 l77 l79 (by rw [ee1]; exact c1) f9
  · have e8 : t j = 8 := by omega
    have e13 : h_13011 0 (nI j) (nI (1 + W)) (nI f - 2) (nI u) (nI c) (nI u) (nI o) T = some (T, -1000003) := by
      unfold h_13011
      rw [c_addTsF h (by omega) (by rw [← et j hj]; exact c8) hb]
      rfl
    refine ⟨T, A, m, e0, n0, td, t, ?_, ⟨_, _, _, _, _, _, _, _, h, by omega⟩, hB', rfl, by omega⟩
    rw [e13, bO_some, if_pos (by rw [e8]; rfl), if_pos rfl]
end SCT
