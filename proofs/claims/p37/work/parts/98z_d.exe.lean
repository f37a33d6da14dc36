/-! the law: a new exercise -/
section SCE
variable {T T' : Tx} {m m0 m' : Mx} {tx : List Int32} {e0 n0 td i j k n l p N F D : Nat} {t : Nat → Nat} {A : Nat → List Int32} {v w : Int32} {es : List Nat} {ts : Nat → List Nat} {as : List Nat} {ps : Nat → Nat} {txs : Nat → List Int32} {ss : Nat → Sx} {pd : Nat} {own : Nat → Nat}
/-- a new exercise in the books -/
theorem BkI.exe (hB : BkI m A e0 n0 td t) (hm : ExM m m' e0 (nI F) (nI D)) (he : e0 < 4) (hF1 : 1 ≤ F) (hF : F ≤ 300) (hD : D ≤ 508) : BkI m' (u1 (u1 A 77 ((A 77).set e0 (nI (F + 4096 * D)))) 79 ((A 79).set 0 (nI (e0 + 1)))) (e0 + 1) n0 td (fun i => if i = e0 then 0 else t i) := by
  obtain ⟨b1, b2, b3, ⟨l74, l75, l76, l77, l78, l79⟩, ⟨c1, c1', c1''⟩, cE, c0, cQ, cA⟩ := hB
  obtain ⟨m65, mg, m37, m38, m39, mJ⟩ := hm
  obtain ⟨A2, hA2⟩ : ∃ A2 : Nat → List Int32, A2 = u1 (u1 A 77 ((A 77).set e0 (nI (F + 4096 * D)))) 79 ((A 79).set 0 (nI (e0 + 1))) := ⟨_, rfl⟩
  have o : ∀ z, z ≠ 77 → z ≠ 79 → A2 z = A z := fun z h1 h2 => by rw [hA2, u1_n _ _ h2, u1_n _ _ h1]
  have o77 : A2 77 = (A 77).set e0 (nI (F + 4096 * D)) := by rw [hA2, u1_n _ _ (by decide), u1_s]
  have o79 : A2 79 = (A 79).set 0 (nI (e0 + 1)) := by rw [hA2, u1_s]
  rw [← hA2]
  refine ⟨⟨m65, by omega⟩, ⟨(mg 74 (by decide)).trans b2.1, b2.2⟩, ⟨(mg 64 (by decide)).trans b3.1, b3.2⟩, ⟨by rw [o 74 (by decide) (by decide)]; exact l74, by rw [o 75 (by decide) (by decide)]; exact l75, by rw [o 76 (by decide) (by decide)]; exact l76, by rw [o77, List.length_set]; exact l77, by rw [o 78 (by decide) (by decide)]; exact l78, by rw [o79, List.length_set]; exact l79⟩, ⟨by rw [o79, gset (by omega)], by rw [o79, gD_set_n (by decide)]; exact c1', by rw [o79, gD_set_n (by decide)]; exact c1''⟩, fun q hq => ?_, fun q h1 h2 => ?_, fun q z hq hz => ?_, fun q hq => ?_⟩
  · by_cases e : q = e0
    · refine ⟨F, D, by rw [m37, if_pos e], by rw [m38, if_pos e], hF1, hF, hD, by rw [o77, e, gset (by omega)], ?_, ?_, ?_⟩
      · dsimp only
        rw [m39, if_pos e, if_pos e]
        rfl
      · dsimp only
        rw [if_pos e]
        omega
      · dsimp only
        rw [if_pos e, o77, e, gD_set_n (by omega), c0 e0 (Nat.le_refl _) he]
        rfl
    · obtain ⟨F', D', f1, f2, f3, f4, f5, f6, f7, f8, f9⟩ := cE q (by omega)
      refine ⟨F', D', by rw [m37, if_neg e]; exact f1, by rw [m38, if_neg e]; exact f2, f3, f4, f5, by rw [o77, gD_set_n (by omega)]; exact f6, ?_, ?_, ?_⟩
      · dsimp only
        rw [m39, if_neg e, if_neg e]
        exact f7
      · dsimp only
        rw [if_neg e]
        exact f8
      · dsimp only
        rw [if_neg e, o77, gD_set_n (by omega)]
        exact f9
  · rw [o77, gD_set_n (by omega)]
    exact c0 q (by omega) h2
  · dsimp only at hz
    by_cases e : q = e0
    · rw [if_pos e] at hz
      omega
    · rw [if_neg e] at hz
      have := cQ q z (by omega) hz
      unfold BkQ at this ⊢
      rw [mJ 40 (by decide) (by decide) (by decide) (by decide), mJ 41 (by decide) (by decide) (by decide) (by decide), mJ 42 (by decide) (by decide) (by decide) (by decide), mJ 43 (by decide) (by decide) (by decide) (by decide), mJ 44 (by decide) (by decide) (by decide) (by decide), o 74 (by decide) (by decide), o 75 (by decide) (by decide), o 76 (by decide) (by decide)]
      exact this
  · obtain ⟨P', J', D', G', q1, q2, q3, q4, q5, q6, q7, q8, q9⟩ := cA q hq
    refine ⟨P', J', D', G', by rw [mJ 46 (by decide) (by decide) (by decide) (by decide)]; exact q1, q2, by rw [mJ 47 (by decide) (by decide) (by decide) (by decide)]; exact q3, by omega, by rw [mJ 48 (by decide) (by decide) (by decide) (by decide)]; exact q5, q6, by rw [mJ 49 (by decide) (by decide) (by decide) (by decide)]; exact q7, q8, by rw [o 78 (by decide) (by decide)]; exact q9⟩
/-- what comes of an act of the school -/
def ScR (A : Nat → List Int32) (td : Nat) (tx : List Int32) (r : Option (Lx × Int32)) : Prop :=
  ∃ T' A' m' e1 n1 td1 t1, r = some ((T', A'), 1) ∧ Dk 0 T' m' tx ∧ BkI m' A' e1 n1 td1 t1 ∧ (A' 79).getD 3 0 = (A 79).getD 3 0 ∧ td1 ≤ td + 4
/-- numbers of answers and exercises -/
theorem BkI.en (hB : BkI m A e0 n0 td t) (h : SInv 0 T m tx es ts as ps txs ss pd own) : n0 = as.length ∧ e0 = es.length ∧ ∀ j, j < e0 → t j = (ts j).length := by
  obtain ⟨⟨b1, b1'⟩, ⟨b2, b2'⟩, ⟨b3, b3'⟩, ⟨l74, l75, l76, l77, l78, l79⟩, ⟨c1, c1', c1''⟩, cE, c0, cQ, cA⟩ := hB
  have h4 := h.2.2.2.1.2.1
  have h30 := h.2.2.2.2.1.2.1
  have ee : e0 = es.length := by
    have q : m 0 65 = nI es.length := h.2.2.2.1.1
    rw [b1] at q
    exact (nI_eq (by omega) (by omega)).1 q
  refine ⟨?_, ee, fun j hj => ?_⟩
  · have q : m 0 74 = nI as.length := h.2.2.2.2.1.1
    rw [b2] at q
    exact (nI_eq (by omega) (by omega)).1 q
  · have hE := h.2.2.2.1.2.2.2 j (by omega)
    have t8 := hE.2.2.2.2.2.2.1
    have q := hE.2.2.2.2.2.2.2.2.2.2.2.2.1
    obtain ⟨F, D, f1, f2, f3, f4, f5, f6, f7, f8, f9⟩ := cE j hj
    rw [f7] at q
    exact (nI_eq (by omega) (by omega)).1 q
theorem sc_122 (h : SInv 0 T m tx es ts as ps txs ss pd own) (h64 : m 0 64 = nI td) (htd : td ≤ 500) (l79 : (A 79).length = 6) (c2 : (A 79).getD 2 0 = nI td) (x7 x8 x9 x10 x12 z : Int32) {bc bs : Nat} (hb : 12 ≤ bc ∧ 160 ≤ bs) : l_13041_J122 0 74 75 76 77 78 79 x7 x8 x9 x10 w x12 z z z bc bs (T, A) = some ((T, A), 1) := by
  have x2 : xg (A 79) 2 = nI td := by
    show xg (A 79) (nI 2) = _
    rw [xg_n (by omega), c2]
  have v2 : vi 2 (A 79).length := by rw [l79]; exact vi_n (i := 2) (by omega) (by omega)
  have hb0 := hb.1
  have hb0' := hb.2
  have hb1 : 6 ≤ bc ∧ 80 ≤ bs := ⟨by omega, by omega⟩
  have hb2 : 6 ≤ bc - 6 ∧ 80 ≤ bs - 80 := ⟨by omega, by omega⟩
  have e64 : (m 0 64).toInt = td := by rw [h64, nI_T (by omega)]
  have q1 : h_13010 0 0 w T = some (T, -1000002) := by
    unfold h_13010
    rw [c_addExG h (fun z => by have := z.1.1; rw [i_0] at this; omega)]
    rfl
  have et : (nI td - 1).toInt = (td : Int) - 1 := by
    rw [Int32.toInt_sub, nI_T (by omega), i_1, Int.bmod_eq_of_le (by omega) (by omega)]
  have q2 : h_13010 0 1 (nI td - 1) T = some (T, -1000002) := by
    unfold h_13010
    rw [c_addExG h (fun z => by have := z.2.1; rw [e64, et] at this; omega)]
    rfl
  unfold l_13041_J122
  rw [if_pos rfl, gd_e (show tK (T, A).1 0 = 12 from h.1.1), gd_e hb1, show h_13010 0 0 w (T, A).1 = some (T, -1000002) from q1, bO_some, bS_eq, if_pos rfl]
  show gd (vi 2 (A 79).length) (gd (tK T 0 = 12) (gd _ (bO (h_13010 0 1 (xg (A 79) 2 - 1) T) _))) = _
  rw [gd_e v2, gd_e h.1.1, gd_e hb2, x2, q2, bO_some, bS_eq, if_pos rfl]
  rfl
theorem sc_21 (h : SInv 0 T m tx es ts as ps txs ss pd own) (hz : 80 ≤ tZ T) (hB : BkI m A e0 n0 td t) (v w x9 : Int32) {bc bs : Nat} (hb : 18 ≤ bc ∧ 240 ≤ bs) : ScR A td tx (l_13041_J21 0 74 75 76 77 78 79 v w x9 bc bs (T, A)) := by
  obtain ⟨en, ee, _⟩ := hB.en h
  have hB' := hB
  obtain ⟨⟨b1, b1'⟩, ⟨b2, b2'⟩, ⟨b3, b3'⟩, ⟨l74, l75, l76, l77, l78, l79⟩, ⟨c1, c1', c1''⟩, cE, c0, cQ, cA⟩ := hB
  obtain ⟨a, ha, ea⟩ := low_n w (n := 300) (by decide) (by decide) T
  obtain ⟨b, hb9, eb⟩ := low_n (w >>> (9 &&& 31)) (n := 9) (by decide) (by decide) T
  have x0 : xg (A 79) 0 = nI e0 := by
    show xg (A 79) (nI 0) = _
    rw [xg_n (by omega), c1]
  have x2 : xg (A 79) 2 = nI td := by
    show xg (A 79) (nI 2) = _
    rw [xg_n (by omega), c1'']
  have v0 : vi 0 (A 79).length := by rw [l79]; exact vi_n (i := 0) (by omega) (by omega)
  have v2 : vi 2 (A 79).length := by rw [l79]; exact vi_n (i := 2) (by omega) (by omega)
  have hb0 := hb.1
  have hb0' := hb.2
  have hb1 : 6 ≤ bc ∧ 80 ≤ bs := ⟨by omega, by omega⟩
  have hb2 : 12 ≤ bc - 6 ∧ 160 ≤ bs - 80 := ⟨by omega, by omega⟩
  have e64 : (m 0 64).toInt = td := by rw [b3, nI_T (by omega)]
  have ef : (1 : Int32) + nI a = nI (1 + a) := nI_pl (a := 1) (by omega) (by omega)
  have ed : nI td + nI b = nI (td + b) := nI_pl (by omega) (by omega)
  have hv : 1 ≤ (nI (1 + a)).toInt ∧ (nI (1 + a)).toInt ≤ 2000 := by rw [nI_T (by omega)]; omega
  have hw : (m 0 64).toInt ≤ (nI (td + b)).toInt ∧ (nI (td + b)).toInt ≤ 1000 := by rw [e64, nI_T (by omega)]; omega
  unfold l_13041_J21
  show ScR A td tx (bP (h_13001 w (nI 300) T) fun r27 => gd (vi 2 (A 79).length) (bP (h_13001 (w >>> (9 &&& 31)) (nI 9) T) fun r28 => gd (vi 0 (A 79).length) (if 4 ≤ xg (A 79) 0 then l_13041_J63 0 74 75 76 77 78 79 v w x9 (1 + r27) (xg (A 79) 2 + r28) 0 bc bs (T, A) else l_13041_J63 0 74 75 76 77 78 79 v w x9 (1 + r27) (xg (A 79) 2 + r28) 1 bc bs (T, A))))
  rw [ea, bP_some, gd_e v2, eb, bP_some, gd_e v0, x0, x2, ef, ed]
  by_cases c4 : e0 < 4
  · rw [if_neg (show ¬ (4 : Int32) ≤ nI e0 from fun z => by have := (nI_gle (a := 4) (by omega) (by omega)).1 z; omega)]
    obtain ⟨T1, m1, q1, ⟨tx1, es1, ts1, as1, ps1, txs1, ss1, pd1, own1, q2⟩, q3, q4⟩ := c_addEx2 h (by omega) hv hw
    have etx : tx1 = tx := tx_of h q2 (q4.2.1 0 (by decide)) (q4.2.2.2.2.2 1 (by decide) (by decide) (by decide) (by decide))
    subst etx
    rw [← ee] at q1 q4
    have hBk := hB'.exe q4 c4 (by omega) (by omega) (by omega)
    obtain ⟨A2, hA2⟩ : ∃ A2 : Nat → List Int32, A2 = u1 (u1 A 77 ((A 77).set e0 (nI (1 + a + 4096 * (td + b))))) 79 ((A 79).set 0 (nI (e0 + 1))) := ⟨_, rfl⟩
    rw [← hA2] at hBk
    have o79 : A2 79 = (A 79).set 0 (nI (e0 + 1)) := by rw [hA2, u1_s]
    have l79' : (A2 79).length = 6 := by rw [o79, List.length_set]; exact l79
    have z0 : xg (A2 79) 0 = nI (e0 + 1) := by
      show xg (A2 79) (nI 0) = _
      rw [xg_n (by omega), o79, gset (by omega)]
    have w0 : vi 0 (A2 79).length := by rw [l79']; exact vi_n (i := 0) (by omega) (by omega)
    have e13 : h_13010 0 (nI (1 + a)) (nI (td + b)) T = some (T1, nI e0) := by
      unfold h_13010
      rw [q1]
      rfl
    have ev : nI (1 + a) + 4096 * nI (td + b) = nI (1 + a + 4096 * (td + b)) := by
      rw [i_eq, Int32.toInt_add, Int32.toInt_mul, nI_T (by omega), nI_T (by omega), nI_TT (by omega), show (4096 : Int32).toInt = 4096 by decide, Int.bmod_eq_of_le (n := 4096 * ((td + b : Nat) : Int)) (by omega) (by omega), Int.bmod_eq_of_le (by omega) (by omega)]
      omega
    refine ⟨T1, A2, m1, e0 + 1, n0, td, _, ?_, ⟨_, _, _, _, _, _, _, _, q2, by omega⟩, hBk, by rw [o79, gD_set_n (by decide)], by omega⟩
    unfold l_13041_J63
    rw [gd_e (show tK (T, A).1 0 = 12 from h.1.1), gd_e hb1, show h_13010 0 (nI (1 + a)) (nI (td + b)) (T, A).1 = some (T1, nI e0) from e13, bO_some, bS_eq, if_neg one_0]
    show gd (vi 0 (A 79).length) (gd (vi (xg (A 79) 0) (A 77).length) (bS (lSet (T1, A) 77 (xg (A 79) 0) (nI (1 + a) + 4096 * nI (td + b))) _)) = _
    rw [gd_e v0, x0, gd_e (by rw [l77]; exact vi_n (by omega) (by omega)), ev, lSet_e (by omega), bS_eq]
    have f79 : u1 A 77 ((A 77).set e0 (nI (1 + a + 4096 * (td + b)))) 79 = A 79 := u1_n _ _ (by decide)
    show gd (vi 0 (u1 A 77 ((A 77).set e0 (nI (1 + a + 4096 * (td + b)))) 79).length) (gd (vi 0 (u1 A 77 ((A 77).set e0 (nI (1 + a + 4096 * (td + b)))) 79).length) (bS (lSet (T1, u1 A 77 ((A 77).set e0 (nI (1 + a + 4096 * (td + b))))) 79 (nI 0) (xg (u1 A 77 ((A 77).set e0 (nI (1 + a + 4096 * (td + b)))) 79) 0 + 1)) _)) = _
    rw [lSet_e (by omega), f79, gd_e v0, gd_e v0, x0, nI_p1 (by omega), ← hA2, bS_eq]
    unfold l_13041_J104
    rw [if_neg one_0]
    show gd (vi 0 (A2 79).length) (l_13041_J122 0 74 75 76 77 78 79 v w x9 (nI (1 + a)) (nI (td + b)) 1 (nI e0) (xg (A2 79) 0 - 1) (nI e0) (bc - 6) (bs - 80) (T1, A2)) = _
    rw [gd_e w0, z0, nI_pp (by omega)]
    exact sc_122 q2 (by rw [q4.2.1 64 (by decide)]; exact b3) b3' l79' (by rw [o79, gD_set_n (by decide)]; exact c1'') v w x9 _ 1 (nI e0) hb2
  · have e4 : e0 = 4 := by omega
    rw [if_pos (show (4 : Int32) ≤ nI e0 from (nI_gle (a := 4) (by omega) (by omega)).2 (by omega))]
    have e13 : h_13010 0 (nI (1 + a)) (nI (td + b)) T = some (T, -1000003) := by
      unfold h_13010
      rw [c_addExF h (by omega) hv hw]
      rfl
    refine ⟨T, A, m, e0, n0, td, t, ?_, ⟨_, _, _, _, _, _, _, _, h, by omega⟩, hB', rfl, by omega⟩
    unfold l_13041_J63
    rw [gd_e (show tK (T, A).1 0 = 12 from h.1.1), gd_e hb1, show h_13010 0 (nI (1 + a)) (nI (td + b)) (T, A).1 = some (T, -1000003) from e13, bO_some, bS_eq, if_pos rfl]
    unfold l_13041_J104
    rw [if_pos rfl]
    exact sc_122 h b3 b3' l79 c1'' v w x9 _ 0 (-1000003) hb2
end SCE
