/-! the law: the school, all of it -/
section SCH
variable {T T' : Tx} {m m0 m' : Mx} {tx : List Int32} {e0 n0 td i j k n l p N z : Nat} {t : Nat → Nat} {A : Nat → List Int32} {v w : Int32} {es : List Nat} {ts : Nat → List Nat} {as : List Nat} {ps : Nat → Nat} {txs : Nat → List Int32} {ss : Nat → Sx} {pd : Nat} {own : Nat → Nat}
/-- a day in the books -/
theorem BkI.pas (hB : BkI m A e0 n0 td t) {d : Nat} (hd : td + d ≤ 500) : BkI (mp m 64 (nI (td + d))) (u1 A 79 ((A 79).set 2 (nI (td + d)))) e0 n0 (td + d) t := by
  obtain ⟨b1, b2, b3, ⟨l74, l75, l76, l77, l78, l79⟩, ⟨c1, c1', c1''⟩, cE, c0, cQ, cA⟩ := hB
  have mj : ∀ J, J ≠ 0 → mp m 64 (nI (td + d)) J = m J := fun J hJ => mp_j hJ
  have mg : ∀ g, g ≠ 64 → mp m 64 (nI (td + d)) 0 g = m 0 g := fun g hg => mp_n hg
  have m64 : mp m 64 (nI (td + d)) 0 64 = nI (td + d) := mp_s
  have o : ∀ y, y ≠ 79 → u1 A 79 ((A 79).set 2 (nI (td + d))) y = A y := fun y hy => u1_n _ _ hy
  unfold BkE BkQ BkA at *
  unfold BkI BkE BkQ BkA
  rw [mg 65 (by decide), mg 74 (by decide), m64, mj 37 (by decide), mj 38 (by decide), mj 39 (by decide), mj 40 (by decide), mj 41 (by decide), mj 42 (by decide), mj 43 (by decide), mj 44 (by decide), mj 46 (by decide), mj 47 (by decide), mj 48 (by decide), mj 49 (by decide), o 74 (by decide), o 75 (by decide), o 76 (by decide), o 77 (by decide), o 78 (by decide), u1_s]
  exact ⟨b1, b2, ⟨rfl, hd⟩, ⟨l74, l75, l76, l77, l78, by rw [List.length_set]; exact l79⟩, ⟨by rw [gD_set_n (by decide)]; exact c1, by rw [gD_set_n (by decide)]; exact c1', gset (by omega)⟩, cE, c0, cQ, cA⟩
theorem a_pasF : h_13013 0 0 T = some (T, -1000002) ∧ h_13013 0 101 T = some (T, -1000002) := by
  obtain ⟨k1, k2⟩ := c_pasF (x := 0) (T := T)
  refine ⟨?_, ?_⟩
  · unfold h_13013
    rw [k1]
    rfl
  · unfold h_13013
    rw [k2]
    rfl
/-- days pass -/
theorem sc_pas (h : SInv 0 T m tx es ts as ps txs ss pd own) (hz : 80 ≤ tZ T) (hB : BkI m A e0 n0 td t) (htd : td + 4 ≤ 500) (y : Int32) (r : Option (Lx × Int32))
    (hr : r = bP (h_13001 y 4 T) fun r46 => gd (vi 2 (A 79).length) <| gd (vi 2 (A 79).length) <| bS (lSet (T, A) 79 2 ((xg (A 79) 2) + (1 + r46))) fun S47 => gd (tK S47.1 0 = 12) <| bO (h_13013 0 (1 + r46) S47.1) fun T48 r48 => bS (lT S47 T48) fun S48 => gd (vi 2 (S48.2 79).length) <| if r48 = (xg (S48.2 79) 2) then gd (tK S48.1 0 = 12) <| bO (h_13013 0 0 S48.1) fun T50 r50 => bS (lT S48 T50) fun S50 => if r50 = (-1000002) then gd (tK S50.1 0 = 12) <| bO (h_13013 0 101 S50.1) fun T52 r52 => bS (lT S50 T52) fun S52 => if r52 = (-1000002) then some (S52, 1) else some (S52, 0) else some (S50, 0) else some (S48, 0)) : ScR A td tx r := by
  have hB' := hB
  obtain ⟨b1, b2, b3, ⟨l74, l75, l76, l77, l78, l79⟩, ⟨c1, c1', c1''⟩, cE, c0, cQ, cA⟩ := hB
  obtain ⟨a, ha, ea⟩ := low_n y (n := 4) (by decide) (by decide) T
  have x2 : xg (A 79) 2 = nI td := by
    show xg (A 79) (nI 2) = _
    rw [xg_n (by omega), c1'']
  have v2 : vi 2 (A 79).length := by rw [l79]; exact vi_n (i := 2) (by omega) (by omega)
  have e1 : (1 : Int32) + nI a = nI (1 + a) := nI_pl (a := 1) (by omega) (by omega)
  have e2 : nI td + nI (1 + a) = nI (td + (1 + a)) := nI_pl (by omega) (by omega)
  obtain ⟨q1, q2⟩ := c_pas2 (v := nI (1 + a)) h (by rw [nI_T (by omega)]; omega) (by rw [b3.1, nI_T (by omega), nI_T (by omega)]; omega)
  rw [b3.1, e2] at q1 q2
  have hBk := hB'.pas (d := 1 + a) (by omega)
  have e13 : h_13013 0 (nI (1 + a)) T = some (tsV T 0 13 (nI (td + (1 + a))), nI (td + (1 + a))) := by
    unfold h_13013
    rw [q1]
    rfl
  obtain ⟨A1, hA1⟩ : ∃ A1 : Nat → List Int32, A1 = u1 A 79 ((A 79).set 2 (nI (td + (1 + a)))) := ⟨_, rfl⟩
  rw [← hA1] at hBk
  have o79 : A1 79 = (A 79).set 2 (nI (td + (1 + a))) := by rw [hA1, u1_s]
  have x2' : xg (A1 79) 2 = nI (td + (1 + a)) := by
    show xg (A1 79) (nI 2) = _
    rw [xg_n (by omega), o79, gset (by omega)]
  have v2' : vi 2 (A1 79).length := by rw [o79, List.length_set]; exact v2
  obtain ⟨f1, f2⟩ := a_pasF (T := tsV T 0 13 (nI (td + (1 + a))))
  refine ⟨tsV T 0 13 (nI (td + (1 + a))), A1, _, e0, n0, td + (1 + a), t, ?_, ⟨_, _, _, _, _, _, _, _, q2, hz⟩, hBk, by rw [o79, gD_set_n (by decide)], by omega⟩
  rw [hr, show h_13001 y 4 T = some (nI a) from ea, bP_some, gd_e v2, gd_e v2, x2, e1, e2, show lSet (T, A) 79 2 (nI (td + (1 + a))) = (T, A1) by rw [hA1]; exact lSet_e (g := 79) (k := 2) (by decide), bS_eq, gd_e (show tK (T, A1).1 0 = 12 from h.1.1), show h_13013 0 (nI (1 + a)) (T, A1).1 = some (tsV T 0 13 (nI (td + (1 + a))), nI (td + (1 + a))) from e13, bO_some, bS_eq]
  show gd (vi 2 (A1 79).length) (if nI (td + (1 + a)) = xg (A1 79) 2 then gd (tK T 0 = 12) (bO (h_13013 0 0 (tsV T 0 13 (nI (td + (1 + a))))) _) else _) = _
  rw [gd_e v2', x2', if_pos rfl, gd_e h.1.1, f1, bO_some, bS_eq, if_pos rfl]
  show gd (tK T 0 = 12) (bO (h_13013 0 101 (tsV T 0 13 (nI (td + (1 + a))))) _) = _
  rw [gd_e h.1.1, f2, bO_some, bS_eq, if_pos rfl]
  rfl
/-- the desk is asked -/
theorem sc_acc (h : SInv 0 T m tx es ts as ps txs ss pd own) (hz : 80 ≤ tZ T) (hB : BkI m A e0 n0 td t) (y : Int32) (r : Option (Lx × Int32))
    (hr : r = (gd (vi 4 (A 79).length) <| gd (vi 4 (A 79).length) <| bS (lSet (T, A) 79 4 ((xg (A 79) 4) + 1)) fun S38 => gd (vi 1 (S38.2 79).length) <| if (xg (S38.2 79) 1) = 0 then gd (tK S38.1 0 = 12) <| bO (h_13025 0 0 0 S38.1) fun T43 r43 => bS (lT S38 T43) fun S43 => if r43 = (-1000001) then some (S43, 1) else some (S43, 0) else gd (vi 4 (S38.2 79).length) <| if 12 < (xg (S38.2 79) 4) then some (S38, 1) else bO (l_13040 0 74 77 78 79 y S38) fun S41 r41 => if r41 = 0 then some (S41, 0) else some (S41, 1))) : ScR A td tx r := by
  obtain ⟨en, ee, _⟩ := hB.en h
  have hB' := hB
  obtain ⟨b1, b2, b3, ⟨l74, l75, l76, l77, l78, l79⟩, ⟨c1, c1', c1''⟩, cE, c0, cQ, cA⟩ := hB
  have b2' := b2.2
  have v4 : vi 4 (A 79).length := by rw [l79]; exact vi_n (i := 4) (by omega) (by omega)
  obtain ⟨V, hV⟩ : ∃ V, V = xg (A 79) 4 + 1 := ⟨_, rfl⟩
  obtain ⟨A1, hA1⟩ : ∃ A1 : Nat → List Int32, A1 = u1 A 79 ((A 79).set 4 V) := ⟨_, rfl⟩
  have o79 : A1 79 = (A 79).set 4 V := by rw [hA1, u1_s]
  have o : ∀ z, z ≠ 79 → A1 z = A z := fun z hz => by rw [hA1]; exact u1_n _ _ hz
  have l79' : (A1 79).length = 6 := by rw [o79, List.length_set]; exact l79
  have hBk : BkI m A1 e0 n0 td t := hB'.of Mw.id (fun z h1 h2 => o z (by omega)) l79' (by rw [o79, gD_set_n (by decide)]) (by rw [o79, gD_set_n (by decide)]) (by rw [o79, gD_set_n (by decide)])
  have x1 : xg (A1 79) 1 = nI n0 := by
    show xg (A1 79) (nI 1) = _
    rw [xg_n (by omega), o79, gD_set_n (by decide), c1']
  have v1' : vi 1 (A1 79).length := by rw [l79']; exact vi_n (i := 1) (by omega) (by omega)
  have v4' : vi 4 (A1 79).length := by rw [l79']; exact vi_n (i := 4) (by omega) (by omega)
  have top : r = (if nI n0 = 0 then gd (tK T 0 = 12) <| bO (h_13025 0 0 0 T) fun T43 r43 => if r43 = (-1000001) then some ((T43, A1), 1) else some ((T43, A1), 0) else if 12 < (xg (A1 79) 4) then some ((T, A1), 1) else bO (l_13040 0 74 77 78 79 y (T, A1)) fun S41 r41 => if r41 = 0 then some (S41, 0) else some (S41, 1)) := by
    rw [hr, gd_e v4, gd_e v4, ← hV, show lSet (T, A) 79 4 V = (T, A1) by rw [hA1]; exact lSet_e (g := 79) (k := 4) (by decide), bS_eq]
    show gd (vi 1 (A1 79).length) (if xg (A1 79) 1 = 0 then _ else gd (vi 4 (A1 79).length) _) = _
    rw [gd_e v1', x1, gd_e v4']
    rfl
  have h3 : (A1 79).getD 3 0 = (A 79).getD 3 0 := by rw [o79, gD_set_n (by decide)]
  by_cases cn : n0 = 0
  · refine ⟨T, A1, m, e0, n0, td, t, ?_, ⟨_, _, _, _, _, _, _, _, h, hz⟩, hBk, h3, by omega⟩
    rw [top, if_pos (by rw [cn]; rfl), gd_e h.1.1, a_accF h (fun y => by have := y.1.2; rw [i_0] at this; omega), bO_some, if_pos rfl]
  · have nz : ¬ nI n0 = 0 := fun y => cn ((nI_eq (b := 0) (by omega) (by omega)).1 y)
    by_cases c12 : 12 < xg (A1 79) 4
    · refine ⟨T, A1, m, e0, n0, td, t, ?_, ⟨_, _, _, _, _, _, _, _, h, hz⟩, hBk, h3, by omega⟩
      rw [top, if_neg nz, if_pos c12]
    · obtain ⟨T', A', m', q1, q2, q3, q4, q5, q6⟩ := l_acs h hBk en (by omega) y
      refine ⟨T', A', m', e0, n0, td, t, ?_, ⟨_, _, _, _, _, _, _, _, q2, by omega⟩, q4, by rw [q5]; exact h3, by omega⟩
      rw [top, if_neg nz, if_neg c12, q1, bO_some, if_neg one_0]
/-- an act of the school -/
theorem l_sch (h : SInv 0 T m tx es ts as ps txs ss pd own) (hz : 80 ≤ tZ T) (hB : BkI m A e0 n0 td t) (hP : PrW tx n) (hn1 : 1 ≤ n ∧ n ≤ 300) (h3 : (A 79).getD 3 0 = nI n) (htd : td + 4 ≤ 500) (x y : Int32) : ScR A td tx (l_13041 0 74 75 76 77 78 79 x y (T, A)) := by
  have hB' := hB
  obtain ⟨⟨b1, b1'⟩, b2, b3, ⟨l74, l75, l76, l77, l78, l79⟩, ⟨c1, c1', c1''⟩, cE, c0, cQ, cA⟩ := hB
  obtain ⟨q, hq, eq⟩ := low_n x (n := 12) (by decide) (by decide) T
  have x0 : xg (A 79) 0 = nI e0 := by
    show xg (A 79) (nI 0) = _
    rw [xg_n (by omega), c1]
  have v0 : vi 0 (A 79).length := by rw [l79]; exact vi_n (i := 0) (by omega) (by omega)
  unfold l_13041
  rw [show h_13001 x 12 (T, A).1 = some (nI q) from eq, bP_some]
  show ScR A td tx (gd (vi 0 (A 79).length) (if xg (A 79) 0 = 0 then l_13041_J21 0 74 75 76 77 78 79 x y (nI q) 1300 48600 (T, A) else if nI q = 0 then l_13041_J21 0 74 75 76 77 78 79 x y (nI q) 1300 48600 (T, A) else gd (vi 0 (A 79).length) (bP (h_13001 (x >>> (4 &&& 31)) (xg (A 79) 0) T) _)))
  rw [gd_e v0, x0]
  by_cases ce : e0 = 0
  · rw [if_pos (by rw [ce]; rfl)]
    exact sc_21 h hz hB' x y _ ⟨by decide, by decide⟩
  rw [if_neg (show ¬ nI e0 = 0 from fun z => ce ((nI_eq (b := 0) (by omega) (by omega)).1 z))]
  by_cases cq : q = 0
  · rw [if_pos (show nI q = 0 by rw [cq]; rfl)]
    exact sc_21 h hz hB' x y _ ⟨by decide, by decide⟩
  rw [if_neg (show ¬ nI q = 0 from fun z => cq ((nI_eq (b := 0) (by omega) (by omega)).1 z))]
  obtain ⟨j, hj, ej⟩ := low_n (x >>> (4 &&& 31)) (n := e0) (by omega) (by omega) T
  obtain ⟨F, D, f1, f2, f3, f4, f5, f6, f7, f8, f9⟩ := cE j hj
  have e4 : (4 : Int32) + nI j = nI (4 + j) := nI_pl (a := 4) (by omega) (by omega)
  have x4 : xg (A 77) (4 + nI j) = nI (t j) := by rw [e4, xg_n (by omega), f9]
  have v4 : vi (4 + nI j) (A 77).length := by rw [e4, l77]; exact vi_n (by omega) (by omega)
  rw [gd_e v0, ej, bP_some]
  by_cases c4 : 4 ≤ q
  · rw [if_pos (show (4 : Int32) ≤ nI q from (nI_gle (a := 4) (by omega) (by omega)).2 c4)]
    by_cases d4 : q = 4
    · rw [if_pos (show nI q = 4 by rw [d4]; rfl)]
      show ScR A td tx (gd (vi (4 + nI j) (A 77).length) (if xg (A 77) (4 + nI j) = 0 then l_13041_J451 0 74 75 76 77 78 79 x y (nI q) (nI j) (nI 0) 1300 48600 (T, A) else gd (vi (4 + nI j) (A 77).length) (bP (h_13001 y (xg (A 77) (4 + nI j)) T) fun r55 => l_13041_J451 0 74 75 76 77 78 79 x y (nI q) (nI j) r55 1300 48600 (T, A))))
      rw [gd_e v4, x4]
      by_cases ct : t j = 0
      · rw [if_pos (by rw [ct]; rfl)]
        exact sc_451 h hz hB' hj (Or.inr ⟨ct, rfl⟩) ⟨by decide, by decide⟩
      · obtain ⟨k, hk, ek⟩ := low_n y (n := t j) (by omega) (by omega) T
        rw [if_neg (show ¬ nI (t j) = 0 from fun z => ct ((nI_eq (b := 0) (by omega) (by omega)).1 z)), gd_e v4, ek, bP_some]
        exact sc_451 h hz hB' hj (Or.inl hk) ⟨by decide, by decide⟩
    · rw [if_neg (show ¬ nI q = 4 from fun z => d4 ((nI_eq (b := 4) (by omega) (by omega)).1 z))]
      by_cases d5 : q = 5
      · rw [if_pos (show nI q = 5 by rw [d5]; rfl)]
        exact sc_pas h hz hB' htd y _ rfl
      · rw [if_neg (show ¬ nI q = 5 from fun z => d5 ((nI_eq (b := 5) (by omega) (by omega)).1 z))]
        by_cases d10 : 10 ≤ q
        · rw [if_pos (show (10 : Int32) ≤ nI q from (nI_gle (a := 10) (by omega) (by omega)).2 d10)]
          exact sc_acc h hz hB' y _ rfl
        · rw [if_neg (show ¬ (10 : Int32) ≤ nI q from fun z => d10 ((nI_gle (a := 10) (by omega) (by omega)).1 z))]
          obtain ⟨T', A', m', n1, g1, g2, g3, g4⟩ := l_hnd h hz hB' hP hn1 h3 (by omega) y
          refine ⟨T', A', m', e0, n1, td, t, ?_, g2, g3, g4, by omega⟩
          rw [g1, bO_some]
  · rw [if_neg (show ¬ (4 : Int32) ≤ nI q from fun z => c4 ((nI_gle (a := 4) (by omega) (by omega)).1 z))]
    show ScR A td tx (gd (vi (4 + nI j) (A 77).length) _)
    rw [gd_e v4]
    exact sc_tst h hz hB' hj y _ rfl
end SCH
