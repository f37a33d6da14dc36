/-! a text is read, all of it: both tell the same fault, or both hold the same program -/
section RDX
variable {tx : List Int32} {s : Sx} {m : Mx}
/-- the def of a call -/
def Qf (s : Sx) (d i c n : Nat) : Prop := ∃ e, e < d ∧ (rw4 s).2.1 i = nI e ∧ (rw4 s).2.2.2 c = nI e ∧ (s.1 10).getD e 0 = nI n
/-- a program as the class holds it -/
def PgC (s : Sx) (i c d : Nat) : Prop :=
  i ≤ 300 ∧ c + 1 ≤ 600 ∧ d ≤ 40 ∧ (s.1 0).length = i + 1 ∧ (s.1 1).length = i + 1 ∧ (s.1 7).length = c + 1 ∧ (s.1 8).length = c + 1 ∧ Dl s d ∧ (rw4 s).1 i = 0 ∧ (rw4 s).2.2.1 c = 17 ∧
    (∃ N, PX (rw4 s) (Qf s d) N 8 0 0 0 0 i 0 c) ∧
    ∀ q, q < d → ∃ N i0 i1 i' c0 c1 p, i0 < i1 ∧ i' ≤ i ∧ c1 + 2 ≤ c ∧ PX (rw4 s) (Qf s d) N 7 1 i0 0 i1 i' c0 c1 ∧ (rw4 s).1 i0 = 10 ∧ (s.1 10).getD q 0 = nI p ∧ p ≤ 8 ∧ (s.1 11).getD q 0 = nI i1 ∧ (s.1 12).getD q 0 = nI c0 ∧ (rw4 s).2.2.1 c1 = 1 ∧ (rw4 s).2.2.2 c1 = 0 ∧ (rw4 s).2.2.1 (c1 + 1) = 16
/-- the reference holds the same program -/
def PgM (s : Sx) (i c d : Nat) (m : Mx) : Prop :=
  (∀ x, x < c + 1 → m 4 x = cm ((rw4 s).2.2.1 x) ∧ m 5 x = cdm ((rw4 s).2.2.1 x) ((rw4 s).2.2.2 x)) ∧ (∀ q, q < d → m 14 q = (s.1 10).getD q 0 ∧ m 15 q = (s.1 12).getD q 0) ∧
    (m 0 14 = nI i ∧ ∀ x, x < i → m 6 x = wm ((rw4 s).1 x)) ∧ m 0 16 = nI (s.1 5).length ∧ (s.1 6).length = (s.1 5).length ∧ 3 * (s.1 5).length ≤ i ∧ ∀ q, q < (s.1 5).length → m 7 q = (s.1 5).getD q 0 ∧ m 8 q = (s.1 6).getD q 0 - 1
theorem Gd.ini (hn : tx.length ≤ 300) (ht : tkR s (tks tx)) (h14 : (s.1 14).length ≤ 8) : Gd ((tks tx).length - 1) (rdA s) (rdA s) := by
  intro hC h9
  obtain ⟨hL, hR⟩ := rdA_Lv hn ht
  have hp := tks_pos tx
  have h301 := tks_300 hn
  have hl : Ln (rdA s) 0 0 := ⟨rfl, rfl, rfl, rfl, rfl⟩
  have hlen : ((rdA s).1 1).length = (tks tx).length - 1 + 1 := by rw [hR.1]; omega
  refine ⟨0, 0, 0, 0, 1, ⟨hL, hl, ⟨Nat.zero_le _, ?_⟩, hlen⟩, rfl, ⟨rfl, rfl, rfl, rfl⟩, Sy.i hl (Nat.le_refl _) (by omega) (by omega), PX1 ?_, fun q h1 h2 => by omega⟩
  · rw [rdA_r s (j := 14) (by omega)]; exact h14
  · unfold PF
    rw [if_neg (by decide), if_neg (by decide), if_neg (by decide), if_neg (by decide), if_neg (by decide), if_neg (by decide), if_neg (by decide)]
    exact Or.inl ⟨rfl, rfl⟩
theorem Vs_r {j : Nat} (h : j ≠ 14) : (Vs s).1 j = s.1 j := if_neg h
/-- what was read, with its calls told -/
theorem PX.lk {s0 : Sx} {m0 : Mx} {k d : Nat} {sL : Sx} {mL : Mx} (hK : LK s0 m0 k d k sL mL) {i c : Nat} (hCI : CI s0 0 i 0 c 0 k) (hi : i ≤ 300) (hc : c ≤ 600) {n g j o L a a' b b' : Nat} (ha' : a' ≤ i) (hb' : b' ≤ c) (h : PX (rw4 s0) (Qs s0 0 k) n g j o L a a' b b') : PX (rw4 sL) (Qf sL d) n g j o L a a' b b' := by
  obtain ⟨k1, k2, k3, k4, k5, k6, k7, k8, k9⟩ := hK
  have e0 : sL.1 0 = s0.1 0 := k1 0 (by decide) (by decide)
  have e7 : sL.1 7 = s0.1 7 := k1 7 (by decide) (by decide)
  refine PX.ag (fun i' c' n' hq => ?_) n h ⟨fun x _ hx => ⟨by show (sL.1 0).getD x 0 = _; rw [e0]; rfl, fun h35 => k5 x (fun q hq e => ?_)⟩, fun q => by show (sL.1 0).getD _ 0 ≠ 6; rw [e0]; exact q, fun x _ hx => ⟨by show (sL.1 7).getD x 0 = _; rw [e7]; rfl, fun h15 => k6 x (fun q hq e => ?_)⟩⟩
  · obtain ⟨q, w1, w2, w3, w4, w5⟩ := hq
    obtain ⟨e, t, x, v1, v2, v3, v4, v5, v6⟩ := k7 q w2
    obtain ⟨t2, x2, u1, u2, u3, u4, u5, u6, _⟩ := hCI q (Nat.zero_le _) w2
    have et : sL.1 10 = s0.1 10 := k1 10 (by decide) (by decide)
    have t1 : t = i' := by
      have := v2.symm.trans w3
      rw [nI_eq (by omega) (by omega)] at this
      exact this
    have x1 : x = c' := by
      have := v3.symm.trans w5
      rw [nI_eq (by omega) (by omega)] at this
      exact this
    refine ⟨e, v1.1, by rw [← t1]; exact v4, by rw [← x1]; exact v5, by rw [et, v6, w4]⟩
  · obtain ⟨t2, x2, u1, u2, u3, u4, u5, u6, u7, u8, _⟩ := hCI q (Nat.zero_le _) hq
    rw [e, nI_eq (by omega) (by omega)] at u1
    apply h35
    show (s0.1 0).getD x 0 = 35
    rw [u1]
    exact u8
  · obtain ⟨t2, x2, u1, u2, u3, u4, u5, u6, u7, u8, _⟩ := hCI q (Nat.zero_le _) hq
    rw [e, nI_eq (by omega) (by omega)] at u4
    apply h15
    show (s0.1 7).getD x 0 = 15
    rw [u4]
    exact u7
theorem f5002_0 (h : s.2 0 = 0) : f_5002 s = s := by
  unfold f_5002
  rw [if_neg (by rw [h]; decide)]
/-- a text is read, all of it -/
theorem rd_all (hn : tx.length ≤ 300) (ht : tkR s (tks tx)) (hm : MT tx m) (h14 : (s.1 14).length ≤ 8) :
    ∃ s' m', f_5001 s = some s' ∧ f_12055 m = some m' ∧ FrR m m' ∧ FC s s' ∧ (s'.1 14).length ≤ 8 ∧
    ((∃ i f, f ≠ 0 ∧ s'.2 0 = f ∧ s'.2 1 = nI i ∧ i < (tks tx).length ∧ m' 0 9 = f ∧ m' 0 10 = nI (tpl (tks tx) i)) ∨
    (s'.2 0 = 0 ∧ m' 0 9 = 0 ∧ m' 0 10 = -1 ∧ ∃ i c d, i + 1 = (tks tx).length ∧ PgC s' i c d ∧ PgM s' i c d m')) := by
  rcases rd_both (G := Gd ((tks tx).length - 1) (rdA s)) (fun _ _ h e => h.go e) (Gd.ini hn ht h14) hn ht hm with ⟨s', m', i, f, g1, g2, g3, g4, g5, g6, g7, g8, g9, g10⟩ | ⟨s', sv, m', i, g1, g2, g3, g4, g5, g6, g7, g8, g9, g10, g11, g12, g13, g14, g15, g16⟩
  · exact ⟨s', m', g1, g2, g3, g4, JN.f01 (s := s) h14 s' g1, Or.inl ⟨i, f, g5, g6, g7, g8, g9, g10⟩⟩
  · have h300 := g10.2.2.2.2.1
    have h301 := tks_300 hn
    obtain ⟨a, c, k, d, N, ⟨hL, hl, hN, hv⟩, h5, hD, hS, hX, hF⟩ := g16 ⟨g10.1, g12, by omega⟩ (by omega)
    have ha : a = i := by
      have q1 := hL.2.1
      rw [g10.2.1, nI_eq (by omega) (by have := hL.2.2.2.1; omega)] at q1
      exact q1.symm
    subst ha
    have he : (tks tx).length - 1 = a := by omega
    rw [he] at hL hv h300
    have hc : c < 600 := by have := hl.1; omega
    obtain ⟨l7, l8, l15, l16, l17⟩ := hl
    obtain ⟨sg, q17, _⟩ := Sg.cd (s := s') (x := 17) (y := 0) (a := a) ⟨l7, l8, l15, l16, l17⟩ hc h300
    obtain ⟨s0, es0⟩ : ∃ s0, s0 = au_cd 17 0 s' := ⟨_, rfl⟩
    have er : ∀ j, j ≠ 14 → (au_cd 17 0 sv).1 j = s0.1 j := by
      intro j hj
      rw [es0]
      rcases g5 with e | e
      · rw [e]
      · rw [e]
        show (if j = 8 then xadd 600 (s'.1 8) 0 else if j = 7 then xadd 600 (s'.1 7) 17 else (Vs s').1 j) = (if j = 8 then xadd 600 (s'.1 8) 0 else if j = 7 then xadd 600 (s'.1 7) 17 else s'.1 j)
        rw [Vs_r hj]
    rw [← es0] at sg q17
    have rs : ∀ j, j ≠ 7 → j ≠ 8 → s0.1 j = s'.1 j := fun j h7 h8 => by
      rw [es0]
      show (if j = 8 then _ else if j = 7 then _ else s'.1 j) = _
      rw [if_neg h8, if_neg h7]
    have hs2 : s0.2 = s'.2 := by rw [es0]; rfl
    obtain ⟨⟨hMT, h09⟩, hQc, hQw, hQn, ⟨hQp, hQe⟩, hQd, hQk, _, _⟩ := g8
    rw [er 7 (by decide), er 8 (by decide)] at hQc
    rw [er 0 (by decide)] at hQw
    rw [er 5 (by decide), er 6 (by decide)] at hQp
    rw [er 6 (by decide)] at hQe
    rw [er 9 (by decide), er 10 (by decide), er 12 (by decide)] at hQd
    rw [er 0 (by decide), er 1 (by decide), er 15 (by decide), er 16 (by decide), er 17 (by decide)] at hQk
    have hCI : CI s0 0 a 0 c 0 k := hS.2.2.2.2.old sg.F
    have hP : LPr tx s0 m' a c k d := ⟨hMT, by rw [hs2]; exact g10.1, h09, sg.ln, by omega, by omega, by have := hD.1; omega, h300, by rw [rs 1 (by decide) (by decide)]; exact hv, by rw [rs 9 (by decide) (by decide)]; exact hD.1, hCI, hQc, hQd, hQk⟩
    have e1 : f_5001 s = bOv (f_5023_L2 400 (nI 0) s0) fun s3 => some s3 := by
      rw [g1]
      unfold f_5001_J100
      have e17 : (f_4005 17 0 s').1 = s0 := es0.symm
      rw [bT, e17, bS_eq, f5002_0 (by rw [hs2]; exact g10.1)]
      rfl
    have hFC0 : FC s s0 := by
      rw [es0]
      exact g4.cd
    have lens : (s0.1 0).length = a + 1 ∧ (s0.1 1).length = a + 1 ∧ (s0.1 7).length = c + 1 ∧ (s0.1 8).length = c + 1 := by
      refine ⟨?_, ?_, sg.ln.1, sg.ln.2.1⟩
      · rw [rs 0 (by decide) (by decide)]; exact hL.2.2.2.2.2.1
      · rw [rs 1 (by decide) (by decide)]; exact hv
    rcases LK.go hP k 400 1000 0 s0 m' (LK.ini hP) (by omega) (by omega) (by omega) with ⟨sL, mL, f, t, w1, w2, w3, w4, w5, w6, w7, w8, w9, w10⟩ | ⟨sL, mL, w1, w2, hK⟩
    · refine ⟨sL, mL, by rw [e1, w1]; rfl, g2.trans w2, g3.tr w3, hFC0.co w4.1 w4.2, JN.f01 (s := s) h14 sL (by rw [e1, w1]; rfl), Or.inl ⟨t, f, w5, w6, w7, w8, w9, w10⟩⟩
    · have hK2 := hK
      obtain ⟨k1, k2, k3, k4, k5, k6, k7, k8, k9⟩ := hK2
      have hFL : FC s0 sL := ⟨fun j hj => k1 j (by omega) (by omega), fun v _ => by rw [k2]⟩
      have hFm : FrR m' mL := ⟨fun j h0 hj => k8 j (by omega), fun v _ => by rw [k8 0 (by decide)]⟩
      have fin : f_5001 s = some sL := by rw [e1, w1]; rfl
      have lk : ∀ {n g j o L b b' x x' : Nat}, b' ≤ a → x' ≤ c → PX (rw4 s') (Qs s' 0 k) n g j o L b b' x x' → PX (rw4 sL) (Qf sL d) n g j o L b b' x x' := fun h1 h2 h => PX.lk hK hCI h300 (by omega) h1 h2 (h.sg sg.F h1 h2 (Nat.le_refl _) (Nat.le_refl _) (Nat.le_refl _))
      have ro : ∀ j, j ≠ 1 → j ≠ 7 → j ≠ 8 → sL.1 j = s'.1 j := fun j h1 h7 h8 => (k1 j h1 h8).trans (rs j h7 h8)
      have K : ∀ x, (rw4 sL).1 x = (rw4 s').1 x := fun x => by
        show (sL.1 0).getD x 0 = _
        rw [ro 0 (by decide) (by decide) (by decide)]
        rfl
      have C : ∀ x, (rw4 sL).2.2.1 x = (rw4 s0).2.2.1 x := fun x => by
        show (sL.1 7).getD x 0 = _
        rw [k1 7 (by decide) (by decide)]
        rfl
      have D : ∀ x, x < c → (rw4 sL).2.2.1 x ≠ 15 → (rw4 sL).2.2.2 x = (rw4 s').2.2.2 x := fun x hx h15 => by
        rw [← sg.D hx]
        refine k6 x (fun q hq e => ?_)
        obtain ⟨t2, x2, u1, u2, u3, u4, u5, u6, u7, _⟩ := hCI q (Nat.zero_le _) hq
        rw [e, nI_eq (by omega) (by omega)] at u4
        apply h15
        rw [C, u4]
        exact u7
      refine ⟨sL, mL, fin, g2.trans w2, g3.tr hFm, hFC0.co hFL.1 hFL.2, JN.f01 (s := s) h14 sL fin, Or.inr ⟨by rw [k2, hs2]; exact g10.1, by rw [k8 0 (by decide)]; exact h09, by rw [k8 0 (by decide)]; exact g7, a, c, d, g9, ?_, ?_⟩⟩
      · refine ⟨h300, by omega, by have := hD.1; omega, by rw [k1 0 (by decide) (by decide)]; exact lens.1, by rw [k3]; exact lens.2.1, by rw [k1 7 (by decide) (by decide)]; exact lens.2.2.1, by rw [k4]; exact lens.2.2.2, ?_, ?_, by rw [C]; exact q17, ⟨N, lk (Nat.le_refl _) (Nat.le_refl _) hX⟩, fun q hq => ?_⟩
        · unfold Dl
          rw [ro 9 (by decide) (by decide) (by decide), ro 10 (by decide) (by decide) (by decide), ro 11 (by decide) (by decide) (by decide), ro 12 (by decide) (by decide) (by decide)]
          exact hD
        · rw [K]
          exact hL.2.2.2.2.2.2.2.2.1
        · obtain ⟨M, i0, i1, i', c0, c1, p, z0, z1, z2, z3, z4, z5, z6, z7, z8, z9, z10, z11⟩ := hF q (Nat.zero_le _) hq
          refine ⟨M, i0, i1, i', c0, c1, p, z0, z1, z2, lk z1 (by omega) z3, by rw [K]; exact z4, by rw [ro 10 (by decide) (by decide) (by decide)]; exact z5, z6, by rw [ro 11 (by decide) (by decide) (by decide)]; exact z7, by rw [ro 12 (by decide) (by decide) (by decide)]; exact z8, by rw [C, sg.C (by omega)]; exact z9, ?_, by rw [C, sg.C (by omega)]; exact z11⟩
          rw [D c1 (by omega) (by rw [C, sg.C (by omega), z9]; decide)]
          exact z10
      · refine ⟨fun x hx => ⟨?_, ?_⟩, fun q hq => ⟨?_, ?_⟩, ⟨?_, fun x hx => ?_⟩, ?_, ?_, ?_, fun q hq => ⟨?_, ?_⟩⟩
        · rw [k8 4 (by decide), (hQc.2.2 x (by omega)).1, C]
          rfl
        · rw [k9 x (by omega), C]
          rfl
        · rw [k8 14 (by decide), (hQd.2.2.2.2.2 q (by rw [rs 9 (by decide) (by decide)]; have := hD.1; omega)).1, ro 10 (by decide) (by decide) (by decide), rs 10 (by decide) (by decide)]
        · rw [k8 15 (by decide), (hQd.2.2.2.2.2 q (by rw [rs 9 (by decide) (by decide)]; have := hD.1; omega)).2, ro 12 (by decide) (by decide) (by decide), rs 12 (by decide) (by decide)]
        · rw [k8 0 (by decide)]
          exact hQw.1
        · rw [k8 6 (by decide), hQw.2 x hx, K, rs 0 (by decide) (by decide)]
          rfl
        · rw [k8 0 (by decide), k1 5 (by decide) (by decide)]
          exact hQp.1
        · rw [k1 5 (by decide) (by decide), k1 6 (by decide) (by decide)]
          exact hQp.2.1
        · rw [ro 5 (by decide) (by decide) (by decide)]
          exact g14
        · rw [k1 5 (by decide) (by decide)] at hq ⊢
          rw [k8 7 (by decide)]
          exact hQp.2.2 q hq
        · rw [k1 5 (by decide) (by decide)] at hq
          rw [k8 8 (by decide), k1 6 (by decide) (by decide)]
          exact hQe q (by rw [hQp.2.1]; exact hq) (fun z => z)
end RDX
