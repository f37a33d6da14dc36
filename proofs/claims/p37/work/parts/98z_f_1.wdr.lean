/-! the law: a test is withdrawn -/
section SCW
variable {T T' : Tx} {m m0 m' : Mx} {tx : List Int32} {e0 n0 td i j k n l p N z : Nat} {t : Nat → Nat} {A : Nat → List Int32} {v w x7 x8 x9 x10 x11 x12 x13 : Int32} {es : List Nat} {ts : Nat → List Nat} {as : List Nat} {ps : Nat → Nat} {txs : Nat → List Int32} {ss : Nat → Sx} {pd : Nat} {own : Nat → Nat} {F G : Nat → Int32} {bc bs : Nat}
/-- the marks before -/
theorem sw_475 (h : SInv 0 T m tx es ts as ps txs ss pd own) (hn : n0 = as.length) (hF : ∀ l, l < as.length → f_12098 (nI l) m = some (F l)) (hz : 80 ≤ z) : ∀ (q n l bc bs : Nat) (A : Nat → List Int32), l + q = as.length → q < n → BkI m A e0 n0 td t → (A z).length = 30 → (∀ i, i < l → (A z).getD i 0 = F i) → 18 * q ≤ bc → 108 * q ≤ bs →
    ∃ A' bc' bs', (∀ y, y ≠ z → A' y = A y) ∧ (A' z).length = 30 ∧ (∀ i, i < as.length → (A' z).getD i 0 = F i) ∧ bc ≤ bc' + 18 * q ∧ bs ≤ bs' + 108 * q ∧ l_13041_L475 n 0 74 75 76 77 78 79 x7 x8 x9 x10 x11 x12 x13 z (nI l) bc bs (T, A) = l_13041_L475 (0 + 1) 0 74 75 76 77 78 79 x7 x8 x9 x10 x11 x12 x13 z (nI as.length) bc' bs' (T, A') := by
  have h30 := h.2.2.2.2.1.2.1
  intro q
  induction q with
  | zero =>
    intro n l bc bs A hl hn1 hB hlz hv hc hs
    obtain ⟨n, rfl⟩ : ∃ y, n = y + 1 := ⟨n - 1, by omega⟩
    obtain ⟨b1, b2, b3, ⟨l74, l75, l76, l77, l78, l79⟩, ⟨c1, c1', c1''⟩, cE, c0, cQ, cA⟩ := hB
    have el : l = as.length := by omega
    subst el
    have x1 : xg (A 79) 1 = nI as.length := by
      show xg (A 79) (nI 1) = _
      rw [xg_n (by omega), c1', hn]
    have v1 : vi 1 (A 79).length := by rw [l79]; exact vi_n (i := 1) (by omega) (by omega)
    refine ⟨A, bc, bs, fun _ _ => rfl, hlz, hv, by omega, by omega, ?_⟩
    rw [l_13041_L475, l_13041_L475]
    show gd (vi 1 (A 79).length) (if xg (A 79) 1 ≤ nI as.length then _ else _) = gd (vi 1 (A 79).length) (if xg (A 79) 1 ≤ nI as.length then _ else _)
    rw [gd_e v1, gd_e v1, if_pos ((show xg (A 79) 1 ≤ nI as.length by rw [x1]; exact (nI_gle (by omega) (by omega)).2 (Nat.le_refl _))), if_pos ((show xg (A 79) 1 ≤ nI as.length by rw [x1]; exact (nI_gle (by omega) (by omega)).2 (Nat.le_refl _)))]
  | succ q ih =>
    intro n l bc bs A hl hn1 hB hlz hv hc hs
    obtain ⟨n, rfl⟩ : ∃ y, n = y + 1 := ⟨n - 1, by omega⟩
    have hl' : l < as.length := by omega
    obtain ⟨M, R, m1, m2, m3⟩ := mkOf h hB (by omega : l < n0)
    have eM : M = F l := by
      have := m1.symm.trans (hF l hl')
      injection this
    subst eM
    have hB' := hB
    obtain ⟨b1, b2, b3, ⟨l74, l75, l76, l77, l78, l79⟩, ⟨c1, c1', c1''⟩, cE, c0, cQ, cA⟩ := hB
    have x1 : xg (A 79) 1 = nI as.length := by
      show xg (A 79) (nI 1) = _
      rw [xg_n (by omega), c1', hn]
    have v1 : vi 1 (A 79).length := by rw [l79]; exact vi_n (i := 1) (by omega) (by omega)
    obtain ⟨A1, hA1⟩ : ∃ A1 : Nat → List Int32, A1 = u1 A z ((A z).set l (F l)) := ⟨_, rfl⟩
    have o1 : ∀ y, y ≠ z → A1 y = A y := fun y hy => by rw [hA1]; exact u1_n _ _ hy
    have oz : A1 z = (A z).set l (F l) := by rw [hA1, u1_s]
    have hB1 : BkI m A1 e0 n0 td t := hB'.of Mw.id (fun y h1 h2 => o1 y (by omega)) (by rw [o1 79 (by omega)]; exact l79) (by rw [o1 79 (by omega)]) (by rw [o1 79 (by omega)]) (by rw [o1 79 (by omega)])
    have hb1 : 18 ≤ bc ∧ 108 ≤ bs := by omega
    have hb2 : 18 * q ≤ bc - 18 := by omega
    have hb3 : 108 * q ≤ bs - 108 := by omega
    obtain ⟨A', bc', bs', g1, g2, g3, g4, g5, g6⟩ := ih n (l + 1) (bc - 18) (bs - 108) A1 (by omega) (by omega) hB1 (by rw [oz, List.length_set]; exact hlz) (fun i hi => by
      rw [oz]
      by_cases e : i = l
      · rw [e, gset (by omega)]
      · rw [gD_set_n (fun y => e y.symm)]
        exact hv i (by omega)) hb2 hb3
    refine ⟨A', bc', bs', fun y hy => (g1 y hy).trans (o1 y hy), g2, g3, by omega, by omega, ?_⟩
    rw [l_13041_L475]
    show gd (vi 1 (A 79).length) (if xg (A 79) 1 ≤ nI l then _ else gd _ (bP (l_13037 0 74 77 78 (nI l) 0 (T, A)) fun r14 => gd (vi (nI l) (A z).length) (bS (lSet (T, A) z (nI l) r14) _))) = _
    rw [gd_e v1, x1, if_neg (fun y => by have := (nI_gle (by omega) (by omega)).1 y; omega), gd_e hb1, m3 0, if_pos rfl, bP_some, gd_e (by rw [hlz]; exact vi_n (by omega) (by omega)), lSet_e (by omega), ← hA1, bS_eq, nI_p1 (by omega)]
    exact g6
end SCW
