/-! the law: a test is withdrawn -/
section SCW
variable {T T' : Tx} {m m0 m' : Mx} {tx : List Int32} {e0 n0 td i j k n l p N z : Nat} {t : Nat → Nat} {A : Nat → List Int32} {v w x7 x8 x9 x10 x11 x12 x13 : Int32} {es : List Nat} {ts : Nat → List Nat} {as : List Nat} {ps : Nat → Nat} {txs : Nat → List Int32} {ss : Nat → Sx} {pd : Nat} {own : Nat → Nat} {F G : Nat → Int32} {bc bs : Nat}
/-- the marks behind -/
theorem sw_576 (h : SInv 0 T m tx es ts as ps txs ss pd own) (hn : n0 = as.length) (hB : BkI m A e0 n0 td t) (hG : ∀ l, l < as.length → f_12098 (nI l) m = some (G l)) (hl30 : (A z).length = 30) (hv : ∀ i, i < as.length → (A z).getD i 0 = F i) (hj : j < e0) (hk : k < t j) (h44 : m 44 (8 * j + k) ≠ 0) {told : Int32} : ∀ (q n l bc bs : Nat) (b : Int32), l + q = as.length → q < n → told = wdF F G q l b → 18 * q + 4 ≤ bc → 108 * q + 40 ≤ bs →
    l_13041_L576 n 0 74 75 76 77 78 79 x7 x8 x9 (nI j) (nI k) x12 b z told (nI l) bc bs (T, A) = some ((T, A), 1) := by
  obtain ⟨en, ee, et⟩ := hB.en h
  have h30 := h.2.2.2.2.1.2.1
  have hB' := hB
  obtain ⟨b1, b2, b3, ⟨l74, l75, l76, l77, l78, l79⟩, ⟨c1, c1', c1''⟩, cE, c0, cQ, cA⟩ := hB
  have x1 : xg (A 79) 1 = nI as.length := by
    show xg (A 79) (nI 1) = _
    rw [xg_n (by omega), c1', hn]
  have v1 : vi 1 (A 79).length := by rw [l79]; exact vi_n (i := 1) (by omega) (by omega)
  have e12 : h_13012 0 (nI j) (nI k) T = some (T, -1000003) := by
    unfold h_13012
    rw [c_wdrF h (by omega) (by rw [← et j hj]; exact hk) h44]
    rfl
  intro q
  induction q with
  | zero =>
    intro n l bc bs b hl hn1 hw hc hs
    obtain ⟨n, rfl⟩ : ∃ y, n = y + 1 := ⟨n - 1, by omega⟩
    have hb1 : 4 ≤ bc ∧ 40 ≤ bs := by omega
    rw [l_13041_L576]
    show gd (vi 1 (A 79).length) (if xg (A 79) 1 ≤ nI l then (if told = b then gd (tK T 0 = 12) (gd _ (bO (h_13012 0 (nI j) (nI k) T) _)) else _) else _) = _
    rw [gd_e v1, x1, if_pos ((nI_gle (by omega) (by omega)).2 (by omega)), if_pos (show told = b from hw), gd_e h.1.1, gd_e hb1, e12, bO_some, bS_eq, if_pos rfl]
    rfl
  | succ q ih =>
    intro n l bc bs b hl hn1 hw hc hs
    obtain ⟨n, rfl⟩ : ∃ y, n = y + 1 := ⟨n - 1, by omega⟩
    have hl' : l < as.length := by omega
    obtain ⟨M, R, m1, m2, m3⟩ := mkOf h hB' (by omega : l < n0)
    have eM : M = G l := by
      have := m1.symm.trans (hG l hl')
      injection this
    subst eM
    have hb1 : 18 ≤ bc ∧ 108 ≤ bs := by omega
    have hb2 : 18 * q + 4 ≤ bc - 18 := by omega
    have hb3 : 108 * q + 40 ≤ bs - 108 := by omega
    rw [l_13041_L576]
    show gd (vi 1 (A 79).length) (if xg (A 79) 1 ≤ nI l then _ else gd _ (bP (l_13037 0 74 77 78 (nI l) 0 (T, A)) fun r5 => gd (vi (nI l) (A z).length) (if r5 = xg (A z) (nI l) then _ else _))) = _
    rw [gd_e v1, x1, if_neg (fun y => by have := (nI_gle (by omega) (by omega)).1 y; omega), gd_e hb1, m3 0, if_pos rfl, bP_some, gd_e (by rw [hl30]; exact vi_n (by omega) (by omega)), xg_n (by omega), hv l hl', nI_p1 (by omega)]
    rw [wdF] at hw
    by_cases c : G l = F l
    · rw [if_pos c] at hw ⊢
      exact ih _ _ _ _ _ (by omega) (by omega) hw hb2 hb3
    · rw [if_neg c] at hw ⊢
      exact ih _ _ _ _ _ (by omega) (by omega) hw hb2 hb3
end SCW
