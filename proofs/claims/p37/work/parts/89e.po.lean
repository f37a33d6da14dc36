/-! the pass over operands and calls -/
section PXO
variable {s s1 s' : Sx} {a a1 a' c c1 c' k k1 k' e L : Nat}
theorem xpos_v {xs : List Int32} {v : Int32} (h : xpos xs v ≠ -1) : ∃ p, p < xs.length ∧ xpos xs v = nI p := by
  unfold xpos at h ⊢
  by_cases q : v ∈ xs
  · rw [if_pos q]
    exact ⟨_, List.idxOf_lt_length_iff.2 q, rfl⟩
  · rw [if_neg q] at h
    exact absurd rfl h
theorem Sg.j67 {x v : Nat} {sz : Sx} (hz : ∀ j, j ≠ 13 → j ≠ 14 → sz.1 j = s.1 j) (hz2 : sz.2 = s.2) (hL : Lv a e L s) (hae : a < e) (hl : Ln s c k) (hv : (s.1 1).length = e + 1) (hc : c ≤ 600) :
    Sg s (f_5022_J67 x (nI v) sz).1 a (a + 1) c c k k ∧ (rw4 (f_5022_J67 x (nI v) sz).1).1 a = 34 ∧ (rw4 (f_5022_J67 x (nI v) sz).1).2.1 a = nI v := by
  have he := hL.2.2.2.2.1
  have e0 : (f_5022_J67 x (nI v) sz).1.1 0 = (s.1 0).set a 34 := by
    show xset (sz.1 0) (sz.2 2) 34 = _
    rw [hz 0 (by decide) (by decide), hz2, hL.2.1, xset_n (by omega)]
  have e1 : (f_5022_J67 x (nI v) sz).1.1 1 = (s.1 1).set a (nI v) := by
    show xset (sz.1 1) (sz.2 2) (nI v) = _
    rw [hz 1 (by decide) (by decide), hz2, hL.2.1, xset_n (by omega)]
  have ej : ∀ j, j ≠ 0 → j ≠ 1 → j ≠ 13 → j ≠ 14 → (f_5022_J67 x (nI v) sz).1.1 j = s.1 j := fun j h0 h1 h2 h3 => by
    show (if j = 1 then _ else if j = 0 then _ else sz.1 j) = _
    rw [if_neg h1, if_neg h0, hz j h2 h3]
  have hl0 : a < (s.1 0).length := by rw [hL.2.2.2.2.2.1]; omega
  have hl1 : a < (s.1 1).length := by rw [hv]; omega
  obtain ⟨l1, l2, l3, l4, l5⟩ := hl
  refine ⟨⟨⟨by omega, by omega, Nat.le_refl _, hc, Nat.le_refl _⟩, ⟨l1, l2, l3, l4, l5⟩, ?_, ⟨?_, fun z hz => ?_, fun z hz => ?_, fun z hz => ?_, fun z hz => ?_, fun j h1 h2 => ?_⟩, CI.nil⟩, ?_, ?_⟩
  · unfold Ln
    rw [ej 7 (by decide) (by decide) (by decide) (by decide), ej 8 (by decide) (by decide) (by decide) (by decide), ej 15 (by decide) (by decide) (by decide) (by decide), ej 16 (by decide) (by decide) (by decide) (by decide), ej 17 (by decide) (by decide) (by decide) (by decide)]
    exact ⟨l1, l2, l3, l4, l5⟩
  · rw [e1, List.length_set]
  · rw [e0, e1, gD_set_n (by omega), gD_set_n (by omega)]; exact ⟨rfl, rfl⟩
  · rw [e0]
    by_cases q : a = z
    · rw [← q, gD_set_s hl0]; decide
    · rw [gD_set_n q]; exact hz
  · rw [ej 7 (by decide) (by decide) (by decide) (by decide), ej 8 (by decide) (by decide) (by decide) (by decide)]; exact ⟨rfl, rfl⟩
  · rw [ej 15 (by decide) (by decide) (by decide) (by decide), ej 16 (by decide) (by decide) (by decide) (by decide), ej 17 (by decide) (by decide) (by decide) (by decide)]; exact ⟨rfl, rfl, rfl⟩
  · exact ej j (by omega) (by omega) (by omega) (by omega)
  · show ((f_5022_J67 x (nI v) sz).1.1 0).getD a 0 = 34
    rw [e0, gD_set_s hl0]
  · show ((f_5022_J67 x (nI v) sz).1.1 1).getD a 0 = nI v
    rw [e1, gD_set_s hl1]
theorem Sg.var {x : Nat} (hx : x = 13 ∨ x = 14) (hL : Lv a e L s) (hae : a < e) (hl : Ln s c k) (hN : Nl s) (hv : (s.1 1).length = e + 1) (hc : c ≤ 600) (h : (f_5022 x s).1.2 0 = 0) :
    Sg s (f_5022 x s).1 a (a + 1) c c k k ∧ Lv (a + 1) e L (f_5022 x s).1 ∧ Nl (f_5022 x s).1 ∧ (f_5022 x s).1.2 5 = s.2 5 ∧ (rw4 (f_5022 x s).1).1 a = 34 ∧ ∃ v, v < 8 ∧ (rw4 (f_5022 x s).1).2.1 a = nI v ∧ (f_5022 x s).2 = nI v := by
  have hlx : (s.1 x).length ≤ 8 := by
    rcases hx with q | q
    · rw [q]; exact hN.1
    · rw [q]; exact hN.2
  have h0 : ¬ (xpos (s.1 x) (xg (s.1 1) (s.2 2)) = -1 ∧ ¬ nI (s.1 x).length < 8) := fun q => by
    rw [var_f q] at h
    exact absurd h (ref_n (by decide))
  obtain ⟨g1, g2⟩ := var_ok hL hae (by rcases hx with q | q <;> rw [q] <;> decide) h0
  have key : ∃ sz v, f_5022 x s = f_5022_J67 x (nI v) sz ∧ v < 8 ∧ (∀ j, j ≠ 13 → j ≠ 14 → sz.1 j = s.1 j) ∧ sz.2 = s.2 ∧ Nl sz := by
    by_cases c1 : xpos (s.1 x) (xg (s.1 1) (s.2 2)) = -1
    · by_cases c2 : nI (s.1 x).length < 8
      · have hlt : (s.1 x).length < 8 := by
          rcases Nat.lt_or_ge (s.1 x).length 8 with r | r
          · exact r
          · exact absurd c2 (nI_nlt (a := (s.1 x).length) (b := 8) r (by omega))
        refine ⟨sB s x (xadd (ev_cap x) (s.1 x) (xg (s.1 1) (s.2 2))), (s.1 x).length, ?_, hlt, (fun j h1 h2 => if_neg (by rcases hx with q | q <;> rw [q] <;> assumption)), rfl, ?_⟩
        · unfold f_5022
          rw [if_pos c1, if_pos c2]
          rfl
        · rcases hx with q | q
          · subst q
            refine ⟨?_, hN.2⟩
            show (xadd 8 (s.1 13) _).length ≤ 8
            rw [xadd_e hlt, List.length_append]
            exact hlt
          · subst q
            refine ⟨hN.1, ?_⟩
            show (xadd 8 (s.1 14) _).length ≤ 8
            rw [xadd_e hlt, List.length_append]
            exact hlt
      · exact absurd ⟨c1, c2⟩ h0
    · obtain ⟨p, hp, ep⟩ := xpos_v c1
      refine ⟨s, p, ?_, by omega, (fun _ _ _ => rfl), rfl, hN⟩
      unfold f_5022
      rw [if_neg c1, ep]
  obtain ⟨sz, v, e, hv8, hz, hz2, hNz⟩ := key
  obtain ⟨r1, r2, r3⟩ := Sg.j67 (x := x) (v := v) hz hz2 hL hae hl hv hc
  rw [e] at g1 g2 ⊢
  exact ⟨r1, g1, hNz, g2, r2, v, hv8, r3, rfl⟩
/-- marked operands -/
theorem d20 {n : Nat} (h19 : D19 n) : D20 (n + 1) := by
  intro a e L c k s s' ⟨hL, hl, hN, hv⟩ hk h hC
  have he := hL.2.2.2.2.1
  rw [rd_20] at h
  have h : bOv (f_rd n 5019 0 (f_5007 s)) (fun s3 => some (au_cd 8 (au_ko s) (au_dn s3))) = some s' := h
  obtain ⟨s3, e3⟩ := bOv_ex h
  have h := bOv_go h e3
  cases h
  have c3 : Cap s3 := hC.b1 (fun p h => JM.cd (JM.v h (by decide)))
  have c2 := c3.bk e3 (rd_J n _ _ _)
  obtain ⟨h8, e8⟩ := op_ok c2.1
  rw [e8] at e3
  have hae := hL.lt (by rcases hk with q | q | q <;> rw [q] <;> decide)
  have h8' := hL.l8.1 h8
  have hc : c < 600 := by
    have := c2.2.1
    rw [e8] at this
    have h2 : (s.1 7).length < 600 := this
    have := hl.1
    omega
  have sg1 : Sg s (au_up s) a (a + 1) c c k k := Sg.i rfl hl (by omega) (by omega) (by omega)
  obtain ⟨a2, cq, kq, N, g1, g2, g3, g4, g5, g6⟩ := h19 (a + 1) e (L + 1) c k _ s3 ⟨hL.up hae h8', hl, hN, hv⟩ e3 c3
  have b2 := g5.1
  obtain ⟨sg4, k4, d4⟩ := Sg.cd (s := au_dn s3) (x := 8) (y := au_ko s) (a := a2) g5.ln (Cap.cd hC g5.ln) (by omega)
  have sgB : Sg (au_up s) (au_cd 8 (au_ko s) (au_dn s3)) (a + 1) a2 c (cq + 1) k kq := (g5.co (s' := au_dn s3) rfl).tr sg4
  have kA : (rw4 (au_cd 8 (au_ko s) (au_dn s3))).1 a = au_ko s := by
    rw [sgB.K (by omega), hL.ka]
    rfl
  have p1 := PX.sg (k0 := k) (k3 := kq) (s1 := au_dn s3) g6 sg4.F (Nat.le_refl _) (Nat.le_refl _) (Nat.le_refl _) (Nat.le_refl _) (Nat.le_refl _)
  refine ⟨a2, cq + 1, kq, N + 1, g1.dn.co Co_cd, by omega, g3, g4, sg1.tr sgB, PX1 ?_⟩
  unfold PF
  rw [if_neg (by decide), if_neg (by decide), if_pos rfl]
  exact Or.inr (Or.inr (Or.inr (Or.inr (Or.inl ⟨by rw [kA]; exact hk, h8', cq, p1, k4, by rw [kA]; exact d4, rfl⟩))))
end PXO
