/-! the law: its loop -/
section LWL
theorem bud1 {a b q u u2 c : Nat} (h : a * (q + 1) + b * u ≤ c) (hu : u2 ≤ u) : a * q + b * u2 ≤ c - a := by
  have h1 := Nat.mul_le_mul_left b hu
  rw [Nat.mul_succ] at h
  exact Nat.le_sub_of_add_le (by omega)
theorem bud2 {a b q u c : Nat} (h : a * (q + 1) + b * (u + 1) ≤ c) : b ≤ c - a ∧ a * q + b * u ≤ c - a - b := by
  rw [Nat.mul_succ, Nat.mul_succ] at h
  exact ⟨Nat.le_sub_of_add_le (by omega), Nat.le_sub_of_add_le (Nat.le_sub_of_add_le (by omega))⟩
theorem bud0 {a b q u c : Nat} (h : a * (q + 1) + b * u ≤ c) : a ≤ c := by
  rw [Nat.mul_succ] at h
  omega
theorem law_L {L : Nat} {scX : Nat → Int32} {X : ab_Xq} {R : ab_K} (hL : L ≤ 260) (hR : ab_Cl 1000 (ab_Gam 1000) 13 i_law (L + 1) scX (fun _ r => r = some (.int 1)) X R) : ∀ (q j : Nat) (G : ab_G) (T : Tx) (A : Nat → List Int32) (td : Nat) (w : Option Value) (bc bs : Nat), j + q = 120 → LRep G (T, A) → JI T A td → td ≤ 4 * j → 1310 * q + 3000 * (6 - j / 20) ≤ bc → 48700 * q + 18000 * (6 - j / 20) ≤ bs → R 66 [some (.float 0), some (.ref 0), some (.ref 74), some (.ref 75), some (.ref 76), some (.ref 77), some (.ref 78), some (.ref 79), some (.int 1), some (.int (nI j)), w] [] G bc bs := by
  intro q
  induction q with
  | zero =>
    intro j G T A td w bc bs hj hS hJ ht hb1 hb2
    refine us_iload hR dL_law_66 rfl ?_
    refine us_bipushC hR dL_law_68 (c := 120) (by decide) ?_
    refine us_icmp_ge hR dL_law_70 165 (by decide) (fun _ => ?_) (fun hc => ?_)
    · exact us_iload hR dL_law_165 rfl (us_iret hR dL_law_167 rfl rfl rfl)
    · exact absurd (show (120 : Int32) ≤ nI j from (nI_gle (a := 120) (by omega) (by omega)).2 (by omega)) hc
  | succ q ih =>
    intro j G T A td w bc bs hj hS hJ ht hb1 hb2
    have hj120 : j < 120 := by omega
    refine us_iload hR dL_law_66 rfl ?_
    refine us_bipushC hR dL_law_68 (c := 120) (by decide) ?_
    refine us_icmp_ge hR dL_law_70 165 (by decide) (fun hc => ?_) (fun _ => ?_)
    · exact absurd ((nI_gle (a := 120) (b := j) (by omega) (by omega)).1 hc) (by omega)
    have hn : ∀ (G1 : ab_G) (T1 : Tx) (A1 : Nat → List Int32) (td1 : Nat) (x : Int32) (bc1 bs1 : Nat), LRep G1 (T1, A1) → JI T1 A1 td1 → td1 ≤ 4 * (j + 1) → 1310 * q + 3000 * (6 - (j + 1) / 20) ≤ bc1 → 48700 * q + 18000 * (6 - (j + 1) / 20) ≤ bs1 → R 152 [some (.float 0), some (.ref 0), some (.ref 74), some (.ref 75), some (.ref 76), some (.ref 77), some (.ref 78), some (.ref 79), some (.int 1), some (.int (nI j)), some (.int x)] [] G1 bc1 bs1 := by
      intro G1 T1 A1 td1 x bc1 bs1 h1 h2 h3 h4 h5
      refine us_iconstC hR dL_law_152 (c := 1) (by decide) ?_
      refine us_goto hR dL_law_153 157 (by decide) ?_
      refine us_istore hR dL_law_157 (Nat.le_of_ble_eq_true rfl) ?_
      refine us_iincC hR dL_law_159 (c := 1) rfl (Nat.le_of_ble_eq_true rfl) (by decide) ?_
      refine us_goto hR dL_law_162 66 (by decide) ?_
      change R 66 [some (.float 0), some (.ref 0), some (.ref 74), some (.ref 75), some (.ref 76), some (.ref 77), some (.ref 78), some (.ref 79), some (.int 1), some (.int (nI j + 1)), some (.int x)] [] G1 bc1 bs1
      rw [nI_p1 (by omega)]
      exact ih (j + 1) G1 T1 A1 td1 _ bc1 bs1 (by omega) h1 h2 h3 h4 h5
    have e2 : (2 : Int32) * nI j = nI (2 * j) := n2 (by omega)
    refine us_iload hR dL_law_73 rfl ?_
    refine us_if_eq hR dL_law_75 165 (by decide) (fun hc => absurd hc (by decide)) (fun _ => ?_)
    refine us_aload_nF hR dL_law_78 rfl ?_
    refine us_iconstC hR dL_law_79 (c := 2) (by decide) ?_
    refine us_iload hR dL_law_80 rfl ?_
    refine us_imul hR dL_law_82 ?_
    refine us_at hR dL_law_83 (by decide +kernel) rfl ⟨Nat.succ_ne_zero L, by omega⟩ (by decide) (Nat.le_of_ble_eq_true rfl) (by rw [e2, nI_T (by omega)]; omega) ?_
    obtain ⟨x, hx⟩ : ∃ x, x = ab_at (L + 1) scX (2 * nI j) := ⟨_, rfl⟩
    rw [← hx]
    refine us_istore hR dL_law_86 (Nat.le_of_ble_eq_true rfl) ?_
    change R _ [some (.float 0), some (.ref 0), some (.ref 74), some (.ref 75), some (.ref 76), some (.ref 77), some (.ref 78), some (.ref 79), some (.int 1), some (.int (nI j)), some (.int x)] _ _ _ _
    refine us_aload_n hR dL_law_88 rfl ?_
    refine us_aload_n hR dL_law_89 rfl ?_
    refine us_aload_n hR dL_law_90 rfl ?_
    refine us_aload hR dL_law_91 rfl ?_
    refine us_aload hR dL_law_93 rfl ?_
    refine us_aload hR dL_law_95 rfl ?_
    refine us_aload hR dL_law_97 rfl ?_
    refine us_iload hR dL_law_99 rfl ?_
    refine us_aload_nF hR dL_law_101 rfl ?_
    refine us_iconstC hR dL_law_102 (c := 2) (by decide) ?_
    refine us_iload hR dL_law_103 rfl ?_
    refine us_imul hR dL_law_105 ?_
    refine us_iconstC hR dL_law_106 (c := 1) (by decide) ?_
    refine us_iadd hR dL_law_107 ?_
    refine us_at hR dL_law_108 (by decide +kernel) rfl ⟨Nat.succ_ne_zero L, by omega⟩ (by decide) (Nat.le_of_ble_eq_true rfl) (by rw [e2, nI_p1 (by omega), nI_T (by omega)]; omega) ?_
    obtain ⟨y, hy⟩ : ∃ y, y = ab_at (L + 1) scX (2 * nI j + 1) := ⟨_, rfl⟩
    rw [← hy]
    obtain ⟨T1, A1, td1, g1, g2, g3⟩ := l_act hJ (by omega) x y
    refine us_callSc 1310 48700 hR dL_law_111 (y := 13042) (by decide +kernel) (by decide) (J := i13042) rfl rfl rfl rfl (rest := _) (Nat.le_of_ble_eq_true rfl) rfl rfl (bud0 hb1) (bud0 hb2) ?_
    refine sl_13042 (d := 81) hS g1 (fun G1 _ h1 => ?_)
    change R _ [some (.float 0), some (.ref 0), some (.ref 74), some (.ref 75), some (.ref 76), some (.ref 77), some (.ref 78), some (.ref 79), some (.int 1), some (.int (nI j)), some (.int x)] [.int 1] G1 (bc - 1310) (bs - 48700)
    refine us_if_eq hR dL_law_114 156 (by decide) (fun hc => absurd hc (by decide)) (fun _ => ?_)
    refine us_iload hR dL_law_117 rfl ?_
    refine us_bipushC hR dL_law_119 (c := 20) (by decide) ?_
    refine us_irem hR dL_law_121 (by decide) ?_
    refine us_bipushC hR dL_law_122 (c := 19) (by decide) ?_
    have e20 : nI j % 20 = nI (j % 20) := nI_md (b := 20) (by omega) (by omega) (by omega)
    rw [e20]
    have u6 : 6 - (j + 1) / 20 ≤ 6 - j / 20 := by omega
    refine us_icmp_lt hR dL_law_124 152 (by decide) (fun _ => hn G1 T1 A1 td1 x _ _ h1 g2 (by omega) (bud1 hb1 u6) (bud1 hb2 u6)) (fun hc => ?_)
    have h19 : j % 20 = 19 := by
      have : ¬ j % 20 < 19 := fun z => hc (by
        show nI (j % 20) < nI 19
        rw [i_lt, nI_T (by omega), nI_T (by omega)]
        omega)
      omega
    have u7 : 6 - j / 20 = (6 - (j + 1) / 20) + 1 := by omega
    rw [u7] at hb1 hb2
    have l79 : (A1 79).length = 6 := by
      obtain ⟨_, _, _, _, _, _, _, hB, _⟩ := g2
      exact hB.l79
    refine us_aload hR dL_law_127 rfl ?_
    refine us_iconstC hR dL_law_129 (c := 0) (by decide) ?_
    refine ul_iaload (S := (T1, A1)) (a := 79) h1 (show vi 0 (A1 79).length by rw [l79]; exact vi_n (i := 0) (by omega) (by omega)) hR dL_law_130 ?_
    refine us_if_eq hR dL_law_131 152 (by decide) (fun _ => hn G1 T1 A1 td1 x _ _ h1 g2 (by omega) (bud1 hb1 (Nat.le_succ _)) (bud1 hb2 (Nat.le_succ _))) (fun hc => ?_)
    have h0 : (A1 79).getD 0 0 ≠ 0 := fun z => hc ((show xg (A1 79) (nI 0) = (A1 79).getD 0 0 from xg_n (by omega)).trans z)
    obtain ⟨T2, k1, k2⟩ := j_ism g2 (x >>> (4 &&& 31)) h0
    refine us_aload_n hR dL_law_134 rfl ?_
    refine us_aload_n hR dL_law_135 rfl ?_
    refine us_aload hR dL_law_136 rfl ?_
    refine us_aload hR dL_law_138 rfl ?_
    refine us_aload hR dL_law_140 rfl ?_
    refine us_iload hR dL_law_142 rfl ?_
    refine us_iconstC hR dL_law_144 (c := 4) (by decide) ?_
    refine us_ishr hR dL_law_145 ?_
    refine us_callSc 3000 18000 hR dL_law_146 (y := 13038) (by decide +kernel) (by decide) (J := i13038) rfl rfl rfl rfl (rest := _) (Nat.le_of_ble_eq_true rfl) rfl rfl (bud2 hb1).1 (bud2 hb2).1 ?_
    refine sl_13038 (d := 953) h1 k1 (fun G2 _ h2 => ?_)
    change R _ [some (.float 0), some (.ref 0), some (.ref 74), some (.ref 75), some (.ref 76), some (.ref 77), some (.ref 78), some (.ref 79), some (.int 1), some (.int (nI j)), some (.int x)] [.int 1] G2 (bc - 1310 - 3000) (bs - 48700 - 18000)
    refine us_if_eq hR dL_law_149 156 (by decide) (fun hc => absurd hc (by decide)) (fun _ => ?_)
    exact hn G2 T2 A1 td1 x _ _ h2 k2 (by omega) (bud2 hb1).2 (bud2 hb2).2
end LWL
