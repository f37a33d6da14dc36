/-! the reference as it is made -/
section REFC
def rc_t : List (Nat × Nat × Nat) := [(1, 13, 300), (2, 13, 9000), (3, 13, 300), (12, 14, 1200), (13, 14, 1200), (15, 14, 301), (17, 14, 100), (18, 14, 100), (19, 14, 2), (20, 14, 16), (21, 14, 16), (23, 14, 40), (24, 14, 40), (25, 14, 40), (26, 14, 40), (28, 14, 110), (29, 14, 110), (30, 14, 110), (31, 14, 110), (36, 14, 100), (37, 14, 100), (39, 14, 10), (40, 14, 10), (41, 14, 10), (42, 14, 10), (45, 14, 301), (46, 14, 100), (47, 14, 100), (48, 15, 100), (54, 14, 1300), (55, 14, 88), (56, 14, 12), (58, 14, 9), (59, 14, 32), (61, 14, 9), (62, 14, 32), (66, 14, 4), (67, 14, 4), (68, 14, 4), (69, 14, 32), (70, 14, 64), (71, 14, 32), (72, 14, 64), (73, 15, 32), (75, 14, 30), (76, 14, 30), (77, 14, 30), (78, 14, 30), (79, 15, 30), (80, 14, 240), (81, 15, 240)]
/-- while j arrays have been laid -/
def Rcq (G0 : ab_G) (me : Nat) (G : ab_G) (j : Nat) : Prop := gZ G = gZ G0 + j ∧ gK G me = 12 ∧ gI G me = gI G0 me ∧ (∀ i, i < j → gR G me (rc_t.getD i (0, 0, 0)).1 = some (gZ G0 + i) ∧ gK G (gZ G0 + i) = (rc_t.getD i (0, 0, 0)).2.1 ∧ gN G (gZ G0 + i) = (rc_t.getD i (0, 0, 0)).2.2 ∧ ∀ k, gI G (gZ G0 + i) k = 0) ∧ ∀ a, a < gZ G0 → a ≠ me → cSame G0 G a
theorem rc_inj : ∀ i, i < 51 → ∀ j, j < 51 → (rc_t.getD i (0, 0, 0)).1 = (rc_t.getD j (0, 0, 0)).1 → i = j := by decide +kernel
theorem Rcq.stp {G0 G : ab_G} {me j : Nat} (h : Rcq G0 me G j) (hm : me < gZ G0) (hj : j < 51) : Rcq G0 me (sR (gNew G (rc_t.getD j (0, 0, 0)).2.1 (rc_t.getD j (0, 0, 0)).2.2) me (rc_t.getD j (0, 0, 0)).1 (some (gZ G))) (j + 1) := by
  obtain ⟨h1, h2, h3, h4, h5⟩ := h
  have un : ∀ {α : Type} (f : Nat → α) (v : α) (a : Nat), a ≠ gZ G → u1 f (gZ G) v a = f a := fun f v a ha => u1_n _ _ ha
  refine ⟨?_, ?_, ?_, fun i hi => ?_, fun a ha hn => ?_⟩
  · show gZ G + 1 = _
    omega
  · show u1 (gK G) (gZ G) _ me = 12
    rw [un _ _ _ (by omega)]
    exact h2
  · show u1 (gI G) (gZ G) _ me = _
    rw [un _ _ _ (by omega)]
    exact h3
  · show u2 (u1 (gR G) (gZ G) (fun _ => none)) me _ _ me _ = _ ∧ u1 (gK G) (gZ G) _ _ = _ ∧ u1 (gN G) (gZ G) _ _ = _ ∧ ∀ k, u1 (gI G) (gZ G) _ _ k = 0
    rw [u2_s]
    by_cases e : i = j
    · subst e
      refine ⟨?_, ?_, ?_, fun k => ?_⟩
      · dsimp only
        rw [if_pos rfl, h1]
      · rw [← h1, u1_s]
      · rw [← h1, u1_s]
      · rw [← h1, u1_s]
    · obtain ⟨g1, g2, g3, g4⟩ := h4 i (by omega)
      refine ⟨?_, ?_, ?_, fun k => ?_⟩
      · dsimp only
        rw [if_neg (fun z => e (rc_inj i (by omega) j hj z)), un _ _ _ (by omega)]
        exact g1
      · rw [un _ _ _ (by omega)]; exact g2
      · rw [un _ _ _ (by omega)]; exact g3
      · rw [un _ _ _ (by omega)]; exact g4 k
  · have := h5 a ha hn
    refine ⟨?_, ?_, ?_, ?_⟩
    · show u1 (gK G) (gZ G) _ a = _
      rw [un _ _ _ (by omega)]; exact this.1
    · show u1 (gN G) (gZ G) _ a = _
      rw [un _ _ _ (by omega)]; exact this.2.1
    · show u1 (gI G) (gZ G) _ a = _
      rw [un _ _ _ (by omega)]; exact this.2.2.1
    · show u2 (u1 (gR G) (gZ G) (fun _ => none)) me _ _ a = _
      rw [u2_n _ _ _ hn, un _ _ _ (by omega)]; exact this.2.2.2
theorem sp_12000 {d : Nat} {G : ab_G} {me : Nat} {P : ab_Pq} {X : ab_Xq} (hk : gK G me = 12) (hm : me < gZ G) (h : ∀ G1, Rcq G me G1 51 → P G1 none) : ab_Gam (d + 1) 12000 [.ref me] G P X := by
  refine ab_enter (I := i12000) rfl (Nat.le_of_ble_eq_true rfl) (fun R hR => ?_)
  change R _ _ _ _ 60 18000
  have q0 : Rcq G me G 0 := ⟨rfl, hk, rfl, fun i hi => absurd hi (Nat.not_lt_zero i), fun a _ _ => ⟨rfl, rfl, rfl, rfl⟩⟩
  refine us_aload_n hR dX11_init_0 rfl ?_
  refine us_objInit hR dX11_init_1 (by decide +kernel) (Nat.le_of_ble_eq_true rfl) ?_
  refine us_aload_n hR dX11_init_4 rfl ?_
  refine us_sipushC hR dX11_init_5 (c := 300) (by decide) ?_
  refine us_newa13 hR dX11_init_8 (by decide) (by decide) (Nat.le_of_ble_eq_true rfl) (Nat.le_of_ble_eq_true rfl) ?_
  change R _ _ _ _ 59 17700
  refine us_putR hR dX11_init_10 fR_12_7 (Or.inr ⟨rfl, rfl⟩) (show u1 (gK G) (gZ G) _ me = 12 by rw [u1_n _ _ (by have := q0.1; omega)]; exact q0.2.1) rfl ?_
  have q1 := q0.stp hm (by decide)
  obtain ⟨G1, hG1⟩ : ∃ Gx, Gx = sR (gNew G 13 300) me 1 (some (gZ G)) := ⟨_, rfl⟩
  have q1 : Rcq G me G1 1 := by rw [hG1]; exact q1
  change R _ _ _ (sR (gNew G 13 300) me 1 (some (gZ G))) _ _
  rw [← hG1]
  refine us_aload_n hR dX11_init_13 rfl ?_
  refine us_sipushC hR dX11_init_14 (c := 9000) (by decide) ?_
  refine us_newa13 hR dX11_init_17 (by decide) (by decide) (Nat.le_of_ble_eq_true rfl) (Nat.le_of_ble_eq_true rfl) ?_
  change R _ _ _ _ 58 8700
  refine us_putR hR dX11_init_19 fR_12_13 (Or.inr ⟨rfl, rfl⟩) (show u1 (gK G1) (gZ G1) _ me = 12 by rw [u1_n _ _ (by have := q1.1; omega)]; exact q1.2.1) rfl ?_
  have q2 := q1.stp hm (by decide)
  obtain ⟨G2, hG2⟩ : ∃ Gx, Gx = sR (gNew G1 13 9000) me 2 (some (gZ G1)) := ⟨_, rfl⟩
  have q2 : Rcq G me G2 2 := by rw [hG2]; exact q2
  change R _ _ _ (sR (gNew G1 13 9000) me 2 (some (gZ G1))) _ _
  rw [← hG2]
  refine us_aload_n hR dX11_init_22 rfl ?_
  refine us_sipushC hR dX11_init_23 (c := 300) (by decide) ?_
  refine us_newa13 hR dX11_init_26 (by decide) (by decide) (Nat.le_of_ble_eq_true rfl) (Nat.le_of_ble_eq_true rfl) ?_
  change R _ _ _ _ 57 8400
  refine us_putR hR dX11_init_28 fR_12_16 (Or.inr ⟨rfl, rfl⟩) (show u1 (gK G2) (gZ G2) _ me = 12 by rw [u1_n _ _ (by have := q2.1; omega)]; exact q2.2.1) rfl ?_
  have q3 := q2.stp hm (by decide)
  obtain ⟨G3, hG3⟩ : ∃ Gx, Gx = sR (gNew G2 13 300) me 3 (some (gZ G2)) := ⟨_, rfl⟩
  have q3 : Rcq G me G3 3 := by rw [hG3]; exact q3
  change R _ _ _ (sR (gNew G2 13 300) me 3 (some (gZ G2))) _ _
  rw [← hG3]
  refine us_aload_n hR dX11_init_31 rfl ?_
  refine us_sipushC hR dX11_init_32 (c := 1200) (by decide) ?_
  refine us_newa14 hR dX11_init_35 (by decide) (by decide) (Nat.le_of_ble_eq_true rfl) (Nat.le_of_ble_eq_true rfl) ?_
  change R _ _ _ _ 56 7200
  refine us_putR hR dX11_init_37 fR_12_19 (Or.inr ⟨rfl, rfl⟩) (show u1 (gK G3) (gZ G3) _ me = 12 by rw [u1_n _ _ (by have := q3.1; omega)]; exact q3.2.1) rfl ?_
  have q4 := q3.stp hm (by decide)
  obtain ⟨G4, hG4⟩ : ∃ Gx, Gx = sR (gNew G3 14 1200) me 12 (some (gZ G3)) := ⟨_, rfl⟩
  have q4 : Rcq G me G4 4 := by rw [hG4]; exact q4
  change R _ _ _ (sR (gNew G3 14 1200) me 12 (some (gZ G3))) _ _
  rw [← hG4]
  refine us_aload_n hR dX11_init_40 rfl ?_
  refine us_sipushC hR dX11_init_41 (c := 1200) (by decide) ?_
  refine us_newa14 hR dX11_init_44 (by decide) (by decide) (Nat.le_of_ble_eq_true rfl) (Nat.le_of_ble_eq_true rfl) ?_
  change R _ _ _ _ 55 6000
  refine us_putR hR dX11_init_46 fR_12_23 (Or.inr ⟨rfl, rfl⟩) (show u1 (gK G4) (gZ G4) _ me = 12 by rw [u1_n _ _ (by have := q4.1; omega)]; exact q4.2.1) rfl ?_
  have q5 := q4.stp hm (by decide)
  obtain ⟨G5, hG5⟩ : ∃ Gx, Gx = sR (gNew G4 14 1200) me 13 (some (gZ G4)) := ⟨_, rfl⟩
  have q5 : Rcq G me G5 5 := by rw [hG5]; exact q5
  change R _ _ _ (sR (gNew G4 14 1200) me 13 (some (gZ G4))) _ _
  rw [← hG5]
  refine us_aload_n hR dX11_init_49 rfl ?_
  refine us_sipushC hR dX11_init_50 (c := 301) (by decide) ?_
  refine us_newa14 hR dX11_init_53 (by decide) (by decide) (Nat.le_of_ble_eq_true rfl) (Nat.le_of_ble_eq_true rfl) ?_
  change R _ _ _ _ 54 5699
  refine us_putR hR dX11_init_55 fR_12_26 (Or.inr ⟨rfl, rfl⟩) (show u1 (gK G5) (gZ G5) _ me = 12 by rw [u1_n _ _ (by have := q5.1; omega)]; exact q5.2.1) rfl ?_
  have q6 := q5.stp hm (by decide)
  obtain ⟨G6, hG6⟩ : ∃ Gx, Gx = sR (gNew G5 14 301) me 15 (some (gZ G5)) := ⟨_, rfl⟩
  have q6 : Rcq G me G6 6 := by rw [hG6]; exact q6
  change R _ _ _ (sR (gNew G5 14 301) me 15 (some (gZ G5))) _ _
  rw [← hG6]
  refine us_aload_n hR dX11_init_58 rfl ?_
  refine us_bipushC hR dX11_init_59 (c := 100) (by decide) ?_
  refine us_newa14 hR dX11_init_61 (by decide) (by decide) (Nat.le_of_ble_eq_true rfl) (Nat.le_of_ble_eq_true rfl) ?_
  change R _ _ _ _ 53 5599
  refine us_putR hR dX11_init_63 fR_12_29 (Or.inr ⟨rfl, rfl⟩) (show u1 (gK G6) (gZ G6) _ me = 12 by rw [u1_n _ _ (by have := q6.1; omega)]; exact q6.2.1) rfl ?_
  have q7 := q6.stp hm (by decide)
  obtain ⟨G7, hG7⟩ : ∃ Gx, Gx = sR (gNew G6 14 100) me 17 (some (gZ G6)) := ⟨_, rfl⟩
  have q7 : Rcq G me G7 7 := by rw [hG7]; exact q7
  change R _ _ _ (sR (gNew G6 14 100) me 17 (some (gZ G6))) _ _
  rw [← hG7]
  refine us_aload_n hR dX11_init_66 rfl ?_
  refine us_bipushC hR dX11_init_67 (c := 100) (by decide) ?_
  refine us_newa14 hR dX11_init_69 (by decide) (by decide) (Nat.le_of_ble_eq_true rfl) (Nat.le_of_ble_eq_true rfl) ?_
  change R _ _ _ _ 52 5499
  refine us_putR hR dX11_init_71 fR_12_32 (Or.inr ⟨rfl, rfl⟩) (show u1 (gK G7) (gZ G7) _ me = 12 by rw [u1_n _ _ (by have := q7.1; omega)]; exact q7.2.1) rfl ?_
  have q8 := q7.stp hm (by decide)
  obtain ⟨G8, hG8⟩ : ∃ Gx, Gx = sR (gNew G7 14 100) me 18 (some (gZ G7)) := ⟨_, rfl⟩
  have q8 : Rcq G me G8 8 := by rw [hG8]; exact q8
  change R _ _ _ (sR (gNew G7 14 100) me 18 (some (gZ G7))) _ _
  rw [← hG8]
  refine us_aload_n hR dX11_init_74 rfl ?_
  refine us_iconstC hR dX11_init_75 (c := 2) (by decide) ?_
  refine us_newa14 hR dX11_init_76 (by decide) (by decide) (Nat.le_of_ble_eq_true rfl) (Nat.le_of_ble_eq_true rfl) ?_
  change R _ _ _ _ 51 5497
  refine us_putR hR dX11_init_78 fR_12_35 (Or.inr ⟨rfl, rfl⟩) (show u1 (gK G8) (gZ G8) _ me = 12 by rw [u1_n _ _ (by have := q8.1; omega)]; exact q8.2.1) rfl ?_
  have q9 := q8.stp hm (by decide)
  obtain ⟨G9, hG9⟩ : ∃ Gx, Gx = sR (gNew G8 14 2) me 19 (some (gZ G8)) := ⟨_, rfl⟩
  have q9 : Rcq G me G9 9 := by rw [hG9]; exact q9
  change R _ _ _ (sR (gNew G8 14 2) me 19 (some (gZ G8))) _ _
  rw [← hG9]
  refine us_aload_n hR dX11_init_81 rfl ?_
  refine us_bipushC hR dX11_init_82 (c := 16) (by decide) ?_
  refine us_newa14 hR dX11_init_84 (by decide) (by decide) (Nat.le_of_ble_eq_true rfl) (Nat.le_of_ble_eq_true rfl) ?_
  change R _ _ _ _ 50 5481
  refine us_putR hR dX11_init_86 fR_12_38 (Or.inr ⟨rfl, rfl⟩) (show u1 (gK G9) (gZ G9) _ me = 12 by rw [u1_n _ _ (by have := q9.1; omega)]; exact q9.2.1) rfl ?_
  have q10 := q9.stp hm (by decide)
  obtain ⟨G10, hG10⟩ : ∃ Gx, Gx = sR (gNew G9 14 16) me 20 (some (gZ G9)) := ⟨_, rfl⟩
  have q10 : Rcq G me G10 10 := by rw [hG10]; exact q10
  change R _ _ _ (sR (gNew G9 14 16) me 20 (some (gZ G9))) _ _
  rw [← hG10]
  refine us_aload_n hR dX11_init_89 rfl ?_
  refine us_bipushC hR dX11_init_90 (c := 16) (by decide) ?_
  refine us_newa14 hR dX11_init_92 (by decide) (by decide) (Nat.le_of_ble_eq_true rfl) (Nat.le_of_ble_eq_true rfl) ?_
  change R _ _ _ _ 49 5465
  refine us_putR hR dX11_init_94 fR_12_41 (Or.inr ⟨rfl, rfl⟩) (show u1 (gK G10) (gZ G10) _ me = 12 by rw [u1_n _ _ (by have := q10.1; omega)]; exact q10.2.1) rfl ?_
  have q11 := q10.stp hm (by decide)
  obtain ⟨G11, hG11⟩ : ∃ Gx, Gx = sR (gNew G10 14 16) me 21 (some (gZ G10)) := ⟨_, rfl⟩
  have q11 : Rcq G me G11 11 := by rw [hG11]; exact q11
  change R _ _ _ (sR (gNew G10 14 16) me 21 (some (gZ G10))) _ _
  rw [← hG11]
  refine us_aload_n hR dX11_init_97 rfl ?_
  refine us_bipushC hR dX11_init_98 (c := 40) (by decide) ?_
  refine us_newa14 hR dX11_init_100 (by decide) (by decide) (Nat.le_of_ble_eq_true rfl) (Nat.le_of_ble_eq_true rfl) ?_
  change R _ _ _ _ 48 5425
  refine us_putR hR dX11_init_102 fR_12_44 (Or.inr ⟨rfl, rfl⟩) (show u1 (gK G11) (gZ G11) _ me = 12 by rw [u1_n _ _ (by have := q11.1; omega)]; exact q11.2.1) rfl ?_
  have q12 := q11.stp hm (by decide)
  obtain ⟨G12, hG12⟩ : ∃ Gx, Gx = sR (gNew G11 14 40) me 23 (some (gZ G11)) := ⟨_, rfl⟩
  have q12 : Rcq G me G12 12 := by rw [hG12]; exact q12
  change R _ _ _ (sR (gNew G11 14 40) me 23 (some (gZ G11))) _ _
  rw [← hG12]
  refine us_aload_n hR dX11_init_105 rfl ?_
  refine us_bipushC hR dX11_init_106 (c := 40) (by decide) ?_
  refine us_newa14 hR dX11_init_108 (by decide) (by decide) (Nat.le_of_ble_eq_true rfl) (Nat.le_of_ble_eq_true rfl) ?_
  change R _ _ _ _ 47 5385
  refine us_putR hR dX11_init_110 fR_12_47 (Or.inr ⟨rfl, rfl⟩) (show u1 (gK G12) (gZ G12) _ me = 12 by rw [u1_n _ _ (by have := q12.1; omega)]; exact q12.2.1) rfl ?_
  have q13 := q12.stp hm (by decide)
  obtain ⟨G13, hG13⟩ : ∃ Gx, Gx = sR (gNew G12 14 40) me 24 (some (gZ G12)) := ⟨_, rfl⟩
  have q13 : Rcq G me G13 13 := by rw [hG13]; exact q13
  change R _ _ _ (sR (gNew G12 14 40) me 24 (some (gZ G12))) _ _
  rw [← hG13]
  refine us_aload_n hR dX11_init_113 rfl ?_
  refine us_bipushC hR dX11_init_114 (c := 40) (by decide) ?_
  refine us_newa14 hR dX11_init_116 (by decide) (by decide) (Nat.le_of_ble_eq_true rfl) (Nat.le_of_ble_eq_true rfl) ?_
  change R _ _ _ _ 46 5345
  refine us_putR hR dX11_init_118 fR_12_50 (Or.inr ⟨rfl, rfl⟩) (show u1 (gK G13) (gZ G13) _ me = 12 by rw [u1_n _ _ (by have := q13.1; omega)]; exact q13.2.1) rfl ?_
  have q14 := q13.stp hm (by decide)
  obtain ⟨G14, hG14⟩ : ∃ Gx, Gx = sR (gNew G13 14 40) me 25 (some (gZ G13)) := ⟨_, rfl⟩
  have q14 : Rcq G me G14 14 := by rw [hG14]; exact q14
  change R _ _ _ (sR (gNew G13 14 40) me 25 (some (gZ G13))) _ _
  rw [← hG14]
  refine us_aload_n hR dX11_init_121 rfl ?_
  refine us_bipushC hR dX11_init_122 (c := 40) (by decide) ?_
  refine us_newa14 hR dX11_init_124 (by decide) (by decide) (Nat.le_of_ble_eq_true rfl) (Nat.le_of_ble_eq_true rfl) ?_
  change R _ _ _ _ 45 5305
  refine us_putR hR dX11_init_126 fR_12_53 (Or.inr ⟨rfl, rfl⟩) (show u1 (gK G14) (gZ G14) _ me = 12 by rw [u1_n _ _ (by have := q14.1; omega)]; exact q14.2.1) rfl ?_
  have q15 := q14.stp hm (by decide)
  obtain ⟨G15, hG15⟩ : ∃ Gx, Gx = sR (gNew G14 14 40) me 26 (some (gZ G14)) := ⟨_, rfl⟩
  have q15 : Rcq G me G15 15 := by rw [hG15]; exact q15
  change R _ _ _ (sR (gNew G14 14 40) me 26 (some (gZ G14))) _ _
  rw [← hG15]
  refine us_aload_n hR dX11_init_129 rfl ?_
  refine us_bipushC hR dX11_init_130 (c := 110) (by decide) ?_
  refine us_newa14 hR dX11_init_132 (by decide) (by decide) (Nat.le_of_ble_eq_true rfl) (Nat.le_of_ble_eq_true rfl) ?_
  change R _ _ _ _ 44 5195
  refine us_putR hR dX11_init_134 fR_12_56 (Or.inr ⟨rfl, rfl⟩) (show u1 (gK G15) (gZ G15) _ me = 12 by rw [u1_n _ _ (by have := q15.1; omega)]; exact q15.2.1) rfl ?_
  have q16 := q15.stp hm (by decide)
  obtain ⟨G16, hG16⟩ : ∃ Gx, Gx = sR (gNew G15 14 110) me 28 (some (gZ G15)) := ⟨_, rfl⟩
  have q16 : Rcq G me G16 16 := by rw [hG16]; exact q16
  change R _ _ _ (sR (gNew G15 14 110) me 28 (some (gZ G15))) _ _
  rw [← hG16]
  refine us_aload_n hR dX11_init_137 rfl ?_
  refine us_bipushC hR dX11_init_138 (c := 110) (by decide) ?_
  refine us_newa14 hR dX11_init_140 (by decide) (by decide) (Nat.le_of_ble_eq_true rfl) (Nat.le_of_ble_eq_true rfl) ?_
  change R _ _ _ _ 43 5085
  refine us_putR hR dX11_init_142 fR_12_59 (Or.inr ⟨rfl, rfl⟩) (show u1 (gK G16) (gZ G16) _ me = 12 by rw [u1_n _ _ (by have := q16.1; omega)]; exact q16.2.1) rfl ?_
  have q17 := q16.stp hm (by decide)
  obtain ⟨G17, hG17⟩ : ∃ Gx, Gx = sR (gNew G16 14 110) me 29 (some (gZ G16)) := ⟨_, rfl⟩
  have q17 : Rcq G me G17 17 := by rw [hG17]; exact q17
  change R _ _ _ (sR (gNew G16 14 110) me 29 (some (gZ G16))) _ _
  rw [← hG17]
  refine us_aload_n hR dX11_init_145 rfl ?_
  refine us_bipushC hR dX11_init_146 (c := 110) (by decide) ?_
  refine us_newa14 hR dX11_init_148 (by decide) (by decide) (Nat.le_of_ble_eq_true rfl) (Nat.le_of_ble_eq_true rfl) ?_
  change R _ _ _ _ 42 4975
  refine us_putR hR dX11_init_150 fR_12_62 (Or.inr ⟨rfl, rfl⟩) (show u1 (gK G17) (gZ G17) _ me = 12 by rw [u1_n _ _ (by have := q17.1; omega)]; exact q17.2.1) rfl ?_
  have q18 := q17.stp hm (by decide)
  obtain ⟨G18, hG18⟩ : ∃ Gx, Gx = sR (gNew G17 14 110) me 30 (some (gZ G17)) := ⟨_, rfl⟩
  have q18 : Rcq G me G18 18 := by rw [hG18]; exact q18
  change R _ _ _ (sR (gNew G17 14 110) me 30 (some (gZ G17))) _ _
  rw [← hG18]
  refine us_aload_n hR dX11_init_153 rfl ?_
  refine us_bipushC hR dX11_init_154 (c := 110) (by decide) ?_
  refine us_newa14 hR dX11_init_156 (by decide) (by decide) (Nat.le_of_ble_eq_true rfl) (Nat.le_of_ble_eq_true rfl) ?_
  change R _ _ _ _ 41 4865
  refine us_putR hR dX11_init_158 fR_12_65 (Or.inr ⟨rfl, rfl⟩) (show u1 (gK G18) (gZ G18) _ me = 12 by rw [u1_n _ _ (by have := q18.1; omega)]; exact q18.2.1) rfl ?_
  have q19 := q18.stp hm (by decide)
  obtain ⟨G19, hG19⟩ : ∃ Gx, Gx = sR (gNew G18 14 110) me 31 (some (gZ G18)) := ⟨_, rfl⟩
  have q19 : Rcq G me G19 19 := by rw [hG19]; exact q19
  change R _ _ _ (sR (gNew G18 14 110) me 31 (some (gZ G18))) _ _
  rw [← hG19]
  refine us_aload_n hR dX11_init_161 rfl ?_
  refine us_bipushC hR dX11_init_162 (c := 100) (by decide) ?_
  refine us_newa14 hR dX11_init_164 (by decide) (by decide) (Nat.le_of_ble_eq_true rfl) (Nat.le_of_ble_eq_true rfl) ?_
  change R _ _ _ _ 40 4765
  refine us_putR hR dX11_init_166 fR_12_68 (Or.inr ⟨rfl, rfl⟩) (show u1 (gK G19) (gZ G19) _ me = 12 by rw [u1_n _ _ (by have := q19.1; omega)]; exact q19.2.1) rfl ?_
  have q20 := q19.stp hm (by decide)
  obtain ⟨G20, hG20⟩ : ∃ Gx, Gx = sR (gNew G19 14 100) me 36 (some (gZ G19)) := ⟨_, rfl⟩
  have q20 : Rcq G me G20 20 := by rw [hG20]; exact q20
  change R _ _ _ (sR (gNew G19 14 100) me 36 (some (gZ G19))) _ _
  rw [← hG20]
  refine us_aload_n hR dX11_init_169 rfl ?_
  refine us_bipushC hR dX11_init_170 (c := 100) (by decide) ?_
  refine us_newa14 hR dX11_init_172 (by decide) (by decide) (Nat.le_of_ble_eq_true rfl) (Nat.le_of_ble_eq_true rfl) ?_
  change R _ _ _ _ 39 4665
  refine us_putR hR dX11_init_174 fR_12_71 (Or.inr ⟨rfl, rfl⟩) (show u1 (gK G20) (gZ G20) _ me = 12 by rw [u1_n _ _ (by have := q20.1; omega)]; exact q20.2.1) rfl ?_
  have q21 := q20.stp hm (by decide)
  obtain ⟨G21, hG21⟩ : ∃ Gx, Gx = sR (gNew G20 14 100) me 37 (some (gZ G20)) := ⟨_, rfl⟩
  have q21 : Rcq G me G21 21 := by rw [hG21]; exact q21
  change R _ _ _ (sR (gNew G20 14 100) me 37 (some (gZ G20))) _ _
  rw [← hG21]
  refine us_aload_n hR dX11_init_177 rfl ?_
  refine us_bipushC hR dX11_init_178 (c := 10) (by decide) ?_
  refine us_newa14 hR dX11_init_180 (by decide) (by decide) (Nat.le_of_ble_eq_true rfl) (Nat.le_of_ble_eq_true rfl) ?_
  change R _ _ _ _ 38 4655
  refine us_putR hR dX11_init_182 fR_12_74 (Or.inr ⟨rfl, rfl⟩) (show u1 (gK G21) (gZ G21) _ me = 12 by rw [u1_n _ _ (by have := q21.1; omega)]; exact q21.2.1) rfl ?_
  have q22 := q21.stp hm (by decide)
  obtain ⟨G22, hG22⟩ : ∃ Gx, Gx = sR (gNew G21 14 10) me 39 (some (gZ G21)) := ⟨_, rfl⟩
  have q22 : Rcq G me G22 22 := by rw [hG22]; exact q22
  change R _ _ _ (sR (gNew G21 14 10) me 39 (some (gZ G21))) _ _
  rw [← hG22]
  refine us_aload_n hR dX11_init_185 rfl ?_
  refine us_bipushC hR dX11_init_186 (c := 10) (by decide) ?_
  refine us_newa14 hR dX11_init_188 (by decide) (by decide) (Nat.le_of_ble_eq_true rfl) (Nat.le_of_ble_eq_true rfl) ?_
  change R _ _ _ _ 37 4645
  refine us_putR hR dX11_init_190 fR_12_77 (Or.inr ⟨rfl, rfl⟩) (show u1 (gK G22) (gZ G22) _ me = 12 by rw [u1_n _ _ (by have := q22.1; omega)]; exact q22.2.1) rfl ?_
  have q23 := q22.stp hm (by decide)
  obtain ⟨G23, hG23⟩ : ∃ Gx, Gx = sR (gNew G22 14 10) me 40 (some (gZ G22)) := ⟨_, rfl⟩
  have q23 : Rcq G me G23 23 := by rw [hG23]; exact q23
  change R _ _ _ (sR (gNew G22 14 10) me 40 (some (gZ G22))) _ _
  rw [← hG23]
  refine us_aload_n hR dX11_init_193 rfl ?_
  refine us_bipushC hR dX11_init_194 (c := 10) (by decide) ?_
  refine us_newa14 hR dX11_init_196 (by decide) (by decide) (Nat.le_of_ble_eq_true rfl) (Nat.le_of_ble_eq_true rfl) ?_
  change R _ _ _ _ 36 4635
  refine us_putR hR dX11_init_198 fR_12_80 (Or.inr ⟨rfl, rfl⟩) (show u1 (gK G23) (gZ G23) _ me = 12 by rw [u1_n _ _ (by have := q23.1; omega)]; exact q23.2.1) rfl ?_
  have q24 := q23.stp hm (by decide)
  obtain ⟨G24, hG24⟩ : ∃ Gx, Gx = sR (gNew G23 14 10) me 41 (some (gZ G23)) := ⟨_, rfl⟩
  have q24 : Rcq G me G24 24 := by rw [hG24]; exact q24
  change R _ _ _ (sR (gNew G23 14 10) me 41 (some (gZ G23))) _ _
  rw [← hG24]
  refine us_aload_n hR dX11_init_201 rfl ?_
  refine us_bipushC hR dX11_init_202 (c := 10) (by decide) ?_
  refine us_newa14 hR dX11_init_204 (by decide) (by decide) (Nat.le_of_ble_eq_true rfl) (Nat.le_of_ble_eq_true rfl) ?_
  change R _ _ _ _ 35 4625
  refine us_putR hR dX11_init_206 fR_12_83 (Or.inr ⟨rfl, rfl⟩) (show u1 (gK G24) (gZ G24) _ me = 12 by rw [u1_n _ _ (by have := q24.1; omega)]; exact q24.2.1) rfl ?_
  have q25 := q24.stp hm (by decide)
  obtain ⟨G25, hG25⟩ : ∃ Gx, Gx = sR (gNew G24 14 10) me 42 (some (gZ G24)) := ⟨_, rfl⟩
  have q25 : Rcq G me G25 25 := by rw [hG25]; exact q25
  change R _ _ _ (sR (gNew G24 14 10) me 42 (some (gZ G24))) _ _
  rw [← hG25]
  refine us_aload_n hR dX11_init_209 rfl ?_
  refine us_sipushC hR dX11_init_210 (c := 301) (by decide) ?_
  refine us_newa14 hR dX11_init_213 (by decide) (by decide) (Nat.le_of_ble_eq_true rfl) (Nat.le_of_ble_eq_true rfl) ?_
  change R _ _ _ _ 34 4324
  refine us_putR hR dX11_init_215 fR_12_86 (Or.inr ⟨rfl, rfl⟩) (show u1 (gK G25) (gZ G25) _ me = 12 by rw [u1_n _ _ (by have := q25.1; omega)]; exact q25.2.1) rfl ?_
  have q26 := q25.stp hm (by decide)
  obtain ⟨G26, hG26⟩ : ∃ Gx, Gx = sR (gNew G25 14 301) me 45 (some (gZ G25)) := ⟨_, rfl⟩
  have q26 : Rcq G me G26 26 := by rw [hG26]; exact q26
  change R _ _ _ (sR (gNew G25 14 301) me 45 (some (gZ G25))) _ _
  rw [← hG26]
  refine us_aload_n hR dX11_init_218 rfl ?_
  refine us_bipushC hR dX11_init_219 (c := 100) (by decide) ?_
  refine us_newa14 hR dX11_init_221 (by decide) (by decide) (Nat.le_of_ble_eq_true rfl) (Nat.le_of_ble_eq_true rfl) ?_
  change R _ _ _ _ 33 4224
  refine us_putR hR dX11_init_223 fR_12_89 (Or.inr ⟨rfl, rfl⟩) (show u1 (gK G26) (gZ G26) _ me = 12 by rw [u1_n _ _ (by have := q26.1; omega)]; exact q26.2.1) rfl ?_
  have q27 := q26.stp hm (by decide)
  obtain ⟨G27, hG27⟩ : ∃ Gx, Gx = sR (gNew G26 14 100) me 46 (some (gZ G26)) := ⟨_, rfl⟩
  have q27 : Rcq G me G27 27 := by rw [hG27]; exact q27
  change R _ _ _ (sR (gNew G26 14 100) me 46 (some (gZ G26))) _ _
  rw [← hG27]
  refine us_aload_n hR dX11_init_226 rfl ?_
  refine us_bipushC hR dX11_init_227 (c := 100) (by decide) ?_
  refine us_newa14 hR dX11_init_229 (by decide) (by decide) (Nat.le_of_ble_eq_true rfl) (Nat.le_of_ble_eq_true rfl) ?_
  change R _ _ _ _ 32 4124
  refine us_putR hR dX11_init_231 fR_12_92 (Or.inr ⟨rfl, rfl⟩) (show u1 (gK G27) (gZ G27) _ me = 12 by rw [u1_n _ _ (by have := q27.1; omega)]; exact q27.2.1) rfl ?_
  have q28 := q27.stp hm (by decide)
  obtain ⟨G28, hG28⟩ : ∃ Gx, Gx = sR (gNew G27 14 100) me 47 (some (gZ G27)) := ⟨_, rfl⟩
  have q28 : Rcq G me G28 28 := by rw [hG28]; exact q28
  change R _ _ _ (sR (gNew G27 14 100) me 47 (some (gZ G27))) _ _
  rw [← hG28]
  refine us_aload_n hR dX11_init_234 rfl ?_
  refine us_bipushC hR dX11_init_235 (c := 100) (by decide) ?_
  refine us_newa15 hR dX11_init_237 (by decide) (by decide) (Nat.le_of_ble_eq_true rfl) (Nat.le_of_ble_eq_true rfl) ?_
  change R _ _ _ _ 31 4024
  refine us_putR hR dX11_init_239 fR_12_95 (Or.inr ⟨rfl, rfl⟩) (show u1 (gK G28) (gZ G28) _ me = 12 by rw [u1_n _ _ (by have := q28.1; omega)]; exact q28.2.1) rfl ?_
  have q29 := q28.stp hm (by decide)
  obtain ⟨G29, hG29⟩ : ∃ Gx, Gx = sR (gNew G28 15 100) me 48 (some (gZ G28)) := ⟨_, rfl⟩
  have q29 : Rcq G me G29 29 := by rw [hG29]; exact q29
  change R _ _ _ (sR (gNew G28 15 100) me 48 (some (gZ G28))) _ _
  rw [← hG29]
  refine us_aload_n hR dX11_init_242 rfl ?_
  refine us_sipushC hR dX11_init_243 (c := 1300) (by decide) ?_
  refine us_newa14 hR dX11_init_246 (by decide) (by decide) (Nat.le_of_ble_eq_true rfl) (Nat.le_of_ble_eq_true rfl) ?_
  change R _ _ _ _ 30 2724
  refine us_putR hR dX11_init_248 fR_12_99 (Or.inr ⟨rfl, rfl⟩) (show u1 (gK G29) (gZ G29) _ me = 12 by rw [u1_n _ _ (by have := q29.1; omega)]; exact q29.2.1) rfl ?_
  have q30 := q29.stp hm (by decide)
  obtain ⟨G30, hG30⟩ : ∃ Gx, Gx = sR (gNew G29 14 1300) me 54 (some (gZ G29)) := ⟨_, rfl⟩
  have q30 : Rcq G me G30 30 := by rw [hG30]; exact q30
  change R _ _ _ (sR (gNew G29 14 1300) me 54 (some (gZ G29))) _ _
  rw [← hG30]
  refine us_aload_n hR dX11_init_251 rfl ?_
  refine us_bipushC hR dX11_init_252 (c := 88) (by decide) ?_
  refine us_newa14 hR dX11_init_254 (by decide) (by decide) (Nat.le_of_ble_eq_true rfl) (Nat.le_of_ble_eq_true rfl) ?_
  change R _ _ _ _ 29 2636
  refine us_putR hR dX11_init_256 fR_12_102 (Or.inr ⟨rfl, rfl⟩) (show u1 (gK G30) (gZ G30) _ me = 12 by rw [u1_n _ _ (by have := q30.1; omega)]; exact q30.2.1) rfl ?_
  have q31 := q30.stp hm (by decide)
  obtain ⟨G31, hG31⟩ : ∃ Gx, Gx = sR (gNew G30 14 88) me 55 (some (gZ G30)) := ⟨_, rfl⟩
  have q31 : Rcq G me G31 31 := by rw [hG31]; exact q31
  change R _ _ _ (sR (gNew G30 14 88) me 55 (some (gZ G30))) _ _
  rw [← hG31]
  refine us_aload_n hR dX11_init_259 rfl ?_
  refine us_bipushC hR dX11_init_260 (c := 12) (by decide) ?_
  refine us_newa14 hR dX11_init_262 (by decide) (by decide) (Nat.le_of_ble_eq_true rfl) (Nat.le_of_ble_eq_true rfl) ?_
  change R _ _ _ _ 28 2624
  refine us_putR hR dX11_init_264 fR_12_105 (Or.inr ⟨rfl, rfl⟩) (show u1 (gK G31) (gZ G31) _ me = 12 by rw [u1_n _ _ (by have := q31.1; omega)]; exact q31.2.1) rfl ?_
  have q32 := q31.stp hm (by decide)
  obtain ⟨G32, hG32⟩ : ∃ Gx, Gx = sR (gNew G31 14 12) me 56 (some (gZ G31)) := ⟨_, rfl⟩
  have q32 : Rcq G me G32 32 := by rw [hG32]; exact q32
  change R _ _ _ (sR (gNew G31 14 12) me 56 (some (gZ G31))) _ _
  rw [← hG32]
  refine us_aload_n hR dX11_init_267 rfl ?_
  refine us_bipushC hR dX11_init_268 (c := 9) (by decide) ?_
  refine us_newa14 hR dX11_init_270 (by decide) (by decide) (Nat.le_of_ble_eq_true rfl) (Nat.le_of_ble_eq_true rfl) ?_
  change R _ _ _ _ 27 2615
  refine us_putR hR dX11_init_272 fR_12_108 (Or.inr ⟨rfl, rfl⟩) (show u1 (gK G32) (gZ G32) _ me = 12 by rw [u1_n _ _ (by have := q32.1; omega)]; exact q32.2.1) rfl ?_
  have q33 := q32.stp hm (by decide)
  obtain ⟨G33, hG33⟩ : ∃ Gx, Gx = sR (gNew G32 14 9) me 58 (some (gZ G32)) := ⟨_, rfl⟩
  have q33 : Rcq G me G33 33 := by rw [hG33]; exact q33
  change R _ _ _ (sR (gNew G32 14 9) me 58 (some (gZ G32))) _ _
  rw [← hG33]
  refine us_aload_n hR dX11_init_275 rfl ?_
  refine us_bipushC hR dX11_init_276 (c := 32) (by decide) ?_
  refine us_newa14 hR dX11_init_278 (by decide) (by decide) (Nat.le_of_ble_eq_true rfl) (Nat.le_of_ble_eq_true rfl) ?_
  change R _ _ _ _ 26 2583
  refine us_putR hR dX11_init_280 fR_12_111 (Or.inr ⟨rfl, rfl⟩) (show u1 (gK G33) (gZ G33) _ me = 12 by rw [u1_n _ _ (by have := q33.1; omega)]; exact q33.2.1) rfl ?_
  have q34 := q33.stp hm (by decide)
  obtain ⟨G34, hG34⟩ : ∃ Gx, Gx = sR (gNew G33 14 32) me 59 (some (gZ G33)) := ⟨_, rfl⟩
  have q34 : Rcq G me G34 34 := by rw [hG34]; exact q34
  change R _ _ _ (sR (gNew G33 14 32) me 59 (some (gZ G33))) _ _
  rw [← hG34]
  refine us_aload_n hR dX11_init_283 rfl ?_
  refine us_bipushC hR dX11_init_284 (c := 9) (by decide) ?_
  refine us_newa14 hR dX11_init_286 (by decide) (by decide) (Nat.le_of_ble_eq_true rfl) (Nat.le_of_ble_eq_true rfl) ?_
  change R _ _ _ _ 25 2574
  refine us_putR hR dX11_init_288 fR_12_114 (Or.inr ⟨rfl, rfl⟩) (show u1 (gK G34) (gZ G34) _ me = 12 by rw [u1_n _ _ (by have := q34.1; omega)]; exact q34.2.1) rfl ?_
  have q35 := q34.stp hm (by decide)
  obtain ⟨G35, hG35⟩ : ∃ Gx, Gx = sR (gNew G34 14 9) me 61 (some (gZ G34)) := ⟨_, rfl⟩
  have q35 : Rcq G me G35 35 := by rw [hG35]; exact q35
  change R _ _ _ (sR (gNew G34 14 9) me 61 (some (gZ G34))) _ _
  rw [← hG35]
  refine us_aload_n hR dX11_init_291 rfl ?_
  refine us_bipushC hR dX11_init_292 (c := 32) (by decide) ?_
  refine us_newa14 hR dX11_init_294 (by decide) (by decide) (Nat.le_of_ble_eq_true rfl) (Nat.le_of_ble_eq_true rfl) ?_
  change R _ _ _ _ 24 2542
  refine us_putR hR dX11_init_296 fR_12_117 (Or.inr ⟨rfl, rfl⟩) (show u1 (gK G35) (gZ G35) _ me = 12 by rw [u1_n _ _ (by have := q35.1; omega)]; exact q35.2.1) rfl ?_
  have q36 := q35.stp hm (by decide)
  obtain ⟨G36, hG36⟩ : ∃ Gx, Gx = sR (gNew G35 14 32) me 62 (some (gZ G35)) := ⟨_, rfl⟩
  have q36 : Rcq G me G36 36 := by rw [hG36]; exact q36
  change R _ _ _ (sR (gNew G35 14 32) me 62 (some (gZ G35))) _ _
  rw [← hG36]
  refine us_aload_n hR dX11_init_299 rfl ?_
  refine us_iconstC hR dX11_init_300 (c := 4) (by decide) ?_
  refine us_newa14 hR dX11_init_301 (by decide) (by decide) (Nat.le_of_ble_eq_true rfl) (Nat.le_of_ble_eq_true rfl) ?_
  change R _ _ _ _ 23 2538
  refine us_putR hR dX11_init_303 fR_12_120 (Or.inr ⟨rfl, rfl⟩) (show u1 (gK G36) (gZ G36) _ me = 12 by rw [u1_n _ _ (by have := q36.1; omega)]; exact q36.2.1) rfl ?_
  have q37 := q36.stp hm (by decide)
  obtain ⟨G37, hG37⟩ : ∃ Gx, Gx = sR (gNew G36 14 4) me 66 (some (gZ G36)) := ⟨_, rfl⟩
  have q37 : Rcq G me G37 37 := by rw [hG37]; exact q37
  change R _ _ _ (sR (gNew G36 14 4) me 66 (some (gZ G36))) _ _
  rw [← hG37]
  refine us_aload_n hR dX11_init_306 rfl ?_
  refine us_iconstC hR dX11_init_307 (c := 4) (by decide) ?_
  refine us_newa14 hR dX11_init_308 (by decide) (by decide) (Nat.le_of_ble_eq_true rfl) (Nat.le_of_ble_eq_true rfl) ?_
  change R _ _ _ _ 22 2534
  refine us_putR hR dX11_init_310 fR_12_123 (Or.inr ⟨rfl, rfl⟩) (show u1 (gK G37) (gZ G37) _ me = 12 by rw [u1_n _ _ (by have := q37.1; omega)]; exact q37.2.1) rfl ?_
  have q38 := q37.stp hm (by decide)
  obtain ⟨G38, hG38⟩ : ∃ Gx, Gx = sR (gNew G37 14 4) me 67 (some (gZ G37)) := ⟨_, rfl⟩
  have q38 : Rcq G me G38 38 := by rw [hG38]; exact q38
  change R _ _ _ (sR (gNew G37 14 4) me 67 (some (gZ G37))) _ _
  rw [← hG38]
  refine us_aload_n hR dX11_init_313 rfl ?_
  refine us_iconstC hR dX11_init_314 (c := 4) (by decide) ?_
  refine us_newa14 hR dX11_init_315 (by decide) (by decide) (Nat.le_of_ble_eq_true rfl) (Nat.le_of_ble_eq_true rfl) ?_
  change R _ _ _ _ 21 2530
  refine us_putR hR dX11_init_317 fR_12_126 (Or.inr ⟨rfl, rfl⟩) (show u1 (gK G38) (gZ G38) _ me = 12 by rw [u1_n _ _ (by have := q38.1; omega)]; exact q38.2.1) rfl ?_
  have q39 := q38.stp hm (by decide)
  obtain ⟨G39, hG39⟩ : ∃ Gx, Gx = sR (gNew G38 14 4) me 68 (some (gZ G38)) := ⟨_, rfl⟩
  have q39 : Rcq G me G39 39 := by rw [hG39]; exact q39
  change R _ _ _ (sR (gNew G38 14 4) me 68 (some (gZ G38))) _ _
  rw [← hG39]
  refine us_aload_n hR dX11_init_320 rfl ?_
  refine us_bipushC hR dX11_init_321 (c := 32) (by decide) ?_
  refine us_newa14 hR dX11_init_323 (by decide) (by decide) (Nat.le_of_ble_eq_true rfl) (Nat.le_of_ble_eq_true rfl) ?_
  change R _ _ _ _ 20 2498
  refine us_putR hR dX11_init_325 fR_12_129 (Or.inr ⟨rfl, rfl⟩) (show u1 (gK G39) (gZ G39) _ me = 12 by rw [u1_n _ _ (by have := q39.1; omega)]; exact q39.2.1) rfl ?_
  have q40 := q39.stp hm (by decide)
  obtain ⟨G40, hG40⟩ : ∃ Gx, Gx = sR (gNew G39 14 32) me 69 (some (gZ G39)) := ⟨_, rfl⟩
  have q40 : Rcq G me G40 40 := by rw [hG40]; exact q40
  change R _ _ _ (sR (gNew G39 14 32) me 69 (some (gZ G39))) _ _
  rw [← hG40]
  refine us_aload_n hR dX11_init_328 rfl ?_
  refine us_bipushC hR dX11_init_329 (c := 64) (by decide) ?_
  refine us_newa14 hR dX11_init_331 (by decide) (by decide) (Nat.le_of_ble_eq_true rfl) (Nat.le_of_ble_eq_true rfl) ?_
  change R _ _ _ _ 19 2434
  refine us_putR hR dX11_init_333 fR_12_132 (Or.inr ⟨rfl, rfl⟩) (show u1 (gK G40) (gZ G40) _ me = 12 by rw [u1_n _ _ (by have := q40.1; omega)]; exact q40.2.1) rfl ?_
  have q41 := q40.stp hm (by decide)
  obtain ⟨G41, hG41⟩ : ∃ Gx, Gx = sR (gNew G40 14 64) me 70 (some (gZ G40)) := ⟨_, rfl⟩
  have q41 : Rcq G me G41 41 := by rw [hG41]; exact q41
  change R _ _ _ (sR (gNew G40 14 64) me 70 (some (gZ G40))) _ _
  rw [← hG41]
  refine us_aload_n hR dX11_init_336 rfl ?_
  refine us_bipushC hR dX11_init_337 (c := 32) (by decide) ?_
  refine us_newa14 hR dX11_init_339 (by decide) (by decide) (Nat.le_of_ble_eq_true rfl) (Nat.le_of_ble_eq_true rfl) ?_
  change R _ _ _ _ 18 2402
  refine us_putR hR dX11_init_341 fR_12_135 (Or.inr ⟨rfl, rfl⟩) (show u1 (gK G41) (gZ G41) _ me = 12 by rw [u1_n _ _ (by have := q41.1; omega)]; exact q41.2.1) rfl ?_
  have q42 := q41.stp hm (by decide)
  obtain ⟨G42, hG42⟩ : ∃ Gx, Gx = sR (gNew G41 14 32) me 71 (some (gZ G41)) := ⟨_, rfl⟩
  have q42 : Rcq G me G42 42 := by rw [hG42]; exact q42
  change R _ _ _ (sR (gNew G41 14 32) me 71 (some (gZ G41))) _ _
  rw [← hG42]
  refine us_aload_n hR dX11_init_344 rfl ?_
  refine us_bipushC hR dX11_init_345 (c := 64) (by decide) ?_
  refine us_newa14 hR dX11_init_347 (by decide) (by decide) (Nat.le_of_ble_eq_true rfl) (Nat.le_of_ble_eq_true rfl) ?_
  change R _ _ _ _ 17 2338
  refine us_putR hR dX11_init_349 fR_12_138 (Or.inr ⟨rfl, rfl⟩) (show u1 (gK G42) (gZ G42) _ me = 12 by rw [u1_n _ _ (by have := q42.1; omega)]; exact q42.2.1) rfl ?_
  have q43 := q42.stp hm (by decide)
  obtain ⟨G43, hG43⟩ : ∃ Gx, Gx = sR (gNew G42 14 64) me 72 (some (gZ G42)) := ⟨_, rfl⟩
  have q43 : Rcq G me G43 43 := by rw [hG43]; exact q43
  change R _ _ _ (sR (gNew G42 14 64) me 72 (some (gZ G42))) _ _
  rw [← hG43]
  refine us_aload_n hR dX11_init_352 rfl ?_
  refine us_bipushC hR dX11_init_353 (c := 32) (by decide) ?_
  refine us_newa15 hR dX11_init_355 (by decide) (by decide) (Nat.le_of_ble_eq_true rfl) (Nat.le_of_ble_eq_true rfl) ?_
  change R _ _ _ _ 16 2306
  refine us_putR hR dX11_init_357 fR_12_141 (Or.inr ⟨rfl, rfl⟩) (show u1 (gK G43) (gZ G43) _ me = 12 by rw [u1_n _ _ (by have := q43.1; omega)]; exact q43.2.1) rfl ?_
  have q44 := q43.stp hm (by decide)
  obtain ⟨G44, hG44⟩ : ∃ Gx, Gx = sR (gNew G43 15 32) me 73 (some (gZ G43)) := ⟨_, rfl⟩
  have q44 : Rcq G me G44 44 := by rw [hG44]; exact q44
  change R _ _ _ (sR (gNew G43 15 32) me 73 (some (gZ G43))) _ _
  rw [← hG44]
  refine us_aload_n hR dX11_init_360 rfl ?_
  refine us_bipushC hR dX11_init_361 (c := 30) (by decide) ?_
  refine us_newa14 hR dX11_init_363 (by decide) (by decide) (Nat.le_of_ble_eq_true rfl) (Nat.le_of_ble_eq_true rfl) ?_
  change R _ _ _ _ 15 2276
  refine us_putR hR dX11_init_365 fR_12_144 (Or.inr ⟨rfl, rfl⟩) (show u1 (gK G44) (gZ G44) _ me = 12 by rw [u1_n _ _ (by have := q44.1; omega)]; exact q44.2.1) rfl ?_
  have q45 := q44.stp hm (by decide)
  obtain ⟨G45, hG45⟩ : ∃ Gx, Gx = sR (gNew G44 14 30) me 75 (some (gZ G44)) := ⟨_, rfl⟩
  have q45 : Rcq G me G45 45 := by rw [hG45]; exact q45
  change R _ _ _ (sR (gNew G44 14 30) me 75 (some (gZ G44))) _ _
  rw [← hG45]
  refine us_aload_n hR dX11_init_368 rfl ?_
  refine us_bipushC hR dX11_init_369 (c := 30) (by decide) ?_
  refine us_newa14 hR dX11_init_371 (by decide) (by decide) (Nat.le_of_ble_eq_true rfl) (Nat.le_of_ble_eq_true rfl) ?_
  change R _ _ _ _ 14 2246
  refine us_putR hR dX11_init_373 fR_12_147 (Or.inr ⟨rfl, rfl⟩) (show u1 (gK G45) (gZ G45) _ me = 12 by rw [u1_n _ _ (by have := q45.1; omega)]; exact q45.2.1) rfl ?_
  have q46 := q45.stp hm (by decide)
  obtain ⟨G46, hG46⟩ : ∃ Gx, Gx = sR (gNew G45 14 30) me 76 (some (gZ G45)) := ⟨_, rfl⟩
  have q46 : Rcq G me G46 46 := by rw [hG46]; exact q46
  change R _ _ _ (sR (gNew G45 14 30) me 76 (some (gZ G45))) _ _
  rw [← hG46]
  refine us_aload_n hR dX11_init_376 rfl ?_
  refine us_bipushC hR dX11_init_377 (c := 30) (by decide) ?_
  refine us_newa14 hR dX11_init_379 (by decide) (by decide) (Nat.le_of_ble_eq_true rfl) (Nat.le_of_ble_eq_true rfl) ?_
  change R _ _ _ _ 13 2216
  refine us_putR hR dX11_init_381 fR_12_150 (Or.inr ⟨rfl, rfl⟩) (show u1 (gK G46) (gZ G46) _ me = 12 by rw [u1_n _ _ (by have := q46.1; omega)]; exact q46.2.1) rfl ?_
  have q47 := q46.stp hm (by decide)
  obtain ⟨G47, hG47⟩ : ∃ Gx, Gx = sR (gNew G46 14 30) me 77 (some (gZ G46)) := ⟨_, rfl⟩
  have q47 : Rcq G me G47 47 := by rw [hG47]; exact q47
  change R _ _ _ (sR (gNew G46 14 30) me 77 (some (gZ G46))) _ _
  rw [← hG47]
  refine us_aload_n hR dX11_init_384 rfl ?_
  refine us_bipushC hR dX11_init_385 (c := 30) (by decide) ?_
  refine us_newa14 hR dX11_init_387 (by decide) (by decide) (Nat.le_of_ble_eq_true rfl) (Nat.le_of_ble_eq_true rfl) ?_
  change R _ _ _ _ 12 2186
  refine us_putR hR dX11_init_389 fR_12_153 (Or.inr ⟨rfl, rfl⟩) (show u1 (gK G47) (gZ G47) _ me = 12 by rw [u1_n _ _ (by have := q47.1; omega)]; exact q47.2.1) rfl ?_
  have q48 := q47.stp hm (by decide)
  obtain ⟨G48, hG48⟩ : ∃ Gx, Gx = sR (gNew G47 14 30) me 78 (some (gZ G47)) := ⟨_, rfl⟩
  have q48 : Rcq G me G48 48 := by rw [hG48]; exact q48
  change R _ _ _ (sR (gNew G47 14 30) me 78 (some (gZ G47))) _ _
  rw [← hG48]
  refine us_aload_n hR dX11_init_392 rfl ?_
  refine us_bipushC hR dX11_init_393 (c := 30) (by decide) ?_
  refine us_newa15 hR dX11_init_395 (by decide) (by decide) (Nat.le_of_ble_eq_true rfl) (Nat.le_of_ble_eq_true rfl) ?_
  change R _ _ _ _ 11 2156
  refine us_putR hR dX11_init_397 fR_12_156 (Or.inr ⟨rfl, rfl⟩) (show u1 (gK G48) (gZ G48) _ me = 12 by rw [u1_n _ _ (by have := q48.1; omega)]; exact q48.2.1) rfl ?_
  have q49 := q48.stp hm (by decide)
  obtain ⟨G49, hG49⟩ : ∃ Gx, Gx = sR (gNew G48 15 30) me 79 (some (gZ G48)) := ⟨_, rfl⟩
  have q49 : Rcq G me G49 49 := by rw [hG49]; exact q49
  change R _ _ _ (sR (gNew G48 15 30) me 79 (some (gZ G48))) _ _
  rw [← hG49]
  refine us_aload_n hR dX11_init_400 rfl ?_
  refine us_sipushC hR dX11_init_401 (c := 240) (by decide) ?_
  refine us_newa14 hR dX11_init_404 (by decide) (by decide) (Nat.le_of_ble_eq_true rfl) (Nat.le_of_ble_eq_true rfl) ?_
  change R _ _ _ _ 10 1916
  refine us_putR hR dX11_init_406 fR_12_159 (Or.inr ⟨rfl, rfl⟩) (show u1 (gK G49) (gZ G49) _ me = 12 by rw [u1_n _ _ (by have := q49.1; omega)]; exact q49.2.1) rfl ?_
  have q50 := q49.stp hm (by decide)
  obtain ⟨G50, hG50⟩ : ∃ Gx, Gx = sR (gNew G49 14 240) me 80 (some (gZ G49)) := ⟨_, rfl⟩
  have q50 : Rcq G me G50 50 := by rw [hG50]; exact q50
  change R _ _ _ (sR (gNew G49 14 240) me 80 (some (gZ G49))) _ _
  rw [← hG50]
  refine us_aload_n hR dX11_init_409 rfl ?_
  refine us_sipushC hR dX11_init_410 (c := 240) (by decide) ?_
  refine us_newa15 hR dX11_init_413 (by decide) (by decide) (Nat.le_of_ble_eq_true rfl) (Nat.le_of_ble_eq_true rfl) ?_
  change R _ _ _ _ 9 1676
  refine us_putR hR dX11_init_415 fR_12_162 (Or.inr ⟨rfl, rfl⟩) (show u1 (gK G50) (gZ G50) _ me = 12 by rw [u1_n _ _ (by have := q50.1; omega)]; exact q50.2.1) rfl ?_
  have q51 := q50.stp hm (by decide)
  obtain ⟨G51, hG51⟩ : ∃ Gx, Gx = sR (gNew G50 15 240) me 81 (some (gZ G50)) := ⟨_, rfl⟩
  have q51 : Rcq G me G51 51 := by rw [hG51]; exact q51
  change R _ _ _ (sR (gNew G50 15 240) me 81 (some (gZ G50))) _ _
  rw [← hG51]
  exact us_vret hR dX11_init_418 rfl (h _ q51)
end REFC
