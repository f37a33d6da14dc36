/-! statements run alike -/
section SSX
variable {s : Sx} {m : Mx} {x y : Int32} {n d F : Nat} {N j o L i i' c c' : Nat}
theorem nd_le {L i i' : Nat} : nd L i i' ≤ i' - i := by
  unfold nd
  split <;> omega
theorem nd_s {L i i' : Nat} : nd (L + 1) i i' = 0 := if_neg (by omega)
theorem nd_add {L i i1 i' : Nat} (h1 : i ≤ i1) (h2 : i1 ≤ i') : nd L i i' = nd L i i1 + nd L i1 i' := by
  unfold nd
  by_cases h : L = 0
  · rw [if_pos h, if_pos h, if_pos h]; omega
  · rw [if_neg h, if_neg h, if_neg h]
theorem sp_l8 (ih : ∀ {g j o L i i' c c' : Nat}, PX (rw4 s) (Qf s d) N g j o L i i' c c' → i' ≤ 300 → c' ≤ n → L ≤ 8 → Sp s m x y F g j L i i' c c') (h : PX (rw4 s) (Qf s d) (N + 1) 8 j o L i i' c c') (hi : i' ≤ 300) (hc : c' ≤ n) (hL : L ≤ 8) (hj : j ≤ 1) (h6 : (s.1 0).getD i' 0 ≠ 6) : SS s m x y F L j i i' c c' := by
  have h : PF (rw4 s) (Qf s d) (PX (rw4 s) (Qf s d) N) 8 j o L i i' c c' := h
  unfold PF at h
  rw [if_neg (by decide), if_neg (by decide), if_neg (by decide), if_neg (by decide), if_neg (by decide), if_neg (by decide), if_neg (by decide)] at h
  rcases h with ⟨q1, q2⟩ | ⟨i1, c1, h1, h2⟩
  · subst q1; subst q2
    intro f t O C V bW bM vs w r p hf ho hv hw hr G K
    have e : nd L i' i' = 0 := by unfold nd; split <;> omega
    have := G f t O C V (Nat.le_refl _) ho
    rw [e, Nat.sub_zero] at this
    exact this
  · have l1 := PX.le N h1
    have l2 := PX.le N h2
    have n6 : (s.1 0).getD i1 0 ≠ 6 := by
      cases N with
      | zero => exact h2.elim
      | succ N =>
        have h : PF (rw4 s) (Qf s d) (PX (rw4 s) (Qf s d) N) 8 j 0 L i1 i' c1 c' := h2
        unfold PF at h
        rw [if_neg (by decide), if_neg (by decide), if_neg (by decide), if_neg (by decide), if_neg (by decide), if_neg (by decide), if_neg (by decide)] at h
        rcases h with ⟨w1, w2⟩ | ⟨i2, c2, h3, h4⟩
        · rw [← w1]; exact h6
        · exact h3.n6
    have S1 := (ih h1 (by omega) (by omega) hL).2.2.2.2.2 (Or.inl rfl) hj n6
    have S2 := (ih h2 hi hc hL).2.2.2.2.2 (Or.inr rfl) hj h6
    have e := nd_add (L := L) l1.1 l2.1
    intro f t O C V bW bM vs w r p hf ho hv hw hr G K
    have hD := ho.2.2.2.2.2.2
    have d1 := nd_le (L := L) (i := i) (i' := i1)
    refine S1 f t O C V bW bM vs w r p hf ho hv hw (by omega) (fun f2 t2 O2 C2 V2 hf2 ho2 => ?_) (fun ej => ⟨by have := (K ej).1; omega, (K ej).2⟩)
    refine S2 f2 t2 O2 C2 V2 bW bM vs w (r - nd L i i1) p (by omega) ho2 hv hw (by omega) (fun f3 t3 O3 C3 V3 hf3 ho3 => ?_) (fun ej => ?_)
    · rw [Nat.sub_sub, ← e]
      exact G f3 t3 O3 C3 V3 (by omega) ho3
    · obtain ⟨k1, k2⟩ := K ej
      exact ⟨by omega, k2.le (by omega)⟩
theorem sp_s6 (hX : Cx s m n d) (ih : ∀ {g j o L i i' c c' : Nat}, PX (rw4 s) (Qf s d) N g j o L i i' c c' → i' ≤ 300 → c' ≤ n → L ≤ 8 → Sp s m x y F g j L i i' c c') (hF : ∀ F', F' < F → ∀ {N g j o L i i' c c' : Nat}, PX (rw4 s) (Qf s d) N g j o L i i' c c' → i' ≤ 300 → c' ≤ n → L ≤ 8 → Sp s m x y F' g j L i i' c c')
    (h0 : PX (rw4 s) (Qf s d) (N + 1) 6 j o L i i' c c') (hi : i' ≤ 300) (hc : c' ≤ n) (hL : L ≤ 8) (hj : j ≤ 1) (h6 : (s.1 0).getD i' 0 ≠ 6) : SS s m x y F L j i i' c c' := by
  have h : PF (rw4 s) (Qf s d) (PX (rw4 s) (Qf s d) N) 6 j o L i i' c c' := h0
  have hn := hX.1
  unfold PF at h
  rw [if_neg (by decide), if_neg (by decide), if_neg (by decide), if_neg (by decide), if_neg (by decide), if_pos rfl] at h
  intro f t O C V bW bM vs w r p hf ho hv hw hr G K
  have hD := ho.2.2.2.2.2.2
  rcases h with ⟨q1, q2, q3, ⟨v, q4, q5⟩, i1, c1, h1, q6, q7, q8, q9, q10⟩ | ⟨q1, q2, q3, i1, c1, i2, c2, h1, q4, h2, q5, q6, q7, q8⟩ | ⟨q1, q2, i1, c1, h1, q3, q4, q5, q6⟩ | ⟨q1, q2, q3, i1, c1, h1, q4, q5, q6, q7⟩ | ⟨q1, i1, c1, h1, q2, q3, q4, q5⟩ | ⟨q1, q2, i1, c1, i2, c2, h1, q3, h2, q4⟩ | ⟨q1, q2, i1, c1, c2, h1, q3, h2, q4, q5, q6, q7⟩ | ⟨q1, q2, q3, q4, q5, q6, q7, q8⟩
  -- name = E ;
  · subst q7; subst q10
    have l1 := PX.le N h1
    have E1 := (ih h1 (by omega) (by omega) hL).1 rfl (by omega) (by omega) (by rw [lvN_k q6]; decide)
    refine g_beg hX ho (by omega) (by omega) q1 ⟨by decide, by decide, by decide⟩ q3 (by omega) (by omega) (fun g hg => ?_)
    refine E1 g t O C V bW bM vs w i (r + 179) (by omega) (ho.f (by omega)) (by omega) (Or.inl ((lvN_k q1).trans (by decide))) (by omega) (by omega) (by omega) (fun f2 t2 O2 C2 V2 v2 hf2 ho2 => ?_)
    rw [show r + 179 - (2 * (8 - L) + 1) = r + 178 - (2 * (8 - L) + 1) + 1 by omega]
    exact g_set hX ho2 (by omega) (by omega) (by omega) (by omega) q6 q1 q5 q4 q8 (q9.trans q5) (by omega) (fun V3 hV3 => (G f2 t2 O2 C2 V3 (by omega) (ho2.up (Nat.le_refl _) ho2.2.1 ho2.2.2.1 ho2.2.2.2.1 hV3)).mono (by omega))
  -- # U = E ;
  · subst q6; subst q8
    have l1 := PX.le N h1
    have l2 := PX.le N h2
    have O1 := (ih h1 (by omega) (by omega) (by omega)).2.2.1 rfl (by rw [lvN_k q4]; decide)
    have E1 := (ih h2 (by omega) (by omega) hL).1 rfl (by omega) (by omega) (by rw [lvN_k q5]; decide)
    have l37 : lvN s i = 0 := (lvN_k q1).trans (by decide)
    refine g_beg hX ho (by omega) (by omega) q1 ⟨by decide, by decide, by decide⟩ q3 (by omega) (by omega) (fun g hg => ?_)
    refine O1 g t O C V bW bM vs w i (r + 179) (by omega) (ho.f (by omega)) (by omega) (by omega) (by omega) (by omega) (fun f2 t2 O2 C2 V2 v2 hf2 ho2 => ?_)
    rw [show r + 179 - (2 * (8 - (L + 1)) + 1) = r + 178 - (2 * (8 - (L + 1)) + 1) + 1 by omega]
    refine g_com (kd := 27) (by omega) (by omega) (by omega) q4 (lvN_0 l37) (Or.inr rfl) ?_
    refine E1 f2 t2 O2 C2 V2 bW bM (vs ++ [v2]) w i _ (by omega) ho2 (by omega) (Or.inl l37) (by rw [len1]; omega) (by omega) (by rw [len1]; omega) (fun f3 t3 O3 C3 V3 v3 hf3 ho3 => ?_)
    rw [show r + 178 - (2 * (8 - (L + 1)) + 1) - (2 * (8 - L) + 1) = r + 177 - (2 * (8 - (L + 1)) + 1) - (2 * (8 - L) + 1) + 1 by omega]
    exact g_cel hX ho3 (by omega) (by omega) (by omega) (by omega) q5 q1 q7 (by omega) (fun C4 hC4 => (G f3 t3 O3 C4 V3 (by omega) (ho3.up (Nat.le_refl _) ho3.2.1 ho3.2.2.1 hC4 ho3.2.2.2.2.1)).mono (by omega))
  -- out E ;
  · subst q4; subst q6
    have l1 := PX.le N h1
    have E1 := (ih h1 (by omega) (by omega) hL).1 rfl (by omega) (by omega) (by rw [lvN_k q3]; decide)
    refine g_beg hX ho (by omega) (by omega) q1 ⟨by decide, by decide, by decide⟩ q2 (by omega) (by omega) (fun g hg => ?_)
    refine E1 g t O C V bW bM vs w i (r + 179) (by omega) (ho.f (by omega)) (by omega) (Or.inl ((lvN_k q1).trans (by decide))) (by omega) (by omega) (by omega) (fun f2 t2 O2 C2 V2 v2 hf2 ho2 => ?_)
    rw [show r + 179 - (2 * (8 - L) + 1) = r + 178 - (2 * (8 - L) + 1) + 1 by omega]
    exact g_out hX ho2 (by omega) (by omega) (by omega) (by omega) q3 q1 q5 (by omega) (fun O3 hO3 => (G f2 t2 O3 C2 V2 (by omega) (ho2.up (Nat.le_refl _) ho2.2.1 hO3 ho2.2.2.2.1 ho2.2.2.2.2.1)).mono (by omega))
  -- return E ;
  · subst q5; subst q7
    have l1 := PX.le N h1
    have E1 := (ih h1 (by omega) (by omega) hL).1 rfl (by omega) (by omega) (by rw [lvN_k q4]; decide)
    obtain ⟨k1, bW0, bM0, a, b, k2, k3, k4, k5⟩ := K q2
    subst k2; subst k3
    have lb : bW0.length = bM0.length := by
      have := ho.2.2.2.2.2.1
      rw [len1, len1] at this
      omega
    refine g_beg hX ho (by omega) (by omega) q1 ⟨by decide, by decide, by decide⟩ q3 (by omega) (by omega) (fun g hg => ?_)
    refine E1 g t O C V _ _ vs w i (r + 179) (by omega) (ho.f (by omega)) (by omega) (Or.inl ((lvN_k q1).trans (by decide))) (by omega) (by omega) (by omega) (fun f2 t2 O2 C2 V2 v2 hf2 ho2 => ?_)
    rw [show r + 179 - (2 * (8 - L) + 1) = r + 178 - (2 * (8 - L) + 1) + 1 by omega]
    exact g_ret hX (by omega) (by omega) (by omega) (by omega) q4 q1 q6 (by omega) k4 ((k5 f2 t2 O2 C2 V2 v2 (by omega) ⟨ho2.1, ho2.2.1, ho2.2.2.1, ho2.2.2.2.1, ho2.2.2.2.2.1, lb, by omega⟩).mono (by omega))
  -- a call
  · subst q3; subst q5
    have l1 := PX.le N h1
    have C1 := (ih h1 (by omega) (by omega) hL).2.2.2.1 rfl (by rw [lvN_k q2]; decide)
    have q0 := h1.k3
    refine g_beg hX ho (by omega) (by omega) q0 ⟨by decide, by decide, by decide⟩ q1 (by omega) (by omega) (fun g hg => ?_)
    refine C1 g t O C V bW bM vs w i (r + 179) (by omega) (ho.f (by omega)) (by omega) (by omega) (by omega) (by omega) (fun f2 t2 O2 C2 V2 v2 hf2 ho2 => ?_)
    rw [show r + 179 - (2 * (8 - L) + 1) = r + 178 - (2 * (8 - L) + 1) + 1 by omega]
    exact g_drp hX (by omega) (by omega) (by omega) (by omega) q2 q0 q4 (by omega) ((G f2 t2 O2 C2 V2 (by omega) ho2).mono (by omega))
  -- if
  · have l1 := PX.le N h1
    have l2 := PX.le N h2
    have lq : i2 ≤ i' ∧ c2 ≤ c' := by
      rcases q4 with ⟨_, _, e1, e2⟩ | ⟨_, _, _, h9, _⟩
      · omega
      · have := PX.le N h9; omega
    obtain ⟨b1, b2, b3, i3, h8, b5, b6, b7⟩ := h2.b7
    have l8 := PX.le N h8
    subst b7
    have E1 := (ih h1 (by omega) (by omega) hL).1 rfl (by omega) (by omega) (by rw [lvN_k b1]; decide)
    have S8 := (ih h8 (by omega) (by omega) (by omega)).2.2.2.2.2 (Or.inr rfl) hj (by rw [b5]; decide)
    refine g_beg hX ho (by omega) (by omega) q1 ⟨by decide, by decide, by decide⟩ q2 (by omega) (by omega) (fun g hg => ?_)
    refine E1 g t O C V bW bM vs w i (r + 179) (by omega) (ho.f (by omega)) (by omega) (Or.inl ((lvN_k q1).trans (by decide))) (by omega) (by omega) (by omega) (fun f2 t2 O2 C2 V2 v2 hf2 ho2 => ?_)
    rw [show r + 179 - (2 * (8 - L) + 1) = r + 178 - (2 * (8 - L) + 1) + 1 by omega]
    obtain ⟨u, hu⟩ : ∃ u, u = r + 178 - (2 * (8 - L) + 1) := ⟨_, rfl⟩
    rw [← hu]
    rcases q4 with ⟨w1, w2, w3, w4⟩ | ⟨w1, w2, w3, h9, w5⟩
    · subst w3; subst w4
      refine g_if hX (by omega) (by omega) (by omega) (by omega) b1 q1 b3 (by omega) q3 w2 (by omega) ?_ ?_
      · rw [if_neg (show ¬ (s.1 0).getD (i3 + 1) 0 = 6 from w1)]
        exact (G f2 t2 O2 C2 V2 (by omega) ho2).mono (by omega)
      · refine S8 f2 t2 O2 C2 V2 bW bM vs w u p (by omega) ho2 hv hw (by rw [nd_s]; omega) (fun f3 t3 O3 C3 V3 hf3 ho3 => ?_) (fun ej => ⟨by have := (K ej).1; rw [nd_s]; omega, (K ej).2.le (by omega)⟩)
        rw [nd_s, Nat.sub_zero, show u = u - 1 + 1 by omega]
        exact Gl.w (W_cli (o := i) (by omega) (by omega) b5 b6 q1 (Or.inl rfl) w1) ((G f3 t3 O3 C3 V3 (by omega) ho3).mono (by omega))
    · obtain ⟨d1, d2, d3, i4, h10, d5, d6, d7⟩ := h9.b7
      have l9 := PX.le N h9
      have l10 := PX.le N h10
      subst d7
      have S10 := (ih h10 (by omega) (by omega) (by omega)).2.2.2.2.2 (Or.inr rfl) hj (by rw [d5]; decide)
      refine g_if hX (by omega) (by omega) (by omega) (by omega) b1 q1 b3 (by omega) q3 w3 (by omega) ?_ ?_
      · rw [if_pos (show (s.1 0).getD (i3 + 1) 0 = 6 from w1)]
        refine S10 f2 t2 O2 C2 V2 bW bM vs w u p (by omega) ho2 hv hw (by rw [nd_s]; omega) (fun f3 t3 O3 C3 V3 hf3 ho3 => ?_) (fun ej => ⟨by have := (K ej).1; rw [nd_s]; omega, (K ej).2.le (by omega)⟩)
        rw [nd_s, Nat.sub_zero, show u = u - 1 + 1 by omega]
        exact Gl.w (W_cli (o := i3 + 1) (by omega) (by omega) d5 d6 w1 (Or.inr rfl) h6) ((G f3 t3 O3 C3 V3 (by omega) ho3).mono (by omega))
      · refine S8 f2 t2 O2 C2 V2 bW bM vs w u p (by omega) ho2 hv hw (by rw [nd_s]; omega) (fun f3 t3 O3 C3 V3 hf3 ho3 => ?_) (fun ej => ⟨by have := (K ej).1; rw [nd_s]; omega, (K ej).2.le (by omega)⟩)
        rw [nd_s, Nat.sub_zero, show u = u - 1 + 1 by omega]
        exact g_jmp hX (by omega) w2 w5 (W_cle (o := i) (by omega) (by omega) b5 b6 q1 (Or.inl rfl) w1 d3) ((G f3 t3 O3 C3 V3 (by omega) ho3).mono (by omega))
  -- while
  · subst q6
    have l1 := PX.le N h1
    have l2 := PX.le N h2
    obtain ⟨b1, b2, b3, i3, h8, b5, b6, b7⟩ := h2.b7
    have l8 := PX.le N h8
    subst b7
    have E1 := (ih h1 (by omega) (by omega) hL).1 rfl (by omega) (by omega) (by rw [lvN_k b1]; decide)
    have S8 := (ih h8 (by omega) (by omega) (by omega)).2.2.2.2.2 (Or.inr rfl) hj (by rw [b5]; decide)
    refine g_beg hX ho (by omega) (by omega) q1 ⟨by decide, by decide, by decide⟩ q2 (by omega) (by omega) (fun g hg => ?_)
    refine E1 g t O C V bW bM vs w i (r + 179) (by omega) (ho.f (by omega)) (by omega) (Or.inl ((lvN_k q1).trans (by decide))) (by omega) (by omega) (by omega) (fun f2 t2 O2 C2 V2 v2 hf2 ho2 => ?_)
    rw [show r + 179 - (2 * (8 - L) + 1) = r + 178 - (2 * (8 - L) + 1) + 1 by omega]
    obtain ⟨u, hu⟩ : ∃ u, u = r + 178 - (2 * (8 - L) + 1) := ⟨_, rfl⟩
    rw [← hu]
    refine g_wh hX (by omega) (by omega) (by omega) (by omega) b1 q1 b3 q3 q7 (by omega) ((G f2 t2 O2 C2 V2 (by omega) ho2).mono (by omega)) ?_
    refine S8 f2 t2 O2 C2 V2 bW bM vs w u p (by omega) ho2 hv hw (by rw [nd_s]; omega) (fun f3 t3 O3 C3 V3 hf3 ho3 => ?_) (fun ej => ⟨by have := (K ej).1; rw [nd_s]; omega, (K ej).2.le (by omega)⟩)
    rw [nd_s, Nat.sub_zero, show u = u - 1 + 1 by omega]
    refine g_jmp hX (by omega) q4 q5 (W_clw (o := i) (by omega) (by omega) b5 b6 q1) ?_
    refine ((hF f3 (by omega) h0 hi hc hL).2.2.2.2.2 (Or.inl rfl) hj h6) f3 t3 O3 C3 V3 bW bM vs w (u - 1) p (Nat.le_refl _) ho3 hv hw (by omega) (fun f4 t4 O4 C4 V4 hf4 ho4 => (G f4 t4 O4 C4 V4 (by omega) ho4).mono (by omega)) (fun ej => ⟨by have := (K ej).1; omega, (K ej).2.le (by omega)⟩)
  -- def
  · subst q2; subst q3
    have e : nd 0 i i' = i' - i := if_pos rfl
    have hr1 : 1 ≤ nd 0 i i' := by omega
    rw [show r = r - 1 + 1 by omega]
    exact g_jmp hX (by omega) q4 q5 (W_def (by omega) q1 q6) ((G f t O C V (Nat.le_refl _) ho).mono (by omega))
end SSX
