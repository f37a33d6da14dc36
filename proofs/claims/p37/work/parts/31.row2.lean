/-! the other methods of rows -/
theorem IRow_add {I : Nat → Nat → Int32} {a b n : Nat} {xs : List Int32} {v : Int32} (hab : a ≠ b) (hi : IRow I a b n xs) (hlt : xs.length < n) (hn : n < 100000) : IRow (u2 (u2 I b (I a 1).toNatClampNeg v) a 1 ((u2 I b (I a 1).toNatClampNeg v) a 1 + 1)) a b n (xs ++ [v]) := by
  have hl : xs.length < 100000 := by omega
  have hs : I a 1 = nI xs.length := hi.1
  rw [hs, nI_C hl, u2_n I _ _ hab, hs]
  refine ⟨?_, by rw [List.length_append]; simp; omega, fun i h => ?_⟩
  · rw [u2_s, List.length_append]
    dsimp only
    rw [if_pos rfl, i_eq]
    rw [nI_T (by simp; omega), Int32.toInt_add, nI_T hl, i_1]
    simp only [List.length_singleton]
    rw [Int.bmod_def]
    omega
  · rw [List.length_append, List.length_singleton] at h
    rw [u2_n _ _ _ (Ne.symm hab), u2_s]
    dsimp only
    by_cases hx : i = xs.length
    · subst hx
      simp [List.getD_eq_getElem?_getD]
    · rw [if_neg hx, hi.2.2 i (by omega)]
      simp [List.getD_eq_getElem?_getD, List.getElem?_append_left (show i < xs.length by omega)]
theorem xs_pos {xs : List Int32} (hl : xs.length < 100000) (h : ¬ nI xs.length ≤ 0) : 0 < xs.length := by
  rw [i_le, nI_T hl, i_0] at h
  omega
theorem xs_pos' {xs : List Int32} (hl : xs.length < 100000) (h : ¬ nI xs.length < 1) : 0 < xs.length := by
  rw [i_lt, nI_T hl, i_1] at h
  omega
theorem xs_nil {xs : List Int32} (hl : xs.length < 100000) (h : nI xs.length < 1) : xs = [] := by
  rw [i_lt, nI_T hl, i_1] at h
  exact List.length_eq_zero_iff.1 (by omega)
theorem xs_nil' {xs : List Int32} (hl : xs.length < 100000) (h : nI xs.length ≤ 0) : xs = [] := by
  rw [i_le, nI_T hl, i_0] at h
  exact List.length_eq_zero_iff.1 (by omega)
theorem nJ_pred {k : Nat} (h : 0 < k) (hk : k < 100000) : nI k - 1 = nI (k - 1) := by
  rw [i_eq, Int32.toInt_sub, nI_T hk, nI_T (by omega), i_1, Int.bmod_def]
  omega
theorem nJ_succ {k : Nat} (hk : k < 99999) : nI k + 1 = nI (k + 1) := by
  rw [i_eq, Int32.toInt_add, nI_T (by omega), nI_T (by omega), i_1, Int.bmod_def]
  omega
theorem nJ_in {k n : Nat} (hk : k < n) (hn : n < 100000) : vp_in (nI k) n := by
  rw [vp_in_iff, nI_T (by omega)]
  omega
theorem IRow_pop {I : Nat → Nat → Int32} {a b n : Nat} {xs : List Int32} (hab : a ≠ b) (hi : IRow I a b n xs) (hp : 0 < xs.length) (hl : xs.length < 100000) : IRow (u2 I a 1 (I a 1 - 1)) a b n xs.dropLast := by
  refine ⟨?_, by rw [List.length_dropLast]; have := hi.2.1; omega, fun i h => ?_⟩
  · rw [u2_s, List.length_dropLast]
    dsimp only
    rw [if_pos rfl, hi.1, nJ_pred hp hl]
  · rw [List.length_dropLast] at h
    rw [u2_n _ _ _ (Ne.symm hab), hi.2.2 i (by omega)]
    simp only [List.getD_eq_getElem?_getD, List.getElem?_dropLast]
    rw [if_pos h]
theorem IRow_cut {I : Nat → Nat → Int32} {a b n : Nat} {xs : List Int32} {x : Int32} (hab : a ≠ b) (hi : IRow I a b n xs) (h0 : ¬ x < 0) (hx : ¬ nI xs.length ≤ x) (hl : xs.length < 100000) : IRow (u2 I a 1 x) a b n (xs.take x.toNatClampNeg) := by
  have h1 : x.toNatClampNeg < xs.length := i_ltn h0 hx hl
  refine ⟨?_, by rw [List.length_take]; have := hi.2.1; omega, fun i h => ?_⟩
  · rw [u2_s, List.length_take, Nat.min_eq_left (by omega)]
    dsimp only
    rw [if_pos rfl, i_eq, nI_T (by omega), i_cl]
    rw [i_lt, i_0] at h0
    omega
  · rw [List.length_take] at h
    rw [u2_n _ _ _ (Ne.symm hab), hi.2.2 i (by omega)]
    simp only [List.getD_eq_getElem?_getD, List.getElem?_take]
    rw [if_pos (by omega)]
theorem Fr2_uu {I : Nat → Nat → Int32} {a b k k' : Nat} {x x' : Int32} : Fr2 I (u2 (u2 I b k x) a k' x') a b := by
  intro e h1 h2
  rw [u2_n _ _ _ h1, u2_n _ _ _ h2]
theorem sp_Row_add {d : Nat} {G : ab_G} {I : Nat → Nat → Int32} {a b n : Nat} {xs : List Int32} {P : ab_Pq} {X : ab_Xq} (hk : KRow G a b n) (hi : IRow I a b n xs) {v : Int32} (h : ∀ I', IRow I' a b n (xadd n xs v) → Fr2 I I' a b → P (gW G I') none) : ab_Gam (d + 1) 6004 [.ref a, .int v] (gW G I) P X := by
  have hn : gN G b = n := hk.2.2.2.1
  have hnb : n < 100000 := hk.2.2.2.2.2
  have hab : a ≠ b := hk.2.2.2.2.1
  have hs : gI (gW G I) a 1 = nI xs.length := hi.1
  have hl : xs.length < 100000 := Nat.lt_of_le_of_lt hi.2.1 hnb
  refine ab_enter (I := i6004) rfl (Nat.le_of_ble_eq_true rfl) (fun R hR => ?_)
  refine us_aload_n hR dX5_add_0 rfl ?_
  refine us_getI hR dX5_add_1 fR_6_15 hk.1 rfl ?_
  refine us_if_lt hR dX5_add_4 39 (by decide) (fun c_4 => ?_) (fun c_4 => ?_)
  · skip
    refine us_vret hR dX5_add_39 rfl ?_
    first
      | (exfalso; rw [hs, i_lt, nI_T hl, i_0] at c_4; omega)
      | (rw [hs, show gN (gW G I) b = n from hn, i_le] at c_16; have c_16 := (show (nI n).toInt ≤ (nI xs.length).toInt from c_16); rw [nI_T hnb, nI_T hl] at c_16; exact h I (by unfold xadd; rw [if_neg (by omega)]; exact hi) (fun _ _ _ => rfl))
      | (rw [hs, show gN (gW G I) b = n from hn, i_le] at c_16; have c_16 := (show ¬ (nI n).toInt ≤ (nI xs.length).toInt from c_16); rw [nI_T hnb, nI_T hl] at c_16; exact h _ (by unfold xadd; rw [if_pos (by omega)]; exact IRow_add hab hi (by omega) hnb) Fr2_uu)
  · skip
    refine us_aload_n hR dX5_add_7 rfl ?_
    refine us_getI hR dX5_add_8 fR_6_15 hk.1 rfl ?_
    refine us_aload_n hR dX5_add_11 rfl ?_
    refine us_getR hR dX5_add_12 fR_6_9 hk.1 rfl hk.2.1 ?_
    refine us_alen hR dX5_add_15 hk.2.2.1 ?_
    refine us_icmp_ge hR dX5_add_16 39 (by decide) (fun c_16 => ?_) (fun c_16 => ?_)
    · skip
      refine us_vret hR dX5_add_39 rfl ?_
      first
        | (exfalso; rw [hs, i_lt, nI_T hl, i_0] at c_4; omega)
        | (rw [hs, show gN (gW G I) b = n from hn, i_le] at c_16; have c_16 := (show (nI n).toInt ≤ (nI xs.length).toInt from c_16); rw [nI_T hnb, nI_T hl] at c_16; exact h I (by unfold xadd; rw [if_neg (by omega)]; exact hi) (fun _ _ _ => rfl))
        | (rw [hs, show gN (gW G I) b = n from hn, i_le] at c_16; have c_16 := (show ¬ (nI n).toInt ≤ (nI xs.length).toInt from c_16); rw [nI_T hnb, nI_T hl] at c_16; exact h _ (by unfold xadd; rw [if_pos (by omega)]; exact IRow_add hab hi (by omega) hnb) Fr2_uu)
    · skip
      refine us_aload_n hR dX5_add_19 rfl ?_
      refine us_getR hR dX5_add_20 fR_6_9 hk.1 rfl hk.2.1 ?_
      refine us_aload_n hR dX5_add_23 rfl ?_
      refine us_getI hR dX5_add_24 fR_6_15 hk.1 rfl ?_
      refine us_iload_n hR dX5_add_27 rfl ?_
      refine us_iastore hR dX5_add_28 hk.2.2.1 (by rw [show gN (gW G I) b = n from hn]; exact i_in c_4 (by rw [← hn]; exact c_16) hnb) ?_
      refine us_aload_n hR dX5_add_29 rfl ?_
      refine us_dup hR dX5_add_30 rfl ?_
      refine us_getI hR dX5_add_31 fR_6_15 hk.1 rfl ?_
      refine us_iconst hR dX5_add_34 ?_
      refine us_iadd hR dX5_add_35 ?_
      refine us_putI hR dX5_add_36 fR_6_15 (Or.inl rfl) hk.1 rfl rfl ?_
      refine us_vret hR dX5_add_39 rfl ?_
      first
        | (exfalso; rw [hs, i_lt, nI_T hl, i_0] at c_4; omega)
        | (rw [hs, show gN (gW G I) b = n from hn, i_le] at c_16; have c_16 := (show (nI n).toInt ≤ (nI xs.length).toInt from c_16); rw [nI_T hnb, nI_T hl] at c_16; exact h I (by unfold xadd; rw [if_neg (by omega)]; exact hi) (fun _ _ _ => rfl))
        | (rw [hs, show gN (gW G I) b = n from hn, i_le] at c_16; have c_16 := (show ¬ (nI n).toInt ≤ (nI xs.length).toInt from c_16); rw [nI_T hnb, nI_T hl] at c_16; exact h _ (by unfold xadd; rw [if_pos (by omega)]; exact IRow_add hab hi (by omega) hnb) Fr2_uu)
theorem sp_Row_last {d : Nat} {G : ab_G} {I : Nat → Nat → Int32} {a b n : Nat} {xs : List Int32} {P : ab_Pq} {X : ab_Xq} (hk : KRow G a b n) (hi : IRow I a b n xs) (h : P (gW G I) (some (.int (xlast xs)))) : ab_Gam (d + 1) 6005 [.ref a] (gW G I) P X := by
  have hn : gN G b = n := hk.2.2.2.1
  have hnb : n < 100000 := hk.2.2.2.2.2
  have hab : a ≠ b := hk.2.2.2.2.1
  have hs : gI (gW G I) a 1 = nI xs.length := hi.1
  have hl : xs.length < 100000 := Nat.lt_of_le_of_lt hi.2.1 hnb
  refine ab_enter (I := i6005) rfl (Nat.le_of_ble_eq_true rfl) (fun R hR => ?_)
  refine us_aload_n hR dX5_last_0 rfl ?_
  refine us_getI hR dX5_last_1 fR_6_15 hk.1 rfl ?_
  refine us_if_le hR dX5_last_4 33 (by decide) (fun c_4 => ?_) (fun c_4 => ?_)
  · skip
    refine us_iconst hR dX5_last_33 ?_
    refine us_iret hR dX5_last_34 rfl rfl ?_
    first
      | (exfalso; rw [hs, i_lt] at c_16; have c_16 := (show (nI (gN (gW G I) b)).toInt < (nI xs.length).toInt from c_16); rw [show gN (gW G I) b = n from hn, nI_T hnb, nI_T hl] at c_16; have := hi.2.1; omega)
      | (rw [hs] at c_4; rw [xs_nil' hl c_4] at h; exact h)
      | (rw [hs] at c_4 ⊢; have h1 := xs_pos hl c_4; rw [show Int32.ofInt 1 = 1 from rfl, nJ_pred h1 hl, nI_C (by omega)]; show P _ (some (.int (I b (xs.length - 1)))); rw [hi.2.2 _ (by omega)]; exact h)
  · skip
    refine us_aload_n hR dX5_last_7 rfl ?_
    refine us_getI hR dX5_last_8 fR_6_15 hk.1 rfl ?_
    refine us_aload_n hR dX5_last_11 rfl ?_
    refine us_getR hR dX5_last_12 fR_6_9 hk.1 rfl hk.2.1 ?_
    refine us_alen hR dX5_last_15 hk.2.2.1 ?_
    refine us_icmp_gt hR dX5_last_16 33 (by decide) (fun c_16 => ?_) (fun c_16 => ?_)
    · skip
      refine us_iconst hR dX5_last_33 ?_
      refine us_iret hR dX5_last_34 rfl rfl ?_
      first
        | (exfalso; rw [hs, i_lt] at c_16; have c_16 := (show (nI (gN (gW G I) b)).toInt < (nI xs.length).toInt from c_16); rw [show gN (gW G I) b = n from hn, nI_T hnb, nI_T hl] at c_16; have := hi.2.1; omega)
        | (rw [hs] at c_4; rw [xs_nil' hl c_4] at h; exact h)
        | (rw [hs] at c_4 ⊢; have h1 := xs_pos hl c_4; rw [show Int32.ofInt 1 = 1 from rfl, nJ_pred h1 hl, nI_C (by omega)]; show P _ (some (.int (I b (xs.length - 1)))); rw [hi.2.2 _ (by omega)]; exact h)
    · skip
      refine us_aload_n hR dX5_last_19 rfl ?_
      refine us_getR hR dX5_last_20 fR_6_9 hk.1 rfl hk.2.1 ?_
      refine us_aload_n hR dX5_last_23 rfl ?_
      refine us_getI hR dX5_last_24 fR_6_15 hk.1 rfl ?_
      refine us_iconst hR dX5_last_27 ?_
      refine us_isub hR dX5_last_28 ?_
      refine us_iaload hR dX5_last_29 hk.2.2.1 (by rw [hs] at c_4 ⊢; have h1 := xs_pos hl c_4; rw [show Int32.ofInt 1 = 1 from rfl, nJ_pred h1 hl]; exact nJ_in (by have := hi.2.1; rw [show gN (gW G I) b = n from hn]; omega) (by rw [show gN (gW G I) b = n from hn]; exact hnb)) ?_
      refine us_goto hR dX5_last_30 34 (by decide) ?_
      refine us_iret hR dX5_last_34 rfl rfl ?_
      first
        | (exfalso; rw [hs, i_lt] at c_16; have c_16 := (show (nI (gN (gW G I) b)).toInt < (nI xs.length).toInt from c_16); rw [show gN (gW G I) b = n from hn, nI_T hnb, nI_T hl] at c_16; have := hi.2.1; omega)
        | (rw [hs] at c_4; rw [xs_nil' hl c_4] at h; exact h)
        | (rw [hs] at c_4 ⊢; have h1 := xs_pos hl c_4; rw [show Int32.ofInt 1 = 1 from rfl, nJ_pred h1 hl, nI_C (by omega)]; show P _ (some (.int (I b (xs.length - 1)))); rw [hi.2.2 _ (by omega)]; exact h)
theorem sp_Row_takeLast {d : Nat} {G : ab_G} {I : Nat → Nat → Int32} {a b n : Nat} {xs : List Int32} {P : ab_Pq} {X : ab_Xq} (hk : KRow G a b n) (hi : IRow I a b n xs) (h : ∀ I', IRow I' a b n xs.dropLast → Fr2 I I' a b → P (gW G I') (some (.int (xlast xs)))) : ab_Gam (d + 1) 6006 [.ref a] (gW G I) P X := by
  have hn : gN G b = n := hk.2.2.2.1
  have hnb : n < 100000 := hk.2.2.2.2.2
  have hab : a ≠ b := hk.2.2.2.2.1
  have hs : gI (gW G I) a 1 = nI xs.length := hi.1
  have hl : xs.length < 100000 := Nat.lt_of_le_of_lt hi.2.1 hnb
  refine ab_enter (I := i6006) rfl (Nat.le_of_ble_eq_true rfl) (fun R hR => ?_)
  refine us_aload_n hR dX5_takeLast_0 rfl ?_
  refine us_getI hR dX5_takeLast_1 fR_6_15 hk.1 rfl ?_
  refine us_iconst hR dX5_takeLast_4 ?_
  refine us_icmp_lt hR dX5_takeLast_5 20 (by decide) (fun c_5 => ?_) (fun c_5 => ?_)
  · skip
    refine us_iconst hR dX5_takeLast_20 ?_
    refine us_iret hR dX5_takeLast_21 rfl rfl ?_
    first
      | (rw [hs] at c_5; rw [xs_nil hl c_5] at h hi; exact h I hi (fun _ _ _ => rfl))
      | (exfalso; rw [hs, i_le] at c_17; have c_17 := (show ¬ (nI xs.length).toInt ≤ (nI (gN (gW G I) b)).toInt from c_17); rw [show gN (gW G I) b = n from hn, nI_T hnb, nI_T hl] at c_17; have := hi.2.1; omega)
  · skip
    refine us_aload_n hR dX5_takeLast_8 rfl ?_
    refine us_getI hR dX5_takeLast_9 fR_6_15 hk.1 rfl ?_
    refine us_aload_n hR dX5_takeLast_12 rfl ?_
    refine us_getR hR dX5_takeLast_13 fR_6_9 hk.1 rfl hk.2.1 ?_
    refine us_alen hR dX5_takeLast_16 hk.2.2.1 ?_
    refine us_icmp_le hR dX5_takeLast_17 22 (by decide) (fun c_17 => ?_) (fun c_17 => ?_)
    · skip
      refine us_aload_n hR dX5_takeLast_22 rfl ?_
      refine us_dup hR dX5_takeLast_23 rfl ?_
      refine us_getI hR dX5_takeLast_24 fR_6_15 hk.1 rfl ?_
      refine us_iconst hR dX5_takeLast_27 ?_
      refine us_isub hR dX5_takeLast_28 ?_
      refine us_putI hR dX5_takeLast_29 fR_6_15 (Or.inl rfl) hk.1 rfl rfl ?_
      refine us_aload_n hR dX5_takeLast_32 rfl ?_
      refine us_getR hR dX5_takeLast_33 fR_6_9 hk.1 rfl hk.2.1 ?_
      refine us_aload_n hR dX5_takeLast_36 rfl ?_
      refine us_getI hR dX5_takeLast_37 fR_6_15 hk.1 rfl ?_
      refine us_iaload hR dX5_takeLast_40 hk.2.2.1 (by
      have h1 := xs_pos' hl (by rw [hs] at c_5; exact c_5)
      have h2 : gI (sI (gW G I) a 1 (gI (gW G I) a 1 - Int32.ofInt 1)) a 1 = nI (xs.length - 1) := by
        show u2 I a 1 (I a 1 - 1) a 1 = _
        rw [u2_s]
        dsimp only
        rw [if_pos rfl, hi.1, nJ_pred h1 hl]
      rw [h2]
      exact nJ_in (by have := hi.2.1; show _ < gN G b; rw [hn]; omega) (by show gN G b < _; rw [hn]; exact hnb)) ?_
      refine us_iret hR dX5_takeLast_41 rfl rfl ?_
      have h1 := xs_pos' hl (by rw [hs] at c_5; exact c_5)
      have h2 : gI (sI (gW G I) a 1 (gI (gW G I) a 1 - Int32.ofInt 1)) a 1 = nI (xs.length - 1) := by
        show u2 I a 1 (I a 1 - 1) a 1 = _
        rw [u2_s]
        dsimp only
        rw [if_pos rfl, hi.1, nJ_pred h1 hl]
      rw [h2, nI_C (by omega)]
      have h3 : gI (sI (gW G I) a 1 (gI (gW G I) a 1 - Int32.ofInt 1)) b (xs.length - 1) = xlast xs := by
        show u2 I a 1 (I a 1 - 1) b _ = _
        rw [u2_n _ _ _ (Ne.symm hab), hi.2.2 _ (by omega)]
        rfl
      rw [h3]
      exact h _ (IRow_pop hab hi h1 hl) (Fr2_u a (Or.inl rfl))
    · skip
      refine us_iconst hR dX5_takeLast_20 ?_
      refine us_iret hR dX5_takeLast_21 rfl rfl ?_
      first
        | (rw [hs] at c_5; rw [xs_nil hl c_5] at h hi; exact h I hi (fun _ _ _ => rfl))
        | (exfalso; rw [hs, i_le] at c_17; have c_17 := (show ¬ (nI xs.length).toInt ≤ (nI (gN (gW G I) b)).toInt from c_17); rw [show gN (gW G I) b = n from hn, nI_T hnb, nI_T hl] at c_17; have := hi.2.1; omega)
theorem sp_Row_cut {d : Nat} {G : ab_G} {I : Nat → Nat → Int32} {a b n : Nat} {xs : List Int32} {P : ab_Pq} {X : ab_Xq} (hk : KRow G a b n) (hi : IRow I a b n xs) {x : Int32} (h : ∀ I', IRow I' a b n (xcut xs x) → Fr2 I I' a b → P (gW G I') none) : ab_Gam (d + 1) 6007 [.ref a, .int x] (gW G I) P X := by
  have hn : gN G b = n := hk.2.2.2.1
  have hnb : n < 100000 := hk.2.2.2.2.2
  have hab : a ≠ b := hk.2.2.2.2.1
  have hs : gI (gW G I) a 1 = nI xs.length := hi.1
  have hl : xs.length < 100000 := Nat.lt_of_le_of_lt hi.2.1 hnb
  refine ab_enter (I := i6007) rfl (Nat.le_of_ble_eq_true rfl) (fun R hR => ?_)
  refine us_iload_n hR dX5_cut_0 rfl ?_
  refine us_if_lt hR dX5_cut_1 17 (by decide) (fun c_1 => ?_) (fun c_1 => ?_)
  · skip
    refine us_vret hR dX5_cut_17 rfl ?_
    first
      | exact h I (by unfold xcut; rw [if_pos c_1]; exact hi) (fun _ _ _ => rfl)
      | (rw [hs] at c_9; exact h I (by unfold xcut; rw [if_neg c_1, List.take_of_length_le (i_ge_n c_9 hl (Nat.le_refl _))]; exact hi) (fun _ _ _ => rfl))
      | (rw [hs] at c_9; exact h _ (by unfold xcut; rw [if_neg c_1]; exact IRow_cut hab hi c_1 c_9 hl) (Fr2_u a (Or.inl rfl)))
  · skip
    refine us_iload_n hR dX5_cut_4 rfl ?_
    refine us_aload_n hR dX5_cut_5 rfl ?_
    refine us_getI hR dX5_cut_6 fR_6_15 hk.1 rfl ?_
    refine us_icmp_ge hR dX5_cut_9 17 (by decide) (fun c_9 => ?_) (fun c_9 => ?_)
    · skip
      refine us_vret hR dX5_cut_17 rfl ?_
      first
        | exact h I (by unfold xcut; rw [if_pos c_1]; exact hi) (fun _ _ _ => rfl)
        | (rw [hs] at c_9; exact h I (by unfold xcut; rw [if_neg c_1, List.take_of_length_le (i_ge_n c_9 hl (Nat.le_refl _))]; exact hi) (fun _ _ _ => rfl))
        | (rw [hs] at c_9; exact h _ (by unfold xcut; rw [if_neg c_1]; exact IRow_cut hab hi c_1 c_9 hl) (Fr2_u a (Or.inl rfl)))
    · skip
      refine us_aload_n hR dX5_cut_12 rfl ?_
      refine us_iload_n hR dX5_cut_13 rfl ?_
      refine us_putI hR dX5_cut_14 fR_6_15 (Or.inl rfl) hk.1 rfl rfl ?_
      refine us_vret hR dX5_cut_17 rfl ?_
      first
        | exact h I (by unfold xcut; rw [if_pos c_1]; exact hi) (fun _ _ _ => rfl)
        | (rw [hs] at c_9; exact h I (by unfold xcut; rw [if_neg c_1, List.take_of_length_le (i_ge_n c_9 hl (Nat.le_refl _))]; exact hi) (fun _ _ _ => rfl))
        | (rw [hs] at c_9; exact h _ (by unfold xcut; rw [if_neg c_1]; exact IRow_cut hab hi c_1 c_9 hl) (Fr2_u a (Or.inl rfl)))
theorem sp_Row_empty {d : Nat} {G : ab_G} {I : Nat → Nat → Int32} {a b n : Nat} {xs : List Int32} {P : ab_Pq} {X : ab_Xq} (hk : KRow G a b n) (hi : IRow I a b n xs) (h : ∀ I', IRow I' a b n [] → Fr2 I I' a b → P (gW G I') none) : ab_Gam (d + 1) 6008 [.ref a] (gW G I) P X := by
  have hn : gN G b = n := hk.2.2.2.1
  have hnb : n < 100000 := hk.2.2.2.2.2
  have hab : a ≠ b := hk.2.2.2.2.1
  have hs : gI (gW G I) a 1 = nI xs.length := hi.1
  have hl : xs.length < 100000 := Nat.lt_of_le_of_lt hi.2.1 hnb
  refine ab_enter (I := i6008) rfl (Nat.le_of_ble_eq_true rfl) (fun R hR => ?_)
  refine us_aload_n hR dX5_empty_0 rfl ?_
  refine us_iconst hR dX5_empty_1 ?_
  refine us_putI hR dX5_empty_2 fR_6_15 (Or.inl rfl) hk.1 rfl rfl ?_
  refine us_vret hR dX5_empty_5 rfl ?_
  exact h _ ⟨by rw [u2_s]; rfl, Nat.zero_le _, fun i hx => absurd hx (Nat.not_lt_zero _)⟩ (Fr2_u a (Or.inl rfl))
theorem sp_Row_fillWithZeros {d : Nat} {G : ab_G} {I : Nat → Nat → Int32} {a b n : Nat} {xs : List Int32} {P : ab_Pq} {X : ab_Xq} (hk : KRow G a b n) (hi : IRow I a b n xs) (h : ∀ I', IRow I' a b n (List.replicate n 0) → Fr2 I I' a b → P (gW G I') none) : ab_Gam (d + 1) 6009 [.ref a] (gW G I) P X := by
  have hn : gN G b = n := hk.2.2.2.1
  have hnb : n < 100000 := hk.2.2.2.2.2
  have hab : a ≠ b := hk.2.2.2.2.1
  have hs : gI (gW G I) a 1 = nI xs.length := hi.1
  have hl : xs.length < 100000 := Nat.lt_of_le_of_lt hi.2.1 hnb
  refine ab_enter (I := i6009) rfl (Nat.le_of_ble_eq_true rfl) (fun R hR => ?_)
  have hL : ∀ m k : Nat, n ≤ k + m → k ≤ n → ∀ I2 : Nat → Nat → Int32, I2 a 1 = nI n → (∀ j, j < k → I2 b j = 0) → Fr2 I I2 a b → ∀ bc bs, R 11 [some (.ref a), some (.int (nI k))] [] (gW G I2) bc bs := by
    intro m
    induction m with
    | zero =>
      intro k hm hkn I2 h1 h2 hF bc bs
      have hkn' : k = n := by omega
      refine us_iload_n hR dX5_fillWithZeros_11 rfl ?_
      refine us_aload_n hR dX5_fillWithZeros_12 rfl ?_
      refine us_getR hR dX5_fillWithZeros_13 fR_6_9 hk.1 rfl hk.2.1 ?_
      refine us_alen hR dX5_fillWithZeros_16 hk.2.2.1 ?_
      refine us_icmp_ge hR dX5_fillWithZeros_17 33 (by decide) (fun c_17 => ?_) (fun c_17 => ?_)
      · rw [i_le, show Int32.ofNat (gN (gW G I2) b) = nI n from congrArg nI hn, nI_T hnb, nI_T (by omega)] at c_17
        refine us_vret hR dX5_fillWithZeros_33 rfl ?_
        have hkn : k = n := by omega
        subst hkn
        exact h _ ⟨by rw [h1, List.length_replicate], by rw [List.length_replicate]; omega, fun i hx => by
          rw [List.length_replicate] at hx
          rw [h2 i hx]
          simp [List.getD_eq_getElem?_getD, hx]⟩ hF
      · rw [i_le, show Int32.ofNat (gN (gW G I2) b) = nI n from congrArg nI hn, nI_T hnb, nI_T (by omega)] at c_17
        exfalso; omega
    | succ m ih =>
      intro k hm hkn I2 h1 h2 hF bc bs
      refine us_iload_n hR dX5_fillWithZeros_11 rfl ?_
      refine us_aload_n hR dX5_fillWithZeros_12 rfl ?_
      refine us_getR hR dX5_fillWithZeros_13 fR_6_9 hk.1 rfl hk.2.1 ?_
      refine us_alen hR dX5_fillWithZeros_16 hk.2.2.1 ?_
      refine us_icmp_ge hR dX5_fillWithZeros_17 33 (by decide) (fun c_17 => ?_) (fun c_17 => ?_)
      · rw [i_le, show Int32.ofNat (gN (gW G I2) b) = nI n from congrArg nI hn, nI_T hnb, nI_T (by omega)] at c_17
        refine us_vret hR dX5_fillWithZeros_33 rfl ?_
        have hkn : k = n := by omega
        subst hkn
        exact h _ ⟨by rw [h1, List.length_replicate], by rw [List.length_replicate]; omega, fun i hx => by
          rw [List.length_replicate] at hx
          rw [h2 i hx]
          simp [List.getD_eq_getElem?_getD, hx]⟩ hF
      · rw [i_le, show Int32.ofNat (gN (gW G I2) b) = nI n from congrArg nI hn, nI_T hnb, nI_T (by omega)] at c_17
        refine us_aload_n hR dX5_fillWithZeros_20 rfl ?_
        refine us_getR hR dX5_fillWithZeros_21 fR_6_9 hk.1 rfl hk.2.1 ?_
        refine us_iload_n hR dX5_fillWithZeros_24 rfl ?_
        refine us_iconst hR dX5_fillWithZeros_25 ?_
        refine us_iastore hR dX5_fillWithZeros_26 hk.2.2.1 (by show vp_in _ (gN G b); rw [hn]; exact nJ_in (by omega) hnb) ?_
        refine us_iinc hR dX5_fillWithZeros_27 rfl (Nat.le_of_ble_eq_true rfl) ?_
        refine us_goto hR dX5_fillWithZeros_30 11 (by decide) ?_
        rw [show nI k + Int32.ofInt 1 = nI (k + 1) from nJ_succ (by omega)]
        exact ih (k + 1) (by omega) (by omega) _ (by rw [u2_n _ _ _ hab]; exact h1) (fun j hj => by
          rw [u2_s, nI_C (by omega)]
          dsimp only
          by_cases hx : j = k
          · rw [if_pos hx]; rfl
          · rw [if_neg hx]; exact h2 j (by omega)) (hF.tr (Fr2_u b (Or.inr rfl))) _ _
  refine us_aload_n hR dX5_fillWithZeros_0 rfl ?_
  refine us_aload_n hR dX5_fillWithZeros_1 rfl ?_
  refine us_getR hR dX5_fillWithZeros_2 fR_6_9 hk.1 rfl hk.2.1 ?_
  refine us_alen hR dX5_fillWithZeros_5 hk.2.2.1 ?_
  refine us_putI hR dX5_fillWithZeros_6 fR_6_15 (Or.inl rfl) hk.1 rfl rfl ?_
  refine us_iconst hR dX5_fillWithZeros_9 ?_
  refine us_istore_n hR dX5_fillWithZeros_10 (Nat.le_of_ble_eq_true rfl) ?_
  exact hL n 0 (by omega) (Nat.zero_le _) _ (by rw [u2_s]; dsimp only; rw [if_pos rfl]; show nI (gN G b) = _; rw [hn]) (fun j hj => absurd hj (Nat.not_lt_zero _)) (Fr2_u a (Or.inl rfl)) _ _
theorem xpos_at {xs : List Int32} {v : Int32} {k : Nat} (hk : k < xs.length) (h : ∀ j, j < k → ¬ xs.getD j 0 = v) (hv : xs.getD k 0 = v) : xpos xs v = nI k := by
  have hk' : xs[k] = v := by simpa [List.getD_eq_getElem?_getD, hk] using hv
  unfold xpos
  rw [if_pos (by rw [← hk']; exact List.getElem_mem hk)]
  congr 1
  induction xs generalizing k with
  | nil => exact absurd hk (Nat.not_lt_zero _)
  | cons x xs ih =>
    cases k with
    | zero => simp at hk'; simp [hk', List.idxOf_cons]
    | succ k =>
      have h0 := h 0 (by omega)
      simp at h0
      rw [List.idxOf_cons, show (x == v) = false by simpa using h0]
      dsimp only [cond]
      rw [ih (k := k) (by simpa using hk) (fun j hj => by have := h (j + 1) (by omega); simpa using this) (by simpa using hv) (by simpa using hk')]
theorem xpos_no {xs : List Int32} {v : Int32} (h : ∀ j, j < xs.length → ¬ xs.getD j 0 = v) : xpos xs v = -1 := by
  unfold xpos
  rw [if_neg]
  intro hm
  obtain ⟨j, hj, e⟩ := List.mem_iff_getElem.1 hm
  exact h j hj (by simp [List.getD_eq_getElem?_getD, hj, e])
theorem sp_Row_placeOf {d : Nat} {G : ab_G} {I : Nat → Nat → Int32} {a b n : Nat} {xs : List Int32} {P : ab_Pq} {X : ab_Xq} (hk : KRow G a b n) (hi : IRow I a b n xs) {v : Int32} (h : P (gW G I) (some (.int (xpos xs v)))) : ab_Gam (d + 1) 6010 [.ref a, .int v] (gW G I) P X := by
  have hn : gN G b = n := hk.2.2.2.1
  have hnb : n < 100000 := hk.2.2.2.2.2
  have hab : a ≠ b := hk.2.2.2.2.1
  have hs : gI (gW G I) a 1 = nI xs.length := hi.1
  have hl : xs.length < 100000 := Nat.lt_of_le_of_lt hi.2.1 hnb
  have hln : xs.length ≤ n := hi.2.1
  refine ab_enter (I := i6010) rfl (Nat.le_of_ble_eq_true rfl) (fun R hR => ?_)
  have hL : ∀ m k : Nat, xs.length ≤ k + m → k ≤ xs.length → (∀ j, j < k → ¬ xs.getD j 0 = v) → ∀ bc bs, R 2 [some (.ref a), some (.int v), some (.int (nI k))] [] (gW G I) bc bs := by
    intro m
    induction m with
    | zero =>
      intro k hm hkn h2 bc bs
      refine us_iload_n hR dX5_placeOf_2 rfl ?_
      refine us_aload_n hR dX5_placeOf_3 rfl ?_
      refine us_getI hR dX5_placeOf_4 fR_6_15 hk.1 rfl ?_
      refine us_icmp_ge hR dX5_placeOf_7 37 (by decide) (fun c_7 => ?_) (fun c_7 => ?_)
      · rw [hs, i_le, nI_T hl, nI_T (by omega)] at c_7
        refine us_iconst hR dX5_placeOf_37 ?_
        refine us_iret hR dX5_placeOf_38 rfl rfl ?_
        rw [xpos_no (by intro j hj; exact h2 j (by omega))] at h
        exact h
      · rw [hs, i_le, nI_T hl, nI_T (by omega)] at c_7
        exfalso; omega
    | succ m ih =>
      intro k hm hkn h2 bc bs
      refine us_iload_n hR dX5_placeOf_2 rfl ?_
      refine us_aload_n hR dX5_placeOf_3 rfl ?_
      refine us_getI hR dX5_placeOf_4 fR_6_15 hk.1 rfl ?_
      refine us_icmp_ge hR dX5_placeOf_7 37 (by decide) (fun c_7 => ?_) (fun c_7 => ?_)
      · rw [hs, i_le, nI_T hl, nI_T (by omega)] at c_7
        refine us_iconst hR dX5_placeOf_37 ?_
        refine us_iret hR dX5_placeOf_38 rfl rfl ?_
        rw [xpos_no (by intro j hj; exact h2 j (by omega))] at h
        exact h
      · rw [hs, i_le, nI_T hl, nI_T (by omega)] at c_7
        refine us_iload_n hR dX5_placeOf_10 rfl ?_
        refine us_aload_n hR dX5_placeOf_11 rfl ?_
        refine us_getR hR dX5_placeOf_12 fR_6_9 hk.1 rfl hk.2.1 ?_
        refine us_alen hR dX5_placeOf_15 hk.2.2.1 ?_
        refine us_icmp_ge hR dX5_placeOf_16 37 (by decide) (fun c_16 => ?_) (fun c_16 => ?_)
        · rw [i_le, show Int32.ofNat (gN (gW G I) b) = nI n from congrArg nI hn, nI_T hnb, nI_T (by omega)] at c_16
          refine us_iconst hR dX5_placeOf_37 ?_
          refine us_iret hR dX5_placeOf_38 rfl rfl ?_
          rw [xpos_no (by intro j hj; exact h2 j (by omega))] at h
          exact h
        · rw [i_le, show Int32.ofNat (gN (gW G I) b) = nI n from congrArg nI hn, nI_T hnb, nI_T (by omega)] at c_16
          refine us_aload_n hR dX5_placeOf_19 rfl ?_
          refine us_getR hR dX5_placeOf_20 fR_6_9 hk.1 rfl hk.2.1 ?_
          refine us_iload_n hR dX5_placeOf_23 rfl ?_
          refine us_iaload hR dX5_placeOf_24 hk.2.2.1 (by show vp_in _ (gN G b); rw [hn]; exact nJ_in (by omega) hnb) ?_
          refine us_iload_n hR dX5_placeOf_25 rfl ?_
          refine us_icmp_ne hR dX5_placeOf_26 31 (by decide) (fun c_26 => ?_) (fun c_26 => ?_)
          · have hkl : k < xs.length := by omega
            rw [show gI (gW G I) b (nI k).toNatClampNeg = xs.getD k 0 by rw [nI_C (by omega)]; exact hi.2.2 k hkl] at c_26
            refine us_iinc hR dX5_placeOf_31 rfl (Nat.le_of_ble_eq_true rfl) ?_
            refine us_goto hR dX5_placeOf_34 2 (by decide) ?_
            rw [show nI k + Int32.ofInt 1 = nI (k + 1) from nJ_succ (by omega)]
            exact ih (k + 1) (by omega) (by omega) (fun j hj => by
              by_cases hx : j = k
              · subst hx; exact c_26
              · exact h2 j (by omega)) _ _
          · have hkl : k < xs.length := by omega
            rw [show gI (gW G I) b (nI k).toNatClampNeg = xs.getD k 0 by rw [nI_C (by omega)]; exact hi.2.2 k hkl] at c_26
            refine us_iload_n hR dX5_placeOf_29 rfl ?_
            refine us_iret hR dX5_placeOf_30 rfl rfl ?_
            rw [xpos_at (k := k) hkl h2 c_26] at h
            exact h
  refine us_iconst hR dX5_placeOf_0 ?_
  refine us_istore_n hR dX5_placeOf_1 (Nat.le_of_ble_eq_true rfl) ?_
  exact hL xs.length 0 (by omega) (Nat.zero_le _) (fun j hj => absurd hj (Nat.not_lt_zero _)) _ _
