/-! rows of ints: contracts on the abstract machine -/
/-- the heap with other ints -/
def gW (G : ab_G) (I : Nat → Nat → Int32) : ab_G := (gK G, gN G, I, gR G, gJ G, gZ G)
/-- a is a Row whose array is b, of n places -/
def KRow (G : ab_G) (a b n : Nat) : Prop := gK G a = 6 ∧ gR G a 0 = some b ∧ gK G b = 14 ∧ gN G b = n ∧ a ≠ b ∧ n < 100000
/-- .. and holds xs -/
def IRow (I : Nat → Nat → Int32) (a b n : Nat) (xs : List Int32) : Prop := I a 1 = nI xs.length ∧ xs.length ≤ n ∧ ∀ i, i < xs.length → I b i = xs.getD i 0
/-- nothing but two cells has changed -/
def Fr2 (I I' : Nat → Nat → Int32) (a b : Nat) : Prop := ∀ c, c ≠ a → c ≠ b → I' c = I c
def xg (xs : List Int32) (i : Int32) : Int32 := if i < 0 then 0 else xs.getD i.toNatClampNeg 0
def xset (xs : List Int32) (i v : Int32) : List Int32 := if i < 0 then xs else xs.set i.toNatClampNeg v
def xadd (n : Nat) (xs : List Int32) (v : Int32) : List Int32 := if xs.length < n then xs ++ [v] else xs
def xlast (xs : List Int32) : Int32 := xs.getD (xs.length - 1) 0
def xcut (xs : List Int32) (i : Int32) : List Int32 := if i < 0 then xs else xs.take i.toNatClampNeg
def xpos (xs : List Int32) (v : Int32) : Int32 := if v ∈ xs then nI (xs.idxOf v) else -1
theorem i_lt {x y : Int32} : x < y ↔ x.toInt < y.toInt := Int32.lt_iff_toInt_lt
theorem i_le {x y : Int32} : x ≤ y ↔ x.toInt ≤ y.toInt := Int32.le_iff_toInt_le
theorem i_eq {x y : Int32} : x = y ↔ x.toInt = y.toInt := Int32.toInt_inj.symm
theorem i_cl (x : Int32) : x.toNatClampNeg = x.toInt.toNat := rfl
theorem i_0 : (0 : Int32).toInt = 0 := by decide
theorem i_1 : (1 : Int32).toInt = 1 := by decide
theorem nI_T {n : Nat} (h : n < 100000) : (nI n).toInt = n := nI_toInt (by omega)
theorem nI_C {n : Nat} (h : n < 100000) : (nI n).toNatClampNeg = n := nI_clamp (by omega)
theorem i_in {x : Int32} {n : Nat} (h0 : ¬ x < 0) (h1 : ¬ nI n ≤ x) (hn : n < 100000) : vp_in x n := by
  rw [vp_in_iff]
  rw [i_lt, i_0] at h0
  rw [i_le, nI_T hn] at h1
  omega
theorem xg_neg {xs : List Int32} {x : Int32} (h : x < 0) : xg xs x = 0 := if_pos h
theorem xg_ge {xs : List Int32} {x : Int32} {m : Nat} (h : nI m ≤ x) (hl : xs.length ≤ m) (hm : m < 100000) : xg xs x = 0 := by
  unfold xg
  split
  · rfl
  · rw [List.getD_eq_getElem?_getD, List.getElem?_eq_none]
    · rfl
    · rw [i_le, nI_T hm] at h
      rw [i_cl]
      omega
theorem xg_in {xs : List Int32} {x : Int32} (h : ¬ x < 0) : xg xs x = xs.getD x.toNatClampNeg 0 := if_neg h
theorem i_ltn {xs : List Int32} {x : Int32} (h0 : ¬ x < 0) (h : ¬ nI xs.length ≤ x) (hl : xs.length < 100000) : x.toNatClampNeg < xs.length := by
  rw [i_lt, i_0] at h0
  rw [i_le, nI_T hl] at h
  rw [i_cl]
  omega

theorem sp_Row_size {d : Nat} {G : ab_G} {I : Nat → Nat → Int32} {a b n : Nat} {xs : List Int32} {P : ab_Pq} {X : ab_Xq} (hk : KRow G a b n) (hi : IRow I a b n xs) (h : P (gW G I) (some (.int (nI xs.length)))) : ab_Gam (d + 1) 6001 [.ref a] (gW G I) P X := by
  have hn : gN G b = n := hk.2.2.2.1
  have hnb : n < 100000 := hk.2.2.2.2.2
  have hab : a ≠ b := hk.2.2.2.2.1
  have hs : gI (gW G I) a 1 = nI xs.length := hi.1
  have hl : xs.length < 100000 := Nat.lt_of_le_of_lt hi.2.1 hnb
  refine ab_enter (I := i6001) rfl (Nat.le_of_ble_eq_true rfl) (fun R hR => ?_)
  refine us_aload_n hR dX5_size_0 rfl ?_
  refine us_getI hR dX5_size_1 fR_6_15 hk.1 rfl ?_
  refine us_iret hR dX5_size_4 rfl rfl ?_
  rw [hs]
  exact h
theorem sp_Row_get {d : Nat} {G : ab_G} {I : Nat → Nat → Int32} {a b n : Nat} {xs : List Int32} {P : ab_Pq} {X : ab_Xq} (hk : KRow G a b n) (hi : IRow I a b n xs) {x : Int32} (h : P (gW G I) (some (.int (xg xs x)))) : ab_Gam (d + 1) 6002 [.ref a, .int x] (gW G I) P X := by
  have hn : gN G b = n := hk.2.2.2.1
  have hnb : n < 100000 := hk.2.2.2.2.2
  have hab : a ≠ b := hk.2.2.2.2.1
  have hs : gI (gW G I) a 1 = nI xs.length := hi.1
  have hl : xs.length < 100000 := Nat.lt_of_le_of_lt hi.2.1 hnb
  refine ab_enter (I := i6002) rfl (Nat.le_of_ble_eq_true rfl) (fun R hR => ?_)
  refine us_iload_n hR dX5_get_0 rfl ?_
  refine us_if_lt hR dX5_get_1 30 (by decide) (fun c_1 => ?_) (fun c_1 => ?_)
  · skip
    refine us_iconst hR dX5_get_30 ?_
    refine us_iret hR dX5_get_31 rfl rfl ?_
    first
      | (rw [xg_neg (by assumption)] at h; exact h)
      | (rw [hs] at *; rw [xg_ge (m := xs.length) (by assumption) (Nat.le_refl _) hl] at h; exact h)
      | (rw [xg_ge (m := n) (by rw [← hn]; assumption) hi.2.1 hnb] at h; exact h)
      | (rw [hs] at *; rw [xg_in (by assumption), ← hi.2.2 _ (i_ltn (by assumption) (by assumption) hl)] at h; exact h)
  · skip
    refine us_iload_n hR dX5_get_4 rfl ?_
    refine us_aload_n hR dX5_get_5 rfl ?_
    refine us_getI hR dX5_get_6 fR_6_15 hk.1 rfl ?_
    refine us_icmp_ge hR dX5_get_9 30 (by decide) (fun c_9 => ?_) (fun c_9 => ?_)
    · skip
      refine us_iconst hR dX5_get_30 ?_
      refine us_iret hR dX5_get_31 rfl rfl ?_
      first
        | (rw [xg_neg (by assumption)] at h; exact h)
        | (rw [hs] at *; rw [xg_ge (m := xs.length) (by assumption) (Nat.le_refl _) hl] at h; exact h)
        | (rw [xg_ge (m := n) (by rw [← hn]; assumption) hi.2.1 hnb] at h; exact h)
        | (rw [hs] at *; rw [xg_in (by assumption), ← hi.2.2 _ (i_ltn (by assumption) (by assumption) hl)] at h; exact h)
    · skip
      refine us_iload_n hR dX5_get_12 rfl ?_
      refine us_aload_n hR dX5_get_13 rfl ?_
      refine us_getR hR dX5_get_14 fR_6_9 hk.1 rfl hk.2.1 ?_
      refine us_alen hR dX5_get_17 hk.2.2.1 ?_
      refine us_icmp_ge hR dX5_get_18 30 (by decide) (fun c_18 => ?_) (fun c_18 => ?_)
      · skip
        refine us_iconst hR dX5_get_30 ?_
        refine us_iret hR dX5_get_31 rfl rfl ?_
        first
          | (rw [xg_neg (by assumption)] at h; exact h)
          | (rw [hs] at *; rw [xg_ge (m := xs.length) (by assumption) (Nat.le_refl _) hl] at h; exact h)
          | (rw [xg_ge (m := n) (by rw [← hn]; assumption) hi.2.1 hnb] at h; exact h)
          | (rw [hs] at *; rw [xg_in (by assumption), ← hi.2.2 _ (i_ltn (by assumption) (by assumption) hl)] at h; exact h)
      · skip
        refine us_aload_n hR dX5_get_21 rfl ?_
        refine us_getR hR dX5_get_22 fR_6_9 hk.1 rfl hk.2.1 ?_
        refine us_iload_n hR dX5_get_25 rfl ?_
        refine us_iaload hR dX5_get_26 hk.2.2.1 (by rw [show gN (gW G I) b = n from hn]; exact i_in c_1 (by rw [← hn]; exact c_18) hnb) ?_
        refine us_goto hR dX5_get_27 31 (by decide) ?_
        refine us_iret hR dX5_get_31 rfl rfl ?_
        first
          | (rw [xg_neg (by assumption)] at h; exact h)
          | (rw [hs] at *; rw [xg_ge (m := xs.length) (by assumption) (Nat.le_refl _) hl] at h; exact h)
          | (rw [xg_ge (m := n) (by rw [← hn]; assumption) hi.2.1 hnb] at h; exact h)
          | (rw [hs] at *; rw [xg_in (by assumption), ← hi.2.2 _ (i_ltn (by assumption) (by assumption) hl)] at h; exact h)
theorem IRow_set {I : Nat → Nat → Int32} {a b n : Nat} {xs : List Int32} {x v : Int32} (hab : a ≠ b) (hi : IRow I a b n xs) (h0 : ¬ x < 0) : IRow (u2 I b x.toNatClampNeg v) a b n (xset xs x v) := by
  unfold xset
  rw [if_neg h0]
  refine ⟨by rw [u2_n _ _ _ hab, List.length_set]; exact hi.1, by rw [List.length_set]; exact hi.2.1, fun i hl => ?_⟩
  rw [List.length_set] at hl
  rw [u2_s]
  dsimp only
  by_cases hx : i = x.toNatClampNeg
  · subst hx
    simp [hl]
  · rw [if_neg hx, hi.2.2 i hl]
    simp [List.getD_eq_getElem?_getD, List.getElem?_set_ne (Ne.symm hx)]
theorem xset_out {xs : List Int32} {x v : Int32} (h : x < 0 ∨ xs.length ≤ x.toNatClampNeg) : xset xs x v = xs := by
  unfold xset
  split
  · rfl
  · rename_i h0
    rcases h with h | h
    · exact absurd h h0
    · exact List.set_eq_of_length_le h
theorem Fr2_u {I : Nat → Nat → Int32} {a b k : Nat} {x : Int32} (c : Nat) (hc : c = a ∨ c = b) : Fr2 I (u2 I c k x) a b := by
  intro e h1 h2
  refine u2_n _ _ _ ?_
  rcases hc with rfl | rfl <;> assumption
theorem Fr2.tr {I I' I'' : Nat → Nat → Int32} {a b : Nat} (h : Fr2 I I' a b) (h' : Fr2 I' I'' a b) : Fr2 I I'' a b := fun c h1 h2 => (h' c h1 h2).trans (h c h1 h2)
theorem i_ge_n {x : Int32} {m k : Nat} (h : nI m ≤ x) (hm : m < 100000) (hk : k ≤ m) : k ≤ x.toNatClampNeg := by
  rw [i_le, nI_T hm] at h
  rw [i_cl]
  omega
theorem sp_Row_set {d : Nat} {G : ab_G} {I : Nat → Nat → Int32} {a b n : Nat} {xs : List Int32} {P : ab_Pq} {X : ab_Xq} (hk : KRow G a b n) (hi : IRow I a b n xs) {x v : Int32} (h : ∀ I', IRow I' a b n (xset xs x v) → Fr2 I I' a b → P (gW G I') none) : ab_Gam (d + 1) 6003 [.ref a, .int x, .int v] (gW G I) P X := by
  have hn : gN G b = n := hk.2.2.2.1
  have hnb : n < 100000 := hk.2.2.2.2.2
  have hab : a ≠ b := hk.2.2.2.2.1
  have hs : gI (gW G I) a 1 = nI xs.length := hi.1
  have hl : xs.length < 100000 := Nat.lt_of_le_of_lt hi.2.1 hnb
  refine ab_enter (I := i6003) rfl (Nat.le_of_ble_eq_true rfl) (fun R hR => ?_)
  refine us_iload_n hR dX5_set_0 rfl ?_
  refine us_if_lt hR dX5_set_1 28 (by decide) (fun c_1 => ?_) (fun c_1 => ?_)
  · skip
    refine us_vret hR dX5_set_28 rfl ?_
    first
      | exact h I (by rw [xset_out (Or.inl (by assumption))]; exact hi) (fun _ _ _ => rfl)
      | (rw [hs] at *; exact h I (by rw [xset_out (Or.inr (i_ge_n (by assumption) hl (Nat.le_refl _)))]; exact hi) (fun _ _ _ => rfl))
      | exact h I (by rw [xset_out (Or.inr (i_ge_n (m := n) (by rw [← hn]; assumption) hnb hi.2.1))]; exact hi) (fun _ _ _ => rfl)
      | exact h _ (IRow_set hab hi (by assumption)) (Fr2_u b (Or.inr rfl))
  · skip
    refine us_iload_n hR dX5_set_4 rfl ?_
    refine us_aload_n hR dX5_set_5 rfl ?_
    refine us_getI hR dX5_set_6 fR_6_15 hk.1 rfl ?_
    refine us_icmp_ge hR dX5_set_9 28 (by decide) (fun c_9 => ?_) (fun c_9 => ?_)
    · skip
      refine us_vret hR dX5_set_28 rfl ?_
      first
        | exact h I (by rw [xset_out (Or.inl (by assumption))]; exact hi) (fun _ _ _ => rfl)
        | (rw [hs] at *; exact h I (by rw [xset_out (Or.inr (i_ge_n (by assumption) hl (Nat.le_refl _)))]; exact hi) (fun _ _ _ => rfl))
        | exact h I (by rw [xset_out (Or.inr (i_ge_n (m := n) (by rw [← hn]; assumption) hnb hi.2.1))]; exact hi) (fun _ _ _ => rfl)
        | exact h _ (IRow_set hab hi (by assumption)) (Fr2_u b (Or.inr rfl))
    · skip
      refine us_iload_n hR dX5_set_12 rfl ?_
      refine us_aload_n hR dX5_set_13 rfl ?_
      refine us_getR hR dX5_set_14 fR_6_9 hk.1 rfl hk.2.1 ?_
      refine us_alen hR dX5_set_17 hk.2.2.1 ?_
      refine us_icmp_ge hR dX5_set_18 28 (by decide) (fun c_18 => ?_) (fun c_18 => ?_)
      · skip
        refine us_vret hR dX5_set_28 rfl ?_
        first
          | exact h I (by rw [xset_out (Or.inl (by assumption))]; exact hi) (fun _ _ _ => rfl)
          | (rw [hs] at *; exact h I (by rw [xset_out (Or.inr (i_ge_n (by assumption) hl (Nat.le_refl _)))]; exact hi) (fun _ _ _ => rfl))
          | exact h I (by rw [xset_out (Or.inr (i_ge_n (m := n) (by rw [← hn]; assumption) hnb hi.2.1))]; exact hi) (fun _ _ _ => rfl)
          | exact h _ (IRow_set hab hi (by assumption)) (Fr2_u b (Or.inr rfl))
      · skip
        refine us_aload_n hR dX5_set_21 rfl ?_
        refine us_getR hR dX5_set_22 fR_6_9 hk.1 rfl hk.2.1 ?_
        refine us_iload_n hR dX5_set_25 rfl ?_
        refine us_iload_n hR dX5_set_26 rfl ?_
        refine us_iastore hR dX5_set_27 hk.2.2.1 (by rw [show gN (gW G I) b = n from hn]; exact i_in c_1 (by rw [← hn]; exact c_18) hnb) ?_
        refine us_vret hR dX5_set_28 rfl ?_
        first
          | exact h I (by rw [xset_out (Or.inl (by assumption))]; exact hi) (fun _ _ _ => rfl)
          | (rw [hs] at *; exact h I (by rw [xset_out (Or.inr (i_ge_n (by assumption) hl (Nat.le_refl _)))]; exact hi) (fun _ _ _ => rfl))
          | exact h I (by rw [xset_out (Or.inr (i_ge_n (m := n) (by rw [← hn]; assumption) hnb hi.2.1))]; exact hi) (fun _ _ _ => rfl)
          | exact h _ (IRow_set hab hi (by assumption)) (Fr2_u b (Or.inr rfl))
