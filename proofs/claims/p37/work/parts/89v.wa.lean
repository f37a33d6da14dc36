/-! the walker behind an operand: what a token does -/
section WAC
variable {s : Sx} {O C V b vm vw w : List Int32} {f x y t p v kd z : Int32} {i k : Nat}
def dk (kd : Int32) : Int32 := if kd = 24 then 1 else 0
/-- nothing to be done before this token -/
def StpW (s : Sx) (k : Nat) (kd : Int32) : Prop := lvK ((s.1 0).getD k 0) = 0 ∨ ¬ lvK kd ≤ lvK ((s.1 0).getD k 0)
theorem W_7 (hi : i < 1000) (hk : k < 1000) (hw : w.length < 1640) (hd : (s.1 0).getD i 0 = kd) (h : StpW s k kd) :
    wst (cS s O C V b vm vw (w ++ [nI k]) f x y t (-1) p (nI i) 2) = F7 kd (lvK kd) (some (cS s O C V b vm vw (w ++ [nI k]) f x y t (-1) p (nI i) 2)) := by
  rw [wst2, w_7 hi hd, L10_st (by omega) hk h]
theorem W_bin (hi : i < 1000) (hk : k < 1000) (hw : w.length < 1640) (hd : (s.1 0).getD i 0 = kd) (h : StpW s k kd) (h0 : lvK kd ≠ 0) (h23 : kd ≠ 23) (h24 : kd ≠ 24) :
    wst (cS s O C V b vm vw (w ++ [nI k]) f x y t (-1) p (nI i) 2) = some (cS s O C V b vm vw (w ++ [nI k] ++ [nI i]) f x y t (-1) p (nI (i + 1)) 1) := by
  rw [W_7 hi hk hw hd h]
  unfold F7
  rw [bOv_some, r_go, if_neg (by decide), if_neg h0, if_neg h23, if_neg h24, cv12, w_addt (by rw [List.length_append]; show w.length + 1 < 1650; omega)]
  simp only [bS_eq]
  rw [w_nx hi, cV13]
theorem W_decz (hi : i < 1000) (hk : k < 1000) (hw : w.length < 1640) (hd : (s.1 0).getD i 0 = kd) (h : StpW s k kd) (h2 : kd = 23 ∨ kd = 24) :
    wst (cS s O C V b vm vw (w ++ [nI k]) (nI 0) x y t (-1) p (nI i) 2) = some (cS s O C V b vm vw (w ++ [nI k]) (nI 0) x y t 1 p (nI i) 2) := by
  rw [W_7 hi hk hw hd h]
  unfold F7 f_10007_J60 f_10009
  rcases h2 with q | q
  · subst q
    rw [bOv_some, r_go, if_neg (by decide), if_neg (by decide), if_pos rfl, if_neg (by decide), r_take0, bT_eq, if_pos rfl, bS_eq]
  · subst q
    rw [bOv_some, r_go, if_neg (by decide), if_neg (by decide), if_neg (by decide), if_pos rfl, if_pos rfl, r_take0, bT_eq, if_pos rfl, bS_eq]
theorem w_dec {j : Int32} {wt : List Int32} (hi : i < 1000) (hj : j = 0 ∨ j = 1) (hl : vw.length < 1650) (hw : wt.length < 1650) (n : Nat) (hn : n < 90000) :
    f_10009 j (cS s O C V b vm (vw ++ [z]) wt (nI (n + 1)) x y t (-1) p (nI i) 2) = if tr z = j then cS s O C V b vm (vw ++ [j]) wt (nI n) x y t (-1) p ((s.1 1).getD i 0) 2 else cS s O C V b vm vw (wt ++ [nI i]) (nI n) x y t (-1) p (nI (i + 1)) 1 := by
  unfold f_10009 f_10009_J26 f_10009_J45
  rw [r_take hn, bT_eq, if_neg (by decide), w_pop]
  unfold tr
  rcases hj with q | q
  · subst q
    by_cases c : z = 0
    · rw [if_pos c, if_pos c, if_pos rfl, if_pos rfl, if_pos rfl, w_add hl]
      simp only [bS_eq]
      rw [w_t hi, cV12]
    · rw [if_neg c, if_neg c, if_neg (by decide), if_neg (by decide), cv12, w_addt hw]
      simp only [bS_eq]
      rw [w_nx hi, cV13]
  · subst q
    by_cases c : z = 0
    · rw [if_pos c, if_pos c, if_neg (by decide), if_neg (by decide), cv12, w_addt hw]
      simp only [bS_eq]
      rw [w_nx hi, cV13]
    · rw [if_neg c, if_neg c, if_pos rfl, if_neg (by decide), if_pos rfl, w_add hl]
      simp only [bS_eq]
      rw [w_t hi, cV12]
theorem W_dec {n : Nat} (hn : n < 90000) (hi : i < 1000) (hk : k < 1000) (hw : w.length < 1640) (hd : (s.1 0).getD i 0 = kd) (h : StpW s k kd) (h2 : kd = 23 ∨ kd = 24) (hl : vw.length < 1650) :
    wst (cS s O C V b vm (vw ++ [z]) (w ++ [nI k]) (nI (n + 1)) x y t (-1) p (nI i) 2) = some (if tr z = dk kd then cS s O C V b vm (vw ++ [dk kd]) (w ++ [nI k]) (nI n) x y t (-1) p ((s.1 1).getD i 0) 2 else cS s O C V b vm vw (w ++ [nI k] ++ [nI i]) (nI n) x y t (-1) p (nI (i + 1)) 1) := by
  have hw' : (w ++ [nI k]).length < 1650 := by rw [List.length_append]; show w.length + 1 < 1650; omega
  rw [W_7 hi hk hw hd h]
  unfold F7 f_10007_J60
  rcases h2 with q | q
  · subst q
    rw [bOv_some, r_go, if_neg (by decide), if_neg (by decide), if_pos rfl, if_neg (by decide), w_dec hi (Or.inl rfl) hl hw' n hn, bS_eq]
    rfl
  · subst q
    rw [bOv_some, r_go, if_neg (by decide), if_neg (by decide), if_neg (by decide), if_pos rfl, if_pos rfl, w_dec hi (Or.inr rfl) hl hw' n hn, bS_eq]
    rfl
theorem w_top {u j : Int32} (hk : k < 1000) : xg ((cS s O C V b vm vw (w ++ [nI k]) f x y t (-1) p j u).1 0) (xlast ((cS s O C V b vm vw (w ++ [nI k]) f x y t (-1) p j u).1 24)) = (s.1 0).getD k 0 := by
  rw [cb24, xlast_a, w_k2 hk]
theorem W_com (hi : i < 1000) (hk : k < 1000) (hw : w.length < 1640) (hd : (s.1 0).getD i 0 = kd) (h : lvK ((s.1 0).getD k 0) = 0) (h2 : kd = 32 ∨ kd = 27) :
    wst (cS s O C V b vm vw (w ++ [nI k]) f x y t (-1) p (nI i) 2) = some (cS s O C V b vm vw (w ++ [nI k]) f x y t (-1) p (nI (i + 1)) 1) := by
  rw [W_7 hi hk hw hd (Or.inl h)]
  unfold F7 f_10010 f_10010_J20
  have hl : lvK kd = 0 := by rcases h2 with q | q <;> subst q <;> decide
  rw [bOv_some, r_go, if_neg (by decide), if_pos hl]
  rcases h2 with q | q
  · subst q
    rw [if_pos rfl, w_nx hi]
    simp only [bS_eq]
    rw [cV13, bOv_some]
  · subst q
    rw [if_neg (by decide), if_pos rfl, w_nx hi]
    simp only [bS_eq]
    rw [cV13, bOv_some]
theorem W_cal (hi : i < 1000) (hk : k < 1000) (hw : w.length < 1640) (hd : (s.1 0).getD i 0 = 29) (h : (s.1 0).getD k 0 = 38) :
    wst (cS s O C V b vm vw (w ++ [nI k]) f x y t (-1) p (nI i) 2) = bOv (f_10013 (cS s O C V b vm vw (w ++ [nI k]) f x y t (-1) p (nI i) 2)) fun s15 => some s15 := by
  rw [W_7 hi hk hw hd (Or.inl (by rw [h]; decide))]
  unfold F7 f_10010
  rw [bOv_some, r_go, if_neg (by decide), if_pos (show lvK 29 = 0 by decide), if_neg (by decide), if_neg (by decide), w_top hk, if_pos h]
  cases f_10013 (cS s O C V b vm vw (w ++ [nI k]) f x y t (-1) p (nI i) 2) <;> rfl
theorem W_clo (hi : i < 1000) (hk : k < 1000) (hw : w.length < 1640) (hd : (s.1 0).getD i 0 = 29) (h : (s.1 0).getD k 0 = 28) :
    wst (cS s O C V b vm vw (w ++ [nI k]) f x y t (-1) p (nI i) 2) = some (cS s O C V b vm vw w f x y t (-1) p (nI (i + 1)) 2) := by
  rw [W_7 hi hk hw hd (Or.inl (by rw [h]; decide))]
  unfold F7 f_10010
  rw [bOv_some, r_go, if_neg (by decide), if_pos (show lvK 29 = 0 by decide), if_neg (by decide), if_neg (by decide), w_top hk, if_neg (by rw [h]; decide)]
  rw [w_popt, cb24, xlast_a, w_k2 hk, if_pos h, w_nx hi]
  rfl
/-- a statement ends -/
theorem W_stm {K : Int32} (hi : i < 1000) (hk : k < 1000) (hw : w.length < 1640) (hd : (s.1 0).getD i 0 = kd) (h3 : kd = 33 ∨ kd = 30) (h : (s.1 0).getD k 0 = K) (hK : lvK K = 0 ∧ K ≠ 38 ∧ K ≠ 28) :
    wst (cS s O C V b vm (vw ++ [z]) (w ++ [nI k]) f x y t (-1) p (nI i) 2) = some (f_10011 (nI k) z (cS s O C V b vm vw w f x y t (-1) p (nI i) 0)) := by
  have hl : lvK kd = 0 := by rcases h3 with q | q <;> subst q <;> decide
  rw [W_7 hi hk hw hd (Or.inl (by rw [h]; exact hK.1))]
  unfold F7 f_10010
  rw [bOv_some, r_go, if_neg (by decide), if_pos hl, if_neg (by rcases h3 with q | q <;> subst q <;> decide), if_neg (by rcases h3 with q | q <;> subst q <;> decide), w_top hk, h, if_neg hK.2.1]
  rw [w_popt, cb24, xlast_a, w_k2 hk, h, if_neg hK.2.2, cV13, bS_eq, w_pop, bS_eq, bOv_some]
theorem W_if {j : Nat} (hi : i < 1000) (hk : k < 1000) (hj : j < 1000) (hw : w.length < 1640) (hd : (s.1 0).getD i 0 = 30) (h : (s.1 0).getD k 0 = 5) (ht : (s.1 1).getD i 0 = nI j) :
    wst (cS s O C V b vm (vw ++ [z]) (w ++ [nI k]) f x y t (-1) p (nI i) 2) = some (cS s O C V b vm vw w f x y t (-1) p (if z = 0 then (if (s.1 0).getD j 0 = 6 then nI (j + 2) else nI j) else nI (i + 1)) 0) := by
  rw [W_stm hi hk hw hd (Or.inr rfl) h (by decide)]
  unfold f_10011 f_10012
  rw [w_k2 hk, h, if_pos rfl]
  by_cases c : z = 0
  · rw [if_pos c, if_pos c, w_t hi, ht, w_k2 hj]
    by_cases c2 : (s.1 0).getD j 0 = 6
    · rw [if_pos c2, if_pos c2, nI_p2 (by omega), cV12, bS_eq]
    · rw [if_neg c2, if_neg c2, cV12, bS_eq]
  · rw [if_neg c, if_neg c, w_nx hi, bS_eq]
theorem W_wh {j : Int32} (hi : i < 1000) (hk : k < 1000) (hw : w.length < 1640) (hd : (s.1 0).getD i 0 = 30) (h : (s.1 0).getD k 0 = 7) (ht : (s.1 1).getD i 0 = j) :
    wst (cS s O C V b vm (vw ++ [z]) (w ++ [nI k]) f x y t (-1) p (nI i) 2) = some (cS s O C V b vm vw w f x y t (-1) p (if z = 0 then j else nI (i + 1)) 0) := by
  rw [W_stm hi hk hw hd (Or.inr rfl) h (by decide)]
  unfold f_10011
  rw [w_k2 hk, h, if_neg (by decide), if_pos rfl]
  by_cases c : z = 0
  · rw [if_pos c, if_pos c, w_t hi, ht, cV12, bS_eq]
  · rw [if_neg c, if_neg c, w_nx hi, bS_eq]
theorem W_out (hi : i < 1000) (hk : k < 1000) (hw : w.length < 1640) (hd : (s.1 0).getD i 0 = 33) (h : (s.1 0).getD k 0 = 8) (hO : O.length < 8) :
    wst (cS s O C V b vm (vw ++ [z]) (w ++ [nI k]) f x y t (-1) p (nI i) 2) = some (cS s (O ++ [z]) C V b vm vw w f x y t (-1) p (nI (i + 1)) 0) := by
  rw [W_stm hi hk hw hd (Or.inl rfl) h (by decide)]
  unfold f_10011
  rw [w_k2 hk, h, if_neg (by decide), if_neg (by decide), if_pos rfl, r_put hO, bS_eq, w_nx hi, bS_eq]
theorem W_outx (hi : i < 1000) (hk : k < 1000) (hw : w.length < 1640) (hd : (s.1 0).getD i 0 = 33) (h : (s.1 0).getD k 0 = 8) (hO : O.length = 8) :
    wst (cS s O C V b vm (vw ++ [z]) (w ++ [nI k]) f x y t (-1) p (nI i) 2) = some (cS s O C V b vm vw w f x y t 6 p (nI (i + 1)) 0) := by
  rw [W_stm hi hk hw hd (Or.inl rfl) h (by decide)]
  unfold f_10011
  rw [w_k2 hk, h, if_neg (by decide), if_neg (by decide), if_pos rfl, r_put8 hO, bS_eq, w_nx hi, bS_eq]
theorem W_ret {j : Nat} (hi : i < 1000) (hk : k < 1000) (hw : w.length < 1640) (hd : (s.1 0).getD i 0 = 33) (h : (s.1 0).getD k 0 = 11) (hl : vw.length < 1650) :
    wst (cS s O C V (b ++ [nI j]) vm (vw ++ [z]) (w ++ [nI k]) f x y t (-1) p (nI i) 2) = some (cS s O C V b vm (vw ++ [z]) w f x y t (-1) p (nI j) 2) := by
  rw [W_stm hi hk hw hd (Or.inl rfl) h (by decide)]
  unfold f_10011 f_10014
  rw [w_k2 hk, h, if_neg (by decide), if_neg (by decide), if_neg (by decide), if_pos rfl, w_add hl]
  simp only [bS_eq]
  rw [r_leave, bT_eq, cV12, cV13]
theorem W_set {v : Nat} (hi : i < 1000) (hk : k < 1000) (hw : w.length < 1640) (hd : (s.1 0).getD i 0 = 33) (h : (s.1 0).getD k 0 = 34) (ht : (s.1 1).getD k 0 = nI v) (hv : v < 8) (hb : b.length < 1000) :
    wst (cS s O C V b vm (vw ++ [z]) (w ++ [nI k]) f x y t (-1) p (nI i) 2) = some (cS s O C (V.set (8 * b.length + v) z) b vm vw w f x y t (-1) p (nI (i + 1)) 0) := by
  rw [W_stm hi hk hw hd (Or.inl rfl) h (by decide)]
  unfold f_10011
  rw [w_k2 hk, h, if_neg (by decide), if_neg (by decide), if_neg (by decide), if_neg (by decide), if_pos rfl, w_t2 hk, ht, r_set hb hv, bS_eq, w_nx hi, bS_eq]
theorem W_cel {n : Nat} (hn : n < 32) (hi : i < 1000) (hk : k < 1000) (hw : w.length < 1640) (hd : (s.1 0).getD i 0 = 33) (h : (s.1 0).getD k 0 = 37) :
    wst (cS s O C V b vm (vw ++ [nI n] ++ [z]) (w ++ [nI k]) f x y t (-1) p (nI i) 2) = some (cS s O (C.set n z) V b vm vw w f x y t (-1) p (nI (i + 1)) 0) := by
  rw [W_stm hi hk hw hd (Or.inl rfl) h (by decide)]
  unfold f_10011
  rw [w_k2 hk, h, if_neg (by decide), if_neg (by decide), if_neg (by decide), if_neg (by decide), if_neg (by decide), if_pos rfl, w_pop, r_cell hn, bS_eq, w_nx hi, bS_eq]
theorem W_celx {n : Int32} (hn : n < 0 ∨ ¬ n < 32) (hi : i < 1000) (hk : k < 1000) (hw : w.length < 1640) (hd : (s.1 0).getD i 0 = 33) (h : (s.1 0).getD k 0 = 37) :
    wst (cS s O C V b vm (vw ++ [n] ++ [z]) (w ++ [nI k]) f x y t (-1) p (nI i) 2) = some (cS s O C V b vm vw w f x y t 4 p (nI (i + 1)) 0) := by
  rw [W_stm hi hk hw hd (Or.inl rfl) h (by decide)]
  unfold f_10011
  rw [w_k2 hk, h, if_neg (by decide), if_neg (by decide), if_neg (by decide), if_neg (by decide), if_neg (by decide), if_pos rfl, w_pop, r_cell_no hn, bS_eq, w_nx hi, bS_eq]
theorem W_drp (hi : i < 1000) (hk : k < 1000) (hw : w.length < 1640) (hd : (s.1 0).getD i 0 = 33) (h : (s.1 0).getD k 0 = 35) :
    wst (cS s O C V b vm (vw ++ [z]) (w ++ [nI k]) f x y t (-1) p (nI i) 2) = some (cS s O C V b vm vw w f x y t (-1) p (nI (i + 1)) 0) := by
  rw [W_stm hi hk hw hd (Or.inl rfl) h (by decide)]
  unfold f_10011
  rw [w_k2 hk, h, if_neg (by decide), if_neg (by decide), if_neg (by decide), if_neg (by decide), if_neg (by decide), if_neg (by decide), w_nx hi, bS_eq]
end WAC
