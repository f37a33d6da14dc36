/-! a step of the walker, token by token -/
section WST
variable {s : Sx} {O C V b vm vw wt : List Int32} {f x y t e p u v : Int32} {i : Nat}
theorem wst0 {j : Int32} : wst (cS s O C V b vm vw wt f x y t e p j 0) = some (f_10002 (cS s O C V b vm vw wt f x y t e p j 0)) := if_pos rfl
theorem wst1 {j : Int32} : wst (cS s O C V b vm vw wt f x y t e p j 1) = f_10005 (cS s O C V b vm vw wt f x y t e p j 1) := by
  unfold wst
  rw [cv13, if_neg (by decide), if_pos rfl]
theorem wst2 {j : Int32} : wst (cS s O C V b vm vw wt f x y t e p j 2) = f_10007 (cS s O C V b vm vw wt f x y t e p j 2) := by
  unfold wst
  rw [cv13, if_neg (by decide), if_neg (by decide)]
theorem w_k (hi : i < 1000) : xg ((cS s O C V b vm vw wt f x y t e p (nI i) u).1 0) ((cS s O C V b vm vw wt f x y t e p (nI i) u).2 12) = (s.1 0).getD i 0 := by
  rw [cb0, cv12, xg_n (by omega)]
theorem w_t (hi : i < 1000) : xg ((cS s O C V b vm vw wt f x y t e p (nI i) u).1 1) ((cS s O C V b vm vw wt f x y t e p (nI i) u).2 12) = (s.1 1).getD i 0 := by
  rw [cb1, cv12, xg_n (by omega)]
theorem w_k2 {j : Int32} {k : Nat} (hi : k < 1000) : xg ((cS s O C V b vm vw wt f x y t e p j u).1 0) (nI k) = (s.1 0).getD k 0 := by
  rw [cb0, xg_n (by omega)]
theorem w_t2 {j : Int32} {k : Nat} (hi : k < 1000) : xg ((cS s O C V b vm vw wt f x y t e p j u).1 1) (nI k) = (s.1 1).getD k 0 := by
  rw [cb1, xg_n (by omega)]
theorem w_nx (hi : i < 1000) : sV (cS s O C V b vm vw wt f x y t e p (nI i) u) 12 ((cS s O C V b vm vw wt f x y t e p (nI i) u).2 12 + 1) = cS s O C V b vm vw wt f x y t e p (nI (i + 1)) u := by
  rw [cv12, nI_p1 (by omega), cV12]
theorem nI_p2 {n : Nat} (h : n < 90000) : nI n + 2 = nI (n + 2) := by
  rw [show (2 : Int32) = 1 + 1 by decide, ← Int32.add_assoc, nJ_succ (by omega), nJ_succ (by omega)]
theorem w_nx2 (hi : i < 1000) : sV (cS s O C V b vm vw wt f x y t e p (nI i) u) 12 ((cS s O C V b vm vw wt f x y t e p (nI i) u).2 12 + 2) = cS s O C V b vm vw wt f x y t e p (nI (i + 2)) u := by
  rw [cv12, nI_p2 (by omega), cV12]
theorem w_add {j : Int32} (h : vw.length < 1650) : sB (cS s O C V b vm vw wt f x y t e p j u) 23 (xadd (ev_cap 23) ((cS s O C V b vm vw wt f x y t e p j u).1 23) v) = cS s O C V b vm (vw ++ [v]) wt f x y t e p j u := by
  rw [cb23, xadd_e (show vw.length < ev_cap 23 from h), cB23]
theorem w_addt {j : Int32} (h : wt.length < 1650) : sB (cS s O C V b vm vw wt f x y t e p j u) 24 (xadd (ev_cap 24) ((cS s O C V b vm vw wt f x y t e p j u).1 24) v) = cS s O C V b vm vw (wt ++ [v]) f x y t e p j u := by
  rw [cb24, xadd_e (show wt.length < ev_cap 24 from h), cB24]
theorem w_pop {α : Type} {j : Int32} {k : Sx → Int32 → α} : bT (sB (cS s O C V b vm (vw ++ [v]) wt f x y t e p j u) 23 ((cS s O C V b vm (vw ++ [v]) wt f x y t e p j u).1 23).dropLast, xlast ((cS s O C V b vm (vw ++ [v]) wt f x y t e p j u).1 23)) k = k (cS s O C V b vm vw wt f x y t e p j u) v := by
  rw [cb23, List.dropLast_concat, xlast_a, cB23, bT_eq]
theorem w_popt {α : Type} {j : Int32} {k : Sx → Int32 → α} : bT (sB (cS s O C V b vm vw (wt ++ [v]) f x y t e p j u) 24 ((cS s O C V b vm vw (wt ++ [v]) f x y t e p j u).1 24).dropLast, xlast ((cS s O C V b vm vw (wt ++ [v]) f x y t e p j u).1 24)) k = k (cS s O C V b vm vw wt f x y t e p j u) v := by
  rw [cb24, List.dropLast_concat, xlast_a, cB24, bT_eq]
-- statements
theorem W_end (hi : i < 1000) (hk : (s.1 0).getD i 0 = 0) : wst (cS s O C V b vm vw wt f x y t (-1) p (nI i) 0) = some (cS s O C V b vm vw wt f x y t 0 p (nI i) 0) := by
  rw [wst0]
  unfold f_10002
  rw [w_k hi, hk, if_pos rfl, r_stop, bS_eq]
theorem W_def {j : Int32} (hi : i < 1000) (hk : (s.1 0).getD i 0 = 10) (ht : (s.1 1).getD i 0 = j) : wst (cS s O C V b vm vw wt f x y t e p (nI i) 0) = some (cS s O C V b vm vw wt f x y t e p j 0) := by
  rw [wst0]
  unfold f_10002
  rw [w_k hi, hk, if_neg (by decide), if_pos rfl, w_t hi, ht, cV12, bS_eq]
theorem W_clw {o : Nat} (hi : i < 1000) (ho : o < 1000) (hk : (s.1 0).getD i 0 = 31) (ht : (s.1 1).getD i 0 = nI o) (hko : (s.1 0).getD o 0 = 7) : wst (cS s O C V b vm vw wt f x y t e p (nI i) 0) = some (cS s O C V b vm vw wt f x y t e p (nI o) 0) := by
  rw [wst0]
  unfold f_10002 f_10004
  rw [w_k hi, hk, if_neg (by decide), if_neg (by decide), if_pos rfl, w_t hi, ht, w_k2 ho, hko, if_pos rfl, cV12, bS_eq, bS_eq]
theorem W_cld {o z : Nat} (hi : i < 1000) (ho : o < 1000) (hk : (s.1 0).getD i 0 = 31) (ht : (s.1 1).getD i 0 = nI o) (hko : (s.1 0).getD o 0 = 10) (hl : vw.length < 1650) : wst (cS s O C V (b ++ [nI z]) vm vw wt f x y t e p (nI i) 0) = some (cS s O C V b vm (vw ++ [0]) wt f x y t e p (nI z) 2) := by
  rw [wst0]
  unfold f_10002 f_10004 f_10014
  rw [w_k hi, hk, if_neg (by decide), if_neg (by decide), if_pos rfl, w_t hi, ht, w_k2 ho, hko, if_neg (by decide), if_pos rfl, w_add hl]
  simp only [bS_eq]
  rw [r_leave, bT_eq, cV12, cV13]
theorem W_cli {o : Nat} {ko : Int32} (hi : i < 900) (ho : o < 1000) (hk : (s.1 0).getD i 0 = 31) (ht : (s.1 1).getD i 0 = nI o) (hko : (s.1 0).getD o 0 = ko) (h5 : ko = 5 ∨ ko = 6) (hn : (s.1 0).getD (i + 1) 0 ≠ 6) : wst (cS s O C V b vm vw wt f x y t e p (nI i) 0) = some (cS s O C V b vm vw wt f x y t e p (nI (i + 1)) 0) := by
  have n7 : ko ≠ 7 := by rcases h5 with q | q <;> subst q <;> decide
  have n10 : ko ≠ 10 := by rcases h5 with q | q <;> subst q <;> decide
  rw [wst0]
  unfold f_10002 f_10004
  rw [w_k (by omega), hk, if_neg (by decide), if_neg (by decide), if_pos rfl, w_t (by omega), ht, w_k2 ho, hko, if_neg n7, if_neg n10, w_nx (by omega)]
  simp only [bS_eq]
  rw [w_k (by omega), if_neg hn]
theorem W_cle {o j : Nat} {ko : Int32} (hi : i < 900) (ho : o < 1000) (hk : (s.1 0).getD i 0 = 31) (ht : (s.1 1).getD i 0 = nI o) (hko : (s.1 0).getD o 0 = ko) (h5 : ko = 5 ∨ ko = 6) (hn : (s.1 0).getD (i + 1) 0 = 6) (hj : (s.1 1).getD (i + 2) 0 = nI j) : wst (cS s O C V b vm vw wt f x y t e p (nI i) 0) = some (cS s O C V b vm vw wt f x y t e p (nI j) 0) := by
  have n7 : ko ≠ 7 := by rcases h5 with q | q <;> subst q <;> decide
  have n10 : ko ≠ 10 := by rcases h5 with q | q <;> subst q <;> decide
  rw [wst0]
  unfold f_10002 f_10004
  rw [w_k (by omega), hk, if_neg (by decide), if_neg (by decide), if_pos rfl, w_t (by omega), ht, w_k2 ho, hko, if_neg n7, if_neg n10, w_nx (by omega)]
  simp only [bS_eq]
  rw [w_k (by omega), if_pos hn, cv12, nI_p1 (by omega), w_t2 (by omega), hj, cV12]
def bk (k : Int32) : Prop := k ≠ 0 ∧ k ≠ 10 ∧ k ≠ 31
def dl (k : Int32) : Nat := if k = 34 then 2 else if k = 35 then 0 else 1
theorem W_beg0 {k : Int32} (hi : i < 1000) (hk : (s.1 0).getD i 0 = k) (hb : bk k) : wst (cS s O C V b vm vw wt (nI 0) x y t (-1) p (nI i) 0) = some (cS s O C V b vm vw wt (nI 0) x y t 1 p (nI i) 0) := by
  obtain ⟨h0, h1, h2⟩ := hb
  rw [wst0]
  unfold f_10002
  rw [w_k hi, hk, if_neg h0, if_neg h1, if_neg h2, r_take0, bT_eq, if_pos rfl]
theorem W_beg {k : Int32} {n : Nat} (hn : n < 90000) (hi : i < 1000) (hk : (s.1 0).getD i 0 = k) (hb : bk k) (hl : wt.length < 1650) : wst (cS s O C V b vm vw wt (nI (n + 1)) x y t (-1) p (nI i) 0) = some (cS s O C V b vm vw (wt ++ [nI i]) (nI n) x y t (-1) p (nI (i + dl k)) 1) := by
  obtain ⟨h0, h1, h2⟩ := hb
  rw [wst0]
  unfold f_10002 f_10003 dl
  rw [w_k hi, hk, if_neg h0, if_neg h1, if_neg h2, r_take hn, bT_eq, if_neg (by decide), cv12, w_addt hl]
  simp only [bS_eq]
  rw [cV13, w_k hi, hk]
  by_cases q : k = 34
  · rw [if_pos q, if_pos q, w_nx2 hi]
  rw [if_neg q, if_neg q]
  by_cases q : k = 35
  · rw [if_pos q, if_pos q]; rfl
  · rw [if_neg q, if_neg q, w_nx hi]
-- operands
theorem w_val (hi : i < 1000) (hl : vw.length < 1650) : f_10006 v (cS s O C V b vm vw wt f x y t e p (nI i) u) = cS s O C V b vm (vw ++ [v]) wt f x y t e p (nI (i + 1)) 2 := by
  unfold f_10006
  rw [w_add hl, bS_eq, w_nx hi, bS_eq, cV13, bS_eq]
theorem W_num {w : Int32} (hi : i < 1000) (hk : (s.1 0).getD i 0 = 3) (ht : (s.1 1).getD i 0 = w) (hl : vw.length < 1650) : wst (cS s O C V b vm vw wt f x y t e p (nI i) 1) = some (cS s O C V b vm (vw ++ [w]) wt f x y t e p (nI (i + 1)) 2) := by
  rw [wst1]
  unfold f_10005
  rw [w_k hi, hk, if_pos rfl, w_t hi, ht, w_val hi hl, bS_eq]
theorem W_in {n k : Nat} (hn : n < 90000) (h2 : k < 2) (hi : i < 1000) (hk : (s.1 0).getD i 0 = 9) (hl : vw.length < 1650) : wst (cS s O C V b vm vw wt (nI (n + 1)) x y (nI k) (-1) p (nI i) 1) = some (cS s O C V b vm (vw ++ [inp x y k]) wt (nI n) x y (nI (k + 1)) (-1) p (nI (i + 1)) 2) := by
  rw [wst1]
  unfold f_10005
  rw [w_k hi, hk, if_neg (by decide), if_pos rfl, r_inp hn h2, bT_eq, w_val hi hl, bS_eq]
theorem W_inx {n : Nat} (hn : n < 90000) (hi : i < 1000) (hk : (s.1 0).getD i 0 = 9) (hl : vw.length < 1650) : wst (cS s O C V b vm vw wt (nI (n + 1)) x y (nI 2) (-1) p (nI i) 1) = some (cS s O C V b vm (vw ++ [0]) wt (nI n) x y (nI 3) 5 p (nI (i + 1)) 2) := by
  rw [wst1]
  unfold f_10005
  rw [w_k hi, hk, if_neg (by decide), if_pos rfl, r_inp2 hn, bT_eq, w_val hi hl, bS_eq]
theorem W_inz (hi : i < 1000) (hk : (s.1 0).getD i 0 = 9) (hl : vw.length < 1650) : wst (cS s O C V b vm vw wt (nI 0) x y t (-1) p (nI i) 1) = some (cS s O C V b vm (vw ++ [0]) wt (nI 0) x y t 1 p (nI (i + 1)) 2) := by
  rw [wst1]
  unfold f_10005
  rw [w_k hi, hk, if_neg (by decide), if_pos rfl, r_inp0, bT_eq, w_val hi hl, bS_eq]
theorem W_var {v : Nat} (hi : i < 1000) (hk : (s.1 0).getD i 0 = 34) (ht : (s.1 1).getD i 0 = nI v) (hv : v < 8) (hb : b.length < 1000) (hl : vw.length < 1650) : wst (cS s O C V b vm vw wt f x y t e p (nI i) 1) = some (cS s O C V b vm (vw ++ [V.getD (8 * b.length + v) 0]) wt f x y t e p (nI (i + 1)) 2) := by
  rw [wst1]
  unfold f_10005
  rw [w_k hi, hk, if_neg (by decide), if_neg (by decide), if_pos rfl, w_t hi, ht, r_get hb hv, w_val hi hl, bS_eq]
theorem W_op {k : Int32} (hi : i < 1000) (hk : (s.1 0).getD i 0 = k) (h : k = 25 ∨ k = 26 ∨ k = 28 ∨ k = 36) (hl : wt.length < 1650) : wst (cS s O C V b vm vw wt f x y t e p (nI i) 1) = some (cS s O C V b vm vw (wt ++ [nI i]) f x y t e p (nI (i + 1)) 1) := by
  have n3 : k ≠ 3 := by rcases h with q | q | q | q <;> subst q <;> decide
  have n9 : k ≠ 9 := by rcases h with q | q | q | q <;> subst q <;> decide
  have n34 : k ≠ 34 := by rcases h with q | q | q | q <;> subst q <;> decide
  have n35 : k ≠ 35 := by rcases h with q | q | q | q <;> subst q <;> decide
  rw [wst1]
  unfold f_10005
  rw [w_k hi, hk, if_neg n3, if_neg n9, if_neg n34, if_neg n35, cv12, w_addt hl, bS_eq, w_nx hi, bS_eq]
theorem W_fn (hi : i < 900) (hk : (s.1 0).getD i 0 = 35) (h2 : (s.1 0).getD (i + 2) 0 ≠ 29) (hl : wt.length < 1650) : wst (cS s O C V b vm vw wt f x y t e p (nI i) 1) = some (cS s O C V b vm vw (wt ++ [nI (i + 1)]) f x y t e p (nI (i + 2)) 1) := by
  rw [wst1]
  unfold f_10005
  rw [w_k (by omega), hk, if_neg (by decide), if_neg (by decide), if_neg (by decide), if_pos rfl, cv12, nI_p1 (by omega), w_addt hl, bS_eq, w_nx2 (by omega), bS_eq, w_k (by omega), if_neg h2]
theorem W_fn0 (hi : i < 900) (hk : (s.1 0).getD i 0 = 35) (h2 : (s.1 0).getD (i + 2) 0 = 29) (hl : wt.length < 1650) : wst (cS s O C V b vm vw wt f x y t e p (nI i) 1) = bOv (f_10013 (cS s O C V b vm vw (wt ++ [nI (i + 1)]) f x y t e p (nI (i + 2)) 1)) fun s14 => some s14 := by
  rw [wst1]
  unfold f_10005
  rw [w_k (by omega), hk, if_neg (by decide), if_neg (by decide), if_neg (by decide), if_pos rfl, cv12, nI_p1 (by omega), w_addt hl, bS_eq, w_nx2 (by omega), bS_eq, w_k (by omega), if_pos h2]
-- calls
theorem w_par {l : Int32} {k' : Nat} (hb : b.length < 1000) (h11 : xg (s.1 11) l = nI k') (hk' : k' < 1000) : ∀ (k n : Nat) (V vw : List Int32) (j : Int32), k ≤ 8 → k < n → f_10013_L47 n l (nI k - 1) (cS s O C V b vm vw wt f x y t e p j u) = some (cS s O C (pv b.length k V vw).1 b vm (pv b.length k V vw).2 wt f x y t e p (nI (k' + 1)) 0) := by
  intro k
  induction k with
  | zero =>
    intro n V vw j hk hn
    obtain ⟨n, rfl⟩ : ∃ n', n = n' + 1 := ⟨n - 1, by omega⟩
    rw [f_10013_L47, if_pos (by decide)]
    unfold f_4014
    rw [cb11, h11, nI_p1 (by omega), cV12, bS_eq, cV13, bS_eq]
    rfl
  | succ k ih =>
    intro n V vw j hk hn
    obtain ⟨n, rfl⟩ : ∃ n', n = n' + 1 := ⟨n - 1, by omega⟩
    rw [f_10013_L47, nI_pp (by omega), if_neg (nI_nn (by omega)), cb23, cB23, bT_eq, r_set hb (by omega), bS_eq, nI_m1, ih n _ _ _ (by omega) (by omega)]
    rfl
theorem w_cz {k : Int32} : f_10013 (cS s O C V b vm vw (wt ++ [k]) (nI 0) x y t (-1) p (nI i) u) = some (cS s O C V b vm vw wt (nI 0) x y t 1 p (nI i) u) := by
  unfold f_10013
  rw [w_popt, r_enter0, bO_some, if_pos rfl]
theorem w_cx {n : Nat} {k : Int32} (hn : n < 90000) (hb : b.length = 10) : f_10013 (cS s O C V b vm vw (wt ++ [k]) (nI (n + 1)) x y t (-1) p (nI i) u) = some (cS s O C V b vm vw wt (nI n) x y t 7 p (nI i) u) := by
  unfold f_10013
  rw [w_popt, r_enter9 hn hb, bO_some, if_pos rfl]
theorem w_c {n k l k' q : Nat} (hn : n < 90000) (hb : b.length < 10) (hi : i < 1000) (hk : k < 1000) (ht : (s.1 1).getD k 0 = nI l) (hl : l < 1000) (h10 : (s.1 10).getD l 0 = nI q) (hq : q ≤ 8) (h11 : (s.1 11).getD l 0 = nI k') (hk' : k' < 1000) : f_10013 (cS s O C V b vm vw (wt ++ [nI (k + 1)]) (nI (n + 1)) x y t (-1) p (nI i) u) = some (cS s O C (pv (b.length + 1) q (z8 V (b.length + 1) 8) vw).1 (b ++ [nI (i + 1)]) vm (pv (b.length + 1) q (z8 V (b.length + 1) 8) vw).2 wt (nI n) x y t (-1) p (nI (k' + 1)) 0) := by
  have hb1 : (b ++ [nI (i + 1)]).length = b.length + 1 := by rw [List.length_append]; rfl
  have e10 : ∀ {V b f}, f_4013 (nI l) (cS s O C V b vm vw wt f x y t (-1) p (nI i) u) = nI q := fun {V b f} => by
    show xg (s.1 10) (nI l) = _
    rw [xg_n (by omega), h10]
  have hP := w_par (s := s) (O := O) (C := C) (b := b ++ [nI (i + 1)]) (vm := vm) (wt := wt) (f := nI n) (x := x) (y := y) (t := t) (e := -1) (p := p) (u := u) (l := nI l) (k' := k') (by omega) (by rw [xg_n (by omega), h11]) hk' q 400 (z8 V (b.length + 1) 8) vw (nI i) hq (by omega)
  unfold f_10013
  rw [w_popt, cv12, nI_p1 (by omega), r_enter hn hb, bO_some, if_neg (by decide), nI_pp (by omega), w_t2 hk, ht, e10, hP, hb1]
-- marks that wait
def F7 (kd lv : Int32) (o : Option Sx) : Option Sx :=
  bOv o fun s6 =>
  if (f_7002 s6) = 0 then
    some s6
  else
    if lv = 0 then
      bOv (f_10010 kd s6) fun s15 =>
      some s15
    else
      if kd = 23 then
        f_10007_J60 kd lv s6
      else
        if kd = 24 then
          f_10007_J60 kd lv s6
        else
          bS (sB s6 24 (xadd (ev_cap 24) (s6.1 24) (s6.2 12))) fun s12 =>
          bS (sV s12 12 ((s12.2 12) + 1)) fun s13 =>
          bS (sV s13 13 1) fun s14 =>
          some s14
theorem w_7 {kd : Int32} (hi : i < 1000) (hk : (s.1 0).getD i 0 = kd) : f_10007 (cS s O C V b vm vw wt f x y t e p (nI i) u) = F7 kd (lvK kd) (f_10008 (lvK kd) (cS s O C V b vm vw wt f x y t e p (nI i) u)) := by
  unfold f_10007 F7
  rw [w_k hi, hk, lvK_eq]
theorem L10_fu {l1 : Int32} : ∀ (k n n' : Nat) (S : Sx), k < 3000 → k < n → k < n' → f_10008_L10 n l1 (nI k - 1) S = f_10008_L10 n' l1 (nI k - 1) S := by
  intro k
  induction k with
  | zero =>
    intro n n' S _ h1 h2
    obtain ⟨n, rfl⟩ : ∃ z, n = z + 1 := ⟨n - 1, by omega⟩
    obtain ⟨n', rfl⟩ : ∃ z, n' = z + 1 := ⟨n' - 1, by omega⟩
    rw [f_10008_L10, f_10008_L10, if_pos (by decide), if_pos (by decide)]
  | succ k ih =>
    intro n n' S h0 h1 h2
    obtain ⟨n, rfl⟩ : ∃ z, n = z + 1 := ⟨n - 1, by omega⟩
    obtain ⟨n', rfl⟩ : ∃ z, n' = z + 1 := ⟨n' - 1, by omega⟩
    have hr : ∀ S, f_10008_L10 n l1 (nI k - 1) S = f_10008_L10 n' l1 (nI k - 1) S := fun S => ih n n' S (by omega) (by omega) (by omega)
    rw [f_10008_L10, f_10008_L10, nI_pp (by omega)]
    simp only [bT, bS, f_10008_J90, nI_m1, hr]
theorem w_e0 {w : List Int32} {j : Int32} (hw : w.length < 1700) : nI ((cS s O C V b vm vw (w ++ [v]) f x y t e p j u).1 24).length - 1 = nI w.length := by
  rw [cb24, List.length_append]
  exact nI_pp (by omega)
theorem w_e1 {w : List Int32} {j : Int32} (hw : w.length < 1700) : xg ((cS s O C V b vm vw (w ++ [v]) f x y t e p j u).1 24) (nI w.length) = v := by
  rw [cb24, xg_n (by omega)]; exact gD_app_r
/-- a level 0 or a weaker mark on top: nothing is done -/
theorem L10_st {w : List Int32} {k : Nat} {lv : Int32} {j : Int32} (hw : w.length < 1700) (hk : k < 1000) (h : lvK ((s.1 0).getD k 0) = 0 ∨ ¬ lv ≤ lvK ((s.1 0).getD k 0)) : f_10008 lv (cS s O C V b vm vw (w ++ [nI k]) f x y t (-1) p j u) = some (cS s O C V b vm vw (w ++ [nI k]) f x y t (-1) p j u) := by
  unfold f_10008
  rw [w_e0 hw, f_10008_L10, if_neg (nI_nn (by omega)), r_go, if_neg (by decide), w_e1 hw, w_k2 hk, lvK_eq]
  rcases h with h | h
  · rw [if_pos h]
  · rw [if_neg h]; exact ite_self _
theorem L10_un {w : List Int32} {k : Nat} {lv mk z : Int32} {j : Int32} {n : Nat} (hn : n < 90000) (hw : w.length < 1700) (hk : k < 1000) (hm : (s.1 0).getD k 0 = mk) (h7 : lvK mk = 7) (hl : lv ≤ 7) (hv : vw.length < 1650) (h23 : mk ≠ 23) (h24 : mk ≠ 24) :
    f_10008 lv (cS s O C V b vm (vw ++ [z]) (w ++ [nI k]) (nI (n + 1)) x y t (-1) p j u) = f_10008_L10 1999 lv (nI w.length - 1) (cS s O C V b vm (vw ++ [(o1 C mk z).2]) w (nI n) x y t (o1 C mk z).1 p j u) := by
  unfold f_10008
  rw [w_e0 hw, f_10008_L10, if_neg (nI_nn (by omega)), r_go, if_neg (show ¬ (1 : Int32) = 0 by decide), w_e1 hw, w_k2 hk, lvK_eq, hm, h7, if_neg (show ¬ (7 : Int32) = 0 by decide), if_pos hl]
  rw [w_popt, w_pop, if_neg h23, if_neg h24, if_pos rfl, r_one hn, bT_eq, w_add hv, bS_eq, nI_m1]
theorem L10_unz {w : List Int32} {k : Nat} {lv mk z : Int32} {j : Int32} (hw : w.length < 1700) (hk : k < 1000) (hm : (s.1 0).getD k 0 = mk) (h7 : lvK mk = 7) (hl : lv ≤ 7) (hv : vw.length < 1650) (h23 : mk ≠ 23) (h24 : mk ≠ 24) :
    f_10008 lv (cS s O C V b vm (vw ++ [z]) (w ++ [nI k]) (nI 0) x y t (-1) p j u) = f_10008_L10 1999 lv (nI w.length - 1) (cS s O C V b vm (vw ++ [0]) w (nI 0) x y t 1 p j u) := by
  unfold f_10008
  rw [w_e0 hw, f_10008_L10, if_neg (nI_nn (by omega)), r_go, if_neg (show ¬ (1 : Int32) = 0 by decide), w_e1 hw, w_k2 hk, lvK_eq, hm, h7, if_neg (show ¬ (7 : Int32) = 0 by decide), if_pos hl]
  rw [w_popt, w_pop, if_neg h23, if_neg h24, if_pos rfl, r_one0, bT_eq, w_add hv, bS_eq, nI_m1]
theorem L10_bi {w : List Int32} {k : Nat} {lv mk z z' : Int32} {j : Int32} {n : Nat} (hn : n < 90000) (hw : w.length < 1700) (hk : k < 1000) (hm : (s.1 0).getD k 0 = mk) (h0 : lvK mk ≠ 0) (h7 : lvK mk ≠ 7) (hl : lv ≤ lvK mk) (hv : vw.length < 1650) (h23 : mk ≠ 23) (h24 : mk ≠ 24) :
    f_10008 lv (cS s O C V b vm (vw ++ [z] ++ [z']) (w ++ [nI k]) (nI (n + 1)) x y t (-1) p j u) = f_10008_L10 1999 lv (nI w.length - 1) (cS s O C V b vm (vw ++ [(o2 mk z z').2]) w (nI n) x y t (o2 mk z z').1 p j u) := by
  unfold f_10008
  rw [w_e0 hw, f_10008_L10, if_neg (nI_nn (by omega)), r_go, if_neg (show ¬ (1 : Int32) = 0 by decide), w_e1 hw, w_k2 hk, lvK_eq, hm, if_neg h0, if_pos hl]
  rw [w_popt, w_pop, if_neg h23, if_neg h24, if_neg h7, w_pop, r_two hn, bT_eq, w_add hv, bS_eq, nI_m1]
theorem L10_biz {w : List Int32} {k : Nat} {lv mk z z' : Int32} {j : Int32} (hw : w.length < 1700) (hk : k < 1000) (hm : (s.1 0).getD k 0 = mk) (h0 : lvK mk ≠ 0) (h7 : lvK mk ≠ 7) (hl : lv ≤ lvK mk) (hv : vw.length < 1650) (h23 : mk ≠ 23) (h24 : mk ≠ 24) :
    f_10008 lv (cS s O C V b vm (vw ++ [z] ++ [z']) (w ++ [nI k]) (nI 0) x y t (-1) p j u) = f_10008_L10 1999 lv (nI w.length - 1) (cS s O C V b vm (vw ++ [0]) w (nI 0) x y t 1 p j u) := by
  unfold f_10008
  rw [w_e0 hw, f_10008_L10, if_neg (nI_nn (by omega)), r_go, if_neg (show ¬ (1 : Int32) = 0 by decide), w_e1 hw, w_k2 hk, lvK_eq, hm, if_neg h0, if_pos hl]
  rw [w_popt, w_pop, if_neg h23, if_neg h24, if_neg h7, w_pop, r_two0, bT_eq, w_add hv, bS_eq, nI_m1]
theorem L10_tr {w : List Int32} {k : Nat} {lv mk z : Int32} {j : Int32} (hw : w.length < 1700) (hk : k < 1000) (hm : (s.1 0).getD k 0 = mk) (hl : lv ≤ lvK mk) (hv : vw.length < 1650) (h2 : mk = 23 ∨ mk = 24) :
    f_10008 lv (cS s O C V b vm (vw ++ [z]) (w ++ [nI k]) f x y t (-1) p j u) = f_10008_L10 1999 lv (nI w.length - 1) (cS s O C V b vm (vw ++ [tr z]) w f x y t (-1) p j u) := by
  have h0 : lvK mk ≠ 0 := by rcases h2 with q | q <;> subst q <;> decide
  have hJ : ∀ l2 l3 l4 S, S = cS s O C V b vm vw w f x y t (-1) p j u → f_10008_J90 (f_10008_L10 1999) lv l2 l3 l4 z S = f_10008_L10 1999 lv (l2 + (-1)) (cS s O C V b vm (vw ++ [tr z]) w f x y t (-1) p j u) := by
    intro l2 l3 l4 S hS
    subst hS
    unfold f_10008_J90 tr
    by_cases c : z = 0
    · rw [if_pos c, if_pos c, w_add hv, bS_eq]
    · rw [if_neg c, if_neg c, w_add hv, bS_eq]
  unfold f_10008
  rw [w_e0 hw, f_10008_L10, if_neg (nI_nn (by omega)), r_go, if_neg (show ¬ (1 : Int32) = 0 by decide), w_e1 hw, w_k2 hk, lvK_eq, hm, if_neg h0, if_pos hl]
  rw [w_popt, w_pop]
  rcases h2 with q | q
  · rw [if_pos q, hJ _ _ _ _ rfl, nI_m1]
  · rw [if_neg (by rw [q]; decide), if_pos q, hJ _ _ _ _ rfl, nI_m1]
theorem L10_go {w : List Int32} {lv j : Int32} (hw : w.length < 1700) : f_10008_L10 1999 lv (nI w.length - 1) (cS s O C V b vm vw w f x y t e p j u) = f_10008 lv (cS s O C V b vm vw w f x y t e p j u) := by
  unfold f_10008
  rw [cb24]
  exact L10_fu _ _ _ _ (by omega) (by omega) (by omega)
theorem L10_en {w : List Int32} {lv j : Int32} (hw : w.length < 1700) (he : e ≠ -1) : f_10008_L10 1999 lv (nI w.length - 1) (cS s O C V b vm vw w f x y t e p j u) = some (cS s O C V b vm vw w f x y t e p j u) := by
  rw [f_10008_L10]
  by_cases c : nI w.length - 1 < 0
  · rw [if_pos c]
  · rw [if_neg c, if_pos (going.2 (show (cS s O C V b vm vw w f x y t e p j u).2 10 ≠ -1 from he))]
end WST
