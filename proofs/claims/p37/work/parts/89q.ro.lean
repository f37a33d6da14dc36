/-! what a run does: both ways of the class -/
section RUNOP
variable {s : Sx} {O C V b vm vw wt : List Int32} {f x y t e p i u : Int32}
theorem nI_p1 {n : Nat} (h : n < 90000) : nI n + 1 = nI (n + 1) := nJ_succ (by omega)
theorem r_go : f_7002 (cS s O C V b vm vw wt f x y t (-1) p i u) = 1 := if_pos rfl
theorem r_stop {k : Int32} : f_7008 k (cS s O C V b vm vw wt f x y t (-1) p i u) = cS s O C V b vm vw wt f x y t k p i u := by
  unfold f_7008
  rw [if_pos (show (cS s O C V b vm vw wt f x y t (-1) p i u).2 10 = -1 from rfl), bS_eq, cV10]
theorem r_take0 : f_7009 (cS s O C V b vm vw wt (nI 0) x y t (-1) p i u) = (cS s O C V b vm vw wt (nI 0) x y t 1 p i u, 0) := by
  unfold f_7009
  rw [if_neg (show ¬ (1 : Int32) ≤ (cS s O C V b vm vw wt (nI 0) x y t (-1) p i u).2 6 by show ¬ (1 : Int32) ≤ nI 0; decide), r_stop, bS_eq]
  congr 1
theorem r_take {n : Nat} (h : n < 90000) : f_7009 (cS s O C V b vm vw wt (nI (n + 1)) x y t (-1) p i u) = (cS s O C V b vm vw wt (nI n) x y t (-1) p i u, 1) := by
  unfold f_7009
  have h1 : (1 : Int32) ≤ (cS s O C V b vm vw wt (nI (n + 1)) x y t (-1) p i u).2 6 := by
    show (1 : Int32) ≤ nI (n + 1)
    rw [i_le, nI_T (by omega), i_1]; omega
  rw [if_pos h1, cv6, nJ_pred (by omega) (by omega), cV6, bS_eq, show n + 1 - 1 = n from rfl, r_go]
def inp (x y : Int32) (t : Nat) : Int32 := if t = 0 then x else y
theorem r_inp {n k : Nat} (h : n < 90000) (hk : k < 2) : f_7010 (cS s O C V b vm vw wt (nI (n + 1)) x y (nI k) (-1) p i u) = (cS s O C V b vm vw wt (nI n) x y (nI (k + 1)) (-1) p i u, inp x y k) := by
  unfold f_7010
  rw [r_take h, bT_eq, if_neg (by decide), cv9, nI_p1 (by omega), cV9, bS_eq]
  rcases (show k = 0 ∨ k = 1 by omega) with e | e
  · subst e
    rw [if_pos (show (cS s O C V b vm vw wt (nI n) x y (nI (0 + 1)) (-1) p i u).2 9 ≤ 2 by show nI (0 + 1) ≤ 2; decide), if_pos (show (cS s O C V b vm vw wt (nI n) x y (nI (0 + 1)) (-1) p i u).2 9 = 1 by show nI (0 + 1) = 1; decide)]
    rfl
  · subst e
    rw [if_pos (show (cS s O C V b vm vw wt (nI n) x y (nI (1 + 1)) (-1) p i u).2 9 ≤ 2 by show nI (1 + 1) ≤ 2; decide), if_neg (show ¬ (cS s O C V b vm vw wt (nI n) x y (nI (1 + 1)) (-1) p i u).2 9 = 1 by show ¬ nI (1 + 1) = 1; decide)]
    rfl
theorem r_inp2 {n : Nat} (h : n < 90000) : f_7010 (cS s O C V b vm vw wt (nI (n + 1)) x y (nI 2) (-1) p i u) = (cS s O C V b vm vw wt (nI n) x y (nI 3) 5 p i u, 0) := by
  unfold f_7010
  rw [r_take h, bT_eq, if_neg (by decide), cv9, nI_p1 (by omega), cV9, bS_eq]
  rw [if_neg (show ¬ (cS s O C V b vm vw wt (nI n) x y (nI (2 + 1)) (-1) p i u).2 9 ≤ 2 by show ¬ nI (2 + 1) ≤ 2; decide), r_stop, bS_eq]
theorem r_inp0 {k : Int32} : f_7010 (cS s O C V b vm vw wt (nI 0) x y k (-1) p i u) = (cS s O C V b vm vw wt (nI 0) x y k 1 p i u, 0) := by
  unfold f_7010
  rw [r_take0, bT_eq, if_pos rfl]
theorem r_put {v : Int32} (h : O.length < 8) : f_7011 v (cS s O C V b vm vw wt f x y t e p i u) = cS s (O ++ [v]) C V b vm vw wt f x y t e p i u := by
  unfold f_7011
  rw [if_pos (show nI ((cS s O C V b vm vw wt f x y t e p i u).1 18).length < 8 by show nI O.length < 8; rw [i_lt, nI_T (by omega), show (8 : Int32).toInt = 8 by decide]; omega), cb18, xadd_e (show O.length < ev_cap 18 from h), cB18, bS_eq]
theorem r_put8 {v : Int32} (h : O.length = 8) : f_7011 v (cS s O C V b vm vw wt f x y t (-1) p i u) = cS s O C V b vm vw wt f x y t 6 p i u := by
  unfold f_7011
  rw [if_neg (show ¬ nI ((cS s O C V b vm vw wt f x y t (-1) p i u).1 18).length < 8 by show ¬ nI O.length < 8; rw [h]; decide), r_stop, bS_eq]
theorem r_cell {n : Nat} {v : Int32} (h : n < 32) : f_7012 (nI n) v (cS s O C V b vm vw wt f x y t e p i u) = cS s O (C.set n v) V b vm vw wt f x y t e p i u := by
  unfold f_7012
  rw [if_neg (nI_nn (by omega)), if_pos (show nI n < 32 by rw [i_lt, nI_T (by omega), show (32 : Int32).toInt = 32 by decide]; omega), cb19, xset_n (by omega), cB19, bS_eq]
theorem cell_or (z : Int32) : (∃ n, n < 32 ∧ z = nI n) ∨ (z < 0 ∨ ¬ z < 32) := by
  by_cases h : z < 0
  · exact Or.inr (Or.inl h)
  by_cases h2 : z < 32
  · rw [i_lt, i_0] at h
    rw [i_lt, show (32 : Int32).toInt = 32 by decide] at h2
    exact Or.inl ⟨z.toInt.toNat, by omega, by rw [i_eq, nI_T (by omega)]; omega⟩
  · exact Or.inr (Or.inr h2)
theorem r_cell_no {z v : Int32} (h : z < 0 ∨ ¬ z < 32) : f_7012 z v (cS s O C V b vm vw wt f x y t (-1) p i u) = cS s O C V b vm vw wt f x y t 4 p i u := by
  unfold f_7012 f_7012_J10
  rw [r_stop, bS_eq]
  rcases h with h | h
  · rw [if_pos h]
  · rw [if_neg h, ite_self]
theorem v_at {D v : Nat} (hD : D < 1000) (hv : v < 8) : nI D * 8 + nI v = nI (8 * D + v) := by
  have h1 : (nI D * 8).toInt = D * 8 := by
    rw [Int32.toInt_mul, nI_T (by omega), show (8 : Int32).toInt = 8 by decide, Int.bmod_eq_of_le (by omega) (by omega)]
  rw [i_eq, Int32.toInt_add, h1, nI_T (by omega), nI_T (by omega), Int.bmod_eq_of_le (by omega) (by omega)]
  omega
theorem v_at' {D v : Nat} (hD : D < 1000) (hv : v < 8) : 8 * nI D + nI v = nI (8 * D + v) := by
  rw [Int32.mul_comm]; exact v_at hD hv
theorem r_get {v : Nat} (hb : b.length < 1000) (hv : v < 8) : f_7013 (nI v) (cS s O C V b vm vw wt f x y t e p i u) = V.getD (8 * b.length + v) 0 := by
  unfold f_7013
  rw [cb20, cb21, v_at hb hv, xg_n (by omega)]
theorem r_set {v : Nat} {z : Int32} (hb : b.length < 1000) (hv : v < 8) : f_7014 (nI v) z (cS s O C V b vm vw wt f x y t e p i u) = cS s O C (V.set (8 * b.length + v) z) b vm vw wt f x y t e p i u := by
  unfold f_7014
  rw [cb20, cb21, v_at hb hv, xset_n (by omega), cB20, bS_eq]
def z8 (V : List Int32) (D : Nat) : Nat → List Int32
  | 0 => V
  | k + 1 => z8 (V.set (8 * D + (7 - k)) 0) D k
theorem r_zero {z : Int32} (hb : b.length < 1000) : ∀ (k n : Nat) (V : List Int32), k ≤ 8 → k < n → f_7015_L39 n z (nI (8 - k)) (cS s O C V b vm vw wt f x y t e p i u) = some (cS s O C (z8 V b.length k) b vm vw wt f x y t e p i u, 1) := by
  intro k
  induction k with
  | zero =>
    intro n V hk hn
    obtain ⟨n, rfl⟩ : ∃ n', n = n' + 1 := ⟨n - 1, by omega⟩
    rw [f_7015_L39, if_pos (by decide)]
    rfl
  | succ k ih =>
    intro n V hk hn
    obtain ⟨n, rfl⟩ : ∃ n', n = n' + 1 := ⟨n - 1, by omega⟩
    rw [f_7015_L39, if_neg (by rw [i_le, nI_T (by omega), show (8 : Int32).toInt = 8 by decide]; omega), r_set hb (by omega), bS_eq, nI_p1 (by omega), show 8 - (k + 1) + 1 = 8 - k by omega, ih n _ (by omega) (by omega)]
    show some (cS s O C (z8 (V.set (8 * b.length + (8 - (k + 1))) 0) b.length k) b vm vw wt f x y t e p i u, (1 : Int32)) = some (cS s O C (z8 (V.set (8 * b.length + (7 - k)) 0) b.length k) b vm vw wt f x y t e p i u, (1 : Int32))
    rw [show 8 - (k + 1) = 7 - k by omega]
theorem r_enter {n : Nat} {z : Int32} (h : n < 90000) (hb : b.length < 10) : f_7015 z (cS s O C V b vm vw wt (nI (n + 1)) x y t (-1) p i u) = some (cS s O C (z8 V (b.length + 1) 8) (b ++ [z]) vm vw wt (nI n) x y t (-1) p i u, 1) := by
  unfold f_7015
  rw [r_take h, bT_eq, if_neg (by decide), if_pos (show nI ((cS s O C V b vm vw wt (nI n) x y t (-1) p i u).1 21).length < 10 by show nI b.length < 10; rw [i_lt, nI_T (by omega), show (10 : Int32).toInt = 10 by decide]; omega), cb21, xadd_e (show b.length < ev_cap 21 from hb), cB21, bS_eq]
  have := r_zero (s := s) (O := O) (C := C) (b := b ++ [z]) (vm := vm) (vw := vw) (wt := wt) (f := nI n) (x := x) (y := y) (t := t) (e := -1) (p := p) (i := i) (u := u) (z := z) (by rw [List.length_append]; show b.length + 1 < 1000; omega) 8 20 V (by omega) (by omega)
  rw [show (nI (8 - 8) : Int32) = 0 by decide, List.length_append] at this
  exact this
theorem r_enter0 {z : Int32} : f_7015 z (cS s O C V b vm vw wt (nI 0) x y t (-1) p i u) = some (cS s O C V b vm vw wt (nI 0) x y t 1 p i u, 0) := by
  unfold f_7015
  rw [r_take0, bT_eq, if_pos rfl]
theorem r_enter9 {n : Nat} {z : Int32} (h : n < 90000) (hb : b.length = 10) : f_7015 z (cS s O C V b vm vw wt (nI (n + 1)) x y t (-1) p i u) = some (cS s O C V b vm vw wt (nI n) x y t 7 p i u, 0) := by
  unfold f_7015
  rw [r_take h, bT_eq, if_neg (by decide), if_neg (show ¬ nI ((cS s O C V b vm vw wt (nI n) x y t (-1) p i u).1 21).length < 10 by show ¬ nI b.length < 10; rw [hb]; decide), r_stop, bS_eq]
theorem xlast_a {l : List Int32} {z : Int32} : xlast (l ++ [z]) = z := by
  unfold xlast
  rw [List.length_append]
  exact gD_app_r
theorem r_leave {z : Int32} : f_7016 (cS s O C V (b ++ [z]) vm vw wt f x y t e p i u) = (cS s O C V b vm vw wt f x y t e p i u, z) := by
  unfold f_7016
  rw [cb21, List.dropLast_concat, xlast_a, cB21, bT_eq]
/-- what comes of a sum too large for an int -/
def ck (z : Int64) : Int32 × Int32 := if lg_cmp z (-2147483648) < 0 then (2, 0) else if lg_cmp z 2147483647 ≤ 0 then (-1, z.toInt32) else (2, 0)
theorem r_ck {z : Int64} : f_7019 z (cS s O C V b vm vw wt f x y t (-1) p i u) = (cS s O C V b vm vw wt f x y t (ck z).1 p i u, (ck z).2) := by
  unfold f_7019 f_7019_J16 ck
  rw [r_stop, bS_eq]
  by_cases h : lg_cmp z (-2147483648) < 0
  · rw [if_pos h, if_pos h]
  · rw [if_neg h, if_neg h]
    by_cases h2 : lg_cmp z 2147483647 ≤ 0
    · rw [if_pos h2, if_pos h2]
    · rw [if_neg h2, if_neg h2]
def o1 (C : List Int32) (k v : Int32) : Int32 × Int32 :=
  if k = 25 then (-1, if v = 0 then 1 else 0) else if k = 36 then ck (-v.toInt64) else if v < 0 then (4, xg C v) else if v < 32 then (-1, xg C v) else (4, xg C v)
theorem r_one {n : Nat} {k v : Int32} (h : n < 90000) : f_7017 k v (cS s O C V b vm vw wt (nI (n + 1)) x y t (-1) p i u) = (cS s O C V b vm vw wt (nI n) x y t (o1 C k v).1 p i u, (o1 C k v).2) := by
  unfold f_7017 f_7017_J64 f_7017_J69 o1
  rw [r_take h, bT_eq, if_neg (by decide)]
  by_cases h1 : k = 25
  · rw [if_pos h1, if_pos h1]
    by_cases h2 : v = 0
    · rw [if_pos h2, if_pos h2]
    · rw [if_neg h2, if_neg h2]
  rw [if_neg h1, if_neg h1]
  by_cases h2 : k = 36
  · rw [if_pos h2, if_pos h2, r_ck, bT_eq]
  rw [if_neg h2, if_neg h2, r_stop, bS_eq]
  by_cases h3 : v < 0
  · rw [if_pos h3, if_pos h3]
    rfl
  rw [if_neg h3, if_neg h3]
  by_cases h4 : v < 32
  · rw [if_pos h4, if_pos h4]
    rfl
  · rw [if_neg h4, if_neg h4]
    rfl
theorem r_one0 {k v : Int32} : f_7017 k v (cS s O C V b vm vw wt (nI 0) x y t (-1) p i u) = (cS s O C V b vm vw wt (nI 0) x y t 1 p i u, 0) := by
  unfold f_7017
  rw [r_take0, bT_eq, if_pos rfl]
def o2 (k v w : Int32) : Int32 × Int32 :=
  if k = 12 then ck (v.toInt64 + w.toInt64) else if k = 13 then ck (v.toInt64 - w.toInt64) else if k = 14 then ck (v.toInt64 * w.toInt64)
  else if k = 15 then (if w = 0 then (3, 0) else ck (v.toInt64 / w.toInt64)) else if k = 16 then (if w = 0 then (3, 0) else ck (v.toInt64 - v.toInt64 / w.toInt64 * w.toInt64))
  else if k = 17 then (-1, if w ≤ v then 0 else 1) else if k = 18 then (-1, if w < v then 0 else 1) else if k = 19 then (-1, if v ≤ w then 0 else 1) else if k = 20 then (-1, if v < w then 0 else 1)
  else if k = 21 then (-1, if v = w then 1 else 0) else (-1, if v = w then 0 else 1)
theorem r_two {n : Nat} {k v w : Int32} (h : n < 90000) : f_7018 k v w (cS s O C V b vm vw wt (nI (n + 1)) x y t (-1) p i u) = (cS s O C V b vm vw wt (nI n) x y t (o2 k v w).1 p i u, (o2 k v w).2) := by
  unfold f_7018 o2
  rw [r_take h, bT_eq, if_neg (by decide)]
  by_cases h1 : k = 12
  · rw [if_pos h1, if_pos h1, r_ck, bT_eq]
  rw [if_neg h1, if_neg h1]
  by_cases h2 : k = 13
  · rw [if_pos h2, if_pos h2, r_ck, bT_eq]
  rw [if_neg h2, if_neg h2]
  by_cases h3 : k = 14
  · rw [if_pos h3, if_pos h3, r_ck, bT_eq]
  rw [if_neg h3, if_neg h3]
  by_cases h4 : k = 15
  · rw [if_pos h4, if_pos h4]
    unfold f_7018_J94
    rw [r_stop, bS_eq]
    by_cases h5 : w = 0
    · rw [if_pos h5, if_pos h5]
    · rw [if_neg h5, if_neg h5, if_pos h4, r_ck, bT_eq]
  rw [if_neg h4, if_neg h4]
  by_cases h5 : k = 16
  · rw [if_pos h5, if_pos h5]
    unfold f_7018_J94
    rw [r_stop, bS_eq]
    by_cases h6 : w = 0
    · rw [if_pos h6, if_pos h6]
    · rw [if_neg h6, if_neg h6, if_neg h4, r_ck, bT_eq]
  rw [if_neg h5, if_neg h5]
  by_cases h6 : k = 17
  · rw [if_pos h6, if_pos h6]
    by_cases h7 : w ≤ v
    · rw [if_pos h7, if_pos h7]
    · rw [if_neg h7, if_neg h7]
  rw [if_neg h6, if_neg h6]
  by_cases h6 : k = 18
  · rw [if_pos h6, if_pos h6]
    by_cases h7 : w < v
    · rw [if_pos h7, if_pos h7]
    · rw [if_neg h7, if_neg h7]
  rw [if_neg h6, if_neg h6]
  by_cases h6 : k = 19
  · rw [if_pos h6, if_pos h6]
    by_cases h7 : v ≤ w
    · rw [if_pos h7, if_pos h7]
    · rw [if_neg h7, if_neg h7]
  rw [if_neg h6, if_neg h6]
  by_cases h6 : k = 20
  · rw [if_pos h6, if_pos h6]
    by_cases h7 : v < w
    · rw [if_pos h7, if_pos h7]
    · rw [if_neg h7, if_neg h7]
  rw [if_neg h6, if_neg h6]
  by_cases h6 : k = 21
  · rw [if_pos h6, if_pos h6]
    by_cases h7 : v = w
    · rw [if_pos h7, if_pos h7]
    · rw [if_neg h7, if_neg h7]
  rw [if_neg h6, if_neg h6]
  by_cases h7 : v = w
  · rw [if_pos h7, if_pos h7]
  · rw [if_neg h7, if_neg h7]
theorem r_two0 {k v w : Int32} : f_7018 k v w (cS s O C V b vm vw wt (nI 0) x y t (-1) p i u) = (cS s O C V b vm vw wt (nI 0) x y t 1 p i u, 0) := by
  unfold f_7018
  rw [r_take0, bT_eq, if_pos rfl]
end RUNOP
