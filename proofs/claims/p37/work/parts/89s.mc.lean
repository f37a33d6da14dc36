/-! a step of the class's machine, code by code -/
section MST
variable {s : Sx} {O C V b vm vw wt : List Int32} {f x y t e p i u w : Int32} {c : Nat}
theorem nI_m1 {k : Nat} : nI k + (-1) = nI k - 1 := by
  rw [Int32.sub_eq_add_neg]
theorem nI_pp {k : Nat} (h : k + 1 < 90000) : nI (k + 1) - 1 = nI k := by
  rw [nJ_pred (by omega) (by omega)]; rfl
def pv (D : Nat) : Nat → List Int32 → List Int32 → List Int32 × List Int32
  | 0, V, vs => (V, vs)
  | p + 1, V, vs => pv D p (V.set (8 * D + p) (xlast vs)) vs.dropLast
theorem mst_lo {k : Int32} (hc : c < 1000) (h7 : (s.1 7).getD c 0 = k) (h8 : (s.1 8).getD c 0 = w) (hk : ¬ 11 ≤ k) : mst (cS s O C V b vm vw wt f x y t e (nI c) i u) = some (f_3002 k w (cS s O C V b vm vw wt f x y t e (nI (c + 1)) i u)) := by
  have e7 : f_4007 ((cS s O C V b vm vw wt f x y t e (nI c) i u).2 11) (cS s O C V b vm vw wt f x y t e (nI c) i u) = k := by
    show xg (s.1 7) (nI c) = k
    rw [xg_n (by omega), h7]
  have e8 : f_4008 ((cS s O C V b vm vw wt f x y t e (nI c) i u).2 11) (cS s O C V b vm vw wt f x y t e (nI c) i u) = w := by
    show xg (s.1 8) (nI c) = w
    rw [xg_n (by omega), h8]
  unfold mst
  rw [e7, e8, if_neg hk, cv11, nI_p1 (by omega), cV11]
theorem mst_hi {k : Int32} (hc : c < 1000) (h7 : (s.1 7).getD c 0 = k) (h8 : (s.1 8).getD c 0 = w) (hk : 11 ≤ k) : mst (cS s O C V b vm vw wt f x y t e (nI c) i u) = f_3003 k w (cS s O C V b vm vw wt f x y t e (nI (c + 1)) i u) := by
  have e7 : f_4007 ((cS s O C V b vm vw wt f x y t e (nI c) i u).2 11) (cS s O C V b vm vw wt f x y t e (nI c) i u) = k := by
    show xg (s.1 7) (nI c) = k
    rw [xg_n (by omega), h7]
  have e8 : f_4008 ((cS s O C V b vm vw wt f x y t e (nI c) i u).2 11) (cS s O C V b vm vw wt f x y t e (nI c) i u) = w := by
    show xg (s.1 8) (nI c) = w
    rw [xg_n (by omega), h8]
  unfold mst
  rw [e7, e8, if_pos hk, cv11, nI_p1 (by omega), cV11]
theorem c_add {v : Int32} (h : vm.length < 1650) : sB (cS s O C V b vm vw wt f x y t e p i u) 22 (xadd (ev_cap 22) ((cS s O C V b vm vw wt f x y t e p i u).1 22) v) = cS s O C V b (vm ++ [v]) vw wt f x y t e p i u := by
  rw [cb22, xadd_e (show vm.length < ev_cap 22 from h), cB22]
theorem c_pop {α : Type} {v : Int32} {k : Sx → Int32 → α} : bT (sB (cS s O C V b (vm ++ [v]) vw wt f x y t e p i u) 22 ((cS s O C V b (vm ++ [v]) vw wt f x y t e p i u).1 22).dropLast, xlast ((cS s O C V b (vm ++ [v]) vw wt f x y t e p i u).1 22)) k = k (cS s O C V b vm vw wt f x y t e p i u) v := by
  rw [cb22, List.dropLast_concat, xlast_a, cB22, bT_eq]
theorem mc0z (hc : c < 1000) (h7 : (s.1 7).getD c 0 = 0) : mst (cS s O C V b vm vw wt (nI 0) x y t (-1) (nI c) i u) = some (cS s O C V b vm vw wt (nI 0) x y t 1 (nI (c + 1)) i u) := by
  rw [mst_lo hc h7 rfl (by decide)]
  unfold f_3002
  rw [if_pos rfl, r_take0, bT_eq]
theorem mc0 {n : Nat} (hn : n < 90000) (hc : c < 1000) (h7 : (s.1 7).getD c 0 = 0) : mst (cS s O C V b vm vw wt (nI (n + 1)) x y t (-1) (nI c) i u) = some (cS s O C V b vm vw wt (nI n) x y t (-1) (nI (c + 1)) i u) := by
  rw [mst_lo hc h7 rfl (by decide)]
  unfold f_3002
  rw [if_pos rfl, r_take hn, bT_eq]
theorem mc1 (hc : c < 1000) (h7 : (s.1 7).getD c 0 = 1) (h8 : (s.1 8).getD c 0 = w) (hl : vm.length < 1650) : mst (cS s O C V b vm vw wt f x y t e (nI c) i u) = some (cS s O C V b (vm ++ [w]) vw wt f x y t e (nI (c + 1)) i u) := by
  rw [mst_lo hc h7 h8 (by decide)]
  unfold f_3002
  rw [if_neg (by decide), if_pos rfl, c_add hl, bS_eq]
theorem mc2 {v : Nat} (hc : c < 1000) (h7 : (s.1 7).getD c 0 = 2) (h8 : (s.1 8).getD c 0 = nI v) (hv : v < 8) (hb : b.length < 1000) (hl : vm.length < 1650) : mst (cS s O C V b vm vw wt f x y t e (nI c) i u) = some (cS s O C V b (vm ++ [V.getD (8 * b.length + v) 0]) vw wt f x y t e (nI (c + 1)) i u) := by
  rw [mst_lo hc h7 h8 (by decide)]
  unfold f_3002
  rw [if_neg (by decide), if_neg (by decide), if_pos rfl, r_get hb hv, c_add hl, bS_eq]
theorem mc3 {v : Nat} {z : Int32} (hc : c < 1000) (h7 : (s.1 7).getD c 0 = 3) (h8 : (s.1 8).getD c 0 = nI v) (hv : v < 8) (hb : b.length < 1000) : mst (cS s O C V b (vm ++ [z]) vw wt f x y t e (nI c) i u) = some (cS s O C (V.set (8 * b.length + v) z) b vm vw wt f x y t e (nI (c + 1)) i u) := by
  rw [mst_lo hc h7 h8 (by decide)]
  unfold f_3002
  rw [if_neg (by decide), if_neg (by decide), if_neg (by decide), if_pos rfl, c_pop, r_set hb hv, bS_eq]
theorem mc4 {n : Nat} {z : Int32} (hn : n < 32) (hc : c < 1000) (h7 : (s.1 7).getD c 0 = 4) : mst (cS s O C V b (vm ++ [nI n] ++ [z]) vw wt f x y t e (nI c) i u) = some (cS s O (C.set n z) V b vm vw wt f x y t e (nI (c + 1)) i u) := by
  rw [mst_lo hc h7 rfl (by decide)]
  unfold f_3002
  rw [if_neg (by decide), if_neg (by decide), if_neg (by decide), if_neg (by decide), if_pos rfl, c_pop, c_pop, r_cell hn, bS_eq]
theorem mc4x {n : Int32} {z : Int32} (hn : n < 0 ∨ ¬ n < 32) (hc : c < 1000) (h7 : (s.1 7).getD c 0 = 4) : mst (cS s O C V b (vm ++ [n] ++ [z]) vw wt f x y t (-1) (nI c) i u) = some (cS s O C V b vm vw wt f x y t 4 (nI (c + 1)) i u) := by
  rw [mst_lo hc h7 rfl (by decide)]
  unfold f_3002
  rw [if_neg (by decide), if_neg (by decide), if_neg (by decide), if_neg (by decide), if_pos rfl, c_pop, c_pop, r_cell_no hn, bS_eq]
theorem mc5 {n k : Nat} (hn : n < 90000) (hk : k < 2) (hc : c < 1000) (h7 : (s.1 7).getD c 0 = 5) (hl : vm.length < 1650) : mst (cS s O C V b vm vw wt (nI (n + 1)) x y (nI k) (-1) (nI c) i u) = some (cS s O C V b (vm ++ [inp x y k]) vw wt (nI n) x y (nI (k + 1)) (-1) (nI (c + 1)) i u) := by
  rw [mst_lo hc h7 rfl (by decide)]
  unfold f_3002
  rw [if_neg (by decide), if_neg (by decide), if_neg (by decide), if_neg (by decide), if_neg (by decide), if_pos rfl, r_inp hn hk, bT_eq, c_add hl, bS_eq]
theorem mc5x {n : Nat} (hn : n < 90000) (hc : c < 1000) (h7 : (s.1 7).getD c 0 = 5) (hl : vm.length < 1650) : mst (cS s O C V b vm vw wt (nI (n + 1)) x y (nI 2) (-1) (nI c) i u) = some (cS s O C V b (vm ++ [0]) vw wt (nI n) x y (nI 3) 5 (nI (c + 1)) i u) := by
  rw [mst_lo hc h7 rfl (by decide)]
  unfold f_3002
  rw [if_neg (by decide), if_neg (by decide), if_neg (by decide), if_neg (by decide), if_neg (by decide), if_pos rfl, r_inp2 hn, bT_eq, c_add hl, bS_eq]
theorem mc5z {k : Int32} (hc : c < 1000) (h7 : (s.1 7).getD c 0 = 5) (hl : vm.length < 1650) : mst (cS s O C V b vm vw wt (nI 0) x y k (-1) (nI c) i u) = some (cS s O C V b (vm ++ [0]) vw wt (nI 0) x y k 1 (nI (c + 1)) i u) := by
  rw [mst_lo hc h7 rfl (by decide)]
  unfold f_3002
  rw [if_neg (by decide), if_neg (by decide), if_neg (by decide), if_neg (by decide), if_neg (by decide), if_pos rfl, r_inp0, bT_eq, c_add hl, bS_eq]
theorem mc6 {z : Int32} (hO : O.length < 8) (hc : c < 1000) (h7 : (s.1 7).getD c 0 = 6) : mst (cS s O C V b (vm ++ [z]) vw wt f x y t e (nI c) i u) = some (cS s (O ++ [z]) C V b vm vw wt f x y t e (nI (c + 1)) i u) := by
  rw [mst_lo hc h7 rfl (by decide)]
  unfold f_3002
  rw [if_neg (by decide), if_neg (by decide), if_neg (by decide), if_neg (by decide), if_neg (by decide), if_neg (by decide), if_pos rfl, c_pop, r_put hO, bS_eq]
theorem mc6x {z : Int32} (hO : O.length = 8) (hc : c < 1000) (h7 : (s.1 7).getD c 0 = 6) : mst (cS s O C V b (vm ++ [z]) vw wt f x y t (-1) (nI c) i u) = some (cS s O C V b vm vw wt f x y t 6 (nI (c + 1)) i u) := by
  rw [mst_lo hc h7 rfl (by decide)]
  unfold f_3002
  rw [if_neg (by decide), if_neg (by decide), if_neg (by decide), if_neg (by decide), if_neg (by decide), if_neg (by decide), if_pos rfl, c_pop, r_put8 hO, bS_eq]
theorem mc7 {z : Int32} (hc : c < 1000) (h7 : (s.1 7).getD c 0 = 7) : mst (cS s O C V b (vm ++ [z]) vw wt f x y t e (nI c) i u) = some (cS s O C V b vm vw wt f x y t e (nI (c + 1)) i u) := by
  rw [mst_lo hc h7 rfl (by decide)]
  unfold f_3002
  rw [if_neg (by decide), if_neg (by decide), if_neg (by decide), if_neg (by decide), if_neg (by decide), if_neg (by decide), if_neg (by decide), if_pos rfl, c_pop]
theorem mc8 {n : Nat} {z : Int32} (hn : n < 90000) (hc : c < 1000) (h7 : (s.1 7).getD c 0 = 8) (h8 : (s.1 8).getD c 0 = w) (hl : vm.length < 1650) : mst (cS s O C V b (vm ++ [z]) vw wt (nI (n + 1)) x y t (-1) (nI c) i u) = some (cS s O C V b (vm ++ [(o1 C w z).2]) vw wt (nI n) x y t (o1 C w z).1 (nI (c + 1)) i u) := by
  rw [mst_lo hc h7 h8 (by decide)]
  unfold f_3002
  rw [if_neg (by decide), if_neg (by decide), if_neg (by decide), if_neg (by decide), if_neg (by decide), if_neg (by decide), if_neg (by decide), if_neg (by decide), if_pos rfl, c_pop, r_one hn, bT_eq, c_add hl, bS_eq]
theorem mc8z {z : Int32} (hc : c < 1000) (h7 : (s.1 7).getD c 0 = 8) (hl : vm.length < 1650) : mst (cS s O C V b (vm ++ [z]) vw wt (nI 0) x y t (-1) (nI c) i u) = some (cS s O C V b (vm ++ [0]) vw wt (nI 0) x y t 1 (nI (c + 1)) i u) := by
  rw [mst_lo hc h7 rfl (by decide)]
  unfold f_3002
  rw [if_neg (by decide), if_neg (by decide), if_neg (by decide), if_neg (by decide), if_neg (by decide), if_neg (by decide), if_neg (by decide), if_neg (by decide), if_pos rfl, c_pop, r_one0, bT_eq, c_add hl, bS_eq]
theorem mc9 {n : Nat} {z z' : Int32} (hn : n < 90000) (hc : c < 1000) (h7 : (s.1 7).getD c 0 = 9) (h8 : (s.1 8).getD c 0 = w) (hl : vm.length < 1650) : mst (cS s O C V b (vm ++ [z] ++ [z']) vw wt (nI (n + 1)) x y t (-1) (nI c) i u) = some (cS s O C V b (vm ++ [(o2 w z z').2]) vw wt (nI n) x y t (o2 w z z').1 (nI (c + 1)) i u) := by
  rw [mst_lo hc h7 h8 (by decide)]
  unfold f_3002
  rw [if_neg (by decide), if_neg (by decide), if_neg (by decide), if_neg (by decide), if_neg (by decide), if_neg (by decide), if_neg (by decide), if_neg (by decide), if_neg (by decide), if_pos rfl, c_pop, c_pop, r_two hn, bT_eq, c_add hl, bS_eq]
theorem mc9z {z z' : Int32} (hc : c < 1000) (h7 : (s.1 7).getD c 0 = 9) (hl : vm.length < 1650) : mst (cS s O C V b (vm ++ [z] ++ [z']) vw wt (nI 0) x y t (-1) (nI c) i u) = some (cS s O C V b (vm ++ [0]) vw wt (nI 0) x y t 1 (nI (c + 1)) i u) := by
  rw [mst_lo hc h7 rfl (by decide)]
  unfold f_3002
  rw [if_neg (by decide), if_neg (by decide), if_neg (by decide), if_neg (by decide), if_neg (by decide), if_neg (by decide), if_neg (by decide), if_neg (by decide), if_neg (by decide), if_pos rfl, c_pop, c_pop, r_two0, bT_eq, c_add hl, bS_eq]
def tr (z : Int32) : Int32 := if z = 0 then 0 else 1
theorem mc10 {z : Int32} (hc : c < 1000) (h7 : (s.1 7).getD c 0 = 10) (hl : vm.length < 1650) : mst (cS s O C V b (vm ++ [z]) vw wt f x y t e (nI c) i u) = some (cS s O C V b (vm ++ [tr z]) vw wt f x y t e (nI (c + 1)) i u) := by
  rw [mst_lo hc h7 rfl (by decide)]
  unfold f_3002 tr
  rw [if_neg (by decide), if_neg (by decide), if_neg (by decide), if_neg (by decide), if_neg (by decide), if_neg (by decide), if_neg (by decide), if_neg (by decide), if_neg (by decide), if_neg (by decide), c_pop]
  by_cases h : z = 0
  · rw [if_pos h, if_pos h, c_add hl, bS_eq]
  · rw [if_neg h, if_neg h, c_add hl, bS_eq]
/-- what decides: 0 of &&, 1 of || -/
def dc (k : Int32) : Int32 := if k = 12 then 1 else 0
theorem mc11z {k z : Int32} (hk : k = 11 ∨ k = 12) (hc : c < 1000) (h7 : (s.1 7).getD c 0 = k) : mst (cS s O C V b (vm ++ [z]) vw wt (nI 0) x y t (-1) (nI c) i u) = some (cS s O C V b (vm ++ [z]) vw wt (nI 0) x y t 1 (nI (c + 1)) i u) := by
  rw [mst_hi hc h7 rfl (by rcases hk with q | q <;> subst q <;> decide)]
  unfold f_3003 f_3003_J40
  rw [r_take0, bT_eq, if_pos rfl]
  rcases hk with q | q
  · rw [if_pos q]
  · subst q
    rw [if_neg (by decide), if_pos rfl]
theorem c_dec {k z : Int32} (hk : k = 0 ∨ k = 1) (hl : vm.length < 1650) : f_3004 k w (cS s O C V b (vm ++ [z]) vw wt f x y t e p i u) = if tr z = k then cS s O C V b (vm ++ [k]) vw wt f x y t e w i u else cS s O C V b vm vw wt f x y t e p i u := by
  unfold f_3004 f_3004_J15 f_3004_J34 tr
  rw [c_pop]
  rcases hk with q | q
  · subst q
    by_cases h : z = 0
    · rw [if_pos h, if_pos h, if_pos rfl, if_pos rfl, if_pos rfl, c_add hl, bS_eq, cV11, bS_eq]
    · rw [if_neg h, if_neg h, if_neg (by decide), if_neg (by decide)]
  · subst q
    by_cases h : z = 0
    · rw [if_pos h, if_pos h, if_neg (by decide), if_neg (by decide)]
    · rw [if_neg h, if_neg h, if_pos rfl, if_neg (by decide), if_pos rfl, c_add hl, bS_eq, cV11, bS_eq]
theorem mc11 {n : Nat} {k z : Int32} (hn : n < 90000) (hk : k = 11 ∨ k = 12) (hc : c < 1000) (h7 : (s.1 7).getD c 0 = k) (h8 : (s.1 8).getD c 0 = w) (hl : vm.length < 1650) : mst (cS s O C V b (vm ++ [z]) vw wt (nI (n + 1)) x y t (-1) (nI c) i u) = some (if tr z = dc k then cS s O C V b (vm ++ [dc k]) vw wt (nI n) x y t (-1) w i u else cS s O C V b vm vw wt (nI n) x y t (-1) (nI (c + 1)) i u) := by
  rw [mst_hi hc h7 h8 (by rcases hk with q | q <;> subst q <;> decide)]
  unfold f_3003 f_3003_J40
  rw [r_take hn, bT_eq, if_neg (show ¬ (1 : Int32) = 0 by decide)]
  rcases hk with q | q
  · subst q
    rw [if_pos rfl, if_neg (by decide), c_dec (Or.inl rfl) hl, bS_eq]
    rfl
  · subst q
    rw [if_neg (by decide), if_pos rfl, if_pos rfl, c_dec (Or.inr rfl) hl, bS_eq]
    rfl
theorem mc13 (hc : c < 1000) (h7 : (s.1 7).getD c 0 = 13) (h8 : (s.1 8).getD c 0 = w) : mst (cS s O C V b vm vw wt f x y t e (nI c) i u) = some (cS s O C V b vm vw wt f x y t e w i u) := by
  rw [mst_hi hc h7 h8 (by decide)]
  unfold f_3003
  rw [if_neg (by decide), if_neg (by decide), if_pos rfl, cV11, bS_eq]
theorem mc14 {z : Int32} (hc : c < 1000) (h7 : (s.1 7).getD c 0 = 14) (h8 : (s.1 8).getD c 0 = w) : mst (cS s O C V b (vm ++ [z]) vw wt f x y t e (nI c) i u) = some (cS s O C V b vm vw wt f x y t e (if z = 0 then w else nI (c + 1)) i u) := by
  rw [mst_hi hc h7 h8 (by decide)]
  unfold f_3003
  rw [if_neg (by decide), if_neg (by decide), if_neg (by decide), if_pos rfl, c_pop]
  by_cases h : z = 0
  · rw [if_pos h, if_pos h, cV11, bS_eq]
  · rw [if_neg h, if_neg h, cv11, cV11, bS_eq]
theorem mc16 {z : Nat} (hc : c < 1000) (h7 : (s.1 7).getD c 0 = 16) : mst (cS s O C V (b ++ [nI z]) vm vw wt f x y t e (nI c) i u) = some (cS s O C V b vm vw wt f x y t e (nI z) i u) := by
  rw [mst_hi hc h7 rfl (by decide)]
  unfold f_3003
  rw [if_neg (by decide), if_neg (by decide), if_neg (by decide), if_neg (by decide), if_neg (by decide), if_pos rfl, r_leave, bT_eq, cV11, bS_eq]
theorem mc17 (hc : c < 1000) (h7 : (s.1 7).getD c 0 = 17) : mst (cS s O C V b vm vw wt f x y t (-1) (nI c) i u) = some (cS s O C V b vm vw wt f x y t 0 (nI (c + 1)) i u) := by
  rw [mst_hi hc h7 rfl (by decide)]
  unfold f_3003
  rw [if_neg (by decide), if_neg (by decide), if_neg (by decide), if_neg (by decide), if_neg (by decide), if_neg (by decide), r_stop, bS_eq]
theorem c_par {l : Int32} (hb : b.length < 1000) : ∀ (k n : Nat) (V vm : List Int32), k ≤ 8 → k < n → f_3005_L25 n l (nI k - 1) (cS s O C V b vm vw wt f x y t e p i u) = some (cS s O C (pv b.length k V vm).1 b (pv b.length k V vm).2 vw wt f x y t e (xg (s.1 12) l) i u) := by
  intro k
  induction k with
  | zero =>
    intro n V vm hk hn
    obtain ⟨n, rfl⟩ : ∃ n', n = n' + 1 := ⟨n - 1, by omega⟩
    rw [f_3005_L25, if_pos (by decide), cV11, bS_eq]
    rfl
  | succ k ih =>
    intro n V vm hk hn
    obtain ⟨n, rfl⟩ : ∃ n', n = n' + 1 := ⟨n - 1, by omega⟩
    rw [f_3005_L25, nI_pp (by omega), if_neg (nI_nn (by omega)), cb22, cB22, bT_eq, r_set hb (by omega), bS_eq, nI_m1, ih n _ _ (by omega) (by omega)]
    rfl
theorem mc15z (hc : c < 1000) (h7 : (s.1 7).getD c 0 = 15) : mst (cS s O C V b vm vw wt (nI 0) x y t (-1) (nI c) i u) = some (cS s O C V b vm vw wt (nI 0) x y t 1 (nI (c + 1)) i u) := by
  rw [mst_hi hc h7 rfl (by decide)]
  unfold f_3003 f_3005
  rw [if_neg (by decide), if_neg (by decide), if_neg (by decide), if_neg (by decide), if_pos rfl, r_enter0, bO_some, if_pos rfl, bOv_some]
theorem mc15x {n : Nat} (hn : n < 90000) (hb : b.length = 10) (hc : c < 1000) (h7 : (s.1 7).getD c 0 = 15) : mst (cS s O C V b vm vw wt (nI (n + 1)) x y t (-1) (nI c) i u) = some (cS s O C V b vm vw wt (nI n) x y t 7 (nI (c + 1)) i u) := by
  rw [mst_hi hc h7 rfl (by decide)]
  unfold f_3003 f_3005
  rw [if_neg (by decide), if_neg (by decide), if_neg (by decide), if_neg (by decide), if_pos rfl, r_enter9 hn hb, bO_some, if_pos rfl, bOv_some]
theorem mc15 {n l k q : Nat} (hn : n < 90000) (hb : b.length < 10) (hc : c < 1000) (h7 : (s.1 7).getD c 0 = 15) (h8 : (s.1 8).getD c 0 = nI l) (hl : l < 1000) (h10 : (s.1 10).getD l 0 = nI k) (hk : k ≤ 8) (h12 : (s.1 12).getD l 0 = nI q) : mst (cS s O C V b vm vw wt (nI (n + 1)) x y t (-1) (nI c) i u) = some (cS s O C (pv (b.length + 1) k (z8 V (b.length + 1) 8) vm).1 (b ++ [nI (c + 1)]) (pv (b.length + 1) k (z8 V (b.length + 1) 8) vm).2 vw wt (nI n) x y t (-1) (nI q) i u) := by
  rw [mst_hi hc h7 h8 (by decide)]
  unfold f_3003 f_3005
  have e10 : ∀ {V b vm f}, f_4013 (nI l) (cS s O C V b vm vw wt f x y t (-1) (nI (c + 1)) i u) = nI k := fun {V b vm f} => by
    show xg (s.1 10) (nI l) = _
    rw [xg_n (by omega), h10]
  have hb1 : (b ++ [nI (c + 1)]).length = b.length + 1 := by rw [List.length_append]; rfl
  have hP := c_par (s := s) (O := O) (C := C) (b := b ++ [nI (c + 1)]) (vw := vw) (wt := wt) (f := nI n) (x := x) (y := y) (t := t) (e := -1) (p := nI (c + 1)) (i := i) (u := u) (l := nI l) (by omega) k 400 (z8 V (b.length + 1) 8) vm hk (by omega)
  rw [if_neg (by decide), if_neg (by decide), if_neg (by decide), if_neg (by decide), if_pos rfl, cv11, r_enter hn hb, bO_some, if_neg (by decide), e10, hP, bOv_some, hb1, xg_n (by omega), h12]
end MST
