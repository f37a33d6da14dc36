/-! the tokens of a text: what the reference makes of them -/
theorem b64 {x : Int} (h1 : -4611686018427387904 ≤ x) (h2 : x < 4611686018427387904) : x.bmod (2 ^ 64) = x := by
  rw [Int.bmod_eq_of_le] <;> omega
theorem add64 {a b : Int64} (h1 : -4611686018427387904 ≤ a.toInt + b.toInt) (h2 : a.toInt + b.toInt < 4611686018427387904) : (a + b).toInt = a.toInt + b.toInt := by
  rw [Int64.toInt_add, b64 h1 h2]
theorem sub64 {a b : Int64} (h1 : -4611686018427387904 ≤ a.toInt - b.toInt) (h2 : a.toInt - b.toInt < 4611686018427387904) : (a - b).toInt = a.toInt - b.toInt := by
  rw [Int64.toInt_sub, b64 h1 h2]
theorem mul64 {a b : Int64} (h1 : -4611686018427387904 ≤ a.toInt * b.toInt) (h2 : a.toInt * b.toInt < 4611686018427387904) : (a * b).toInt = a.toInt * b.toInt := by
  rw [Int64.toInt_mul, b64 h1 h2]
theorem lg_le {x y : Int64} : lg_cmp x y ≤ 0 ↔ x.toInt ≤ y.toInt := by
  unfold lg_cmp
  by_cases h : x > y
  · rw [if_pos h]
    have : y.toInt < x.toInt := Int64.lt_iff_toInt_lt.1 h
    constructor
    · intro q; exact absurd q (by decide)
    · intro q; omega
  · rw [if_neg h]
    have : ¬ y.toInt < x.toInt := fun q => h (Int64.lt_iff_toInt_lt.2 q)
    constructor
    · intro _; omega
    · intro _; split <;> decide
theorem lg_0 {x y : Int64} : lg_cmp x y = 0 ↔ x.toInt = y.toInt := by
  unfold lg_cmp
  rw [Int64.toInt_inj]
  by_cases h : x > y
  · rw [if_pos h]
    constructor
    · intro q; exact absurd q (by decide)
    · intro q
      have : y.toInt < x.toInt := Int64.lt_iff_toInt_lt.1 h
      rw [q] at this
      omega
  · rw [if_neg h]
    by_cases e : x = y
    · rw [if_pos e]
      exact ⟨fun _ => e, fun _ => rfl⟩
    · rw [if_neg e]
      exact ⟨fun q => absurd q (by decide), fun q => absurd q e⟩
/-- the text as the reference holds it -/
def MT (tx : List Int32) (m : Mx) : Prop := tx.length ≤ 300 ∧ m 0 4 = nI tx.length ∧ ∀ i, i < tx.length → m 3 i = tg tx i
theorem MT.g {tx : List Int32} {m : Mx} (h : MT tx m) {i : Nat} (hi : i < tx.length) : mg m 3 (nI i) = tg tx i := by
  unfold mg
  rw [nI_C (by have := h.1; omega)]
  exact h.2.2 i hi
theorem MT.f4 {tx : List Int32} {m : Mx} (h : MT tx m) : mf m 4 = nI tx.length := h.2.1
theorem vi_n {i n : Nat} (h : i < n) (hi : i < 100000) : vi (nI i) n := by
  unfold vi
  rw [nI_T hi]
  omega
/-- nothing but some fields has changed -/
def Ff (fs : List Nat) (m m' : Mx) : Prop := (∀ j, j ≠ 0 → m' j = m j) ∧ ∀ f, f ∉ fs → m' 0 f = m 0 f
theorem Ff.rfl' {fs : List Nat} {m : Mx} : Ff fs m m := ⟨fun _ _ => rfl, fun _ _ => rfl⟩
theorem Ff.tr {fs : List Nat} {m m' m'' : Mx} (h : Ff fs m m') (h' : Ff fs m' m'') : Ff fs m m'' := ⟨fun j hj => (h'.1 j hj).trans (h.1 j hj), fun f hf => (h'.2 f hf).trans (h.2 f hf)⟩
theorem mp_s {m : Mx} {f : Nat} {x : Int32} : mp m f x 0 f = x := by
  simp [mp, u2]
theorem mp_n {m : Mx} {f g : Nat} {x : Int32} (h : g ≠ f) : mp m f x 0 g = m 0 g := by
  simp [mp, u2, h]
theorem mp_j {m : Mx} {f j : Nat} {x : Int32} (h : j ≠ 0) : mp m f x j = m j := by
  simp [mp, u2, h]
theorem Ff_mp {fs : List Nat} {m : Mx} {f : Nat} {x : Int32} (h : f ∈ fs) : Ff fs m (mp m f x) :=
  ⟨fun _ hj => mp_j hj, fun g hg => mp_n (fun e => hg (e ▸ h))⟩
theorem MT.ff {tx : List Int32} {fs : List Nat} {m m' : Mx} (h : MT tx m) (hf : Ff fs m m') (h4 : 4 ∉ fs) : MT tx m' := by
  refine ⟨h.1, ?_, ?_⟩
  · rw [hf.2 4 h4]
    exact h.2.1
  · intro i hi
    rw [hf.1 3 (by decide)]
    exact h.2.2 i hi
def lx_sk (tx : List Int32) : Nat → Nat → Nat
  | 0, p => p
  | k + 1, p => if isB (tg tx p) then lx_sk tx k (p + 1) else p
theorem lx_sk_b (tx : List Int32) (k p : Nat) : p ≤ lx_sk tx k p ∧ lx_sk tx k p ≤ p + k := by
  induction k generalizing p with
  | zero => exact ⟨Nat.le_refl _, Nat.le_refl _⟩
  | succ k ih =>
    unfold lx_sk
    split
    · have := ih (p + 1)
      omega
    · omega
theorem sk_12013 {tx : List Int32} {m : Mx} (h : MT tx m) (x : Int32) : ∀ (k n p : Nat), tx.length = p + k → k < n → f_12013_L2 n x (nI p) m = some (nI (lx_sk tx k p)) := by
  have hn := h.1
  intro k
  induction k with
  | zero =>
    intro n p hk hm
    obtain ⟨n, rfl⟩ : ∃ j, n = j + 1 := ⟨n - 1, by omega⟩
    rw [f_12013_L2, h.f4, if_pos (nI_le (by omega) (by omega))]
    rfl
  | succ k ih =>
    intro n p hk hm
    obtain ⟨n, rfl⟩ : ∃ j, n = j + 1 := ⟨n - 1, by omega⟩
    rw [f_12013_L2, h.f4, if_neg (nI_ge (by omega) (by omega)), gd_e (vi_n (by omega) (by omega)), h.g (by omega)]
    unfold lx_sk
    by_cases c1 : tg tx p = 32
    · rw [if_pos c1, if_pos (Or.inl c1), nI_1]
      exact ih n (p + 1) (by omega) (by omega)
    · rw [if_neg c1, gd_e (vi_n (by omega) (by omega))]
      by_cases c2 : tg tx p = 10
      · rw [if_pos c2, if_pos (Or.inr c2), nI_1]
        exact ih n (p + 1) (by omega) (by omega)
      · rw [if_neg c2, if_neg (fun q => q.elim c1 c2)]
theorem f12011_0 (c : Int32) (s : Mx) : f_12011 c s = 0 ↔ ¬ isD c := by
  unfold f_12011 isD
  by_cases h1 : c < 48
  · simp [h1]
  · by_cases h2 : 57 < c
    · simp [h1, h2]
    · simp [h1, h2]
theorem f12012_0 (c : Int32) (s : Mx) : f_12012 c s = 0 ↔ ¬ isL c := by
  unfold f_12012 isL
  by_cases h1 : c < 97
  · simp [h1]
  · by_cases h2 : 122 < c
    · simp [h1, h2]
    · simp [h1, h2]
/-- the two ways to count a number -/
def nmI (v w : Int64) : Prop := 0 ≤ v.toInt ∧ v.toInt ≤ 2147483648 ∧ (w.toInt = v.toInt ∨ (v.toInt = 2147483648 ∧ 2147483648 ≤ w.toInt ∧ w.toInt ≤ 9999999999))
theorem isD_v {c : Int32} (h : isD c) : 48 ≤ c.toInt ∧ c.toInt ≤ 57 := by
  have h1 := h.1
  have h2 := h.2
  rw [i_lt] at h1 h2
  have e1 : (48 : Int32).toInt = 48 := rfl
  have e2 : (57 : Int32).toInt = 57 := rfl
  omega
theorem nm_step {v w : Int64} {c : Int32} (h : nmI v w) (hc : isD c) :
    nmI (lx_st v c) (if lg_cmp ((w * 10) + (c - 48).toInt64) 9999999999 ≤ 0 then (w * 10) + (c - 48).toInt64 else 9999999999) := by
  have hd := isD_v hc
  obtain ⟨h1, h2, h3⟩ := h
  have e10 : (10 : Int64).toInt = 10 := rfl
  have e48 : (48 : Int64).toInt = 48 := rfl
  have em : (2147483648 : Int64).toInt = 2147483648 := rfl
  have e9 : (9999999999 : Int64).toInt = 9999999999 := rfl
  have c1 : (c.toInt64).toInt = c.toInt := Int32.toInt_toInt64 c
  have c2 : ((c - 48).toInt64).toInt = c.toInt - 48 := by
    rw [Int32.toInt_toInt64, Int32.toInt_sub, show (48 : Int32).toInt = 48 from rfl, Int.bmod_eq_of_le] <;> omega
  have v1 : (v * 10).toInt = v.toInt * 10 := by
    rw [mul64] <;> rw [e10] <;> omega
  have v2 : (v * 10 + c.toInt64).toInt = v.toInt * 10 + c.toInt := by
    rw [add64] <;> rw [v1, c1] <;> omega
  have v3 : (v * 10 + c.toInt64 - 48).toInt = v.toInt * 10 + c.toInt - 48 := by
    rw [sub64] <;> rw [v2, e48] <;> omega
  have w1 : (w * 10).toInt = w.toInt * 10 := by
    rw [mul64] <;> rw [e10] <;> omega
  have w2 : (w * 10 + (c - 48).toInt64).toInt = w.toInt * 10 + (c.toInt - 48) := by
    rw [add64] <;> rw [w1, c2] <;> omega
  have hv : (lx_st v c).toInt = if 2147483648 < v.toInt * 10 + c.toInt - 48 then 2147483648 else v.toInt * 10 + c.toInt - 48 := by
    unfold lx_st
    by_cases q : 2147483648 < v.toInt * 10 + c.toInt - 48
    · rw [if_pos q, if_pos (Int64.lt_iff_toInt_lt.2 (by rw [em, v3]; exact q)), em]
    · rw [if_neg q, if_neg (fun r => q (by have := Int64.lt_iff_toInt_lt.1 r; rw [em, v3] at this; exact this)), v3]
  have hw : (if lg_cmp ((w * 10) + (c - 48).toInt64) 9999999999 ≤ 0 then (w * 10) + (c - 48).toInt64 else 9999999999).toInt = if w.toInt * 10 + (c.toInt - 48) ≤ 9999999999 then w.toInt * 10 + (c.toInt - 48) else 9999999999 := by
    by_cases q : w.toInt * 10 + (c.toInt - 48) ≤ 9999999999
    · rw [if_pos q, if_pos (lg_le.2 (by rw [w2, e9]; exact q)), w2]
    · rw [if_neg q, if_neg (fun r => q (by have := lg_le.1 r; rw [w2, e9] at this; exact this)), e9]
  unfold nmI
  rw [hv, hw]
  split <;> split <;> omega
theorem nm_12015 {tx : List Int32} : ∀ (k n p : Nat) (v w : Int64) (s : Mx), MT tx s → s 0 7 = nI p → nmI v w → tx.length = p + k → k < n →
    ∃ s' w', f_12015_L2 n w s = f_12015_J77 w' s' ∧ nmI (lx_nm tx k v p).1 w' ∧ Ff [7] s s' ∧ s' 0 7 = nI (lx_nm tx k v p).2 := by
  intro k
  induction k with
  | zero =>
    intro n p v w s h h7 hI hk hm
    have hn := h.1
    obtain ⟨n, rfl⟩ : ∃ j, n = j + 1 := ⟨n - 1, by omega⟩
    refine ⟨s, w, ?_, hI, Ff.rfl', h7⟩
    rw [f_12015_L2, h.f4, show mf s 7 = nI p from h7, if_pos (nI_le (by omega) (by omega))]
  | succ k ih =>
    intro n p v w s h h7 hI hk hm
    have hn := h.1
    obtain ⟨n, rfl⟩ : ∃ j, n = j + 1 := ⟨n - 1, by omega⟩
    have hf : mf s 7 = nI p := h7
    rw [f_12015_L2, h.f4, hf, if_neg (nI_ge (by omega) (by omega)), gd_e (vi_n (by omega) (by omega)), h.g (by omega)]
    unfold lx_nm
    by_cases hd : isD (tg tx p)
    · rw [if_neg (fun q => (f12011_0 _ _).1 q hd), if_pos hd, gd_e (vi_n (by omega) (by omega))]
      have go : ∀ w1 : Int64, nmI (lx_st v (tg tx p)) w1 → ∃ s' w', f_12015_J63 (f_12015_L2 n) w1 w1 s = f_12015_J77 w' s' ∧ nmI (lx_nm tx k (lx_st v (tg tx p)) (p + 1)).1 w' ∧ Ff [7] s s' ∧ s' 0 7 = nI (lx_nm tx k (lx_st v (tg tx p)) (p + 1)).2 := by
        intro w1 hw1
        have hq : mp s 7 (mf s 7 + 1) 0 7 = nI (p + 1) := by rw [mp_s, hf, nI_1]
        have hF : Ff [7] s (mp s 7 (mf s 7 + 1)) := Ff_mp (by decide)
        obtain ⟨s', w', e1, e2, e3, e4⟩ := ih n (p + 1) _ w1 (mp s 7 (mf s 7 + 1)) (h.ff hF (by decide)) hq hw1 (by omega) (by omega)
        exact ⟨s', w', e1, e2, hF.tr e3, e4⟩
      have hst := nm_step hI hd
      split
      · rename_i q
        rw [if_pos q] at hst
        exact go _ hst
      · rename_i q
        rw [if_neg q] at hst
        obtain ⟨s', w', e1, e2⟩ := go _ hst
        exact ⟨s', w', e1, e2⟩
    · rw [if_pos ((f12011_0 _ _).2 hd), if_neg hd]
      exact ⟨s, w, rfl, hI, Ff.rfl', h7⟩
theorem of_T {c : Int32} {n : Nat} (h : c.toInt = n) (hn : n < 100000) : c = nI n := by
  rw [i_eq, nI_T hn, h]
/-- what a word counts for -/
def lx_h : List Int32 → Int
  | [] => 0
  | c :: r => (c.toInt - 96) + 32 * lx_h r
theorem lx_h_app (w : List Int32) (c : Int32) : lx_h (w ++ [c]) = lx_h w + (c.toInt - 96) * 32 ^ w.length := by
  induction w with
  | nil => simp [lx_h]
  | cons d r ih =>
    rw [List.cons_append]
    unfold lx_h
    rw [ih, List.length_cons, Int.pow_succ]
    rw [Int.mul_add, ← Int.add_assoc, Int.mul_left_comm, Int.mul_comm (32 : Int) (32 ^ r.length)]
def okL (w : List Int32) : Prop := ∀ c, c ∈ w → isL c
theorem isL_v {c : Int32} (h : isL c) : 97 ≤ c.toInt ∧ c.toInt ≤ 122 := by
  have h1 := h.1
  have h2 := h.2
  rw [i_lt] at h1 h2
  have e1 : (97 : Int32).toInt = 97 := rfl
  have e2 : (122 : Int32).toInt = 122 := rfl
  omega
theorem lx_h_pos {w : List Int32} (h : okL w) : 0 ≤ lx_h w := by
  induction w with
  | nil => exact Int.le_refl _
  | cons c r ih =>
    have := isL_v (h c (List.mem_cons_self ..))
    have := ih (fun x hx => h x (List.mem_cons_of_mem _ hx))
    unfold lx_h
    omega
theorem lx_h_inj {w v : List Int32} (hw : okL w) (hv : okL v) (h : lx_h w = lx_h v) : w = v := by
  induction w generalizing v with
  | nil =>
    cases v with
    | nil => rfl
    | cons c r =>
      have a1 := isL_v (hv c (List.mem_cons_self ..))
      have a2 := lx_h_pos (w := r) (fun x hx => hv x (List.mem_cons_of_mem _ hx))
      unfold lx_h at h
      omega
  | cons d q ih =>
    have a1 := isL_v (hw d (List.mem_cons_self ..))
    have a2 := lx_h_pos (w := q) (fun x hx => hw x (List.mem_cons_of_mem _ hx))
    cases v with
    | nil =>
      unfold lx_h at h
      omega
    | cons c r =>
      have b1 := isL_v (hv c (List.mem_cons_self ..))
      have b2 := lx_h_pos (w := r) (fun x hx => hv x (List.mem_cons_of_mem _ hx))
      unfold lx_h at h
      have e1 : d.toInt = c.toInt := by omega
      have e2 : lx_h q = lx_h r := by omega
      rw [Int32.toInt_inj.1 e1, ih (fun x hx => hw x (List.mem_cons_of_mem _ hx)) (fun x hx => hv x (List.mem_cons_of_mem _ hx)) e2]
theorem shl_t : ∀ i, i < 7 → ∀ c, c < 26 → ((((nI (c + 97)) - 97) + 1).toInt64 <<< ((5 * nI i).toInt64 &&& 63)).toInt = (((c : Int) + 1) * 32 ^ i) := by
  decide +kernel
theorem shl_c {i : Nat} {c : Int32} (hi : i < 7) (hc : isL c) : (((c - 97) + 1).toInt64 <<< ((5 * nI i).toInt64 &&& 63)).toInt = (c.toInt - 96) * 32 ^ i := by
  have h := isL_v hc
  have e : c = nI ((c.toInt - 97).toNat + 97) := of_T (by omega) (by omega)
  have := shl_t i hi (c.toInt - 97).toNat (by omega)
  rw [← e] at this
  rw [this]
  congr 1
  omega
theorem lx_h_b {w : List Int32} (h : okL w) : lx_h w < 32 ^ w.length := by
  induction w with
  | nil => decide
  | cons c r ih =>
    have a1 := isL_v (h c (List.mem_cons_self ..))
    have a2 := ih (fun x hx => h x (List.mem_cons_of_mem _ hx))
    unfold lx_h
    rw [List.length_cons, Int.pow_succ]
    omega
theorem lx_w_app {tx : List Int32} {a k : Nat} (h : a + k < tx.length) : lx_w tx a (k + 1) = lx_w tx a k ++ [tg tx (a + k)] := by
  unfold lx_w tg
  rw [List.take_add_one, List.getElem?_drop, List.getD_eq_getElem?_getD, List.getElem?_eq_getElem h]
  rfl
theorem wd_12016 {tx : List Int32} (q : Nat) : ∀ (k n p : Nat) (l : Int64) (s : Mx), MT tx s → s 0 6 = nI q → s 0 7 = nI p → q ≤ p → okL (lx_w tx q (p - q)) → l.toInt = lx_h ((lx_w tx q (p - q)).take 7) → tx.length = p + k → k < n →
    ∃ s' l', f_12016_L2 n l s = f_12016_J83 l' s' ∧ Ff [7] s s' ∧ s' 0 7 = nI (lx_wd tx k p) ∧ okL (lx_w tx q (lx_wd tx k p - q)) ∧ l'.toInt = lx_h ((lx_w tx q (lx_wd tx k p - q)).take 7) := by
  intro k
  induction k with
  | zero =>
    intro n p l s h h6 h7 hq hw hl hk hm
    have hn := h.1
    obtain ⟨n, rfl⟩ : ∃ j, n = j + 1 := ⟨n - 1, by omega⟩
    refine ⟨s, l, ?_, Ff.rfl', h7, hw, hl⟩
    rw [f_12016_L2, h.f4, show mf s 7 = nI p from h7, if_pos (nI_le (by omega) (by omega))]
  | succ k ih =>
    intro n p l s h h6 h7 hq hw hl hk hm
    have hn := h.1
    obtain ⟨n, rfl⟩ : ∃ j, n = j + 1 := ⟨n - 1, by omega⟩
    have hf : mf s 7 = nI p := h7
    have hf6 : mf s 6 = nI q := h6
    have hsub : nI p - nI q = nI (p - q) := by
      have : nI p = nI (p - q) + nI q := by rw [nI_add]; congr 1; omega
      rw [this, Int32.add_sub_cancel]
    rw [f_12016_L2, h.f4, hf, hf6, if_neg (nI_ge (by omega) (by omega)), gd_e (vi_n (by omega) (by omega)), h.g (by omega), hsub]
    unfold lx_wd
    by_cases hd : isL (tg tx p)
    · rw [if_neg (fun q => (f12012_0 _ _).1 q hd), if_pos hd]
      have hF : Ff [7] s (mp s 7 (mf s 7 + 1)) := Ff_mp (by decide)
      have hq7 : mp s 7 (mf s 7 + 1) 0 7 = nI (p + 1) := by rw [mp_s, hf, nI_1]
      have hq6 : mp s 7 (mf s 7 + 1) 0 6 = nI q := by rw [mp_n (by decide)]; exact h6
      have happ : lx_w tx q (p + 1 - q) = lx_w tx q (p - q) ++ [tg tx p] := by
        rw [show p + 1 - q = (p - q) + 1 by omega, lx_w_app (by omega), show q + (p - q) = p by omega]
      have hlen : (lx_w tx q (p - q)).length = p - q := lx_w_len (by omega)
      have hok : okL (lx_w tx q (p + 1 - q)) := by
        rw [happ]
        intro c hc
        rcases List.mem_append.1 hc with r | r
        · exact hw c r
        · rw [List.mem_singleton.1 r]
          exact hd
      have go : ∀ l1 : Int64, l1.toInt = lx_h ((lx_w tx q (p + 1 - q)).take 7) → ∃ s' l', f_12016_L2 n l1 (mp s 7 (mf s 7 + 1)) = f_12016_J83 l' s' ∧ Ff [7] s s' ∧ s' 0 7 = nI (lx_wd tx k (p + 1)) ∧ okL (lx_w tx q (lx_wd tx k (p + 1) - q)) ∧ l'.toInt = lx_h ((lx_w tx q (lx_wd tx k (p + 1) - q)).take 7) := by
        intro l1 hl1
        obtain ⟨s', l', e1, e2, e3⟩ := ih n (p + 1) l1 (mp s 7 (mf s 7 + 1)) (h.ff hF (by decide)) hq6 hq7 (by omega) hok hl1 (by omega) (by omega)
        exact ⟨s', l', e1, hF.tr e2, e3⟩
      by_cases h7i : 7 ≤ p - q
      · rw [if_pos (show (7 : Int32) ≤ nI (p - q) from nI_le (a := 7) h7i (by omega))]
        have := go (l + 0) (by
          rw [show l + 0 = l from Int64.add_zero l, hl, happ, List.take_append_of_le_length (by omega)])
        exact this
      · rw [if_neg (show ¬ (7 : Int32) ≤ nI (p - q) from nI_ge (b := 7) (by omega) (by decide)), gd_e (vi_n (by omega) (by omega))]
        have hsh := shl_c (i := p - q) (by omega) hd
        have hb := lx_h_b hw
        have hp0 := lx_h_pos hw
        rw [hlen] at hb
        have hpw : (32 : Int) ^ (p - q) ≤ 32 ^ 6 := by
          rcases (by omega : p - q = 0 ∨ p - q = 1 ∨ p - q = 2 ∨ p - q = 3 ∨ p - q = 4 ∨ p - q = 5 ∨ p - q = 6) with e | e | e | e | e | e | e <;> rw [e] <;> decide
        have hpw0 : (0 : Int) < 32 ^ (p - q) := Int.pow_pos (by decide)
        have hc := isL_v hd
        have ht : (lx_w tx q (p - q)).take 7 = lx_w tx q (p - q) := List.take_of_length_le (by omega)
        rw [ht] at hl
        have hmul : (tg tx p).toInt - 96 ≤ 26 := by omega
        have hm2 : ((tg tx p).toInt - 96) * 32 ^ (p - q) ≤ 26 * 32 ^ (p - q) := Int.mul_le_mul_of_nonneg_right hmul (Int.le_of_lt hpw0)
        have hm3 : 0 ≤ ((tg tx p).toInt - 96) * 32 ^ (p - q) := Int.mul_nonneg (by omega) (Int.le_of_lt hpw0)
        have h326 : (32 : Int) ^ 6 = 1073741824 := by decide
        have := go (l + (((tg tx p) - 97) + 1).toInt64 <<< ((5 * nI (p - q)).toInt64 &&& 63)) (by
          rw [add64]
          · rw [hsh, hl, happ, List.take_of_length_le (by rw [List.length_append, hlen]; show p - q + 1 ≤ 7; omega), lx_h_app, hlen]
          · rw [hsh, hl]; omega
          · rw [hsh, hl]; omega)
        exact this
    · rw [if_pos ((f12012_0 _ _).2 hd), if_neg hd]
      exact ⟨s, l, rfl, Ff.rfl', h7, hw, hl⟩
/-- the reference's number of a token's kind -/
def km (k : Int32) : Int32 :=
  if k = 0 then 0 else if k = 1 then -1 else if k = 2 then -2 else if k = 3 then 1 else if k = 4 then 2 else if k = 5 then 4 else if k = 6 then 5 else if k = 7 then 6
  else if k = 8 then 7 else if k = 9 then 8 else if k = 10 then 9 else if k = 11 then 10 else if k = 12 then 11 else if k = 13 then 12 else if k = 14 then 13 else if k = 15 then 14
  else if k = 16 then 15 else if k = 17 then 16 else if k = 18 then 17 else if k = 19 then 18 else if k = 20 then 19 else if k = 21 then 20 else if k = 22 then 21 else if k = 23 then 22
  else if k = 24 then 23 else if k = 25 then 24 else if k = 26 then 32 else if k = 27 then 25 else if k = 28 then 26 else if k = 29 then 27 else if k = 30 then 28 else if k = 31 then 29
  else if k = 32 then 30 else 31
theorem okL_kw : okL (ab_tx 0) ∧ okL (ab_tx 1) ∧ okL (ab_tx 2) ∧ okL (ab_tx 3) ∧ okL (ab_tx 4) ∧ okL (ab_tx 5) ∧ okL (ab_tx 6) := by
  unfold okL
  decide
theorem kw_iff {w v : List Int32} (hw : okL w) (hv : okL v) (hl : v.length ≤ 6) : lx_h (w.take 7) = lx_h v ↔ w = v := by
  constructor
  · intro h
    have e := lx_h_inj (fun c hc => hw c (List.mem_of_mem_take hc)) hv h
    have : w.length ≤ 7 := by
      have := congrArg List.length e
      rw [List.length_take] at this
      omega
    rw [List.take_of_length_le this] at e
    exact e
  · rintro rfl
    rw [List.take_of_length_le (by omega)]
theorem kw_83 {w : List Int32} {l : Int64} {s : Mx} (hw : okL w) (hl : l.toInt = lx_h (w.take 7)) : f_12016_J83 l s = some (s, km (lx_kw w)) := by
  obtain ⟨k0, k1, k2, k3, k4, k5, k6⟩ := okL_kw
  have t0 : lg_cmp l 201 = 0 ↔ w = ab_tx 0 := by rw [lg_0, hl, ← kw_iff hw k0 (by decide)]; rfl
  have t1 : lg_cmp l 183685 = 0 ↔ w = ab_tx 1 := by rw [lg_0, hl, ← kw_iff hw k1 (by decide)]; rfl
  have t2 : lg_cmp l 5645591 = 0 ↔ w = ab_tx 2 := by rw [lg_0, hl, ← kw_iff hw k2 (by decide)]; rfl
  have t3 : lg_cmp l 21167 = 0 ↔ w = ab_tx 3 := by rw [lg_0, hl, ← kw_iff hw k3 (by decide)]; rfl
  have t4 : lg_cmp l 457 = 0 ↔ w = ab_tx 4 := by rw [lg_0, hl, ← kw_iff hw k4 (by decide)]; rfl
  have t5 : lg_cmp l 6308 = 0 ↔ w = ab_tx 5 := by rw [lg_0, hl, ← kw_iff hw k5 (by decide)]; rfl
  have t6 : lg_cmp l 489345202 = 0 ↔ w = ab_tx 6 := by rw [lg_0, hl, ← kw_iff hw k6 (by decide)]; rfl
  unfold f_12016_J83 lx_kw
  by_cases c0 : w = ab_tx 0
  · rw [if_pos (t0.2 c0), if_pos c0]; rfl
  rw [if_neg (fun q => c0 (t0.1 q)), if_neg c0]
  by_cases c1 : w = ab_tx 1
  · rw [if_pos (t1.2 c1), if_pos c1]; rfl
  rw [if_neg (fun q => c1 (t1.1 q)), if_neg c1]
  by_cases c2 : w = ab_tx 2
  · rw [if_pos (t2.2 c2), if_pos c2]; rfl
  rw [if_neg (fun q => c2 (t2.1 q)), if_neg c2]
  by_cases c3 : w = ab_tx 3
  · rw [if_pos (t3.2 c3), if_pos c3]; rfl
  rw [if_neg (fun q => c3 (t3.1 q)), if_neg c3]
  by_cases c4 : w = ab_tx 4
  · rw [if_pos (t4.2 c4), if_pos c4]; rfl
  rw [if_neg (fun q => c4 (t4.1 q)), if_neg c4]
  by_cases c5 : w = ab_tx 5
  · rw [if_pos (t5.2 c5), if_pos c5]; rfl
  rw [if_neg (fun q => c5 (t5.1 q)), if_neg c5]
  by_cases c6 : w = ab_tx 6
  · rw [if_pos (t6.2 c6), if_pos c6]; rfl
  rw [if_neg (fun q => c6 (t6.1 q)), if_neg c6]
  rfl
theorem tg_out {tx : List Int32} {p : Nat} (h : tx.length ≤ p) : tg tx p = 0 := by
  unfold tg
  rw [List.getD_eq_getElem?_getD, List.getElem?_eq_none h]
  rfl
theorem e_12017 {tx : List Int32} {m : Mx} {q : Nat} {x0 x1 x2 : Int32} (h : MT tx m) (h7 : m 0 7 = nI (q + 1)) (hq : q + 1 ≤ tx.length) (hx : x0 ≠ 0) :
    ∃ m', f_12017 x0 x1 x2 m = some (m', if tg tx (q + 1) = x0 then x1 else x2) ∧ Ff [7] m m' ∧ m' 0 7 = nI (if tg tx (q + 1) = x0 then q + 2 else q + 1) := by
  have hn := h.1
  have hf : mf m 7 = nI (q + 1) := h7
  have no : ∃ m', f_12017_J28 x0 x1 x2 m = some (m', x2) ∧ Ff [7] m m' ∧ m' 0 7 = nI (q + 1) := by
    refine ⟨mp m 7 (mf m 7 + 0), ?_, Ff_mp (by decide), ?_⟩
    · rfl
    · rw [mp_s, hf]
      exact nI_add (q + 1) 0
  unfold f_12017
  rw [h.f4, hf]
  by_cases hl : tx.length ≤ q + 1
  · rw [if_pos (nI_le hl (by omega)), tg_out hl, if_neg (fun e => hx e.symm), if_neg (fun e => hx e.symm)]
    exact no
  · rw [if_neg (nI_ge (by omega) (by omega)), gd_e (vi_n (by omega) (by omega)), h.g (by omega)]
    by_cases e : tg tx (q + 1) = x0
    · rw [if_pos e, if_pos e, if_pos e]
      refine ⟨mp m 7 (mf m 7 + 1), rfl, Ff_mp (by decide), ?_⟩
      rw [mp_s, hf]
      exact nI_add (q + 1) 1
    · rw [if_neg e, if_neg e, if_neg e]
      exact no
