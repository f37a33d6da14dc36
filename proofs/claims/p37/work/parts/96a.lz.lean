/-! the tokens of a text, told from its rest alone -/
section LZS
theorem gD_drop {l : List Int32} {p j : Nat} : (l.drop p).getD j 0 = l.getD (p + j) 0 := by
  rw [List.getD_eq_getElem?_getD, List.getD_eq_getElem?_getD, List.getElem?_drop]
theorem tg_drop {l : List Int32} {p j : Nat} : tg (l.drop p) j = tg l (p + j) := gD_drop
theorem lx_nm_sh (tx : List Int32) (p : Nat) : ∀ (k : Nat) (v : Int64) (j : Nat), lx_nm tx k v (p + j) = ((lx_nm (tx.drop p) k v j).1, p + (lx_nm (tx.drop p) k v j).2) := by
  intro k
  induction k with
  | zero => intro v j; rfl
  | succ k ih =>
    intro v j
    unfold lx_nm
    rw [tg_drop]
    by_cases h : isD (tg tx (p + j))
    · rw [if_pos h, if_pos h]
      exact ih _ (j + 1)
    · rw [if_neg h, if_neg h]
theorem lx_wd_sh (tx : List Int32) (p : Nat) : ∀ (k j : Nat), lx_wd tx k (p + j) = p + lx_wd (tx.drop p) k j := by
  intro k
  induction k with
  | zero => intro j; rfl
  | succ k ih =>
    intro j
    unfold lx_wd
    rw [tg_drop]
    by_cases h : isL (tg tx (p + j))
    · rw [if_pos h, if_pos h]
      exact ih (j + 1)
    · rw [if_neg h, if_neg h]
theorem lx_w_sh (tx : List Int32) (p j z : Nat) : lx_w tx (p + j) z = lx_w (tx.drop p) j z := by
  unfold lx_w
  rw [List.drop_drop]
def lt (l : List Int32) : Int32 × Int32 × Nat := lx_tk l 0
theorem lx_tk_sh (tx : List Int32) (p : Nat) : lx_tk tx p = ((lt (tx.drop p)).1, (lt (tx.drop p)).2.1, p + (lt (tx.drop p)).2.2) := by
  have e0 : tg (tx.drop p) 0 = tg tx p := tg_drop
  have e1 : tg (tx.drop p) (0 + 1) = tg tx (p + 1) := tg_drop
  have n0 := lx_nm_sh tx p (tx.length - p) 0 0
  have w0 := lx_wd_sh tx p (tx.length - p) 0
  have x0 := lx_w_sh tx p 0
  rw [Nat.add_zero] at n0 w0 x0
  have hl : (tx.drop p).length - 0 = tx.length - p := by rw [List.length_drop]; omega
  unfold lt lx_tk
  rw [e0, e1, hl, n0, w0]
  by_cases h1 : isD (tg tx p)
  · rw [if_pos h1, if_pos h1]
  · rw [if_neg h1, if_neg h1]
    by_cases h2 : isL (tg tx p)
    · rw [if_pos h2, if_pos h2, x0, Nat.sub_zero, Nat.add_sub_cancel_left]
    · rw [if_neg h2, if_neg h2]
      by_cases h3 : lx_2 (tg tx p) (tg tx (p + 1)) = 1
      · rw [if_pos h3, if_pos h3]
      · rw [if_neg h3, if_neg h3]
/-- the number of a word among those that are known -/
def wi (w : List Int32) : List (List Int32) → Nat
  | [] => 0
  | q :: r => if q = w then 0 else wi w r + 1
theorem lx_ix_wi (tx w : List Int32) : ∀ ns : List (Nat × Nat), lx_ix tx w ns = wi w (ns.map (fun q => lx_w tx q.1 q.2)) := by
  intro ns
  induction ns with
  | nil => rfl
  | cons q r ih =>
    rw [List.map_cons]
    unfold lx_ix wi
    rw [ih]
def lz : Nat → List Int32 → Nat → List (List Int32) → List Tk
  | 0, _, _, _ => []
  | _ + 1, [], _, _ => []
  | k + 1, c :: r, p, ws =>
    if isB c then lz k r (p + 1) ws
    else if (lt (c :: r)).1 = 4 then
      (4, nI (wi ((c :: r).take (lt (c :: r)).2.2) ws), p, p + (lt (c :: r)).2.2) ::
        lz k ((c :: r).drop (lt (c :: r)).2.2) (p + (lt (c :: r)).2.2) (if wi ((c :: r).take (lt (c :: r)).2.2) ws < ws.length then ws else ws ++ [(c :: r).take (lt (c :: r)).2.2])
    else ((lt (c :: r)).1, (lt (c :: r)).2.1, p, p + (lt (c :: r)).2.2) :: lz k ((c :: r).drop (lt (c :: r)).2.2) (p + (lt (c :: r)).2.2) ws
theorem lx_all_lz (tx : List Int32) : ∀ (k p : Nat) (ns : List (Nat × Nat)), lx_all tx k p ns = lz k (tx.drop p) p (ns.map (fun q => lx_w tx q.1 q.2)) := by
  intro k
  induction k with
  | zero => intro p ns; rfl
  | succ k ih =>
    intro p ns
    unfold lx_all
    by_cases h : tx.length ≤ p
    · rw [if_pos h, List.drop_eq_nil_of_le h]
      rfl
    · rw [if_neg h]
      have hd : tx.drop p = tg tx p :: tx.drop (p + 1) := by
        rw [List.drop_eq_getElem_cons (by omega)]
        unfold tg
        rw [List.getD_eq_getElem?_getD, List.getElem?_eq_getElem (by omega)]
        rfl
      have hw : ∀ z, lx_w tx p z = (tx.drop p).take z := fun z => rfl
      rw [hd]
      rw [lz]
      by_cases hb : isB (tg tx p)
      · rw [if_pos hb, if_pos hb, ih]
      · rw [if_neg hb, if_neg hb, ← hd, lx_tk_sh tx p]
        dsimp only
        rw [Nat.add_sub_cancel_left, lx_ix_wi, hw]
        by_cases h4 : (lt (tx.drop p)).1 = 4
        · rw [if_pos h4, if_pos h4, ih, List.drop_drop]
          congr 2
          rw [List.length_map]
          by_cases hq : wi ((tx.drop p).take (lt (tx.drop p)).2.2) (ns.map (fun q => lx_w tx q.1 q.2)) < ns.length
          · rw [if_pos hq, if_pos hq]
          · rw [if_neg hq, if_neg hq, List.map_append]
            rfl
        · rw [if_neg h4, if_neg h4, ih, List.drop_drop]
/-- from the rest l on (at p, with the words ws) come the tokens ts, and then the rest r -/
def LZ (l : List Int32) (p : Nat) (ws : List (List Int32)) (ts : List Tk) (r : List Int32) (p' : Nat) (ws' : List (List Int32)) : Prop :=
  ∀ k, l.length ≤ k → ∃ k', r.length ≤ k' ∧ lz k l p ws = ts ++ lz k' r p' ws'
theorem LZ.r {l : List Int32} {p : Nat} {ws : List (List Int32)} : LZ l p ws [] l p ws := fun k hk => ⟨k, hk, rfl⟩
theorem LZ.tr {l l1 l2 : List Int32} {p p1 p2 : Nat} {ws ws1 ws2 : List (List Int32)} {ts us : List Tk} (h : LZ l p ws ts l1 p1 ws1) (h' : LZ l1 p1 ws1 us l2 p2 ws2) : LZ l p ws (ts ++ us) l2 p2 ws2 := fun k hk => by
  obtain ⟨k1, h1, e1⟩ := h k hk
  obtain ⟨k2, h2, e2⟩ := h' k1 h1
  exact ⟨k2, h2, by rw [e1, e2, List.append_assoc]⟩
theorem LZ.b {c : Int32} {r : List Int32} {p : Nat} {ws : List (List Int32)} (h : isB c) : LZ (c :: r) p ws [] r (p + 1) ws := fun k hk => by
  obtain ⟨k, rfl⟩ : ∃ j, k = j + 1 := ⟨k - 1, by have := hk; simp only [List.length_cons] at this; omega⟩
  refine ⟨k, by simpa using hk, ?_⟩
  rw [lz]
  rw [if_pos h]
  rfl
theorem LZ.t {c : Int32} {r q : List Int32} {p z : Nat} {kd v : Int32} {ws : List (List Int32)} (hb : ¬ isB c) (ht : lt (c :: r) = (kd, v, z)) (h4 : kd ≠ 4) (hz : 1 ≤ z) (hq : (c :: r).drop z = q) : LZ (c :: r) p ws [(kd, v, p, p + z)] q (p + z) ws := fun k hk => by
  obtain ⟨k, rfl⟩ : ∃ j, k = j + 1 := ⟨k - 1, by have := hk; simp only [List.length_cons] at this; omega⟩
  refine ⟨k, ?_, ?_⟩
  · rw [← hq, List.length_drop]
    omega
  · rw [lz]
    rw [if_neg hb, ht]
    dsimp only
    rw [if_neg h4, hq]
    rfl
theorem LZ.n {c : Int32} {r q w : List Int32} {p z : Nat} {v : Int32} {ws : List (List Int32)} (hb : ¬ isB c) (ht : lt (c :: r) = (4, v, z)) (hz : 1 ≤ z) (hq : (c :: r).drop z = q) (hw : (c :: r).take z = w) : LZ (c :: r) p ws [(4, nI (wi w ws), p, p + z)] q (p + z) (if wi w ws < ws.length then ws else ws ++ [w]) := fun k hk => by
  obtain ⟨k, rfl⟩ : ∃ j, k = j + 1 := ⟨k - 1, by have := hk; simp only [List.length_cons] at this; omega⟩
  refine ⟨k, ?_, ?_⟩
  · rw [← hq, List.length_drop]
    omega
  · rw [lz]
    rw [if_neg hb, ht]
    dsimp only
    rw [if_pos rfl, hq, hw]
    rfl
/-- the tokens of a text -/
theorem tks_of {tx : List Int32} {ts : List Tk} {p' : Nat} {ws : List (List Int32)} (h : LZ tx 0 [] ts [] p' ws) : tks tx = ts ++ [(0, 0, tx.length, tx.length)] := by
  obtain ⟨k, _, e⟩ := h (tx.length + 1) (by omega)
  unfold tks
  rw [lx_all_lz, List.drop_zero, List.map_nil, e]
  have : lz k [] p' ws = [] := by
    cases k <;> rfl
  rw [this, List.append_nil]
theorem tks_pre {tx r : List Int32} {ts : List Tk} {p' : Nat} {ws : List (List Int32)} (h : LZ tx 0 [] ts r p' ws) : ∃ us, tks tx = ts ++ us := by
  obtain ⟨k, _, e⟩ := h (tx.length + 1) (by omega)
  unfold tks
  rw [lx_all_lz, List.drop_zero, List.map_nil, e, List.append_assoc]
  exact ⟨_, rfl⟩
/-! single tokens -/
theorem lx_2_1 {c d : Int32} (h : c ≠ 60 ∧ c ≠ 62 ∧ c ≠ 61 ∧ c ≠ 33 ∧ c ≠ 38 ∧ c ≠ 124) : lx_2 c d = 1 := by
  obtain ⟨h1, h2, h3, h4, h5, h6⟩ := h
  unfold lx_2 f_9012
  by_cases q : d = 61
  · rw [if_pos q, if_neg h1, if_neg h2, if_neg h3, if_neg h4]
  · rw [if_neg q]
    by_cases e : c = d
    · rw [if_pos e, if_neg h5, if_neg h6]
    · rw [if_neg e]
theorem lx_2_q {c d : Int32} (h : c ≠ 38 ∧ c ≠ 124) (hd : d ≠ 61) : lx_2 c d = 1 := by
  unfold lx_2 f_9012
  rw [if_neg hd]
  by_cases e : c = d
  · rw [if_pos e, if_neg h.1, if_neg h.2]
  · rw [if_neg e]
theorem lx_2_n {c d : Int32} (h : c ≠ 60 ∧ c ≠ 62 ∧ c ≠ 61 ∧ c ≠ 33) (hd : c ≠ d) : lx_2 c d = 1 := by
  obtain ⟨h1, h2, h3, h4⟩ := h
  unfold lx_2 f_9012
  by_cases q : d = 61
  · rw [if_pos q, if_neg h1, if_neg h2, if_neg h3, if_neg h4]
  · rw [if_neg q, if_neg hd]
theorem lt_mark {c : Int32} {r : List Int32} (hD : ¬ isD c) (hL : ¬ isL c) (h : lx_2 c (tg r 0) = 1) : lt (c :: r) = (lx_1 c, 0, 1) := by
  unfold lt lx_tk
  rw [show tg (c :: r) 0 = c from rfl, show tg (c :: r) (0 + 1) = tg r 0 from rfl, if_neg hD, if_neg hL, if_pos h]
theorem lt_two {c d : Int32} {r : List Int32} (hD : ¬ isD c) (hL : ¬ isL c) (h : lx_2 c d ≠ 1) : lt (c :: d :: r) = (lx_2 c d, 0, 2) := by
  unfold lt lx_tk
  rw [show tg (c :: d :: r) 0 = c from rfl, show tg (c :: d :: r) (0 + 1) = d from rfl, if_neg hD, if_neg hL, if_neg h]
theorem lx_wd_e (l : List Int32) : ∀ (k j m : Nat), j ≤ m → m ≤ j + k → (∀ i, j ≤ i → i < m → isL (tg l i)) → ¬ isL (tg l m) → lx_wd l k j = m := by
  intro k
  induction k with
  | zero =>
    intro j m h1 h2 _ _
    show j = m
    omega
  | succ k ih =>
    intro j m h1 h2 h3 h4
    unfold lx_wd
    by_cases e : j = m
    · subst e
      rw [if_neg h4]
    · rw [if_pos (h3 j (Nat.le_refl _) (by omega))]
      exact ih (j + 1) m (by omega) (by omega) (fun i hi hj => h3 i (by omega) hj) h4
theorem gD_app_l' {w r : List Int32} {i : Nat} (h : i < w.length) : tg (w ++ r) i = w.getD i 0 := by
  unfold tg
  rw [List.getD_eq_getElem?_getD, List.getD_eq_getElem?_getD, List.getElem?_append_left h]
theorem tg_app_r {w r : List Int32} : tg (w ++ r) w.length = tg r 0 := by
  unfold tg
  rw [List.getD_eq_getElem?_getD, List.getD_eq_getElem?_getD, List.getElem?_append_right (Nat.le_refl _), Nat.sub_self]
theorem lt_word {w r : List Int32} (h0 : 0 < w.length) (hw : ∀ c, c ∈ w → isL c) (hr : ¬ isL (tg r 0)) : lt (w ++ r) = (lx_kw w, 0, w.length) := by
  have hi : ∀ i, i < w.length → isL (tg (w ++ r) i) := fun i hi => by
    rw [gD_app_l' hi, List.getD_eq_getElem?_getD, List.getElem?_eq_getElem hi]
    exact hw _ (List.getElem_mem hi)
  have hL := hi 0 h0
  have hD : ¬ isD (tg (w ++ r) 0) := fun q => by
    have a : ¬ (57 : Int32).toInt < (tg (w ++ r) 0).toInt := fun z => q.2 (Int32.lt_iff_toInt_lt.2 z)
    have b : ¬ (tg (w ++ r) 0).toInt < (97 : Int32).toInt := fun z => hL.1 (Int32.lt_iff_toInt_lt.2 z)
    have e1 : (57 : Int32).toInt = 57 := by decide
    have e2 : (97 : Int32).toInt = 97 := by decide
    omega
  have e : lx_wd (w ++ r) ((w ++ r).length - 0) 0 = w.length := lx_wd_e _ _ 0 w.length (Nat.zero_le _) (by rw [List.length_append]; omega) (fun i _ h => hi i h) (by rw [tg_app_r]; exact hr)
  unfold lt lx_tk
  rw [if_neg hD, if_pos hL, e, Nat.sub_zero]
  unfold lx_w
  rw [List.drop_zero, List.take_left']
  rfl
def dgt (i : Nat) : Int32 := nI (48 + i)
theorem dgt_D : ∀ i, i < 10 → isD (dgt i) ∧ ¬ isL (dgt i) ∧ ¬ isB (dgt i) ∧ dgt i ≠ 61 := by decide +kernel
theorem dgt_1 : ∀ i, i < 10 → lg_cmp (lx_st 0 (dgt i)) 2147483647 ≤ 0 := by decide +kernel
theorem dgt_2 : ∀ i, i < 10 → ∀ j, j < 10 → lg_cmp (lx_st (lx_st 0 (dgt i)) (dgt j)) 2147483647 ≤ 0 := by decide +kernel
theorem lt_d1 {i : Nat} {r : List Int32} (hi : i < 10) (hr : ¬ isD (tg r 0)) : lt (dgt i :: r) = (3, (lx_st 0 (dgt i)).toInt32, 1) := by
  have h1 := (dgt_D i hi).1
  have e : ∀ n, lx_nm (dgt i :: r) (n + 1) 0 0 = (lx_st 0 (dgt i), 1) := fun n => by
    unfold lx_nm
    rw [show tg (dgt i :: r) 0 = dgt i from rfl, if_pos h1]
    cases n with
    | zero => rfl
    | succ n =>
      unfold lx_nm
      rw [show tg (dgt i :: r) (0 + 1) = tg r 0 from rfl, if_neg hr]
  unfold lt lx_tk
  rw [show tg (dgt i :: r) 0 = dgt i from rfl, if_pos h1, show (dgt i :: r).length - 0 = r.length + 1 from rfl, e]
  dsimp only
  rw [if_pos (dgt_1 i hi)]
theorem lt_d2 {i j : Nat} {r : List Int32} (hi : i < 10) (hj : j < 10) (hr : ¬ isD (tg r 0)) : lt (dgt i :: dgt j :: r) = (3, (lx_st (lx_st 0 (dgt i)) (dgt j)).toInt32, 2) := by
  have h1 := (dgt_D i hi).1
  have h2 := (dgt_D j hj).1
  have e : ∀ n, lx_nm (dgt i :: dgt j :: r) (n + 2) 0 0 = (lx_st (lx_st 0 (dgt i)) (dgt j), 2) := fun n => by
    unfold lx_nm
    rw [show tg (dgt i :: dgt j :: r) 0 = dgt i from rfl, if_pos h1]
    unfold lx_nm
    rw [show tg (dgt i :: dgt j :: r) (0 + 1) = dgt j from rfl, if_pos h2]
    cases n with
    | zero => rfl
    | succ n =>
      unfold lx_nm
      rw [show tg (dgt i :: dgt j :: r) (0 + 1 + 1) = tg r 0 from rfl, if_neg hr]
  unfold lt lx_tk
  rw [show tg (dgt i :: dgt j :: r) 0 = dgt i from rfl, if_pos h1, show (dgt i :: dgt j :: r).length - 0 = r.length + 2 from rfl, e]
  dsimp only
  rw [if_pos (dgt_2 i hi j hj)]
/-- what may stand behind a word or a number -/
def Hd (r : List Int32) : Prop := ¬ isD (tg r 0) ∧ ¬ isL (tg r 0)
theorem LZ.m1 {c : Int32} {r : List Int32} {p : Nat} {ws : List (List Int32)} (hc : (¬ isD c ∧ ¬ isL c ∧ ¬ isB c) ∧ lx_1 c ≠ 4) (h : lx_2 c (tg r 0) = 1) : LZ (c :: r) p ws [(lx_1 c, 0, p, p + 1)] r (p + 1) ws :=
  LZ.t hc.1.2.2 (lt_mark hc.1.1 hc.1.2.1 h) hc.2 (Nat.le_refl _) rfl
theorem LZ.m2 {c d : Int32} {r : List Int32} {p : Nat} {ws : List (List Int32)} (hc : ¬ isD c ∧ ¬ isL c ∧ ¬ isB c) (h : lx_2 c d ≠ 1) (h4 : lx_2 c d ≠ 4) : LZ (c :: d :: r) p ws [(lx_2 c d, 0, p, p + 2)] r (p + 2) ws :=
  LZ.t hc.2.2 (lt_two hc.1 hc.2.1 h) h4 (by decide) rfl
theorem isL_B {c : Int32} (h : isL c) : ¬ isB c := by
  rintro (e | e) <;> subst e <;> exact absurd h (by decide)
theorem LZ.kw {c : Int32} {w r : List Int32} {p : Nat} {ws : List (List Int32)} (hw : ∀ x, x ∈ c :: w → isL x) (hr : ¬ isL (tg r 0)) (h4 : lx_kw (c :: w) ≠ 4) : LZ (c :: (w ++ r)) p ws [(lx_kw (c :: w), 0, p, p + (c :: w).length)] r (p + (c :: w).length) ws :=
  LZ.t (isL_B (hw c List.mem_cons_self)) (lt_word (w := c :: w) (Nat.succ_pos _) hw hr) h4 (by simp) (List.drop_left' (l₁ := c :: w) rfl)
theorem LZ.nm {c : Int32} {r : List Int32} {p : Nat} {ws : List (List Int32)} (hc : isL c) (hr : ¬ isL (tg r 0)) : LZ (c :: r) p ws [(4, nI (wi [c] ws), p, p + 1)] r (p + 1) (if wi [c] ws < ws.length then ws else ws ++ [[c]]) := by
  have hk : lx_kw [c] = 4 := by
    unfold lx_kw
    have n : ∀ l : List Int32, l.length ≠ 1 → ¬ [c] = l := fun l hl e => hl (by rw [← e]; rfl)
    rw [if_neg (n _ (by decide)), if_neg (n _ (by decide)), if_neg (n _ (by decide)), if_neg (n _ (by decide)), if_neg (n _ (by decide)), if_neg (n _ (by decide)), if_neg (n _ (by decide))]
  refine LZ.n (isL_B hc) (v := 0) ?_ (Nat.le_refl _) rfl rfl
  have := lt_word (w := [c]) (r := r) (Nat.succ_pos _) (fun x hx => by rw [List.mem_singleton] at hx; rw [hx]; exact hc) hr
  rw [hk] at this
  exact this
theorem LZ.d1 {i : Nat} {r : List Int32} {p : Nat} {ws : List (List Int32)} (hi : i < 10) (hr : ¬ isD (tg r 0)) : ∃ v, LZ (dgt i :: r) p ws [(3, v, p, p + 1)] r (p + 1) ws :=
  ⟨_, LZ.t (dgt_D i hi).2.2.1 (lt_d1 hi hr) (by decide) (Nat.le_refl _) rfl⟩
theorem LZ.d2 {i j : Nat} {r : List Int32} {p : Nat} {ws : List (List Int32)} (hi : i < 10) (hj : j < 10) (hr : ¬ isD (tg r 0)) : ∃ v, LZ (dgt i :: dgt j :: r) p ws [(3, v, p, p + 2)] r (p + 2) ws :=
  ⟨_, LZ.t (dgt_D i hi).2.2.1 (lt_d2 hi hj hr) (by decide) (by decide) rfl⟩
end LZS
