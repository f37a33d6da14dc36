/-! the tokens of a text: what the class makes of them -/
abbrev isB (c : Int32) : Prop := c = 32 ∨ c = 10
abbrev isD (c : Int32) : Prop := ¬ c < 48 ∧ ¬ 57 < c
abbrev isL (c : Int32) : Prop := ¬ c < 97 ∧ ¬ 122 < c
abbrev tg (tx : List Int32) (p : Nat) : Int32 := tx.getD p 0
theorem f9014_0 (c : Int32) (s : Sx) : f_9014 c s = 0 ↔ ¬ isD c := by
  unfold f_9014 isD
  by_cases h1 : c < 48
  · simp [h1]
  · by_cases h2 : 57 < c
    · simp [h1, h2]
    · simp [h1, h2]
theorem f9015_0 (c : Int32) (s : Sx) : f_9015 c s = 0 ↔ ¬ isL c := by
  unfold f_9015 isL
  by_cases h1 : c < 97
  · simp [h1]
  · by_cases h2 : 122 < c
    · simp [h1, h2]
    · simp [h1, h2]
def lx_st (v : Int64) (c : Int32) : Int64 := if 2147483648 < ((v * 10) + c.toInt64) - 48 then 2147483648 else ((v * 10) + c.toInt64) - 48
/-- the number at p, of k signs that are left -/
def lx_nm (tx : List Int32) : Nat → Int64 → Nat → Int64 × Nat
  | 0, v, p => (v, p)
  | k + 1, v, p => if isD (tg tx p) then lx_nm tx k (lx_st v (tg tx p)) (p + 1) else (v, p)
def lx_wd (tx : List Int32) : Nat → Nat → Nat
  | 0, p => p
  | k + 1, p => if isL (tg tx p) then lx_wd tx k (p + 1) else p
theorem lx_nm_b (tx : List Int32) (k : Nat) (v : Int64) (p : Nat) : p ≤ (lx_nm tx k v p).2 ∧ (lx_nm tx k v p).2 ≤ p + k := by
  induction k generalizing v p with
  | zero => exact ⟨Nat.le_refl _, Nat.le_refl _⟩
  | succ k ih =>
    unfold lx_nm
    split
    · have := ih (lx_st v (tg tx p)) (p + 1)
      omega
    · omega
theorem lx_wd_b (tx : List Int32) (k : Nat) (p : Nat) : p ≤ lx_wd tx k p ∧ lx_wd tx k p ≤ p + k := by
  induction k generalizing p with
  | zero => exact ⟨Nat.le_refl _, Nat.le_refl _⟩
  | succ k ih =>
    unfold lx_wd
    split
    · have := ih (p + 1)
      omega
    · omega
def lx_w (tx : List Int32) (p z : Nat) : List Int32 := (tx.drop p).take z
def lx_kw (w : List Int32) : Int32 :=
  if w = ab_tx 0 then 5 else if w = ab_tx 1 then 6 else if w = ab_tx 2 then 7 else if w = ab_tx 3 then 8 else if w = ab_tx 4 then 9 else if w = ab_tx 5 then 10 else if w = ab_tx 6 then 11 else 4
def lx_2 (a b : Int32) : Int32 := f_9012 a b (fun _ => [], fun _ => 0)
def lx_1 (a : Int32) : Int32 := f_9013 a (fun _ => [], fun _ => 0)
/-- the token at p, where no blank lies: kind, value (of a number), end -/
def lx_tk (tx : List Int32) (p : Nat) : Int32 × Int32 × Nat :=
  if isD (tg tx p) then (if lg_cmp (lx_nm tx (tx.length - p) 0 p).1 2147483647 ≤ 0 then 3 else 2, (lx_nm tx (tx.length - p) 0 p).1.toInt32, (lx_nm tx (tx.length - p) 0 p).2)
  else if isL (tg tx p) then (lx_kw (lx_w tx p (lx_wd tx (tx.length - p) p - p)), 0, lx_wd tx (tx.length - p) p)
  else if lx_2 (tg tx p) (tg tx (p + 1)) = 1 then (lx_1 (tg tx p), 0, p + 1)
  else (lx_2 (tg tx p) (tg tx (p + 1)), 0, p + 2)
/-- the number of a name: names are told by place and size -/
def lx_ix (tx : List Int32) (w : List Int32) : List (Nat × Nat) → Nat
  | [] => 0
  | q :: r => if lx_w tx q.1 q.2 = w then 0 else lx_ix tx w r + 1
abbrev Tk : Type := Int32 × Int32 × Nat × Nat
/-- the tokens from p on, with names that are known: (kind, value, place, end) -/
def lx_all (tx : List Int32) : Nat → Nat → List (Nat × Nat) → List Tk
  | 0, _, _ => []
  | k + 1, p, ns =>
    if tx.length ≤ p then []
    else if isB (tg tx p) then lx_all tx k (p + 1) ns
    else if (lx_tk tx p).1 = 4 then
      (4, nI (lx_ix tx (lx_w tx p ((lx_tk tx p).2.2 - p)) ns), p, (lx_tk tx p).2.2) ::
        lx_all tx k (lx_tk tx p).2.2 (if lx_ix tx (lx_w tx p ((lx_tk tx p).2.2 - p)) ns < ns.length then ns else ns ++ [(p, (lx_tk tx p).2.2 - p)])
    else ((lx_tk tx p).1, (lx_tk tx p).2.1, p, (lx_tk tx p).2.2) :: lx_all tx k (lx_tk tx p).2.2 ns
theorem tx_g {s : Sx} {p : Nat} (h : p < 100000) : xg (s.1 25) (nI p) = tg (s.1 25) p := xg_n h
theorem le_len {s : Sx} {p : Nat} (hn : (s.1 25).length ≤ 300) (hp : p ≤ 400) : nI (s.1 25).length ≤ nI p ↔ (s.1 25).length ≤ p := nI_leI (by omega) (by omega)
theorem nm_9005 {s : Sx} (hn : (s.1 25).length ≤ 300) (p0 : Int32) : ∀ (k m p : Nat) (v : Int64), (s.1 25).length = p + k → k < m →
    f_9005_L5 m p0 v (nI p) s = some (f_9004 (if lg_cmp (lx_nm (s.1 25) k v p).1 2147483647 ≤ 0 then 3 else 2) (lx_nm (s.1 25) k v p).1.toInt32 p0 s, nI (lx_nm (s.1 25) k v p).2) := by
  have fin : ∀ (v : Int64) (l5 : Int32), f_9005_J56 p0 v l5 s = some (f_9004 (if lg_cmp v 2147483647 ≤ 0 then 3 else 2) v.toInt32 p0 s, l5) := by
    intro v l5
    unfold f_9005_J56 f_9005_J70
    split
    · rfl
    · rfl
  intro k
  induction k with
  | zero =>
    intro m p v hk hm
    obtain ⟨m, rfl⟩ : ∃ j, m = j + 1 := ⟨m - 1, by omega⟩
    rw [f_9005_L5, if_pos ((le_len hn (by omega)).2 (by omega)), fin]
    rfl
  | succ k ih =>
    intro m p v hk hm
    obtain ⟨m, rfl⟩ : ∃ j, m = j + 1 := ⟨m - 1, by omega⟩
    rw [f_9005_L5, if_neg (fun q => by have := (le_len hn (by omega)).1 q; omega), tx_g (by omega)]
    unfold lx_nm
    by_cases hd : isD (tg (s.1 25) p)
    · rw [if_neg (fun q => (f9014_0 _ _).1 q hd), if_pos hd, nI_1]
      exact ih m (p + 1) _ (by omega) (by omega)
    · rw [if_pos ((f9014_0 _ _).2 hd), if_neg hd, fin]
theorem same_L (s : Sx) (a b z : Nat) (hn : (s.1 25).length ≤ 300) (ha : a + z ≤ (s.1 25).length) (hb : b + z ≤ (s.1 25).length) : ∀ (k m i : Nat), z = i + k → k < m →
    f_9010_L3 m (nI a) (nI b) (nI z) (nI i) s = some (if lx_w (s.1 25) (a + i) k = lx_w (s.1 25) (b + i) k then 1 else 0) := by
  intro k
  induction k with
  | zero =>
    intro m i hz hm
    obtain ⟨m, rfl⟩ : ∃ j, m = j + 1 := ⟨m - 1, by omega⟩
    rw [f_9010_L3, if_pos (nI_le (by omega) (by omega)), if_pos (by simp [lx_w])]
  | succ k ih =>
    intro m i hz hm
    obtain ⟨m, rfl⟩ : ∃ j, m = j + 1 := ⟨m - 1, by omega⟩
    have hw : ∀ x : Nat, x + z ≤ (s.1 25).length → lx_w (s.1 25) (x + i) (k + 1) = tg (s.1 25) (x + i) :: lx_w (s.1 25) (x + (i + 1)) k := by
      intro x hx
      unfold lx_w tg
      rw [List.drop_eq_getElem_cons (by omega), List.take_succ_cons, List.getD_eq_getElem?_getD, List.getElem?_eq_getElem (by omega)]
      rfl
    rw [f_9010_L3, if_neg (nI_ge (by omega) (by omega)), nI_add, nI_add, tx_g (by omega), tx_g (by omega), hw a ha, hw b hb]
    by_cases q : tg (s.1 25) (a + i) = tg (s.1 25) (b + i)
    · rw [if_pos q, nI_1, ih m (i + 1) (by omega) (by omega), q]
      simp
    · rw [if_neg q, if_neg (fun e => q (List.cons.inj e).1)]
theorem same_9010 (s : Sx) (a b z : Nat) (hn : (s.1 25).length ≤ 300) (ha : a + z ≤ (s.1 25).length) (hb : b + z ≤ (s.1 25).length) :
    f_9010 (nI a) (nI b) (nI z) s = some (if lx_w (s.1 25) a z = lx_w (s.1 25) b z then 1 else 0) := by
  have := same_L s a b z hn ha hb z 400 0 (by omega) (by omega)
  exact this
theorem lx_w_len {tx : List Int32} {a z : Nat} (h : a + z ≤ tx.length) : (lx_w tx a z).length = z := by
  unfold lx_w
  rw [List.length_take, List.length_drop]
  omega
/-- names as rows -/
def NsR (s : Sx) (ns : List (Nat × Nat)) : Prop := s.1 3 = ns.map (fun q => nI q.1) ∧ s.1 4 = ns.map (fun q => nI q.2) ∧ ∀ q, q ∈ ns → q.1 + q.2 ≤ (s.1 25).length
theorem gD_map {α : Type} (f : α → Int32) (l : List α) (i : Nat) (d : α) (h : i < l.length) : (l.map f).getD i 0 = f (l.getD i d) := by
  simp [List.getD_eq_getElem?_getD, h]
theorem nn_L (s : Sx) (ns : List (Nat × Nat)) (hN : NsR s ns) (p z : Nat) (hn : (s.1 25).length ≤ 300) (hp : p + z ≤ (s.1 25).length) (hl : ns.length < 300) : ∀ (k m i : Nat), ns.length = i + k → k < m →
    f_9009_L3 m (nI p) (nI z) (nI i) s = some (if lx_ix (s.1 25) (lx_w (s.1 25) p z) (ns.drop i) < k then (s, nI (i + lx_ix (s.1 25) (lx_w (s.1 25) p z) (ns.drop i)))
      else (sB (sB s 3 (s.1 3 ++ [nI p])) 4 (s.1 4 ++ [nI z]), nI ns.length)) := by
  have h3 : (s.1 3).length = ns.length := by rw [hN.1, List.length_map]
  have h4 : (s.1 4).length = ns.length := by rw [hN.2.1, List.length_map]
  intro k
  induction k with
  | zero =>
    intro m i hz hm
    obtain ⟨m, rfl⟩ : ∃ j, m = j + 1 := ⟨m - 1, by omega⟩
    rw [f_9009_L3, if_pos (by rw [h3]; exact nI_le (by omega) (by omega)), if_neg (by omega)]
    have e1 : xadd (ev_cap 3) (s.1 3) (nI p) = s.1 3 ++ [nI p] := if_pos (by rw [h3]; exact hl)
    have e2 : xadd (ev_cap 4) (s.1 4) (nI z) = s.1 4 ++ [nI z] := if_pos (by rw [h4]; exact hl)
    show some (sB (sB s 3 (xadd (ev_cap 3) (s.1 3) (nI p))) 4 (xadd (ev_cap 4) (s.1 4) (nI z)), nI (xadd (ev_cap 3) (s.1 3) (nI p)).length - 1) = _
    rw [e1, e2, List.length_append, h3, List.length_singleton, nI_pred]
  | succ k ih =>
    intro m i hz hm
    obtain ⟨m, rfl⟩ : ∃ j, m = j + 1 := ⟨m - 1, by omega⟩
    have hi : i < ns.length := by omega
    have hd : ns.drop i = ns[i] :: ns.drop (i + 1) := List.drop_eq_getElem_cons hi
    have g3 : xg (s.1 3) (nI i) = nI ns[i].1 := by
      rw [xg_n (by omega), hN.1, List.getD_eq_getElem?_getD, List.getElem?_map, List.getElem?_eq_getElem hi]
      rfl
    have g4 : xg (s.1 4) (nI i) = nI ns[i].2 := by
      rw [xg_n (by omega), hN.2.1, List.getD_eq_getElem?_getD, List.getElem?_map, List.getElem?_eq_getElem hi]
      rfl
    have hq := hN.2.2 ns[i] (List.getElem_mem hi)
    rw [f_9009_L3, if_neg (by rw [h3]; exact nI_ge hi (by omega)), g4, g3, hd]
    have hx : lx_ix (s.1 25) (lx_w (s.1 25) p z) (ns[i] :: ns.drop (i + 1)) = if lx_w (s.1 25) ns[i].1 ns[i].2 = lx_w (s.1 25) p z then 0 else lx_ix (s.1 25) (lx_w (s.1 25) p z) (ns.drop (i + 1)) + 1 := rfl
    have go : ¬ lx_w (s.1 25) ns[i].1 ns[i].2 = lx_w (s.1 25) p z → f_9009_L3 m (nI p) (nI z) (nI i + 1) s = some (if lx_ix (s.1 25) (lx_w (s.1 25) p z) (ns[i] :: ns.drop (i + 1)) < k + 1 then (s, nI (i + lx_ix (s.1 25) (lx_w (s.1 25) p z) (ns[i] :: ns.drop (i + 1)))) else (sB (sB s 3 (s.1 3 ++ [nI p])) 4 (s.1 4 ++ [nI z]), nI ns.length)) := by
      intro e
      rw [nI_1, ih m (i + 1) (by omega) (by omega), hx, if_neg e, show i + 1 + lx_ix (s.1 25) (lx_w (s.1 25) p z) (ns.drop (i + 1)) = i + (lx_ix (s.1 25) (lx_w (s.1 25) p z) (ns.drop (i + 1)) + 1) by omega]
      by_cases w : lx_ix (s.1 25) (lx_w (s.1 25) p z) (ns.drop (i + 1)) < k
      · rw [if_pos w, if_pos (by omega)]
      · rw [if_neg w, if_neg (by omega)]
    by_cases e2 : ns[i].2 = z
    · rw [if_pos (by rw [e2]), same_9010 s ns[i].1 p z hn (by omega) hp]
      by_cases e : lx_w (s.1 25) ns[i].1 ns[i].2 = lx_w (s.1 25) p z
      · rw [e2] at e
        have hx0 : lx_ix (s.1 25) (lx_w (s.1 25) p z) (ns[i] :: ns.drop (i + 1)) = 0 := by rw [hx, if_pos (by rw [e2]; exact e)]
        rw [bP_some, if_pos e, if_neg (by decide), hx0, if_pos (by omega)]
        rfl
      · have e3 : ¬ lx_w (s.1 25) ns[i].1 z = lx_w (s.1 25) p z := by
          rw [e2] at e
          exact e
        rw [bP_some, if_neg e3, if_pos rfl]
        exact go e
    · rw [if_neg (by rw [nI_eq (by omega) (by omega)]; exact e2)]
      refine go (fun e => e2 ?_)
      have := congrArg List.length e
      rw [lx_w_len hq, lx_w_len hp] at this
      exact this
theorem lx_w_s {tx : List Int32} {a k : Nat} (h : a < tx.length) : lx_w tx a (k + 1) = tg tx a :: lx_w tx (a + 1) k := by
  unfold lx_w tg
  rw [List.drop_eq_getElem_cons h, List.take_succ_cons, List.getD_eq_getElem?_getD, List.getElem?_eq_getElem h]
  rfl
theorem kw_L (s : Sx) (p j : Nat) (x : Int32) (hn : (s.1 25).length ≤ 300) (hj : (ab_tx j).length ≤ 10) (hp : p + (ab_tx j).length ≤ (s.1 25).length) : ∀ (k m i : Nat), (ab_tx j).length = i + k → k < m →
    f_9008_L13 m (nI p) x j (nI i) s = some (if lx_w (s.1 25) (p + i) k = (ab_tx j).drop i then 1 else 0) := by
  intro k
  induction k with
  | zero =>
    intro m i hz hm
    obtain ⟨m, rfl⟩ : ∃ y, m = y + 1 := ⟨m - 1, by omega⟩
    rw [f_9008_L13, if_pos (show Int32.ofNat (ab_tx j).length ≤ nI i from nI_le (by omega) (by omega)), if_pos]
    rw [List.drop_eq_nil_of_le (by omega)]
    simp [lx_w]
  | succ k ih =>
    intro m i hz hm
    obtain ⟨m, rfl⟩ : ∃ y, m = y + 1 := ⟨m - 1, by omega⟩
    have hi : i < (ab_tx j).length := by omega
    rw [f_9008_L13, if_neg (show ¬ Int32.ofNat (ab_tx j).length ≤ nI i from nI_ge hi (by omega)), gd_e (by constructor <;> rw [nI_T (by omega)] <;> omega), nI_add, tx_g (by omega), nI_C (by omega), lx_w_s (by omega), List.drop_eq_getElem_cons hi, List.getD_eq_getElem?_getD, List.getElem?_eq_getElem hi]
    show (if tg (s.1 25) (p + i) = (ab_tx j)[i] then _ else _) = _
    by_cases q : tg (s.1 25) (p + i) = (ab_tx j)[i]
    · rw [if_pos q, nI_1, ih m (i + 1) (by omega) (by omega), q]
      simp only [List.cons.injEq, true_and, Nat.add_assoc]
    · rw [if_neg q, if_neg (fun e => q (List.cons.inj e).1)]
theorem kw_9008 (s : Sx) (p z j : Nat) (hn : (s.1 25).length ≤ 300) (hj : (ab_tx j).length ≤ 10) (hp : p + z ≤ (s.1 25).length) :
    f_9008 (nI p) (nI z) j s = some (if lx_w (s.1 25) p z = ab_tx j then 1 else 0) := by
  unfold f_9008
  by_cases q : z = (ab_tx j).length
  · rw [if_pos (by rw [q]; rfl)]
    have := kw_L s p j (nI z) hn hj (by omega) (ab_tx j).length 20 0 (by omega) (by omega)
    rw [q]
    rw [q] at this
    exact this
  · have hq : ¬ nI z = Int32.ofNat (ab_tx j).length := by
      show ¬ nI z = nI (ab_tx j).length
      rw [nI_eq (by omega) (by omega)]
      exact q
    rw [if_neg hq, if_neg (fun e => q (by rw [← e, lx_w_len hp]))]
theorem kw_9007 (s : Sx) (p z : Nat) (hn : (s.1 25).length ≤ 300) (hp : p + z ≤ (s.1 25).length) : f_9007 (nI p) (nI z) s = some (lx_kw (lx_w (s.1 25) p z)) := by
  unfold f_9007
  rw [kw_9008 s p z 0 hn (by decide) hp, kw_9008 s p z 1 hn (by decide) hp, kw_9008 s p z 2 hn (by decide) hp, kw_9008 s p z 3 hn (by decide) hp, kw_9008 s p z 4 hn (by decide) hp, kw_9008 s p z 5 hn (by decide) hp, kw_9008 s p z 6 hn (by decide) hp]
  simp only [bP_some]
  unfold lx_kw
  generalize lx_w (s.1 25) p z = w
  by_cases h0 : w = ab_tx 0
  · subst h0
    rfl
  by_cases h1 : w = ab_tx 1
  · subst h1
    rfl
  by_cases h2 : w = ab_tx 2
  · subst h2
    rfl
  by_cases h3 : w = ab_tx 3
  · subst h3
    rfl
  by_cases h4 : w = ab_tx 4
  · subst h4
    rfl
  by_cases h5 : w = ab_tx 5
  · subst h5
    rfl
  by_cases h6 : w = ab_tx 6
  · subst h6
    rfl
  simp [h0, h1, h2, h3, h4, h5, h6]
/-- the tokens so far, as rows -/
def tkR (s : Sx) (ts : List Tk) : Prop := s.1 0 = ts.map (fun t => t.1) ∧ s.1 1 = ts.map (fun t => t.2.1) ∧ s.1 2 = ts.map (fun t => nI t.2.2.1)
/-- nothing but the tokens has changed -/
def tkF (s s' : Sx) : Prop := s'.2 = s.2 ∧ ∀ k, 5 ≤ k → s'.1 k = s.1 k
theorem tk_add {s : Sx} {ts : List Tk} {k v : Int32} {p : Nat} {e : Nat} (h : tkR s ts) (hl : ts.length ≤ 300) : tkR (f_9004 k v (nI p) s) (ts ++ [(k, v, p, e)]) ∧ tkF s (f_9004 k v (nI p) s) ∧ (f_9004 k v (nI p) s).1 3 = s.1 3 ∧ (f_9004 k v (nI p) s).1 4 = s.1 4 := by
  have e0 : (s.1 0).length < 301 := by rw [h.1, List.length_map]; omega
  have e1 : (s.1 1).length < 301 := by rw [h.2.1, List.length_map]; omega
  have e2 : (s.1 2).length < 301 := by rw [h.2.2, List.length_map]; omega
  refine ⟨⟨?_, ?_, ?_⟩, ⟨rfl, ?_⟩, rfl, rfl⟩
  · show xadd 301 (s.1 0) k = _
    rw [show xadd 301 (s.1 0) k = s.1 0 ++ [k] from if_pos e0, h.1]
    simp
  · show xadd 301 (s.1 1) v = _
    rw [show xadd 301 (s.1 1) v = s.1 1 ++ [v] from if_pos e1, h.2.1]
    simp
  · show xadd 301 (s.1 2) (nI p) = _
    rw [show xadd 301 (s.1 2) (nI p) = s.1 2 ++ [nI p] from if_pos e2, h.2.2]
    simp
  · intro j hj
    show (if j = 2 then _ else if j = 1 then _ else if j = 0 then _ else s.1 j) = _
    rw [if_neg (by omega), if_neg (by omega), if_neg (by omega)]
theorem wd_9006 {s : Sx} (hn : (s.1 25).length ≤ 300) (p0 : Int32) : ∀ (k m p : Nat), (s.1 25).length = p + k → k < m →
    f_9006_L2 m p0 (nI p) s = f_9006_J27 p0 (nI (lx_wd (s.1 25) k p)) s := by
  intro k
  induction k with
  | zero =>
    intro m p hk hm
    obtain ⟨m, rfl⟩ : ∃ j, m = j + 1 := ⟨m - 1, by omega⟩
    rw [f_9006_L2, if_pos ((le_len hn (by omega)).2 (by omega))]
    rfl
  | succ k ih =>
    intro m p hk hm
    obtain ⟨m, rfl⟩ : ∃ j, m = j + 1 := ⟨m - 1, by omega⟩
    rw [f_9006_L2, if_neg (fun q => by have := (le_len hn (by omega)).1 q; omega), tx_g (by omega)]
    unfold lx_wd
    by_cases hd : isL (tg (s.1 25) p)
    · rw [if_neg (fun q => (f9015_0 _ _).1 q hd), if_pos hd, nI_1]
      exact ih m (p + 1) (by omega) (by omega)
    · rw [if_pos ((f9015_0 _ _).2 hd), if_neg hd]
theorem lx_ix_le (tx w : List Int32) (ns : List (Nat × Nat)) : lx_ix tx w ns ≤ ns.length := by
  induction ns with
  | nil => exact Nat.le_refl _
  | cons q r ih =>
    unfold lx_ix
    split
    · exact Nat.zero_le _
    · exact Nat.succ_le_succ ih
theorem lx_tk_b {tx : List Int32} {p : Nat} (h : p < tx.length) : p < (lx_tk tx p).2.2 := by
  unfold lx_tk
  split
  · rename_i hd
    have : lx_nm tx (tx.length - p) 0 p = lx_nm tx (tx.length - p - 1) (lx_st 0 (tg tx p)) (p + 1) := by
      rw [show tx.length - p = (tx.length - p - 1) + 1 by omega]
      conv => lhs; unfold lx_nm
      rw [if_pos hd]
      rfl
    rw [this]
    have := (lx_nm_b tx (tx.length - p - 1) (lx_st 0 (tg tx p)) (p + 1)).1
    show p < (lx_nm tx (tx.length - p - 1) (lx_st 0 (tg tx p)) (p + 1)).2
    omega
  · split
    · rename_i hd
      have : lx_wd tx (tx.length - p) p = lx_wd tx (tx.length - p - 1) (p + 1) := by
        rw [show tx.length - p = (tx.length - p - 1) + 1 by omega]
        conv => lhs; unfold lx_wd
        rw [if_pos hd]
        rfl
      rw [this]
      have := (lx_wd_b tx (tx.length - p - 1) (p + 1)).1
      show p < lx_wd tx (tx.length - p - 1) (p + 1)
      omega
    · split <;> show p < p + _ <;> omega
theorem ite_P {P : Int32 → Prop} {c : Prop} [Decidable c] {a b : Int32} (ha : P a) (hb : P b) : P (if c then a else b) := by
  split
  · exact ha
  · exact hb
theorem lx_2_nz {a b : Int32} (h : lx_2 a b ≠ 1) : b ≠ 0 ∧ lx_2 a b ≠ 4 := by
  refine ⟨?_, ?_⟩
  · rintro rfl
    apply h
    unfold lx_2 f_9012
    rw [if_neg (by decide)]
    split
    · rename_i q
      subst q
      decide
    · rfl
  · unfold lx_2 f_9012 at *
    repeat' split
    all_goals first | decide | skip
theorem lx_1_n4 (a : Int32) : lx_1 a ≠ 4 := by
  unfold lx_1 f_9013
  repeat (refine ite_P (P := fun x => x ≠ 4) (by decide) ?_)
  decide
theorem lx_tk_e {tx : List Int32} {p : Nat} (h : p < tx.length) : (lx_tk tx p).2.2 ≤ tx.length := by
  unfold lx_tk
  split
  · have := (lx_nm_b tx (tx.length - p) 0 p).2
    show (lx_nm tx (tx.length - p) 0 p).2 ≤ _
    omega
  · split
    · have := (lx_wd_b tx (tx.length - p) p).2
      show lx_wd tx (tx.length - p) p ≤ _
      omega
    · split
      · show p + 1 ≤ _
        omega
      · rename_i q
        have := (lx_2_nz q).1
        show p + 2 ≤ _
        rcases Nat.lt_or_ge (p + 1) tx.length with w | w
        · omega
        · exfalso
          apply this
          unfold tg
          rw [List.getD_eq_getElem?_getD, List.getElem?_eq_none w]
          rfl
theorem scan_L {tx : List Int32} (hn : tx.length ≤ 300) : ∀ (k m p l3 : Nat) (s : Sx) (ts : List Tk) (ns : List (Nat × Nat)), s.1 25 = tx → tx.length < p + k → k < m + 1 → p ≤ tx.length → tkR s ts → ts.length ≤ p → NsR s ns → ns.length ≤ p → l3 ≤ p →
    ∃ s' ns', f_9001_L39 m (nI p) (nI l3) s = some s' ∧ tkR s' (ts ++ lx_all tx k p ns ++ [(0, 0, tx.length, tx.length)]) ∧ tkF s s' ∧ NsR s' ns' := by
  intro k
  induction k with
  | zero => intro m p l3 s ts ns h1 h2 h3 h4; omega
  | succ k ih =>
    intro m p l3 s ts ns h1 h2 h3 hp hT hTl hN hNl hl
    obtain ⟨m, rfl⟩ : ∃ j, m = j + 1 := ⟨m - 1, by omega⟩
    have hn1 : (s.1 25).length ≤ 300 := by rw [h1]; exact hn
    rw [f_9001_L39]
    unfold lx_all
    by_cases hpe : tx.length ≤ p
    · rw [if_pos hpe]
      have hJ : ∀ x y, f_9001_J130 x y s = some (f_9004 0 0 (nI tx.length) s) := by
        intro x y
        unfold f_9001_J130
        rw [h1]
        rfl
      obtain ⟨w1, w2, w3, w4⟩ := tk_add (k := 0) (v := 0) (p := tx.length) (e := tx.length) hT (by omega)
      refine ⟨f_9004 0 0 (nI tx.length) s, ns, ?_, by rw [List.append_nil]; exact w1, w2, ?_⟩
      · rw [hJ, if_pos (show nI (s.1 25).length ≤ nI p by rw [h1]; exact nI_le hpe (by omega))]
        split <;> rfl
      · unfold NsR
        rw [w3, w4, w2.2 25 (by decide)]
        exact hN
    · have h300 : ¬ (300 : Int32) ≤ nI l3 := nI_ge (a := l3) (b := 300) (by omega) (by decide)
      rw [if_neg hpe, if_neg h300, if_neg (by rw [h1]; exact nI_ge (by omega) (by omega)), tx_g (by omega), h1]
      by_cases hb : isB (tg tx p)
      · rw [if_pos hb]
        have := ih m (p + 1) (l3 + 1) s ts ns h1 (by omega) (by omega) (by omega) hT (by omega) hN (by omega) (by omega)
        rw [nI_1, nI_1]
        rcases hb with q | q
        · rw [if_pos q]
          exact this
        · rw [if_neg (by rw [q]; decide), if_pos q]
          exact this
      · rw [if_neg hb, if_neg (fun q => hb (Or.inl q)), if_neg (fun q => hb (Or.inr q))]
        have hpl : p < tx.length := by omega
        have hb1 := lx_tk_b hpl
        have hb2 := lx_tk_e hpl
        -- a token that is no name
        have plain : ∀ (kk v : Int32) (e : Nat), lx_tk tx p = (kk, v, e) → kk ≠ 4 → ∃ s' ns', f_9001_L39 m (nI e) (nI (l3 + 1)) (f_9004 kk v (nI p) s) = some s' ∧
            tkR s' (ts ++ (if (lx_tk tx p).1 = 4 then (4, nI (lx_ix tx (lx_w tx p ((lx_tk tx p).2.2 - p)) ns), p, (lx_tk tx p).2.2) :: lx_all tx k (lx_tk tx p).2.2 (if lx_ix tx (lx_w tx p ((lx_tk tx p).2.2 - p)) ns < ns.length then ns else ns ++ [(p, (lx_tk tx p).2.2 - p)]) else ((lx_tk tx p).1, (lx_tk tx p).2.1, p, (lx_tk tx p).2.2) :: lx_all tx k (lx_tk tx p).2.2 ns) ++ [(0, 0, tx.length, tx.length)]) ∧ tkF s s' ∧ NsR s' ns' := by
          intro kk v e ht hk
          rw [ht] at hb1 hb2 ⊢
          rw [if_neg hk]
          obtain ⟨w1, w2, w3, w4⟩ := tk_add (k := kk) (v := v) (p := p) (e := e) hT (by omega)
          obtain ⟨s', ns', u1, u2, u3, u4⟩ := ih m e (l3 + 1) (f_9004 kk v (nI p) s) (ts ++ [(kk, v, p, e)]) ns ((w2.2 25 (by decide)).trans h1) (by show tx.length < e + k; have : p < e := hb1; omega) (by omega) hb2 w1 (by rw [List.length_append]; have : p < e := hb1; show ts.length + 1 ≤ e; omega) (by unfold NsR; rw [w3, w4, w2.2 25 (by decide)]; exact hN) (by have : p < e := hb1; omega) (by have : p < e := hb1; omega)
          refine ⟨s', ns', u1, ?_, ⟨u3.1.trans w2.1, fun j hj => (u3.2 j hj).trans (w2.2 j hj)⟩, u4⟩
          rw [List.append_assoc ts] at u2
          exact u2
        by_cases hd : isD (tg tx p)
        · rw [if_neg (fun q => (f9014_0 _ _).1 q hd)]
          unfold f_9005
          have q := nm_9005 hn1 (nI p) (tx.length - p) 400 p 0 (by rw [h1]; omega) (by omega)
          rw [h1] at q
          rw [show (0 : Int64) = 0 from rfl] at q
          rw [q, bO_some, nI_1]
          refine plain _ _ _ ?_ ?_
          · unfold lx_tk
            rw [if_pos hd]
          · split <;> decide
        · rw [if_pos ((f9014_0 _ _).2 hd)]
          by_cases hl2 : isL (tg tx p)
          · rw [if_neg (fun q => (f9015_0 _ _).1 q hl2)]
            have ht : lx_tk tx p = (lx_kw (lx_w tx p (lx_wd tx (tx.length - p) p - p)), 0, lx_wd tx (tx.length - p) p) := by
              unfold lx_tk
              rw [if_neg hd, if_pos hl2]
            have hb3 := lx_wd_b tx (tx.length - p) p
            unfold f_9006
            rw [wd_9006 hn1 (nI p) (tx.length - p) 400 p (by rw [h1]; omega) (by omega), h1]
            generalize he : lx_wd tx (tx.length - p) p = e at *
            unfold f_9006_J27
            have hsub : nI e - nI p = nI (e - p) := by
              have : nI e = nI (e - p) + nI p := by rw [nI_add]; congr 1; omega
              rw [this, Int32.add_sub_cancel]
            rw [hsub, kw_9007 s p (e - p) hn1 (by rw [h1]; omega), bP_some, h1]
            by_cases h4 : lx_kw (lx_w tx p (e - p)) = 4
            · rw [if_pos h4]
              have hnn := nn_L s ns hN p (e - p) hn1 (by rw [h1]; omega) (by omega) ns.length 400 0 (by omega) (by omega)
              unfold f_9009
              rw [show (0 : Int32) = nI 0 from rfl, hnn, List.drop_zero, h1, ht]
              show ∃ s' ns', _ ∧ tkR s' (ts ++ (if lx_kw (lx_w tx p (e - p)) = 4 then _ else _) ++ _) ∧ _ ∧ _
              rw [if_pos h4]
              show ∃ s' ns', _ ∧ tkR s' (ts ++ ((4, nI (lx_ix tx (lx_w tx p (e - p)) ns), p, e) :: lx_all tx k e (if lx_ix tx (lx_w tx p (e - p)) ns < ns.length then ns else ns ++ [(p, e - p)])) ++ _) ∧ _ ∧ _
              have hpe2 : p < e := by rw [ht] at hb1; exact hb1
              by_cases hix : lx_ix tx (lx_w tx p (e - p)) ns < ns.length
              · rw [if_pos hix, if_pos hix, bO_some, bS_eq, bO_some, nI_1, Nat.zero_add]
                obtain ⟨w1, w2, w3, w4⟩ := tk_add (k := lx_kw (lx_w tx p (e - p))) (v := nI (lx_ix tx (lx_w tx p (e - p)) ns)) (p := p) (e := e) hT (by omega)
                obtain ⟨s', ns', u1, u2, u3, u4⟩ := ih m e (l3 + 1) _ _ ns ((w2.2 25 (by decide)).trans h1) (by omega) (by omega) (by omega) w1 (by rw [List.length_append]; show ts.length + 1 ≤ e; omega) (by unfold NsR; rw [w3, w4, w2.2 25 (by decide)]; exact hN) (by omega) (by omega)
                refine ⟨s', ns', u1, ?_, ⟨u3.1.trans w2.1, fun j hj => (u3.2 j hj).trans (w2.2 j hj)⟩, u4⟩
                rw [List.append_assoc ts, h4] at u2
                exact u2
              · rw [if_neg hix, if_neg hix, bO_some, bS_eq, bO_some, nI_1]
                have hixe : lx_ix tx (lx_w tx p (e - p)) ns = ns.length := by
                  have := lx_ix_le tx (lx_w tx p (e - p)) ns
                  omega
                rw [hixe]
                generalize hs1 : sB (sB s 3 (s.1 3 ++ [nI p])) 4 (s.1 4 ++ [nI (e - p)]) = s1
                have r3 : s1.1 3 = s.1 3 ++ [nI p] := by rw [← hs1]; rfl
                have r4 : s1.1 4 = s.1 4 ++ [nI (e - p)] := by rw [← hs1]; rfl
                have r25 : s1.1 25 = tx := by rw [← hs1]; exact h1
                have hT1 : tkR s1 ts := by rw [← hs1]; exact hT
                have hF1 : tkF s s1 := by
                  rw [← hs1]
                  refine ⟨rfl, fun j hj => ?_⟩
                  show (if j = 4 then _ else if j = 3 then _ else s.1 j) = _
                  rw [if_neg (by omega), if_neg (by omega)]
                have hN1 : NsR s1 (ns ++ [(p, e - p)]) := by
                  refine ⟨?_, ?_, ?_⟩
                  · rw [r3, hN.1]; simp
                  · rw [r4, hN.2.1]; simp
                  · intro q hq
                    rw [r25]
                    rcases List.mem_append.1 hq with w | w
                    · have := hN.2.2 q w
                      rw [h1] at this
                      exact this
                    · rw [List.mem_singleton.1 w]
                      show p + (e - p) ≤ _
                      omega
                obtain ⟨w1, w2, w3, w4⟩ := tk_add (k := lx_kw (lx_w tx p (e - p))) (v := nI ns.length) (p := p) (e := e) hT1 (by omega)
                obtain ⟨s', ns', u1, u2, u3, u4⟩ := ih m e (l3 + 1) _ _ (ns ++ [(p, e - p)]) ((w2.2 25 (by decide)).trans r25) (by omega) (by omega) (by omega) w1 (by rw [List.length_append]; show ts.length + 1 ≤ e; omega) (by unfold NsR; rw [w3, w4, w2.2 25 (by decide)]; exact hN1) (by rw [List.length_append]; show ns.length + 1 ≤ e; omega) (by omega)
                refine ⟨s', ns', u1, ?_, ⟨(u3.1.trans w2.1).trans hF1.1, fun j hj => ((u3.2 j hj).trans (w2.2 j hj)).trans (hF1.2 j hj)⟩, u4⟩
                rw [List.append_assoc ts, h4] at u2
                exact u2
            · rw [if_neg h4, bS_eq, bO_some, nI_1]
              exact plain _ _ _ ht h4
          · rw [if_pos ((f9015_0 _ _).2 hl2)]
            unfold f_9011
            rw [nI_1, tx_g (by omega), tx_g (by omega), h1]
            by_cases h21 : lx_2 (tg tx p) (tg tx (p + 1)) = 1
            · rw [if_pos (show f_9012 (tg tx p) (tg tx (p + 1)) s = 1 from h21)]
              show ∃ s' ns', f_9001_L39 m (nI (p + 1)) (nI l3 + 1) (f_9004 (lx_1 (tg tx p)) 0 (nI p) s) = _ ∧ _
              rw [nI_1]
              refine plain _ _ _ ?_ (lx_1_n4 _)
              unfold lx_tk
              rw [if_neg hd, if_neg hl2, if_pos h21]
            · rw [if_neg (show ¬ f_9012 (tg tx p) (tg tx (p + 1)) s = 1 from h21)]
              show ∃ s' ns', f_9001_L39 m (nI p + 2) (nI l3 + 1) (f_9004 (lx_2 (tg tx p) (tg tx (p + 1))) 0 (nI p) s) = _ ∧ _
              rw [nI_1, show nI p + 2 = nI (p + 2) from nI_add p 2]
              refine plain _ _ _ ?_ (lx_2_nz h21).2
              unfold lx_tk
              rw [if_neg hd, if_neg hl2, if_neg h21]
theorem scan_9001 {s : Sx} {tx : List Int32} (h : s.1 25 = tx) (hn : tx.length ≤ 300) : ∃ s' ns', f_9001 s = some s' ∧ tkR s' (lx_all tx (tx.length + 1) 0 [] ++ [(0, 0, tx.length, tx.length)]) ∧ tkF s s' ∧ NsR s' ns' := by
  unfold f_9001
  obtain ⟨s', ns', u1, u2, u3, u4⟩ := scan_L hn (tx.length + 1) 400 0 0 (sB (sB (sB (sB (sB s 0 []) 1 []) 2 []) 3 []) 4 []) [] [] h (by omega) (by omega) (by omega) ⟨rfl, rfl, rfl⟩ (Nat.le_refl _) ⟨rfl, rfl, fun q hq => by cases hq⟩ (Nat.le_refl _) (Nat.le_refl _)
  refine ⟨s', ns', u1, u2, ⟨u3.1, fun j hj => (u3.2 j hj).trans ?_⟩, u4⟩
  show (if j = 4 then _ else if j = 3 then _ else if j = 2 then _ else if j = 1 then _ else if j = 0 then _ else s.1 j) = _
  rw [if_neg (by omega), if_neg (by omega), if_neg (by omega), if_neg (by omega), if_neg (by omega)]
