/-! names: the reference's words, the class's numbers -/
abbrev tk0 : Tk := (0, 0, 0, 0)
theorem Ch_at {tx : List Int32} {ts : List Tk} {p : Nat} (h : Ch tx p ts) : ∀ i, i < ts.length →
    (((ts.getD i tk0).1 = (lx_nx tx (if i = 0 then p else (ts.getD (i - 1) tk0).2.2.2)).1 ∧ (ts.getD i tk0).2.2 = (lx_nx tx (if i = 0 then p else (ts.getD (i - 1) tk0).2.2.2)).2.2 ∧ ((ts.getD i tk0).1 ≠ 4 → (ts.getD i tk0).2.1 = (lx_nx tx (if i = 0 then p else (ts.getD (i - 1) tk0).2.2.2)).2.1)) ∧
      (ts.getD i tk0).1 ≠ 0 ∧ (if i = 0 then p else (ts.getD (i - 1) tk0).2.2.2) ≤ (ts.getD i tk0).2.2.1 ∧ (ts.getD i tk0).2.2.1 < (ts.getD i tk0).2.2.2 ∧ (ts.getD i tk0).2.2.2 ≤ tx.length ∧ ((ts.getD i tk0).1 = 10 → (if i = 0 then p else (ts.getD (i - 1) tk0).2.2.2) + 3 ≤ (ts.getD i tk0).2.2.2)) := by
  induction ts generalizing p with
  | nil => intro i hi; cases hi
  | cons t r ih =>
    intro i hi
    obtain ⟨h1, h2, h3, h4, h5, h6, h7⟩ := h
    cases i with
    | zero => exact ⟨h1, h2, h3, h4, h5, h6⟩
    | succ i =>
      have := ih h7 i (by simpa using hi)
      cases i with
      | zero => exact this
      | succ i => exact this
theorem Ch_end {tx : List Int32} {ts : List Tk} {p : Nat} (h : Ch tx p ts) : lx_nx tx (if ts.length = 0 then p else (ts.getD (ts.length - 1) tk0).2.2.2) = (0, 0, tx.length, tx.length) := by
  induction ts generalizing p with
  | nil => exact h
  | cons t r ih =>
    have := ih h.2.2.2.2.2.2
    cases r with
    | nil => exact this
    | cons u q => exact this
/-- the tokens of a text, its end behind them -/
def tks (tx : List Int32) : List Tk := lx_all tx (tx.length + 1) 0 [] ++ [(0, 0, tx.length, tx.length)]
/-- the end of the token before the i-th -/
def bend (T : List Tk) (i : Nat) : Nat := if i = 0 then 0 else ten T (i - 1)
theorem tks_len (tx : List Int32) : (tks tx).length = (lx_all tx (tx.length + 1) 0 []).length + 1 := by
  unfold tks
  rw [List.length_append]
  rfl
theorem tks_l {tx : List Int32} {i : Nat} (h : i + 1 < (tks tx).length) : (tks tx).getD i tk0 = (lx_all tx (tx.length + 1) 0 []).getD i tk0 := by
  rw [tks_len] at h
  unfold tks
  rw [List.getD_eq_getElem?_getD, List.getD_eq_getElem?_getD, List.getElem?_append_left (by omega)]
theorem tks_mem {tx : List Int32} {i : Nat} (h : i + 1 < (tks tx).length) : (tks tx).getD i tk0 ∈ lx_all tx (tx.length + 1) 0 [] := by
  rw [tks_l h]
  rw [tks_len] at h
  rw [List.getD_eq_getElem?_getD, List.getElem?_eq_getElem (by omega)]
  exact List.getElem_mem _
theorem tks_at {tx : List Int32} {i : Nat} (h : i + 1 < (tks tx).length) :
    (tkd (tks tx) i = (lx_nx tx (bend (tks tx) i)).1 ∧ tpl (tks tx) i = (lx_nx tx (bend (tks tx) i)).2.2.1 ∧ ten (tks tx) i = (lx_nx tx (bend (tks tx) i)).2.2.2 ∧ (tkd (tks tx) i ≠ 4 → tvl (tks tx) i = (lx_nx tx (bend (tks tx) i)).2.1)) ∧
      tkd (tks tx) i ≠ 0 ∧ bend (tks tx) i ≤ tpl (tks tx) i ∧ tpl (tks tx) i < ten (tks tx) i ∧ ten (tks tx) i ≤ tx.length ∧ (tkd (tks tx) i = 10 → bend (tks tx) i + 3 ≤ ten (tks tx) i) := by
  have hl := h
  rw [tks_len] at hl
  have hc := Ch_at (lx_chain tx (tx.length + 1) 0 [] (by omega) (by omega)) i (by omega)
  have e0 : (if i = 0 then 0 else ((lx_all tx (tx.length + 1) 0 []).getD (i - 1) tk0).2.2.2) = bend (tks tx) i := by
    unfold bend
    by_cases q : i = 0
    · rw [if_pos q, if_pos q]
    · rw [if_neg q, if_neg q]
      unfold ten
      rw [show ((tks tx).getD (i - 1) (0, 0, 0, 0)) = _ from tks_l (by omega)]
  rw [e0, ← tks_l h] at hc
  exact ⟨⟨hc.1.1, congrArg Prod.fst hc.1.2.1, congrArg Prod.snd hc.1.2.1, hc.1.2.2⟩, hc.2⟩
theorem tks_end {tx : List Int32} : lx_nx tx (bend (tks tx) ((tks tx).length - 1)) = (0, 0, tx.length, tx.length) ∧ tkd (tks tx) ((tks tx).length - 1) = 0 ∧ tpl (tks tx) ((tks tx).length - 1) = tx.length := by
  have hc := Ch_end (lx_chain tx (tx.length + 1) 0 [] (by omega) (by omega))
  have hl := tks_len tx
  have e1 : (tks tx).getD ((tks tx).length - 1) tk0 = (0, 0, tx.length, tx.length) := by
    rw [hl]
    unfold tks
    rw [List.getD_eq_getElem?_getD, List.getElem?_append_right (by omega), Nat.add_sub_cancel, Nat.sub_self]
    rfl
  refine ⟨?_, ?_, ?_⟩
  · rw [← hc, hl, Nat.add_sub_cancel]
    unfold bend
    by_cases q : (lx_all tx (tx.length + 1) 0 []).length = 0
    · rw [if_pos q, if_pos q]
    · rw [if_neg q, if_neg q]
      unfold ten
      rw [show ((tks tx).getD ((lx_all tx (tx.length + 1) 0 []).length - 1) (0, 0, 0, 0)) = _ from tks_l (by omega)]
  · show ((tks tx).getD ((tks tx).length - 1) tk0).1 = 0
    rw [e1]
  · show ((tks tx).getD ((tks tx).length - 1) tk0).2.2.1 = _
    rw [e1]
theorem nm_L16 {tx : List Int32} {m : Mx} (h : MT tx m) {p q z : Nat} {x : Int32} (hp : p + z ≤ tx.length) (hq : q + z ≤ tx.length) : ∀ (k n i : Nat), z = i + k → k < n →
    f_12027_L16 n (nI p) (nI z) (nI q) x 1 (nI i) m = some (if lx_w tx (p + i) k = lx_w tx (q + i) k then 1 else 0) := by
  have hn := h.1
  intro k
  induction k with
  | zero =>
    intro n i hz hm
    obtain ⟨n, rfl⟩ : ∃ j, n = j + 1 := ⟨n - 1, by omega⟩
    rw [f_12027_L16, if_pos (nI_le (by omega) (by omega)), gd_e (Or.inr rfl), if_pos]
    simp [lx_w]
  | succ k ih =>
    intro n i hz hm
    obtain ⟨n, rfl⟩ : ∃ j, n = j + 1 := ⟨n - 1, by omega⟩
    rw [f_12027_L16, if_neg (nI_ge (by omega) (by omega)), if_neg (by decide), nI_add, nI_add, gd_e (vi_n (by omega) (by omega)), gd_e (vi_n (by omega) (by omega)), h.g (by omega), h.g (by omega), lx_w_s (by omega), lx_w_s (by omega)]
    by_cases e : tg tx (p + i) = tg tx (q + i)
    · rw [if_pos e, nI_1, ih n (i + 1) (by omega) (by omega), e]
      simp only [List.cons.injEq, true_and, Nat.add_assoc]
    · rw [if_neg e, if_neg (fun r => e (List.cons.inj r).1)]
      obtain ⟨n, rfl⟩ : ∃ j, n = j + 1 := ⟨n - 1, by omega⟩
      rw [f_12027_L16]
      split
      · rw [gd_e (Or.inl rfl)]
      · rw [if_pos rfl, gd_e (Or.inl rfl)]
theorem nm_12027 {tx : List Int32} {m : Mx} (h : MT tx m) {p q z y : Nat} (hp : p + z ≤ tx.length) (hq : q + y ≤ tx.length) :
    f_12027 (nI p) (nI z) (nI q) (nI y) m = some (if lx_w tx p z = lx_w tx q y then 1 else 0) := by
  have hn := h.1
  unfold f_12027
  by_cases e : z = y
  · subst e
    rw [if_pos rfl]
    exact nm_L16 h hp hq z 1000 0 (by omega) (by omega)
  · rw [if_neg (by rw [nI_eq (by omega) (by omega)]; exact e), if_neg (fun r => e (by rw [← lx_w_len hp, r, lx_w_len hq]))]
    show f_12027_L16 (999 + 1) _ _ _ _ 0 0 m = _
    rw [f_12027_L16]
    split
    · rw [gd_e (Or.inl rfl)]
    · rw [if_pos rfl, gd_e (Or.inl rfl)]
/-- a name that is held against a token -/
theorem NameIs.cmp {tx : List Int32} {m : Mx} (h : MT tx m) {p z v : Int32} (hN : NameIs (tks tx) p z v) {j : Nat} (hj : j + 1 < (tks tx).length) (h4 : tkd (tks tx) j = 4) :
    f_12027 p z (nI (tpl (tks tx) j)) (nI (ten (tks tx) j - tpl (tks tx) j)) m = some (if v = tvl (tks tx) j then 1 else 0) := by
  obtain ⟨i, hi, hk, e1, e2, e3⟩ := hN
  have ti := tks_at hi
  have tj := tks_at hj
  have hs := lx_same h.1 (tks_mem hi) (tks_mem hj) hk h4
  rw [e1, e2, nm_12027 h (by omega) (by omega), e3]
  have hs' : tvl (tks tx) i = tvl (tks tx) j ↔ lx_w tx (tpl (tks tx) i) (ten (tks tx) i - tpl (tks tx) i) = lx_w tx (tpl (tks tx) j) (ten (tks tx) j - tpl (tks tx) j) := hs
  by_cases q : tvl (tks tx) i = tvl (tks tx) j
  · rw [if_pos q, if_pos (hs'.1 q)]
  · rw [if_neg q, if_neg (fun r => q (hs'.2 r))]
theorem xpos_d {r : List Int32} {v : Int32} : xpos r v = if v ∈ r then nI (r.idxOf v) else -1 := rfl
theorem idx_ne {a b : Int32} {l : List Int32} (h : a ≠ b) : (a :: l).idxOf b = l.idxOf b + 1 := by
  have hb : (a == b) = false := beq_eq_false_iff_ne.2 h
  rw [List.idxOf_cons, hb]
  rfl
/-- the names of a scope: the last that is the same is the only one -/
theorem known_L4 {tx : List Int32} {m : Mx} (h : MT tx m) {r : List Int32} {o : Nat} (hr : r.length ≤ 8) (ho : o ≤ 1) (hnd : r.Nodup) (hs : mf m 34 = nI o) (hm : mg m 9 (nI o) = nI r.length)
    (hN : ∀ k, k < r.length → NameIs (tks tx) (mg m 10 (nI (8 * o + k))) (mg m 11 (nI (8 * o + k))) (r.getD k 0)) {j : Nat} (hj : j + 1 < (tks tx).length) (h4 : tkd (tks tx) j = 4) (h6 : mf m 6 = nI (tpl (tks tx) j)) (h7 : mf m 7 = nI (ten (tks tx) j)) :
    ∀ (c n k : Nat) (l : Int32), r.length = k + c → c < n → f_12028_L4 n l (nI k) m = some (if tvl (tks tx) j ∈ r.drop k then nI (k + (r.drop k).idxOf (tvl (tks tx) j)) else l) := by
  have tj := tks_at hj
  have hn := h.1
  have hsub : nI (ten (tks tx) j) - nI (tpl (tks tx) j) = nI (ten (tks tx) j - tpl (tks tx) j) := by
    have : nI (ten (tks tx) j) = nI (ten (tks tx) j - tpl (tks tx) j) + nI (tpl (tks tx) j) := by rw [nI_add]; congr 1; omega
    rw [this, Int32.add_sub_cancel]
  intro c
  induction c with
  | zero =>
    intro n k l hk hc
    obtain ⟨n, rfl⟩ : ∃ y, n = y + 1 := ⟨n - 1, by omega⟩
    rw [f_12028_L4, hs, gd_e (vi_n (by omega) (by omega)), hm, if_pos (nI_le (by omega) (by omega)), List.drop_eq_nil_of_le (by omega), if_neg (by simp)]
  | succ c ih =>
    intro n k l hk hc
    obtain ⟨n, rfl⟩ : ∃ y, n = y + 1 := ⟨n - 1, by omega⟩
    have hkl : k < r.length := by omega
    have e8 : (8 : Int32) * nI o + nI k = nI (8 * o + k) := by
      rcases (by omega : o = 0 ∨ o = 1) with e | e
      · subst e
        rw [show (8 : Int32) * nI 0 = nI 0 by decide, nI_add]
      · subst e
        rw [show (8 : Int32) * nI 1 = nI 8 by decide, nI_add]
    have hd : r.drop k = r.getD k 0 :: r.drop (k + 1) := by
      rw [List.drop_eq_getElem_cons hkl, List.getD_eq_getElem?_getD, List.getElem?_eq_getElem hkl]
      rfl
    have hnd2 : r.getD k 0 ∉ r.drop (k + 1) := by
      have := List.Nodup.sublist (List.drop_sublist k r) hnd
      rw [hd] at this
      exact (List.nodup_cons.1 this).1
    rw [f_12028_L4, hs, gd_e (vi_n (by omega) (by omega)), hm, if_neg (nI_ge (by omega) (by omega)), e8, gd_e (vi_n (by omega) (by omega)), gd_e (vi_n (by omega) (by omega)), h6, h7, hsub, (hN k hkl).cmp h hj h4, bP_some, hd]
    by_cases e : r.getD k 0 = tvl (tks tx) j
    · rw [if_pos e, if_neg (by decide), nI_1, ih n (k + 1) _ (by omega) (by omega), ← e, if_neg hnd2, if_pos (List.mem_cons_self ..), List.idxOf_cons_self, Nat.add_zero]
    · rw [if_neg e, if_pos rfl, nI_1, ih n (k + 1) _ (by omega) (by omega)]
      by_cases w : tvl (tks tx) j ∈ r.drop (k + 1)
      · rw [if_pos w, if_pos (List.mem_cons_of_mem _ w), idx_ne e]
        congr 2
        omega
      · rw [if_neg w, if_neg (fun q => (List.mem_cons.1 q).elim (fun a => e a.symm) w)]
theorem known_12028 {tx : List Int32} {m : Mx} (h : MT tx m) {r : List Int32} {o : Nat} (hr : r.length ≤ 8) (ho : o ≤ 1) (hnd : r.Nodup) (hs : mf m 34 = nI o) (hm : mg m 9 (nI o) = nI r.length)
    (hN : ∀ k, k < r.length → NameIs (tks tx) (mg m 10 (nI (8 * o + k))) (mg m 11 (nI (8 * o + k))) (r.getD k 0)) {j : Nat} (hj : j + 1 < (tks tx).length) (h4 : tkd (tks tx) j = 4) (h6 : mf m 6 = nI (tpl (tks tx) j)) (h7 : mf m 7 = nI (ten (tks tx) j)) :
    f_12028 m = some (xpos r (tvl (tks tx) j)) := by
  have := known_L4 h hr ho hnd hs hm hN hj h4 h6 h7 r.length 1000 0 (-1) (by omega) (by omega)
  rw [List.drop_zero, Nat.zero_add] at this
  exact this
/-- the defs: the first that is the same is the only one -/
theorem def_L10 {tx : List Int32} {m : Mx} (h : MT tx m) {r : List Int32} (hr : r.length ≤ 40) (hnd : r.Nodup) (hN : ∀ k, k < r.length → NameIs (tks tx) (m 12 k) (m 13 k) (r.getD k 0)) {j : Nat} (hj : j + 1 < (tks tx).length) (h4 : tkd (tks tx) j = 4) :
    ∀ (k n : Nat) (l : Int32), k ≤ r.length → k < n → f_12030_L10 n (nI (tpl (tks tx) j)) (nI (ten (tks tx) j - tpl (tks tx) j)) l (nI k - 1) m = some (if tvl (tks tx) j ∈ r.take k then nI ((r.take k).idxOf (tvl (tks tx) j)) else l) := by
  intro k
  induction k with
  | zero =>
    intro n l hk hc
    obtain ⟨n, rfl⟩ : ∃ y, n = y + 1 := ⟨n - 1, by omega⟩
    rw [f_12030_L10, if_pos (by decide)]
    simp
  | succ k ih =>
    intro n l hk hc
    obtain ⟨n, rfl⟩ : ∃ y, n = y + 1 := ⟨n - 1, by omega⟩
    have hg : ∀ q, mg m q (nI k) = m q k := by
      intro q
      unfold mg
      rw [nI_C (by omega)]
    have hd : r.take (k + 1) = r.take k ++ [r.getD k 0] := by
      rw [List.take_add_one, List.getD_eq_getElem?_getD, List.getElem?_eq_getElem (by omega)]
      rfl
    have hnd2 : r.getD k 0 ∉ r.take k := by
      have := List.Nodup.sublist (List.take_sublist (k + 1) r) hnd
      rw [hd, List.nodup_append] at this
      intro q
      exact this.2.2 _ q _ (List.mem_singleton.2 rfl) rfl
    have hl : (r.take k).length = k := by rw [List.length_take]; omega
    rw [f_12030_L10, nI_pred, if_neg (nI_pos (by omega)), gd_e (vi_n (by omega) (by omega)), gd_e (vi_n (by omega) (by omega)), hg, hg, (hN k (by omega)).cmp h hj h4, bP_some, hd]
    have em : nI k + (-1) = nI k - 1 := by rw [Int32.sub_eq_add_neg]
    by_cases e : r.getD k 0 = tvl (tks tx) j
    · rw [if_pos e, if_neg (by decide), em, ih n _ (by omega) (by omega), ← e, if_neg hnd2, if_pos (List.mem_append.2 (Or.inr (List.mem_singleton.2 rfl))), List.idxOf_append, if_neg hnd2, hl]
      simp
    · rw [if_neg e, if_pos rfl, em, ih n _ (by omega) (by omega)]
      by_cases w : tvl (tks tx) j ∈ r.take k
      · rw [if_pos w, if_pos (List.mem_append.2 (Or.inl w)), List.idxOf_append, if_pos w]
      · rw [if_neg w, if_neg (fun q => (List.mem_append.1 q).elim w (fun a => e (List.mem_singleton.1 a).symm))]
theorem def_12030 {tx : List Int32} {m : Mx} (h : MT tx m) {r : List Int32} (hr : r.length ≤ 40) (hnd : r.Nodup) (hN : ∀ k, k < r.length → NameIs (tks tx) (m 12 k) (m 13 k) (r.getD k 0)) (h22 : mf m 22 = nI r.length) {j : Nat} (hj : j + 1 < (tks tx).length) (h4 : tkd (tks tx) j = 4) :
    f_12030 (nI (tpl (tks tx) j)) (nI (ten (tks tx) j - tpl (tks tx) j)) m = some (xpos r (tvl (tks tx) j)) := by
  have := def_L10 h hr hnd hN hj h4 r.length 1000 (-1) (Nat.le_refl _) (by omega)
  rw [List.take_length] at this
  unfold f_12030
  rw [h22]
  exact this
