/-! the tokens one behind the other -/
def Ch (tx : List Int32) : Nat → List Tk → Prop
  | p, [] => lx_nx tx p = (0, 0, tx.length, tx.length)
  | p, t :: r => (t.1 = (lx_nx tx p).1 ∧ t.2.2 = (lx_nx tx p).2.2 ∧ (t.1 ≠ 4 → t.2.1 = (lx_nx tx p).2.1)) ∧ t.1 ≠ 0 ∧ p ≤ t.2.2.1 ∧ t.2.2.1 < t.2.2.2 ∧ t.2.2.2 ≤ tx.length ∧ (t.1 = 10 → p + 3 ≤ t.2.2.2) ∧ Ch tx t.2.2.2 r
theorem lx_nx_b {tx : List Int32} {p : Nat} (h : p < tx.length) (hb : isB (tg tx p)) : lx_nx tx p = lx_nx tx (p + 1) := by
  unfold lx_nx
  have e : lx_sk tx (tx.length - p) p = lx_sk tx (tx.length - (p + 1)) (p + 1) := by
    rw [show tx.length - p = (tx.length - (p + 1)) + 1 by omega]
    conv => lhs; unfold lx_sk
    rw [if_pos hb]
  rw [e]
theorem lx_nx_t {tx : List Int32} {p : Nat} (h : p < tx.length) (hb : ¬ isB (tg tx p)) : lx_nx tx p = ((lx_tk tx p).1, (lx_tk tx p).2.1, p, (lx_tk tx p).2.2) := by
  unfold lx_nx
  have e : lx_sk tx (tx.length - p) p = p := by
    rw [show tx.length - p = (tx.length - (p + 1)) + 1 by omega]
    unfold lx_sk
    rw [if_neg hb]
  rw [e, if_neg (by omega)]
theorem lx_nx_e {tx : List Int32} {p : Nat} (h : tx.length ≤ p) : lx_nx tx p = (0, 0, tx.length, tx.length) := by
  unfold lx_nx
  have e : lx_sk tx (tx.length - p) p = p := by
    rw [show tx.length - p = 0 by omega]
    rfl
  rw [e, if_pos h]
theorem lx_tk_n0 (tx : List Int32) (p : Nat) : (lx_tk tx p).1 ≠ 0 := by
  unfold lx_tk
  split
  · show (if _ then (3 : Int32) else 2) ≠ 0
    split <;> decide
  · split
    · show lx_kw _ ≠ 0
      unfold lx_kw
      repeat (refine ite_P (P := fun x => x ≠ 0) (by decide) ?_)
      decide
    · split
      · show lx_1 _ ≠ 0
        unfold lx_1 f_9013
        repeat (refine ite_P (P := fun x => x ≠ 0) (by decide) ?_)
        decide
      · show lx_2 _ _ ≠ 0
        unfold lx_2 f_9012
        refine ite_P (P := fun x => x ≠ 0) ?_ ?_
        · repeat (refine ite_P (P := fun x => x ≠ 0) (by decide) ?_)
          decide
        · refine ite_P (P := fun x => x ≠ 0) ?_ (by decide)
          repeat (refine ite_P (P := fun x => x ≠ 0) (by decide) ?_)
          decide
theorem lx_kw_10 {w : List Int32} (h : lx_kw w = 10) : w = ab_tx 5 := by
  unfold lx_kw at h
  by_cases c0 : w = ab_tx 0
  · rw [if_pos c0] at h; exact absurd h (by decide)
  by_cases c1 : w = ab_tx 1
  · rw [if_neg c0, if_pos c1] at h; exact absurd h (by decide)
  by_cases c2 : w = ab_tx 2
  · rw [if_neg c0, if_neg c1, if_pos c2] at h; exact absurd h (by decide)
  by_cases c3 : w = ab_tx 3
  · rw [if_neg c0, if_neg c1, if_neg c2, if_pos c3] at h; exact absurd h (by decide)
  by_cases c4 : w = ab_tx 4
  · rw [if_neg c0, if_neg c1, if_neg c2, if_neg c3, if_pos c4] at h; exact absurd h (by decide)
  by_cases c5 : w = ab_tx 5
  · exact c5
  rw [if_neg c0, if_neg c1, if_neg c2, if_neg c3, if_neg c4, if_neg c5] at h
  exfalso
  revert h
  refine ite_P (P := fun x => x = 10 → False) (by decide) (by decide)
theorem lx_tk_10 {tx : List Int32} {p : Nat} (hp : p < tx.length) (h : (lx_tk tx p).1 = 10) : p + 3 ≤ (lx_tk tx p).2.2 := by
  revert h
  unfold lx_tk
  split
  · intro h
    exfalso
    revert h
    show (if _ then (3 : Int32) else 2) = 10 → False
    split <;> decide
  · split
    · intro h
      have e := lx_kw_10 (show lx_kw _ = 10 from h)
      have hb := lx_wd_b tx (tx.length - p) p
      have hl := congrArg List.length e
      rw [lx_w_len (by omega)] at hl
      have : (ab_tx 5).length = 3 := rfl
      show p + 3 ≤ lx_wd tx (tx.length - p) p
      omega
    · split
      · intro h
        exfalso
        revert h
        show lx_1 _ = 10 → False
        unfold lx_1 f_9013
        repeat (refine ite_P (P := fun x => x = 10 → False) (by decide) ?_)
        decide
      · intro h
        exfalso
        revert h
        show lx_2 _ _ = 10 → False
        unfold lx_2 f_9012
        refine ite_P (P := fun x => x = 10 → False) ?_ ?_
        · repeat (refine ite_P (P := fun x => x = 10 → False) (by decide) ?_)
          decide
        · refine ite_P (P := fun x => x = 10 → False) ?_ (by decide)
          repeat (refine ite_P (P := fun x => x = 10 → False) (by decide) ?_)
          decide
theorem Ch_b {tx : List Int32} {p : Nat} (h : p < tx.length) (hb : isB (tg tx p)) {ts : List Tk} (hc : Ch tx (p + 1) ts) : Ch tx p ts := by
  cases ts with
  | nil =>
    show lx_nx tx p = _
    rw [lx_nx_b h hb]
    exact hc
  | cons t r =>
    obtain ⟨h1, h2, h3, h4, h5, h6, h7⟩ := hc
    refine ⟨?_, h2, by omega, h4, h5, fun e => by have := h6 e; omega, h7⟩
    rw [lx_nx_b h hb]
    exact h1
theorem lx_chain (tx : List Int32) : ∀ (k p : Nat) (ns : List (Nat × Nat)), tx.length < p + k → p ≤ tx.length → Ch tx p (lx_all tx k p ns) := by
  intro k
  induction k with
  | zero => intro p ns h1 h2; omega
  | succ k ih =>
    intro p ns h1 h2
    unfold lx_all
    by_cases hpe : tx.length ≤ p
    · rw [if_pos hpe]
      exact lx_nx_e hpe
    · rw [if_neg hpe]
      have hpl : p < tx.length := by omega
      by_cases hb : isB (tg tx p)
      · rw [if_pos hb]
        exact Ch_b hpl hb (ih (p + 1) ns (by omega) (by omega))
      · rw [if_neg hb]
        have b1 := lx_tk_b hpl
        have b2 := lx_tk_e hpl
        by_cases h4 : (lx_tk tx p).1 = 4
        · rw [if_pos h4]
          refine ⟨?_, (show (4 : Int32) ≠ 0 by decide), Nat.le_refl _, b1, b2, fun e => absurd (show (4 : Int32) = 10 from e) (by decide), ih _ _ (by show tx.length < (lx_tk tx p).2.2 + k; omega) b2⟩
          rw [lx_nx_t hpl hb]
          exact ⟨h4.symm, rfl, fun e => absurd rfl e⟩
        · rw [if_neg h4]
          refine ⟨?_, lx_tk_n0 tx p, Nat.le_refl _, b1, b2, lx_tk_10 hpl, ih _ _ (by show tx.length < (lx_tk tx p).2.2 + k; omega) b2⟩
          rw [lx_nx_t hpl hb]
          exact ⟨rfl, rfl, fun _ => rfl⟩
theorem lx_ix_app {tx w : List Int32} {ns more : List (Nat × Nat)} (h : lx_ix tx w ns < ns.length) : lx_ix tx w (ns ++ more) = lx_ix tx w ns := by
  induction ns with
  | nil => exact absurd h (Nat.lt_irrefl _)
  | cons q r ih =>
    rw [List.cons_append]
    unfold lx_ix at h ⊢
    split
    · rfl
    · rename_i e
      rw [if_neg e] at h
      rw [ih (by simpa using h)]
theorem lx_ix_new {tx w : List Int32} {ns : List (Nat × Nat)} {q : Nat × Nat} (h : ¬ lx_ix tx w ns < ns.length) (hq : lx_w tx q.1 q.2 = w) : lx_ix tx w (ns ++ [q]) = ns.length := by
  induction ns with
  | nil =>
    show (if lx_w tx q.1 q.2 = w then 0 else _) = 0
    rw [if_pos hq]
  | cons x r ih =>
    rw [List.cons_append]
    unfold lx_ix at h ⊢
    split
    · rename_i e
      rw [if_pos e] at h
      exact absurd (Nat.succ_pos _) h
    · rename_i e
      rw [if_neg e] at h
      rw [ih (fun y => h (by simpa using y))]
      rfl
theorem lx_ix_w {tx w : List Int32} {ns : List (Nat × Nat)} (h : lx_ix tx w ns < ns.length) : lx_w tx (ns.getD (lx_ix tx w ns) (0, 0)).1 (ns.getD (lx_ix tx w ns) (0, 0)).2 = w := by
  induction ns with
  | nil => exact absurd h (Nat.lt_irrefl _)
  | cons q r ih =>
    unfold lx_ix at h ⊢
    split
    · rename_i e
      exact e
    · rename_i e
      rw [if_neg e] at h
      exact ih (by simpa using h)
/-- the word of a name's token -/
def lx_tw (tx : List Int32) (t : Tk) : List Int32 := lx_w tx t.2.2.1 (t.2.2.2 - t.2.2.1)
theorem lx_names (tx : List Int32) : ∀ (k p : Nat) (ns : List (Nat × Nat)), p ≤ tx.length → ns.length ≤ p → ∃ nsF, (∃ more, nsF = ns ++ more) ∧ nsF.length ≤ tx.length ∧ ∀ t, t ∈ lx_all tx k p ns → t.1 = 4 → t.2.1 = nI (lx_ix tx (lx_tw tx t) nsF) ∧ lx_ix tx (lx_tw tx t) nsF < nsF.length := by
  intro k
  induction k with
  | zero => exact fun p ns h1 h2 => ⟨ns, ⟨[], (List.append_nil _).symm⟩, by omega, fun t ht => by cases ht⟩
  | succ k ih =>
    intro p ns h1 h2
    unfold lx_all
    by_cases hpe : tx.length ≤ p
    · rw [if_pos hpe]
      exact ⟨ns, ⟨[], (List.append_nil _).symm⟩, by omega, fun t ht => by cases ht⟩
    · rw [if_neg hpe]
      have hpl : p < tx.length := by omega
      by_cases hb : isB (tg tx p)
      · rw [if_pos hb]
        exact ih (p + 1) ns (by omega) (by omega)
      · rw [if_neg hb]
        have b1 := lx_tk_b hpl
        have b2 := lx_tk_e hpl
        by_cases h4 : (lx_tk tx p).1 = 4
        · rw [if_pos h4]
          generalize hw : lx_w tx p ((lx_tk tx p).2.2 - p) = w
          by_cases hix : lx_ix tx w ns < ns.length
          · rw [if_pos hix]
            obtain ⟨nsF, ⟨more, e1⟩, e2, e3⟩ := ih (lx_tk tx p).2.2 ns b2 (by omega)
            refine ⟨nsF, ⟨more, e1⟩, e2, fun t ht h => ?_⟩
            rcases List.mem_cons.1 ht with q | q
            · rw [q]
              show nI (lx_ix tx w ns) = nI (lx_ix tx (lx_w tx p ((lx_tk tx p).2.2 - p)) nsF) ∧ lx_ix tx (lx_w tx p ((lx_tk tx p).2.2 - p)) nsF < nsF.length
              rw [hw, e1, lx_ix_app hix]
              exact ⟨rfl, by rw [List.length_append]; omega⟩
            · exact e3 t q h
          · rw [if_neg hix]
            obtain ⟨nsF, ⟨more, e1⟩, e2, e3⟩ := ih (lx_tk tx p).2.2 (ns ++ [(p, (lx_tk tx p).2.2 - p)]) b2 (by rw [List.length_append]; show ns.length + 1 ≤ _; omega)
            have hn : lx_ix tx w ns = ns.length := by
              have := lx_ix_le tx w ns
              omega
            have hnew : lx_ix tx w (ns ++ [(p, (lx_tk tx p).2.2 - p)]) = ns.length := lx_ix_new hix hw
            refine ⟨nsF, ⟨[(p, (lx_tk tx p).2.2 - p)] ++ more, by rw [e1, List.append_assoc]⟩, e2, fun t ht h => ?_⟩
            rcases List.mem_cons.1 ht with q | q
            · rw [q]
              show nI (lx_ix tx w ns) = nI (lx_ix tx (lx_w tx p ((lx_tk tx p).2.2 - p)) nsF) ∧ lx_ix tx (lx_w tx p ((lx_tk tx p).2.2 - p)) nsF < nsF.length
              have hl : lx_ix tx w (ns ++ [(p, (lx_tk tx p).2.2 - p)]) < (ns ++ [(p, (lx_tk tx p).2.2 - p)]).length := by
                rw [hnew, List.length_append]
                show ns.length < ns.length + 1
                omega
              rw [hw, e1, lx_ix_app hl, hnew, hn]
              exact ⟨rfl, by rw [List.length_append, List.length_append]; show ns.length < ns.length + 1 + _; omega⟩
            · exact e3 t q h
        · rw [if_neg h4]
          obtain ⟨nsF, e1, e2, e3⟩ := ih (lx_tk tx p).2.2 ns b2 (by omega)
          refine ⟨nsF, e1, e2, fun t ht h => ?_⟩
          rcases List.mem_cons.1 ht with q | q
          · rw [q] at h
            exact absurd h h4
          · exact e3 t q h
/-- two names are the same just if their numbers are -/
theorem lx_same {tx : List Int32} (hn : tx.length ≤ 300) {t u : Tk} (ht : t ∈ lx_all tx (tx.length + 1) 0 []) (hu : u ∈ lx_all tx (tx.length + 1) 0 []) (h4 : t.1 = 4) (h5 : u.1 = 4) : t.2.1 = u.2.1 ↔ lx_tw tx t = lx_tw tx u := by
  obtain ⟨nsF, _, e2, e3⟩ := lx_names tx (tx.length + 1) 0 [] (by omega) (Nat.le_refl _)
  obtain ⟨a1, a2⟩ := e3 t ht h4
  obtain ⟨b1, b2⟩ := e3 u hu h5
  rw [a1, b1, nI_eq (by omega) (by omega)]
  constructor
  · intro h
    rw [← lx_ix_w a2, ← lx_ix_w b2, h]
  · intro h
    rw [h]
