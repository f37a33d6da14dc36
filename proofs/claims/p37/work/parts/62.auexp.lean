/-! the reader and the automaton: operands, expressions, calls -/
def in07 (x : Int32) : Prop := 0 ≤ x.toInt ∧ x.toInt ≤ 7
theorem in07_i {c : Prop} [Decidable c] {a b : Int32} (ha : in07 a) (hb : in07 b) : in07 (if c then a else b) := by
  split
  · exact ha
  · exact hb
theorem lvK_b (k : Int32) : in07 (lvK k) := by
  unfold lvK f_9003
  repeat (refine in07_i ⟨by decide, by decide⟩ ?_)
  exact ⟨by decide, by decide⟩
theorem nlt7 : ¬ nI 7 < (7 : Int32) := by decide +kernel
theorem lt7 {j : Nat} (h : j < 7) : nI j < (7 : Int32) := nI_lt (a := j) (b := 7) h (by decide)
theorem lvK_0 : lvK 0 = 0 := by decide +kernel
theorem lv_bin {k : Int32} {j : Nat} (h : lvK k = nI j) (h1 : 1 ≤ j) (h6 : j ≤ 6) : 0 < lvK k ∧ lvK k < 7 := by
  rw [h]
  exact ⟨nI_lt (a := 0) (b := j) (by omega) (by omega), nI_lt (a := j) (b := 7) (by omega) (by decide)⟩
theorem ac0 {s : Sx} {op bl : List Ae} : au_acc (s, 0, op, bl) = au_s0 s bl := by
  rw [au_acc_n (by decide)]; unfold au_acc0; rw [if_pos rfl]
theorem ac2 {s : Sx} {st : Int32} {op bl : List Ae} (h : st = 2 ∨ st = 3) : au_acc (s, st, op, bl) = au_opd s st op bl := by
  rcases h with rfl | rfl
  · rw [au_acc_n (by decide)]; unfold au_acc0; rw [if_neg (by decide), if_neg (by decide), if_pos (Or.inl rfl)]
  · rw [au_acc_n (by decide)]; unfold au_acc0; rw [if_neg (by decide), if_neg (by decide), if_pos (Or.inr rfl)]
theorem ac4 {s : Sx} {op bl : List Ae} : au_acc (s, 4, op, bl) = au_opr s op bl := by
  rw [au_acc_n (by decide)]; unfold au_acc0; rw [if_neg (by decide), if_neg (by decide), if_neg (by decide), if_pos rfl]
theorem ac56 {s : Sx} {st : Int32} {op bl : List Ae} (h : st = 5 ∨ st = 6) : au_acc (s, st, op, bl) = if au_ko s = 27 then .inl (au_nx s, 2, op, bl) else .inr (3, s.2 2) := by
  rcases h with rfl | rfl
  · rw [au_acc_n (by decide)]; unfold au_acc0; rw [if_neg (by decide), if_neg (by decide), if_neg (by decide), if_neg (by decide), if_pos (Or.inl rfl)]
  · rw [au_acc_n (by decide)]; unfold au_acc0; rw [if_neg (by decide), if_neg (by decide), if_neg (by decide), if_neg (by decide), if_pos (Or.inr rfl)]
theorem ac13 {s : Sx} {op bl : List Ae} : au_acc (s, 13, op, bl) = au_lv (au_sk 38 s) fun s2 => .inl (s2, 3, op, bl) := by
  rw [au_acc_n (by decide)]; unfold au_acc0
  rw [if_neg (by decide), if_neg (by decide), if_neg (by decide), if_neg (by decide), if_neg (by decide), if_neg (by decide), if_neg (by decide), if_neg (by decide), if_neg (by decide), if_neg (by decide), if_neg (by decide), if_pos rfl]
theorem rd_18 (n : Nat) (a : Int32) (s : Sx) : f_rd (n + 1) 5018 a s = f_5018 (f_rd n) a s := by rw [f_rd]; rfl
theorem rd_17 (n : Nat) (a : Int32) (s : Sx) : f_rd (n + 1) 5017 a s = f_5017 (f_rd n) a s := by rw [f_rd]; rfl
theorem rd_19 (n : Nat) (s : Sx) : f_rd (n + 1) 5019 0 s = f_5019 (f_rd n) s := by rw [f_rd]; rfl
theorem rd_20 (n : Nat) (s : Sx) : f_rd (n + 1) 5020 0 s = f_5020 (f_rd n) s := by rw [f_rd]; rfl
theorem rd_21 (n : Nat) (s : Sx) : f_rd (n + 1) 5021 0 s = f_5021 (f_rd n) s := by rw [f_rd]; rfl
theorem dd_19 {n : Nat} {f t : Int32} {s : Sx} (h : Dd f t s) : ∃ s', f_rd (n + 1) 5019 0 s = some s' ∧ Dd f t s' := by
  rw [rd_19]
  unfold f_5019
  rw [h.ko]
  exact ⟨f_5005 3 (s.2 2) s, rfl, h.ref⟩
theorem dd_L20 {rec : Nat → Int32 → Sx → Option Sx} {m : Nat} {own l2 : Int32} {f t : Int32} {s : Sx} (h : Dd f t s) (ho : own ≠ 0) : f_5018_L20 rec (m + 1) own l2 s = some s := by
  rw [f_5018_L20]
  split
  · rfl
  · rw [h.ko, lvK_eq, lvK_0, if_neg (fun e => ho e.symm)]
theorem dd_18 {f t : Int32} (n : Nat) : ∀ (j : Nat) (s : Sx), Dd f t s → 1 ≤ j → j ≤ 7 → 9 ≤ n + j → ∃ s', f_rd n 5018 (nI j) s = some s' ∧ Dd f t s' := by
  induction n with
  | zero => intro j s _ _ _ _; omega
  | succ n ih =>
    intro j s h h1 h7 hn
    rw [rd_18]
    unfold f_5018
    by_cases q : j = 7
    · subst q
      obtain ⟨s', e, hs⟩ := dd_19 (n := n - 1) h
      rw [show n - 1 + 1 = n by omega] at e
      rw [if_neg nlt7, e]
      exact ⟨s', rfl, hs⟩
    · obtain ⟨s', e, hs⟩ := ih (j + 1) s h (by omega) (by omega) (by omega)
      rw [if_pos (lt7 (by omega)), nI_1, e]
      exact ⟨s', dd_L20 (m := 399) hs (nI_ne0 (by omega) (by omega)), hs⟩
def GoX (own : Int32) (R : Option Sx) (a e L : Nat) (s : Sx) (st : Int32) (op bl : List Ae) : Prop :=
  RdF R (s, st, op, bl) ∨ ∃ k s'' ops s' a', R = some s' ∧ au_it k (s, st, op, bl) = .inl (s'', 4, ops ++ op, bl) ∧ (∀ x, x ∈ ops → own ≤ lvK x.1) ∧ (au_fl own ops s'').2 = s' ∧ Lv a' e L s' ∧ a < a' ∧ s'.2 5 = s.2 5 ∧ (lvK (au_ko s') < own ∨ lvK (au_ko s') = 7)
def GoO (R : Option Sx) (A : Au) (a e L : Nat) (s : Sx) (op bl : List Ae) : Prop :=
  RdF R A ∨ ∃ k s' a', R = some s' ∧ au_it k A = .inl (au_en bl op s') ∧ Lv a' e L s' ∧ a < a' ∧ s'.2 5 = s.2 5
def C18 (n : Nat) : Prop := ∀ (j : Nat), 1 ≤ j → j ≤ 7 → ∀ (a e L : Nat) (s : Sx) (st : Int32) (op bl : List Ae), Lv a e L s → 50 + 20 * (8 - L) ≤ n + j → (st = 2 ∨ st = 3 ∧ au_ko s ≠ 29) → HdOK (nI j) op → GoX (nI j) (f_rd n 5018 (nI j) s) a e L s st op bl
def C19 (n : Nat) : Prop := ∀ (a e L : Nat) (s : Sx) (st : Int32) (op bl : List Ae), Lv a e L s → 42 + 20 * (8 - L) ≤ n → (st = 2 ∨ st = 3 ∧ au_ko s ≠ 29) → GoO (f_rd n 5019 0 s) (s, st, op, bl) a e L s op bl
def C20 (n : Nat) : Prop := ∀ (a e L : Nat) (s : Sx) (m tok : Int32) (op bl : List Ae), Lv a e L s → au_ko s = m → m ≠ 0 → L < 8 → 41 + 20 * (8 - L) ≤ n → GoO (f_rd n 5020 0 s) (au_up s, 2, (40, m, tok, 0, 0, 0) :: op, bl) a e L s op bl
def C21 (n : Nat) : Prop := ∀ (a e L : Nat) (s : Sx) (op bl : List Ae) (A : Au), Lv a e L s → au_ko s = 4 → xg (s.1 0) (s.2 2 + 1) = 28 → 41 + 20 * (8 - L) ≤ n → au_call s op bl = .inl A → GoO (f_rd n 5021 0 s) A a e L s op bl
/-- the operators of a level behind an operand -/
theorem x18_loop {n : Nat} (ih : C18 n) {j : Nat} (h1 : 1 ≤ j) (h6 : j ≤ 6) {a e L : Nat} {s : Sx} {st : Int32} {op bl : List Ae} (hn : 50 + 20 * (8 - L) ≤ n + j + 1) (hop : HdOK (nI j) op) :
    ∀ (m : Nat) (l2 k : Nat) (s'' : Sx) (ops : List Ae) (s' : Sx) (a' : Nat), e - a' < m → l2 ≤ a' → au_it k (s, st, op, bl) = .inl (s'', 4, ops ++ op, bl) → (∀ x, x ∈ ops → nI j ≤ lvK x.1) → (au_fl (nI j) ops s'').2 = s' → Lv a' e L s' → a < a' → s'.2 5 = s.2 5 → (lvK (au_ko s') < nI j + 1 ∨ lvK (au_ko s') = 7) →
      GoX (nI j) (f_5018_L20 (f_rd n) m (nI j) (nI l2) s') a e L s st op bl := by
  intro m
  induction m with
  | zero => intro l2 k s'' ops s' a' hm; omega
  | succ m ihm =>
    intro l2 k s'' ops s' a' hm hl hk hops hfl hL ha h5 hlv
    have hb : 0 ≤ (lvK (au_ko s')).toInt ∧ (lvK (au_ko s')).toInt ≤ 7 := lvK_b (au_ko s')
    have ho0 : nI j ≠ 0 := nI_ne0 (by omega) (by omega)
    have hko : f_5003 s' = au_ko s' := rfl
    by_cases hq : lvK (au_ko s') = nI j
    case neg =>
      refine Or.inr ⟨k, s'', ops, s', a', ?_, hk, hops, hfl, hL, ha, h5, ?_⟩
      · rw [f_5018_L20]
        split
        · rfl
        · rw [lvK_eq, hko, if_neg hq]
      · rcases hlv with q | q
        · left
          rw [nI_1, i_lt, nI_T (by omega)] at q
          rw [i_eq, nI_T (by omega)] at hq
          rw [i_lt, nI_T (by omega)]
          omega
        · exact Or.inr q
    case pos =>
      have hk0 : au_ko s' ≠ 0 := fun q => by
        rw [q, lvK_0] at hq
        exact ho0 hq.symm
      have hae := hL.lt hk0
      have he := hL.2.2.2.2.1
      have co : Co s'' s' := hfl ▸ Co_fl
      have hbin := lv_bin hq h1 h6
      have hff : au_fl (lvK (au_ko s'')) (ops ++ op) s'' = (op, s') := by
        rw [← co.ko, hq, au_fl_app hops (Int32.le_refl _), hfl, au_fl_hd hop]
      have hacc : au_acc (s'', 4, ops ++ op, bl) = if au_ko s' = 23 ∨ au_ko s' = 24 then
          .inl (au_cd (if au_ko s' = 23 then 11 else 12) 0 (au_nx s'), 2, (au_ko s', s'.2 2, au_cn (au_cd (if au_ko s' = 23 then 11 else 12) 0 (au_nx s')), 0, 0, 0) :: op, bl)
          else .inl (au_nx s', 2, (au_ko s', s'.2 2, 0, 0, 0, 0) :: op, bl) := by
        rw [ac4]
        unfold au_opr
        rw [hff, ← co.ko, ← co.2 2 (by decide), if_pos hbin]
      have hLx := hL.nx hae
      have hjs : 50 + 20 * (8 - L) ≤ n + (j + 1) := by omega
      have hd1 : ∀ (x y z : Int32), HdOK (nI (j + 1)) ((au_ko s', x, y, z, 0, 0) :: op) := fun x y z => by
        refine ⟨?_, ?_, ?_, ?_⟩
        · rw [hq]; exact nI_lt (by omega) (by omega)
        · intro q; rw [show au_ko s' = 40 from q, show lvK 40 = nI 0 by decide +kernel, nI_eq (by decide) (by omega)] at hq; omega
        · intro q; rw [show au_ko s' = 48 from q, show lvK 48 = nI 0 by decide +kernel, nI_eq (by decide) (by omega)] at hq; omega
        · intro q; rw [show au_ko s' = 50 from q, show lvK 50 = nI 0 by decide +kernel, nI_eq (by decide) (by omega)] at hq; omega
      have h300 : ¬ (300 : Int32) ≤ nI l2 := nI_ge (a := l2) (b := 300) (by omega) (by decide)
      have key : ∀ (s1 : Sx) (x y : Int32) (R : Option Sx), Lv (a' + 1) e L s1 → s1.2 5 = s'.2 5 → au_acc (s'', 4, ops ++ op, bl) = .inl (s1, 2, (au_ko s', x, y, 0, 0, 0) :: op, bl) →
          (∀ s2, f_rd n 5018 (nI (j + 1)) s1 = some s2 → R = f_5018_L20 (f_rd n) m (nI j) (nI (l2 + 1)) (au_pop (au_ko s', x, y, 0, 0, 0) s2)) →
          GoX (nI j) R a e L s st op bl := by
        intro s1 x y R hL1 h51 hac hR
        rcases ih (j + 1) (by omega) (by omega) (a' + 1) e L s1 2 ((au_ko s', x, y, 0, 0, 0) :: op) bl hL1 hjs (Or.inl rfl) (hd1 x y 0) with hf | ⟨k1, t'', ops1, t', a1, e1, e2, e3, e4, e5, e6, e7, e8⟩
        · left
          obtain ⟨f, t, kk, d, g1, g2, g3⟩ := hf
          have hm1 : m = (m - 1) + 1 := by omega
          refine ⟨f, t, k + (kk + 1), au_pop (au_ko s', x, y, 0, 0, 0) d, ?_, ?_, g3.co Co_pop⟩
          · rw [hR d g1, hm1]
            exact dd_L20 (g3.co Co_pop) ho0
          · rw [au_it_add hk, au_it_s hac]
            exact g2
        · rw [hR t' e1]
          have hle : nI j ≤ nI (j + 1) := nI_le (by omega) (by omega)
          have hlx : ∀ z, z ∈ ops1 → nI j ≤ lvK z.1 := fun z hz => Int32.le_trans hle (e3 z hz)
          refine ihm (l2 + 1) (k + (k1 + 1)) t'' (ops1 ++ [(au_ko s', x, y, 0, 0, 0)]) _ a1 (by omega) (by omega) ?_ ?_ ?_ (e5.co Co_pop) (by omega) ?_ ?_
          · rw [au_it_add hk, au_it_s hac, e2, List.append_assoc]
            rfl
          · intro z hz
            rcases List.mem_append.1 hz with q | q
            · exact hlx z q
            · rw [List.mem_singleton.1 q]
              show nI j ≤ lvK (au_ko s')
              rw [hq]
              exact Int32.le_refl _
          · rw [au_fl_app e3 hle, e4]
            show (if nI j ≤ lvK (au_ko s') then au_fl (nI j) [] (au_pop (au_ko s', x, y, 0, 0, 0) t') else _).2 = _
            rw [if_pos (by rw [hq]; exact Int32.le_refl _)]
            rfl
          · rw [Co_pop.2 5 (by decide), e7, h51, h5]
          · rw [Co_pop.ko, nI_1]
            exact e8
      rw [f_5018_L20, if_neg h300, lvK_eq, hko, if_pos hq]
      by_cases h23 : au_ko s' = 23
      · refine key (au_cd 11 0 (au_nx s')) (s'.2 2) (au_cn (au_cd 11 0 (au_nx s'))) _ (hLx.co Co_cd) rfl ?_ ?_
        · rw [hacc, if_pos (Or.inl h23), if_pos h23]
        · intro s2 hs2
          rw [bS_eq, if_pos h23]
          show f_5018_J73 (f_rd n) (f_5018_L20 (f_rd n) m) (nI j) (nI l2) (s'.2 2) (au_ko s') (au_nx s') = _
          unfold f_5018_J73 f_5018_J91
          rw [if_pos h23, nI_1, nI_1]
          show bOv (f_rd n 5018 (nI (j + 1)) (au_cd 11 0 (au_nx s'))) _ = _
          rw [hs2]
          unfold au_pop
          rw [if_pos (Or.inl h23)]
          rfl
      · by_cases h24 : au_ko s' = 24
        · refine key (au_cd 12 0 (au_nx s')) (s'.2 2) (au_cn (au_cd 12 0 (au_nx s'))) _ (hLx.co Co_cd) rfl ?_ ?_
          · rw [hacc, if_pos (Or.inr h24), if_neg h23]
          · intro s2 hs2
            rw [bS_eq, if_neg h23, if_pos h24]
            show f_5018_J73 (f_rd n) (f_5018_L20 (f_rd n) m) (nI j) (nI l2) (s'.2 2) (au_ko s') (au_nx s') = _
            unfold f_5018_J73 f_5018_J91
            rw [if_neg h23, nI_1, nI_1]
            show bOv (f_rd n 5018 (nI (j + 1)) (au_cd 12 0 (au_nx s'))) _ = _
            rw [hs2]
            unfold au_pop
            rw [if_pos (Or.inr h24)]
            rfl
        · refine key (au_nx s') (s'.2 2) 0 _ hLx rfl ?_ ?_
          · rw [hacc, if_neg (fun q => q.elim h23 h24)]
          · intro s2 hs2
            rw [bS_eq, if_neg h23, if_neg h24, nI_1, nI_1]
            show bOv (f_rd n 5018 (nI (j + 1)) (au_nx s')) _ = _
            rw [hs2]
            unfold au_pop
            rw [if_neg (fun q => q.elim h23 h24)]
            rfl
theorem x18 {n : Nat} (h18 : C18 n) (h19 : C19 n) : C18 (n + 1) := by
  intro j h1 h7 a e L s st op bl hL hn hst hop
  rw [rd_18]
  unfold f_5018
  have he := hL.2.2.2.2.1
  by_cases q : j = 7
  · subst q
    rw [if_neg nlt7]
    rcases h19 a e L s st op bl hL (by omega) hst with ⟨f, t, k, s', g1, g2, g3⟩ | ⟨k, s', a', g1, g2, g3, g4, g5⟩
    · rw [g1]
      exact Or.inl ⟨f, t, k, s', rfl, g2, g3⟩
    · rw [g1]
      rw [au_en_hd hop] at g2
      refine Or.inr ⟨k, s', [], s', a', rfl, g2, by simp, rfl, g3, g4, g5, ?_⟩
      have hb : 0 ≤ (lvK (au_ko s')).toInt ∧ (lvK (au_ko s')).toInt ≤ 7 := lvK_b (au_ko s')
      rcases Nat.lt_or_ge (lvK (au_ko s')).toInt.toNat 7 with r | r
      · left
        rw [i_lt, nI_T (by omega)]
        omega
      · right
        rw [i_eq]
        show _ = (7 : Int)
        omega
  · rw [if_pos (lt7 (by omega)), nI_1]
    have hop1 : HdOK (nI (j + 1)) op := by
      cases op with
      | nil => trivial
      | cons x r => exact ⟨Int32.lt_trans hop.1 (nI_lt (by omega) (by omega)), hop.2⟩
    rcases h18 (j + 1) (by omega) (by omega) a e L s st op bl hL (by omega) hst hop1 with ⟨f, t, k, s', g1, g2, g3⟩ | ⟨k, s'', ops, s', a', g1, g2, g3, g4, g5, g6, g7, g8⟩
    · rw [g1]
      refine Or.inl ⟨f, t, k, s', ?_, g2, g3⟩
      show f_5018_L20 (f_rd n) (399 + 1) (nI j) 0 s' = some s'
      exact dd_L20 g3 (nI_ne0 (by omega) (by omega))
    · rw [g1]
      have hle : nI j ≤ nI (j + 1) := nI_le (by omega) (by omega)
      show GoX (nI j) (f_5018_L20 (f_rd n) 400 (nI j) (nI 0) s') a e L s st op bl
      refine x18_loop h18 h1 (by omega) (by omega) hop 400 0 k s'' ops s' a' (by have := g5.2.2.2.1; omega) (by omega) g2 (fun z hz => Int32.le_trans hle (g3 z hz)) ?_ g5 g6 g7 ?_
      · rw [au_fl_lw g3 hle]
        exact g4
      · rw [nI_1]
        exact g8
