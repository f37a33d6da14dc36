/-! the reader's core state, live and dead -/
theorem xg_n {xs : List Int32} {a : Nat} (h : a < 100000) : xg xs (nI a) = xs.getD a 0 := by
  rw [xg_in (nI_pos (by omega)), nI_C h]
theorem xset_n {xs : List Int32} {a : Nat} {v : Int32} (h : a < 100000) : xset xs (nI a) v = xs.set a v := by
  unfold xset
  rw [if_neg (nI_pos (by omega)), nI_C h]
theorem xset_len (xs : List Int32) (i v : Int32) : (xset xs i v).length = xs.length := by
  unfold xset
  split
  · rfl
  · exact List.length_set
theorem gD_set_s {xs : List Int32} {i : Nat} {v : Int32} (h : i < xs.length) : (xs.set i v).getD i 0 = v := by
  simp [List.getD_eq_getElem?_getD, h]
theorem gD_set_n {xs : List Int32} {i j : Nat} {v : Int32} (h : i ≠ j) : (xs.set i v).getD j 0 = xs.getD j 0 := by
  simp [List.getD_eq_getElem?_getD, List.getElem?_set_ne h]
/-- the core of two states is the same -/
def Co (s s' : Sx) : Prop := s'.1 0 = s.1 0 ∧ ∀ v, v < 6 → s'.2 v = s.2 v
theorem Co.rfl' {s : Sx} : Co s s := ⟨rfl, fun _ _ => rfl⟩
theorem Co.tr {s s' s'' : Sx} (h : Co s s') (h' : Co s' s'') : Co s s'' := ⟨h'.1.trans h.1, fun v hv => (h'.2 v hv).trans (h.2 v hv)⟩
theorem Co_cd {c x : Int32} {s : Sx} : Co s (au_cd c x s) := ⟨rfl, fun _ _ => rfl⟩
theorem Co_pt {x : Int32} {s : Sx} : Co s (au_pt x s) := ⟨rfl, fun _ _ => rfl⟩
theorem Co_sv {t x : Int32} {s : Sx} : Co s (au_sv t x s) := ⟨rfl, fun _ _ => rfl⟩
theorem Co_ep {p : Int32} {s : Sx} : Co s (au_ep p s) := ⟨rfl, fun _ _ => rfl⟩
theorem Co_bp {s : Sx} : Co s (au_bp s) := ⟨rfl, fun _ _ => rfl⟩
theorem Co_sB {s : Sx} {k : Nat} {xs : List Int32} (h : k ≠ 0) : Co s (sB s k xs) := ⟨if_neg (fun e => h e.symm), fun _ _ => rfl⟩
theorem Co_pop {e : Ae} {s : Sx} : Co s (au_pop e s) := by
  unfold au_pop
  split
  · exact (Co_cd.tr Co_pt).tr Co_sv
  · exact Co_cd
theorem Co_fl {lv : Int32} {op : List Ae} {s : Sx} : Co s (au_fl lv op s).2 := by
  induction op generalizing s with
  | nil => exact Co.rfl'
  | cons e r ih =>
    unfold au_fl
    split
    · exact Co_pop.tr ih
    · exact Co.rfl'
theorem Co.ko {s s' : Sx} (h : Co s s') : au_ko s' = au_ko s := by
  unfold au_ko
  rw [h.1, h.2 2 (by decide)]
theorem Co.nx {s s' : Sx} (h : Co s s') : xg (s'.1 0) (s'.2 2 + 1) = xg (s.1 0) (s.2 2 + 1) := by
  rw [h.1, h.2 2 (by decide)]
/-- the reader goes on: at the token a of e, at the level L -/
def Lv (a e L : Nat) (s : Sx) : Prop :=
  s.2 0 = 0 ∧ s.2 2 = nI a ∧ s.2 3 = nI e ∧ a ≤ e ∧ e ≤ 300 ∧ (s.1 0).length = e + 1 ∧ s.2 4 = nI L ∧ L ≤ 8 ∧ (s.1 0).getD e 0 = 0 ∧ (∀ i, i < e → (s.1 0).getD i 0 ≠ 0) ∧ (s.2 5 = 0 ∨ s.2 5 = 1)
/-- the reader has met its fault -/
def Dd (f t : Int32) (s : Sx) : Prop := s.2 0 = f ∧ s.2 1 = t ∧ (f ≠ 0 ∧ f ≠ 99) ∧ s.2 2 = s.2 3 ∧ xg (s.1 0) (s.2 3) = 0
theorem Lv.co {a e L : Nat} {s s' : Sx} (h : Lv a e L s) (c : Co s s') : Lv a e L s' := by
  unfold Lv
  rw [c.1, c.2 0 (by decide), c.2 2 (by decide), c.2 3 (by decide), c.2 4 (by decide), c.2 5 (by decide)]
  exact h
theorem Dd.co {f t : Int32} {s s' : Sx} (h : Dd f t s) (c : Co s s') : Dd f t s' := by
  unfold Dd
  rw [c.1, c.2 0 (by decide), c.2 1 (by decide), c.2 2 (by decide), c.2 3 (by decide)]
  exact h
theorem Dd.ko {f t : Int32} {s : Sx} (h : Dd f t s) : f_5003 s = 0 := by
  unfold f_5003
  rw [h.2.2.2.1]
  exact h.2.2.2.2
theorem Dd.dn {f t : Int32} {s : Sx} (h : Dd f t s) {x : Int32} : Dd f t (sV s 4 x) := h
theorem Dd.sc {f t : Int32} {s : Sx} (h : Dd f t s) {x : Int32} : Dd f t (sV s 5 x) := h
theorem Dd.ref {f t g u : Int32} {s : Sx} (h : Dd f t s) : Dd f t (f_5005 g u s) := by
  unfold f_5005
  rw [if_neg (fun e => h.2.2.1.1 (h.1.symm.trans e))]
  exact ⟨h.1, h.2.1, h.2.2.1, rfl, h.2.2.2.2⟩
theorem Dd.ex {f t x : Int32} {s : Sx} (h : Dd f t s) (hx : x ≠ 0) : Dd f t (f_5006 x s) := by
  unfold f_5006
  have hk : xg (s.1 0) (s.2 2) = 0 := h.ko
  rw [hk, if_neg (fun e => hx e.symm)]
  exact h.ref
theorem Lv.e0 {a e L : Nat} {s : Sx} (h : Lv a e L s) : xg (s.1 0) (s.2 3) = 0 := by
  rw [h.2.2.1, xg_n (by have := h.2.2.2.2.1; omega)]
  exact h.2.2.2.2.2.2.2.2.1
theorem Lv.ref {a e L : Nat} {f t : Int32} {s : Sx} (h : Lv a e L s) (hf : f ≠ 0 ∧ f ≠ 99) : Dd f t (f_5005 f t s) := by
  unfold f_5005
  rw [if_pos h.1]
  exact ⟨rfl, rfl, hf, rfl, h.e0⟩
theorem Lv.lt {a e L : Nat} {s : Sx} (h : Lv a e L s) (hk : au_ko s ≠ 0) : a < e := by
  obtain ⟨_, h2, _, h4, h5, h6, _, _, h9, _⟩ := h
  rcases Nat.lt_or_eq_of_le h4 with q | q
  · exact q
  · exfalso
    apply hk
    unfold au_ko
    rw [h2, xg_n (by omega), q]
    exact h9
theorem Lv.nx {a e L : Nat} {s : Sx} (h : Lv a e L s) (hk : a < e) : Lv (a + 1) e L (au_nx s) := by
  obtain ⟨h1, h2, h3, h4, h5, h6, h7, h8, h9, h10, h11⟩ := h
  refine ⟨h1, ?_, h3, hk, h5, h6, h7, h8, h9, h10, h11⟩
  show s.2 2 + 1 = _
  rw [h2, nI_1]
theorem Lv.dn {a e L : Nat} {s : Sx} (h : Lv a e (L + 1) s) : Lv a e L (au_dn s) := by
  obtain ⟨h1, h2, h3, h4, h5, h6, h7, h8, h9, h10, h11⟩ := h
  refine ⟨h1, h2, h3, h4, h5, h6, ?_, by omega, h9, h10, h11⟩
  show s.2 4 - 1 = _
  rw [h7, nI_pred]
theorem Lv.l8 {a e L : Nat} {s : Sx} (h : Lv a e L s) : s.2 4 < 8 ↔ L < 8 := by
  obtain ⟨h1, h2, h3, h4, h5, h6, h7, h8, h9, h10, h11⟩ := h
  rw [h7]
  constructor
  · intro q
    rcases Nat.lt_or_ge L 8 with r | r
    · exact r
    · exact absurd q (nI_nlt (a := L) (b := 8) r (by omega))
  · intro q
    exact nI_lt q (by decide)
theorem Lv.up {a e L : Nat} {s : Sx} (h : Lv a e L s) (hk : a < e) (hl : L < 8) : Lv (a + 1) e (L + 1) (au_up s) := by
  obtain ⟨h1, h2, h3, h4, h5, h6, h7, h8, h9, h10, h11⟩ := h
  refine ⟨h1, ?_, h3, hk, h5, h6, ?_, by omega, h9, h10, h11⟩
  · show s.2 2 + 1 = _
    rw [h2, nI_1]
  · show s.2 4 + 1 = _
    rw [h7, nI_1]
theorem Lv.sk {a e L : Nat} {s : Sx} {x : Int32} (h : Lv a e L s) (hk : a < e) (hx : x ≠ 0) : Lv a e L (au_sk x s) := by
  obtain ⟨h1, h2, h3, h4, h5, h6, h7, h8, h9, h10, h11⟩ := h
  have e0 : (au_sk x s).1 0 = (s.1 0).set a x := by
    show xset (s.1 0) (s.2 2) x = _
    rw [h2, xset_n (by omega)]
  refine ⟨h1, h2, h3, h4, h5, ?_, h7, h8, ?_, ?_, h11⟩
  · rw [e0, List.length_set, h6]
  · rw [e0, gD_set_n (by omega), h9]
  · intro i hi
    rw [e0]
    by_cases q : a = i
    · subst q
      rw [gD_set_s (by omega)]
      exact hx
    · rw [gD_set_n q]
      exact h10 i hi
theorem Lv.s5 {a e L : Nat} {s : Sx} {x : Int32} (h : Lv a e L s) (hx : x = 0 ∨ x = 1) : Lv a e L (sV s 5 x) := by
  obtain ⟨h1, h2, h3, h4, h5, h6, h7, h8, h9, h10, h11⟩ := h
  exact ⟨h1, h2, h3, h4, h5, h6, h7, h8, h9, h10, hx⟩
theorem ex_y {s : Sx} {x : Int32} (h : au_ko s = x) : f_5006 x s = au_nx s := by
  unfold f_5006
  exact if_pos h
theorem ex_n {s : Sx} {x : Int32} (h : ¬ au_ko s = x) : f_5006 x s = f_5005 3 (s.2 2) s := by
  unfold f_5006
  exact if_neg h
theorem op_y {s : Sx} (h : s.2 4 < 8) : f_5007 s = au_up s := by
  unfold f_5007
  exact if_pos h
theorem op_n {s : Sx} (h : ¬ s.2 4 < 8) : f_5007 s = f_5005 4 (s.2 2) s := by
  unfold f_5007
  exact if_neg h
theorem Dd.op {f t : Int32} {s : Sx} (h : Dd f t s) (hl : ¬ s.2 4 < 8) : Dd f t (f_5007 s) := by
  rw [op_n hl]
  exact h.ref
/-- the automaton's steps -/
theorem au_it_e (k : Nat) (A : Au) : au_it (k + 1) A = match au_acc A with
    | .inl B => au_it k B
    | .inr f => .inr f := rfl
theorem au_it_s {k : Nat} {A B : Au} (h : au_acc A = .inl B) : au_it (k + 1) A = au_it k B := by
  rw [au_it_e, h]
theorem au_it_f {k : Nat} {A : Au} {f : Int32 × Int32} (h : au_acc A = .inr f) : au_it (k + 1) A = .inr f := by
  rw [au_it_e, h]
theorem au_it_add {j k : Nat} {A B : Au} (h : au_it j A = .inl B) : au_it (j + k) A = au_it k B := by
  induction j generalizing A with
  | zero =>
    cases h
    rw [Nat.zero_add]
  | succ j ih =>
    rw [show j + 1 + k = (j + k) + 1 by omega]
    rw [au_it_e] at h ⊢
    cases q : au_acc A with
    | inl C =>
      rw [q] at h
      exact ih h
    | inr f =>
      rw [q] at h
      cases h
theorem au_set_n {s : Sx} {st : Int32} {op bl : List Ae} (h : st ≠ 1) : au_set (s, st, op, bl) = (s, st, op, bl) := if_neg (fun q => h q.1)
theorem au_set_i (A : Au) : au_set (au_set A) = au_set A := by
  obtain ⟨s, st, op, bl⟩ := A
  by_cases h : st = 1 ∧ au_ko s ≠ 6
  · cases op with
    | nil =>
      have e : au_set (s, st, [], bl) = (s, 0, [], bl) := if_pos h
      rw [e]
      exact au_set_n (by decide)
    | cons x r =>
      have e : au_set (s, st, x :: r, bl) = (au_ep x.2.1 (au_pt x.2.2.1 s), 0, r, bl) := if_pos h
      rw [e]
      exact au_set_n (by decide)
  · have e : au_set (s, st, op, bl) = (s, st, op, bl) := if_neg h
    rw [e, e]
theorem au_acc_set (A : Au) : au_acc (au_set A) = au_acc A := by
  unfold au_acc
  rw [au_set_i]
theorem au_it_set {k : Nat} (A : Au) : au_it (k + 1) (au_set A) = au_it (k + 1) A := by
  rw [au_it_e, au_it_e, au_acc_set]
theorem au_acc_n {s : Sx} {st : Int32} {op bl : List Ae} (h : st ≠ 1) : au_acc (s, st, op, bl) = au_acc0 s st op bl := by
  unfold au_acc
  rw [au_set_n h]
/-- the fault's outcome -/
def RdF (R : Option Sx) (A : Au) : Prop := ∃ f t k s', R = some s' ∧ au_it k A = .inr (f, t) ∧ Dd f t s'
theorem RdF.pre {R : Option Sx} {A B : Au} {k : Nat} (h : RdF R B) (q : au_it k A = .inl B) : RdF R A := by
  obtain ⟨f, t, j, s', h1, h2, h3⟩ := h
  exact ⟨f, t, k + j, s', h1, by rw [au_it_add q]; exact h2, h3⟩
theorem RdF.set {R : Option Sx} {A : Au} (h : RdF R (au_set A)) : RdF R A := by
  obtain ⟨f, t, j, s', h1, h2, h3⟩ := h
  cases j with
  | zero => cases h2
  | succ j => exact ⟨f, t, j + 1, s', h1, by rw [← au_it_set]; exact h2, h3⟩
theorem RdF.one {R : Option Sx} {A : Au} {f t : Int32} {s' : Sx} (h1 : R = some s') (h2 : au_acc A = .inr (f, t)) (h3 : Dd f t s') : RdF R A :=
  ⟨f, t, 1, s', h1, au_it_f h2, h3⟩
theorem au_fl_app {lv lw : Int32} {ops op : List Ae} {s : Sx} (h : ∀ x, x ∈ ops → lw ≤ lvK x.1) (hl : lv ≤ lw) : au_fl lv (ops ++ op) s = au_fl lv op (au_fl lw ops s).2 := by
  induction ops generalizing s with
  | nil => rfl
  | cons e r ih =>
    have he := h e (List.mem_cons_self ..)
    show (if lv ≤ lvK e.1 then au_fl lv (r ++ op) (au_pop e s) else (e :: (r ++ op), s)) = _
    rw [if_pos (Int32.le_trans hl he), ih (fun x hx => h x (List.mem_cons_of_mem _ hx))]
    have e2 : au_fl lw (e :: r) s = au_fl lw r (au_pop e s) := if_pos he
    rw [e2]
theorem au_fl_all {lw : Int32} {ops : List Ae} {s : Sx} (h : ∀ x, x ∈ ops → lw ≤ lvK x.1) : (au_fl lw ops s).1 = [] := by
  induction ops generalizing s with
  | nil => rfl
  | cons e r ih =>
    have e2 : au_fl lw (e :: r) s = au_fl lw r (au_pop e s) := if_pos (h e (List.mem_cons_self ..))
    rw [e2]
    exact ih (fun x hx => h x (List.mem_cons_of_mem _ hx))
theorem au_fl_lw {lv lw : Int32} {ops : List Ae} {s : Sx} (h : ∀ x, x ∈ ops → lw ≤ lvK x.1) (hl : lv ≤ lw) : au_fl lv ops s = au_fl lw ops s := by
  induction ops generalizing s with
  | nil => rfl
  | cons e r ih =>
    have he := h e (List.mem_cons_self ..)
    have e1 : au_fl lv (e :: r) s = au_fl lv r (au_pop e s) := if_pos (Int32.le_trans hl he)
    have e2 : au_fl lw (e :: r) s = au_fl lw r (au_pop e s) := if_pos he
    rw [e1, e2]
    exact ih (fun x hx => h x (List.mem_cons_of_mem _ hx))
/-- what lies below an expression of a level -/
def HdOK (own : Int32) : List Ae → Prop
  | [] => True
  | e :: _ => lvK e.1 < own ∧ e.1 ≠ 40 ∧ e.1 ≠ 48 ∧ e.1 ≠ 50
theorem au_fl_hd {own : Int32} {op : List Ae} {s : Sx} (h : HdOK own op) : au_fl own op s = (op, s) := by
  cases op with
  | nil => rfl
  | cons e r =>
    have hn : ¬ own ≤ lvK e.1 := fun q => by
      have := h.1
      rw [i_lt] at this
      rw [i_le] at q
      omega
    exact if_neg hn
theorem au_en_hd {own : Int32} {op bl : List Ae} {s : Sx} (h : HdOK own op) : au_en bl op s = (s, 4, op, bl) := by
  cases op with
  | nil => rfl
  | cons e r =>
    unfold au_en
    rw [if_neg h.2.1, if_neg h.2.2.1, if_neg h.2.2.2]
