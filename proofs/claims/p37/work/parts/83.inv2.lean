/-! the automaton's invariant; first acts -/
abbrev stF (k : Int32) : Prop := k = 43 ∨ k = 44 ∨ k = 45 ∨ k = 46 ∨ k = 47 ∨ k = 48 ∨ k = 49 ∨ k = 50
/-- a place in the codes that is told later -/
def CdV (s : Sx) (x : Int32) : Prop := ∃ k, x = nI k ∧ k < (s.1 7).length ∧ (s.1 7).getD k 0 ≠ 8 ∧ (s.1 7).getD k 0 ≠ 9
def PtV (s : Sx) (x : Int32) : Prop := ∃ p, x = nI p ∧ p < (s.1 5).length
/-- a token where no call lies -/
def TkV (s : Sx) (x : Int32) : Prop := ∃ i, x = nI i ∧ i < 1000 ∧ (s.1 0).getD i 0 ≠ 35 ∧ (s.1 0).getD i 0 ≠ 4
/-- the statement that is read: its part, and its first token, d or more before -/
def FV (s : Sx) (f : Ae) (a d : Nat) : Prop := PtV s f.2.1 ∧ ∃ t, f.2.2.1 = nI t ∧ t + d ≤ a ∧ 3 * (s.1 5).length ≤ t + 3
def BlV (s : Sx) (b : Ae) : Prop := (b.1 = 5 ∨ b.1 = 6 ∨ b.1 = 7 ∨ b.1 = 10) ∧ PtV s b.2.1 ∧ CdV s b.2.2.1 ∧ TkV s b.2.2.2.2.2 ∧ (b.1 = 10 → TkV s b.2.2.2.2.1)
def Sh (tx : List Int32) (s : Sx) (st : Int32) (op bl : List Ae) (a : Nat) : Prop :=
  (st = 0 ∧ op = [] ∧ 3 * (s.1 5).length ≤ a) ∨
  (st = 1 ∧ (∃ p k, op = [(51, p, k, 0, 0, 0)] ∧ PtV s p ∧ CdV s k) ∧ 3 * (s.1 5).length ≤ a) ∨
  ((st = 2 ∨ st = 3 ∨ st = 4 ∨ st = 13) ∧ ∃ xs f, op = xs ++ [f] ∧ (∀ x, x ∈ xs → isEx x.1) ∧ stF f.1 ∧ FV s f a (if st = 4 then 2 else 1) ∧ (st = 3 ∨ st = 13 → ∃ y r, op = y :: r ∧ y.1 = 42) ∧ (st = 13 → tkd (tks tx) a = 28)) ∨
  (st = 5 ∧ ∃ f, op = [f] ∧ f.1 = 43 ∧ FV s f a 1) ∨
  (st = 6 ∧ ∃ f, op = [f] ∧ f.1 = 49 ∧ FV s f a 2) ∨
  (st = 7 ∧ ∃ p o k, op = [(52, p, o, k, 0, 0)] ∧ PtV s p ∧ CdV s k ∧ 3 * (s.1 5).length ≤ a) ∨
  ((st = 7 ∨ st = 8 ∨ st = 9 ∨ st = 10 ∨ st = 11 ∨ st = 12) ∧ bl = [] ∧ ∃ f, op = [f] ∧ f.1 = 53 ∧ FV s f a (if st = 8 then 1 else 2) ∧ TkV s f.2.2.1 ∧ (st ≠ 8 → CdV s f.2.2.2.1) ∧ (pdN st = 1 → ∃ d, f.2.2.2.2.1 = nI d ∧ d + 1 = (s.1 9).length)) ∨
  (st = 14 ∧ ∃ f, op = [f] ∧ f.1 = 54 ∧ FV s f a 2)
def s13 (st : Int32) : Nat := if st = 13 then 1 else 0
def sPr (st : Int32) : Nat := if st = 10 ∨ st = 11 ∨ st = 12 then 1 else 0
def dsA (st : Int32) : Nat := if st = 8 then 3 else 0
def dsB (st : Int32) (op bl : List Ae) : Nat := if st = 8 then 0 else if st = 9 then 4 else if sPr st = 1 then 3 else if (op.any fun x => x.1 == 53) = true then 2 else if (bl.any fun b => b.1 == 10) = true then 1 else 0
def Nm (tx : List Int32) (s : Sx) (st : Int32) (op bl : List Ae) (a L : Nat) : Prop :=
  (s.1 7).length + op.length + 2 * bl.length ≤ 2 * a + s13 st ∧
  ((st = 0 ∨ st = 1) → bl = [] → a = 0 ∨ (s.1 7).length + op.length + 2 ≤ 2 * a) ∧
  3 * (s.1 15).length ≤ a + cc op + s13 st ∧
  L + s13 st = bl.length + lc op + sPr st ∧
  8 * (s.1 9).length + dsA st ≤ bend (tks tx) a + dsB st op bl
def Inv (tx : List Int32) (A : Au) (a L : Nat) : Prop :=
  IvO A.1 (mop A.2.1 A.2.2.1) ∧ (∀ b, b ∈ A.2.2.2 → BlV A.1 b) ∧ Sh tx A.1 A.2.1 A.2.2.1 A.2.2.2 a ∧ Nm tx A.1 A.2.1 A.2.2.1 A.2.2.2 a L
/-- rows that the invariant speaks of are the same, or longer codes -/
def RwS (s s' : Sx) : Prop := (∀ i, (s.1 0).getD i 0 ≠ 35 ∧ (s.1 0).getD i 0 ≠ 4 → (s'.1 0).getD i 0 ≠ 35 ∧ (s'.1 0).getD i 0 ≠ 4) ∧ (s'.1 5).length = (s.1 5).length ∧ (s.1 7).length ≤ (s'.1 7).length ∧ ∀ k, k < (s.1 7).length → (s'.1 7).getD k 0 = (s.1 7).getD k 0
theorem RwS.r {s : Sx} : RwS s s := ⟨fun _ h => h, rfl, Nat.le_refl _, fun _ _ => rfl⟩
theorem RwS.tr {s s' s'' : Sx} (h : RwS s s') (h' : RwS s' s'') : RwS s s'' :=
  ⟨fun i q => h'.1 i (h.1 i q), h'.2.1.trans h.2.1, Nat.le_trans h.2.2.1 h'.2.2.1, fun k hk => (h'.2.2.2 k (Nat.lt_of_lt_of_le hk h.2.2.1)).trans (h.2.2.2 k hk)⟩
theorem RwS.of {s s' : Sx} (h0 : s'.1 0 = s.1 0) (h5 : (s'.1 5).length = (s.1 5).length) (h7 : s'.1 7 = s.1 7) : RwS s s' := by
  refine ⟨fun i h => by rw [h0]; exact h, h5, by rw [h7]; exact Nat.le_refl _, fun k _ => by rw [h7]⟩
theorem RwS.cd {s : Sx} {c y : Int32} (hc : (s.1 7).length < 600) : RwS s (au_cd c y s) := by
  have e7 : (au_cd c y s).1 7 = s.1 7 ++ [c] := xadd_e hc
  refine ⟨fun i h => h, rfl, ?_, fun k hk => ?_⟩
  · rw [e7, List.length_append]; omega
  · rw [e7, gD_app_l hk]
theorem RwS.sk {s : Sx} {x : Int32} {a : Nat} (h2 : s.2 2 = nI a) (ha : a < 1000) (hx : x ≠ 35 ∧ x ≠ 4) : RwS s (au_sk x s) := by
  refine ⟨fun i h => ?_, rfl, Nat.le_refl _, fun _ _ => rfl⟩
  have e0 : (au_sk x s).1 0 = (s.1 0).set a x := by
    show xset (s.1 0) (s.2 2) x = _
    rw [h2, xset_n (by omega)]
  rw [e0]
  by_cases q : a = i
  · subst q
    rcases Nat.lt_or_ge a (s.1 0).length with w | w
    · rw [gD_set_s w]; exact hx
    · rw [List.getD_eq_getElem?_getD, List.getElem?_eq_none (by rw [List.length_set]; exact w)]
      show (0 : Int32) ≠ 35 ∧ (0 : Int32) ≠ 4
      decide
  · rw [gD_set_n q]; exact h
/-- a name becomes that of a call: nothing of what is open lies there -/
theorem RwS.sk4 {s : Sx} {x : Int32} {a : Nat} (h2 : s.2 2 = nI a) (ha : a < 1000) (hx : (s.1 0).getD a 0 = 4) : RwS s (au_sk x s) := by
  refine ⟨fun i h => ?_, rfl, Nat.le_refl _, fun _ _ => rfl⟩
  have e0 : (au_sk x s).1 0 = (s.1 0).set a x := by
    show xset (s.1 0) (s.2 2) x = _
    rw [h2, xset_n (by omega)]
  rw [e0]
  by_cases q : a = i
  · subst q
    exact absurd hx h.2
  · rw [gD_set_n q]; exact h
theorem CdV.up {s s' : Sx} {x : Int32} (h : CdV s x) (r : RwS s s') : CdV s' x := by
  obtain ⟨k, h1, h2, h3⟩ := h
  exact ⟨k, h1, Nat.lt_of_lt_of_le h2 r.2.2.1, by rw [r.2.2.2 k h2]; exact h3⟩
theorem PtV.up {s s' : Sx} {x : Int32} (h : PtV s x) (r : RwS s s') : PtV s' x := by
  obtain ⟨p, h1, h2⟩ := h
  exact ⟨p, h1, by rw [r.2.1]; exact h2⟩
theorem TkV.up {s s' : Sx} {x : Int32} (h : TkV s x) (r : RwS s s') : TkV s' x := by
  obtain ⟨i, h1, h2, h3⟩ := h
  exact ⟨i, h1, h2, r.1 i h3⟩
theorem FV.up {s s' : Sx} {f : Ae} {a d a' d' : Nat} (h : FV s f a d) (r : RwS s s') (hd : a + d' ≤ a' + d) : FV s' f a' d' := by
  obtain ⟨h1, t, h2, h3, h4⟩ := h
  exact ⟨h1.up r, t, h2, by omega, by rw [r.2.1]; exact h4⟩
theorem BlV.up {s s' : Sx} {b : Ae} (h : BlV s b) (r : RwS s s') : BlV s' b := ⟨h.1, h.2.1.up r, h.2.2.1.up r, h.2.2.2.1.up r, fun e => (h.2.2.2.2 e).up r⟩
theorem OpV.up {s s' : Sx} {x : Ae} (h : OpV s x) (r : RwS s s') : OpV s' x := by
  refine ⟨h.1, fun e => ?_⟩
  obtain ⟨h1, h2⟩ := h.2 e
  exact ⟨TkV.up h1 r, CdV.up h2 r⟩
theorem IvO.up {s s' : Sx} {op : List Ae} (h : IvO s op) (r : RwS s s') (h15 : (s.1 15).length ≤ (s'.1 15).length) : IvO s' op := ⟨fun x hx => (h.1 x hx).up r, h.2.1.mono h15, h.2.2⟩
theorem bend_s {tx : List Int32} {a : Nat} (h : a + 1 < (tks tx).length) : bend (tks tx) a + 1 ≤ bend (tks tx) (a + 1) ∧ (tkd (tks tx) a = 10 → bend (tks tx) a + 3 ≤ bend (tks tx) (a + 1)) ∧ bend (tks tx) (a + 1) ≤ tx.length := by
  have t := tks_at h
  have e : bend (tks tx) (a + 1) = ten (tks tx) a := rfl
  rw [e]
  exact ⟨by have := t.2.2.1; have := t.2.2.2.1; omega, t.2.2.2.2.2, t.2.2.2.2.1⟩
/-- the relation, but for what is looked for -/
def Rel' (tx : List Int32) (A : Au) (a L : Nat) (m : Mx) (r : Nat) : Prop :=
  Lv a ((tks tx).length - 1) L A.1 ∧ Raw tx A.1 a ∧ RR (tks tx) tx A.1 a (mop A.2.1 A.2.2.1) A.2.2.2 (oeP A.2.2.1 A.2.2.2) (ocP A.2.2.1) (pdN A.2.1) m ∧ m 0 7 = nI (bend (tks tx) (a + r)) ∧
    (m 0 33 = A.1.2 4 ∧ m 0 34 = scN A.2.1 (A.1.2 5)) ∧ Ex A.2.1 A.2.2.1 A.2.2.2 a A.1 m
theorem Rel.w {tx : List Int32} {A : Au} {a L : Nat} {m : Mx} {r : Nat} (h : Rel tx A a L m r) : Rel' tx A a L m r := ⟨h.1, h.2.1, h.2.2.1, h.2.2.2.1, h.2.2.2.2.1.2, h.2.2.2.2.2⟩
/-- an act that takes the token and changes nothing else: what the reference holds -/
theorem Rel.tk {tx : List Int32} {s : Sx} {st st' w : Int32} {op bl : List Ae} {a L : Nat} {m : Mx} (h : Rel' tx (s, st, op, bl) a L m 1) (ha : a + 1 < (tks tx).length) (hw : w = wm ((s.1 0).getD a 0)) (hmo : mop st' op = mop st op) (hpd : pdN st' = pdN st) (hsc : scN st' (s.2 5) = scN st (s.2 5))
    (hx51 : ∀ x, op = [x] → x.1 ≠ 51 ∧ x.1 ≠ 52 ∧ (x.1 = 53 → st ≠ 8 ∧ st' ≠ 7)) : Rel tx (au_nx s, st', op, bl) (a + 1) L (MK w st' m) 0 := by
  obtain ⟨hL, hR, hM, h7, ⟨h33, h34⟩, hE⟩ := h
  have ha3 : a < (tks tx).length - 1 := by omega
  have h3 := hL.2.2.2.2.1
  refine ⟨hL.nx ha3, hR.nx (fun _ _ => rfl) (fun _ _ => rfl) rfl, ?_, h7, ⟨?_, ?_, ?_⟩, ?_⟩
  · have := hM.nx (w := w) (st := st') (by have := hL.2.2.2.2.1; omega) hw
    show RR (tks tx) tx (au_nx s) (a + 1) (mop st' op) bl (oeP op bl) (ocP op) (pdN st') _
    rw [hmo, hpd]
    exact this
  · unfold MK; rw [mp_s]
  · unfold MK
    rw [mp_n (by decide)]
    exact h33
  · show m 0 34 = scN st' (s.2 5)
    rw [hsc]
    exact h34
  · obtain ⟨x1, x2, x3, x4, x5, x6⟩ := hE
    refine ⟨x1, x2, fun x hx e => absurd e (hx51 x hx).1, fun x hx e => absurd e (hx51 x hx).2.1, fun x hx e h8 => ?_, ?_⟩
    · obtain ⟨y1, y2, y3, y4⟩ := x5 x hx e ((hx51 x hx).2.2 e).1
      exact ⟨y1, y2, by omega, fun q => absurd q ((hx51 x hx).2.2 e).2⟩
    · show pdN st' = 1 → _
      rw [hpd]
      exact x6
