/-! the reference's reader and the automaton: at a token -/
def oeP (op bl : List Ae) (k : Nat) : Prop := k < 100000 ∧ ((∃ x, x ∈ op ∧ 43 ≤ x.1 ∧ x.2.1 = nI k) ∨ ∃ b, b ∈ bl ∧ b.2.1 = nI k)
def ocP (op : List Ae) (k : Nat) : Prop := k < 100000 ∧ ∃ x, x ∈ op ∧ x.1 = 42 ∧ x.2.1 = nI k
def pdN (st : Int32) : Nat := if st = 9 ∨ st = 10 ∨ st = 11 ∨ st = 12 then 1 else 0
def scN (st s5 : Int32) : Int32 := if st = 9 ∨ st = 10 ∨ st = 11 ∨ st = 12 then 1 else s5
/-- what lies ahead is as the tokens are -/
def Raw (tx : List Int32) (s : Sx) (a : Nat) : Prop := (s.1 1).length = (tks tx).length ∧ ∀ i, a ≤ i → i < (tks tx).length → (s.1 0).getD i 0 = tkd (tks tx) i ∧ (s.1 1).getD i 0 = tvl (tks tx) i
/-- what else the reference holds, by what is looked for -/
def Ex (st : Int32) (op bl : List Ae) (a : Nat) (s : Sx) (m : Mx) : Prop :=
  (∀ q f, op = q ++ [f] → f.1 ≠ 51 → f.1 ≠ 52 → m 0 43 = f.2.1) ∧
  (∀ q f, op = q ++ [f] → f.1 = 47 → m 25 bl.length = f.2.2.2.1) ∧
  (∀ x, op = [x] → x.1 = 51 → m 23 bl.length = x.2.1 ∧ m 24 bl.length = x.2.2.1 ∧ ∀ k, x.2.1 = nI k → k < 1000 → m 8 k = nI a - 1) ∧
  (∀ x, op = [x] → x.1 = 52 → m 23 bl.length = x.2.1 ∧ m 24 bl.length = x.2.2.2.1 ∧ 1 ≤ a ∧ (s.1 0).getD (a - 1) 0 = 6) ∧
  (∀ x, op = [x] → x.1 = 53 → st ≠ 8 → bl = [] ∧ m 24 0 = x.2.2.2.1 ∧ 1 ≤ a ∧ (st = 7 → (s.1 0).getD (a - 1) 0 = 29)) ∧
  (pdN st = 1 → 0 < (s.1 9).length ∧ m 14 ((s.1 9).length - 1) = nI (s.1 14).length ∧ m 15 ((s.1 9).length - 1) = nI (s.1 7).length)
/-- the relation at the token a, before it is read (r = 0) or behind (r = 1) -/
def Rel (tx : List Int32) (A : Au) (a L : Nat) (m : Mx) (r : Nat) : Prop :=
  Lv a ((tks tx).length - 1) L A.1 ∧ Raw tx A.1 a ∧ RR (tks tx) tx A.1 a (mop A.2.1 A.2.2.1) A.2.2.2 (oeP A.2.2.1 A.2.2.2) (ocP A.2.2.1) (pdN A.2.1) m ∧ m 0 7 = nI (bend (tks tx) (a + r)) ∧
    (m 0 32 = A.2.1 ∧ m 0 33 = A.1.2 4 ∧ m 0 34 = scN A.2.1 (A.1.2 5)) ∧ Ex A.2.1 A.2.2.1 A.2.2.2 a A.1 m
theorem RR.ff {T : List Tk} {tx : List Int32} {s : Sx} {a : Nat} {mo bl : List Ae} {oe oc : Nat → Prop} {pd : Nat} {m m' : Mx} (h : RR T tx s a mo bl oe oc pd m) (hj : ∀ j, j ≠ 0 → m' j = m j) (hf : ∀ f, f ∈ [4, 9, 11, 14, 16, 22, 27, 35, 38] → m' 0 f = m 0 f) : RR T tx s a mo bl oe oc pd m' := by
  obtain ⟨⟨⟨h0, h1, h2⟩, h3⟩, h4, h5, h6, h7, h8, h9, h10, h11⟩ := h
  unfold RR MT
  rw [hj 3 (by decide), hj 4 (by decide), hj 5 (by decide), hj 6 (by decide), hj 7 (by decide), hj 8 (by decide), hj 9 (by decide), hj 10 (by decide), hj 11 (by decide), hj 12 (by decide), hj 13 (by decide), hj 14 (by decide), hj 15 (by decide), hj 16 (by decide), hj 17 (by decide), hj 18 (by decide), hj 19 (by decide), hj 20 (by decide), hj 21 (by decide), hj 22 (by decide), hj 23 (by decide), hj 24 (by decide), hj 25 (by decide),
    hf 4 (by decide), hf 9 (by decide), hf 11 (by decide), hf 14 (by decide), hf 16 (by decide), hf 22 (by decide), hf 27 (by decide), hf 35 (by decide), hf 38 (by decide)]
  exact ⟨⟨⟨h0, h1, h2⟩, h3⟩, h4, h5, h6, h7, h8, h9, h10, h11⟩
theorem Ex.ff {st : Int32} {op bl : List Ae} {a : Nat} {s : Sx} {m m' : Mx} (h : Ex st op bl a s m) (hj : ∀ j, j ≠ 0 → m' j = m j) (h43 : m' 0 43 = m 0 43) : Ex st op bl a s m' := by
  unfold Ex
  rw [h43, hj 25 (by decide), hj 23 (by decide), hj 24 (by decide), hj 8 (by decide), hj 14 (by decide), hj 15 (by decide)]
  exact h
/-- the token at hand -/
def Tok (tx : List Int32) (a : Nat) (m : Mx) : Prop := m 0 5 = km (tkd (tks tx) a) ∧ m 0 6 = nI (tpl (tks tx) a) ∧ (tkd (tks tx) a = 3 → m 0 8 = tvl (tks tx) a)
theorem tks_pos (tx : List Int32) : 0 < (tks tx).length := by rw [tks_len]; omega
theorem bend_le {tx : List Int32} {i : Nat} (h : i < (tks tx).length) : bend (tks tx) i ≤ tx.length := by
  unfold bend
  split
  · exact Nat.zero_le _
  · rename_i e
    exact (tks_at (tx := tx) (i := i - 1) (by omega)).2.2.2.2.1
/-- a token is read -/
theorem Rel.read {tx : List Int32} {A : Au} {a L : Nat} {m : Mx} (h : Rel tx A a L m 0) : ∃ m1, f_12019 m = some m1 ∧ RR (tks tx) tx A.1 a (mop A.2.1 A.2.2.1) A.2.2.2 (oeP A.2.2.1 A.2.2.2) (ocP A.2.2.1) (pdN A.2.1) m1 ∧ Tok tx a m1 ∧ (a + 1 < (tks tx).length → Rel tx A a L m1 1) ∧
    (m1 0 32 = A.2.1 ∧ m1 0 33 = A.1.2 4 ∧ m1 0 34 = scN A.2.1 (A.1.2 5)) ∧ Ex A.2.1 A.2.2.1 A.2.2.2 a A.1 m1 := by
  obtain ⟨hL, hR, hM, h7, ⟨h32, h33, h34⟩, hE⟩ := h
  have hp := tks_pos tx
  have ha : a < (tks tx).length := by
    have := hL.2.2.2.1
    omega
  obtain ⟨m1, e1, e2, e3, e4, e5, e6⟩ := rd_12019 hM.1.1 h7 (bend_le ha)
  have hM1 := hM.ff e2.1 (fun f hf => e2.2 f (by revert hf; simp; omega))
  have hE1 := hE.ff e2.1 (e2.2 43 (by decide))
  have hs : m1 0 32 = A.2.1 ∧ m1 0 33 = A.1.2 4 ∧ m1 0 34 = scN A.2.1 (A.1.2 5) := by
    rw [e2.2 32 (by decide), e2.2 33 (by decide), e2.2 34 (by decide)]
    exact ⟨h32, h33, h34⟩
  refine ⟨m1, e1, hM1, ?_, ?_, hs, hE1⟩
  · by_cases q : a + 1 < (tks tx).length
    · have t := tks_at q
      unfold Tok
      rw [e3, e4, t.1.1, t.1.2.1]
      exact ⟨rfl, rfl, fun e => by rw [e6 e]; exact (t.1.2.2.2 (by rw [t.1.1, e]; decide)).symm⟩
    · have ea : a = (tks tx).length - 1 := by omega
      have t := tks_end (tx := tx)
      have t1 : lx_nx tx (bend (tks tx) (a + 0)) = (0, 0, tx.length, tx.length) := by rw [Nat.add_zero, ea]; exact t.1
      unfold Tok
      rw [e3, e4, t1, ea, t.2.1, t.2.2]
      exact ⟨rfl, rfl, fun e => absurd e (by decide)⟩
  · intro q
    have t := tks_at q
    refine ⟨hL, hR, hM1, ?_, hs, hE1⟩
    rw [e5]
    show nI (lx_nx tx (bend (tks tx) a)).2.2.2 = nI (ten (tks tx) a)
    rw [t.1.2.2.1]
theorem Raw.ko {tx : List Int32} {s : Sx} {a e L : Nat} (h : Raw tx s a) (hL : Lv a e L s) (ha : a < (tks tx).length) : au_ko s = tkd (tks tx) a := by
  unfold au_ko
  rw [hL.2.1, xg_n (by have := hL.2.2.2.1; have := hL.2.2.2.2.1; omega)]
  exact (h.2 a (Nat.le_refl _) ha).1
theorem Raw.vl {tx : List Int32} {s : Sx} {a e L : Nat} (h : Raw tx s a) (hL : Lv a e L s) (ha : a < (tks tx).length) : xg (s.1 1) (s.2 2) = tvl (tks tx) a := by
  rw [hL.2.1, xg_n (by have := hL.2.2.2.1; have := hL.2.2.2.2.1; omega)]
  exact (h.2 a (Nat.le_refl _) ha).2
theorem Raw.nx {tx : List Int32} {s : Sx} {a : Nat} (h : Raw tx s a) {s' : Sx} (h0 : ∀ i, a < i → (s'.1 0).getD i 0 = (s.1 0).getD i 0) (h1 : ∀ i, a < i → (s'.1 1).getD i 0 = (s.1 1).getD i 0) (hl : (s'.1 1).length = (s.1 1).length) : Raw tx s' (a + 1) := by
  refine ⟨hl.trans h.1, fun i hi hi2 => ?_⟩
  rw [h0 i hi, h1 i hi]
  exact h.2 i (by omega) hi2
/-- the fault that is told -/
def flt (f k : Int32) : Int32 := if f = 3 ∧ k = 1 then 1 else if f = 3 ∧ k = 2 then 2 else f
/-- a fault of the reference's -/
def Bad (tx : List Int32) (a : Nat) (f : Int32) (m1 : Mx) : Prop := ∃ m', f_12054 m1 = some (m', 0) ∧ m' 0 9 = flt f (tkd (tks tx) a) ∧ m' 0 10 = nI (tpl (tks tx) a)
theorem fails_e (k : Int32) (m : Mx) : f_12020 k m = (mp (mp m 9 k) 10 (mf m 6), 0) := rfl
theorem fails_9 (k : Int32) (m : Mx) : mp (mp m 9 k) 10 (mf m 6) 0 9 = k ∧ mp (mp m 9 k) 10 (mf m 6) 0 10 = m 0 6 := ⟨by rw [mp_n (by decide), mp_s], by rw [mp_s]; rfl⟩
theorem flt_n {f k : Int32} (h : ¬ (f = 3 ∧ (k = 1 ∨ k = 2))) : flt f k = f := by
  unfold flt
  rw [if_neg (fun q => h ⟨q.1, Or.inl q.2⟩), if_neg (fun q => h ⟨q.1, Or.inr q.2⟩)]
theorem Bad.of {tx : List Int32} {a : Nat} {m1 : Mx} {k f : Int32} (h : Tok tx a m1) (e : f_12054 m1 = bT (f_12020 k m1) fun s r => some (s, r)) (hk : k = flt f (tkd (tks tx) a)) : Bad tx a f m1 :=
  ⟨mp (mp m1 9 k) 10 (mf m1 6), e, by rw [(fails_9 k m1).1, hk], (fails_9 k m1).2.trans h.2.1⟩
/-- a token that is none -/
theorem bad_tok {tx : List Int32} {a : Nat} {m : Mx} (h : Tok tx a m) (hk : tkd (tks tx) a = 1 ∨ tkd (tks tx) a = 2) : Bad tx a 3 m := by
  have h5 : mf m 5 = km (tkd (tks tx) a) := h.1
  refine Bad.of (k := -(mf m 5)) h ?_ ?_
  · unfold f_12054
    rw [if_neg]
    rw [h5]
    rcases hk with e | e <;> rw [e] <;> decide
  · rw [h5]
    rcases hk with e | e <;> rw [e] <;> rfl
theorem km_ge {k : Int32} (h : k ≠ 1) (h2 : k ≠ 2) : (0 : Int32) ≤ km k := by
  unfold km
  refine ite_P (P := fun x => (0 : Int32) ≤ x) (by decide) ?_
  rw [if_neg h, if_neg h2]
  repeat (refine ite_P (P := fun x => (0 : Int32) ≤ x) (by decide) ?_)
  decide
/-- the reference goes by what is looked for -/
def mAcc (st : Int32) (s : Mx) : Option (Mx × Int32) :=
  if st = 0 then f_12042 s else if st = 1 then f_12039 s else if st = 2 then f_12043 s else if st = 3 then f_12043 s else if st = 4 then f_12045 s
  else if st = 5 then f_12053 25 2 s else if st = 6 then bOv (f_12024 49 0 s) fun s11 => f_12053 25 2 s11
  else if st = 7 then f_12052 s else if st = 8 then f_12049 s
  else if st = 9 then
    (if (mf s 5) = 26 then bT (f_12026 s) fun s17 r17 => if r17 = 0 then some (s17, 0) else bO (f_12022 26 10 s17) fun s19 r19 => if r19 = 0 then some (s19, 0) else some (s19, 1) else bT (f_12020 3 s) fun s16 r16 => some (s16, r16))
  else if st = 10 then f_12050 s else if st = 11 then f_12050 s else if st = 12 then f_12051 s
  else if st = 13 then
    (bT (f_12026 s) fun s24 r24 => if r24 = 0 then some (s24, 0) else bO (f_12022 26 3 s24) fun s26 r26 => if r26 = 0 then some (s26, 0) else some (s26, 1))
  else
    (gd (vi (mf s 43) 100) <| bS (ms s 8 (mf s 43) (mf s 14)) fun s3 => f_12053 31 0 s3)
theorem bO_id {x : Option (Mx × Int32)} : (bO x fun s r => some (s, r)) = x := by
  cases x <;> rfl
theorem acc_12054 {tx : List Int32} {a : Nat} {m : Mx} {st : Int32} (h : Tok tx a m) (hk : ¬ (tkd (tks tx) a = 1 ∨ tkd (tks tx) a = 2)) (hs : mf m 32 = st) : f_12054 m = mAcc st m := by
  have h5 : mf m 5 = km (tkd (tks tx) a) := h.1
  unfold f_12054 mAcc
  rw [if_pos (show 0 ≤ mf m 5 by rw [h5]; exact km_ge (fun e => hk (Or.inl e)) (fun e => hk (Or.inr e))), hs]
  simp only [bO_id]
