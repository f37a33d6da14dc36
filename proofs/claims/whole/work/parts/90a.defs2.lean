/-! plain definitions of the parts 50 to 56, alone -/
noncomputable section
def ev_tk : List (Nat × Nat) := [(0, 4), (1, 9), (2, 5), (3, 7), (4, 3), (5, 10)]
def ev_tr : List (Nat × Nat × Nat) := [(0, 0, 1), (0, 1, 11), (0, 2, 12), (0, 3, 13), (0, 4, 14), (0, 5, 15), (0, 6, 16), (0, 7, 17), (0, 8, 18), (1, 0, 6), (1, 1, 7), (1, 2, 8), (1, 3, 9), (1, 4, 10), (2, 6, 19), (2, 7, 20), (2, 8, 21), (2, 9, 22), (2, 10, 23), (3, 0, 24), (3, 1, 25), (3, 2, 26), (3, 3, 27), (4, 0, 28), (5, 0, 29), (5, 1, 30)]
theorem ev_ob_lt (v : Nat) : ev_ob v < 6 := by
  unfold ev_ob
  by_cases h : v < 14
  · have : ∀ k, k < 14 → ([0, 0, 2, 2, 2, 2, 3, 3, 3, 3, 3, 4, 5, 5] : List Nat).getD k 0 < 6 := by decide
    exact this v h
  · rw [List.getD_eq_getElem?_getD, List.getElem?_eq_none (by simp; omega)]
    decide
theorem ev_inj_v : ∀ v w, v < 14 → w < 14 → ev_ob v = ev_ob w → ev_fl v = ev_fl w → v = w := by
  have : ∀ v, v < 14 → ∀ w, w < 14 → ev_ob v = ev_ob w → ev_fl v = ev_fl w → v = w := by decide
  exact fun v w hv hw => this v hv w hw
abbrev Tx : Type := (Nat → Nat) × (Nat → Nat) × (Nat → List Int32) × (Nat → Nat → Int32) × (Nat → Nat → Option Nat) × (Nat → List Nat) × Nat
def tK (T : Tx) : Nat → Nat := T.1
def tC (T : Tx) : Nat → Nat := T.2.1
def tB (T : Tx) : Nat → List Int32 := T.2.2.1
def tV (T : Tx) : Nat → Nat → Int32 := T.2.2.2.1
def tW (T : Tx) : Nat → Nat → Option Nat := T.2.2.2.2.1
def tA (T : Tx) : Nat → List Nat := T.2.2.2.2.2.1
def tZ (T : Tx) : Nat := T.2.2.2.2.2.2
def tsB (T : Tx) (a : Nat) (xs : List Int32) : Tx := (tK T, tC T, u1 (tB T) a xs, tV T, tW T, tA T, tZ T)
def tsV (T : Tx) (a f : Nat) (x : Int32) : Tx := (tK T, tC T, tB T, u2 (tV T) a f x, tW T, tA T, tZ T)
def tsW (T : Tx) (a f : Nat) (v : Option Nat) : Tx := (tK T, tC T, tB T, tV T, u2 (tW T) a f v, tA T, tZ T)
def tNew (T : Tx) (k : Nat) : Tx := (u1 (tK T) (tZ T) k, tC T, u1 (tB T) (tZ T) [], u1 (tV T) (tZ T) (fun _ => 0), u1 (tW T) (tZ T) (fun _ => none), u1 (tA T) (tZ T) [], tZ T + 1)
def tRow (T : Tx) (a n : Nat) : Tx := (u1 (tK T) a 7, u1 (tC T) a n, u1 (tB T) a [], tV T, tW T, tA T, tZ T + 1)
def tLst (T : Tx) (a : Nat) : Tx := (u1 (tK T) a 1, u1 (tC T) a 0, tB T, tV T, tW T, u1 (tA T) a [], tZ T)
def tAdd (T : Tx) (a x : Nat) : Tx := (tK T, u1 (tC T) a (if (tA T a).length < tC T a then tC T a else if tC T a = 0 then 10 else tC T a + tC T a / 2), tB T, tV T, tW T, u1 (tA T) a (tA T a ++ [x]), if (tA T a).length < tC T a then tZ T else tZ T + 1)
def bXs {α β : Type} (x : Option (Tx × (Nat ⊕ α))) (k : Tx → α → Option (Tx × (Nat ⊕ β))) : Option (Tx × (Nat ⊕ β)) := match x with
  | none => none
  | some (T, .inl e) => some (T, .inl e)
  | some (T, .inr v) => k T v
def bXp {α β : Type} (T : Tx) (x : Option (Nat ⊕ α)) (k : α → Option (Tx × (Nat ⊕ β))) : Option (Tx × (Nat ⊕ β)) := match x with
  | none => none
  | some (.inl e) => some (T, .inl e)
  | some (.inr v) => k v
def bXn {α β : Type} (x : Option (Nat ⊕ α)) (k : α → Option (Nat ⊕ β)) : Option (Nat ⊕ β) := match x with
  | none => none
  | some (.inl e) => some (.inl e)
  | some (.inr v) => k v
def bN {β : Type} (x : Option Nat) (y : β) (k : Nat → β) : β := match x with
  | none => y
  | some a => k a
theorem bN_none {β : Type} (y : β) (k : Nat → β) : bN none y k = y := rfl
theorem bN_some {β : Type} (a : Nat) (y : β) (k : Nat → β) : bN (some a) y k = k a := rfl
theorem bXs_ex {α β : Type} {x : Option (Tx × (Nat ⊕ α))} {k : Tx → α → Option (Tx × (Nat ⊕ β))} {r : Tx × (Nat ⊕ β)} (h : bXs x k = some r) : ∃ a, x = some a := by
  cases x with
  | none => cases h
  | some a => exact ⟨a, rfl⟩
theorem bXp_ex {α β : Type} {T : Tx} {x : Option (Nat ⊕ α)} {k : α → Option (Tx × (Nat ⊕ β))} {r : Tx × (Nat ⊕ β)} (h : bXp T x k = some r) : ∃ a, x = some a := by
  cases x with
  | none => cases h
  | some a => exact ⟨a, rfl⟩
theorem bXn_ex {α β : Type} {x : Option (Nat ⊕ α)} {k : α → Option (Nat ⊕ β)} {r : Nat ⊕ β} (h : bXn x k = some r) : ∃ a, x = some a := by
  cases x with
  | none => cases h
  | some a => exact ⟨a, rfl⟩
theorem bXs_some {α β : Type} (T : Tx) (v : α) (k : Tx → α → Option (Tx × (Nat ⊕ β))) : bXs (some (T, .inr v)) k = k T v := rfl
theorem bXp_some {α β : Type} (T : Tx) (v : α) (k : α → Option (Tx × (Nat ⊕ β))) : bXp T (some (.inr v)) k = k v := rfl
theorem bXn_some {α β : Type} (v : α) (k : α → Option (Nat ⊕ β)) : bXn (some (.inr v)) k = k v := rfl
def h_9000 (me : Nat) (T : Tx) : Option Tx :=
  bS (tNew T 107) fun T1 =>
  gd (tK T1 (tZ T) = 107) <|
  bS (tRow T1 (tZ T) (Int32.toNatClampNeg 301)) fun T2 =>
  gd (tK T2 me = 10) <|
  bS (tsW T2 me 0 (some (tZ T))) fun T3 =>
  bS (tNew T3 107) fun T4 =>
  gd (tK T4 (tZ T3) = 107) <|
  bS (tRow T4 (tZ T3) (Int32.toNatClampNeg 301)) fun T5 =>
  gd (tK T5 me = 10) <|
  bS (tsW T5 me 1 (some (tZ T3))) fun T6 =>
  bS (tNew T6 107) fun T7 =>
  gd (tK T7 (tZ T6) = 107) <|
  bS (tRow T7 (tZ T6) (Int32.toNatClampNeg 301)) fun T8 =>
  gd (tK T8 me = 10) <|
  bS (tsW T8 me 2 (some (tZ T6))) fun T9 =>
  bS (tNew T9 107) fun T10 =>
  gd (tK T10 (tZ T9) = 107) <|
  bS (tRow T10 (tZ T9) (Int32.toNatClampNeg 300)) fun T11 =>
  gd (tK T11 me = 10) <|
  bS (tsW T11 me 3 (some (tZ T9))) fun T12 =>
  bS (tNew T12 107) fun T13 =>
  gd (tK T13 (tZ T12) = 107) <|
  bS (tRow T13 (tZ T12) (Int32.toNatClampNeg 300)) fun T14 =>
  gd (tK T14 me = 10) <|
  bS (tsW T14 me 4 (some (tZ T12))) fun T15 =>
  some T15
def h_4000 (me : Nat) (T : Tx) : Option Tx :=
  bS (tNew T 10) fun T1 =>
  gd (tK T1 (tZ T) = 10) <|
  bOv (h_9000 (tZ T) T1) fun T2 =>
  gd (tK T2 me = 5) <|
  bS (tsW T2 me 0 (some (tZ T))) fun T3 =>
  bS (tNew T3 107) fun T4 =>
  gd (tK T4 (tZ T3) = 107) <|
  bS (tRow T4 (tZ T3) (Int32.toNatClampNeg 150)) fun T5 =>
  gd (tK T5 me = 5) <|
  bS (tsW T5 me 1 (some (tZ T3))) fun T6 =>
  bS (tNew T6 107) fun T7 =>
  gd (tK T7 (tZ T6) = 107) <|
  bS (tRow T7 (tZ T6) (Int32.toNatClampNeg 150)) fun T8 =>
  gd (tK T8 me = 5) <|
  bS (tsW T8 me 2 (some (tZ T6))) fun T9 =>
  bS (tNew T9 107) fun T10 =>
  gd (tK T10 (tZ T9) = 107) <|
  bS (tRow T10 (tZ T9) (Int32.toNatClampNeg 600)) fun T11 =>
  gd (tK T11 me = 5) <|
  bS (tsW T11 me 3 (some (tZ T9))) fun T12 =>
  bS (tNew T12 107) fun T13 =>
  gd (tK T13 (tZ T12) = 107) <|
  bS (tRow T13 (tZ T12) (Int32.toNatClampNeg 600)) fun T14 =>
  gd (tK T14 me = 5) <|
  bS (tsW T14 me 4 (some (tZ T12))) fun T15 =>
  bS (tNew T15 107) fun T16 =>
  gd (tK T16 (tZ T15) = 107) <|
  bS (tRow T16 (tZ T15) (Int32.toNatClampNeg 75)) fun T17 =>
  gd (tK T17 me = 5) <|
  bS (tsW T17 me 5 (some (tZ T15))) fun T18 =>
  bS (tNew T18 107) fun T19 =>
  gd (tK T19 (tZ T18) = 107) <|
  bS (tRow T19 (tZ T18) (Int32.toNatClampNeg 75)) fun T20 =>
  gd (tK T20 me = 5) <|
  bS (tsW T20 me 6 (some (tZ T18))) fun T21 =>
  bS (tNew T21 107) fun T22 =>
  gd (tK T22 (tZ T21) = 107) <|
  bS (tRow T22 (tZ T21) (Int32.toNatClampNeg 75)) fun T23 =>
  gd (tK T23 me = 5) <|
  bS (tsW T23 me 7 (some (tZ T21))) fun T24 =>
  bS (tNew T24 107) fun T25 =>
  gd (tK T25 (tZ T24) = 107) <|
  bS (tRow T25 (tZ T24) (Int32.toNatClampNeg 75)) fun T26 =>
  gd (tK T26 me = 5) <|
  bS (tsW T26 me 8 (some (tZ T24))) fun T27 =>
  gd (tK T27 me = 5) <|
  bS (tsV T27 me 9 0) fun T28 =>
  some T28
def h_5000 (me : Nat) (x0 : Nat) (T : Tx) : Option Tx :=
  bS (tNew T 107) fun T1 =>
  gd (tK T1 (tZ T) = 107) <|
  bS (tRow T1 (tZ T) (Int32.toNatClampNeg 8)) fun T2 =>
  gd (tK T2 me = 6) <|
  bS (tsW T2 me 6 (some (tZ T))) fun T3 =>
  bS (tNew T3 107) fun T4 =>
  gd (tK T4 (tZ T3) = 107) <|
  bS (tRow T4 (tZ T3) (Int32.toNatClampNeg 8)) fun T5 =>
  gd (tK T5 me = 6) <|
  bS (tsW T5 me 7 (some (tZ T3))) fun T6 =>
  bS (tNew T6 107) fun T7 =>
  gd (tK T7 (tZ T6) = 107) <|
  bS (tRow T7 (tZ T6) (Int32.toNatClampNeg 150)) fun T8 =>
  gd (tK T8 me = 6) <|
  bS (tsW T8 me 8 (some (tZ T6))) fun T9 =>
  bS (tNew T9 107) fun T10 =>
  gd (tK T10 (tZ T9) = 107) <|
  bS (tRow T10 (tZ T9) (Int32.toNatClampNeg 150)) fun T11 =>
  gd (tK T11 me = 6) <|
  bS (tsW T11 me 9 (some (tZ T9))) fun T12 =>
  bS (tNew T12 107) fun T13 =>
  gd (tK T13 (tZ T12) = 107) <|
  bS (tRow T13 (tZ T12) (Int32.toNatClampNeg 150)) fun T14 =>
  gd (tK T14 me = 6) <|
  bS (tsW T14 me 10 (some (tZ T12))) fun T15 =>
  gd (tK T15 me = 6) <|
  bS (tsW T15 me 0 (some x0)) fun T16 =>
  gd (tK T16 x0 = 5) <|
  bP (tW T16 x0 0) fun r17 =>
  gd (tK T16 me = 6) <|
  bS (tsW T16 me 1 (some r17)) fun T18 =>
  some T18
def h_7000 (me : Nat) (T : Tx) : Option Tx :=
  bS (tNew T 107) fun T1 =>
  gd (tK T1 (tZ T) = 107) <|
  bS (tRow T1 (tZ T) (Int32.toNatClampNeg 8)) fun T2 =>
  gd (tK T2 me = 8) <|
  bS (tsW T2 me 0 (some (tZ T))) fun T3 =>
  bS (tNew T3 107) fun T4 =>
  gd (tK T4 (tZ T3) = 107) <|
  bS (tRow T4 (tZ T3) (Int32.toNatClampNeg 32)) fun T5 =>
  gd (tK T5 me = 8) <|
  bS (tsW T5 me 1 (some (tZ T3))) fun T6 =>
  bS (tNew T6 107) fun T7 =>
  gd (tK T7 (tZ T6) = 107) <|
  bS (tRow T7 (tZ T6) (Int32.toNatClampNeg 88)) fun T8 =>
  gd (tK T8 me = 8) <|
  bS (tsW T8 me 2 (some (tZ T6))) fun T9 =>
  bS (tNew T9 107) fun T10 =>
  gd (tK T10 (tZ T9) = 107) <|
  bS (tRow T10 (tZ T9) (Int32.toNatClampNeg 10)) fun T11 =>
  gd (tK T11 me = 8) <|
  bS (tsW T11 me 3 (some (tZ T9))) fun T12 =>
  gd (tK T12 me = 8) <|
  bS (tsV T12 me 8 0) fun T13 =>
  gd (tK T13 me = 8) <|
  bP (tW T13 me 1) fun r14 =>
  gd (tK T13 r14 = 7) <|
  bS (tsB T13 r14 (List.replicate (tC T13 r14) 0)) fun T15 =>
  gd (tK T15 me = 8) <|
  bP (tW T15 me 2) fun r16 =>
  gd (tK T15 r16 = 7) <|
  bS (tsB T15 r16 (List.replicate (tC T15 r16) 0)) fun T17 =>
  some T17
def h_3000 (me : Nat) (x0 : Nat) (x1 : Nat) (T : Tx) : Option Tx :=
  bS (tNew T 107) fun T1 =>
  gd (tK T1 (tZ T) = 107) <|
  bS (tRow T1 (tZ T) (Int32.toNatClampNeg 1650)) fun T2 =>
  gd (tK T2 me = 4) <|
  bS (tsW T2 me 0 (some (tZ T))) fun T3 =>
  gd (tK T3 me = 4) <|
  bS (tsW T3 me 1 (some x0)) fun T4 =>
  gd (tK T4 me = 4) <|
  bS (tsW T4 me 2 (some x1)) fun T5 =>
  some T5
def h_10000 (me : Nat) (x0 : Nat) (x1 : Nat) (T : Tx) : Option Tx :=
  bS (tNew T 107) fun T1 =>
  gd (tK T1 (tZ T) = 107) <|
  bS (tRow T1 (tZ T) (Int32.toNatClampNeg 1650)) fun T2 =>
  gd (tK T2 me = 11) <|
  bS (tsW T2 me 0 (some (tZ T))) fun T3 =>
  bS (tNew T3 107) fun T4 =>
  gd (tK T4 (tZ T3) = 107) <|
  bS (tRow T4 (tZ T3) (Int32.toNatClampNeg 1650)) fun T5 =>
  gd (tK T5 me = 11) <|
  bS (tsW T5 me 1 (some (tZ T3))) fun T6 =>
  gd (tK T6 me = 11) <|
  bS (tsW T6 me 2 (some x0)) fun T7 =>
  gd (tK T7 x0 = 5) <|
  bP (tW T7 x0 0) fun r8 =>
  gd (tK T7 me = 11) <|
  bS (tsW T7 me 3 (some r8)) fun T9 =>
  gd (tK T9 me = 11) <|
  bS (tsW T9 me 4 (some x1)) fun T10 =>
  some T10
def h_8000 (me : Nat) (x0 : Int32) (x1 : Int32) (x2 : Int32) (x3 : Int32) (x4 : Int32) (x5 : Int32) (T : Tx) : Option Tx :=
  gd (tK T me = 9) <|
  bS (tsV T me 0 x0) fun T1 =>
  gd (tK T1 me = 9) <|
  bS (tsV T1 me 1 x1) fun T2 =>
  gd (tK T2 me = 9) <|
  bS (tsV T2 me 2 x2) fun T3 =>
  gd (tK T3 me = 9) <|
  bS (tsV T3 me 3 x3) fun T4 =>
  gd (tK T4 me = 9) <|
  bS (tsV T4 me 4 x4) fun T5 =>
  gd (tK T5 me = 9) <|
  bS (tsV T5 me 5 x5) fun T6 =>
  some T6
def h_2000 (me : Nat) (x0 : Int32) (x1 : Int32) (x2 : Int32) (T : Tx) : Option Tx :=
  bS (tNew T 101) fun T1 =>
  gd (tK T1 (tZ T) = 101) <|
  bS (tLst T1 (tZ T)) fun T2 =>
  gd (tK T2 me = 3) <|
  bS (tsW T2 me 3 (some (tZ T))) fun T3 =>
  gd (tK T3 me = 3) <|
  bS (tsV T3 me 0 x0) fun T4 =>
  gd (tK T4 me = 3) <|
  bS (tsV T4 me 1 x1) fun T5 =>
  gd (tK T5 me = 3) <|
  bS (tsV T5 me 2 x2) fun T6 =>
  some T6
def h_1000 (me : Nat) (x0 : Int32) (x1 : Nat) (x2 : Int32) (x3 : Nat) (T : Tx) : Option Tx :=
  bS (tNew T 107) fun T1 =>
  gd (tK T1 (tZ T) = 107) <|
  bS (tRow T1 (tZ T) (Int32.toNatClampNeg 8)) fun T2 =>
  gd (tK T2 me = 2) <|
  bS (tsW T2 me 4 (some (tZ T))) fun T3 =>
  bS (tNew T3 107) fun T4 =>
  gd (tK T4 (tZ T3) = 107) <|
  bS (tRow T4 (tZ T3) (Int32.toNatClampNeg 8)) fun T5 =>
  gd (tK T5 me = 2) <|
  bS (tsW T5 me 5 (some (tZ T3))) fun T6 =>
  bS (tNew T6 107) fun T7 =>
  gd (tK T7 (tZ T6) = 107) <|
  bS (tRow T7 (tZ T6) (Int32.toNatClampNeg 30)) fun T8 =>
  gd (tK T8 me = 2) <|
  bS (tsW T8 me 6 (some (tZ T6))) fun T9 =>
  gd (tK T9 me = 2) <|
  bS (tsV T9 me 0 x0) fun T10 =>
  gd (tK T10 me = 2) <|
  bS (tsW T10 me 1 (some x1)) fun T11 =>
  gd (tK T11 me = 2) <|
  bS (tsV T11 me 3 x2) fun T12 =>
  gd (tK T12 me = 2) <|
  bS (tsW T12 me 2 (some x3)) fun T13 =>
  some T13
def h_7003 (me : Nat) (T : Tx) : Option Int32 :=
  gd (tK T me = 8) <|
  some ((tV T me 8))
def h_7004 (me : Nat) (T : Tx) : Option Int32 :=
  gd (tK T me = 8) <|
  some ((tV T me 4))
def h_7005 (me : Nat) (T : Tx) : Option Int32 :=
  gd (tK T me = 8) <|
  bP (tW T me 0) fun r1 =>
  gd (tK T r1 = 7) <|
  some ((nI (tB T r1).length))
def h_7006 (me : Nat) (x0 : Int32) (T : Tx) : Option Int32 :=
  gd (tK T me = 8) <|
  bP (tW T me 0) fun r1 =>
  gd (tK T r1 = 7) <|
  some ((xg (tB T r1) x0))
def h_7007 (me : Nat) (x0 : Int32) (T : Tx) : Option Int32 :=
  gd (tK T me = 8) <|
  bP (tW T me 1) fun r1 =>
  gd (tK T r1 = 7) <|
  some ((xg (tB T r1) x0))
def h_4004 (me : Nat) (T : Tx) : Option Int32 :=
  gd (tK T me = 5) <|
  bP (tW T me 1) fun r1 =>
  gd (tK T r1 = 7) <|
  some ((nI (tB T r1).length))
def h_2001 (me : Nat) (x0 : Nat) (T : Tx) : Option Tx :=
  gd (tK T me = 3) <|
  bP (tW T me 3) fun r1 =>
  gd (tK T r1 = 1) <|
  gd ((tA T r1).length ≤ 32 ∧ tK T x0 ≠ 0) <|
  bS (tAdd T r1 x0) fun T2 =>
  some T2
def h_2002 (me : Nat) (T : Tx) : Option Int32 :=
  gd (tK T me = 3) <|
  bP (tW T me 3) fun r1 =>
  gd (tK T r1 = 1) <|
  some ((nI (tA T r1).length))
def h_2003 (me : Nat) (x0 : Int32) (T : Tx) : Option (Option Nat) :=
  if x0 < 0 then
    some none
  else
    gd (tK T me = 3) <|
    bP (tW T me 3) fun r2 =>
    gd (tK T r2 = 1) <|
    if (nI (tA T r2).length) ≤ x0 then
      some none
    else
      gd (tK T me = 3) <|
      bP (tW T me 3) fun r5 =>
      gd (tK T r5 = 1) <|
      gd (vi x0 (tA T r5).length) <|
      bS ((tA T r5).getD x0.toNatClampNeg 0) fun r6 =>
      gd (tK T r6 = 9) <|
      some ((some r6))
def h_2004_L7 : Nat → Nat → Nat → Int32 → Int32 → Int32 → Tx → Option Int32
  | 0, _, _, _, _, _, _ => none
  | n + 1, l0, l1, l2, l3, l4, T =>
    gd (tK T l0 = 3) <|
    bP (tW T l0 3) fun r1 =>
    gd (tK T r1 = 1) <|
    if (nI (tA T r1).length) ≤ l4 then
      if l2 = 0 then
        some 0
      else
        gd (¬ (l2 : Int32) = 0) <|
        some (((100 * l3) / l2))
    else
      gd (tK T l0 = 3) <|
      bP (tW T l0 3) fun r5 =>
      gd (tK T r5 = 1) <|
      gd (vi l4 (tA T r5).length) <|
      bS ((tA T r5).getD l4.toNatClampNeg 0) fun r6 =>
      gd (tK T r6 = 9) <|
      gd (tK T r6 = 9) <|
      if (tV T r6 6) = 0 then
        gd (tK T r6 = 9) <|
        gd (tK T l1 = 7) <|
        if (xg (tB T l1) l4) = 1 then
          gd (tK T r6 = 9) <|
          h_2004_L7 n l0 l1 (l2 + (tV T r6 0)) (l3 + (tV T r6 0)) (l4 + 1) T
        else
          h_2004_L7 n l0 l1 (l2 + (tV T r6 0)) (l3 + 0) (l4 + 1) T
      else
        h_2004_L7 n l0 l1 l2 l3 (l4 + 1) T
def h_2004 (me : Nat) (x0 : Nat) (T : Tx) : Option Int32 :=
  h_2004_L7 100 me x0 0 0 0 T
def h_1002 (me : Nat) (x0 : Int32) (T : Tx) : Option Int32 :=
  gd (tK T me = 2) <|
  if (tV T me 7) = 0 then
    gd (tK T me = 2) <|
    gd (tK T me = 2) <|
    bP (tW T me 1) fun r2 =>
    gd (tK T r2 = 3) <|
    gd (¬ (100 : Int32) = 0) <|
    some (((x0 * (100 - (if (10 * (if 0 < ((tV T me 3) - (tV T r2 2)) then ((tV T me 3) - (tV T r2 2)) else 0)) < 50 then (10 * (if 0 < ((tV T me 3) - (tV T r2 2)) then ((tV T me 3) - (tV T r2 2)) else 0)) else 50))) / 100))
  else
    some 0
def h_1001 (me : Nat) (T : Tx) : Option Int32 :=
  gd (tK T me = 2) <|
  bP (tW T me 1) fun r1 =>
  gd (tK T me = 2) <|
  bP (tW T me 5) fun r2 =>
  gd (tK T r1 = 3) <|
  bP (h_2004 r1 r2 T) fun r3 =>
  gd (tK T me = 2) <|
  bP (h_1002 me r3 T) fun r4 =>
  some r4
def h_8001_J38 (l0 : Nat) (l1 : Nat) (T : Tx) : Option Int32 :=
  gd (tK T l0 = 9) <|
  if (tV T l0 3) < 2 then
    some 1
  else
    gd (tK T l1 = 8) <|
    bP (h_7006 l1 1 T) fun r2 =>
    gd (tK T l0 = 9) <|
    if r2 = (tV T l0 5) then
      some 1
    else
      some 0
def h_8001 (me : Nat) (x0 : Nat) (T : Tx) : Option Int32 :=
  gd (tK T x0 = 8) <|
  bP (h_7003 x0 T) fun r4 =>
  if r4 = 0 then
    gd (tK T x0 = 8) <|
    bP (h_7005 x0 T) fun r6 =>
    gd (tK T me = 9) <|
    if r6 = (tV T me 3) then
      gd (tK T me = 9) <|
      if (tV T me 3) < 1 then
        h_8001_J38 me x0 T
      else
        gd (tK T x0 = 8) <|
        bP (h_7006 x0 0 T) fun r9 =>
        gd (tK T me = 9) <|
        if r9 = (tV T me 4) then
          h_8001_J38 me x0 T
        else
          some 0
    else
      some 0
  else
    some 0
def h_4018_L54 : Nat → Nat → Int32 → Nat → Int32 → Int32 → Int32 → Int32 → Int32 → Tx → Option Int32
  | 0, _, _, _, _, _, _, _, _, _ => none
  | n + 1, l0, l1, l2, l3, l4, l5, l6, l7, T =>
    if l6 ≤ l7 then
      some 1
    else
      gd (tK T l0 = 5) <|
      bP (tW T l0 0) fun r2 =>
      gd (tK T r2 = 10) <|
      bP (tW T r2 0) fun r3 =>
      gd (tK T r3 = 7) <|
      gd (tK T l2 = 5) <|
      bP (tW T l2 0) fun r5 =>
      gd (tK T r5 = 10) <|
      bP (tW T r5 0) fun r6 =>
      gd (tK T r6 = 7) <|
      if (xg (tB T r3) (l4 + l7)) = (xg (tB T r6) (l5 + l7)) then
        h_4018_L54 n l0 l1 l2 l3 l4 l5 l6 (l7 + 1) T
      else
        some 0
def h_4018 (me : Nat) (x0 : Int32) (x1 : Nat) (x2 : Int32) (T : Tx) : Option Int32 :=
  gd (tK T me = 5) <|
  bP (tW T me 1) fun r9 =>
  gd (tK T r9 = 7) <|
  gd (tK T x1 = 5) <|
  bP (tW T x1 1) fun r11 =>
  gd (tK T r11 = 7) <|
  gd (tK T me = 5) <|
  bP (tW T me 2) fun r13 =>
  gd (tK T r13 = 7) <|
  gd (tK T x1 = 5) <|
  bP (tW T x1 2) fun r15 =>
  gd (tK T r15 = 7) <|
  if ((xg (tB T r15) x2) - (xg (tB T r11) x2)) = ((xg (tB T r13) x0) - (xg (tB T r9) x0)) then
    h_4018_L54 400 me x0 x1 x2 (xg (tB T r9) x0) (xg (tB T r11) x2) ((xg (tB T r13) x0) - (xg (tB T r9) x0)) 0 T
  else
    some 0
def h_4017_L3 : Nat → Nat → Int32 → Nat → Nat → Int32 → Tx → Option Int32
  | 0, _, _, _, _, _, _ => none
  | n + 1, l0, l1, l2, l3, l4, T =>
    gd (tK T l2 = 5) <|
    bP (h_4004 l2 T) fun r1 =>
    if r1 ≤ l4 then
      some (-1)
    else
      gd (tK T l3 = 7) <|
      if (xg (tB T l3) l4) = 0 then
        gd (tK T l0 = 5) <|
        bP (h_4018 l0 l1 l2 l4 T) fun r5 =>
        if r5 = 0 then
          h_4017_L3 n l0 l1 l2 l3 (l4 + 1) T
        else
          some l4
      else
        h_4017_L3 n l0 l1 l2 l3 (l4 + 1) T
def h_4017 (me : Nat) (x0 : Int32) (x1 : Nat) (x2 : Nat) (T : Tx) : Option Int32 :=
  h_4017_L3 200 me x0 x1 x2 0 T
def h_4016_L21 : Nat → Nat → Nat → Nat → Int32 → Int32 → Nat → Nat → Tx → Option (Tx × Int32)
  | 0, _, _, _, _, _, _, _, _ => none
  | n + 1, l0, l1, l2, l3, l4, bc, bs, T =>
    gd (tK T l0 = 5) <|
    bP (h_4004 l0 T) fun r1 =>
    if r1 ≤ l4 then
      some (T, l3)
    else
      gd (tK T l0 = 5) <|
      bP (h_4017 l0 l4 l1 l2 T) fun r3 =>
      if r3 = (-1) then
        h_4016_L21 n l0 l1 l2 l3 (l4 + 1) bc bs T
      else
        gd (tK T l2 = 7) <|
        bS (tsB T l2 (xset (tB T l2) r3 1)) fun T5 =>
        h_4016_L21 n l0 l1 l2 (l3 + 1) (l4 + 1) bc bs T5
def h_4016 (me : Nat) (x0 : Nat) (T : Tx) : Option (Tx × Int32) :=
  bS (tNew T 107) fun T6 =>
  gd (tK T6 x0 = 5) <|
  bP (h_4004 x0 T6) fun r7 =>
  gd (tK T6 (tZ T) = 107) <|
  gd (0 ≤ Int32.toInt r7 ∧ Int32.toInt r7 < 60000) <|
  gd ((1 : Nat) ≤ 1 ∧ r7.toNatClampNeg ≤ 158) <|
  bS (tRow T6 (tZ T) (Int32.toNatClampNeg r7)) fun T8 =>
  gd (tK T8 (tZ T) = 7) <|
  bS (tsB T8 (tZ T) (List.replicate (tC T8 (tZ T)) 0)) fun T9 =>
  h_4016_L21 200 me x0 (tZ T) 0 0 (1 - 1) (158 - r7.toNatClampNeg) T9
def eg (T : Tx) (x p u : Nat) : Nat → Nat
  | 0 => p
  | 1 => ((tW T p 0).getD 0)
  | 2 => ((tW T x 4).getD 0)
  | 3 => u
  | 4 => ((tW T x 7).getD 0)
  | 5 => ((tW T x 8).getD 0)
  | 6 => (tW T ((tW T p 0).getD 0) 0).getD 0
  | 7 => (tW T ((tW T p 0).getD 0) 1).getD 0
  | 8 => (tW T ((tW T p 0).getD 0) 2).getD 0
  | 9 => (tW T ((tW T p 0).getD 0) 3).getD 0
  | 10 => (tW T ((tW T p 0).getD 0) 4).getD 0
  | 11 => (tW T p 1).getD 0
  | 12 => (tW T p 2).getD 0
  | 13 => (tW T p 3).getD 0
  | 14 => (tW T p 4).getD 0
  | 15 => (tW T p 5).getD 0
  | 16 => (tW T p 6).getD 0
  | 17 => (tW T p 7).getD 0
  | 18 => (tW T p 8).getD 0
  | 19 => (tW T ((tW T x 4).getD 0) 6).getD 0
  | 20 => (tW T ((tW T x 4).getD 0) 7).getD 0
  | 21 => (tW T ((tW T x 4).getD 0) 8).getD 0
  | 22 => (tW T ((tW T x 4).getD 0) 9).getD 0
  | 23 => (tW T ((tW T x 4).getD 0) 10).getD 0
  | 24 => (tW T u 0).getD 0
  | 25 => (tW T u 1).getD 0
  | 26 => (tW T u 2).getD 0
  | 27 => (tW T u 3).getD 0
  | 28 => (tW T ((tW T x 7).getD 0) 0).getD 0
  | 29 => (tW T ((tW T x 8).getD 0) 0).getD 0
  | 30 => (tW T ((tW T x 8).getD 0) 1).getD 0
  | 31 => (tW T x 0).getD 0
  | _ => 0
def EngOK (T : Tx) (x p u : Nat) : Prop := (∀ q, q ∈ ev_tk → tK T (eg T x p u q.1) = q.2 + 1) ∧ (∀ k, k < 26 → tK T (eg T x p u (6 + k)) = 7 ∧ tC T (eg T x p u (6 + k)) = ev_cap k) ∧ (∀ q, q ∈ ev_tr → tW T (eg T x p u q.1) q.2.1 = some (eg T x p u q.2.2)) ∧ (∀ i, i < 32 → ∀ j, j < 32 → eg T x p u i = eg T x p u j → i = j)
def proj (T : Tx) (x p u : Nat) : Sx := (fun k => tB T (eg T x p u (6 + k)), fun v => tV T (eg T x p u (ev_ob v)) (ev_fl v))
def emb (T : Tx) (x p u : Nat) (s : Sx) : Tx := (tK T, tC T,
  (fun a => match (List.range 26).find? (fun k => eg T x p u (6 + k) == a) with
    | some k => s.1 k
    | none => tB T a),
  (fun a f => match (List.range 14).find? (fun v => eg T x p u (ev_ob v) == a && ev_fl v == f) with
    | some v => s.2 v
    | none => tV T a f), tW T, tA T, tZ T)
theorem emb_row {T : Tx} {x p u : Nat} {s : Sx} (h : EngOK T x p u) {k : Nat} (hk : k < 26) : tB (emb T x p u s) (eg T x p u (6 + k)) = s.1 k := by
  show (match (List.range 26).find? (fun j => eg T x p u (6 + j) == eg T x p u (6 + k)) with | some j => s.1 j | none => _) = _
  have : (List.range 26).find? (fun j => eg T x p u (6 + j) == eg T x p u (6 + k)) = some k := by
    rw [List.find?_eq_some_iff_getElem]
    refine ⟨by simp, k, by simpa using hk, by simp, fun j hj => ?_⟩
    simp only [List.getElem_range]
    rw [Bool.not_eq_true', beq_eq_false_iff_ne]
    intro q
    have := h.2.2.2 _ (by omega) _ (by omega) q
    omega
  rw [this]
theorem emb_row_n {T : Tx} {x p u : Nat} {s : Sx} {a : Nat} (ha : ∀ k, k < 26 → a ≠ eg T x p u (6 + k)) : tB (emb T x p u s) a = tB T a := by
  show (match (List.range 26).find? (fun j => eg T x p u (6 + j) == a) with | some j => s.1 j | none => _) = _
  have : (List.range 26).find? (fun j => eg T x p u (6 + j) == a) = none := by
    rw [List.find?_eq_none]
    intro j hj
    simp only [List.mem_range] at hj
    simp only [beq_iff_eq]
    exact fun q => ha j hj q.symm
  rw [this]
theorem emb_int {T : Tx} {x p u : Nat} {s : Sx} (h : EngOK T x p u) {v : Nat} (hv : v < 14) : tV (emb T x p u s) (eg T x p u (ev_ob v)) (ev_fl v) = s.2 v := by
  show (match (List.range 14).find? (fun j => eg T x p u (ev_ob j) == eg T x p u (ev_ob v) && ev_fl j == ev_fl v) with | some j => s.2 j | none => _) = _
  have : (List.range 14).find? (fun j => eg T x p u (ev_ob j) == eg T x p u (ev_ob v) && ev_fl j == ev_fl v) = some v := by
    rw [List.find?_eq_some_iff_getElem]
    refine ⟨by simp, v, by simpa using hv, by simp, fun j hj => ?_⟩
    simp only [List.getElem_range]
    rw [Bool.not_eq_true', Bool.and_eq_false_iff, beq_eq_false_iff_ne, beq_eq_false_iff_ne]
    by_cases q : ev_fl j = ev_fl v
    · left
      intro q2
      have q3 := h.2.2.2 _ (by have := ev_ob_lt j; omega) _ (by have := ev_ob_lt v; omega) q2
      have := ev_inj_v j v (by omega) hv q3 q
      omega
    · exact Or.inr q
  rw [this]
theorem emb_int_n {T : Tx} {x p u : Nat} {s : Sx} {a f : Nat} (ha : ∀ v, v < 14 → ¬ (a = eg T x p u (ev_ob v) ∧ f = ev_fl v)) : tV (emb T x p u s) a f = tV T a f := by
  show (match (List.range 14).find? (fun j => eg T x p u (ev_ob j) == a && ev_fl j == f) with | some j => s.2 j | none => _) = _
  have : (List.range 14).find? (fun j => eg T x p u (ev_ob j) == a && ev_fl j == f) = none := by
    rw [List.find?_eq_none]
    intro j hj
    simp only [List.mem_range] at hj
    simp only [Bool.and_eq_true, beq_iff_eq]
    exact fun q => ha j hj ⟨q.1.symm, q.2.symm⟩
  rw [this]
def gdc {α : Type} (c : Prop) (x : Option α) : Option α := @ite _ c (Classical.propDecidable c) x none
theorem gdc_e {α : Type} {c : Prop} {x : Option α} (h : c) : gdc c x = x := if_pos h
theorem gdc_c {α : Type} {c : Prop} {x : Option α} {r : α} (h : gdc c x = some r) : c := by
  by_cases hc : c
  · exact hc
  · rw [show gdc c x = none from if_neg hc] at h; cases h
def h_9001 (x t r : Nat) (T : Tx) : Option Tx := bP (tW T x 1) fun p => bP (tW T x 5) fun u => gdc (EngOK T x p u ∧ tW T p 0 = some t ∧ tW T x 0 = some r) (bOv (f_9001 (proj T x p u)) fun s1 => some (emb T x p u s1))
def h_5001 (x rd p : Nat) (T : Tx) : Option Tx := bP (tW T x 5) fun u => bP (tW T p 0) fun t => bS (tsW (tsW T rd 0 (some p)) rd 1 (some t)) fun T1 => gdc (EngOK T1 x p u ∧ tW T1 x 4 = some rd ∧ tW T1 p 0 = some t ∧ tK T rd = 6) (bOv (f_5001 (proj T1 x p u)) fun s1 => some (emb T1 x p u s1))
def h_3001 (x mc p u : Nat) (a b c : Int32) (T : Tx) : Option Tx := bS (tsW (tsW T mc 1 (some p)) mc 2 (some u)) fun T1 => gdc (EngOK T1 x p u ∧ tW T1 x 7 = some mc ∧ tK T mc = 4) (bOv (f_3001 a b c (proj T1 x p u)) fun s1 => some (emb T1 x p u s1))
def h_10001 (x wk p u : Nat) (a b c : Int32) (T : Tx) : Option Tx := bP (tW T p 0) fun t => bS (tsW (tsW (tsW T wk 2 (some p)) wk 3 (some t)) wk 4 (some u)) fun T1 => gdc (EngOK T1 x p u ∧ tW T1 x 8 = some wk ∧ tW T1 p 0 = some t ∧ tK T wk = 11) (bOv (f_10001 a b c (proj T1 x p u)) fun s1 => some (emb T1 x p u s1))
def h_11035 (x0 : Int64) (x1 : Int32) (T : Tx) : Option Int32 :=
  some ((((x0.toUInt64 >>> ((8 * x1).toInt64.toUInt64 &&& Int64.toUInt64 63)).toInt64 &&& 255).toInt32))
def h_11036 (x0 : Int32) (T : Tx) : Option (Nat ⊕ Unit) :=
  if x0 < 0 then
    some (.inl 1)
  else
    if x0 ≤ 5000 then
      some (.inr ())
    else
      some (.inl 1)
def h_11037 (x0 : Int32) (T : Tx) : Option (Nat ⊕ Unit) :=
  if x0 < 0 then
    some (.inl 2)
  else
    if x0 < 6 then
      some (.inr ())
    else
      some (.inl 2)
def h_11038 (me : Nat) (x0 : Int32) (T : Tx) : Option (Nat ⊕ Unit) :=
  if x0 < 0 then
    some (.inl 2)
  else
    gd (tK T me = 12) <|
    bP (tW T me 10) fun r2 =>
    gd (tK T r2 = 1) <|
    if x0 < (nI (tA T r2).length) then
      some (.inr ())
    else
      some (.inl 2)
def h_11039 (me : Nat) (x0 : Int32) (T : Tx) : Option (Nat ⊕ Nat) :=
  if x0 < 0 then
    some (.inl 2)
  else
    gd (tK T me = 12) <|
    bP (tW T me 10) fun r2 =>
    gd (tK T r2 = 1) <|
    if x0 < (nI (tA T r2).length) then
      gd (tK T me = 12) <|
      bP (tW T me 10) fun r5 =>
      gd (tK T r5 = 1) <|
      gd (vi x0 (tA T r5).length) <|
      bS ((tA T r5).getD x0.toNatClampNeg 0) fun r6 =>
      gd (tK T r6 = 2) <|
      some (.inr r6)
    else
      some (.inl 2)
def h_11040 (me : Nat) (x0 : Int32) (T : Tx) : Option (Nat ⊕ Nat) :=
  if x0 < 0 then
    some (.inl 2)
  else
    gd (tK T me = 12) <|
    bP (tW T me 9) fun r2 =>
    gd (tK T r2 = 1) <|
    if x0 < (nI (tA T r2).length) then
      gd (tK T me = 12) <|
      bP (tW T me 9) fun r5 =>
      gd (tK T r5 = 1) <|
      gd (vi x0 (tA T r5).length) <|
      bS ((tA T r5).getD x0.toNatClampNeg 0) fun r6 =>
      gd (tK T r6 = 3) <|
      some (.inr r6)
    else
      some (.inl 2)
def h_11041 (x0 : Nat) (x1 : Int32) (T : Tx) : Option (Nat ⊕ Nat) :=
  gd (tK T x0 = 3) <|
  bP (h_2003 x0 x1 T) fun r1 =>
  bN r1 (
    some (.inl 2)
    ) fun a1 =>
  some (.inr a1)
def h_11043 (me : Nat) (T : Tx) : Option (Nat ⊕ Unit) :=
  gd (tK T me = 12) <|
  bP (tW T me 1) fun r1 =>
  gd (tK T r1 = 5) <|
  if (tV T r1 9) = 0 then
    some (.inr ())
  else
    some (.inl 3)
def h_11042_J31 (l0 : Nat) (bc bs : Nat) (T : Tx) : Option Tx :=
  gd (tK T l0 = 12) <|
  bP (tW T l0 1) fun r1 =>
  gd (tK T r1 = 5) <|
  bP (tW T r1 0) fun r2 =>
  gd (tK T l0 = 12) <|
  bP (tW T l0 0) fun r3 =>
  gd (tK T r2 = 10) <|
  bOv (h_9001 l0 r2 r3 T) fun T4 =>
  gd (tK T4 l0 = 12) <|
  bP (tW T4 l0 4) fun r5 =>
  gd (tK T4 l0 = 12) <|
  bP (tW T4 l0 1) fun r6 =>
  gd (tK T4 r5 = 6) <|
  bOv (h_5001 l0 r5 r6 T4) fun T7 =>
  gd (tK T7 l0 = 12) <|
  bS (tsV T7 l0 2 1) fun T8 =>
  some T8
def h_11042 (me : Nat) (T : Tx) : Option Tx :=
  gd (tK T me = 12) <|
  if (tV T me 2) = 0 then
    gd (tK T me = 12) <|
    if (tV T me 3) = 0 then
      h_11042_J31 me 40 3700 T
    else
      bS (tNew T 5) fun T11 =>
      gd (tK T11 (tZ T) = 5) <|
      bOv (h_4000 (tZ T) T11) fun T12 =>
      gd (tK T12 me = 12) <|
      bS (tsW T12 me 1 (some (tZ T))) fun T13 =>
      gd (tK T13 me = 12) <|
      bS (tsV T13 me 3 0) fun T14 =>
      h_11042_J31 me 9 189 T14
  else
    some T
def h_11044 (me : Nat) (x0 : Nat) (x1 : Nat) (T : Tx) : Option Tx :=
  gd (tK T me = 12) <|
  bP (tW T me 7) fun r1 =>
  gd (tK T x0 = 2) <|
  bP (tW T x0 2) fun r2 =>
  gd (tK T me = 12) <|
  bP (tW T me 6) fun r3 =>
  gd (tK T x0 = 2) <|
  bP (tW T x0 1) fun r4 =>
  gd (tK T r4 = 3) <|
  gd (tK T x1 = 9) <|
  gd (tK T x1 = 9) <|
  gd (tK T r1 = 4) <|
  bOv (h_3001 me r1 r2 r3 (tV T r4 1) (tV T x1 1) (tV T x1 2) T) fun T5 =>
  gd (tK T5 x0 = 2) <|
  bP (tW T5 x0 4) fun r6 =>
  gd (tK T5 me = 12) <|
  bP (tW T5 me 6) fun r7 =>
  gd (tK T5 r7 = 8) <|
  bP (h_7003 r7 T5) fun r8 =>
  gd (tK T5 r6 = 7) <|
  bS (tsB T5 r6 (xadd (tC T5 r6) (tB T5 r6) r8)) fun T9 =>
  gd (tK T9 x0 = 2) <|
  bP (tW T9 x0 5) fun r10 =>
  gd (tK T9 me = 12) <|
  bP (tW T9 me 6) fun r11 =>
  gd (tK T9 x1 = 9) <|
  bP (h_8001 x1 r11 T9) fun r12 =>
  if r12 = 0 then
    gd (tK T9 r10 = 7) <|
    bS (tsB T9 r10 (xadd (tC T9 r10) (tB T9 r10) 0)) fun T14 =>
    some T14
  else
    gd (tK T9 r10 = 7) <|
    bS (tsB T9 r10 (xadd (tC T9 r10) (tB T9 r10) 1)) fun T15 =>
    some T15
def h_11045_L9 : Nat → Nat → Int32 → Tx → Option Tx
  | 0, _, _, _ => none
  | n + 1, l0, l1, T =>
    gd (tK T l0 = 12) <|
    bP (tW T l0 10) fun r1 =>
    gd (tK T r1 = 1) <|
    if (nI (tA T r1).length) ≤ l1 then
      some T
    else
      gd (tK T l0 = 12) <|
      bP (tW T l0 11) fun r4 =>
      gd (tK T l0 = 12) <|
      bP (tW T l0 10) fun r5 =>
      gd (tK T r5 = 1) <|
      gd (vi l1 (tA T r5).length) <|
      bS ((tA T r5).getD l1.toNatClampNeg 0) fun r6 =>
      gd (tK T r6 = 2) <|
      gd (tK T r6 = 2) <|
      bP (h_1001 r6 T) fun r7 =>
      gd (tK T r4 = 7) <|
      bS (tsB T r4 (xadd (tC T r4) (tB T r4) r7)) fun T8 =>
      h_11045_L9 n l0 (l1 + 1) T8
def h_11045 (me : Nat) (T : Tx) : Option Tx :=
  gd (tK T me = 12) <|
  bP (tW T me 11) fun r9 =>
  gd (tK T r9 = 7) <|
  bS (tsB T r9 []) fun T10 =>
  h_11045_L9 100 me 0 T10
def h_11046 (me : Nat) (x0 : Int32) (x1 : Int32) (T : Tx) : Option (Nat ⊕ Int32) :=
  gd (tK T me = 12) <|
  bXn (h_11039 me (if x0 < x1 then x1 else x0) T) fun r1 =>
  gd (tK T r1 = 2) <|
  bP (tW T r1 6) fun r2 =>
  gd (tK T r2 = 7) <|
  some (.inr (xg (tB T r2) (if x1 < x0 then x1 else x0)))
def h_11047 (me : Nat) (x0 : Int32) (x1 : Int32) (T : Tx) : Option (Nat ⊕ Int32) :=
  gd (tK T me = 12) <|
  bXn (h_11039 me x0 T) fun r1 =>
  gd (tK T r1 = 2) <|
  bP (tW T r1 2) fun r2 =>
  gd (tK T r2 = 5) <|
  bP (h_4004 r2 T) fun r3 =>
  gd (tK T me = 12) <|
  bXn (h_11039 me x1 T) fun r4 =>
  gd (tK T r4 = 2) <|
  bP (tW T r4 2) fun r5 =>
  gd (tK T r5 = 5) <|
  bP (h_4004 r5 T) fun r6 =>
  if (r3 + r6) = 0 then
    some (.inr 0)
  else
    gd (tK T me = 12) <|
    bXn (h_11046 me x0 x1 T) fun r8 =>
    gd (¬ ((r3 + r6) : Int32) = 0) <|
    some (.inr ((200 * r8) / (r3 + r6)))
def h_11048 (me : Nat) (x0 : Int32) (x1 : Int32) (T : Tx) : Option (Nat ⊕ Int32) :=
  gd (tK T me = 12) <|
  bXn (h_11039 me x0 T) fun r1 =>
  gd (tK T me = 12) <|
  bXn (h_11039 me x1 T) fun r2 =>
  if x0 ≤ x1 then
    some (.inr 0)
  else
    gd (tK T r1 = 2) <|
    gd (tK T r2 = 2) <|
    if (tV T r1 0) = (tV T r2 0) then
      some (.inr 0)
    else
      gd (tK T r1 = 2) <|
      bP (tW T r1 1) fun r5 =>
      gd (tK T r5 = 3) <|
      gd (tK T r2 = 2) <|
      bP (tW T r2 1) fun r6 =>
      gd (tK T r6 = 3) <|
      if (tV T r5 0) = (tV T r6 0) then
        gd (tK T me = 12) <|
        bXn (h_11047 me x0 x1 T) fun r8 =>
        if r8 < 80 then
          some (.inr 0)
        else
          gd (tK T me = 12) <|
          bXn (h_11046 me x0 x1 T) fun r10 =>
          if r10 < 3 then
            some (.inr 0)
          else
            some (.inr 1)
      else
        some (.inr 0)
def h_11000 (me : Nat) (T : Tx) : Option Tx :=
  bS (tNew T 107) fun T1 =>
  gd (tK T1 (tZ T) = 107) <|
  bS (tRow T1 (tZ T) (Int32.toNatClampNeg 300)) fun T2 =>
  gd (tK T2 me = 12) <|
  bS (tsW T2 me 0 (some (tZ T))) fun T3 =>
  bS (tNew T3 5) fun T4 =>
  gd (tK T4 (tZ T3) = 5) <|
  bOv (h_4000 (tZ T3) T4) fun T5 =>
  gd (tK T5 me = 12) <|
  bS (tsW T5 me 1 (some (tZ T3))) fun T6 =>
  bS (tNew T6 6) fun T7 =>
  gd (tK T7 me = 12) <|
  bP (tW T7 me 1) fun r8 =>
  gd (tK T7 (tZ T6) = 6) <|
  bOv (h_5000 (tZ T6) r8 T7) fun T9 =>
  gd (tK T9 me = 12) <|
  bS (tsW T9 me 4 (some (tZ T6))) fun T10 =>
  bS (tNew T10 8) fun T11 =>
  gd (tK T11 (tZ T10) = 8) <|
  bOv (h_7000 (tZ T10) T11) fun T12 =>
  gd (tK T12 me = 12) <|
  bS (tsW T12 me 5 (some (tZ T10))) fun T13 =>
  bS (tNew T13 8) fun T14 =>
  gd (tK T14 (tZ T13) = 8) <|
  bOv (h_7000 (tZ T13) T14) fun T15 =>
  gd (tK T15 me = 12) <|
  bS (tsW T15 me 6 (some (tZ T13))) fun T16 =>
  bS (tNew T16 4) fun T17 =>
  gd (tK T17 me = 12) <|
  bP (tW T17 me 1) fun r18 =>
  gd (tK T17 me = 12) <|
  bP (tW T17 me 6) fun r19 =>
  gd (tK T17 (tZ T16) = 4) <|
  bOv (h_3000 (tZ T16) r18 r19 T17) fun T20 =>
  gd (tK T20 me = 12) <|
  bS (tsW T20 me 7 (some (tZ T16))) fun T21 =>
  bS (tNew T21 11) fun T22 =>
  gd (tK T22 me = 12) <|
  bP (tW T22 me 1) fun r23 =>
  gd (tK T22 me = 12) <|
  bP (tW T22 me 6) fun r24 =>
  gd (tK T22 (tZ T21) = 11) <|
  bOv (h_10000 (tZ T21) r23 r24 T22) fun T25 =>
  gd (tK T25 me = 12) <|
  bS (tsW T25 me 8 (some (tZ T21))) fun T26 =>
  bS (tNew T26 101) fun T27 =>
  gd (tK T27 (tZ T26) = 101) <|
  bS (tLst T27 (tZ T26)) fun T28 =>
  gd (tK T28 me = 12) <|
  bS (tsW T28 me 9 (some (tZ T26))) fun T29 =>
  bS (tNew T29 101) fun T30 =>
  gd (tK T30 (tZ T29) = 101) <|
  bS (tLst T30 (tZ T29)) fun T31 =>
  gd (tK T31 me = 12) <|
  bS (tsW T31 me 10 (some (tZ T29))) fun T32 =>
  bS (tNew T32 107) fun T33 =>
  gd (tK T33 (tZ T32) = 107) <|
  bS (tRow T33 (tZ T32) (Int32.toNatClampNeg 30)) fun T34 =>
  gd (tK T34 me = 12) <|
  bS (tsW T34 me 11 (some (tZ T32))) fun T35 =>
  bS (tNew T35 107) fun T36 =>
  gd (tK T36 (tZ T35) = 107) <|
  bS (tRow T36 (tZ T35) (Int32.toNatClampNeg 8)) fun T37 =>
  gd (tK T37 me = 12) <|
  bS (tsW T37 me 12 (some (tZ T35))) fun T38 =>
  some T38
def h_11001_L95 : Nat → Nat → Int64 → Int32 → Int32 → Nat → Nat → Tx → Option (Tx × (Nat ⊕ Int32))
  | 0, _, _, _, _, _, _, _ => none
  | n + 1, l0, l1, l3, l4, bc, bs, T =>
    if 8 ≤ l4 then
      gd (tK T l0 = 12) <|
      bS (tsV T l0 2 0) fun T2 =>
      gd (tK T2 l0 = 12) <|
      bP (tW T2 l0 0) fun r3 =>
      gd (tK T2 r3 = 7) <|
      some (T2, .inr (nI (tB T2 r3).length))
    else
      bP (h_11035 l1 l4 T) fun r5 =>
      if r5 = 0 then
        h_11001_L95 n l0 l1 l3 (l4 + 1) bc bs T
      else
        gd (tK T l0 = 12) <|
        bP (tW T l0 0) fun r7 =>
        gd (tK T r7 = 7) <|
        bS (tsB T r7 (xadd (tC T r7) (tB T r7) r5)) fun T8 =>
        h_11001_L95 n l0 l1 l3 (l4 + 1) bc bs T8
def h_11001_J56 (k5 : Nat → Int64 → Int32 → Int32 → Nat → Nat → Tx → Option (Tx × (Nat ⊕ Int32))) (l0 : Nat) (l1 : Int64) (l3 : Int32) (l4 : Int32) (l5 : Int32) (bc bs : Nat) (T : Tx) : Option (Tx × (Nat ⊕ Int32)) :=
  if l5 = 0 then
    k5 l0 l1 (l3 + 0) (l4 + 1) bc bs T
  else
    k5 l0 l1 (l3 + 1) (l4 + 1) bc bs T
def h_11001_L5 : Nat → Nat → Int64 → Int32 → Int32 → Nat → Nat → Tx → Option (Tx × (Nat ⊕ Int32))
  | 0, _, _, _, _, _, _, _ => none
  | n + 1, l0, l1, l3, l4, bc, bs, T =>
    if 8 ≤ l4 then
      gd (tK T l0 = 12) <|
      bP (tW T l0 0) fun r11 =>
      gd (tK T r11 = 7) <|
      if ((nI (tB T r11).length) + l3) ≤ 300 then
        h_11001_L95 100 l0 l1 l3 0 bc bs T
      else
        some (T, .inr (-1))
    else
      bP (h_11035 l1 l4 T) fun r14 =>
      if r14 = 0 then
        h_11001_J56 (h_11001_L5 n) l0 l1 l3 l4 r14 bc bs T
      else
        if r14 = 10 then
          h_11001_J56 (h_11001_L5 n) l0 l1 l3 l4 r14 bc bs T
        else
          if r14 < 32 then
            gd ((1 : Nat) ≤ bc ∧ 6 ≤ bs) <|
            some (T, .inl 1)
          else
            if r14 ≤ 126 then
              h_11001_J56 (h_11001_L5 n) l0 l1 l3 l4 r14 bc bs T
            else
              gd ((1 : Nat) ≤ bc ∧ 6 ≤ bs) <|
              some (T, .inl 1)
def h_11001 (me : Nat) (x0 : Int64) (T : Tx) : Option (Tx × (Nat ⊕ Int32)) :=
  h_11001_L5 100 me x0 0 0 500 10000 T
def h_11002 (me : Nat) (T : Tx) : Option (Tx × Int32) :=
  gd (tK T me = 12) <|
  bP (tW T me 0) fun r1 =>
  gd (tK T r1 = 7) <|
  gd (tK T me = 12) <|
  bP (tW T me 0) fun r3 =>
  gd (tK T r3 = 7) <|
  bS (tsB T r3 []) fun T4 =>
  gd (tK T4 me = 12) <|
  bS (tsV T4 me 2 0) fun T5 =>
  some (T5, (nI (tB T r1).length))
def h_11003 (me : Nat) (x0 : Int32) (T : Tx) : Option (Tx × (Nat ⊕ Int32)) :=
  if x0 < 1 then
    some (T, .inl 1)
  else
    gd (tK T me = 12) <|
    bP (tW T me 0) fun r2 =>
    gd (tK T r2 = 7) <|
    if x0 ≤ (nI (tB T r2).length) then
      gd (tK T me = 12) <|
      bP (tW T me 0) fun r5 =>
      gd (tK T me = 12) <|
      bP (tW T me 0) fun r6 =>
      gd (tK T r6 = 7) <|
      gd (tK T r5 = 7) <|
      bS (tsB T r5 (xcut (tB T r5) ((nI (tB T r6).length) - x0))) fun T8 =>
      gd (tK T8 me = 12) <|
      bS (tsV T8 me 2 0) fun T9 =>
      gd (tK T9 me = 12) <|
      bP (tW T9 me 0) fun r10 =>
      gd (tK T9 r10 = 7) <|
      some (T9, .inr (nI (tB T9 r10).length))
    else
      some (T, .inl 1)
def h_11004 (me : Nat) (T : Tx) : Option Int32 :=
  gd (tK T me = 12) <|
  bP (tW T me 0) fun r1 =>
  gd (tK T r1 = 7) <|
  some ((nI (tB T r1).length))
def h_11005 (me : Nat) (x0 : Int32) (T : Tx) : Option (Nat ⊕ Int32) :=
  if x0 < 0 then
    some (.inl 2)
  else
    gd (tK T me = 12) <|
    bP (tW T me 0) fun r2 =>
    gd (tK T r2 = 7) <|
    if x0 < (nI (tB T r2).length) then
      gd (tK T me = 12) <|
      bP (tW T me 0) fun r5 =>
      gd (tK T r5 = 7) <|
      gd (nch (((xg (tB T r5) x0).toUInt32 % 65536).toInt32)) <|
      some (.inr (((xg (tB T r5) x0).toUInt32 % 65536).toInt32))
    else
      some (.inl 2)
def h_11006 (me : Nat) (T : Tx) : Option (Tx × Int32) :=
  gd (tK T me = 12) <|
  bOv (h_11042 me T) fun T1 =>
  gd (tK T1 me = 12) <|
  bP (tW T1 me 1) fun r2 =>
  gd (tK T1 r2 = 5) <|
  some (T1, (tV T1 r2 9))
def h_11007 (me : Nat) (T : Tx) : Option (Tx × Int32) :=
  gd (tK T me = 12) <|
  bOv (h_11042 me T) fun T1 =>
  gd (tK T1 me = 12) <|
  bP (tW T1 me 1) fun r2 =>
  gd (tK T1 r2 = 5) <|
  if (tV T1 r2 9) = 0 then
    some (T1, (-1))
  else
    gd (tK T1 me = 12) <|
    bP (tW T1 me 1) fun r4 =>
    gd (tK T1 r4 = 5) <|
    bP (tW T1 r4 0) fun r5 =>
    gd (tK T1 r5 = 10) <|
    bP (tW T1 r5 2) fun r6 =>
    gd (tK T1 me = 12) <|
    bP (tW T1 me 1) fun r7 =>
    gd (tK T1 r7 = 5) <|
    gd (tK T1 r6 = 7) <|
    some (T1, (xg (tB T1 r6) (tV T1 r7 10)))
def h_11008 (me : Nat) (T : Tx) : Option (Tx × (Nat ⊕ Int32)) :=
  gd (tK T me = 12) <|
  bOv (h_11042 me T) fun T1 =>
  gd (tK T1 me = 12) <|
  bXp T1 (h_11043 me T1) fun r2 =>
  gd (tK T1 me = 12) <|
  bP (tW T1 me 1) fun r3 =>
  gd (tK T1 r3 = 5) <|
  bP (h_4004 r3 T1) fun r4 =>
  some (T1, .inr r4)
def h_11009 (me : Nat) (x0 : Int32) (x1 : Int32) (x2 : Int32) (T : Tx) : Option (Tx × (Nat ⊕ Int32)) :=
  bXp T (h_11036 x0 T) fun r1 =>
  gd (tK T me = 12) <|
  bOv (h_11042 me T) fun T2 =>
  gd (tK T2 me = 12) <|
  bXp T2 (h_11043 me T2) fun r3 =>
  gd (tK T2 me = 12) <|
  bP (tW T2 me 7) fun r4 =>
  gd (tK T2 me = 12) <|
  bP (tW T2 me 1) fun r5 =>
  gd (tK T2 me = 12) <|
  bP (tW T2 me 5) fun r6 =>
  gd (tK T2 r4 = 4) <|
  bOv (h_3001 me r4 r5 r6 x0 x1 x2 T2) fun T7 =>
  gd (tK T7 me = 12) <|
  bP (tW T7 me 5) fun r8 =>
  gd (tK T7 r8 = 8) <|
  bP (h_7003 r8 T7) fun r9 =>
  some (T7, .inr r9)
def h_11010 (me : Nat) (x0 : Int32) (x1 : Int32) (x2 : Int32) (T : Tx) : Option (Tx × (Nat ⊕ Int32)) :=
  bXp T (h_11036 x0 T) fun r1 =>
  gd (tK T me = 12) <|
  bOv (h_11042 me T) fun T2 =>
  gd (tK T2 me = 12) <|
  bXp T2 (h_11043 me T2) fun r3 =>
  gd (tK T2 me = 12) <|
  bP (tW T2 me 8) fun r4 =>
  gd (tK T2 me = 12) <|
  bP (tW T2 me 1) fun r5 =>
  gd (tK T2 me = 12) <|
  bP (tW T2 me 5) fun r6 =>
  gd (tK T2 r4 = 11) <|
  bOv (h_10001 me r4 r5 r6 x0 x1 x2 T2) fun T7 =>
  gd (tK T7 me = 12) <|
  bP (tW T7 me 5) fun r8 =>
  gd (tK T7 r8 = 8) <|
  bP (h_7003 r8 T7) fun r9 =>
  some (T7, .inr r9)
def h_11011 (me : Nat) (T : Tx) : Option Int32 :=
  gd (tK T me = 12) <|
  bP (tW T me 5) fun r1 =>
  gd (tK T r1 = 8) <|
  bP (h_7005 r1 T) fun r2 =>
  some r2
def h_11012 (me : Nat) (x0 : Int32) (T : Tx) : Option (Nat ⊕ Int32) :=
  if x0 < 0 then
    some (.inl 2)
  else
    gd (tK T me = 12) <|
    bP (tW T me 5) fun r2 =>
    gd (tK T r2 = 8) <|
    bP (h_7005 r2 T) fun r3 =>
    if x0 < r3 then
      gd (tK T me = 12) <|
      bP (tW T me 5) fun r5 =>
      gd (tK T r5 = 8) <|
      bP (h_7006 r5 x0 T) fun r6 =>
      some (.inr r6)
    else
      some (.inl 2)
def h_11013 (me : Nat) (T : Tx) : Option Int32 :=
  gd (tK T me = 12) <|
  bP (tW T me 5) fun r1 =>
  gd (tK T r1 = 8) <|
  bP (h_7004 r1 T) fun r2 =>
  some r2
def h_11014 (me : Nat) (x0 : Int32) (T : Tx) : Option (Nat ⊕ Int32) :=
  if x0 < 0 then
    some (.inl 2)
  else
    if x0 < 32 then
      gd (tK T me = 12) <|
      bP (tW T me 5) fun r3 =>
      gd (tK T r3 = 8) <|
      bP (h_7007 r3 x0 T) fun r4 =>
      some (.inr r4)
    else
      some (.inl 2)
def h_11015 (me : Nat) (x0 : Int32) (x1 : Int32) (T : Tx) : Option (Tx × (Nat ⊕ Int32)) :=
  if x0 < 1 then
    some (T, .inl 1)
  else
    if 2000 < x0 then
      some (T, .inl 1)
    else
      gd (tK T me = 12) <|
      if x1 < (tV T me 13) then
        some (T, .inl 1)
      else
        if x1 ≤ 1000 then
          gd (tK T me = 12) <|
          bP (tW T me 9) fun r5 =>
          gd (tK T r5 = 1) <|
          if (nI (tA T r5).length) < 4 then
            gd (tK T me = 12) <|
            bP (tW T me 9) fun r8 =>
            bS (tNew T 3) fun T9 =>
            gd (tK T9 me = 12) <|
            bP (tW T9 me 9) fun r10 =>
            gd (tK T9 r10 = 1) <|
            gd (tK T9 (tZ T) = 3) <|
            bOv (h_2000 (tZ T) (nI (tA T9 r10).length) x0 x1 T9) fun T12 =>
            gd (tK T12 r8 = 1) <|
            gd ((tA T12 r8).length ≤ 32 ∧ tK T12 (tZ T) ≠ 0) <|
            bS (tAdd T12 r8 (tZ T)) fun T13 =>
            gd (tK T13 me = 12) <|
            bP (tW T13 me 9) fun r14 =>
            gd (tK T13 r14 = 1) <|
            some (T13, .inr ((nI (tA T13 r14).length) - 1))
          else
            some (T, .inl 3)
        else
          some (T, .inl 1)
def h_11016_L88 : Nat → Nat → Int32 → Int32 → Int32 → Int32 → Int32 → Int32 → Int32 → Nat → Nat → Int32 → Nat → Nat → Tx → Option (Tx × (Nat ⊕ Int32))
  | 0, _, _, _, _, _, _, _, _, _, _, _, _, _, _ => none
  | n + 1, l0, l1, l2, l3, l4, l5, l6, l7, l8, l9, l10, bc, bs, T =>
    gd (tK T l0 = 12) <|
    bP (tW T l0 10) fun r1 =>
    gd (tK T r1 = 1) <|
    if (nI (tA T r1).length) ≤ l10 then
      gd (tK T l8 = 3) <|
      bP (h_2002 l8 T) fun r4 =>
      some (T, .inr (r4 - 1))
    else
      gd (tK T l0 = 12) <|
      bP (tW T l0 10) fun r5 =>
      gd (tK T r5 = 1) <|
      gd (vi l10 (tA T r5).length) <|
      bS ((tA T r5).getD l10.toNatClampNeg 0) fun r6 =>
      gd (tK T r6 = 2) <|
      gd (tK T r6 = 2) <|
      bP (tW T r6 1) fun r7 =>
      gd (tK T r7 = 3) <|
      if (tV T r7 0) = l1 then
        gd (tK T l0 = 12) <|
        bOv (h_11044 l0 r6 l9 T) fun T9 =>
        h_11016_L88 n l0 l1 l2 l3 l4 l5 l6 l7 l8 l9 (l10 + 1) bc bs T9
      else
        h_11016_L88 n l0 l1 l2 l3 l4 l5 l6 l7 l8 l9 (l10 + 1) bc bs T
def h_11016 (me : Nat) (x0 : Int32) (x1 : Int32) (x2 : Int32) (x3 : Int32) (x4 : Int32) (x5 : Int32) (x6 : Int32) (T : Tx) : Option (Tx × (Nat ⊕ Int32)) :=
  gd (tK T me = 12) <|
  bXp T (h_11040 me x0 T) fun r10 =>
  if x1 < 1 then
    some (T, .inl 1)
  else
    if 10 < x1 then
      some (T, .inl 1)
    else
      if x4 < 0 then
        some (T, .inl 1)
      else
        if x4 ≤ 2 then
          gd (tK T r10 = 3) <|
          bP (h_2002 r10 T) fun r15 =>
          if r15 < 8 then
            bS (tNew T 9) fun T17 =>
            gd (tK T17 (tZ T) = 9) <|
            bOv (h_8000 (tZ T) x1 x2 x3 x4 x5 x6 T17) fun T18 =>
            gd (tK T18 r10 = 3) <|
            bOv (h_2001 r10 (tZ T) T18) fun T19 =>
            h_11016_L88 100 me x0 x1 x2 x3 x4 x5 x6 r10 (tZ T) 0 497 9947 T19
          else
            some (T, .inl 3)
        else
          some (T, .inl 1)
def h_11017_L47 : Nat → Nat → Int32 → Int32 → Nat → Nat → Int32 → Int32 → Nat → Nat → Tx → Option (Tx × (Nat ⊕ Int32))
  | 0, _, _, _, _, _, _, _, _, _, _ => none
  | n + 1, l0, l1, l2, l3, l4, l5, l6, bc, bs, T =>
    gd (tK T l0 = 12) <|
    bP (tW T l0 10) fun r1 =>
    gd (tK T r1 = 1) <|
    if (nI (tA T r1).length) ≤ l6 then
      some (T, .inr l5)
    else
      gd (tK T l0 = 12) <|
      bP (tW T l0 10) fun r4 =>
      gd (tK T r4 = 1) <|
      gd (vi l6 (tA T r4).length) <|
      bS ((tA T r4).getD l6.toNatClampNeg 0) fun r5 =>
      gd (tK T r5 = 2) <|
      gd (tK T r5 = 2) <|
      bP (h_1001 r5 T) fun r6 =>
      gd (tK T l0 = 12) <|
      bP (tW T l0 11) fun r7 =>
      gd (tK T r7 = 7) <|
      if r6 = (xg (tB T r7) l6) then
        h_11017_L47 n l0 l1 l2 l3 l4 (l5 + 0) (l6 + 1) bc bs T
      else
        h_11017_L47 n l0 l1 l2 l3 l4 (l5 + 1) (l6 + 1) bc bs T
def h_11017 (me : Nat) (x0 : Int32) (x1 : Int32) (T : Tx) : Option (Tx × (Nat ⊕ Int32)) :=
  gd (tK T me = 12) <|
  bXp T (h_11040 me x0 T) fun r10 =>
  bXp T (h_11041 r10 x1 T) fun r11 =>
  gd (tK T r11 = 9) <|
  if (tV T r11 6) = 0 then
    gd (tK T me = 12) <|
    bOv (h_11045 me T) fun T13 =>
    gd (tK T13 r11 = 9) <|
    bS (tsV T13 r11 6 1) fun T14 =>
    h_11017_L47 100 me x0 x1 r10 r11 0 0 498 9988 T14
  else
    some (T, .inl 3)
def h_11018 (me : Nat) (x0 : Int32) (T : Tx) : Option (Tx × (Nat ⊕ Int32)) :=
  if x0 < 1 then
    some (T, .inl 1)
  else
    if x0 ≤ 100 then
      gd (tK T me = 12) <|
      if ((tV T me 13) + x0) ≤ 1000 then
        gd (tK T me = 12) <|
        gd (tK T me = 12) <|
        bS (tsV T me 13 ((tV T me 13) + x0)) fun T4 =>
        gd (tK T4 me = 12) <|
        some (T4, .inr (tV T4 me 13))
      else
        some (T, .inl 3)
    else
      some (T, .inl 1)
def h_11019 (me : Nat) (T : Tx) : Option Int32 :=
  gd (tK T me = 12) <|
  some ((tV T me 13))
def h_11020_L133 : Nat → Nat → Int32 → Int32 → Nat → Nat → Int32 → Nat → Nat → Tx → Option (Tx × (Nat ⊕ Int32))
  | 0, _, _, _, _, _, _, _, _, _ => none
  | n + 1, l0, l1, l2, l3, l4, l5, bc, bs, T =>
    gd (tK T l3 = 3) <|
    bP (h_2002 l3 T) fun r1 =>
    if r1 ≤ l5 then
      gd (tK T l0 = 12) <|
      bP (tW T l0 10) fun r3 =>
      gd (tK T r3 = 1) <|
      gd ((tA T r3).length ≤ 32 ∧ tK T l4 ≠ 0) <|
      gd ((1 : Nat) ≤ bc ∧ 40 ≤ bs) <|
      bS (tAdd T r3 l4) fun T4 =>
      gd (tK T4 l0 = 12) <|
      bP (tW T4 l0 10) fun r5 =>
      gd (tK T4 r5 = 1) <|
      some (T4, .inr ((nI (tA T4 r5).length) - 1))
    else
      gd ((1 : Nat) ≤ bc ∧ 6 ≤ bs) <|
      bXp T (h_11041 l3 l5 T) fun r7 =>
      gd (tK T l0 = 12) <|
      bOv (h_11044 l0 l4 r7 T) fun T8 =>
      h_11020_L133 n l0 l1 l2 l3 l4 (l5 + 1) (bc - 1) (bs - 6) T8
def h_11020_L67 : Nat → Nat → Int32 → Int32 → Nat → Nat → Int32 → Nat → Nat → Tx → Option (Tx × (Nat ⊕ Int32))
  | 0, _, _, _, _, _, _, _, _, _ => none
  | n + 1, l0, l1, l2, l3, l4, l5, bc, bs, T =>
    gd (tK T l0 = 12) <|
    bP (tW T l0 10) fun r9 =>
    gd (tK T r9 = 1) <|
    if (nI (tA T r9).length) ≤ l5 then
      gd (tK T l4 = 2) <|
      bP (tW T l4 6) fun r12 =>
      gd (tK T l0 = 12) <|
      bP (tW T l0 1) fun r13 =>
      gd (tK T r13 = 5) <|
      bP (h_4004 r13 T) fun r14 =>
      gd (tK T r12 = 7) <|
      bS (tsB T r12 (xadd (tC T r12) (tB T r12) r14)) fun T15 =>
      h_11020_L133 100 l0 l1 l2 l3 l4 0 bc bs T15
    else
      gd (tK T l4 = 2) <|
      bP (tW T l4 6) fun r16 =>
      gd (tK T l0 = 12) <|
      bP (tW T l0 1) fun r17 =>
      gd (tK T l0 = 12) <|
      bP (tW T l0 10) fun r18 =>
      gd (tK T r18 = 1) <|
      gd (vi l5 (tA T r18).length) <|
      bS ((tA T r18).getD l5.toNatClampNeg 0) fun r19 =>
      gd (tK T r19 = 2) <|
      gd (tK T r19 = 2) <|
      bP (tW T r19 2) fun r20 =>
      gd (tK T r17 = 5) <|
      gd ((2 : Nat) ≤ bc ∧ 160 ≤ bs) <|
      bO (h_4016 r17 r20 T) fun T21 r21 =>
      gd (tK T21 r16 = 7) <|
      bS (tsB T21 r16 (xadd (tC T21 r16) (tB T21 r16) r21)) fun T22 =>
      h_11020_L67 n l0 l1 l2 l3 l4 (l5 + 1) (bc - 2) (bs - 160) T22
def h_11020 (me : Nat) (x0 : Int32) (x1 : Int32) (T : Tx) : Option (Tx × (Nat ⊕ Int32)) :=
  bXp T (h_11037 x0 T) fun r23 =>
  gd (tK T me = 12) <|
  bXp T (h_11040 me x1 T) fun r24 =>
  gd (tK T me = 12) <|
  bOv (h_11042 me T) fun T25 =>
  gd (tK T25 me = 12) <|
  bXp T25 (h_11043 me T25) fun r26 =>
  gd (tK T25 me = 12) <|
  bP (tW T25 me 10) fun r27 =>
  gd (tK T25 r27 = 1) <|
  if (nI (tA T25 r27).length) < 30 then
    bS (tNew T25 2) fun T30 =>
    gd (tK T30 me = 12) <|
    gd (tK T30 me = 12) <|
    bP (tW T30 me 1) fun r31 =>
    gd (tK T30 (tZ T25) = 2) <|
    bOv (h_1000 (tZ T25) x0 r24 (tV T30 me 13) r31 T30) fun T32 =>
    gd (tK T32 me = 12) <|
    bS (tsV T32 me 3 1) fun T33 =>
    h_11020_L67 100 me x0 x1 r24 (tZ T25) 0 450 6214 T33
  else
    some (T25, .inl 3)
def h_11021 (me : Nat) (T : Tx) : Option Int32 :=
  gd (tK T me = 12) <|
  bP (tW T me 10) fun r1 =>
  gd (tK T r1 = 1) <|
  some ((nI (tA T r1).length))
def h_11022 (me : Nat) (x0 : Int32) (x1 : Int32) (T : Tx) : Option (Nat ⊕ Int32) :=
  gd (tK T me = 12) <|
  bXn (h_11039 me x0 T) fun r1 =>
  gd (tK T r1 = 2) <|
  bP (tW T r1 1) fun r2 =>
  bXn (h_11041 r2 x1 T) fun r3 =>
  gd (tK T r1 = 2) <|
  bP (tW T r1 5) fun r4 =>
  gd (tK T r4 = 7) <|
  if (xg (tB T r4) x1) = 1 then
    some (.inr 1)
  else
    some (.inr 0)
def h_11023 (me : Nat) (x0 : Int32) (x1 : Int32) (T : Tx) : Option (Nat ⊕ Int32) :=
  gd (tK T me = 12) <|
  bXn (h_11039 me x0 T) fun r1 =>
  gd (tK T r1 = 2) <|
  bP (tW T r1 1) fun r2 =>
  bXn (h_11041 r2 x1 T) fun r3 =>
  gd (tK T r1 = 2) <|
  bP (tW T r1 4) fun r4 =>
  gd (tK T r4 = 7) <|
  some (.inr (xg (tB T r4) x1))
def h_11024 (me : Nat) (x0 : Int32) (T : Tx) : Option (Nat ⊕ Int32) :=
  gd (tK T me = 12) <|
  bXn (h_11039 me x0 T) fun r1 =>
  gd (tK T r1 = 2) <|
  bP (tW T r1 1) fun r2 =>
  gd (tK T r1 = 2) <|
  bP (tW T r1 5) fun r3 =>
  gd (tK T r2 = 3) <|
  bP (h_2004 r2 r3 T) fun r4 =>
  some (.inr r4)
def h_11025 (me : Nat) (x0 : Int32) (T : Tx) : Option (Nat ⊕ Int32) :=
  gd (tK T me = 12) <|
  bXn (h_11039 me x0 T) fun r1 =>
  gd (tK T r1 = 2) <|
  bP (h_1001 r1 T) fun r2 =>
  some (.inr r2)
def h_11026_L21 : Nat → Nat → Int32 → Nat → Nat → Int32 → Nat → Nat → Tx → Option (Tx × (Nat ⊕ Int32))
  | 0, _, _, _, _, _, _, _, _ => none
  | n + 1, l0, l1, l2, l3, l4, bc, bs, T =>
    gd (tK T l3 = 3) <|
    bP (h_2002 l3 T) fun r1 =>
    if r1 ≤ l4 then
      gd (tK T l0 = 12) <|
      bP (tW T l0 12) fun r3 =>
      gd (tK T l3 = 3) <|
      bP (h_2004 l3 r3 T) fun r4 =>
      gd (tK T l2 = 2) <|
      bP (h_1002 l2 r4 T) fun r5 =>
      some (T, .inr r5)
    else
      gd ((1 : Nat) ≤ bc ∧ 6 ≤ bs) <|
      bXp T (h_11041 l3 l4 T) fun r6 =>
      gd (tK T l0 = 12) <|
      bP (tW T l0 8) fun r7 =>
      gd (tK T l2 = 2) <|
      bP (tW T l2 2) fun r8 =>
      gd (tK T l0 = 12) <|
      bP (tW T l0 6) fun r9 =>
      gd (tK T l3 = 3) <|
      gd (tK T r6 = 9) <|
      gd (tK T r6 = 9) <|
      gd (tK T r7 = 11) <|
      bOv (h_10001 l0 r7 r8 r9 (tV T l3 1) (tV T r6 1) (tV T r6 2) T) fun T10 =>
      gd (tK T10 l0 = 12) <|
      bP (tW T10 l0 12) fun r11 =>
      gd (tK T10 l0 = 12) <|
      bP (tW T10 l0 6) fun r12 =>
      gd (tK T10 r6 = 9) <|
      bP (h_8001 r6 r12 T10) fun r13 =>
      if r13 = 0 then
        gd (tK T10 r11 = 7) <|
        bS (tsB T10 r11 (xadd (tC T10 r11) (tB T10 r11) 0)) fun T15 =>
        h_11026_L21 n l0 l1 l2 l3 (l4 + 1) (bc - 1) (bs - 6) T15
      else
        gd (tK T10 r11 = 7) <|
        bS (tsB T10 r11 (xadd (tC T10 r11) (tB T10 r11) 1)) fun T16 =>
        h_11026_L21 n l0 l1 l2 l3 (l4 + 1) (bc - 1) (bs - 6) T16
def h_11026 (me : Nat) (x0 : Int32) (T : Tx) : Option (Tx × (Nat ⊕ Int32)) :=
  gd (tK T me = 12) <|
  bXp T (h_11039 me x0 T) fun r17 =>
  gd (tK T r17 = 2) <|
  bP (tW T r17 1) fun r18 =>
  gd (tK T me = 12) <|
  bP (tW T me 12) fun r19 =>
  gd (tK T r19 = 7) <|
  bS (tsB T r19 []) fun T20 =>
  h_11026_L21 100 me x0 r17 r18 0 499 9994 T20
def h_11027_L16 : Nat → Nat → Int32 → Int32 → Nat → Int32 → Int32 → Nat → Nat → Tx → Option (Nat ⊕ Int32)
  | 0, _, _, _, _, _, _, _, _, _ => none
  | n + 1, l0, l1, l2, l3, l4, l5, bc, bs, T =>
    gd (tK T l0 = 12) <|
    bP (tW T l0 10) fun r1 =>
    gd (tK T r1 = 1) <|
    if (nI (tA T r1).length) ≤ l5 then
      some (.inr l4)
    else
      gd (tK T l0 = 12) <|
      bP (tW T l0 10) fun r4 =>
      gd (tK T r4 = 1) <|
      gd (vi l5 (tA T r4).length) <|
      bS ((tA T r4).getD l5.toNatClampNeg 0) fun r5 =>
      gd (tK T r5 = 2) <|
      gd (tK T r5 = 2) <|
      if (tV T r5 0) = l1 then
        gd (tK T r5 = 2) <|
        bP (tW T r5 1) fun r7 =>
        gd (tK T r7 = 3) <|
        if (tV T r7 0) = l2 then
          gd (tK T r5 = 2) <|
          bP (h_1001 r5 T) fun r9 =>
          h_11027_L16 n l0 l1 l2 l3 (if l4 < r9 then r9 else l4) (l5 + 1) bc bs T
        else
          h_11027_L16 n l0 l1 l2 l3 l4 (l5 + 1) bc bs T
      else
        h_11027_L16 n l0 l1 l2 l3 l4 (l5 + 1) bc bs T
def h_11027 (me : Nat) (x0 : Int32) (x1 : Int32) (T : Tx) : Option (Nat ⊕ Int32) :=
  bXn (h_11037 x0 T) fun r10 =>
  gd (tK T me = 12) <|
  bXn (h_11040 me x1 T) fun r11 =>
  h_11027_L16 100 me x0 x1 r11 (-1) 0 498 9988 T
def h_11028_L18 : Nat → Nat → Int32 → Int32 → Nat → Int32 → Int32 → Nat → Nat → Tx → Option (Nat ⊕ Int32)
  | 0, _, _, _, _, _, _, _, _, _ => none
  | n + 1, l0, l1, l2, l3, l4, l5, bc, bs, T =>
    gd (tK T l0 = 12) <|
    bP (tW T l0 10) fun r1 =>
    gd (tK T r1 = 1) <|
    if (nI (tA T r1).length) ≤ l5 then
      some (.inr l4)
    else
      gd (tK T l0 = 12) <|
      bP (tW T l0 10) fun r4 =>
      gd (tK T r4 = 1) <|
      gd (vi l5 (tA T r4).length) <|
      bS ((tA T r4).getD l5.toNatClampNeg 0) fun r5 =>
      gd (tK T r5 = 2) <|
      gd (tK T r5 = 2) <|
      bP (tW T r5 1) fun r6 =>
      gd (tK T r6 = 3) <|
      if (tV T r6 0) = l1 then
        gd (tK T r5 = 2) <|
        bP (tW T r5 5) fun r8 =>
        gd (tK T r8 = 7) <|
        h_11028_L18 n l0 l1 l2 l3 (l4 + (xg (tB T r8) l2)) (l5 + 1) bc bs T
      else
        h_11028_L18 n l0 l1 l2 l3 l4 (l5 + 1) bc bs T
def h_11028 (me : Nat) (x0 : Int32) (x1 : Int32) (T : Tx) : Option (Nat ⊕ Int32) :=
  gd (tK T me = 12) <|
  bXn (h_11040 me x0 T) fun r10 =>
  bXn (h_11041 r10 x1 T) fun r11 =>
  h_11028_L18 100 me x0 x1 r10 0 0 498 9988 T
def h_11029 (me : Nat) (x0 : Int32) (T : Tx) : Option (Nat ⊕ Int32) :=
  gd (tK T me = 12) <|
  bXn (h_11039 me x0 T) fun r1 =>
  gd (tK T r1 = 2) <|
  bP (tW T r1 2) fun r2 =>
  gd (tK T r2 = 5) <|
  bP (h_4004 r2 T) fun r3 =>
  some (.inr r3)
def h_11030 (me : Nat) (x0 : Int32) (x1 : Int32) (T : Tx) : Option (Nat ⊕ Int32) :=
  gd (tK T me = 12) <|
  bXn (h_11038 me x0 T) fun r1 =>
  gd (tK T me = 12) <|
  bXn (h_11038 me x1 T) fun r2 =>
  gd (tK T me = 12) <|
  bXn (h_11046 me x0 x1 T) fun r3 =>
  some (.inr r3)
def h_11031 (me : Nat) (x0 : Int32) (x1 : Int32) (T : Tx) : Option (Nat ⊕ Int32) :=
  gd (tK T me = 12) <|
  bXn (h_11038 me x0 T) fun r1 =>
  gd (tK T me = 12) <|
  bXn (h_11038 me x1 T) fun r2 =>
  gd (tK T me = 12) <|
  bXn (h_11047 me x0 x1 T) fun r3 =>
  some (.inr r3)
def h_11032 (me : Nat) (x0 : Int32) (x1 : Int32) (T : Tx) : Option (Tx × (Nat ⊕ Int32)) :=
  gd (tK T me = 12) <|
  bXp T (h_11039 me x0 T) fun r1 =>
  gd (tK T me = 12) <|
  bXp T (h_11038 me x1 T) fun r2 =>
  gd (tK T r1 = 2) <|
  if (tV T r1 7) = 0 then
    gd (tK T me = 12) <|
    bXp T (h_11048 me x0 x1 T) fun r4 =>
    if r4 = 0 then
      some (T, .inl 3)
    else
      gd (tK T r1 = 2) <|
      bP (h_1001 r1 T) fun r6 =>
      gd (tK T r1 = 2) <|
      bS (tsV T r1 7 1) fun T7 =>
      some (T7, .inr r6)
  else
    some (T, .inl 3)
def h_11033 (me : Nat) (x0 : Int32) (T : Tx) : Option (Tx × (Nat ⊕ Int32)) :=
  gd (tK T me = 12) <|
  bXp T (h_11039 me x0 T) fun r1 =>
  gd (tK T r1 = 2) <|
  if (tV T r1 7) = 0 then
    some (T, .inl 3)
  else
    gd (tK T r1 = 2) <|
    bS (tsV T r1 7 0) fun T3 =>
    gd (tK T3 r1 = 2) <|
    bP (h_1001 r1 T3) fun r4 =>
    some (T3, .inr r4)
def h_11034_L7 : Nat → Nat → Int32 → Int32 → Nat → Nat → Tx → Option (Nat ⊕ Int32)
  | 0, _, _, _, _, _, _ => none
  | n + 1, l0, l1, l2, bc, bs, T =>
    if l1 ≤ l2 then
      some (.inr (-1))
    else
      gd (tK T l0 = 12) <|
      bP (tW T l0 10) fun r2 =>
      gd (tK T r2 = 1) <|
      if (nI (tA T r2).length) ≤ l2 then
        some (.inr (-1))
      else
        gd (tK T l0 = 12) <|
        gd ((12 : Nat) ≤ bc ∧ 72 ≤ bs) <|
        bXn (h_11048 l0 l1 l2 T) fun r5 =>
        if r5 = 0 then
          h_11034_L7 n l0 l1 (l2 + 1) (bc - 12) (bs - 72) T
        else
          some (.inr l2)
def h_11034 (me : Nat) (x0 : Int32) (T : Tx) : Option (Nat ⊕ Int32) :=
  gd (tK T me = 12) <|
  bXn (h_11038 me x0 T) fun r7 =>
  h_11034_L7 100 me x0 0 499 9994 T
end
