/-! plain definitions of the parts 11 to 41, alone -/
def u1 {α : Type} (f : Nat → α) (a : Nat) (v : α) : Nat → α := fun b => if b = a then v else f b
def u2 {α : Type} (f : Nat → Nat → α) (a k : Nat) (v : α) : Nat → Nat → α := fun b => if b = a then (fun j => if j = k then v else f a j) else f b
def ab_tx (k : Nat) : List Int32 := match k with
  | 0 => [105, 102]
  | 1 => [101, 108, 115, 101]
  | 2 => [119, 104, 105, 108, 101]
  | 3 => [111, 117, 116]
  | 4 => [105, 110]
  | 5 => [100, 101, 102]
  | _ => [114, 101, 116, 117, 114, 110]
theorem u1_s {α : Type} (f : Nat → α) (a : Nat) (v : α) : u1 f a v a = v := if_pos rfl
theorem u1_n {α : Type} (f : Nat → α) {a b : Nat} (v : α) (h : b ≠ a) : u1 f a v b = f b := if_neg h
theorem u2_s {α : Type} (f : Nat → Nat → α) (a k : Nat) (v : α) : u2 f a k v a = fun j => if j = k then v else f a j := if_pos rfl
theorem u2_n {α : Type} (f : Nat → Nat → α) {a b : Nat} (k : Nat) (v : α) (h : b ≠ a) : u2 f a k v b = f b := if_neg h
def xg (xs : List Int32) (i : Int32) : Int32 := if i < 0 then 0 else xs.getD i.toNatClampNeg 0
def xset (xs : List Int32) (i v : Int32) : List Int32 := if i < 0 then xs else xs.set i.toNatClampNeg v
def xadd (n : Nat) (xs : List Int32) (v : Int32) : List Int32 := if xs.length < n then xs ++ [v] else xs
def xlast (xs : List Int32) : Int32 := xs.getD (xs.length - 1) 0
def xcut (xs : List Int32) (i : Int32) : List Int32 := if i < 0 then xs else xs.take i.toNatClampNeg
def xpos (xs : List Int32) (v : Int32) : Int32 := if v ∈ xs then nI (xs.idxOf v) else -1
theorem i_lt {x y : Int32} : x < y ↔ x.toInt < y.toInt := Int32.lt_iff_toInt_lt
theorem i_le {x y : Int32} : x ≤ y ↔ x.toInt ≤ y.toInt := Int32.le_iff_toInt_le
theorem i_eq {x y : Int32} : x = y ↔ x.toInt = y.toInt := Int32.toInt_inj.symm
theorem i_cl (x : Int32) : x.toNatClampNeg = x.toInt.toNat := rfl
theorem i_0 : (0 : Int32).toInt = 0 := by decide
theorem i_1 : (1 : Int32).toInt = 1 := by decide
theorem nI_T {n : Nat} (h : n < 100000) : (nI n).toInt = n := nI_toInt (by omega)
theorem nI_C {n : Nat} (h : n < 100000) : (nI n).toNatClampNeg = n := nI_clamp (by omega)
theorem i_in {x : Int32} {n : Nat} (h0 : ¬ x < 0) (h1 : ¬ nI n ≤ x) (hn : n < 100000) : vp_in x n := by
  rw [vp_in_iff]
  rw [i_lt, i_0] at h0
  rw [i_le, nI_T hn] at h1
  omega
theorem xg_neg {xs : List Int32} {x : Int32} (h : x < 0) : xg xs x = 0 := if_pos h
theorem xg_ge {xs : List Int32} {x : Int32} {m : Nat} (h : nI m ≤ x) (hl : xs.length ≤ m) (hm : m < 100000) : xg xs x = 0 := by
  unfold xg
  split
  · rfl
  · rw [List.getD_eq_getElem?_getD, List.getElem?_eq_none]
    · rfl
    · rw [i_le, nI_T hm] at h
      rw [i_cl]
      omega
theorem xg_in {xs : List Int32} {x : Int32} (h : ¬ x < 0) : xg xs x = xs.getD x.toNatClampNeg 0 := if_neg h
theorem i_ltn {xs : List Int32} {x : Int32} (h0 : ¬ x < 0) (h : ¬ nI xs.length ≤ x) (hl : xs.length < 100000) : x.toNatClampNeg < xs.length := by
  rw [i_lt, i_0] at h0
  rw [i_le, nI_T hl] at h
  rw [i_cl]
  omega

theorem xset_out {xs : List Int32} {x v : Int32} (h : x < 0 ∨ xs.length ≤ x.toNatClampNeg) : xset xs x v = xs := by
  unfold xset
  split
  · rfl
  · rename_i h0
    rcases h with h | h
    · exact absurd h h0
    · exact List.set_eq_of_length_le h
theorem i_ge_n {x : Int32} {m k : Nat} (h : nI m ≤ x) (hm : m < 100000) (hk : k ≤ m) : k ≤ x.toNatClampNeg := by
  rw [i_le, nI_T hm] at h
  rw [i_cl]
  omega
theorem xs_pos {xs : List Int32} (hl : xs.length < 100000) (h : ¬ nI xs.length ≤ 0) : 0 < xs.length := by
  rw [i_le, nI_T hl, i_0] at h
  omega
theorem xs_pos' {xs : List Int32} (hl : xs.length < 100000) (h : ¬ nI xs.length < 1) : 0 < xs.length := by
  rw [i_lt, nI_T hl, i_1] at h
  omega
theorem xs_nil {xs : List Int32} (hl : xs.length < 100000) (h : nI xs.length < 1) : xs = [] := by
  rw [i_lt, nI_T hl, i_1] at h
  exact List.length_eq_zero_iff.1 (by omega)
theorem xs_nil' {xs : List Int32} (hl : xs.length < 100000) (h : nI xs.length ≤ 0) : xs = [] := by
  rw [i_le, nI_T hl, i_0] at h
  exact List.length_eq_zero_iff.1 (by omega)
theorem nJ_pred {k : Nat} (h : 0 < k) (hk : k < 100000) : nI k - 1 = nI (k - 1) := by
  rw [i_eq, Int32.toInt_sub, nI_T hk, nI_T (by omega), i_1, Int.bmod_def]
  omega
theorem nJ_succ {k : Nat} (hk : k < 99999) : nI k + 1 = nI (k + 1) := by
  rw [i_eq, Int32.toInt_add, nI_T (by omega), nI_T (by omega), i_1, Int.bmod_def]
  omega
theorem nJ_in {k n : Nat} (hk : k < n) (hn : n < 100000) : vp_in (nI k) n := by
  rw [vp_in_iff, nI_T (by omega)]
  omega
theorem xpos_at {xs : List Int32} {v : Int32} {k : Nat} (hk : k < xs.length) (h : ∀ j, j < k → ¬ xs.getD j 0 = v) (hv : xs.getD k 0 = v) : xpos xs v = nI k := by
  have hk' : xs[k] = v := by simpa [List.getD_eq_getElem?_getD, hk] using hv
  unfold xpos
  rw [if_pos (by rw [← hk']; exact List.getElem_mem hk)]
  congr 1
  induction xs generalizing k with
  | nil => exact absurd hk (Nat.not_lt_zero _)
  | cons x xs ih =>
    cases k with
    | zero => simp at hk'; simp [hk', List.idxOf_cons]
    | succ k =>
      have h0 := h 0 (by omega)
      simp at h0
      rw [List.idxOf_cons, show (x == v) = false by simpa using h0]
      dsimp only [cond]
      rw [ih (k := k) (by simpa using hk) (fun j hj => by have := h (j + 1) (by omega); simpa using this) (by simpa using hv) (by simpa using hk')]
theorem xpos_no {xs : List Int32} {v : Int32} (h : ∀ j, j < xs.length → ¬ xs.getD j 0 = v) : xpos xs v = -1 := by
  unfold xpos
  rw [if_neg]
  intro hm
  obtain ⟨j, hj, e⟩ := List.mem_iff_getElem.1 hm
  exact h j hj (by simp [List.getD_eq_getElem?_getD, hj, e])
abbrev Sx : Type := (Nat → List Int32) × (Nat → Int32)
def sB (s : Sx) (k : Nat) (xs : List Int32) : Sx := (fun j => if j = k then xs else s.1 j, s.2)
def sV (s : Sx) (v : Nat) (x : Int32) : Sx := (s.1, fun j => if j = v then x else s.2 j)
def ev_cap (k : Nat) : Nat := [301, 301, 301, 300, 300, 150, 150, 600, 600, 75, 75, 75, 75, 8, 8, 150, 150, 150, 8, 32, 88, 10, 1650, 1650, 1650, 300].getD k 0
def ev_ob (v : Nat) : Nat := [0, 0, 2, 2, 2, 2, 3, 3, 3, 3, 3, 4, 5, 5].getD v 0
def ev_fl (v : Nat) : Nat := [9, 10, 2, 3, 4, 5, 4, 5, 6, 7, 8, 3, 5, 6].getD v 0
theorem i64_ne {x : Int32} (h : ¬ x = 0) : ¬ x.toInt64 = 0 := by
  intro e
  apply h
  have := congrArg Int64.toInt e
  rw [Int32.toInt_toInt64] at this
  exact Int32.toInt_inj.1 this
def bS {α β : Type} (x : α) (k : α → β) : β := k x
def bT {α β γ : Type} (x : α × β) (k : α → β → γ) : γ := k x.1 x.2
def bOv {α β : Type} (x : Option α) (k : α → Option β) : Option β := match x with
  | none => none
  | some a => k a
def bP {α β : Type} (x : Option α) (k : α → Option β) : Option β := match x with
  | none => none
  | some a => k a
def bO {α β γ : Type} (x : Option (α × β)) (k : α → β → Option γ) : Option γ := match x with
  | none => none
  | some a => k a.1 a.2
def gd {α : Type} (c : Prop) [Decidable c] (x : Option α) : Option α := if c then x else none
theorem bS_eq {α β : Type} (x : α) (k : α → β) : bS x k = k x := rfl
theorem bT_eq {α β γ : Type} (x : α) (y : β) (k : α → β → γ) : bT (x, y) k = k x y := rfl
theorem bOv_some {α β : Type} (a : α) (k : α → Option β) : bOv (some a) k = k a := rfl
theorem bP_some {α β : Type} (a : α) (k : α → Option β) : bP (some a) k = k a := rfl
theorem bO_some {α β γ : Type} (a : α) (b : β) (k : α → β → Option γ) : bO (some (a, b)) k = k a b := rfl
theorem bOv_ex {α β : Type} {x : Option α} {k : α → Option β} {r : β} (h : bOv x k = some r) : ∃ a, x = some a := by
  cases x with
  | none => cases h
  | some a => exact ⟨a, rfl⟩
theorem bP_ex {α β : Type} {x : Option α} {k : α → Option β} {r : β} (h : bP x k = some r) : ∃ a, x = some a := by
  cases x with
  | none => cases h
  | some a => exact ⟨a, rfl⟩
theorem bO_ex {α β γ : Type} {x : Option (α × β)} {k : α → β → Option γ} {r : γ} (h : bO x k = some r) : ∃ a, x = some a := by
  cases x with
  | none => cases h
  | some a => exact ⟨a, rfl⟩
theorem bOv_go {α β : Type} {x : Option α} {k : α → Option β} {r : β} {a : α} (h : bOv x k = some r) (e : x = some a) : k a = some r := by rw [e] at h; exact h
theorem bP_go {α β : Type} {x : Option α} {k : α → Option β} {r : β} {a : α} (h : bP x k = some r) (e : x = some a) : k a = some r := by rw [e] at h; exact h
theorem bO_go {α β γ : Type} {x : Option (α × β)} {k : α → β → Option γ} {r : γ} {a : α} {b : β} (h : bO x k = some r) (e : x = some (a, b)) : k a b = some r := by rw [e] at h; exact h
theorem gd_e {α : Type} {c : Prop} [Decidable c] {x : Option α} (h : c) : gd c x = x := if_pos h
theorem gd_c {α : Type} {c : Prop} [Decidable c] {x : Option α} {r : α} (h : gd c x = some r) : c := by
  by_cases hc : c
  · exact hc
  · rw [show gd c x = none from if_neg hc] at h; cases h
abbrev vi (x : Int32) (n : Nat) : Prop := 0 ≤ x.toInt ∧ x.toInt < n
theorem vi_in {x : Int32} {n : Nat} (h : vi x n) : vp_in x n := (vp_in_iff).2 h
theorem vi_of {x : Int32} {n : Nat} (h : vp_in x n) : vi x n := (vp_in_iff).1 h
theorem i_sw {x v : Int32} (h : x.toInt = v.toInt) : x = v := Int32.toInt_inj.1 h
theorem i_sw_x {x v w : Int32} (h : x.toInt = v.toInt) (n : v.toInt ≠ w.toInt) : ¬ x = w := fun e => n (by rw [← h, e])
theorem i_sw_n {x v : Int32} (h : ¬ x.toInt = v.toInt) : ¬ x = v := fun e => h (by rw [e])
theorem i_sw_d {x v : Int32} {lo hi : Int} (h : x.toInt < lo ∨ hi < x.toInt) (n : ¬ (v.toInt < lo ∨ hi < v.toInt)) : ¬ x = v := fun e => n (by rw [← e]; exact h)
def f_4001  (s : Sx) : Sx :=
  bS (sB s 5 []) fun s1 =>
  bS (sB s1 6 []) fun s2 =>
  bS (sB s2 7 []) fun s3 =>
  bS (sB s3 8 []) fun s4 =>
  bS (sB s4 9 []) fun s5 =>
  bS (sB s5 10 []) fun s6 =>
  bS (sB s6 11 []) fun s7 =>
  bS (sB s7 12 []) fun s8 =>
  bS (sV s8 0 0) fun s9 =>
  s9
def f_4002 (x0 : Int32) (s : Sx) : Sx × Int32 :=
  bS (sB s 5 (xadd (ev_cap 5) (s.1 5) x0)) fun s1 =>
  bS (sB s1 6 (xadd (ev_cap 6) (s1.1 6) x0)) fun s2 =>
  (s2, ((nI (s2.1 5).length) - 1))
def f_4003 (x0 : Int32) (x1 : Int32) (s : Sx) : Sx :=
  bS (sB s 6 (xset (s.1 6) x0 x1)) fun s1 =>
  s1
def f_4004  (s : Sx) : Int32 :=
  (nI (s.1 5).length)
def f_4005 (x0 : Int32) (x1 : Int32) (s : Sx) : Sx × Int32 :=
  bS (sB s 7 (xadd (ev_cap 7) (s.1 7) x0)) fun s1 =>
  bS (sB s1 8 (xadd (ev_cap 8) (s1.1 8) x1)) fun s2 =>
  (s2, ((nI (s2.1 7).length) - 1))
def f_4006  (s : Sx) : Int32 :=
  (nI (s.1 7).length)
def f_4007 (x0 : Int32) (s : Sx) : Int32 :=
  (xg (s.1 7) x0)
def f_4008 (x0 : Int32) (s : Sx) : Int32 :=
  (xg (s.1 8) x0)
def f_4009 (x0 : Int32) (x1 : Int32) (s : Sx) : Sx :=
  bS (sB s 8 (xset (s.1 8) x0 x1)) fun s1 =>
  s1
def f_4010 (x0 : Int32) (s : Sx) : Sx × Int32 :=
  bS (sB s 9 (xadd (ev_cap 9) (s.1 9) x0)) fun s1 =>
  bS (sB s1 10 (xadd (ev_cap 10) (s1.1 10) 0)) fun s2 =>
  bS (sB s2 11 (xadd (ev_cap 11) (s2.1 11) 0)) fun s3 =>
  bS (sB s3 12 (xadd (ev_cap 12) (s3.1 12) 0)) fun s4 =>
  (s4, ((nI (s4.1 9).length) - 1))
def f_4011 (x0 : Int32) (x1 : Int32) (x2 : Int32) (x3 : Int32) (s : Sx) : Sx :=
  bS (sB s 10 (xset (s.1 10) x0 x1)) fun s1 =>
  bS (sB s1 11 (xset (s1.1 11) x0 x2)) fun s2 =>
  bS (sB s2 12 (xset (s2.1 12) x0 x3)) fun s3 =>
  s3
def f_4012 (x0 : Int32) (s : Sx) : Int32 :=
  (xpos (s.1 9) x0)
def f_4013 (x0 : Int32) (s : Sx) : Int32 :=
  (xg (s.1 10) x0)
def f_4014 (x0 : Int32) (s : Sx) : Int32 :=
  (xg (s.1 11) x0)
def f_4015 (x0 : Int32) (s : Sx) : Int32 :=
  (xg (s.1 12) x0)
def f_7001 (x0 : Int32) (x1 : Int32) (x2 : Int32) (s : Sx) : Sx :=
  bS (sB s 18 []) fun s1 =>
  bS (sB s1 19 (List.replicate (ev_cap 19) 0)) fun s2 =>
  bS (sB s2 20 (List.replicate (ev_cap 20) 0)) fun s3 =>
  bS (sB s3 21 []) fun s4 =>
  bS (sV s4 6 x0) fun s5 =>
  bS (sV s5 7 x1) fun s6 =>
  bS (sV s6 8 x2) fun s7 =>
  bS (sV s7 9 0) fun s8 =>
  bS (sV s8 10 (-1)) fun s9 =>
  s9
def f_7002  (s : Sx) : Int32 :=
  if (s.2 10) = (-1) then
    1
  else
    0
def f_7003  (s : Sx) : Int32 :=
  (s.2 10)
def f_7004  (s : Sx) : Int32 :=
  (s.2 6)
def f_7005  (s : Sx) : Int32 :=
  (nI (s.1 18).length)
def f_7006 (x0 : Int32) (s : Sx) : Int32 :=
  (xg (s.1 18) x0)
def f_7007 (x0 : Int32) (s : Sx) : Int32 :=
  (xg (s.1 19) x0)
def f_7008 (x0 : Int32) (s : Sx) : Sx :=
  if (s.2 10) = (-1) then
    bS (sV s 10 x0) fun s2 =>
    s2
  else
    s
def f_7009  (s : Sx) : Sx × Int32 :=
  if 1 ≤ (s.2 6) then
    bS (sV s 6 ((s.2 6) - 1)) fun s2 =>
    (s2, (f_7002 s2))
  else
    bS (f_7008 1 s) fun s4 =>
    (s4, (f_7002 s4))
def f_7010  (s : Sx) : Sx × Int32 :=
  bT (f_7009 s) fun s1 r1 =>
  if r1 = 0 then
    (s1, 0)
  else
    bS (sV s1 9 ((s1.2 9) + 1)) fun s3 =>
    if (s3.2 9) ≤ 2 then
      if (s3.2 9) = 1 then
        (s3, (s3.2 7))
      else
        (s3, (s3.2 8))
    else
      bS (f_7008 5 s3) fun s6 =>
      (s6, 0)
def f_7011 (x0 : Int32) (s : Sx) : Sx :=
  if (nI (s.1 18).length) < 8 then
    bS (sB s 18 (xadd (ev_cap 18) (s.1 18) x0)) fun s3 =>
    s3
  else
    bS (f_7008 6 s) fun s4 =>
    s4
def f_7012_J10  (l1 : Int32) (l2 : Int32) (s : Sx) : Sx :=
  bS (f_7008 4 s) fun s1 =>
  s1
def f_7012 (x0 : Int32) (x1 : Int32) (s : Sx) : Sx :=
  if x0 < 0 then
    f_7012_J10 x0 x1 s
  else
    if x0 < 32 then
      bS (sB s 19 (xset (s.1 19) x0 x1)) fun s4 =>
      s4
    else
      f_7012_J10 x0 x1 s
def f_7013 (x0 : Int32) (s : Sx) : Int32 :=
  (xg (s.1 20) (((nI (s.1 21).length) * 8) + x0))
def f_7014 (x0 : Int32) (x1 : Int32) (s : Sx) : Sx :=
  bS (sB s 20 (xset (s.1 20) (((nI (s.1 21).length) * 8) + x0) x1)) fun s2 =>
  s2
def f_7015_L39  : Nat → Int32 → Int32 → Sx → Option (Sx × Int32)
  | 0, _, _, _ => none
  | n + 1, l1, l2, s =>
    if 8 ≤ l2 then
      some (s, 1)
    else
      bS (f_7014 l2 0 s) fun s2 =>
      f_7015_L39 n l1 (l2 + 1) s2
def f_7015 (x0 : Int32) (s : Sx) : Option (Sx × Int32) :=
  bT (f_7009 s) fun s3 r3 =>
  if r3 = 0 then
    some (s3, 0)
  else
    if (nI (s3.1 21).length) < 10 then
      bS (sB s3 21 (xadd (ev_cap 21) (s3.1 21) x0)) fun s7 =>
      f_7015_L39 20 x0 0 s7
    else
      bS (f_7008 7 s3) fun s8 =>
      some (s8, 0)
def f_7016  (s : Sx) : Sx × Int32 :=
  bT (sB s 21 (s.1 21).dropLast, xlast (s.1 21)) fun s1 r1 =>
  (s1, r1)
def f_7019_J16  (l1 : Int64) (s : Sx) : Sx × Int32 :=
  bS (f_7008 2 s) fun s1 =>
  (s1, 0)
def f_7019 (x0 : Int64) (s : Sx) : Sx × Int32 :=
  if (lg_cmp x0 (-2147483648)) < 0 then
    f_7019_J16 x0 s
  else
    if (lg_cmp x0 2147483647) ≤ 0 then
      (s, x0.toInt32)
    else
      f_7019_J16 x0 s
def f_7017_J69  (l1 : Int32) (l2 : Int32) (s : Sx) : Sx × Int32 :=
  (s, (xg (s.1 19) l2))
def f_7017_J64  (l1 : Int32) (l2 : Int32) (s : Sx) : Sx × Int32 :=
  bS (f_7008 4 s) fun s2 =>
  f_7017_J69 l1 l2 s2
def f_7017 (x0 : Int32) (x1 : Int32) (s : Sx) : Sx × Int32 :=
  bT (f_7009 s) fun s3 r3 =>
  if r3 = 0 then
    (s3, 0)
  else
    if x0 = 25 then
      if x1 = 0 then
        (s3, 1)
      else
        (s3, 0)
    else if x0 = 36 then
      bT (f_7019 (-x1.toInt64) s3) fun s7 r7 =>
      (s7, r7)
    else
      if x1 < 0 then
        f_7017_J64 x0 x1 s3
      else
        if x1 < 32 then
          f_7017_J69 x0 x1 s3
        else
          f_7017_J64 x0 x1 s3
def f_7018_J94  (l1 : Int32) (l2 : Int32) (l3 : Int32) (s : Sx) : Sx × Int32 :=
  if l3 = 0 then
    bS (f_7008 3 s) fun s5 =>
    (s5, 0)
  else
    if l1 = 15 then
      bT (f_7019 (l2.toInt64 / l3.toInt64) s) fun s4 r4 =>
      (s4, r4)
    else
      bT (f_7019 (l2.toInt64 - l2.toInt64 / l3.toInt64 * l3.toInt64) s) fun s3 r3 =>
      (s3, r3)
def f_7018 (x0 : Int32) (x1 : Int32) (x2 : Int32) (s : Sx) : Sx × Int32 :=
  bT (f_7009 s) fun s6 r6 =>
  if r6 = 0 then
    (s6, 0)
  else
    if x0 = 12 then
      bT (f_7019 (x1.toInt64 + x2.toInt64) s6) fun s10 r10 =>
      (s10, r10)
    else if x0 = 13 then
      bT (f_7019 (x1.toInt64 - x2.toInt64) s6) fun s11 r11 =>
      (s11, r11)
    else if x0 = 14 then
      bT (f_7019 (x1.toInt64 * x2.toInt64) s6) fun s12 r12 =>
      (s12, r12)
    else if x0 = 15 then
      f_7018_J94 x0 x1 x2 s6
    else if x0 = 16 then
      f_7018_J94 x0 x1 x2 s6
    else if x0 = 17 then
      if x2 ≤ x1 then
        (s6, 0)
      else
        (s6, 1)
    else if x0 = 18 then
      if x2 < x1 then
        (s6, 0)
      else
        (s6, 1)
    else if x0 = 19 then
      if x1 ≤ x2 then
        (s6, 0)
      else
        (s6, 1)
    else if x0 = 20 then
      if x1 < x2 then
        (s6, 0)
      else
        (s6, 1)
    else if x0 = 21 then
      if x1 = x2 then
        (s6, 1)
      else
        (s6, 0)
    else
      if x1 = x2 then
        (s6, 0)
      else
        (s6, 1)
def f_9002  (s : Sx) : Int32 :=
  ((nI (s.1 0).length) - 1)
def f_9003 (x0 : Int32) (s : Sx) : Int32 :=
  if x0 = 12 then
    5
  else if x0 = 13 then
    5
  else if x0 = 14 then
    6
  else if x0 = 15 then
    6
  else if x0 = 16 then
    6
  else if x0 = 17 then
    4
  else if x0 = 18 then
    4
  else if x0 = 19 then
    4
  else if x0 = 20 then
    4
  else if x0 = 21 then
    3
  else if x0 = 22 then
    3
  else if x0 = 23 then
    2
  else if x0 = 24 then
    1
  else if x0 = 25 then
    7
  else if x0 = 26 then
    7
  else if x0 = 27 then
    0
  else if x0 = 28 then
    0
  else if x0 = 29 then
    0
  else if x0 = 30 then
    0
  else if x0 = 31 then
    0
  else if x0 = 32 then
    0
  else if x0 = 33 then
    0
  else if x0 = 34 then
    0
  else if x0 = 35 then
    0
  else if x0 = 36 then
    7
  else
    0
def f_9004 (x0 : Int32) (x1 : Int32) (x2 : Int32) (s : Sx) : Sx :=
  bS (sB s 0 (xadd (ev_cap 0) (s.1 0) x0)) fun s1 =>
  bS (sB s1 1 (xadd (ev_cap 1) (s1.1 1) x1)) fun s2 =>
  bS (sB s2 2 (xadd (ev_cap 2) (s2.1 2) x2)) fun s3 =>
  s3
def f_9012 (x0 : Int32) (x1 : Int32) (s : Sx) : Int32 :=
  if x1 = 61 then
    if x0 = 60 then
      18
    else
      if x0 = 62 then
        20
      else
        if x0 = 61 then
          21
        else
          if x0 = 33 then
            22
          else
            1
  else
    if x0 = x1 then
      if x0 = 38 then
        23
      else
        if x0 = 124 then
          24
        else
          1
    else
      1
def f_9013 (x0 : Int32) (s : Sx) : Int32 :=
  if x0 = 33 then
    25
  else if x0 = 35 then
    26
  else if x0 = 37 then
    16
  else if x0 = 40 then
    28
  else if x0 = 41 then
    29
  else if x0 = 42 then
    14
  else if x0 = 43 then
    12
  else if x0 = 44 then
    32
  else if x0 = 45 then
    13
  else if x0 = 47 then
    15
  else if x0 = 59 then
    33
  else if x0 = 60 then
    17
  else if x0 = 61 then
    27
  else if x0 = 62 then
    19
  else if x0 = 123 then
    30
  else if x0 = 125 then
    31
  else
    1
def f_9014 (x0 : Int32) (s : Sx) : Int32 :=
  if x0 < 48 then
    0
  else
    if 57 < x0 then
      0
    else
      1
def f_9015 (x0 : Int32) (s : Sx) : Int32 :=
  if x0 < 97 then
    0
  else
    if 122 < x0 then
      0
    else
      1
def f_9008_L13  : Nat → Int32 → Int32 → Nat → Int32 → Sx → Option Int32
  | 0, _, _, _, _, _ => none
  | n + 1, l1, l2, l3, l4, s =>
    if (Int32.ofNat (ab_tx l3).length) ≤ l4 then
      some 1
    else
      gd (vi l4 (ab_tx l3).length) <|
      if (xg (s.1 25) (l1 + l4)) = ((ab_tx l3).getD l4.toNatClampNeg 0) then
        f_9008_L13 n l1 l2 l3 (l4 + 1) s
      else
        some 0
def f_9008 (x1 : Int32) (x2 : Int32) (x3 : Nat) (s : Sx) : Option Int32 :=
  if x2 = (Int32.ofNat (ab_tx x3).length) then
    f_9008_L13 20 x1 x2 x3 0 s
  else
    some 0
def f_9007 (x1 : Int32) (x2 : Int32) (s : Sx) : Option Int32 :=
  bP (f_9008 x1 x2 0 s) fun r1 =>
  if r1 = 0 then
    bP (f_9008 x1 x2 1 s) fun r3 =>
    if r3 = 0 then
      bP (f_9008 x1 x2 2 s) fun r5 =>
      if r5 = 0 then
        bP (f_9008 x1 x2 3 s) fun r7 =>
        if r7 = 0 then
          bP (f_9008 x1 x2 4 s) fun r9 =>
          if r9 = 0 then
            bP (f_9008 x1 x2 5 s) fun r11 =>
            if r11 = 0 then
              bP (f_9008 x1 x2 6 s) fun r13 =>
              if r13 = 0 then
                some 4
              else
                some 11
            else
              some 10
          else
            some 9
        else
          some 8
      else
        some 7
    else
      some 6
  else
    some 5
def f_9010_L3  : Nat → Int32 → Int32 → Int32 → Int32 → Sx → Option Int32
  | 0, _, _, _, _, _ => none
  | n + 1, l1, l2, l3, l4, s =>
    if l3 ≤ l4 then
      some 1
    else
      if (xg (s.1 25) (l1 + l4)) = (xg (s.1 25) (l2 + l4)) then
        f_9010_L3 n l1 l2 l3 (l4 + 1) s
      else
        some 0
def f_9010 (x1 : Int32) (x2 : Int32) (x3 : Int32) (s : Sx) : Option Int32 :=
  f_9010_L3 400 x1 x2 x3 0 s
def f_9009_L3  : Nat → Int32 → Int32 → Int32 → Sx → Option (Sx × Int32)
  | 0, _, _, _, _ => none
  | n + 1, l2, l3, l4, s =>
    if (nI (s.1 3).length) ≤ l4 then
      bS (sB s 3 (xadd (ev_cap 3) (s.1 3) l2)) fun s3 =>
      bS (sB s3 4 (xadd (ev_cap 4) (s3.1 4) l3)) fun s4 =>
      some (s4, ((nI (s4.1 3).length) - 1))
    else
      if (xg (s.1 4) l4) = l3 then
        bP (f_9010 (xg (s.1 3) l4) l2 l3 s) fun r9 =>
        if r9 = 0 then
          f_9009_L3 n l2 l3 (l4 + 1) s
        else
          some (s, l4)
      else
        f_9009_L3 n l2 l3 (l4 + 1) s
def f_9009 (x1 : Int32) (x2 : Int32) (s : Sx) : Option (Sx × Int32) :=
  f_9009_L3 400 x1 x2 0 s
def f_9005_J70  (l2 : Int32) (l3 : Int64) (l5 : Int32) (k0 : Int32) (s : Sx) : Option (Sx × Int32) :=
  bS (f_9004 k0 l3.toInt32 l2 s) fun s1 =>
  some (s1, l5)
def f_9005_J56  (l2 : Int32) (l3 : Int64) (l5 : Int32) (s : Sx) : Option (Sx × Int32) :=
  if (lg_cmp l3 2147483647) ≤ 0 then
    f_9005_J70 l2 l3 l5 3 s
  else
    f_9005_J70 l2 l3 l5 2 s
def f_9005_L5  : Nat → Int32 → Int64 → Int32 → Sx → Option (Sx × Int32)
  | 0, _, _, _, _ => none
  | n + 1, l2, l3, l5, s =>
    if (nI (s.1 25).length) ≤ l5 then
      f_9005_J56 l2 l3 l5 s
    else
      if (f_9014 (xg (s.1 25) l5) s) = 0 then
        f_9005_J56 l2 l3 l5 s
      else
        f_9005_L5 n l2 (if 2147483648 < (((l3 * 10) + (xg (s.1 25) l5).toInt64) - 48) then 2147483648 else (((l3 * 10) + (xg (s.1 25) l5).toInt64) - 48)) (l5 + 1) s
def f_9005 (x1 : Int32) (s : Sx) : Option (Sx × Int32) :=
  f_9005_L5 400 x1 0 x1 s
def f_9006_J27  (l2 : Int32) (l3 : Int32) (s : Sx) : Option (Sx × Int32) :=
  bP (f_9007 l2 (l3 - l2) s) fun r1 =>
  if r1 = 4 then
    bO (f_9009 l2 (l3 - l2) s) fun s4 r4 =>
    bS (f_9004 r1 r4 l2 s4) fun s5 =>
    some (s5, l3)
  else
    bS (f_9004 r1 0 l2 s) fun s3 =>
    some (s3, l3)
def f_9006_L2  : Nat → Int32 → Int32 → Sx → Option (Sx × Int32)
  | 0, _, _, _ => none
  | n + 1, l2, l3, s =>
    if (nI (s.1 25).length) ≤ l3 then
      f_9006_J27 l2 l3 s
    else
      if (f_9015 (xg (s.1 25) l3) s) = 0 then
        f_9006_J27 l2 l3 s
      else
        f_9006_L2 n l2 (l3 + 1) s
def f_9006 (x1 : Int32) (s : Sx) : Option (Sx × Int32) :=
  f_9006_L2 400 x1 x1 s
def f_9011 (x1 : Int32) (s : Sx) : Sx × Int32 :=
  if (f_9012 (xg (s.1 25) x1) (xg (s.1 25) (x1 + 1)) s) = 1 then
    bS (f_9004 (f_9013 (xg (s.1 25) x1) s) 0 x1 s) fun s7 =>
    (s7, (x1 + 1))
  else
    bS (f_9004 (f_9012 (xg (s.1 25) x1) (xg (s.1 25) (x1 + 1)) s) 0 x1 s) fun s8 =>
    (s8, (x1 + 2))
def f_9001_J130  (l2 : Int32) (l3 : Int32) (s : Sx) : Option Sx :=
  bS (f_9004 0 0 (nI (s.1 25).length) s) fun s2 =>
  some s2
def f_9001_L39  : Nat → Int32 → Int32 → Sx → Option Sx
  | 0, _, _, _ => none
  | n + 1, l2, l3, s =>
    if 300 ≤ l3 then
      f_9001_J130 l2 l3 s
    else
      if (nI (s.1 25).length) ≤ l2 then
        f_9001_J130 l2 l3 s
      else
        if (xg (s.1 25) l2) = 32 then
          f_9001_L39 n (l2 + 1) (l3 + 1) s
        else
          if (xg (s.1 25) l2) = 10 then
            f_9001_L39 n (l2 + 1) (l3 + 1) s
          else
            if (f_9014 (xg (s.1 25) l2) s) = 0 then
              if (f_9015 (xg (s.1 25) l2) s) = 0 then
                bT (f_9011 l2 s) fun s13 r13 =>
                f_9001_L39 n r13 (l3 + 1) s13
              else
                bO (f_9006 l2 s) fun s14 r14 =>
                f_9001_L39 n r14 (l3 + 1) s14
            else
              bO (f_9005 l2 s) fun s15 r15 =>
              f_9001_L39 n r15 (l3 + 1) s15
def f_9001  (s : Sx) : Option Sx :=
  bS (sB s 0 []) fun s16 =>
  bS (sB s16 1 []) fun s17 =>
  bS (sB s17 2 []) fun s18 =>
  bS (sB s18 3 []) fun s19 =>
  bS (sB s19 4 []) fun s20 =>
  f_9001_L39 400 0 0 s20
def f_3004_J34  (l1 : Int32) (l2 : Int32) (l3 : Int32) (k0 : Int32) (s : Sx) : Sx :=
  bS (sB s 22 (xadd (ev_cap 22) (s.1 22) k0)) fun s1 =>
  bS (sV s1 11 l2) fun s2 =>
  s2
def f_3004_J15  (l1 : Int32) (l2 : Int32) (k0 : Int32) (s : Sx) : Sx :=
  if k0 = l1 then
    if k0 = 0 then
      f_3004_J34 l1 l2 k0 0 s
    else
      f_3004_J34 l1 l2 k0 1 s
  else
    s
def f_3004 (x0 : Int32) (x1 : Int32) (s : Sx) : Sx :=
  bT (sB s 22 (s.1 22).dropLast, xlast (s.1 22)) fun s5 r5 =>
  if r5 = 0 then
    f_3004_J15 x0 x1 0 s5
  else
    f_3004_J15 x0 x1 1 s5
def f_3005_L25  : Nat → Int32 → Int32 → Sx → Option Sx
  | 0, _, _, _ => none
  | n + 1, l1, l2, s =>
    if l2 < 0 then
      bS (sV s 11 (f_4015 l1 s)) fun s3 =>
      some s3
    else
      bT (sB s 22 (s.1 22).dropLast, xlast (s.1 22)) fun s4 r4 =>
      bS (f_7014 l2 r4 s4) fun s5 =>
      f_3005_L25 n l1 (l2 + (-1)) s5
def f_3005 (x0 : Int32) (s : Sx) : Option Sx :=
  bO (f_7015 (s.2 11) s) fun s6 r6 =>
  if r6 = 0 then
    some s6
  else
    f_3005_L25 400 x0 ((f_4013 x0 s6) - 1) s6
def f_3002 (x0 : Int32) (x1 : Int32) (s : Sx) : Sx :=
  if x0 = 0 then
    bT (f_7009 s) fun s6 r6 =>
    s6
  else if x0 = 1 then
    bS (sB s 22 (xadd (ev_cap 22) (s.1 22) x1)) fun s7 =>
    s7
  else if x0 = 2 then
    bS (sB s 22 (xadd (ev_cap 22) (s.1 22) (f_7013 x1 s))) fun s9 =>
    s9
  else if x0 = 3 then
    bT (sB s 22 (s.1 22).dropLast, xlast (s.1 22)) fun s10 r10 =>
    bS (f_7014 x1 r10 s10) fun s11 =>
    s11
  else if x0 = 4 then
    bT (sB s 22 (s.1 22).dropLast, xlast (s.1 22)) fun s12 r12 =>
    bT (sB s12 22 (s12.1 22).dropLast, xlast (s12.1 22)) fun s13 r13 =>
    bS (f_7012 r13 r12 s13) fun s14 =>
    s14
  else if x0 = 5 then
    bT (f_7010 s) fun s15 r15 =>
    bS (sB s15 22 (xadd (ev_cap 22) (s15.1 22) r15)) fun s16 =>
    s16
  else if x0 = 6 then
    bT (sB s 22 (s.1 22).dropLast, xlast (s.1 22)) fun s17 r17 =>
    bS (f_7011 r17 s17) fun s18 =>
    s18
  else if x0 = 7 then
    bT (sB s 22 (s.1 22).dropLast, xlast (s.1 22)) fun s19 r19 =>
    s19
  else if x0 = 8 then
    bT (sB s 22 (s.1 22).dropLast, xlast (s.1 22)) fun s20 r20 =>
    bT (f_7017 x1 r20 s20) fun s21 r21 =>
    bS (sB s21 22 (xadd (ev_cap 22) (s21.1 22) r21)) fun s22 =>
    s22
  else if x0 = 9 then
    bT (sB s 22 (s.1 22).dropLast, xlast (s.1 22)) fun s23 r23 =>
    bT (sB s23 22 (s23.1 22).dropLast, xlast (s23.1 22)) fun s24 r24 =>
    bT (f_7018 x1 r24 r23 s24) fun s25 r25 =>
    bS (sB s25 22 (xadd (ev_cap 22) (s25.1 22) r25)) fun s26 =>
    s26
  else
    bT (sB s 22 (s.1 22).dropLast, xlast (s.1 22)) fun s2 r2 =>
    if r2 = 0 then
      bS (sB s2 22 (xadd (ev_cap 22) (s2.1 22) 0)) fun s5 =>
      s5
    else
      bS (sB s2 22 (xadd (ev_cap 22) (s2.1 22) 1)) fun s4 =>
      s4
def f_3003_J40  (l1 : Int32) (l2 : Int32) (s : Sx) : Option Sx :=
  bT (f_7009 s) fun s1 r1 =>
  if r1 = 0 then
    some s1
  else
    if l1 = 12 then
      bS (f_3004 1 l2 s1) fun s5 =>
      some s5
    else
      bS (f_3004 0 l2 s1) fun s4 =>
      some s4
def f_3003 (x0 : Int32) (x1 : Int32) (s : Sx) : Option Sx :=
  if x0 = 11 then
    f_3003_J40 x0 x1 s
  else if x0 = 12 then
    f_3003_J40 x0 x1 s
  else if x0 = 13 then
    bS (sV s 11 x1) fun s8 =>
    some s8
  else if x0 = 14 then
    bT (sB s 22 (s.1 22).dropLast, xlast (s.1 22)) fun s9 r9 =>
    if r9 = 0 then
      bS (sV s9 11 x1) fun s12 =>
      some s12
    else
      bS (sV s9 11 (s9.2 11)) fun s11 =>
      some s11
  else if x0 = 15 then
    bOv (f_3005 x1 s) fun s13 =>
    some s13
  else if x0 = 16 then
    bT (f_7016 s) fun s14 r14 =>
    bS (sV s14 11 r14) fun s15 =>
    some s15
  else
    bS (f_7008 0 s) fun s7 =>
    some s7
def f_3001_L37  : Nat → Int32 → Int32 → Int32 → Int32 → Sx → Option Sx
  | 0, _, _, _, _, _ => none
  | n + 1, l3, l4, l5, l6, s =>
    if 1000000 ≤ l6 then
      some s
    else
      if (f_7002 s) = 0 then
        some s
      else
        bS (sV s 11 ((s.2 11) + 1)) fun s6 =>
        if 11 ≤ (f_4007 (s.2 11) s) then
          bOv (f_3003 (f_4007 (s.2 11) s) (f_4008 (s.2 11) s) s6) fun s8 =>
          f_3001_L37 n l3 l4 l5 (l6 + 1) s8
        else
          bS (f_3002 (f_4007 (s.2 11) s) (f_4008 (s.2 11) s) s6) fun s9 =>
          f_3001_L37 n l3 l4 l5 (l6 + 1) s9
def f_3001 (x2 : Int32) (x3 : Int32) (x4 : Int32) (s : Sx) : Option Sx :=
  bS (f_7001 x2 x3 x4 s) fun s10 =>
  bS (sB s10 22 []) fun s11 =>
  bS (sV s11 11 0) fun s12 =>
  f_3001_L37 1000100 x2 x3 x4 0 s12
def f_10003  (s : Sx) : Sx :=
  bS (sB s 24 (xadd (ev_cap 24) (s.1 24) (s.2 12))) fun s1 =>
  bS (sV s1 13 1) fun s2 =>
  if (xg (s2.1 0) (s2.2 12)) = 34 then
    bS (sV s2 12 ((s2.2 12) + 2)) fun s8 =>
    s8
  else
    if (xg (s2.1 0) (s2.2 12)) = 35 then
      s2
    else
      bS (sV s2 12 ((s2.2 12) + 1)) fun s7 =>
      s7
def f_10006 (x0 : Int32) (s : Sx) : Sx :=
  bS (sB s 23 (xadd (ev_cap 23) (s.1 23) x0)) fun s1 =>
  bS (sV s1 12 ((s1.2 12) + 1)) fun s2 =>
  bS (sV s2 13 2) fun s3 =>
  s3
def f_10012  (s : Sx) : Int32 :=
  if (xg (s.1 0) (xg (s.1 1) (s.2 12))) = 6 then
    ((xg (s.1 1) (s.2 12)) + 2)
  else
    (xg (s.1 1) (s.2 12))
def f_10014  (s : Sx) : Sx :=
  bT (f_7016 s) fun s1 r1 =>
  bS (sV s1 12 r1) fun s2 =>
  bS (sV s2 13 2) fun s3 =>
  s3
def f_10013_L47  : Nat → Int32 → Int32 → Sx → Option Sx
  | 0, _, _, _ => none
  | n + 1, l1, l2, s =>
    if l2 < 0 then
      bS (sV s 12 ((f_4014 l1 s) + 1)) fun s3 =>
      bS (sV s3 13 0) fun s4 =>
      some s4
    else
      bT (sB s 23 (s.1 23).dropLast, xlast (s.1 23)) fun s5 r5 =>
      bS (f_7014 l2 r5 s5) fun s6 =>
      f_10013_L47 n l1 (l2 + (-1)) s6
def f_10013  (s : Sx) : Option Sx :=
  bT (sB s 24 (s.1 24).dropLast, xlast (s.1 24)) fun s7 r7 =>
  bO (f_7015 ((s7.2 12) + 1) s7) fun s9 r9 =>
  if r9 = 0 then
    some s9
  else
    f_10013_L47 400 (xg (s7.1 1) (r7 - 1)) ((f_4013 (xg (s7.1 1) (r7 - 1)) s9) - 1) s9
def f_10004  (s : Sx) : Sx :=
  if (xg (s.1 0) (xg (s.1 1) (s.2 12))) = 7 then
    bS (sV s 12 (xg (s.1 1) (s.2 12))) fun s4 =>
    s4
  else if (xg (s.1 0) (xg (s.1 1) (s.2 12))) = 10 then
    bS (sB s 23 (xadd (ev_cap 23) (s.1 23) 0)) fun s5 =>
    bS (f_10014 s5) fun s6 =>
    s6
  else
    bS (sV s 12 ((s.2 12) + 1)) fun s7 =>
    if (xg (s7.1 0) (s7.2 12)) = 6 then
      bS (sV s7 12 (xg (s7.1 1) ((s7.2 12) + 1))) fun s11 =>
      s11
    else
      s7
def f_10002  (s : Sx) : Sx :=
  if (xg (s.1 0) (s.2 12)) = 0 then
    bS (f_7008 0 s) fun s3 =>
    s3
  else if (xg (s.1 0) (s.2 12)) = 10 then
    bS (sV s 12 (xg (s.1 1) (s.2 12))) fun s5 =>
    s5
  else if (xg (s.1 0) (s.2 12)) = 31 then
    bS (f_10004 s) fun s6 =>
    s6
  else
    bT (f_7009 s) fun s7 r7 =>
    if r7 = 0 then
      s7
    else
      bS (f_10003 s7) fun s9 =>
      s9
def f_10005  (s : Sx) : Option Sx :=
  if (xg (s.1 0) (s.2 12)) = 3 then
    bS (f_10006 (xg (s.1 1) (s.2 12)) s) fun s4 =>
    some s4
  else if (xg (s.1 0) (s.2 12)) = 9 then
    bT (f_7010 s) fun s5 r5 =>
    bS (f_10006 r5 s5) fun s6 =>
    some s6
  else if (xg (s.1 0) (s.2 12)) = 34 then
    bS (f_10006 (f_7013 (xg (s.1 1) (s.2 12)) s) s) fun s9 =>
    some s9
  else if (xg (s.1 0) (s.2 12)) = 35 then
    bS (sB s 24 (xadd (ev_cap 24) (s.1 24) ((s.2 12) + 1))) fun s10 =>
    bS (sV s10 12 ((s10.2 12) + 2)) fun s11 =>
    if (xg (s11.1 0) (s11.2 12)) = 29 then
      bOv (f_10013 s11) fun s14 =>
      some s14
    else
      some s11
  else
    bS (sB s 24 (xadd (ev_cap 24) (s.1 24) (s.2 12))) fun s15 =>
    bS (sV s15 12 ((s15.2 12) + 1)) fun s16 =>
    some s16
def f_10008_J90  (k10 : Int32 → Int32 → Sx → Option Sx) (l1 : Int32) (l2 : Int32) (l3 : Int32) (l4 : Int32) (l5 : Int32) (s : Sx) : Option Sx :=
  if l5 = 0 then
    bS (sB s 23 (xadd (ev_cap 23) (s.1 23) 0)) fun s3 =>
    k10 l1 (l2 + (-1)) s3
  else
    bS (sB s 23 (xadd (ev_cap 23) (s.1 23) 1)) fun s2 =>
    k10 l1 (l2 + (-1)) s2
def f_10008_L10  : Nat → Int32 → Int32 → Sx → Option Sx
  | 0, _, _, _ => none
  | n + 1, l1, l2, s =>
    if l2 < 0 then
      some s
    else
      if (f_7002 s) = 0 then
        some s
      else
        if (f_9003 (xg (s.1 0) (xg (s.1 24) l2)) s) = 0 then
          some s
        else
          if l1 ≤ (f_9003 (xg (s.1 0) (xg (s.1 24) l2)) s) then
            bT (sB s 24 (s.1 24).dropLast, xlast (s.1 24)) fun s12 r12 =>
            bT (sB s12 23 (s12.1 23).dropLast, xlast (s12.1 23)) fun s13 r13 =>
            if (xg (s.1 0) (xg (s.1 24) l2)) = 23 then
              f_10008_J90 (f_10008_L10 n) l1 l2 (xg (s.1 0) (xg (s.1 24) l2)) (f_9003 (xg (s.1 0) (xg (s.1 24) l2)) s) r13 s13
            else
              if (xg (s.1 0) (xg (s.1 24) l2)) = 24 then
                f_10008_J90 (f_10008_L10 n) l1 l2 (xg (s.1 0) (xg (s.1 24) l2)) (f_9003 (xg (s.1 0) (xg (s.1 24) l2)) s) r13 s13
              else
                if (f_9003 (xg (s.1 0) (xg (s.1 24) l2)) s) = 7 then
                  bT (f_7017 (xg (s.1 0) (xg (s.1 24) l2)) r13 s13) fun s20 r20 =>
                  bS (sB s20 23 (xadd (ev_cap 23) (s20.1 23) r20)) fun s21 =>
                  f_10008_L10 n l1 (l2 + (-1)) s21
                else
                  bT (sB s13 23 (s13.1 23).dropLast, xlast (s13.1 23)) fun s17 r17 =>
                  bT (f_7018 (xg (s.1 0) (xg (s.1 24) l2)) r17 r13 s17) fun s18 r18 =>
                  bS (sB s18 23 (xadd (ev_cap 23) (s18.1 23) r18)) fun s19 =>
                  f_10008_L10 n l1 (l2 + (-1)) s19
          else
            some s
def f_10008 (x0 : Int32) (s : Sx) : Option Sx :=
  f_10008_L10 2000 x0 ((nI (s.1 24).length) - 1) s
def f_10009_J45  (l1 : Int32) (l2 : Int32) (k0 : Int32) (s : Sx) : Sx :=
  bS (sB s 23 (xadd (ev_cap 23) (s.1 23) k0)) fun s1 =>
  bS (sV s1 12 (xg (s1.1 1) (s1.2 12))) fun s3 =>
  s3
def f_10009_J26  (l1 : Int32) (k0 : Int32) (s : Sx) : Sx :=
  if k0 = l1 then
    if k0 = 0 then
      f_10009_J45 l1 k0 0 s
    else
      f_10009_J45 l1 k0 1 s
  else
    bS (sB s 24 (xadd (ev_cap 24) (s.1 24) (s.2 12))) fun s5 =>
    bS (sV s5 12 ((s5.2 12) + 1)) fun s6 =>
    bS (sV s6 13 1) fun s7 =>
    s7
def f_10009 (x0 : Int32) (s : Sx) : Sx :=
  bT (f_7009 s) fun s9 r9 =>
  if r9 = 0 then
    s9
  else
    bT (sB s9 23 (s9.1 23).dropLast, xlast (s9.1 23)) fun s11 r11 =>
    if r11 = 0 then
      f_10009_J26 x0 0 s11
    else
      f_10009_J26 x0 1 s11
def f_10011 (x0 : Int32) (x1 : Int32) (s : Sx) : Sx :=
  if (xg (s.1 0) x0) = 5 then
    if x1 = 0 then
      bS (sV s 12 (f_10012 s)) fun s5 =>
      s5
    else
      bS (sV s 12 ((s.2 12) + 1)) fun s6 =>
      s6
  else if (xg (s.1 0) x0) = 7 then
    if x1 = 0 then
      bS (sV s 12 (xg (s.1 1) (s.2 12))) fun s9 =>
      s9
    else
      bS (sV s 12 ((s.2 12) + 1)) fun s10 =>
      s10
  else if (xg (s.1 0) x0) = 8 then
    bS (f_7011 x1 s) fun s11 =>
    bS (sV s11 12 ((s11.2 12) + 1)) fun s12 =>
    s12
  else if (xg (s.1 0) x0) = 11 then
    bS (sB s 23 (xadd (ev_cap 23) (s.1 23) x1)) fun s13 =>
    bS (f_10014 s13) fun s14 =>
    s14
  else if (xg (s.1 0) x0) = 34 then
    bS (f_7014 (xg (s.1 1) x0) x1 s) fun s16 =>
    bS (sV s16 12 ((s16.2 12) + 1)) fun s17 =>
    s17
  else if (xg (s.1 0) x0) = 37 then
    bT (sB s 23 (s.1 23).dropLast, xlast (s.1 23)) fun s18 r18 =>
    bS (f_7012 r18 x1 s18) fun s19 =>
    bS (sV s19 12 ((s19.2 12) + 1)) fun s20 =>
    s20
  else
    bS (sV s 12 ((s.2 12) + 1)) fun s21 =>
    s21
def f_10010_J20  (l1 : Int32) (l2 : Int32) (s : Sx) : Option Sx :=
  bS (sV s 12 ((s.2 12) + 1)) fun s1 =>
  bS (sV s1 13 1) fun s2 =>
  some s2
def f_10010 (x0 : Int32) (s : Sx) : Option Sx :=
  if x0 = 32 then
    f_10010_J20 x0 (xlast (s.1 24)) s
  else
    if x0 = 27 then
      f_10010_J20 x0 (xlast (s.1 24)) s
    else
      if (xg (s.1 0) (xlast (s.1 24))) = 38 then
        bOv (f_10013 s) fun s15 =>
        some s15
      else
        bT (sB s 24 (s.1 24).dropLast, xlast (s.1 24)) fun s8 r8 =>
        if (xg (s8.1 0) (xlast (s.1 24))) = 28 then
          bS (sV s8 12 ((s8.2 12) + 1)) fun s14 =>
          some s14
        else
          bS (sV s8 13 0) fun s11 =>
          bT (sB s11 23 (s11.1 23).dropLast, xlast (s11.1 23)) fun s12 r12 =>
          bS (f_10011 (xlast (s.1 24)) r12 s12) fun s13 =>
          some s13
def f_10007_J60  (l1 : Int32) (l2 : Int32) (s : Sx) : Option Sx :=
  if l1 = 24 then
    bS (f_10009 1 s) fun s3 =>
    some s3
  else
    bS (f_10009 0 s) fun s2 =>
    some s2
def f_10007  (s : Sx) : Option Sx :=
  bOv (f_10008 (f_9003 (xg (s.1 0) (s.2 12)) s) s) fun s6 =>
  if (f_7002 s6) = 0 then
    some s6
  else
    if (f_9003 (xg (s.1 0) (s.2 12)) s) = 0 then
      bOv (f_10010 (xg (s.1 0) (s.2 12)) s6) fun s15 =>
      some s15
    else
      if (xg (s.1 0) (s.2 12)) = 23 then
        f_10007_J60 (xg (s.1 0) (s.2 12)) (f_9003 (xg (s.1 0) (s.2 12)) s) s6
      else
        if (xg (s.1 0) (s.2 12)) = 24 then
          f_10007_J60 (xg (s.1 0) (s.2 12)) (f_9003 (xg (s.1 0) (s.2 12)) s) s6
        else
          bS (sB s6 24 (xadd (ev_cap 24) (s6.1 24) (s6.2 12))) fun s12 =>
          bS (sV s12 12 ((s12.2 12) + 1)) fun s13 =>
          bS (sV s13 13 1) fun s14 =>
          some s14
def f_10001_L57  : Nat → Int32 → Int32 → Int32 → Int32 → Sx → Option Sx
  | 0, _, _, _, _, _ => none
  | n + 1, l3, l4, l5, l6, s =>
    if 1000000 ≤ l6 then
      some s
    else
      if (f_7002 s) = 0 then
        some s
      else
        if (s.2 13) = 0 then
          bS (f_10002 s) fun s8 =>
          f_10001_L57 n l3 l4 l5 (l6 + 1) s8
        else
          if (s.2 13) = 1 then
            bOv (f_10005 s) fun s7 =>
            f_10001_L57 n l3 l4 l5 (l6 + 1) s7
          else
            bOv (f_10007 s) fun s6 =>
            f_10001_L57 n l3 l4 l5 (l6 + 1) s6
def f_10001 (x2 : Int32) (x3 : Int32) (x4 : Int32) (s : Sx) : Option Sx :=
  bS (f_7001 x2 x3 x4 s) fun s9 =>
  bS (sB s9 23 []) fun s10 =>
  bS (sB s10 24 []) fun s11 =>
  bS (sV s11 12 0) fun s12 =>
  bS (sV s12 13 0) fun s13 =>
  f_10001_L57 1000100 x2 x3 x4 0 s13
def f_5003  (s : Sx) : Int32 :=
  (xg (s.1 0) (s.2 2))
def f_5004  (s : Sx) : Nat :=
  if (s.2 5) = 0 then
    13
  else
    14
theorem f_names_lt (s : Sx) : f_5004 s < 26 := by
  unfold f_5004
  split <;> decide
def f_5005_J26  (l1 : Int32) (l2 : Int32) (s : Sx) : Sx :=
  bS (sV s 2 (s.2 3)) fun s1 =>
  s1
def f_5005 (x0 : Int32) (x1 : Int32) (s : Sx) : Sx :=
  if (s.2 0) = 0 then
    bS (sV s 0 x0) fun s3 =>
    bS (sV s3 1 x1) fun s4 =>
    f_5005_J26 x0 x1 s4
  else
    f_5005_J26 x0 x1 s
def f_5006 (x0 : Int32) (s : Sx) : Sx :=
  if (xg (s.1 0) (s.2 2)) = x0 then
    bS (sV s 2 ((s.2 2) + 1)) fun s4 =>
    s4
  else
    bS (f_5005 3 (s.2 2) s) fun s3 =>
    s3
def f_5007  (s : Sx) : Sx :=
  if (s.2 4) < 8 then
    bS (sV s 4 ((s.2 4) + 1)) fun s2 =>
    bS (sV s2 2 ((s2.2 2) + 1)) fun s3 =>
    s3
  else
    bS (f_5005 4 (s.2 2) s) fun s4 =>
    s4
def f_5002  (s : Sx) : Sx :=
  if (s.2 0) = 3 then
    if (xg (s.1 0) (s.2 1)) = 1 then
      bS (sV s 0 1) fun s7 =>
      s7
    else
      if (xg (s.1 0) (s.2 1)) = 2 then
        bS (sV s 0 2) fun s6 =>
        s6
      else
        bS (sV s 0 3) fun s5 =>
        s5
  else
    s
def f_5022_J67  (l1 : Nat) (l2 : Int32) (s : Sx) : Sx × Int32 :=
  bS (sB s 0 (xset (s.1 0) (s.2 2) 34)) fun s1 =>
  bS (sB s1 1 (xset (s1.1 1) (s1.2 2) l2)) fun s2 =>
  bS (sV s2 2 ((s2.2 2) + 1)) fun s3 =>
  (s3, l2)
def f_5022 (x0 : Nat) (s : Sx) : Sx × Int32 :=
  if (xpos (s.1 x0) (xg (s.1 1) (s.2 2))) = (-1) then
    if (nI (s.1 x0).length) < 8 then
      bS (sB s x0 (xadd (ev_cap x0) (s.1 x0) (xg (s.1 1) (s.2 2)))) fun s11 =>
      f_5022_J67 x0 (nI (s.1 x0).length) s11
    else
      bS (f_5005 5 (s.2 2) s) fun s12 =>
      (s12, 0)
  else
    f_5022_J67 x0 (xpos (s.1 x0) (xg (s.1 1) (s.2 2))) s
def f_5016  (s : Sx) : Sx :=
  if (f_5003 s) = 4 then
    if (xpos (s.1 14) (xg (s.1 1) (s.2 2))) = (-1) then
      bT (f_5022 14 s) fun s6 r6 =>
      s6
    else
      bS (f_5005 6 (s.2 2) s) fun s7 =>
      s7
  else
    bS (f_5005 3 (s.2 2) s) fun s8 =>
    s8
def f_5015_J81   (s : Sx) : Option Sx :=
  bS (f_5006 29 s) fun s1 =>
  bS (sV s1 4 ((s1.2 4) - 1)) fun s2 =>
  some s2
def f_5015_L45  : Nat → Int32 → Sx → Option Sx
  | 0, _, _ => none
  | n + 1, l1, s =>
    if 300 ≤ l1 then
      f_5015_J81  s
    else
      if (f_5003 s) = 32 then
        bS (sV s 2 ((s.2 2) + 1)) fun s6 =>
        bS (f_5016 s6) fun s7 =>
        f_5015_L45 n (l1 + 1) s7
      else
        f_5015_J81  s
def f_5015  (s : Sx) : Option Sx :=
  bS (sB s 14 []) fun s8 =>
  if (f_5003 s8) = 28 then
    bS (f_5007 s8) fun s11 =>
    if (f_5003 s11) = 29 then
      f_5015_J81  s11
    else
      bS (f_5016 s11) fun s14 =>
      f_5015_L45 400 0 s14
  else
    bS (f_5005 3 (s8.2 2) s8) fun s15 =>
    some s15
def f_5023_L2  : Nat → Int32 → Sx → Option Sx
  | 0, _, _ => none
  | n + 1, l1, s =>
    if (nI (s.1 15).length) ≤ l1 then
      some s
    else
      if (s.2 0) = 0 then
        if (f_4012 (xg (s.1 1) (xg (s.1 15) l1)) s) = (-1) then
          bS (f_5005 7 (xg (s.1 15) l1) s) fun s15 =>
          f_5023_L2 n (l1 + 1) s15
        else
          if (f_4013 (f_4012 (xg (s.1 1) (xg (s.1 15) l1)) s) s) = (xg (s.1 16) l1) then
            bS (sB s 1 (xset (s.1 1) (xg (s.1 15) l1) (f_4012 (xg (s.1 1) (xg (s.1 15) l1)) s))) fun s11 =>
            bS (f_4009 (xg (s11.1 17) l1) (f_4012 (xg (s.1 1) (xg (s.1 15) l1)) s) s11) fun s13 =>
            f_5023_L2 n (l1 + 1) s13
          else
            bS (f_5005 8 (xg (s.1 15) l1) s) fun s14 =>
            f_5023_L2 n (l1 + 1) s14
      else
        some s
def f_5023  (s : Sx) : Option Sx :=
  f_5023_L2 400 0 s
def f_5008_J234 (rec : Nat → Int32 → Sx → Option Sx)  (l1 : Int32) (l2 : Int32) (s : Sx) : Option Sx :=
  bS (f_4003 l1 (s.2 2) s) fun s1 =>
  some s1
def f_5008_J225 (rec : Nat → Int32 → Sx → Option Sx)  (l1 : Int32) (l2 : Int32) (s : Sx) : Option Sx :=
  bS (f_5005 3 (s.2 2) s) fun s2 =>
  f_5008_J234 rec l1 l2 s2
def f_5008_J39 (rec : Nat → Int32 → Sx → Option Sx)  (l1 : Int32) (l2 : Int32) (s : Sx) : Option Sx :=
  if l2 = 4 then
    bOv (rec 5009 0 s) fun s4 =>
    f_5008_J234 rec l1 l2 s4
  else if l2 = 5 then
    bOv (rec 5011 0 s) fun s5 =>
    f_5008_J234 rec l1 l2 s5
  else if l2 = 6 then
    f_5008_J225 rec l1 l2 s
  else if l2 = 7 then
    bOv (rec 5012 0 s) fun s6 =>
    f_5008_J234 rec l1 l2 s6
  else if l2 = 8 then
    bS (sV s 2 ((s.2 2) + 1)) fun s7 =>
    bOv (rec 5018 1 s7) fun s8 =>
    bT (f_4005 6 0 s8) fun s9 r9 =>
    bS (f_5006 33 s9) fun s10 =>
    f_5008_J234 rec l1 l2 s10
  else if l2 = 9 then
    f_5008_J225 rec l1 l2 s
  else if l2 = 10 then
    bOv (rec 5014 0 s) fun s11 =>
    f_5008_J234 rec l1 l2 s11
  else if l2 = 11 then
    bOv (rec 5013 0 s) fun s12 =>
    f_5008_J234 rec l1 l2 s12
  else if l2 = 12 then
    f_5008_J225 rec l1 l2 s
  else if l2 = 13 then
    f_5008_J225 rec l1 l2 s
  else if l2 = 14 then
    f_5008_J225 rec l1 l2 s
  else if l2 = 15 then
    f_5008_J225 rec l1 l2 s
  else if l2 = 16 then
    f_5008_J225 rec l1 l2 s
  else if l2 = 17 then
    f_5008_J225 rec l1 l2 s
  else if l2 = 18 then
    f_5008_J225 rec l1 l2 s
  else if l2 = 19 then
    f_5008_J225 rec l1 l2 s
  else if l2 = 20 then
    f_5008_J225 rec l1 l2 s
  else if l2 = 21 then
    f_5008_J225 rec l1 l2 s
  else if l2 = 22 then
    f_5008_J225 rec l1 l2 s
  else if l2 = 23 then
    f_5008_J225 rec l1 l2 s
  else if l2 = 24 then
    f_5008_J225 rec l1 l2 s
  else if l2 = 25 then
    f_5008_J225 rec l1 l2 s
  else if l2 = 26 then
    bOv (rec 5010 0 s) fun s13 =>
    f_5008_J234 rec l1 l2 s13
  else
    f_5008_J225 rec l1 l2 s
def f_5008 (rec : Nat → Int32 → Sx → Option Sx)  (s : Sx) : Option Sx :=
  bT (f_4002 (s.2 2) s) fun s14 r14 =>
  if (f_5003 s14) = 7 then
    f_5008_J39 rec r14 (f_5003 s14) s14
  else
    if (f_5003 s14) = 10 then
      f_5008_J39 rec r14 (f_5003 s14) s14
    else
      bT (f_4005 0 0 s14) fun s18 r18 =>
      f_5008_J39 rec r14 (f_5003 s14) s18
def f_5009 (rec : Nat → Int32 → Sx → Option Sx)  (s : Sx) : Option Sx :=
  if (xg (s.1 0) ((s.2 2) + 1)) = 28 then
    bOv (rec 5021 0 s) fun s9 =>
    bT (f_4005 7 0 s9) fun s10 r10 =>
    bS (f_5006 33 s10) fun s11 =>
    some s11
  else
    bT (f_5022 (f_5004 s) s) fun s4 r4 =>
    bS (f_5006 27 s4) fun s5 =>
    bOv (rec 5018 1 s5) fun s6 =>
    bT (f_4005 3 r4 s6) fun s7 r7 =>
    bS (f_5006 33 s7) fun s8 =>
    some s8
def f_5010 (rec : Nat → Int32 → Sx → Option Sx)  (s : Sx) : Option Sx :=
  bS (sB s 0 (xset (s.1 0) (s.2 2) 37)) fun s1 =>
  bS (f_5007 s1) fun s2 =>
  bOv (rec 5019 0 s2) fun s3 =>
  bS (sV s3 4 ((s3.2 4) - 1)) fun s4 =>
  bS (f_5006 27 s4) fun s5 =>
  bOv (rec 5018 1 s5) fun s6 =>
  bT (f_4005 4 0 s6) fun s7 r7 =>
  bS (f_5006 33 s7) fun s8 =>
  some s8
def f_5011 (rec : Nat → Int32 → Sx → Option Sx)  (s : Sx) : Option Sx :=
  bS (sV s 2 ((s.2 2) + 1)) fun s1 =>
  bOv (rec 5018 1 s1) fun s2 =>
  bT (f_4005 14 0 s2) fun s3 r3 =>
  bOv (rec 5017 (s.2 2) s3) fun s4 =>
  if (f_5003 s4) = 6 then
    bS (sV s4 2 ((s4.2 2) + 1)) fun s9 =>
    bT (f_4005 13 0 s9) fun s10 r10 =>
    bS (f_4009 r3 (f_4006 s10) s10) fun s12 =>
    bOv (rec 5017 (s4.2 2) s12) fun s13 =>
    bS (f_4009 r10 (f_4006 s13) s13) fun s15 =>
    some s15
  else
    bS (f_4009 r3 (f_4006 s4) s4) fun s8 =>
    some s8
def f_5012 (rec : Nat → Int32 → Sx → Option Sx)  (s : Sx) : Option Sx :=
  bS (sV s 2 ((s.2 2) + 1)) fun s1 =>
  bT (f_4005 0 0 s1) fun s2 r2 =>
  bOv (rec 5018 1 s2) fun s3 =>
  bT (f_4005 14 0 s3) fun s4 r4 =>
  bOv (rec 5017 (s.2 2) s4) fun s5 =>
  bT (f_4005 13 r2 s5) fun s6 r6 =>
  bS (f_4009 r4 (f_4006 s6) s6) fun s8 =>
  some s8
def f_5013 (rec : Nat → Int32 → Sx → Option Sx)  (s : Sx) : Option Sx :=
  if (s.2 5) = 0 then
    bS (f_5005 3 (s.2 2) s) fun s6 =>
    some s6
  else
    bS (sV s 2 ((s.2 2) + 1)) fun s2 =>
    bOv (rec 5018 1 s2) fun s3 =>
    bT (f_4005 16 0 s3) fun s4 r4 =>
    bS (f_5006 33 s4) fun s5 =>
    some s5
def f_5014 (rec : Nat → Int32 → Sx → Option Sx)  (s : Sx) : Option Sx :=
  if (s.2 4) ≤ 0 then
    bS (sV s 2 ((s.2 2) + 1)) fun s2 =>
    if (f_5003 s2) = 4 then
      if (f_4012 (xg (s2.1 1) (s2.2 2)) s2) = (-1) then
        bT (f_4010 (xg (s2.1 1) (s2.2 2)) s2) fun s9 r9 =>
        bS (sB s9 0 (xset (s9.1 0) (s9.2 2) 35)) fun s10 =>
        bS (sV s10 2 ((s10.2 2) + 1)) fun s11 =>
        bT (f_4005 13 0 s11) fun s12 r12 =>
        bOv (f_5015 s12) fun s13 =>
        bS (f_4011 r9 (nI (s13.1 14).length) (s13.2 2) (f_4006 s13) s13) fun s16 =>
        bS (sV s16 5 1) fun s17 =>
        bOv (rec 5017 (s.2 2) s17) fun s18 =>
        bS (sV s18 5 0) fun s19 =>
        bT (f_4005 1 0 s19) fun s20 r20 =>
        bT (f_4005 16 0 s20) fun s21 r21 =>
        bS (f_4009 r12 (f_4006 s21) s21) fun s23 =>
        bS (sB s23 1 (xset (s23.1 1) (s.2 2) (s23.2 2))) fun s24 =>
        some s24
      else
        bS (f_5005 6 (s2.2 2) s2) fun s25 =>
        some s25
    else
      bS (f_5005 3 (s2.2 2) s2) fun s26 =>
      some s26
  else
    bS (f_5005 3 (s.2 2) s) fun s27 =>
    some s27
def f_5019 (rec : Nat → Int32 → Sx → Option Sx)  (s : Sx) : Option Sx :=
  if (f_5003 s) = 3 then
    bT (f_4005 1 (xg (s.1 1) (s.2 2)) s) fun s4 r4 =>
    bS (sV s4 2 ((s4.2 2) + 1)) fun s5 =>
    some s5
  else if (f_5003 s) = 4 then
    if (xg (s.1 0) ((s.2 2) + 1)) = 28 then
      bOv (rec 5021 0 s) fun s11 =>
      some s11
    else
      bT (f_5022 (f_5004 s) s) fun s9 r9 =>
      bT (f_4005 2 r9 s9) fun s10 r10 =>
      some s10
  else if (f_5003 s) = 9 then
    bT (f_4005 5 0 s) fun s12 r12 =>
    bS (sV s12 2 ((s12.2 2) + 1)) fun s13 =>
    some s13
  else if (f_5003 s) = 13 then
    bS (sB s 0 (xset (s.1 0) (s.2 2) 36)) fun s14 =>
    bOv (rec 5020 0 s14) fun s15 =>
    some s15
  else if (f_5003 s) = 25 then
    bOv (rec 5020 0 s) fun s16 =>
    some s16
  else if (f_5003 s) = 26 then
    bOv (rec 5020 0 s) fun s17 =>
    some s17
  else if (f_5003 s) = 28 then
    bS (f_5007 s) fun s18 =>
    bOv (rec 5018 1 s18) fun s19 =>
    bS (f_5006 29 s19) fun s20 =>
    bS (sV s20 4 ((s20.2 4) - 1)) fun s21 =>
    some s21
  else
    bS (f_5005 3 (s.2 2) s) fun s22 =>
    some s22
def f_5020 (rec : Nat → Int32 → Sx → Option Sx)  (s : Sx) : Option Sx :=
  bS (f_5007 s) fun s2 =>
  bOv (rec 5019 0 s2) fun s3 =>
  bS (sV s3 4 ((s3.2 4) - 1)) fun s4 =>
  bT (f_4005 8 (f_5003 s) s4) fun s5 r5 =>
  some s5
def f_5021_J142 (rec : Nat → Int32 → Sx → Option Sx)  (l1 : Int32) (l2 : Int32) (s : Sx) : Option Sx :=
  bS (f_5006 29 s) fun s1 =>
  bS (sV s1 4 ((s1.2 4) - 1)) fun s2 =>
  bS (sB s2 16 (xset (s2.1 16) l1 l2)) fun s3 =>
  bT (f_4005 15 0 s3) fun s4 r4 =>
  bS (sB s4 17 (xset (s4.1 17) l1 r4)) fun s5 =>
  some s5
def f_5021_L102 (rec : Nat → Int32 → Sx → Option Sx)  : Nat → Int32 → Int32 → Int32 → Sx → Option Sx
  | 0, _, _, _, _ => none
  | n + 1, l1, l2, l3, s =>
    if 300 ≤ l3 then
      f_5021_J142 rec l1 l2 s
    else
      if (f_5003 s) = 32 then
        bS (sV s 2 ((s.2 2) + 1)) fun s9 =>
        bOv (rec 5018 1 s9) fun s10 =>
        f_5021_L102 rec n l1 (l2 + 1) (l3 + 1) s10
      else
        f_5021_J142 rec l1 l2 s
def f_5021 (rec : Nat → Int32 → Sx → Option Sx)  (s : Sx) : Option Sx :=
  bS (sB s 15 (xadd (ev_cap 15) (s.1 15) (s.2 2))) fun s12 =>
  bS (sB s12 16 (xadd (ev_cap 16) (s12.1 16) 0)) fun s13 =>
  bS (sB s13 17 (xadd (ev_cap 17) (s13.1 17) 0)) fun s14 =>
  bS (sB s14 0 (xset (s14.1 0) (s14.2 2) 35)) fun s15 =>
  bS (sV s15 2 ((s15.2 2) + 1)) fun s16 =>
  bS (sB s16 0 (xset (s16.1 0) (s16.2 2) 38)) fun s17 =>
  bS (f_5007 s17) fun s18 =>
  if (f_5003 s18) = 29 then
    f_5021_J142 rec (nI (s.1 15).length) 0 s18
  else
    bOv (rec 5018 1 s18) fun s21 =>
    f_5021_L102 rec 400 (nI (s.1 15).length) (0 + 1) 0 s21
def f_5017_J63 (rec : Nat → Int32 → Sx → Option Sx)  (l1 : Int32) (l2 : Int32) (l3 : Int32) (s : Sx) : Option Sx :=
  bS (sB s 1 (xset (s.1 1) l2 ((s.2 2) + 1))) fun s1 =>
  bS (sB s1 1 (xset (s1.1 1) (s1.2 2) l1)) fun s2 =>
  bS (f_5006 31 s2) fun s3 =>
  bS (sV s3 4 ((s3.2 4) - 1)) fun s4 =>
  some s4
def f_5017_L30 (rec : Nat → Int32 → Sx → Option Sx)  : Nat → Int32 → Int32 → Int32 → Sx → Option Sx
  | 0, _, _, _, _ => none
  | n + 1, l1, l2, l3, s =>
    if 300 ≤ l3 then
      f_5017_J63 rec l1 l2 l3 s
    else
      if (f_5003 s) = 31 then
        f_5017_J63 rec l1 l2 l3 s
      else
        if (f_5003 s) = 0 then
          f_5017_J63 rec l1 l2 l3 s
        else
          bOv (rec 5008 0 s) fun s10 =>
          f_5017_L30 rec n l1 l2 (l3 + 1) s10
def f_5017 (rec : Nat → Int32 → Sx → Option Sx) (x0 : Int32) (s : Sx) : Option Sx :=
  if (f_5003 s) = 30 then
    bS (f_5007 s) fun s13 =>
    f_5017_L30 rec 400 x0 (s.2 2) 0 s13
  else
    bS (f_5005 3 (s.2 2) s) fun s14 =>
    some s14
def f_5018_J91 (rec : Nat → Int32 → Sx → Option Sx)  (k20 : Int32 → Int32 → Sx → Option Sx) (l1 : Int32) (l2 : Int32) (l3 : Int32) (l4 : Int32) (k0 : Int32) (s : Sx) : Option Sx :=
  bT (f_4005 k0 0 s) fun s1 r1 =>
  bOv (rec 5018 (l1 + 1) s1) fun s2 =>
  bT (f_4005 10 0 s2) fun s3 r3 =>
  bS (f_4009 r1 (f_4006 s3) s3) fun s5 =>
  bS (sB s5 1 (xset (s5.1 1) l3 (s5.2 2))) fun s6 =>
  k20 l1 (l2 + 1) s6
def f_5018_J73 (rec : Nat → Int32 → Sx → Option Sx)  (k20 : Int32 → Int32 → Sx → Option Sx) (l1 : Int32) (l2 : Int32) (l3 : Int32) (l4 : Int32) (s : Sx) : Option Sx :=
  if l4 = 23 then
    f_5018_J91 rec k20 l1 l2 l3 l4 11 s
  else
    f_5018_J91 rec k20 l1 l2 l3 l4 12 s
def f_5018_L20 (rec : Nat → Int32 → Sx → Option Sx)  : Nat → Int32 → Int32 → Sx → Option Sx
  | 0, _, _, _ => none
  | n + 1, l1, l2, s =>
    if 300 ≤ l2 then
      some s
    else
      if (f_9003 (f_5003 s) s) = l1 then
        bS (sV s 2 ((s.2 2) + 1)) fun s13 =>
        if (f_5003 s) = 23 then
          f_5018_J73 rec (f_5018_L20 rec n) l1 l2 (s.2 2) (f_5003 s) s13
        else
          if (f_5003 s) = 24 then
            f_5018_J73 rec (f_5018_L20 rec n) l1 l2 (s.2 2) (f_5003 s) s13
          else
            bOv (rec 5018 (l1 + 1) s13) fun s16 =>
            bT (f_4005 9 (f_5003 s) s16) fun s17 r17 =>
            f_5018_L20 rec n l1 (l2 + 1) s17
      else
        some s
def f_5018 (rec : Nat → Int32 → Sx → Option Sx) (x0 : Int32) (s : Sx) : Option Sx :=
  if x0 < 7 then
    bOv (rec 5018 (x0 + 1) s) fun s19 =>
    f_5018_L20 rec 400 x0 0 s19
  else
    bOv (rec 5019 0 s) fun s20 =>
    some s20
def f_rd : Nat → Nat → Int32 → Sx → Option Sx
  | 0, _, _, _ => none
  | n + 1, y, a, s =>
  if y = 5008 then f_5008 (f_rd n) s
  else if y = 5009 then f_5009 (f_rd n) s
  else if y = 5010 then f_5010 (f_rd n) s
  else if y = 5011 then f_5011 (f_rd n) s
  else if y = 5012 then f_5012 (f_rd n) s
  else if y = 5013 then f_5013 (f_rd n) s
  else if y = 5014 then f_5014 (f_rd n) s
  else if y = 5019 then f_5019 (f_rd n) s
  else if y = 5020 then f_5020 (f_rd n) s
  else if y = 5021 then f_5021 (f_rd n) s
  else if y = 5017 then f_5017 (f_rd n) a s
  else if y = 5018 then f_5018 (f_rd n) a s
  else none
def f_5001_J100  (l2 : Int32) (s : Sx) : Option Sx :=
  bT (f_4005 17 0 s) fun s1 r1 =>
  bS (f_5002 s1) fun s2 =>
  bOv (f_5023 s2) fun s3 =>
  some s3
def f_5001_L76  : Nat → Int32 → Sx → Option Sx
  | 0, _, _ => none
  | n + 1, l2, s =>
    if 300 ≤ l2 then
      f_5001_J100 l2 s
    else
      if (f_5003 s) = 0 then
        f_5001_J100 l2 s
      else
        bOv (f_rd 900 5008 0 s) fun s7 =>
        f_5001_L76 n (l2 + 1) s7
def f_5001  (s : Sx) : Option Sx :=
  bS (f_4001 s) fun s8 =>
  bS (sV s8 2 0) fun s9 =>
  bS (sV s9 3 (f_9002 s9)) fun s11 =>
  bS (sV s11 4 0) fun s12 =>
  bS (sV s12 5 0) fun s13 =>
  bS (sB s13 13 []) fun s14 =>
  bS (sB s14 15 []) fun s15 =>
  bS (sB s15 16 []) fun s16 =>
  bS (sB s16 17 []) fun s17 =>
  f_5001_L76 400 0 s17
abbrev Mx : Type := Nat → Nat → Int32
def mf (s : Mx) (f : Nat) : Int32 := s 0 f
def mp (s : Mx) (f : Nat) (x : Int32) : Mx := u2 s 0 f x
def mg (s : Mx) (j : Nat) (i : Int32) : Int32 := s j i.toNatClampNeg
def ms (s : Mx) (j : Nat) (i x : Int32) : Mx := u2 s j i.toNatClampNeg x
abbrev nch (x : Int32) : Prop := x.toUInt32.toUInt16.toUInt32.toInt32 = x
def f_12001  (s : Mx) : Int32 :=
  (mf s 82)
def f_12002 (x0 : Int64) (x1 : Int64) (x2 : Int64) (s : Mx) : Int32 :=
  if (lg_cmp x0 x1) < 0 then
    0
  else
    if 0 < (lg_cmp x0 x2) then
      0
    else
      1
def f_12003_J26  (l1 : Int32) (l2 : Int32) (l3 : Int32) (k0 : Int32) (s : Mx) : Mx × Int32 :=
  bS (mp s 82 k0) fun s1 =>
  if (mf s1 82) = 0 then
    (s1, 1)
  else
    (s1, 0)
def f_12003 (x0 : Int32) (x1 : Int32) (x2 : Int32) (s : Mx) : Mx × Int32 :=
  if x0 = 0 then
    f_12003_J26 x0 x1 x2 1 s
  else
    if x1 = 0 then
      f_12003_J26 x0 x1 x2 2 s
    else
      if x2 = 0 then
        f_12003_J26 x0 x1 x2 3 s
      else
        f_12003_J26 x0 x1 x2 0 s
def f_12004 (x0 : Int32) (s : Mx) : Mx × Int32 :=
  bS (mp s 82 0) fun s1 =>
  (s1, x0)
def f_12005 (x0 : Int64) (s : Mx) : Int32 :=
  if (lg_cmp x0 0) = 0 then
    1
  else
    if (lg_cmp x0 10) = 0 then
      1
    else
      if (f_12002 x0 32 126 s) = 0 then
        0
      else
        1
def f_12006_L99  : Nat → Int64 → Int32 → Int32 → Int32 → Mx → Option (Mx × Int32)
  | 0, _, _, _, _, _ => none
  | n + 1, l1, l3, l4, l5, s =>
    if 8 ≤ l5 then
      some (s, (mf s 0))
    else
      if (lg_cmp ((l1.toUInt64 >>> ((8 * l5).toInt64.toUInt64 &&& Int64.toUInt64 63)).toInt64 &&& 255) 0) = 0 then
        f_12006_L99 n l1 l3 l4 (l5 + 1) s
      else
        gd (vi (mf s 0) 300) <|
        bS (ms s 1 (mf s 0) (vp_nar .char (((((l1.toUInt64 >>> ((8 * l5).toInt64.toUInt64 &&& Int64.toUInt64 63)).toInt64 &&& 255).toInt32).toUInt32 % 65536).toInt32))) fun s3 =>
        bS (mp s3 0 ((mf s3 0) + 1)) fun s4 =>
        f_12006_L99 n l1 l3 l4 (l5 + 1) s4
def f_12006_J45  (k8 : Int64 → Int32 → Int32 → Int32 → Mx → Option (Mx × Int32)) (l1 : Int64) (l3 : Int32) (l4 : Int32) (l5 : Int32) (l6 : Int64) (k0 : Int32) (s : Mx) : Option (Mx × Int32) :=
  if (lg_cmp l6 0) = 0 then
    k8 l1 k0 (l4 + 0) (l5 + 1) s
  else
    k8 l1 k0 (l4 + 1) (l5 + 1) s
def f_12006_J44  (k8 : Int64 → Int32 → Int32 → Int32 → Mx → Option (Mx × Int32)) (l1 : Int64) (l3 : Int32) (l4 : Int32) (l5 : Int32) (l6 : Int64) (s : Mx) : Option (Mx × Int32) :=
  f_12006_J45 k8 l1 l3 l4 l5 l6 0 s
def f_12006_L8  : Nat → Int64 → Int32 → Int32 → Int32 → Mx → Option (Mx × Int32)
  | 0, _, _, _, _, _ => none
  | n + 1, l1, l3, l4, l5, s =>
    if 8 ≤ l5 then
      bT (f_12003 l3 1 1 s) fun s7 r7 =>
      if r7 = 0 then
        some (s7, 0)
      else
        if ((mf s7 0) + l4) ≤ 300 then
          f_12006_L99 1000 l1 l3 l4 0 s7
        else
          some (s7, (-1))
    else
      if l3 = 0 then
        f_12006_J44 (f_12006_L8 n) l1 l3 l4 l5 ((l1.toUInt64 >>> ((8 * l5).toInt64.toUInt64 &&& Int64.toUInt64 63)).toInt64 &&& 255) s
      else
        if (f_12005 ((l1.toUInt64 >>> ((8 * l5).toInt64.toUInt64 &&& Int64.toUInt64 63)).toInt64 &&& 255) s) = 0 then
          f_12006_J44 (f_12006_L8 n) l1 l3 l4 l5 ((l1.toUInt64 >>> ((8 * l5).toInt64.toUInt64 &&& Int64.toUInt64 63)).toInt64 &&& 255) s
        else
          f_12006_J45 (f_12006_L8 n) l1 l3 l4 l5 ((l1.toUInt64 >>> ((8 * l5).toInt64.toUInt64 &&& Int64.toUInt64 63)).toInt64 &&& 255) 1 s
def f_12006 (x0 : Int64) (s : Mx) : Option (Mx × Int32) :=
  f_12006_L8 1000 x0 1 0 0 s
def f_12007  (s : Mx) : Mx × Int32 :=
  bS (mp s 0 0) fun s1 =>
  bT (f_12004 (mf s 0) s1) fun s2 r2 =>
  (s2, r2)
def f_12008 (x0 : Int32) (s : Mx) : Mx × Int32 :=
  bT (f_12003 (f_12002 x0.toInt64 1 ((mf s 0).toInt64) s) 1 1 s) fun s2 r2 =>
  if r2 = 0 then
    (s2, 0)
  else
    bS (mp s2 0 ((mf s2 0) - x0)) fun s4 =>
    (s4, (mf s4 0))
def f_12009  (s : Mx) : Mx × Int32 :=
  bT (f_12004 (mf s 0) s) fun s1 r1 =>
  (s1, r1)
def f_12010 (x0 : Int32) (s : Mx) : Option (Mx × Int32) :=
  bT (f_12003 (f_12002 x0.toInt64 0 (((mf s 0) - 1).toInt64) s) 1 1 s) fun s2 r2 =>
  if r2 = 0 then
    gd (nch 32) <|
    some (s2, 32)
  else
    gd (vi x0 300) <|
    gd (nch (mg s2 1 x0)) <|
    some (s2, (mg s2 1 x0))
def f_12011 (x0 : Int32) (s : Mx) : Int32 :=
  if x0 < 48 then
    0
  else
    if 57 < x0 then
      0
    else
      1
def f_12012 (x0 : Int32) (s : Mx) : Int32 :=
  if x0 < 97 then
    0
  else
    if 122 < x0 then
      0
    else
      1
def f_12013_L2  : Nat → Int32 → Int32 → Mx → Option Int32
  | 0, _, _, _ => none
  | n + 1, l1, l2, s =>
    if (mf s 4) ≤ l2 then
      some l2
    else
      gd (vi l2 300) <|
      if (mg s 3 l2) = 32 then
        f_12013_L2 n l1 (l2 + 1) s
      else
        gd (vi l2 300) <|
        if (mg s 3 l2) = 10 then
          f_12013_L2 n l1 (l2 + 1) s
        else
          some l2
def f_12013 (x0 : Int32) (s : Mx) : Option Int32 :=
  f_12013_L2 1000 x0 x0 s
def f_12014  (s : Mx) : Option Int32 :=
  bP (f_12013 (mf s 7) s) fun r1 =>
  if (mf s 4) ≤ r1 then
    some 0
  else
    gd (vi r1 300) <|
    if (mg s 3 r1) = 40 then
      some 1
    else
      some 0
def f_12015_J92  (l1 : Int64) (k0 : Int32) (s : Mx) : Option (Mx × Int32) :=
  bS (mp s 8 k0) fun s1 =>
  if (lg_cmp l1 2147483647) ≤ 0 then
    some (s1, 1)
  else
    some (s1, (-2))
def f_12015_J77  (l1 : Int64) (s : Mx) : Option (Mx × Int32) :=
  if (lg_cmp l1 2147483647) ≤ 0 then
    f_12015_J92 l1 l1.toInt32 s
  else
    f_12015_J92 l1 0 s
def f_12015_J63  (k2 : Int64 → Mx → Option (Mx × Int32)) (l1 : Int64) (k0 : Int64) (s : Mx) : Option (Mx × Int32) :=
  bS (mp s 7 ((mf s 7) + 1)) fun s4 =>
  k2 k0 s4
def f_12015_L2  : Nat → Int64 → Mx → Option (Mx × Int32)
  | 0, _, _ => none
  | n + 1, l1, s =>
    if (mf s 4) ≤ (mf s 7) then
      f_12015_J77 l1 s
    else
      gd (vi (mf s 7) 300) <|
      if (f_12011 (mg s 3 (mf s 7)) s) = 0 then
        f_12015_J77 l1 s
      else
        gd (vi (mf s 7) 300) <|
        if (lg_cmp ((l1 * 10) + ((mg s 3 (mf s 7)) - 48).toInt64) 9999999999) ≤ 0 then
          f_12015_J63 (f_12015_L2 n) ((l1 * 10) + ((mg s 3 (mf s 7)) - 48).toInt64) ((l1 * 10) + ((mg s 3 (mf s 7)) - 48).toInt64) s
        else
          f_12015_J63 (f_12015_L2 n) ((l1 * 10) + ((mg s 3 (mf s 7)) - 48).toInt64) 9999999999 s
def f_12015  (s : Mx) : Option (Mx × Int32) :=
  f_12015_L2 1000 0 s
def f_12016_J83  (l1 : Int64) (s : Mx) : Option (Mx × Int32) :=
  if (lg_cmp l1 201) = 0 then
    some (s, 4)
  else
    if (lg_cmp l1 183685) = 0 then
      some (s, 5)
    else
      if (lg_cmp l1 5645591) = 0 then
        some (s, 6)
      else
        if (lg_cmp l1 21167) = 0 then
          some (s, 7)
        else
          if (lg_cmp l1 457) = 0 then
            some (s, 8)
          else
            if (lg_cmp l1 6308) = 0 then
              some (s, 9)
            else
              if (lg_cmp l1 489345202) = 0 then
                some (s, 10)
              else
                some (s, 2)
def f_12016_J68  (k2 : Int64 → Mx → Option (Mx × Int32)) (l1 : Int64) (l3 : Int32) (k0 : Int64) (k1 : Int64) (s : Mx) : Option (Mx × Int32) :=
  bS (mp s 7 ((mf s 7) + 1)) fun s8 =>
  k2 (k1 + k0) s8
def f_12016_L2  : Nat → Int64 → Mx → Option (Mx × Int32)
  | 0, _, _ => none
  | n + 1, l1, s =>
    if (mf s 4) ≤ (mf s 7) then
      f_12016_J83 l1 s
    else
      gd (vi (mf s 7) 300) <|
      if (f_12012 (mg s 3 (mf s 7)) s) = 0 then
        f_12016_J83 l1 s
      else
        if 7 ≤ ((mf s 7) - (mf s 6)) then
          f_12016_J68 (f_12016_L2 n) l1 ((mf s 7) - (mf s 6)) 0 l1 s
        else
          gd (vi (mf s 7) 300) <|
          f_12016_J68 (f_12016_L2 n) l1 ((mf s 7) - (mf s 6)) ((((mg s 3 (mf s 7)) - 97) + 1).toInt64 <<< ((5 * ((mf s 7) - (mf s 6))).toInt64 &&& 63)) l1 s
def f_12016  (s : Mx) : Option (Mx × Int32) :=
  f_12016_L2 1000 0 s
def f_12017_J46  (l1 : Int32) (l2 : Int32) (l3 : Int32) (l4 : Int32) (k0 : Int32) (k1 : Int32) (s : Mx) : Option (Mx × Int32) :=
  bS (mp s 7 (k1 + k0)) fun s1 =>
  if l4 = 0 then
    some (s1, l3)
  else
    some (s1, l2)
def f_12017_J29  (l1 : Int32) (l2 : Int32) (l3 : Int32) (k0 : Int32) (s : Mx) : Option (Mx × Int32) :=
  if k0 = 0 then
    f_12017_J46 l1 l2 l3 k0 0 (mf s 7) s
  else
    f_12017_J46 l1 l2 l3 k0 1 (mf s 7) s
def f_12017_J28  (l1 : Int32) (l2 : Int32) (l3 : Int32) (s : Mx) : Option (Mx × Int32) :=
  f_12017_J29 l1 l2 l3 0 s
def f_12017 (x0 : Int32) (x1 : Int32) (x2 : Int32) (s : Mx) : Option (Mx × Int32) :=
  if (mf s 4) ≤ (mf s 7) then
    f_12017_J28 x0 x1 x2 s
  else
    gd (vi (mf s 7) 300) <|
    if (mg s 3 (mf s 7)) = x0 then
      f_12017_J29 x0 x1 x2 1 s
    else
      f_12017_J28 x0 x1 x2 s
def f_12018 (x0 : Int32) (s : Mx) : Option (Mx × Int32) :=
  if x0 = 33 then
    bO (f_12017 61 21 24 s) fun s2 r2 =>
    some (s2, r2)
  else if x0 = 35 then
    some (s, 32)
  else if x0 = 37 then
    some (s, 15)
  else if x0 = 38 then
    bO (f_12017 38 22 (-1) s) fun s3 r3 =>
    some (s3, r3)
  else if x0 = 40 then
    some (s, 26)
  else if x0 = 41 then
    some (s, 27)
  else if x0 = 42 then
    some (s, 13)
  else if x0 = 43 then
    some (s, 11)
  else if x0 = 44 then
    some (s, 30)
  else if x0 = 45 then
    some (s, 12)
  else if x0 = 47 then
    some (s, 14)
  else if x0 = 59 then
    some (s, 31)
  else if x0 = 60 then
    bO (f_12017 61 17 16 s) fun s4 r4 =>
    some (s4, r4)
  else if x0 = 61 then
    bO (f_12017 61 20 25 s) fun s5 r5 =>
    some (s5, r5)
  else if x0 = 62 then
    bO (f_12017 61 19 18 s) fun s6 r6 =>
    some (s6, r6)
  else if x0 = 123 then
    some (s, 28)
  else if x0 = 124 then
    bO (f_12017 124 23 (-1) s) fun s7 r7 =>
    some (s7, r7)
  else if x0 = 125 then
    some (s, 29)
  else
    some (s, (-1))
def f_12019  (s : Mx) : Option Mx :=
  bP (f_12013 (mf s 7) s) fun r1 =>
  bS (mp s 6 r1) fun s2 =>
  bS (mp s2 7 (mf s2 6)) fun s3 =>
  if (mf s3 6) = (mf s3 4) then
    bS (mp s3 5 0) fun s16 =>
    some s16
  else
    gd (vi (mf s3 6) 300) <|
    if (f_12011 (mg s3 3 (mf s3 6)) s3) = 0 then
      gd (vi (mf s3 6) 300) <|
      if (f_12012 (mg s3 3 (mf s3 6)) s3) = 0 then
        bS (mp s3 7 ((mf s3 7) + 1)) fun s9 =>
        gd (vi (mf s9 6) 300) <|
        bO (f_12018 (mg s9 3 (mf s9 6)) s9) fun s10 r10 =>
        bS (mp s10 5 r10) fun s11 =>
        some s11
      else
        bO (f_12016 s3) fun s12 r12 =>
        bS (mp s12 5 r12) fun s13 =>
        some s13
    else
      bO (f_12015 s3) fun s14 r14 =>
      bS (mp s14 5 r14) fun s15 =>
      some s15
def f_12020 (x0 : Int32) (s : Mx) : Mx × Int32 :=
  bS (mp s 9 x0) fun s1 =>
  bS (mp s1 10 (mf s1 6)) fun s2 =>
  (s2, 0)
def f_12021 (x0 : Int32) (x1 : Int32) (s : Mx) : Option (Mx × Int32) :=
  gd (vi (mf s 11) 1200) <|
  bS (ms s 4 (mf s 11) x0) fun s1 =>
  gd (vi (mf s1 11) 1200) <|
  bS (ms s1 5 (mf s1 11) x1) fun s2 =>
  bS (mp s2 11 ((mf s2 11) + 1)) fun s3 =>
  some (s3, ((mf s3 11) - 1))
def f_12022 (x0 : Int32) (x1 : Int32) (s : Mx) : Option (Mx × Int32) :=
  gd (vi (mf s 14) 301) <|
  bS (ms s 6 (mf s 14) x0) fun s1 =>
  bS (mp s1 14 ((mf s1 14) + 1)) fun s2 =>
  bS (mp s2 32 x1) fun s3 =>
  some (s3, 1)
def f_12023  (s : Mx) : Option Mx :=
  bS (mp s 43 (mf s 16)) fun s1 =>
  gd (vi (mf s1 43) 100) <|
  bS (ms s1 7 (mf s1 43) (mf s1 14)) fun s2 =>
  bS (mp s2 16 ((mf s2 16) + 1)) fun s3 =>
  some s3
def f_12024 (x0 : Int32) (x1 : Int32) (s : Mx) : Option Mx :=
  gd (vi (mf s 35) 100) <|
  bS (ms s 20 (mf s 35) x0) fun s1 =>
  gd (vi (mf s1 35) 100) <|
  bS (ms s1 21 (mf s1 35) x1) fun s2 =>
  bS (mp s2 35 ((mf s2 35) + 1)) fun s3 =>
  some s3
def f_12025  (s : Mx) : Option Int32 :=
  if (mf s 35) = 0 then
    some (-1)
  else
    gd (vi ((mf s 35) - 1) 100) <|
    some (mg s 20 ((mf s 35) - 1))
def f_12026  (s : Mx) : Mx × Int32 :=
  if (mf s 33) = 8 then
    bT (f_12020 4 s) fun s3 r3 =>
    (s3, r3)
  else
    bS (mp s 33 ((mf s 33) + 1)) fun s2 =>
    (s2, 1)
def f_12027_L16  : Nat → Int32 → Int32 → Int32 → Int32 → Int32 → Int32 → Mx → Option Int32
  | 0, _, _, _, _, _, _, _ => none
  | n + 1, l1, l2, l3, l4, l5, l6, s =>
    if l2 ≤ l6 then
      gd (l5 = 0 ∨ l5 = 1) <|
      some l5
    else
      if l5 = 0 then
        gd (l5 = 0 ∨ l5 = 1) <|
        some l5
      else
        gd (vi (l1 + l6) 300) <|
        gd (vi (l3 + l6) 300) <|
        if (mg s 3 (l1 + l6)) = (mg s 3 (l3 + l6)) then
          f_12027_L16 n l1 l2 l3 l4 1 (l6 + 1) s
        else
          f_12027_L16 n l1 l2 l3 l4 0 (l6 + 1) s
def f_12027 (x0 : Int32) (x1 : Int32) (x2 : Int32) (x3 : Int32) (s : Mx) : Option Int32 :=
  if x1 = x3 then
    f_12027_L16 1000 x0 x1 x2 x3 1 0 s
  else
    f_12027_L16 1000 x0 x1 x2 x3 0 0 s
def f_12028_L4  : Nat → Int32 → Int32 → Mx → Option Int32
  | 0, _, _, _ => none
  | n + 1, l1, l2, s =>
    gd (vi (mf s 34) 2) <|
    if (mg s 9 (mf s 34)) ≤ l2 then
      some l1
    else
      gd (vi ((8 * (mf s 34)) + l2) 16) <|
      gd (vi ((8 * (mf s 34)) + l2) 16) <|
      bP (f_12027 (mg s 10 ((8 * (mf s 34)) + l2)) (mg s 11 ((8 * (mf s 34)) + l2)) (mf s 6) ((mf s 7) - (mf s 6)) s) fun r2 =>
      if r2 = 0 then
        f_12028_L4 n l1 (l2 + 1) s
      else
        f_12028_L4 n l2 (l2 + 1) s
def f_12028  (s : Mx) : Option Int32 :=
  f_12028_L4 1000 (-1) 0 s
def f_12029  (s : Mx) : Option (Mx × Int32) :=
  bP (f_12028 s) fun r1 =>
  if r1 = (-1) then
    gd (vi (mf s 34) 2) <|
    if (mg s 9 (mf s 34)) = 8 then
      some (s, r1)
    else
      gd (vi (mf s 34) 2) <|
      gd (vi ((8 * (mf s 34)) + (mg s 9 (mf s 34))) 16) <|
      bS (ms s 10 ((8 * (mf s 34)) + (mg s 9 (mf s 34))) (mf s 6)) fun s4 =>
      gd (vi (mf s4 34) 2) <|
      gd (vi ((8 * (mf s4 34)) + (mg s4 9 (mf s4 34))) 16) <|
      bS (ms s4 11 ((8 * (mf s4 34)) + (mg s4 9 (mf s4 34))) ((mf s4 7) - (mf s4 6))) fun s5 =>
      gd (vi (mf s5 34) 2) <|
      gd (vi (mf s5 34) 2) <|
      bS (ms s5 9 (mf s5 34) ((mg s5 9 (mf s5 34)) + 1)) fun s6 =>
      gd (vi (mf s6 34) 2) <|
      some (s6, ((mg s6 9 (mf s6 34)) - 1))
  else
    some (s, r1)
def f_12030_L10  : Nat → Int32 → Int32 → Int32 → Int32 → Mx → Option Int32
  | 0, _, _, _, _, _ => none
  | n + 1, l1, l2, l3, l4, s =>
    if l4 < 0 then
      some l3
    else
      gd (vi l4 40) <|
      gd (vi l4 40) <|
      bP (f_12027 (mg s 12 l4) (mg s 13 l4) l1 l2 s) fun r2 =>
      if r2 = 0 then
        f_12030_L10 n l1 l2 l3 (l4 + (-1)) s
      else
        f_12030_L10 n l1 l2 l4 (l4 + (-1)) s
def f_12030 (x0 : Int32) (x1 : Int32) (s : Mx) : Option Int32 :=
  f_12030_L10 1000 x0 x1 (-1) ((mf s 22) - 1) s
def f_12031 (x0 : Int32) (s : Mx) : Int32 :=
  if x0 = 11 then
    5
  else if x0 = 12 then
    5
  else if x0 = 13 then
    6
  else if x0 = 14 then
    6
  else if x0 = 15 then
    6
  else if x0 = 16 then
    4
  else if x0 = 17 then
    4
  else if x0 = 18 then
    4
  else if x0 = 19 then
    4
  else if x0 = 20 then
    3
  else if x0 = 21 then
    3
  else if x0 = 22 then
    2
  else if x0 = 23 then
    1
  else
    0
def f_12032_J66  (k0 : Int32 → Mx → Option Mx) (l1 : Int32) (s : Mx) : Option Mx :=
  bO (f_12021 8 0 s) fun s1 r1 =>
  gd (vi (mf s1 35) 100) <|
  gd (vi (mg s1 21 (mf s1 35)) 1200) <|
  bS (ms s1 5 (mg s1 21 (mf s1 35)) (mf s1 11)) fun s2 =>
  k0 l1 s2
def f_12032_L0  : Nat → Int32 → Mx → Option Mx
  | 0, _, _ => none
  | n + 1, l1, s =>
    bP (f_12025 s) fun r3 =>
    if r3 = (-1) then
      some s
    else
      bP (f_12025 s) fun r5 =>
      if 40 ≤ r5 then
        some s
      else
        bP (f_12025 s) fun r7 =>
        if (f_12031 r7 s) < l1 then
          some s
        else
          bS (mp s 35 ((mf s 35) - 1)) fun s10 =>
          gd (vi (mf s10 35) 100) <|
          if (mg s10 20 (mf s10 35)) = 22 then
            f_12032_J66 (f_12032_L0 n) l1 s10
          else
            gd (vi (mf s10 35) 100) <|
            if (mg s10 20 (mf s10 35)) = 23 then
              f_12032_J66 (f_12032_L0 n) l1 s10
            else
              gd (vi (mf s10 35) 100) <|
              bO (f_12021 5 (mg s10 20 (mf s10 35)) s10) fun s13 r13 =>
              f_12032_L0 n l1 s13
def f_12032 (x0 : Int32) (s : Mx) : Option Mx :=
  f_12032_L0 1000 x0 s
def f_12033_L7  : Nat → Int32 → Mx → Option Int32
  | 0, _, _ => none
  | n + 1, l1, s =>
    gd (vi l1 100) <|
    if 40 ≤ (mg s 20 l1) then
      gd (vi l1 100) <|
      some (mg s 20 l1)
    else
      f_12033_L7 n (l1 + (-1)) s
def f_12033  (s : Mx) : Option Int32 :=
  f_12033_L7 1000 ((mf s 35) - 1) s
def f_12034_L0  : Nat → Mx → Option (Mx × Int32)
  | 0, _ => none
  | n + 1, s =>
    bP (f_12025 s) fun r1 =>
    if r1 = 40 then
      bS (mp s 35 ((mf s 35) - 1)) fun s14 =>
      bS (mp s14 33 ((mf s14 33) - 1)) fun s15 =>
      gd (vi (mf s15 35) 100) <|
      bO (f_12021 4 (mg s15 21 (mf s15 35)) s15) fun s16 r16 =>
      f_12034_L0 n  s16
    else
      bS (mp s 32 4) fun s3 =>
      bP (f_12025 s3) fun r4 =>
      if r4 = 48 then
        bS (mp s3 35 ((mf s3 35) - 1)) fun s11 =>
        bS (mp s11 33 ((mf s11 33) - 1)) fun s12 =>
        bS (mp s12 32 6) fun s13 =>
        some (s13, 1)
      else
        bP (f_12025 s3) fun r6 =>
        if r6 = 50 then
          bS (mp s3 35 ((mf s3 35) - 1)) fun s8 =>
          bO (f_12021 16 0 s8) fun s9 r9 =>
          bS (mp s9 32 14) fun s10 =>
          some (s10, 1)
        else
          some (s3, 1)
def f_12034  (s : Mx) : Option (Mx × Int32) :=
  f_12034_L0 1000  s
def f_12035  (s : Mx) : Option (Mx × Int32) :=
  gd (vi (mf s 27) 110) <|
  bS (ms s 16 (mf s 27) (mf s 6)) fun s1 =>
  gd (vi (mf s1 27) 110) <|
  bS (ms s1 17 (mf s1 27) ((mf s1 7) - (mf s1 6))) fun s2 =>
  gd (vi (mf s2 27) 110) <|
  bS (ms s2 18 (mf s2 27) 0) fun s3 =>
  bOv (f_12024 42 (mf s3 27) s3) fun s4 =>
  bS (mp s4 27 ((mf s4 27) + 1)) fun s5 =>
  bO (f_12022 3 13 s5) fun s6 r6 =>
  some (s6, r6)
def f_12036  (s : Mx) : Option (Mx × Int32) :=
  bO (f_12022 27 4 s) fun s1 r1 =>
  bS (mp s1 35 ((mf s1 35) - 1)) fun s2 =>
  bS (mp s2 33 ((mf s2 33) - 1)) fun s3 =>
  gd (vi (mf s3 35) 100) <|
  bO (f_12021 10 0 s3) fun s4 r4 =>
  gd (vi (mg s3 21 (mf s3 35)) 110) <|
  bS (ms s4 19 (mg s3 21 (mf s3 35)) r4) fun s5 =>
  bO (f_12034 s5) fun s6 r6 =>
  some (s6, r6)
def f_12037 (x0 : Int32) (x1 : Int32) (x2 : Int32) (x3 : Int32) (s : Mx) : Option (Mx × Int32) :=
  bT (f_12026 s) fun s1 r1 =>
  if r1 = 0 then
    some (s1, 0)
  else
    gd (vi (mf s1 38) 10) <|
    bS (ms s1 22 (mf s1 38) x0) fun s3 =>
    gd (vi (mf s3 38) 10) <|
    bS (ms s3 23 (mf s3 38) x1) fun s4 =>
    gd (vi (mf s4 38) 10) <|
    bS (ms s4 24 (mf s4 38) x2) fun s5 =>
    gd (vi (mf s5 38) 10) <|
    bS (ms s5 25 (mf s5 38) x3) fun s6 =>
    bS (mp s6 38 ((mf s6 38) + 1)) fun s7 =>
    bO (f_12022 28 0 s7) fun s8 r8 =>
    some (s8, r8)
def f_12038_J121  (l1 : Int32) (l2 : Int32) (s : Mx) : Option (Mx × Int32) :=
  gd (vi (mf s 38) 10) <|
  gd (vi (mg s 24 (mf s 38)) 1200) <|
  bS (ms s 5 (mg s 24 (mf s 38)) (mf s 11)) fun s1 =>
  some (s1, 1)
def f_12038  (s : Mx) : Option (Mx × Int32) :=
  bO (f_12022 29 0 s) fun s2 r2 =>
  bS (mp s2 38 ((mf s2 38) - 1)) fun s3 =>
  bS (mp s3 33 ((mf s3 33) - 1)) fun s4 =>
  gd (vi (mf s4 38) 10) <|
  gd (vi (mg s4 23 (mf s4 38)) 100) <|
  bS (ms s4 8 (mg s4 23 (mf s4 38)) ((mf s4 14) - 1)) fun s5 =>
  gd (vi (mf s5 38) 10) <|
  if (mg s5 22 (mf s5 38)) = 4 then
    bS (mp s5 32 1) fun s13 =>
    some (s13, 1)
  else
    if (mg s5 22 (mf s5 38)) = 6 then
      gd (vi (mf s5 38) 10) <|
      bO (f_12021 14 (mg s5 25 (mf s5 38)) s5) fun s12 r12 =>
      f_12038_J121 r2 (mg s5 22 (mf s5 38)) s12
    else
      if (mg s5 22 (mf s5 38)) = 9 then
        bO (f_12021 1 0 s5) fun s9 r9 =>
        bO (f_12021 15 0 s9) fun s10 r10 =>
        bS (mp s10 34 0) fun s11 =>
        f_12038_J121 r2 (mg s5 22 (mf s5 38)) s11
      else
        f_12038_J121 r2 (mg s5 22 (mf s5 38)) s5
def f_12040 (x0 : Int32) (x1 : Int32) (s : Mx) : Option (Mx × Int32) :=
  bOv (f_12023 s) fun s1 =>
  bO (f_12021 0 0 s1) fun s2 r2 =>
  gd (vi (mf s1 38) 10) <|
  bS (ms s2 25 (mf s1 38) r2) fun s3 =>
  bOv (f_12024 x0 x1 s3) fun s4 =>
  some (s4, 1)
def f_12041  (s : Mx) : Option (Mx × Int32) :=
  bP (f_12014 s) fun r1 =>
  if r1 = 0 then
    bO (f_12029 s) fun s3 r3 =>
    if r3 = (-1) then
      bT (f_12020 5 s3) fun s7 r7 =>
      some (s7, r7)
    else
      bO (f_12040 43 r3 s3) fun s5 r5 =>
      bO (f_12022 2 5 s5) fun s6 r6 =>
      some (s6, r6)
  else
    bO (f_12040 50 0 s) fun s8 r8 =>
    bO (f_12035 s8) fun s9 r9 =>
    some (s9, r9)
def f_12042  (s : Mx) : Option (Mx × Int32) :=
  if (mf s 5) = 0 then
    if (mf s 38) = 0 then
      bO (f_12021 17 0 s) fun s5 r5 =>
      if 0 ≤ r5 then
        some (s5, 0)
      else
        some (s5, 1)
    else
      bT (f_12020 3 s) fun s4 r4 =>
      some (s4, r4)
  else if (mf s 5) = 1 then
    bT (f_12020 3 s) fun s7 r7 =>
    some (s7, r7)
  else if (mf s 5) = 2 then
    bO (f_12041 s) fun s8 r8 =>
    some (s8, r8)
  else if (mf s 5) = 3 then
    bT (f_12020 3 s) fun s9 r9 =>
    some (s9, r9)
  else if (mf s 5) = 4 then
    bO (f_12040 46 0 s) fun s10 r10 =>
    if r10 = 0 then
      some (s10, 0)
    else
      bO (f_12022 4 2 s10) fun s12 r12 =>
      if r12 = 0 then
        some (s12, 0)
      else
        some (s12, 1)
  else if (mf s 5) = 5 then
    bT (f_12020 3 s) fun s14 r14 =>
    some (s14, r14)
  else if (mf s 5) = 6 then
    bO (f_12040 47 0 s) fun s15 r15 =>
    if r15 = 0 then
      some (s15, 0)
    else
      bO (f_12022 6 2 s15) fun s17 r17 =>
      if r17 = 0 then
        some (s17, 0)
      else
        some (s17, 1)
  else if (mf s 5) = 7 then
    bO (f_12040 44 0 s) fun s19 r19 =>
    if r19 = 0 then
      some (s19, 0)
    else
      bO (f_12022 7 2 s19) fun s21 r21 =>
      if r21 = 0 then
        some (s21, 0)
      else
        some (s21, 1)
  else if (mf s 5) = 8 then
    bT (f_12020 3 s) fun s23 r23 =>
    some (s23, r23)
  else if (mf s 5) = 9 then
    if (mf s 38) ≤ 0 then
      bOv (f_12023 s) fun s25 =>
      bO (f_12022 9 8 s25) fun s26 r26 =>
      some (s26, r26)
    else
      bT (f_12020 3 s) fun s27 r27 =>
      some (s27, r27)
  else if (mf s 5) = 10 then
    if (mf s 34) = 0 then
      bT (f_12020 3 s) fun s33 r33 =>
      some (s33, r33)
    else
      bO (f_12040 45 0 s) fun s29 r29 =>
      if r29 = 0 then
        some (s29, 0)
      else
        bO (f_12022 10 2 s29) fun s31 r31 =>
        if r31 = 0 then
          some (s31, 0)
        else
          some (s31, 1)
  else if (mf s 5) = 11 then
    bT (f_12020 3 s) fun s34 r34 =>
    some (s34, r34)
  else if (mf s 5) = 12 then
    bT (f_12020 3 s) fun s35 r35 =>
    some (s35, r35)
  else if (mf s 5) = 13 then
    bT (f_12020 3 s) fun s36 r36 =>
    some (s36, r36)
  else if (mf s 5) = 14 then
    bT (f_12020 3 s) fun s37 r37 =>
    some (s37, r37)
  else if (mf s 5) = 15 then
    bT (f_12020 3 s) fun s38 r38 =>
    some (s38, r38)
  else if (mf s 5) = 16 then
    bT (f_12020 3 s) fun s39 r39 =>
    some (s39, r39)
  else if (mf s 5) = 17 then
    bT (f_12020 3 s) fun s40 r40 =>
    some (s40, r40)
  else if (mf s 5) = 18 then
    bT (f_12020 3 s) fun s41 r41 =>
    some (s41, r41)
  else if (mf s 5) = 19 then
    bT (f_12020 3 s) fun s42 r42 =>
    some (s42, r42)
  else if (mf s 5) = 20 then
    bT (f_12020 3 s) fun s43 r43 =>
    some (s43, r43)
  else if (mf s 5) = 21 then
    bT (f_12020 3 s) fun s44 r44 =>
    some (s44, r44)
  else if (mf s 5) = 22 then
    bT (f_12020 3 s) fun s45 r45 =>
    some (s45, r45)
  else if (mf s 5) = 23 then
    bT (f_12020 3 s) fun s46 r46 =>
    some (s46, r46)
  else if (mf s 5) = 24 then
    bT (f_12020 3 s) fun s47 r47 =>
    some (s47, r47)
  else if (mf s 5) = 25 then
    bT (f_12020 3 s) fun s48 r48 =>
    some (s48, r48)
  else if (mf s 5) = 26 then
    bT (f_12020 3 s) fun s49 r49 =>
    some (s49, r49)
  else if (mf s 5) = 27 then
    bT (f_12020 3 s) fun s50 r50 =>
    some (s50, r50)
  else if (mf s 5) = 28 then
    bT (f_12020 3 s) fun s51 r51 =>
    some (s51, r51)
  else if (mf s 5) = 29 then
    if (mf s 38) ≤ 0 then
      bT (f_12020 3 s) fun s53 r53 =>
      some (s53, r53)
    else
      bO (f_12038 s) fun s54 r54 =>
      some (s54, r54)
  else if (mf s 5) = 30 then
    bT (f_12020 3 s) fun s55 r55 =>
    some (s55, r55)
  else if (mf s 5) = 31 then
    bT (f_12020 3 s) fun s56 r56 =>
    some (s56, r56)
  else if (mf s 5) = 32 then
    bT (f_12026 s) fun s57 r57 =>
    if r57 = 0 then
      some (s57, 0)
    else
      bO (f_12040 48 0 s57) fun s59 r59 =>
      if r59 = 0 then
        some (s59, 0)
      else
        bO (f_12022 32 2 s59) fun s61 r61 =>
        if r61 = 0 then
          some (s61, 0)
        else
          some (s61, 1)
  else
    bT (f_12020 3 s) fun s2 r2 =>
    some (s2, r2)
def f_12039  (s : Mx) : Option (Mx × Int32) :=
  if (mf s 5) = 5 then
    bO (f_12021 14 0 s) fun s5 r5 =>
    gd (vi (mf s5 38) 10) <|
    gd (vi (mg s5 24 (mf s5 38)) 1200) <|
    bS (ms s5 5 (mg s5 24 (mf s5 38)) (mf s5 11)) fun s6 =>
    gd (vi (mf s6 38) 10) <|
    bS (ms s6 24 (mf s6 38) r5) fun s7 =>
    gd (vi (mf s7 38) 10) <|
    bS (ms s7 22 (mf s7 38) 5) fun s8 =>
    bO (f_12022 5 7 s8) fun s9 r9 =>
    some (s9, r9)
  else
    gd (vi (mf s 38) 10) <|
    gd (vi (mg s 24 (mf s 38)) 1200) <|
    bS (ms s 5 (mg s 24 (mf s 38)) (mf s 11)) fun s2 =>
    bS (mp s2 32 0) fun s3 =>
    bO (f_12042 s3) fun s4 r4 =>
    some (s4, r4)
def f_12044  (s : Mx) : Option (Mx × Int32) :=
  bO (f_12029 s) fun s1 r1 =>
  if r1 = (-1) then
    bT (f_12020 5 s1) fun s8 r8 =>
    some (s8, r8)
  else
    bO (f_12021 2 r1 s1) fun s3 r3 =>
    bO (f_12022 2 4 s3) fun s4 r4 =>
    if r4 = 0 then
      some (s4, 0)
    else
      bO (f_12034 s4) fun s6 r6 =>
      if r6 = 0 then
        some (s6, 0)
      else
        some (s6, 1)
def f_12043_J171   (s : Mx) : Option (Mx × Int32) :=
  bT (f_12026 s) fun s1 r1 =>
  if r1 = 0 then
    some (s1, 0)
  else
    bOv (f_12024 40 (mf s1 5) s1) fun s3 =>
    bO (f_12022 (mf s3 5) 2 s3) fun s4 r4 =>
    some (s4, r4)
def f_12043  (s : Mx) : Option (Mx × Int32) :=
  if (mf s 5) = 1 then
    bO (f_12021 1 (mf s 8) s) fun s6 r6 =>
    if r6 < 0 then
      some (s6, 0)
    else
      bO (f_12022 1 4 s6) fun s8 r8 =>
      if r8 = 0 then
        some (s8, 0)
      else
        bO (f_12034 s8) fun s10 r10 =>
        if r10 = 0 then
          some (s10, 0)
        else
          some (s10, 1)
  else if (mf s 5) = 2 then
    bP (f_12014 s) fun r12 =>
    if r12 = 0 then
      bO (f_12044 s) fun s14 r14 =>
      some (s14, r14)
    else
      bO (f_12035 s) fun s15 r15 =>
      some (s15, r15)
  else if (mf s 5) = 8 then
    bO (f_12021 9 0 s) fun s16 r16 =>
    if r16 < 0 then
      some (s16, 0)
    else
      bO (f_12022 8 4 s16) fun s18 r18 =>
      if r18 = 0 then
        some (s18, 0)
      else
        bO (f_12034 s18) fun s20 r20 =>
        if r20 = 0 then
          some (s20, 0)
        else
          some (s20, 1)
  else if (mf s 5) = 12 then
    f_12043_J171  s
  else if (mf s 5) = 24 then
    f_12043_J171  s
  else if (mf s 5) = 26 then
    bT (f_12026 s) fun s22 r22 =>
    if r22 = 0 then
      some (s22, 0)
    else
      bOv (f_12024 41 0 s22) fun s24 =>
      bO (f_12022 26 2 s24) fun s25 r25 =>
      some (s25, r25)
  else if (mf s 5) = 27 then
    if (mf s 32) = 3 then
      bO (f_12036 s) fun s28 r28 =>
      some (s28, r28)
    else
      bT (f_12020 3 s) fun s27 r27 =>
      some (s27, r27)
  else if (mf s 5) = 32 then
    f_12043_J171  s
  else
    bT (f_12020 3 s) fun s29 r29 =>
    some (s29, r29)
def f_12046 (x0 : Int32) (s : Mx) : Option (Mx × Int32) :=
  bOv (f_12032 1 s) fun s1 =>
  if x0 = 42 then
    gd (vi ((mf s1 35) - 1) 100) <|
    gd (vi (mg s1 21 ((mf s1 35) - 1)) 110) <|
    gd (vi (mg s1 21 ((mf s1 35) - 1)) 110) <|
    bS (ms s1 18 (mg s1 21 ((mf s1 35) - 1)) ((mg s1 18 (mg s1 21 ((mf s1 35) - 1))) + 1)) fun s9 =>
    bO (f_12036 s9) fun s10 r10 =>
    some (s10, r10)
  else
    bS (mp s1 35 ((mf s1 35) - 1)) fun s3 =>
    bS (mp s3 33 ((mf s3 33) - 1)) fun s4 =>
    bO (f_12022 27 4 s4) fun s5 r5 =>
    if r5 = 0 then
      some (s5, 0)
    else
      bO (f_12034 s5) fun s7 r7 =>
      if r7 = 0 then
        some (s7, 0)
      else
        some (s7, 1)
def f_12047_J60  (l1 : Int32) (k0 : Int32) (s : Mx) : Option (Mx × Int32) :=
  gd (vi (mf s 35) 100) <|
  bO (f_12021 k0 (mg s 21 (mf s 35)) s) fun s1 r1 =>
  gd (vi (mf s1 43) 100) <|
  bS (ms s1 8 (mf s1 43) (mf s1 14)) fun s2 =>
  bO (f_12022 31 0 s2) fun s3 r3 =>
  some (s3, r3)
def f_12047  (s : Mx) : Option (Mx × Int32) :=
  bOv (f_12032 1 s) fun s4 =>
  bS (mp s4 35 ((mf s4 35) - 1)) fun s5 =>
  gd (vi (mf s5 35) 100) <|
  if (mg s5 20 (mf s5 35)) = 43 then
    f_12047_J60 (mg s5 20 (mf s5 35)) 3 s5
  else
    if (mg s5 20 (mf s5 35)) = 44 then
      f_12047_J60 (mg s5 20 (mf s5 35)) 11 s5
    else
      if (mg s5 20 (mf s5 35)) = 45 then
        f_12047_J60 (mg s5 20 (mf s5 35)) 15 s5
      else
        f_12047_J60 (mg s5 20 (mf s5 35)) 12 s5
def f_12048_J59  (l1 : Int32) (k0 : Int32) (s : Mx) : Option (Mx × Int32) :=
  gd (vi (mf s 38) 10) <|
  bO (f_12037 k0 (mf s 43) l1 (mg s 25 (mf s 38)) s) fun s1 r1 =>
  some (s1, r1)
def f_12048  (s : Mx) : Option (Mx × Int32) :=
  if (mf s 33) = 8 then
    bT (f_12020 4 s) fun s7 r7 =>
    some (s7, r7)
  else
    bOv (f_12032 1 s) fun s3 =>
    bS (mp s3 35 ((mf s3 35) - 1)) fun s4 =>
    bO (f_12021 13 0 s4) fun s5 r5 =>
    gd (vi (mf s5 35) 100) <|
    if (mg s5 20 (mf s5 35)) = 46 then
      f_12048_J59 r5 4 s5
    else
      f_12048_J59 r5 6 s5
def f_12045_J132  (l1 : Int32) (l2 : Int32) (s : Mx) : Option (Mx × Int32) :=
  bO (f_12046 l2 s) fun s1 r1 =>
  some (s1, r1)
def f_12045_J56  (l1 : Int32) (k0 : Int32) (s : Mx) : Option (Mx × Int32) :=
  bOv (f_12024 (mf s 5) k0 s) fun s2 =>
  bO (f_12022 (mf s2 5) 2 s2) fun s3 r3 =>
  some (s3, r3)
def f_12045  (s : Mx) : Option (Mx × Int32) :=
  if (f_12031 (mf s 5) s) ≤ 0 then
    bP (f_12033 s) fun r6 =>
    if (mf s 5) = 27 then
      if r6 = 41 then
        f_12045_J132 (f_12031 (mf s 5) s) r6 s
      else
        if r6 = 42 then
          f_12045_J132 (f_12031 (mf s 5) s) r6 s
        else
          bT (f_12020 3 s) fun s11 r11 =>
          some (s11, r11)
    else if (mf s 5) = 28 then
      if r6 = 46 then
        bO (f_12048 s) fun s13 r13 =>
        some (s13, r13)
      else
        if r6 = 47 then
          bO (f_12048 s) fun s16 r16 =>
          some (s16, r16)
        else
          bT (f_12020 3 s) fun s15 r15 =>
          some (s15, r15)
    else if (mf s 5) = 29 then
      bT (f_12020 3 s) fun s17 r17 =>
      some (s17, r17)
    else if (mf s 5) = 30 then
      if r6 = 42 then
        bOv (f_12032 1 s) fun s19 =>
        gd (vi ((mf s19 35) - 1) 100) <|
        gd (vi (mg s19 21 ((mf s19 35) - 1)) 110) <|
        gd (vi (mg s19 21 ((mf s19 35) - 1)) 110) <|
        bS (ms s19 18 (mg s19 21 ((mf s19 35) - 1)) ((mg s19 18 (mg s19 21 ((mf s19 35) - 1))) + 1)) fun s20 =>
        bO (f_12022 30 2 s20) fun s21 r21 =>
        some (s21, r21)
      else
        bT (f_12020 3 s) fun s22 r22 =>
        some (s22, r22)
    else if (mf s 5) = 31 then
      if r6 = 43 then
        bO (f_12047 s) fun s24 r24 =>
        some (s24, r24)
      else
        if r6 = 44 then
          bO (f_12047 s) fun s26 r26 =>
          some (s26, r26)
        else
          if r6 = 45 then
            bO (f_12047 s) fun s28 r28 =>
            some (s28, r28)
          else
            if r6 = 49 then
              bO (f_12047 s) fun s31 r31 =>
              some (s31, r31)
            else
              bT (f_12020 3 s) fun s30 r30 =>
              some (s30, r30)
    else
      bT (f_12020 3 s) fun s8 r8 =>
      some (s8, r8)
  else
    bOv (f_12032 (f_12031 (mf s 5) s) s) fun s32 =>
    if (mf s32 5) = 22 then
      bO (f_12021 6 0 s32) fun s36 r36 =>
      f_12045_J56 (f_12031 (mf s 5) s) r36 s36
    else
      if (mf s32 5) = 23 then
        bO (f_12021 7 0 s32) fun s35 r35 =>
        f_12045_J56 (f_12031 (mf s 5) s) r35 s35
      else
        f_12045_J56 (f_12031 (mf s 5) s) 0 s32
def f_12049  (s : Mx) : Option (Mx × Int32) :=
  if (mf s 5) = 2 then
    bP (f_12030 (mf s 6) ((mf s 7) - (mf s 6)) s) fun r2 =>
    if r2 = (-1) then
      gd (vi (mf s 22) 40) <|
      bS (ms s 12 (mf s 22) (mf s 6)) fun s4 =>
      gd (vi (mf s4 22) 40) <|
      bS (ms s4 13 (mf s4 22) ((mf s4 7) - (mf s4 6))) fun s5 =>
      gd (vi (mf s5 22) 40) <|
      bS (ms s5 14 (mf s5 22) 0) fun s6 =>
      bO (f_12021 14 0 s6) fun s7 r7 =>
      gd (vi 0 10) <|
      bS (ms s7 24 0 r7) fun s8 =>
      gd (vi (mf s8 22) 40) <|
      bS (ms s8 15 (mf s8 22) (mf s8 11)) fun s9 =>
      bS (mp s9 22 ((mf s9 22) + 1)) fun s10 =>
      bS (mp s10 34 1) fun s11 =>
      gd (vi 1 2) <|
      bS (ms s11 9 1 0) fun s12 =>
      bO (f_12022 3 9 s12) fun s13 r13 =>
      some (s13, r13)
    else
      bT (f_12020 6 s) fun s14 r14 =>
      some (s14, r14)
  else
    bT (f_12020 3 s) fun s15 r15 =>
    some (s15, r15)
def f_12050_J37   (s : Mx) : Option (Mx × Int32) :=
  if (mf s 5) = 2 then
    bP (f_12028 s) fun r2 =>
    if r2 = (-1) then
      bO (f_12029 s) fun s4 r4 =>
      if r4 = (-1) then
        bT (f_12020 5 s4) fun s8 r8 =>
        some (s8, r8)
      else
        gd (vi ((mf s4 22) - 1) 40) <|
        gd (vi ((mf s4 22) - 1) 40) <|
        bS (ms s4 14 ((mf s4 22) - 1) ((mg s4 14 ((mf s4 22) - 1)) + 1)) fun s6 =>
        bO (f_12022 2 12 s6) fun s7 r7 =>
        some (s7, r7)
    else
      bT (f_12020 6 s) fun s9 r9 =>
      some (s9, r9)
  else
    bT (f_12020 3 s) fun s10 r10 =>
    some (s10, r10)
def f_12050  (s : Mx) : Option (Mx × Int32) :=
  if (mf s 5) = 27 then
    if (mf s 32) = 10 then
      bS (mp s 33 ((mf s 33) - 1)) fun s13 =>
      bO (f_12022 27 7 s13) fun s14 r14 =>
      some (s14, r14)
    else
      f_12050_J37  s
  else
    f_12050_J37  s
def f_12051_J37  (k0 : Int32) (k1 : Int32) (s : Mx) : Option (Mx × Int32) :=
  bS (mp s 33 (k1 - k0)) fun s1 =>
  if (mf s1 5) = 27 then
    bO (f_12022 27 7 s1) fun s4 r4 =>
    some (s4, r4)
  else
    bT (f_12020 3 s1) fun s3 r3 =>
    some (s3, r3)
def f_12051  (s : Mx) : Option (Mx × Int32) :=
  if (mf s 5) = 30 then
    bO (f_12022 30 11 s) fun s7 r7 =>
    some (s7, r7)
  else
    if (mf s 5) = 27 then
      f_12051_J37 1 (mf s 33) s
    else
      f_12051_J37 0 (mf s 33) s
def f_12052_J67  (l1 : Int32) (k0 : Int32) (k1 : Int32) (s : Mx) : Option (Mx × Int32) :=
  gd (vi (mf s 38) 10) <|
  bO (f_12037 k1 k0 (mg s 24 (mf s 38)) 0 s) fun s1 r1 =>
  some (s1, r1)
def f_12052_J47  (l1 : Int32) (k0 : Int32) (s : Mx) : Option (Mx × Int32) :=
  if l1 = 0 then
    f_12052_J67 l1 (mf s 43) k0 s
  else
    gd (vi (mf s 38) 10) <|
    f_12052_J67 l1 (mg s 23 (mf s 38)) k0 s
def f_12052_J35  (k0 : Int32) (s : Mx) : Option (Mx × Int32) :=
  if k0 = 0 then
    f_12052_J47 k0 9 s
  else
    f_12052_J47 k0 5 s
def f_12052  (s : Mx) : Option (Mx × Int32) :=
  if (mf s 5) = 28 then
    gd (vi ((mf s 14) - 1) 301) <|
    if (mg s 6 ((mf s 14) - 1)) = 5 then
      f_12052_J35 1 s
    else
      f_12052_J35 0 s
  else
    bT (f_12020 3 s) fun s6 r6 =>
    some (s6, r6)
def f_12053 (x0 : Int32) (x1 : Int32) (s : Mx) : Option (Mx × Int32) :=
  if (mf s 5) = x0 then
    bO (f_12022 x0 x1 s) fun s3 r3 =>
    some (s3, r3)
  else
    bT (f_12020 3 s) fun s2 r2 =>
    some (s2, r2)
def f_12054  (s : Mx) : Option (Mx × Int32) :=
  if 0 ≤ (mf s 5) then
    if (mf s 32) = 0 then
      bO (f_12042 s) fun s5 r5 =>
      some (s5, r5)
    else if (mf s 32) = 1 then
      bO (f_12039 s) fun s6 r6 =>
      some (s6, r6)
    else if (mf s 32) = 2 then
      bO (f_12043 s) fun s7 r7 =>
      some (s7, r7)
    else if (mf s 32) = 3 then
      bO (f_12043 s) fun s8 r8 =>
      some (s8, r8)
    else if (mf s 32) = 4 then
      bO (f_12045 s) fun s9 r9 =>
      some (s9, r9)
    else if (mf s 32) = 5 then
      bO (f_12053 25 2 s) fun s10 r10 =>
      some (s10, r10)
    else if (mf s 32) = 6 then
      bOv (f_12024 49 0 s) fun s11 =>
      bO (f_12053 25 2 s11) fun s12 r12 =>
      some (s12, r12)
    else if (mf s 32) = 7 then
      bO (f_12052 s) fun s13 r13 =>
      some (s13, r13)
    else if (mf s 32) = 8 then
      bO (f_12049 s) fun s14 r14 =>
      some (s14, r14)
    else if (mf s 32) = 9 then
      if (mf s 5) = 26 then
        bT (f_12026 s) fun s17 r17 =>
        if r17 = 0 then
          some (s17, 0)
        else
          bO (f_12022 26 10 s17) fun s19 r19 =>
          if r19 = 0 then
            some (s19, 0)
          else
            some (s19, 1)
      else
        bT (f_12020 3 s) fun s16 r16 =>
        some (s16, r16)
    else if (mf s 32) = 10 then
      bO (f_12050 s) fun s21 r21 =>
      some (s21, r21)
    else if (mf s 32) = 11 then
      bO (f_12050 s) fun s22 r22 =>
      some (s22, r22)
    else if (mf s 32) = 12 then
      bO (f_12051 s) fun s23 r23 =>
      some (s23, r23)
    else if (mf s 32) = 13 then
      bT (f_12026 s) fun s24 r24 =>
      if r24 = 0 then
        some (s24, 0)
      else
        bO (f_12022 26 3 s24) fun s26 r26 =>
        if r26 = 0 then
          some (s26, 0)
        else
          some (s26, 1)
    else
      gd (vi (mf s 43) 100) <|
      bS (ms s 8 (mf s 43) (mf s 14)) fun s3 =>
      bO (f_12053 31 0 s3) fun s4 r4 =>
      some (s4, r4)
  else
    bT (f_12020 (-(mf s 5)) s) fun s28 r28 =>
    some (s28, r28)
def f_12055_J179  (k99 : Int32 → Int32 → Mx → Option Mx) (l1 : Int32) (l2 : Int32) (l3 : Int32) (s : Mx) : Option Mx :=
  gd (vi l2 110) <|
  gd (vi (mg s 19 l2) 1200) <|
  bS (ms s 5 (mg s 19 l2) l3) fun s1 =>
  k99 l1 (l2 + 1) s1
def f_12055_J174  (k99 : Int32 → Int32 → Mx → Option Mx) (l1 : Int32) (l2 : Int32) (l3 : Int32) (k0 : Int32) (s : Mx) : Option Mx :=
  bT (f_12020 k0 s) fun s2 r2 =>
  f_12055_J179 k99 l1 l2 l3 s2
def f_12055_J151  (k99 : Int32 → Int32 → Mx → Option Mx) (l1 : Int32) (l2 : Int32) (l3 : Int32) (s : Mx) : Option Mx :=
  gd (vi l2 110) <|
  bS (mp s 6 (mg s 16 l2)) fun s3 =>
  if l3 = (-1) then
    f_12055_J174 k99 l1 l2 l3 7 s3
  else
    f_12055_J174 k99 l1 l2 l3 8 s3
def f_12055_L99  : Nat → Int32 → Int32 → Mx → Option Mx
  | 0, _, _, _ => none
  | n + 1, l1, l2, s =>
    if (mf s 27) ≤ l2 then
      some s
    else
      if (mf s 9) = 0 then
        gd (vi l2 110) <|
        gd (vi l2 110) <|
        bP (f_12030 (mg s 16 l2) (mg s 17 l2) s) fun r7 =>
        if r7 = (-1) then
          f_12055_J151 (f_12055_L99 n) l1 l2 r7 s
        else
          gd (vi r7 40) <|
          gd (vi l2 110) <|
          if (mg s 14 r7) = (mg s 18 l2) then
            f_12055_J179 (f_12055_L99 n) l1 l2 r7 s
          else
            f_12055_J151 (f_12055_L99 n) l1 l2 r7 s
      else
        some s
def f_12055_L81  : Nat → Int32 → Mx → Option Mx
  | 0, _, _ => none
  | n + 1, l1, s =>
    if l1 = 0 then
      f_12055_L99 1000 l1 0 s
    else
      bOv (f_12019 s) fun s11 =>
      bO (f_12054 s11) fun s12 r12 =>
      f_12055_L81 n r12 s12
def f_12055  (s : Mx) : Option Mx :=
  bS (mp s 7 0) fun s13 =>
  bS (mp s13 9 0) fun s14 =>
  bS (mp s14 10 (-1)) fun s15 =>
  bS (mp s15 11 0) fun s16 =>
  bS (mp s16 14 0) fun s17 =>
  bS (mp s17 16 0) fun s18 =>
  gd (vi 0 2) <|
  bS (ms s18 9 0 0) fun s19 =>
  gd (vi 1 2) <|
  bS (ms s19 9 1 0) fun s20 =>
  bS (mp s20 22 0) fun s21 =>
  bS (mp s21 27 0) fun s22 =>
  bS (mp s22 32 0) fun s23 =>
  bS (mp s23 33 0) fun s24 =>
  bS (mp s24 34 0) fun s25 =>
  bS (mp s25 35 0) fun s26 =>
  bS (mp s26 38 0) fun s27 =>
  f_12055_L81 1000 1 s27
def f_12056_J36  (k0 : Int32) (k1 : Int32) (s : Mx) : Mx × Int32 :=
  bS (mp s 49 (k1 - k0)) fun s1 =>
  if (mf s1 50) = 0 then
    (s1, 1)
  else
    (s1, 0)
def f_12056_J16  (k0 : Int32) (s : Mx) : Mx × Int32 :=
  bS (mp s 50 k0) fun s3 =>
  if (mf s3 49) = 0 then
    f_12056_J36 0 (mf s3 49) s3
  else
    f_12056_J36 1 (mf s3 49) s3
def f_12056  (s : Mx) : Mx × Int32 :=
  if (mf s 49) = 0 then
    f_12056_J16 1 s
  else
    f_12056_J16 (mf s 50) s
def f_12057 (x0 : Int32) (s : Mx) : Option Mx :=
  gd (vi (mf s 53) 1300) <|
  bS (ms s 30 (mf s 53) x0) fun s1 =>
  bS (mp s1 53 ((mf s1 53) + 1)) fun s2 =>
  some s2
def f_12058  (s : Mx) : Option (Mx × Int32) :=
  bS (mp s 53 ((mf s 53) - 1)) fun s1 =>
  gd (vi (mf s1 53) 1300) <|
  some (s1, (mg s1 30 (mf s1 53)))
def f_12059_J16  (l1 : Int64) (s : Mx) : Option Mx :=
  bS (mp s 50 2) fun s1 =>
  some s1
def f_12059 (x0 : Int64) (s : Mx) : Option Mx :=
  if 0 < (lg_cmp x0 2147483647) then
    f_12059_J16 x0 s
  else
    if 0 ≤ (lg_cmp x0 (-2147483648)) then
      bOv (f_12057 x0.toInt32 s) fun s4 =>
      some s4
    else
      f_12059_J16 x0 s
def f_12060 (x0 : Int32) (s : Mx) : Int32 :=
  (f_12002 x0.toInt64 0 31 s)
def f_12061 (x0 : Int32) (s : Mx) : Option Mx :=
  bO (f_12058 s) fun s1 r1 =>
  if x0 = 12 then
    bOv (f_12059 (-r1.toInt64) s1) fun s11 =>
    some s11
  else
    if x0 = 24 then
      if r1 = 0 then
        bOv (f_12057 1 s1) fun s10 =>
        some s10
      else
        bOv (f_12057 0 s1) fun s9 =>
        some s9
    else
      if (f_12060 r1 s1) = 0 then
        bS (mp s1 50 4) fun s6 =>
        some s6
      else
        gd (vi r1 32) <|
        bOv (f_12057 (mg s1 34 r1) s1) fun s7 =>
        some s7
def f_12063 (x0 : Int32) (x1 : Int64) (x2 : Int64) (s : Mx) : Option Mx :=
  if (lg_cmp x2 0) = 0 then
    bS (mp s 50 3) fun s5 =>
    some s5
  else
    if x0 = 14 then
      gd (¬ (x2 : Int64) = 0) <|
      bOv (f_12059 (x1 / x2) s) fun s4 =>
      some s4
    else
      gd (¬ (x2 : Int64) = 0) <|
      bOv (f_12059 (x1 - x1 / x2 * x2) s) fun s3 =>
      some s3
def f_12062_J219  (l1 : Int32) (l2 : Int64) (l4 : Int64) (s : Mx) : Option Mx :=
  bOv (f_12063 l1 l4 l2 s) fun s1 =>
  some s1
def f_12062 (x0 : Int32) (s : Mx) : Option Mx :=
  bO (f_12058 s) fun s2 r2 =>
  bO (f_12058 s2) fun s3 r3 =>
  if x0 = 11 then
    bOv (f_12059 (r3.toInt64 + r2.toInt64) s3) fun s5 =>
    some s5
  else if x0 = 12 then
    bOv (f_12059 (r3.toInt64 - r2.toInt64) s3) fun s6 =>
    some s6
  else if x0 = 13 then
    bOv (f_12059 (r3.toInt64 * r2.toInt64) s3) fun s7 =>
    some s7
  else if x0 = 14 then
    f_12062_J219 x0 r2.toInt64 r3.toInt64 s3
  else if x0 = 15 then
    f_12062_J219 x0 r2.toInt64 r3.toInt64 s3
  else if x0 = 16 then
    if 0 ≤ (lg_cmp r3.toInt64 r2.toInt64) then
      bOv (f_12057 0 s3) fun s9 =>
      some s9
    else
      bOv (f_12057 1 s3) fun s10 =>
      some s10
  else if x0 = 17 then
    if 0 < (lg_cmp r3.toInt64 r2.toInt64) then
      bOv (f_12057 0 s3) fun s12 =>
      some s12
    else
      bOv (f_12057 1 s3) fun s13 =>
      some s13
  else if x0 = 18 then
    if (lg_cmp r3.toInt64 r2.toInt64) ≤ 0 then
      bOv (f_12057 0 s3) fun s15 =>
      some s15
    else
      bOv (f_12057 1 s3) fun s16 =>
      some s16
  else if x0 = 19 then
    if (lg_cmp r3.toInt64 r2.toInt64) < 0 then
      bOv (f_12057 0 s3) fun s18 =>
      some s18
    else
      bOv (f_12057 1 s3) fun s19 =>
      some s19
  else if x0 = 20 then
    if (lg_cmp r3.toInt64 r2.toInt64) = 0 then
      bOv (f_12057 1 s3) fun s22 =>
      some s22
    else
      bOv (f_12057 0 s3) fun s21 =>
      some s21
  else if x0 = 21 then
    if (lg_cmp r3.toInt64 r2.toInt64) = 0 then
      bOv (f_12057 0 s3) fun s24 =>
      some s24
    else
      bOv (f_12057 1 s3) fun s25 =>
      some s25
  else
    f_12062_J219 x0 r2.toInt64 r3.toInt64 s3
def f_12064  (s : Mx) : Option Mx :=
  bO (f_12058 s) fun s1 r1 =>
  bO (f_12058 s1) fun s2 r2 =>
  if (f_12060 r2 s2) = 0 then
    bS (mp s2 50 4) fun s5 =>
    some s5
  else
    gd (vi r2 32) <|
    bS (ms s2 34 r2 r1) fun s6 =>
    some s6
def f_12065  (s : Mx) : Option Mx :=
  bO (f_12058 s) fun s1 r1 =>
  if (mf s1 57) = 8 then
    bS (mp s1 50 6) fun s5 =>
    some s5
  else
    gd (vi (mf s1 57) 9) <|
    bS (ms s1 33 (mf s1 57) r1) fun s3 =>
    bS (mp s3 57 ((mf s3 57) + 1)) fun s4 =>
    some s4
def f_12066_L75  : Nat → Int32 → Int32 → Int32 → Mx → Option (Mx × Int32)
  | 0, _, _, _, _ => none
  | n + 1, l1, l2, l3, s =>
    if l3 < 0 then
      gd (vi l1 40) <|
      some (s, (mg s 15 l1))
    else
      bO (f_12058 s) fun s2 r2 =>
      gd (vi ((8 * (mf s 52)) + l3) 88) <|
      bS (ms s2 31 ((8 * (mf s 52)) + l3) r2) fun s3 =>
      f_12066_L75 n l1 l2 (l3 + (-1)) s3
def f_12066_L39  : Nat → Int32 → Int32 → Int32 → Mx → Option (Mx × Int32)
  | 0, _, _, _, _ => none
  | n + 1, l1, l2, l3, s =>
    if 8 ≤ l3 then
      gd (vi l1 40) <|
      f_12066_L75 1000 l1 l2 ((mg s 14 l1) - 1) s
    else
      gd (vi ((8 * (mf s 52)) + l3) 88) <|
      bS (ms s 31 ((8 * (mf s 52)) + l3) 0) fun s5 =>
      f_12066_L39 n l1 l2 (l3 + 1) s5
def f_12066 (x0 : Int32) (x1 : Int32) (s : Mx) : Option (Mx × Int32) :=
  if (mf s 52) = 10 then
    bS (mp s 50 7) fun s9 =>
    some (s9, x1)
  else
    bS (mp s 52 ((mf s 52) + 1)) fun s7 =>
    gd (vi (mf s7 52) 12) <|
    bS (ms s7 32 (mf s7 52) x1) fun s8 =>
    f_12066_L39 1000 x0 x1 0 s8
def f_12067_J216  (l1 : Int32) (l2 : Int32) (s : Mx) : Option (Mx × Int32) :=
  bS (mp s 53 ((mf s 53) - 1)) fun s1 =>
  some (s1, (l1 + 1))
def f_12067_J154  (l1 : Int32) (l2 : Int32) (k0 : Int32) (s : Mx) : Option (Mx × Int32) :=
  bOv (f_12057 k0 s) fun s2 =>
  some (s2, (l1 + 1))
def f_12067 (x0 : Int32) (s : Mx) : Option (Mx × Int32) :=
  gd (vi x0 1200) <|
  gd (vi x0 1200) <|
  if (mg s 4 x0) = 1 then
    bOv (f_12057 (mg s 5 x0) s) fun s4 =>
    some (s4, (x0 + 1))
  else if (mg s 4 x0) = 2 then
    gd (vi ((8 * (mf s 52)) + (mg s 5 x0)) 88) <|
    bOv (f_12057 (mg s 31 ((8 * (mf s 52)) + (mg s 5 x0))) s) fun s5 =>
    some (s5, (x0 + 1))
  else if (mg s 4 x0) = 3 then
    bO (f_12058 s) fun s6 r6 =>
    gd (vi ((8 * (mf s 52)) + (mg s 5 x0)) 88) <|
    bS (ms s6 31 ((8 * (mf s 52)) + (mg s 5 x0)) r6) fun s7 =>
    some (s7, (x0 + 1))
  else if (mg s 4 x0) = 4 then
    f_12067_J216 x0 (mg s 5 x0) s
  else if (mg s 4 x0) = 5 then
    f_12067_J216 x0 (mg s 5 x0) s
  else if (mg s 4 x0) = 6 then
    f_12067_J216 x0 (mg s 5 x0) s
  else if (mg s 4 x0) = 7 then
    f_12067_J216 x0 (mg s 5 x0) s
  else if (mg s 4 x0) = 8 then
    bO (f_12058 s) fun s8 r8 =>
    if r8 = 0 then
      f_12067_J154 x0 (mg s 5 x0) 0 s8
    else
      f_12067_J154 x0 (mg s 5 x0) 1 s8
  else if (mg s 4 x0) = 9 then
    f_12067_J216 x0 (mg s 5 x0) s
  else if (mg s 4 x0) = 10 then
    f_12067_J216 x0 (mg s 5 x0) s
  else if (mg s 4 x0) = 11 then
    bOv (f_12065 s) fun s10 =>
    some (s10, (x0 + 1))
  else if (mg s 4 x0) = 12 then
    bOv (f_12064 s) fun s11 =>
    some (s11, (x0 + 1))
  else if (mg s 4 x0) = 13 then
    bO (f_12058 s) fun s12 r12 =>
    if r12 = 0 then
      some (s12, (mg s 5 x0))
    else
      some (s12, (x0 + 1))
  else if (mg s 4 x0) = 14 then
    some (s, (mg s 5 x0))
  else if (mg s 4 x0) = 15 then
    bS (mp s 52 ((mf s 52) - 1)) fun s14 =>
    gd (vi ((mf s14 52) + 1) 12) <|
    some (s14, (mg s14 32 ((mf s14 52) + 1)))
  else
    f_12067_J216 x0 (mg s 5 x0) s
def f_12068_J184  (l1 : Int32) (l2 : Int32) (l3 : Int32) (l4 : Int32) (k0 : Int32) (s : Mx) : Option (Mx × Int32) :=
  bOv (f_12057 k0 s) fun s1 =>
  bS (mp s1 51 ((mf s1 51) + 1)) fun s2 =>
  some (s2, (l1 + 1))
def f_12068_J168  (l1 : Int32) (l2 : Int32) (l3 : Int32) (l4 : Int32) (k0 : Int32) (s : Mx) : Option (Mx × Int32) :=
  bS (mp s 50 k0) fun s3 =>
  if (mf s3 51) = 0 then
    f_12068_J184 l1 l2 l3 l4 l2 s3
  else
    f_12068_J184 l1 l2 l3 l4 l3 s3
def f_12068_J137  (l1 : Int32) (l2 : Int32) (l3 : Int32) (l4 : Int32) (l5 : Int32) (l6 : Int32) (s : Mx) : Option (Mx × Int32) :=
  if l6 = 0 then
    some (s, (l1 + 1))
  else
    some (s, l4)
def f_12068_J134  (l1 : Int32) (l2 : Int32) (l3 : Int32) (l4 : Int32) (l5 : Int32) (l6 : Int32) (k0 : Int32) (s : Mx) : Option (Mx × Int32) :=
  bOv (f_12057 k0 s) fun s6 =>
  f_12068_J137 l1 l2 l3 l4 l5 l6 s6
def f_12068_J116  (l1 : Int32) (l2 : Int32) (l3 : Int32) (l4 : Int32) (l5 : Int32) (k0 : Int32) (s : Mx) : Option (Mx × Int32) :=
  if k0 = 0 then
    f_12068_J137 l1 l2 l3 l4 l5 k0 s
  else
    if l5 = 0 then
      f_12068_J134 l1 l2 l3 l4 l5 k0 0 s
    else
      f_12068_J134 l1 l2 l3 l4 l5 k0 1 s
def f_12068_J108  (l1 : Int32) (l2 : Int32) (l3 : Int32) (l4 : Int32) (l5 : Int32) (k0 : Int32) (k1 : Int32) (s : Mx) : Option (Mx × Int32) :=
  if k1 = k0 then
    f_12068_J116 l1 l2 l3 l4 l5 1 s
  else
    f_12068_J116 l1 l2 l3 l4 l5 0 s
def f_12068_J88  (l1 : Int32) (l2 : Int32) (l3 : Int32) (l4 : Int32) (k0 : Int32) (s : Mx) : Option (Mx × Int32) :=
  gd (vi l1 1200) <|
  if (mg s 4 l1) = 7 then
    f_12068_J108 l1 l2 l3 l4 k0 1 k0 s
  else
    f_12068_J108 l1 l2 l3 l4 k0 0 k0 s
def f_12068_J76  (l1 : Int32) (l2 : Int32) (l3 : Int32) (l4 : Int32) (s : Mx) : Option (Mx × Int32) :=
  bO (f_12058 s) fun s11 r11 =>
  if r11 = 0 then
    f_12068_J88 l1 l2 l3 l4 0 s11
  else
    f_12068_J88 l1 l2 l3 l4 1 s11
def f_12068 (x0 : Int32) (x1 : Int32) (x2 : Int32) (s : Mx) : Option (Mx × Int32) :=
  gd (vi x0 1200) <|
  gd (vi x0 1200) <|
  if (mg s 4 x0) = 4 then
    bOv (f_12061 (mg s 5 x0) s) fun s14 =>
    some (s14, (x0 + 1))
  else if (mg s 4 x0) = 5 then
    bOv (f_12062 (mg s 5 x0) s) fun s15 =>
    some (s15, (x0 + 1))
  else if (mg s 4 x0) = 6 then
    f_12068_J76 x0 x1 x2 (mg s 5 x0) s
  else if (mg s 4 x0) = 7 then
    f_12068_J76 x0 x1 x2 (mg s 5 x0) s
  else if (mg s 4 x0) = 8 then
    some (s, (x0 + 1))
  else if (mg s 4 x0) = 9 then
    if (mf s 51) = 2 then
      f_12068_J168 x0 x1 x2 (mg s 5 x0) 5 s
    else
      f_12068_J168 x0 x1 x2 (mg s 5 x0) (mf s 50) s
  else if (mg s 4 x0) = 10 then
    bO (f_12066 (mg s 5 x0) (x0 + 1) s) fun s17 r17 =>
    some (s17, r17)
  else
    some (s, (x0 + 1))
def f_12069 (x0 : Int32) (s : Mx) : Int32 :=
  if x0 = 0 then
    1
  else
    if x0 = 4 then
      1
    else
      if x0 = 5 then
        1
      else
        if x0 = 6 then
          1
        else
          if x0 = 7 then
            1
          else
            if x0 = 9 then
              1
            else
              if x0 = 10 then
                1
              else
                0
def f_12070_L81  : Nat → Int32 → Int32 → Int32 → Int32 → Mx → Option Mx
  | 0, _, _, _, _, _ => none
  | n + 1, l1, l2, l3, l4, s =>
    if (mf s 50) = 0 then
      gd (vi l4 1200) <|
      if (mg s 4 l4) = 17 then
        some s
      else
        gd (vi l4 1200) <|
        if (f_12069 (mg s 4 l4) s) = 0 then
          bO (f_12067 l4 s) fun s8 r8 =>
          f_12070_L81 n l1 l2 l3 r8 s8
        else
          bT (f_12056 s) fun s5 r5 =>
          if r5 = 0 then
            f_12070_L81 n l1 l2 l3 l4 s5
          else
            bO (f_12068 l4 l2 l3 s5) fun s7 r7 =>
            f_12070_L81 n l1 l2 l3 r7 s7
    else
      some s
def f_12070_L57  : Nat → Int32 → Int32 → Int32 → Int32 → Mx → Option Mx
  | 0, _, _, _, _, _ => none
  | n + 1, l1, l2, l3, l4, s =>
    if 8 ≤ l4 then
      f_12070_L81 1000000000 l1 l2 l3 0 s
    else
      gd (vi l4 88) <|
      bS (ms s 31 l4 0) fun s10 =>
      f_12070_L57 n l1 l2 l3 (l4 + 1) s10
def f_12070_L33  : Nat → Int32 → Int32 → Int32 → Int32 → Mx → Option Mx
  | 0, _, _, _, _, _ => none
  | n + 1, l1, l2, l3, l4, s =>
    if 32 ≤ l4 then
      f_12070_L57 1000000000 l1 l2 l3 0 s
    else
      gd (vi l4 32) <|
      bS (ms s 34 l4 0) fun s12 =>
      f_12070_L33 n l1 l2 l3 (l4 + 1) s12
def f_12070 (x0 : Int32) (x1 : Int32) (x2 : Int32) (s : Mx) : Option Mx :=
  bS (mp s 49 x0) fun s13 =>
  bS (mp s13 50 0) fun s14 =>
  bS (mp s14 51 0) fun s15 =>
  bS (mp s15 52 0) fun s16 =>
  bS (mp s16 53 0) fun s17 =>
  bS (mp s17 57 0) fun s18 =>
  f_12070_L33 1000000000 x0 x1 x2 0 s18
def f_12071_L10  : Nat → Int32 → Mx → Option Mx
  | 0, _, _ => none
  | n + 1, l1, s =>
    if (mf s 0) ≤ l1 then
      bOv (f_12055 s) fun s2 =>
      some s2
    else
      gd (vi l1 300) <|
      gd (vi l1 300) <|
      bS (ms s 3 l1 (vp_nar .char (mg s 1 l1))) fun s3 =>
      f_12071_L10 n (l1 + 1) s3
def f_12071  (s : Mx) : Option Mx :=
  bS (mp s 4 (mf s 0)) fun s4 =>
  f_12071_L10 1000 0 s4
def f_12072_L12  : Nat → Int32 → Int32 → Mx → Option Mx
  | 0, _, _, _ => none
  | n + 1, l1, l2, s =>
    if (mf s 4) ≤ l2 then
      bOv (f_12055 s) fun s2 =>
      some s2
    else
      gd (vi ((300 * l1) + l2) 9000) <|
      gd (vi l2 300) <|
      bS (ms s 3 l2 (vp_nar .char (mg s 2 ((300 * l1) + l2)))) fun s3 =>
      f_12072_L12 n l1 (l2 + 1) s3
def f_12072 (x0 : Int32) (s : Mx) : Option Mx :=
  gd (vi x0 30) <|
  bS (mp s 4 (mg s 45 x0)) fun s4 =>
  f_12072_L12 1000 x0 0 s4
def f_12073  (s : Mx) : Option (Mx × Int32) :=
  bOv (f_12071 s) fun s1 =>
  bT (f_12004 (mf s1 9) s1) fun s2 r2 =>
  some (s2, r2)
def f_12074  (s : Mx) : Option (Mx × Int32) :=
  bOv (f_12071 s) fun s1 =>
  bT (f_12004 (mf s1 10) s1) fun s2 r2 =>
  some (s2, r2)
def f_12075_J17  (k0 : Int32) (s : Mx) : Option (Mx × Int32) :=
  bT (f_12003 k0 1 1 s) fun s1 r1 =>
  if r1 = 0 then
    some (s1, 0)
  else
    some (s1, (mf s1 16))
def f_12075  (s : Mx) : Option (Mx × Int32) :=
  bOv (f_12071 s) fun s3 =>
  if (mf s3 9) = 0 then
    f_12075_J17 1 s3
  else
    f_12075_J17 0 s3
def f_12076_L91  : Nat → Int32 → Int32 → Int32 → Int32 → Mx → Option (Mx × Int32)
  | 0, _, _, _, _, _ => none
  | n + 1, l1, l2, l3, l4, s =>
    if 32 ≤ l4 then
      some (s, (mf s 50))
    else
      gd (vi l4 32) <|
      gd (vi l4 32) <|
      bS (ms s 36 l4 (mg s 34 l4)) fun s2 =>
      f_12076_L91 n l1 l2 l3 (l4 + 1) s2
def f_12076_L61  : Nat → Int32 → Int32 → Int32 → Int32 → Mx → Option (Mx × Int32)
  | 0, _, _, _, _, _ => none
  | n + 1, l1, l2, l3, l4, s =>
    if 8 ≤ l4 then
      f_12076_L91 1000 l1 l2 l3 0 s
    else
      gd (vi l4 9) <|
      gd (vi l4 9) <|
      bS (ms s 35 l4 (mg s 33 l4)) fun s4 =>
      f_12076_L61 n l1 l2 l3 (l4 + 1) s4
def f_12076_J26  (l1 : Int32) (l2 : Int32) (l3 : Int32) (k0 : Int32) (k1 : Int32) (s : Mx) : Option (Mx × Int32) :=
  bT (f_12003 k1 k0 1 s) fun s5 r5 =>
  if r5 = 0 then
    some (s5, 0)
  else
    bOv (f_12070 l1 l2 l3 s5) fun s7 =>
    bS (mp s7 60 (mf s7 57)) fun s8 =>
    bS (mp s8 63 (mf s8 49)) fun s9 =>
    f_12076_L61 1000 l1 l2 l3 0 s9
def f_12076 (x0 : Int32) (x1 : Int32) (x2 : Int32) (s : Mx) : Option (Mx × Int32) :=
  bOv (f_12071 s) fun s10 =>
  if (mf s10 9) = 0 then
    f_12076_J26 x0 x1 x2 1 (f_12002 x0.toInt64 0 5000 s10) s10
  else
    f_12076_J26 x0 x1 x2 0 (f_12002 x0.toInt64 0 5000 s10) s10
def f_12077 (x0 : Int32) (x1 : Int32) (x2 : Int32) (s : Mx) : Option (Mx × Int32) :=
  bO (f_12076 x0 x1 x2 s) fun s1 r1 =>
  some (s1, r1)
def f_12078  (s : Mx) : Mx × Int32 :=
  bT (f_12004 (mf s 60) s) fun s1 r1 =>
  (s1, r1)
def f_12079 (x0 : Int32) (s : Mx) : Option (Mx × Int32) :=
  bT (f_12003 (f_12002 x0.toInt64 0 (((mf s 60) - 1).toInt64) s) 1 1 s) fun s2 r2 =>
  if r2 = 0 then
    some (s2, 0)
  else
    gd (vi x0 9) <|
    some (s2, (mg s2 35 x0))
def f_12080  (s : Mx) : Mx × Int32 :=
  bT (f_12004 (mf s 63) s) fun s1 r1 =>
  (s1, r1)
def f_12081 (x0 : Int32) (s : Mx) : Option (Mx × Int32) :=
  bT (f_12003 (f_12060 x0 s) 1 1 s) fun s2 r2 =>
  if r2 = 0 then
    some (s2, 0)
  else
    gd (vi x0 32) <|
    some (s2, (mg s2 36 x0))
def f_12082 (x0 : Int32) (s : Mx) : Int32 :=
  (f_12002 x0.toInt64 0 (((mf s 65) - 1).toInt64) s)
def f_12083 (x0 : Int32) (x1 : Int32) (s : Mx) : Option Int32 :=
  if (f_12082 x0 s) = 0 then
    some 0
  else
    gd (vi x0 4) <|
    if (f_12002 x1.toInt64 0 (((mg s 39 x0) - 1).toInt64) s) = 0 then
      some 0
    else
      some 1
def f_12084_J47  (l1 : Int32) (l2 : Int32) (k0 : Int32) (k1 : Int32) (s : Mx) : Option (Mx × Int32) :=
  bT (f_12003 k1 k0 1 s) fun s1 r1 =>
  if r1 = 0 then
    some (s1, 0)
  else
    gd (vi (mf s1 65) 4) <|
    bS (ms s1 37 (mf s1 65) l1) fun s3 =>
    gd (vi (mf s3 65) 4) <|
    bS (ms s3 38 (mf s3 65) l2) fun s4 =>
    gd (vi (mf s4 65) 4) <|
    bS (ms s4 39 (mf s4 65) 0) fun s5 =>
    bS (mp s5 65 ((mf s5 65) + 1)) fun s6 =>
    some (s6, ((mf s6 65) - 1))
def f_12084_J34  (l1 : Int32) (l2 : Int32) (k0 : Int32) (s : Mx) : Option (Mx × Int32) :=
  if 4 ≤ (mf s 65) then
    f_12084_J47 l1 l2 0 k0 s
  else
    f_12084_J47 l1 l2 1 k0 s
def f_12084_J33  (l1 : Int32) (l2 : Int32) (s : Mx) : Option (Mx × Int32) :=
  f_12084_J34 l1 l2 0 s
def f_12084 (x0 : Int32) (x1 : Int32) (s : Mx) : Option (Mx × Int32) :=
  if (f_12002 x0.toInt64 1 2000 s) = 0 then
    f_12084_J33 x0 x1 s
  else
    if (f_12002 x1.toInt64 ((mf s 64).toInt64) 1000 s) = 0 then
      f_12084_J33 x0 x1 s
    else
      f_12084_J34 x0 x1 1 s
def f_12085_J125  (l1 : Int32) (l2 : Int32) (l3 : Int32) (l4 : Int32) (l5 : Int32) (s : Mx) : Option Mx :=
  gd (vi ((8 * l1) + l2) 240) <|
  bS (ms s 50 ((8 * l1) + l2) (mf s 50)) fun s1 =>
  gd (vi ((8 * l1) + l2) 240) <|
  bS (ms s1 51 ((8 * l1) + l2) (vp_nar .boolean l4)) fun s2 =>
  some s2
def f_12085_L75  : Nat → Int32 → Int32 → Int32 → Int32 → Int32 → Mx → Option Mx
  | 0, _, _, _, _, _, _ => none
  | n + 1, l1, l2, l3, l4, l5, s =>
    gd (vi l3 32) <|
    if (mg s 42 l3) ≤ l5 then
      f_12085_J125 l1 l2 l3 l4 l5 s
    else
      if l4 = 0 then
        f_12085_J125 l1 l2 l3 l4 l5 s
      else
        gd (vi l5 9) <|
        gd (vi ((2 * l3) + l5) 64) <|
        if (mg s 33 l5) = (mg s 43 ((2 * l3) + l5)) then
          f_12085_L75 n l1 l2 l3 1 (l5 + 1) s
        else
          f_12085_L75 n l1 l2 l3 0 (l5 + 1) s
def f_12085 (x0 : Int32) (x1 : Int32) (s : Mx) : Option Mx :=
  gd (vi x0 30) <|
  gd (vi x0 30) <|
  gd (vi (mg s 47 x0) 4) <|
  gd (vi (2 * ((8 * (mg s 47 x0)) + x1)) 64) <|
  gd (vi ((2 * ((8 * (mg s 47 x0)) + x1)) + 1) 64) <|
  bOv (f_12070 (mg s 37 (mg s 47 x0)) (mg s 41 (2 * ((8 * (mg s 47 x0)) + x1))) (mg s 41 ((2 * ((8 * (mg s 47 x0)) + x1)) + 1)) s) fun s6 =>
  if (mf s6 50) = 0 then
    gd (vi ((8 * (mg s 47 x0)) + x1) 32) <|
    if (mf s6 57) = (mg s6 42 ((8 * (mg s 47 x0)) + x1)) then
      f_12085_L75 1000 x0 x1 ((8 * (mg s 47 x0)) + x1) 1 0 s6
    else
      f_12085_L75 1000 x0 x1 ((8 * (mg s 47 x0)) + x1) 0 0 s6
  else
    f_12085_L75 1000 x0 x1 ((8 * (mg s 47 x0)) + x1) 0 0 s6
def f_12086_L171  : Nat → Int32 → Int32 → Int32 → Int32 → Int32 → Int32 → Int32 → Int32 → Int32 → Int32 → Int32 → Mx → Option (Mx × Int32)
  | 0, _, _, _, _, _, _, _, _, _, _, _, _ => none
  | n + 1, l1, l2, l3, l4, l5, l6, l7, l8, l9, l10, l11, s =>
    if (mf s 74) ≤ l11 then
      some (s, l9)
    else
      gd (vi l11 30) <|
      if (mg s 47 l11) = l1 then
        bOv (f_12072 l11 s) fun s3 =>
        bOv (f_12085 l11 l9 s3) fun s4 =>
        f_12086_L171 n l1 l2 l3 l4 l5 l6 l7 l8 l9 l10 (l11 + 1) s4
      else
        f_12086_L171 n l1 l2 l3 l4 l5 l6 l7 l8 l9 l10 (l11 + 1) s
def f_12086_J61  (l1 : Int32) (l2 : Int32) (l3 : Int32) (l4 : Int32) (l5 : Int32) (l6 : Int32) (l7 : Int32) (l8 : Int32) (k0 : Int32) (k1 : Int32) (k2 : Int32) (s : Mx) : Option (Mx × Int32) :=
  bT (f_12003 k2 k1 k0 s) fun s5 r5 =>
  if r5 = 0 then
    some (s5, 0)
  else
    gd (vi l1 4) <|
    gd (vi ((8 * l1) + (mg s5 39 l1)) 32) <|
    bS (ms s5 40 ((8 * l1) + (mg s5 39 l1)) l2) fun s7 =>
    gd (vi (2 * ((8 * l1) + (mg s5 39 l1))) 64) <|
    bS (ms s7 41 (2 * ((8 * l1) + (mg s5 39 l1))) l3) fun s8 =>
    gd (vi ((2 * ((8 * l1) + (mg s5 39 l1))) + 1) 64) <|
    bS (ms s8 41 ((2 * ((8 * l1) + (mg s5 39 l1))) + 1) l4) fun s9 =>
    gd (vi ((8 * l1) + (mg s5 39 l1)) 32) <|
    bS (ms s9 42 ((8 * l1) + (mg s5 39 l1)) l5) fun s10 =>
    gd (vi (2 * ((8 * l1) + (mg s5 39 l1))) 64) <|
    bS (ms s10 43 (2 * ((8 * l1) + (mg s5 39 l1))) l6) fun s11 =>
    gd (vi ((2 * ((8 * l1) + (mg s5 39 l1))) + 1) 64) <|
    bS (ms s11 43 ((2 * ((8 * l1) + (mg s5 39 l1))) + 1) l7) fun s12 =>
    gd (vi ((8 * l1) + (mg s5 39 l1)) 32) <|
    bS (ms s12 44 ((8 * l1) + (mg s5 39 l1)) (vp_nar .boolean 0)) fun s13 =>
    gd (vi l1 4) <|
    gd (vi l1 4) <|
    bS (ms s13 39 l1 ((mg s13 39 l1) + 1)) fun s14 =>
    f_12086_L171 1000 l1 l2 l3 l4 l5 l6 l7 l8 (mg s5 39 l1) ((8 * l1) + (mg s5 39 l1)) 0 s14
def f_12086_J60  (l1 : Int32) (l2 : Int32) (l3 : Int32) (l4 : Int32) (l5 : Int32) (l6 : Int32) (l7 : Int32) (l8 : Int32) (k0 : Int32) (k1 : Int32) (s : Mx) : Option (Mx × Int32) :=
  f_12086_J61 l1 l2 l3 l4 l5 l6 l7 l8 0 k0 k1 s
def f_12086_J40  (l1 : Int32) (l2 : Int32) (l3 : Int32) (l4 : Int32) (l5 : Int32) (l6 : Int32) (l7 : Int32) (l8 : Int32) (k0 : Int32) (k1 : Int32) (s : Mx) : Option (Mx × Int32) :=
  if l8 = 0 then
    f_12086_J60 l1 l2 l3 l4 l5 l6 l7 l8 k0 k1 s
  else
    gd (vi l1 4) <|
    if 8 ≤ (mg s 39 l1) then
      f_12086_J60 l1 l2 l3 l4 l5 l6 l7 l8 k0 k1 s
    else
      f_12086_J61 l1 l2 l3 l4 l5 l6 l7 l8 1 k0 k1 s
def f_12086_J39  (l1 : Int32) (l2 : Int32) (l3 : Int32) (l4 : Int32) (l5 : Int32) (l6 : Int32) (l7 : Int32) (l8 : Int32) (k0 : Int32) (s : Mx) : Option (Mx × Int32) :=
  f_12086_J40 l1 l2 l3 l4 l5 l6 l7 l8 0 k0 s
def f_12086 (x0 : Int32) (x1 : Int32) (x2 : Int32) (x3 : Int32) (x4 : Int32) (x5 : Int32) (x6 : Int32) (s : Mx) : Option (Mx × Int32) :=
  if (f_12002 x1.toInt64 1 10 s) = 0 then
    f_12086_J39 x0 x1 x2 x3 x4 x5 x6 (f_12082 x0 s) (f_12082 x0 s) s
  else
    if (f_12002 x4.toInt64 0 2 s) = 0 then
      f_12086_J39 x0 x1 x2 x3 x4 x5 x6 (f_12082 x0 s) (f_12082 x0 s) s
    else
      f_12086_J40 x0 x1 x2 x3 x4 x5 x6 (f_12082 x0 s) 1 (f_12082 x0 s) s
def f_12097_J97  (k7 : Int32 → Int32 → Int32 → Int32 → Mx → Option Int32) (l1 : Int32) (l2 : Int32) (l3 : Int32) (l4 : Int32) (l5 : Int32) (k0 : Int32) (s : Mx) : Option Int32 :=
  k7 l1 l2 (k0 + 0) (l4 + 1) s
def f_12097_J59  (k7 : Int32 → Int32 → Int32 → Int32 → Mx → Option Int32) (l1 : Int32) (l2 : Int32) (l3 : Int32) (l4 : Int32) (l5 : Int32) (k0 : Int32) (k1 : Int32) (s : Mx) : Option Int32 :=
  gd (vi l5 32) <|
  if (mg s 44 l5) = 0 then
    gd (vi ((8 * l1) + l4) 240) <|
    if (mg s 51 ((8 * l1) + l4)) = 0 then
      f_12097_J97 k7 l1 (k1 + k0) l3 l4 l5 l3 s
    else
      gd (vi l5 32) <|
      k7 l1 (k1 + k0) (l3 + (mg s 40 l5)) (l4 + 1) s
  else
    f_12097_J97 k7 l1 (k1 + k0) l3 l4 l5 l3 s
def f_12097_L7  : Nat → Int32 → Int32 → Int32 → Int32 → Mx → Option Int32
  | 0, _, _, _, _, _ => none
  | n + 1, l1, l2, l3, l4, s =>
    gd (vi l1 30) <|
    gd (vi (mg s 47 l1) 4) <|
    if (mg s 39 (mg s 47 l1)) ≤ l4 then
      if l2 = 0 then
        some 0
      else
        gd (¬ (l2 : Int32) = 0) <|
        some ((100 * l3) / l2)
    else
      gd (vi l1 30) <|
      gd (vi ((8 * (mg s 47 l1)) + l4) 32) <|
      if (mg s 44 ((8 * (mg s 47 l1)) + l4)) = 0 then
        gd (vi ((8 * (mg s 47 l1)) + l4) 32) <|
        f_12097_J59 (f_12097_L7 n) l1 l2 l3 l4 ((8 * (mg s 47 l1)) + l4) (mg s 40 ((8 * (mg s 47 l1)) + l4)) l2 s
      else
        f_12097_J59 (f_12097_L7 n) l1 l2 l3 l4 ((8 * (mg s 47 l1)) + l4) 0 l2 s
def f_12097 (x0 : Int32) (s : Mx) : Option Int32 :=
  f_12097_L7 1000 x0 0 0 0 s
def f_12098_J41  (l1 : Int32) (l2 : Int32) (k0 : Int32) (s : Mx) : Option Int32 :=
  gd (vi l1 30) <|
  if (mg s 49 l1) = 0 then
    bP (f_12097 l1 s) fun r2 =>
    gd (¬ (100 : Int32) = 0) <|
    some ((r2 * (100 - k0)) / 100)
  else
    some 0
def f_12098 (x0 : Int32) (s : Mx) : Option Int32 :=
  gd (vi x0 30) <|
  gd (vi x0 30) <|
  gd (vi (mg s 47 x0) 4) <|
  if ((mg s 48 x0) - (mg s 38 (mg s 47 x0))) ≤ 5 then
    if ((mg s 48 x0) - (mg s 38 (mg s 47 x0))) ≤ 0 then
      f_12098_J41 x0 ((mg s 48 x0) - (mg s 38 (mg s 47 x0))) 0 s
    else
      f_12098_J41 x0 ((mg s 48 x0) - (mg s 38 (mg s 47 x0))) (10 * ((mg s 48 x0) - (mg s 38 (mg s 47 x0)))) s
  else
    f_12098_J41 x0 ((mg s 48 x0) - (mg s 38 (mg s 47 x0))) 50 s
def f_12087_J105  (k47 : Int32 → Int32 → Int32 → Int32 → Int32 → Mx → Option (Mx × Int32)) (l1 : Int32) (l2 : Int32) (l3 : Int32) (l4 : Int32) (l5 : Int32) (l6 : Int32) (k0 : Int32) (k1 : Int32) (s : Mx) : Option (Mx × Int32) :=
  gd (vi ((8 * l1) + l2) 32) <|
  bS (ms s 44 ((8 * l1) + l2) (vp_nar .boolean 0)) fun s1 =>
  k47 l1 l2 l3 (k1 + k0) (l5 + 1) s1
def f_12087_L47  : Nat → Int32 → Int32 → Int32 → Int32 → Int32 → Mx → Option (Mx × Int32)
  | 0, _, _, _, _, _, _ => none
  | n + 1, l1, l2, l3, l4, l5, s =>
    if (mf s 74) ≤ l5 then
      gd (vi ((8 * l1) + l2) 32) <|
      bS (ms s 44 ((8 * l1) + l2) (vp_nar .boolean 1)) fun s3 =>
      some (s3, l4)
    else
      gd (vi l5 30) <|
      if (mg s 47 l5) = l1 then
        bP (f_12098 l5 s) fun r5 =>
        gd (vi ((8 * l1) + l2) 32) <|
        bS (ms s 44 ((8 * l1) + l2) (vp_nar .boolean 1)) fun s6 =>
        bP (f_12098 l5 s6) fun r7 =>
        if r7 = r5 then
          f_12087_J105 (f_12087_L47 n) l1 l2 l3 l4 l5 r5 0 l4 s6
        else
          f_12087_J105 (f_12087_L47 n) l1 l2 l3 l4 l5 r5 1 l4 s6
      else
        f_12087_L47 n l1 l2 l3 l4 (l5 + 1) s
def f_12087_J32  (l1 : Int32) (l2 : Int32) (l3 : Int32) (k0 : Int32) (k1 : Int32) (s : Mx) : Option (Mx × Int32) :=
  bT (f_12003 k1 k0 1 s) fun s9 r9 =>
  if r9 = 0 then
    some (s9, 0)
  else
    f_12087_L47 1000 l1 l2 l3 0 0 s9
def f_12087_J31  (l1 : Int32) (l2 : Int32) (l3 : Int32) (k0 : Int32) (s : Mx) : Option (Mx × Int32) :=
  f_12087_J32 l1 l2 l3 0 k0 s
def f_12087 (x0 : Int32) (x1 : Int32) (s : Mx) : Option (Mx × Int32) :=
  bP (f_12083 x0 x1 s) fun r11 =>
  if r11 = 0 then
    f_12087_J31 x0 x1 r11 r11 s
  else
    gd (vi ((8 * x0) + x1) 32) <|
    if (mg s 44 ((8 * x0) + x1)) = 0 then
      f_12087_J32 x0 x1 r11 1 r11 s
    else
      f_12087_J31 x0 x1 r11 r11 s
def f_12088_J33  (l1 : Int32) (l2 : Int32) (k0 : Int32) (k1 : Int32) (s : Mx) : Mx × Int32 :=
  bT (f_12003 k1 k0 1 s) fun s1 r1 =>
  if r1 = 0 then
    (s1, 0)
  else
    bS (mp s1 64 ((mf s1 64) + l1)) fun s3 =>
    (s3, (mf s3 64))
def f_12088_J32  (l1 : Int32) (l2 : Int32) (k0 : Int32) (s : Mx) : Mx × Int32 :=
  f_12088_J33 l1 l2 0 k0 s
def f_12088 (x0 : Int32) (s : Mx) : Mx × Int32 :=
  if (f_12002 x0.toInt64 1 100 s) = 0 then
    f_12088_J32 x0 (f_12002 x0.toInt64 1 100 s) (f_12002 x0.toInt64 1 100 s) s
  else
    if 1000 < ((mf s 64) + x0) then
      f_12088_J32 x0 (f_12002 x0.toInt64 1 100 s) (f_12002 x0.toInt64 1 100 s) s
    else
      f_12088_J33 x0 (f_12002 x0.toInt64 1 100 s) 1 (f_12002 x0.toInt64 1 100 s) s
def f_12089  (s : Mx) : Mx × Int32 :=
  bT (f_12004 (mf s 64) s) fun s1 r1 =>
  (s1, r1)
def f_12090 (x0 : Int32) (s : Mx) : Int32 :=
  (f_12002 x0.toInt64 0 (((mf s 74) - 1).toInt64) s)
def f_12091 (x0 : Int32) (s : Mx) : Int32 :=
  (f_12002 x0.toInt64 0 5 s)
def f_12092_L150  : Nat → Int32 → Int32 → Int32 → Mx → Option (Mx × Int32)
  | 0, _, _, _, _ => none
  | n + 1, l1, l2, l3, s =>
    gd (vi l2 4) <|
    if (mg s 39 l2) ≤ l3 then
      bS (mp s 74 ((mf s 74) + 1)) fun s2 =>
      some (s2, ((mf s2 74) - 1))
    else
      bOv (f_12085 (mf s 74) l3 s) fun s3 =>
      f_12092_L150 n l1 l2 (l3 + 1) s3
def f_12092_L70  : Nat → Int32 → Int32 → Int32 → Mx → Option (Mx × Int32)
  | 0, _, _, _, _ => none
  | n + 1, l1, l2, l3, s =>
    if (mf s 0) ≤ l3 then
      gd (vi (mf s 74) 30) <|
      bS (ms s 46 (mf s 74) l1) fun s5 =>
      gd (vi (mf s5 74) 30) <|
      bS (ms s5 47 (mf s5 74) l2) fun s6 =>
      gd (vi (mf s6 74) 30) <|
      bS (ms s6 48 (mf s6 74) (mf s6 64)) fun s7 =>
      gd (vi (mf s7 74) 30) <|
      bS (ms s7 49 (mf s7 74) (vp_nar .boolean 0)) fun s8 =>
      f_12092_L150 1000 l1 l2 0 s8
    else
      gd (vi l3 300) <|
      gd (vi ((300 * (mf s 74)) + l3) 9000) <|
      bS (ms s 2 ((300 * (mf s 74)) + l3) (vp_nar .char (mg s 1 l3))) fun s9 =>
      f_12092_L70 n l1 l2 (l3 + 1) s9
def f_12092_J46  (l1 : Int32) (l2 : Int32) (k0 : Int32) (k1 : Int32) (s : Mx) : Option (Mx × Int32) :=
  bT (f_12003 k1 k0 1 s) fun s10 r10 =>
  if r10 = 0 then
    some (s10, 0)
  else
    gd (vi (mf s10 74) 30) <|
    bS (ms s10 45 (mf s10 74) (mf s10 0)) fun s12 =>
    f_12092_L70 1000 l1 l2 0 s12
def f_12092_J45  (l1 : Int32) (l2 : Int32) (k0 : Int32) (s : Mx) : Option (Mx × Int32) :=
  f_12092_J46 l1 l2 0 k0 s
def f_12092_J25  (l1 : Int32) (l2 : Int32) (k0 : Int32) (s : Mx) : Option (Mx × Int32) :=
  if (mf s 9) = 0 then
    if 30 ≤ (mf s 74) then
      f_12092_J45 l1 l2 k0 s
    else
      f_12092_J46 l1 l2 1 k0 s
  else
    f_12092_J45 l1 l2 k0 s
def f_12092_J24  (l1 : Int32) (l2 : Int32) (s : Mx) : Option (Mx × Int32) :=
  f_12092_J25 l1 l2 0 s
def f_12092 (x0 : Int32) (x1 : Int32) (s : Mx) : Option (Mx × Int32) :=
  bOv (f_12071 s) fun s15 =>
  if (f_12091 x0 s15) = 0 then
    f_12092_J24 x0 x1 s15
  else
    if (f_12082 x1 s15) = 0 then
      f_12092_J24 x0 x1 s15
    else
      f_12092_J25 x0 x1 1 s15
def f_12093  (s : Mx) : Mx × Int32 :=
  bT (f_12004 (mf s 74) s) fun s1 r1 =>
  (s1, r1)
def f_12094 (x0 : Int32) (x1 : Int32) (s : Mx) : Option Int32 :=
  if (f_12090 x0 s) = 0 then
    some 0
  else
    gd (vi x0 30) <|
    gd (vi (mg s 47 x0) 4) <|
    if (f_12002 x1.toInt64 0 (((mg s 39 (mg s 47 x0)) - 1).toInt64) s) = 0 then
      some 0
    else
      some 1
def f_12095 (x0 : Int32) (x1 : Int32) (s : Mx) : Option (Mx × Int32) :=
  bP (f_12094 x0 x1 s) fun r1 =>
  bT (f_12003 r1 1 1 s) fun s2 r2 =>
  if r2 = 0 then
    some (s2, 0)
  else
    gd (vi ((8 * x0) + x1) 240) <|
    if (mg s2 51 ((8 * x0) + x1)) = 0 then
      some (s2, 0)
    else
      some (s2, 1)
def f_12096 (x0 : Int32) (x1 : Int32) (s : Mx) : Option (Mx × Int32) :=
  bP (f_12094 x0 x1 s) fun r1 =>
  bT (f_12003 r1 1 1 s) fun s2 r2 =>
  if r2 = 0 then
    some (s2, 0)
  else
    gd (vi ((8 * x0) + x1) 240) <|
    some (s2, (mg s2 50 ((8 * x0) + x1)))
def f_12099 (x0 : Int32) (s : Mx) : Option (Mx × Int32) :=
  bT (f_12003 (f_12090 x0 s) 1 1 s) fun s2 r2 =>
  if r2 = 0 then
    some (s2, 0)
  else
    bP (f_12097 x0 s2) fun r4 =>
    some (s2, r4)
def f_12100 (x0 : Int32) (s : Mx) : Option (Mx × Int32) :=
  bT (f_12003 (f_12090 x0 s) 1 1 s) fun s2 r2 =>
  if r2 = 0 then
    some (s2, 0)
  else
    bP (f_12098 x0 s2) fun r4 =>
    some (s2, r4)
def f_12101 (x0 : Int32) (s : Mx) : Option (Mx × Int32) :=
  bO (f_12100 x0 s) fun s1 r1 =>
  some (s1, r1)
def f_12102_J72  (k36 : Int32 → Int32 → Int32 → Int32 → Mx → Option (Mx × Int32)) (l1 : Int32) (l2 : Int32) (l3 : Int32) (l4 : Int32) (k0 : Int32) (s : Mx) : Option (Mx × Int32) :=
  if k0 = 0 then
    k36 l1 l2 l3 (l4 + 1) s
  else
    bP (f_12098 l4 s) fun r2 =>
    if r2 ≤ l3 then
      k36 l1 l2 l3 (l4 + 1) s
    else
      bP (f_12098 l4 s) fun r4 =>
      k36 l1 l2 r4 (l4 + 1) s
def f_12102_J71  (k36 : Int32 → Int32 → Int32 → Int32 → Mx → Option (Mx × Int32)) (l1 : Int32) (l2 : Int32) (l3 : Int32) (l4 : Int32) (s : Mx) : Option (Mx × Int32) :=
  f_12102_J72 k36 l1 l2 l3 l4 0 s
def f_12102_L36  : Nat → Int32 → Int32 → Int32 → Int32 → Mx → Option (Mx × Int32)
  | 0, _, _, _, _, _ => none
  | n + 1, l1, l2, l3, l4, s =>
    if (mf s 74) ≤ l4 then
      some (s, l3)
    else
      gd (vi l4 30) <|
      if (mg s 46 l4) = l1 then
        gd (vi l4 30) <|
        if (mg s 47 l4) = l2 then
          f_12102_J72 (f_12102_L36 n) l1 l2 l3 l4 1 s
        else
          f_12102_J71 (f_12102_L36 n) l1 l2 l3 l4 s
      else
        f_12102_J71 (f_12102_L36 n) l1 l2 l3 l4 s
def f_12102_J21  (l1 : Int32) (l2 : Int32) (k0 : Int32) (s : Mx) : Option (Mx × Int32) :=
  bT (f_12003 k0 1 1 s) fun s8 r8 =>
  if r8 = 0 then
    some (s8, 0)
  else
    f_12102_L36 1000 l1 l2 (-1) 0 s8
def f_12102_J20  (l1 : Int32) (l2 : Int32) (s : Mx) : Option (Mx × Int32) :=
  f_12102_J21 l1 l2 0 s
def f_12102 (x0 : Int32) (x1 : Int32) (s : Mx) : Option (Mx × Int32) :=
  if (f_12091 x0 s) = 0 then
    f_12102_J20 x0 x1 s
  else
    if (f_12082 x1 s) = 0 then
      f_12102_J20 x0 x1 s
    else
      f_12102_J21 x0 x1 1 s
def f_12103_J62  (k22 : Int32 → Int32 → Int32 → Int32 → Mx → Option (Mx × Int32)) (l1 : Int32) (l2 : Int32) (l3 : Int32) (l4 : Int32) (k0 : Int32) (s : Mx) : Option (Mx × Int32) :=
  k22 l1 l2 (k0 + 0) (l4 + 1) s
def f_12103_L22  : Nat → Int32 → Int32 → Int32 → Int32 → Mx → Option (Mx × Int32)
  | 0, _, _, _, _, _ => none
  | n + 1, l1, l2, l3, l4, s =>
    if (mf s 74) ≤ l4 then
      some (s, l3)
    else
      gd (vi l4 30) <|
      if (mg s 47 l4) = l1 then
        gd (vi ((8 * l4) + l2) 240) <|
        if (mg s 51 ((8 * l4) + l2)) = 0 then
          f_12103_J62 (f_12103_L22 n) l1 l2 l3 l4 l3 s
        else
          f_12103_L22 n l1 l2 (l3 + 1) (l4 + 1) s
      else
        f_12103_J62 (f_12103_L22 n) l1 l2 l3 l4 l3 s
def f_12103 (x0 : Int32) (x1 : Int32) (s : Mx) : Option (Mx × Int32) :=
  bP (f_12083 x0 x1 s) fun r4 =>
  bT (f_12003 r4 1 1 s) fun s5 r5 =>
  if r5 = 0 then
    some (s5, 0)
  else
    f_12103_L22 1000 x0 x1 0 0 s5
def f_12104 (x0 : Int32) (s : Mx) : Option (Mx × Int32) :=
  bT (f_12003 (f_12090 x0 s) 1 1 s) fun s2 r2 =>
  if r2 = 0 then
    some (s2, 0)
  else
    bOv (f_12072 x0 s2) fun s4 =>
    some (s4, (mf s4 16))
def f_12105_L41  : Nat → Int32 → Int32 → Int32 → Int32 → Int32 → Mx → Option Int32
  | 0, _, _, _, _, _, _ => none
  | n + 1, l1, l2, l3, l4, l5, s =>
    if l3 < l5 then
      gd (l4 = 0 ∨ l4 = 1) <|
      some l4
    else
      if l4 = 0 then
        gd (l4 = 0 ∨ l4 = 1) <|
        some l4
      else
        gd (vi l1 100) <|
        gd (vi ((mg s 7 l1) + l5) 301) <|
        gd (vi l2 100) <|
        gd (vi ((mg s 27 l2) + l5) 301) <|
        if (mg s 6 ((mg s 7 l1) + l5)) = (mg s 26 ((mg s 27 l2) + l5)) then
          f_12105_L41 n l1 l2 l3 1 (l5 + 1) s
        else
          f_12105_L41 n l1 l2 l3 0 (l5 + 1) s
def f_12105 (x0 : Int32) (x1 : Int32) (s : Mx) : Option Int32 :=
  gd (vi x0 100) <|
  gd (vi x0 100) <|
  gd (vi x1 100) <|
  gd (vi x1 100) <|
  if ((mg s 8 x0) - (mg s 7 x0)) = ((mg s 28 x1) - (mg s 27 x1)) then
    f_12105_L41 1000 x0 x1 ((mg s 8 x0) - (mg s 7 x0)) 1 0 s
  else
    f_12105_L41 1000 x0 x1 ((mg s 8 x0) - (mg s 7 x0)) 0 0 s
def f_12106_J188  (k98 : Int32 → Int32 → Int32 → Int32 → Mx → Option (Mx × Int32)) (l1 : Int32) (l2 : Int32) (l3 : Int32) (l4 : Int32) (l5 : Int32) (l6 : Int32) (s : Mx) : Option (Mx × Int32) :=
  if l5 = 0 then
    k98 l1 l2 (l3 + 0) (l4 + 1) s
  else
    k98 l1 l2 (l3 + 1) (l4 + 1) s
def f_12106_J176  (k98 : Int32 → Int32 → Int32 → Int32 → Mx → Option (Mx × Int32)) (k113 : Int32 → Int32 → Int32 → Int32 → Int32 → Int32 → Mx → Option (Mx × Int32)) (l1 : Int32) (l2 : Int32) (l3 : Int32) (l4 : Int32) (l5 : Int32) (l6 : Int32) (k0 : Int32) (s : Mx) : Option (Mx × Int32) :=
  gd (vi k0 100) <|
  bS (ms s 29 k0 (vp_nar .boolean 1)) fun s2 =>
  k113 l1 l2 l3 l4 l5 (l6 + 1) s2
def f_12106_J153  (k98 : Int32 → Int32 → Int32 → Int32 → Mx → Option (Mx × Int32)) (k113 : Int32 → Int32 → Int32 → Int32 → Int32 → Int32 → Mx → Option (Mx × Int32)) (l1 : Int32) (l2 : Int32) (l3 : Int32) (l4 : Int32) (l5 : Int32) (l6 : Int32) (k0 : Int32) (s : Mx) : Option (Mx × Int32) :=
  gd (vi l6 100) <|
  if (mg s 29 l6) = 0 then
    if k0 = 0 then
      gd (vi l6 100) <|
      bS (ms s 29 l6 (vp_nar .boolean 0)) fun s5 =>
      k113 l1 l2 l3 l4 k0 (l6 + 1) s5
    else
      f_12106_J176 k98 k113 l1 l2 l3 l4 k0 l6 l6 s
  else
    f_12106_J176 k98 k113 l1 l2 l3 l4 k0 l6 l6 s
def f_12106_J152  (k98 : Int32 → Int32 → Int32 → Int32 → Mx → Option (Mx × Int32)) (k113 : Int32 → Int32 → Int32 → Int32 → Int32 → Int32 → Mx → Option (Mx × Int32)) (l1 : Int32) (l2 : Int32) (l3 : Int32) (l4 : Int32) (l5 : Int32) (l6 : Int32) (s : Mx) : Option (Mx × Int32) :=
  f_12106_J153 k98 k113 l1 l2 l3 l4 l5 l6 0 s
def f_12106_L113  (k98 : Int32 → Int32 → Int32 → Int32 → Mx → Option (Mx × Int32)) : Nat → Int32 → Int32 → Int32 → Int32 → Int32 → Int32 → Mx → Option (Mx × Int32)
  | 0, _, _, _, _, _, _, _ => none
  | n + 1, l1, l2, l3, l4, l5, l6, s =>
    if (mf s 44) ≤ l6 then
      f_12106_J188 k98 l1 l2 l3 l4 l5 l6 s
    else
      if l5 = 0 then
        gd (vi l6 100) <|
        if (mg s 29 l6) = 0 then
          bP (f_12105 l4 l6 s) fun r9 =>
          if r9 = 0 then
            f_12106_J152 k98 (f_12106_L113 k98 n) l1 l2 l3 l4 l5 l6 s
          else
            f_12106_J153 k98 (f_12106_L113 k98 n) l1 l2 l3 l4 l5 l6 1 s
        else
          f_12106_J152 k98 (f_12106_L113 k98 n) l1 l2 l3 l4 l5 l6 s
      else
        f_12106_J188 k98 l1 l2 l3 l4 l5 l6 s
def f_12106_L98  : Nat → Int32 → Int32 → Int32 → Int32 → Mx → Option (Mx × Int32)
  | 0, _, _, _, _, _ => none
  | n + 1, l1, l2, l3, l4, s =>
    if (mf s 16) ≤ l4 then
      some (s, l3)
    else
      f_12106_L113 (f_12106_L98 n) 1000 l1 l2 l3 l4 0 0 s
def f_12106_L43  : Nat → Int32 → Int32 → Int32 → Mx → Option (Mx × Int32)
  | 0, _, _, _, _ => none
  | n + 1, l1, l2, l3, s =>
    if (mf s 16) ≤ l3 then
      bOv (f_12072 l1 s) fun s13 =>
      f_12106_L98 1000 l1 l2 0 0 s13
    else
      gd (vi l3 100) <|
      gd (vi l3 100) <|
      bS (ms s 27 l3 (mg s 7 l3)) fun s14 =>
      gd (vi l3 100) <|
      gd (vi l3 100) <|
      bS (ms s14 28 l3 (mg s14 8 l3)) fun s15 =>
      gd (vi l3 100) <|
      bS (ms s15 29 l3 (vp_nar .boolean 0)) fun s16 =>
      f_12106_L43 n l1 l2 (l3 + 1) s16
def f_12106_L15  : Nat → Int32 → Int32 → Int32 → Mx → Option (Mx × Int32)
  | 0, _, _, _, _ => none
  | n + 1, l1, l2, l3, s =>
    if (mf s 14) ≤ l3 then
      f_12106_L43 1000 l1 l2 0 s
    else
      gd (vi l3 301) <|
      gd (vi l3 301) <|
      bS (ms s 26 l3 (mg s 6 l3)) fun s18 =>
      f_12106_L15 n l1 l2 (l3 + 1) s18
def f_12106 (x0 : Int32) (x1 : Int32) (s : Mx) : Option (Mx × Int32) :=
  bOv (f_12072 x1 s) fun s19 =>
  bS (mp s19 44 (mf s19 16)) fun s20 =>
  f_12106_L15 1000 x0 x1 0 s20
def f_12107 (x0 : Int32) (x1 : Int32) (s : Mx) : Option (Mx × Int32) :=
  bO (f_12106 x0 x1 s) fun s1 r1 =>
  if ((mf s1 16) + (mf s1 44)) = 0 then
    some (s1, 0)
  else
    gd (¬ (((mf s1 16) + (mf s1 44)) : Int32) = 0) <|
    some (s1, ((200 * r1) / ((mf s1 16) + (mf s1 44))))
def f_12108_J21  (l1 : Int32) (l2 : Int32) (s : Mx) : Mx × Int32 :=
  bT (f_12003 0 1 1 s) fun s1 r1 =>
  (s1, r1)
def f_12108 (x0 : Int32) (x1 : Int32) (s : Mx) : Mx × Int32 :=
  if (f_12090 x0 s) = 0 then
    f_12108_J21 x0 x1 s
  else
    if (f_12090 x1 s) = 0 then
      f_12108_J21 x0 x1 s
    else
      bT (f_12003 1 1 1 s) fun s6 r6 =>
      (s6, r6)
def f_12109 (x0 : Int32) (x1 : Int32) (s : Mx) : Option (Mx × Int32) :=
  bT (f_12108 x0 x1 s) fun s1 r1 =>
  if r1 = 0 then
    some (s1, 0)
  else
    bO (f_12106 x0 x1 s1) fun s3 r3 =>
    some (s3, r3)
def f_12110 (x0 : Int32) (x1 : Int32) (s : Mx) : Option (Mx × Int32) :=
  bT (f_12108 x0 x1 s) fun s1 r1 =>
  if r1 = 0 then
    some (s1, 0)
  else
    bO (f_12107 x0 x1 s1) fun s3 r3 =>
    some (s3, r3)
def f_12111_J40  (l1 : Int32) (l2 : Int32) (k0 : Int32) (s : Mx) : Option (Mx × Int32) :=
  if k0 = 0 then
    some (s, 0)
  else
    bO (f_12107 l1 l2 s) fun s2 r2 =>
    if r2 < 80 then
      some (s2, 0)
    else
      bO (f_12106 l1 l2 s2) fun s4 r4 =>
      if r4 < 3 then
        some (s4, 0)
      else
        some (s4, 1)
def f_12111_J39  (l1 : Int32) (l2 : Int32) (s : Mx) : Option (Mx × Int32) :=
  f_12111_J40 l1 l2 0 s
def f_12111 (x0 : Int32) (x1 : Int32) (s : Mx) : Option (Mx × Int32) :=
  if x0 ≤ x1 then
    f_12111_J39 x0 x1 s
  else
    gd (vi x0 30) <|
    gd (vi x1 30) <|
    if (mg s 46 x0) = (mg s 46 x1) then
      f_12111_J39 x0 x1 s
    else
      gd (vi x0 30) <|
      gd (vi x1 30) <|
      if (mg s 47 x0) = (mg s 47 x1) then
        f_12111_J40 x0 x1 1 s
      else
        f_12111_J39 x0 x1 s
def f_12112_J51  (l1 : Int32) (l2 : Int32) (l3 : Int32) (k0 : Int32) (k1 : Int32) (s : Mx) : Option (Mx × Int32) :=
  bT (f_12003 k1 k0 1 s) fun s1 r1 =>
  if r1 = 0 then
    some (s1, 0)
  else
    bP (f_12098 l1 s1) fun r3 =>
    gd (vi l1 30) <|
    bS (ms s1 49 l1 (vp_nar .boolean 1)) fun s4 =>
    some (s4, r3)
def f_12112_J50  (l1 : Int32) (l2 : Int32) (l3 : Int32) (k0 : Int32) (s : Mx) : Option (Mx × Int32) :=
  f_12112_J51 l1 l2 l3 0 k0 s
def f_12112_J21  (l1 : Int32) (l2 : Int32) (k0 : Int32) (s : Mx) : Option (Mx × Int32) :=
  if k0 = 0 then
    f_12112_J50 l1 l2 k0 k0 s
  else
    gd (vi l1 30) <|
    if (mg s 49 l1) = 0 then
      bO (f_12111 l1 l2 s) fun s7 r7 =>
      if r7 = 0 then
        f_12112_J50 l1 l2 k0 k0 s7
      else
        f_12112_J51 l1 l2 k0 1 k0 s7
    else
      f_12112_J50 l1 l2 k0 k0 s
def f_12112_J20  (l1 : Int32) (l2 : Int32) (s : Mx) : Option (Mx × Int32) :=
  f_12112_J21 l1 l2 0 s
def f_12112 (x0 : Int32) (x1 : Int32) (s : Mx) : Option (Mx × Int32) :=
  if (f_12090 x0 s) = 0 then
    f_12112_J20 x0 x1 s
  else
    if (f_12090 x1 s) = 0 then
      f_12112_J20 x0 x1 s
    else
      f_12112_J21 x0 x1 1 s
def f_12113_J26  (l1 : Int32) (l2 : Int32) (k0 : Int32) (k1 : Int32) (s : Mx) : Option (Mx × Int32) :=
  bT (f_12003 k1 k0 1 s) fun s1 r1 =>
  if r1 = 0 then
    some (s1, 0)
  else
    gd (vi l1 30) <|
    bS (ms s1 49 l1 (vp_nar .boolean 0)) fun s3 =>
    bP (f_12098 l1 s3) fun r4 =>
    some (s3, r4)
def f_12113_J25  (l1 : Int32) (l2 : Int32) (k0 : Int32) (s : Mx) : Option (Mx × Int32) :=
  f_12113_J26 l1 l2 0 k0 s
def f_12113 (x0 : Int32) (s : Mx) : Option (Mx × Int32) :=
  if (f_12090 x0 s) = 0 then
    f_12113_J25 x0 (f_12090 x0 s) (f_12090 x0 s) s
  else
    gd (vi x0 30) <|
    if (mg s 49 x0) = 0 then
      f_12113_J25 x0 (f_12090 x0 s) (f_12090 x0 s) s
    else
      f_12113_J26 x0 (f_12090 x0 s) 1 (f_12090 x0 s) s
def f_12114_L22  : Nat → Int32 → Int32 → Int32 → Mx → Option (Mx × Int32)
  | 0, _, _, _, _ => none
  | n + 1, l1, l2, l3, s =>
    if l3 < 0 then
      some (s, l2)
    else
      bO (f_12111 l1 l3 s) fun s2 r2 =>
      if r2 = 0 then
        f_12114_L22 n l1 l2 (l3 + (-1)) s2
      else
        f_12114_L22 n l1 l3 (l3 + (-1)) s2
def f_12114 (x0 : Int32) (s : Mx) : Option (Mx × Int32) :=
  bT (f_12003 (f_12090 x0 s) 1 1 s) fun s5 r5 =>
  if r5 = 0 then
    some (s5, 0)
  else
    f_12114_L22 1000 x0 (-1) (x0 - 1) s5
