/-! what a run does: the reference -/
section RREF
def rS (m : Mx) (A : Nat → Nat → Int32) (f e t D h o : Int32) : Mx := fun j v =>
  if j = 0 then (if v = 49 then f else if v = 50 then e else if v = 51 then t else if v = 52 then D else if v = 53 then h else if v = 57 then o else m 0 v)
  else if 30 ≤ j ∧ j ≤ 34 then A j v else m j v
variable {m : Mx} {A : Nat → Nat → Int32} {f e t D h o : Int32}
theorem q_49 {r : Int32} : mp (rS m A f e t D h o) 49 r = rS m A r e t D h o := by
  funext j v
  by_cases hj : j = 0
  · subst hj
    by_cases hv : v = 49
    · subst hv; rfl
    · simp [mp, u2, rS, hv]
  · simp [mp, u2, rS, hj]
theorem q_50 {r : Int32} : mp (rS m A f e t D h o) 50 r = rS m A f r t D h o := by
  funext j v
  by_cases hj : j = 0
  · subst hj
    by_cases hv : v = 50
    · subst hv; rfl
    · simp [mp, u2, rS, hv]
  · simp [mp, u2, rS, hj]
theorem q_51 {r : Int32} : mp (rS m A f e t D h o) 51 r = rS m A f e r D h o := by
  funext j v
  by_cases hj : j = 0
  · subst hj
    by_cases hv : v = 51
    · subst hv; rfl
    · simp [mp, u2, rS, hv]
  · simp [mp, u2, rS, hj]
theorem q_52 {r : Int32} : mp (rS m A f e t D h o) 52 r = rS m A f e t r h o := by
  funext j v
  by_cases hj : j = 0
  · subst hj
    by_cases hv : v = 52
    · subst hv; rfl
    · simp [mp, u2, rS, hv]
  · simp [mp, u2, rS, hj]
theorem q_53 {r : Int32} : mp (rS m A f e t D h o) 53 r = rS m A f e t D r o := by
  funext j v
  by_cases hj : j = 0
  · subst hj
    by_cases hv : v = 53
    · subst hv; rfl
    · simp [mp, u2, rS, hv]
  · simp [mp, u2, rS, hj]
theorem q_57 {r : Int32} : mp (rS m A f e t D h o) 57 r = rS m A f e t D h r := by
  funext j v
  by_cases hj : j = 0
  · subst hj
    by_cases hv : v = 57
    · subst hv; rfl
    · simp [mp, u2, rS, hv]
  · simp [mp, u2, rS, hj]
theorem q_ms {j k : Nat} {v : Int32} (hj : 30 ≤ j ∧ j ≤ 34) (hk : k < 100000) : ms (rS m A f e t D h o) j (nI k) v = rS m (u2 A j k v) f e t D h o := by
  funext a c
  unfold ms
  rw [nI_C hk]
  by_cases ha : a = j
  · subst ha
    have h0 : a ≠ 0 := by omega
    simp [u2, rS, hj, h0]
  · simp [u2, rS, ha]
theorem q_mg {j k : Nat} (hj : 30 ≤ j ∧ j ≤ 34) (hk : k < 100000) : mg (rS m A f e t D h o) j (nI k) = A j k := by
  unfold mg
  rw [nI_C hk]
  have h0 : j ≠ 0 := by omega
  simp [rS, hj, h0]
theorem q_mc {j k : Nat} (hj : j ≠ 0 ∧ j < 30) (hk : k < 100000) : mg (rS m A f e t D h o) j (nI k) = m j k := by
  unfold mg
  rw [nI_C hk]
  have h0 : ¬ 30 ≤ j := by omega
  simp [rS, hj, h0]
theorem q_f49 : mf (rS m A f e t D h o) 49 = f := rfl
theorem q_f50 : mf (rS m A f e t D h o) 50 = e := rfl
theorem q_f51 : mf (rS m A f e t D h o) 51 = t := rfl
theorem q_f52 : mf (rS m A f e t D h o) 52 = D := rfl
theorem q_f53 : mf (rS m A f e t D h o) 53 = h := rfl
theorem q_f57 : mf (rS m A f e t D h o) 57 = o := rfl
theorem q_burn0 : f_12056 (rS m A (nI 0) 0 t D h o) = (rS m A (nI 0) 1 t D h o, 0) := by
  unfold f_12056 f_12056_J16 f_12056_J36
  rw [q_f49, if_pos (show nI 0 = 0 by decide), q_50, bS_eq, q_f49, if_pos (show nI 0 = 0 by decide), q_49, bS_eq, q_f50, if_neg (by decide)]
  rfl
theorem q_burn {n : Nat} (hn : n < 90000) : f_12056 (rS m A (nI (n + 1)) 0 t D h o) = (rS m A (nI n) 0 t D h o, 1) := by
  have h1 : ¬ nI (n + 1) = 0 := by rw [i_eq, nI_T (by omega), i_0]; omega
  unfold f_12056 f_12056_J16 f_12056_J36
  rw [q_f49, if_neg h1, q_f50, q_50, bS_eq, q_f49, if_neg h1, q_49, bS_eq, q_f50, if_pos rfl, nJ_pred (by omega) (by omega)]
  rfl
theorem q_push {k : Nat} {v : Int32} (hk : k < 1300) : f_12057 v (rS m A f e t D (nI k) o) = some (rS m (u2 A 30 k v) f e t D (nI (k + 1)) o) := by
  unfold f_12057
  rw [q_f53, gd_e (vi_n hk (by omega)), q_ms (by decide) (by omega), bS_eq, q_f53, q_53, nJ_succ (by omega), bS_eq]
theorem q_pop {k : Nat} (hk : k < 1300) : f_12058 (rS m A f e t D (nI (k + 1)) o) = some (rS m A f e t D (nI k) o, A 30 k) := by
  unfold f_12058
  rw [q_f53, q_53, nJ_pred (by omega) (by omega), bS_eq, q_f53, show k + 1 - 1 = k from rfl, gd_e (vi_n hk (by omega)), q_mg (by decide) (by omega)]
/-- what comes of it: a value more, or an end -/
def Rz (m : Mx) (A : Nat → Nat → Int32) (f t D : Int32) (k : Nat) (o : Int32) (q : Int32 × Int32) (r : Option Mx) : Prop :=
  (q.1 = -1 → r = some (rS m (u2 A 30 k q.2) f 0 t D (nI (k + 1)) o)) ∧ (q.1 ≠ -1 → ∃ h', r = some (rS m A f q.1 t D h' o))
theorem lg_lt {x y : Int64} : lg_cmp x y < 0 ↔ x.toInt < y.toInt := by
  have h1 := lg_le (x := x) (y := y)
  have h2 := lg_0 (x := x) (y := y)
  rw [i_le, i_0] at h1
  rw [i_eq, i_0] at h2
  rw [i_lt, i_0]
  omega
theorem lg_ge {x y : Int64} : 0 ≤ lg_cmp x y ↔ y.toInt ≤ x.toInt := by
  have h1 := lg_lt (x := x) (y := y)
  rw [i_lt, i_0] at h1
  rw [i_le, i_0]
  omega
theorem lg_gt {x y : Int64} : 0 < lg_cmp x y ↔ y.toInt < x.toInt := by
  have h1 := lg_le (x := x) (y := y)
  rw [i_le, i_0] at h1
  rw [i_lt, i_0]
  omega
theorem q_ck {k : Nat} {z : Int64} (hk : k < 1300) : Rz m A f t D k o (ck z) (f_12059 z (rS m A f 0 t D (nI k) o)) := by
  unfold f_12059 f_12059_J16 ck
  rw [q_50, bS_eq]
  by_cases h1 : lg_cmp z (-2147483648) < 0
  · rw [if_pos h1]
    refine ⟨fun q => absurd q (by decide), fun _ => ⟨nI k, ?_⟩⟩
    rw [lg_lt] at h1
    have : (-2147483648 : Int64).toInt = -2147483648 := by decide
    have : (2147483647 : Int64).toInt = 2147483647 := by decide
    rw [if_neg (by rw [lg_gt]; omega), if_neg (by rw [lg_ge]; omega)]
  rw [if_neg h1]
  rw [lg_lt] at h1
  by_cases h2 : lg_cmp z 2147483647 ≤ 0
  · rw [if_pos h2]
    rw [lg_le] at h2
    refine ⟨fun _ => ?_, fun q => absurd rfl q⟩
    rw [if_neg (by rw [lg_gt]; omega), if_pos (by rw [lg_ge]; omega), q_push hk, bOv_some]
  · rw [if_neg h2]
    rw [lg_le] at h2
    refine ⟨fun q => absurd q (by decide), fun _ => ⟨nI k, ?_⟩⟩
    rw [if_pos (by rw [lg_gt]; omega)]
theorem Rz.bo {k : Nat} {q : Int32 × Int32} {r : Option Mx} (h : Rz m A f t D k o q r) : Rz m A f t D k o q (bOv r fun s => some s) := by
  refine ⟨fun c => ?_, fun c => ?_⟩
  · rw [h.1 c]; rfl
  · obtain ⟨h', e⟩ := h.2 c
    exact ⟨h', by rw [e]; rfl⟩
theorem Rz.vv {k : Nat} {v : Int32} (hk : k < 1300) : Rz m A f t D k o (-1, v) (bOv (f_12057 v (rS m A f 0 t D (nI k) o)) fun s => some s) := by
  refine ⟨fun _ => ?_, fun c => absurd rfl c⟩
  rw [q_push hk]; rfl
theorem Rz.en {k : Nat} {e v : Int32} (he : e ≠ -1) : Rz m A f t D k o (e, v) (some (rS m A f e t D (nI k) o)) := ⟨fun c => absurd c he, fun _ => ⟨_, rfl⟩⟩
theorem q_isc {v : Int32} {s : Mx} : f_12060 v s = 0 ↔ (v < 0 ∨ ¬ v < 32) := by
  unfold f_12060 f_12002
  have e0 : (0 : Int64).toInt = 0 := by decide
  have e31 : (31 : Int64).toInt = 31 := by decide
  have e32 : (32 : Int32).toInt = 32 := by decide
  by_cases h1 : lg_cmp v.toInt64 0 < 0
  · rw [if_pos h1]
    rw [lg_lt, Int32.toInt_toInt64, e0] at h1
    exact ⟨fun _ => Or.inl (by rw [i_lt, i_0]; exact h1), fun _ => rfl⟩
  rw [if_neg h1]
  rw [lg_lt, Int32.toInt_toInt64, e0] at h1
  by_cases h2 : 0 < lg_cmp v.toInt64 31
  · rw [if_pos h2]
    rw [lg_gt, Int32.toInt_toInt64, e31] at h2
    exact ⟨fun _ => Or.inr (by rw [i_lt, e32]; omega), fun _ => rfl⟩
  · rw [if_neg h2]
    rw [lg_gt, Int32.toInt_toInt64, e31] at h2
    refine ⟨fun q => absurd q (by decide), fun q => ?_⟩
    rw [i_lt, i_lt, i_0, e32] at q
    omega
theorem q_one {k : Nat} {C : List Int32} {w v : Int32} (hk : k < 1299) (hw : w = 25 ∨ w = 26 ∨ w = 36) (hv : A 30 k = v) (hC : ∀ j, j < 32 → A 34 j = C.getD j 0) : Rz m A f t D k o (o1 C w v) (f_12061 (wm w) (rS m A f 0 t D (nI (k + 1)) o)) := by
  unfold f_12061
  rw [q_pop (by omega), bO_some, hv]
  rcases hw with e | e | e
  · subst e
    rw [if_neg (show ¬ wm 25 = 12 by decide), if_pos (show wm 25 = 24 by decide)]
    unfold o1
    rw [if_pos rfl]
    by_cases h0 : v = 0
    · rw [if_pos h0, if_pos h0]; exact Rz.vv (by omega)
    · rw [if_neg h0, if_neg h0]; exact Rz.vv (by omega)
  · subst e
    rw [if_neg (show ¬ wm 26 = 12 by decide), if_neg (show ¬ wm 26 = 24 by decide)]
    unfold o1
    rw [if_neg (by decide), if_neg (by decide)]
    rcases cell_or v with ⟨n, hn, e⟩ | hx
    · subst e
      have h32 : nI n < 32 := by rw [i_lt, nI_T (by omega), show (32 : Int32).toInt = 32 by decide]; omega
      rw [if_neg (fun q => (q_isc.1 q).elim (fun z => nI_nn (by omega) z) (fun z => z h32)), if_neg (nI_nn (by omega)), if_pos h32, gd_e (vi_n hn (by omega)), q_mg (by decide) (by omega), xg_n (by omega), hC n hn]
      exact Rz.vv (by omega)
    · rw [if_pos (q_isc.2 hx), q_50, bS_eq]
      rcases hx with hx | hx
      · rw [if_pos hx]; exact Rz.en (by decide)
      · rw [if_neg hx, ite_self]; exact Rz.en (by decide)
  · subst e
    rw [if_pos (show wm 36 = 12 by decide)]
    unfold o1
    rw [if_neg (by decide), if_pos rfl]
    exact (q_ck (by omega)).bo
theorem t64_0 {w : Int32} : lg_cmp w.toInt64 0 = 0 ↔ w = 0 := by
  rw [lg_0, Int32.toInt_toInt64, i_eq, i_0, show (0 : Int64).toInt = 0 by decide]
theorem q_div {k : Nat} {w : Int32} {v z : Int32} (hk : k < 1300) (hw : w = 15 ∨ w = 16) : Rz m A f t D k o (o2 w v z) (f_12063 (wm w) v.toInt64 z.toInt64 (rS m A f 0 t D (nI k) o)) := by
  unfold f_12063
  by_cases h0 : z = 0
  · rw [if_pos (t64_0.2 h0), q_50, bS_eq]
    rcases hw with e | e
    · subst e
      unfold o2
      rw [if_neg (by decide), if_neg (by decide), if_neg (by decide), if_pos rfl, if_pos h0]
      exact Rz.en (by decide)
    · subst e
      unfold o2
      rw [if_neg (by decide), if_neg (by decide), if_neg (by decide), if_neg (by decide), if_pos rfl, if_pos h0]
      exact Rz.en (by decide)
  · rw [if_neg (fun q => h0 (t64_0.1 q))]
    rcases hw with e | e
    · subst e
      unfold o2
      rw [if_neg (by decide), if_neg (by decide), if_neg (by decide), if_pos rfl, if_neg h0, if_pos (show wm 15 = 14 by decide), gd_e (i64_ne h0)]
      exact (q_ck hk).bo
    · subst e
      unfold o2
      rw [if_neg (by decide), if_neg (by decide), if_neg (by decide), if_neg (by decide), if_pos rfl, if_neg h0, if_neg (show ¬ wm 16 = 14 by decide), gd_e (i64_ne h0)]
      exact (q_ck hk).bo
theorem q_two {k : Nat} {w v z : Int32} (hk : k < 1298) (hw : w = 12 ∨ w = 13 ∨ w = 14 ∨ w = 15 ∨ w = 16 ∨ w = 17 ∨ w = 18 ∨ w = 19 ∨ w = 20 ∨ w = 21 ∨ w = 22) (hv : A 30 k = v) (hz : A 30 (k + 1) = z) : Rz m A f t D k o (o2 w v z) (f_12062 (wm w) (rS m A f 0 t D (nI (k + 1 + 1)) o)) := by
  unfold f_12062 f_12062_J219
  rw [q_pop (by omega), bO_some, q_pop (by omega), bO_some, hv, hz]
  have le1 : ∀ {a b : Int32}, (a ≤ b) ↔ a.toInt64.toInt ≤ b.toInt64.toInt := fun {a b} => by rw [i_le, Int32.toInt_toInt64, Int32.toInt_toInt64]
  have lt1 : ∀ {a b : Int32}, (a < b) ↔ a.toInt64.toInt < b.toInt64.toInt := fun {a b} => by rw [i_lt, Int32.toInt_toInt64, Int32.toInt_toInt64]
  have eq1 : ∀ {a b : Int32}, (a = b) ↔ a.toInt64.toInt = b.toInt64.toInt := fun {a b} => by rw [i_eq, Int32.toInt_toInt64, Int32.toInt_toInt64]
  rcases hw with e | e | e | e | e | e | e | e | e | e | e <;> subst e
  · rw [if_pos (by decide)]; exact (q_ck (by omega)).bo
  · rw [if_neg (by decide), if_pos (by decide)]; exact (q_ck (by omega)).bo
  · rw [if_neg (by decide), if_neg (by decide), if_pos (by decide)]; exact (q_ck (by omega)).bo
  · rw [if_neg (by decide), if_neg (by decide), if_neg (by decide), if_pos (by decide)]; exact (q_div (by omega) (Or.inl rfl)).bo
  · rw [if_neg (by decide), if_neg (by decide), if_neg (by decide), if_neg (by decide), if_pos (by decide)]; exact (q_div (by omega) (Or.inr rfl)).bo
  · rw [if_neg (by decide), if_neg (by decide), if_neg (by decide), if_neg (by decide), if_neg (by decide), if_pos (by decide)]
    show Rz m A f t D k o (-1, if z ≤ v then 0 else 1) _
    by_cases c : z ≤ v
    · rw [if_pos c, if_pos (lg_ge.2 (le1.1 c))]; exact Rz.vv (by omega)
    · rw [if_neg c, if_neg (fun q => c (le1.2 (lg_ge.1 q)))]; exact Rz.vv (by omega)
  · rw [if_neg (by decide), if_neg (by decide), if_neg (by decide), if_neg (by decide), if_neg (by decide), if_neg (by decide), if_pos (by decide)]
    show Rz m A f t D k o (-1, if z < v then 0 else 1) _
    by_cases c : z < v
    · rw [if_pos c, if_pos (lg_gt.2 (lt1.1 c))]; exact Rz.vv (by omega)
    · rw [if_neg c, if_neg (fun q => c (lt1.2 (lg_gt.1 q)))]; exact Rz.vv (by omega)
  · rw [if_neg (by decide), if_neg (by decide), if_neg (by decide), if_neg (by decide), if_neg (by decide), if_neg (by decide), if_neg (by decide), if_pos (by decide)]
    show Rz m A f t D k o (-1, if v ≤ z then 0 else 1) _
    by_cases c : v ≤ z
    · rw [if_pos c, if_pos (lg_le.2 (le1.1 c))]; exact Rz.vv (by omega)
    · rw [if_neg c, if_neg (fun q => c (le1.2 (lg_le.1 q)))]; exact Rz.vv (by omega)
  · rw [if_neg (by decide), if_neg (by decide), if_neg (by decide), if_neg (by decide), if_neg (by decide), if_neg (by decide), if_neg (by decide), if_neg (by decide), if_pos (by decide)]
    show Rz m A f t D k o (-1, if v < z then 0 else 1) _
    by_cases c : v < z
    · rw [if_pos c, if_pos (lg_lt.2 (lt1.1 c))]; exact Rz.vv (by omega)
    · rw [if_neg c, if_neg (fun q => c (lt1.2 (lg_lt.1 q)))]; exact Rz.vv (by omega)
  · rw [if_neg (by decide), if_neg (by decide), if_neg (by decide), if_neg (by decide), if_neg (by decide), if_neg (by decide), if_neg (by decide), if_neg (by decide), if_neg (by decide), if_pos (by decide)]
    show Rz m A f t D k o (-1, if v = z then 1 else 0) _
    by_cases c : v = z
    · rw [if_pos c, if_pos (lg_0.2 (eq1.1 c))]; exact Rz.vv (by omega)
    · rw [if_neg c, if_neg (fun q => c (eq1.2 (lg_0.1 q)))]; exact Rz.vv (by omega)
  · rw [if_neg (by decide), if_neg (by decide), if_neg (by decide), if_neg (by decide), if_neg (by decide), if_neg (by decide), if_neg (by decide), if_neg (by decide), if_neg (by decide), if_neg (by decide), if_pos (by decide)]
    show Rz m A f t D k o (-1, if v = z then 0 else 1) _
    by_cases c : v = z
    · rw [if_pos c, if_pos (lg_0.2 (eq1.1 c))]; exact Rz.vv (by omega)
    · rw [if_neg c, if_neg (fun q => c (eq1.2 (lg_0.1 q)))]; exact Rz.vv (by omega)
end RREF
