/-! runs, step by step -/
section RUNS
/-- a step of the walker -/
def wst (s : Sx) : Option Sx := if s.2 13 = 0 then some (f_10002 s) else if s.2 13 = 1 then f_10005 s else f_10007 s
def EW : Nat → Sx → Sx → Prop
  | 0, s, r => s = r ∧ s.2 10 ≠ -1
  | k + 1, s, r => s.2 10 = -1 ∧ ∃ s1, wst s = some s1 ∧ EW k s1 r
theorem going {s : Sx} : f_7002 s = 0 ↔ s.2 10 ≠ -1 := by
  unfold f_7002
  by_cases h : s.2 10 = -1
  · rw [if_pos h]
    exact ⟨fun q => absurd q (by decide), fun q => absurd h q⟩
  · rw [if_neg h]
    exact ⟨fun _ => h, fun _ => rfl⟩
theorem nI_ge6 {l : Nat} (h : l < 1000000) : ¬ (1000000 : Int32) ≤ nI l := by
  rw [i_le, nI_toInt (by omega)]
  have : (1000000 : Int32).toInt = 1000000 := by decide
  omega
theorem EW.run {a b c : Int32} : ∀ (k l n : Nat) (s r : Sx), EW k s r → l + k < 1000000 → k < n → f_10001_L57 n a b c (nI l) s = some r := by
  intro k
  induction k with
  | zero =>
    intro l n s r h hl hn
    obtain ⟨n, rfl⟩ : ∃ n', n = n' + 1 := ⟨n - 1, by omega⟩
    rw [f_10001_L57, if_neg (nI_ge6 (by omega)), if_pos (going.2 h.2), h.1]
  | succ k ih =>
    intro l n s r ⟨h0, s1, h1, h2⟩ hl hn
    obtain ⟨n, rfl⟩ : ∃ n', n = n' + 1 := ⟨n - 1, by omega⟩
    have := ih (l + 1) n s1 r h2 (by omega) (by omega)
    rw [f_10001_L57, if_neg (nI_ge6 (by omega)), if_neg (fun q => going.1 q h0)]
    unfold wst at h1
    by_cases c0 : s.2 13 = 0
    · rw [if_pos c0] at h1 ⊢
      rw [bS_eq, nI_1, Option.some.inj h1]
      exact this
    · rw [if_neg c0] at h1 ⊢
      by_cases c1 : s.2 13 = 1
      · rw [if_pos c1] at h1 ⊢
        rw [h1, bOv_some, nI_1]
        exact this
      · rw [if_neg c1] at h1 ⊢
        rw [h1, bOv_some, nI_1]
        exact this
/-- a step of the class's machine -/
def mst (s : Sx) : Option Sx :=
  if 11 ≤ f_4007 (s.2 11) s then f_3003 (f_4007 (s.2 11) s) (f_4008 (s.2 11) s) (sV s 11 (s.2 11 + 1))
  else some (f_3002 (f_4007 (s.2 11) s) (f_4008 (s.2 11) s) (sV s 11 (s.2 11 + 1)))
def EMl : Nat → Sx → Sx → Prop
  | 0, s, r => s = r ∧ s.2 10 ≠ -1
  | k + 1, s, r => s.2 10 = -1 ∧ ∃ s1, mst s = some s1 ∧ EMl k s1 r
theorem EMl.run {a b c : Int32} : ∀ (k l n : Nat) (s r : Sx), EMl k s r → l + k < 1000000 → k < n → f_3001_L37 n a b c (nI l) s = some r := by
  intro k
  induction k with
  | zero =>
    intro l n s r h hl hn
    obtain ⟨n, rfl⟩ : ∃ n', n = n' + 1 := ⟨n - 1, by omega⟩
    rw [f_3001_L37, if_neg (nI_ge6 (by omega)), if_pos (going.2 h.2), h.1]
  | succ k ih =>
    intro l n s r ⟨h0, s1, h1, h2⟩ hl hn
    obtain ⟨n, rfl⟩ : ∃ n', n = n' + 1 := ⟨n - 1, by omega⟩
    have := ih (l + 1) n s1 r h2 (by omega) (by omega)
    rw [f_3001_L37, if_neg (nI_ge6 (by omega)), if_neg (fun q => going.1 q h0), bS_eq]
    unfold mst at h1
    by_cases c0 : 11 ≤ f_4007 (s.2 11) s
    · rw [if_pos c0] at h1 ⊢
      rw [h1, bOv_some, nI_1]
      exact this
    · rw [if_neg c0] at h1 ⊢
      rw [bS_eq, nI_1, Option.some.inj h1]
      exact this
/-- a step of the reference -/
def rst (x y : Int32) (pc : Int32) (m : Mx) : Option (Mx × Int32) :=
  if f_12069 (mg m 4 pc) m = 0 then f_12067 pc m else if (f_12056 m).2 = 0 then some ((f_12056 m).1, pc) else f_12068 pc x y (f_12056 m).1
def ER (x y : Int32) : Nat → Int32 → Mx → Mx → Prop
  | 0, pc, m, r => m = r ∧ (m 0 50 ≠ 0 ∨ vi pc 1200 ∧ mg m 4 pc = 17)
  | k + 1, pc, m, r => m 0 50 = 0 ∧ vi pc 1200 ∧ mg m 4 pc ≠ 17 ∧ ∃ m1 pc1, rst x y pc m = some (m1, pc1) ∧ ER x y k pc1 m1 r
theorem ER.run {a x y : Int32} : ∀ (k n : Nat) (pc : Int32) (m r : Mx), ER x y k pc m r → k < n → f_12070_L81 n a x y pc m = some r := by
  intro k
  induction k with
  | zero =>
    intro n pc m r h hn
    obtain ⟨n, rfl⟩ : ∃ n', n = n' + 1 := ⟨n - 1, by omega⟩
    rw [f_12070_L81]
    by_cases h5 : mf m 50 = 0
    · rw [if_pos h5]
      rcases h.2 with q | ⟨q1, q2⟩
      · exact absurd h5 q
      · rw [gd_e q1, if_pos q2, h.1]
    · rw [if_neg h5, h.1]
  | succ k ih =>
    intro n pc m r ⟨h0, h1, h2, m1, pc1, h3, h4⟩ hn
    obtain ⟨n, rfl⟩ : ∃ n', n = n' + 1 := ⟨n - 1, by omega⟩
    have := ih n pc1 m1 r h4 (by omega)
    rw [f_12070_L81, if_pos (show mf m 50 = 0 from h0), gd_e h1, if_neg h2, gd_e h1]
    unfold rst at h3
    by_cases c0 : f_12069 (mg m 4 pc) m = 0
    · rw [if_pos c0] at h3 ⊢
      rw [h3, bO_some]
      exact this
    · rw [if_neg c0] at h3 ⊢
      rw [bT]
      by_cases c1 : (f_12056 m).2 = 0
      · rw [if_pos c1] at h3 ⊢
        cases h3
        exact this
      · rw [if_neg c1] at h3 ⊢
        rw [h3, bO_some]
        exact this
end RUNS
