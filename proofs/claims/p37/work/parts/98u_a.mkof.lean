/-! the law's own books, and marks by them -/
section BOO
variable {T T' : Tx} {m m0 m' : Mx} {tx : List Int32} {e0 n0 td i j : Nat} {t : Nat → Nat} {A : Nat → List Int32}
/-- the books: exercises, answers, day -/
def BkE (m : Mx) (A : Nat → List Int32) (t : Nat → Nat) (i : Nat) : Prop := ∃ F D : Nat, m 37 i = nI F ∧ m 38 i = nI D ∧ 1 ≤ F ∧ F ≤ 300 ∧ D ≤ 508 ∧ (A 77).getD i 0 = nI (F + 4096 * D) ∧ m 39 i = nI (t i) ∧ t i ≤ 8 ∧ (A 77).getD (4 + i) 0 = nI (t i)
def BkQ (m : Mx) (A : Nat → List Int32) (q : Nat) : Prop := ∃ W G c u v : Nat, m 40 q = nI W ∧ 1 ≤ W ∧ W ≤ 10 ∧ m 44 q = nI G ∧ G ≤ 1 ∧ (A 74).getD q 0 = nI (W + 16 * G) ∧ (A 75).getD (2 * q) 0 = m 41 (2 * q) ∧ (A 75).getD (2 * q + 1) 0 = m 41 (2 * q + 1) ∧ m 42 q = nI c ∧ c ≤ 2 ∧ m 43 (2 * q) = nI u ∧ u < 10 ∧ m 43 (2 * q + 1) = nI v ∧ v < 10 ∧ (A 76).getD q 0 = nI (c + 4 * u + 64 * v)
def BkA (m : Mx) (A : Nat → List Int32) (e0 i : Nat) : Prop := ∃ P J D G : Nat, m 46 i = nI P ∧ P < 6 ∧ m 47 i = nI J ∧ J < e0 ∧ m 48 i = nI D ∧ D ≤ 500 ∧ m 49 i = nI G ∧ G ≤ 1 ∧ (A 78).getD i 0 = nI (P + 8 * J + 32 * D + 65536 * G)
def BkI (m : Mx) (A : Nat → List Int32) (e0 n0 td : Nat) (t : Nat → Nat) : Prop :=
  (m 0 65 = nI e0 ∧ e0 ≤ 4) ∧ (m 0 74 = nI n0 ∧ n0 ≤ 30) ∧ (m 0 64 = nI td ∧ td ≤ 500) ∧
  ((A 74).length = 32 ∧ (A 75).length = 64 ∧ (A 76).length = 32 ∧ (A 77).length = 8 ∧ (A 78).length = 30 ∧ (A 79).length = 6) ∧
  ((A 79).getD 0 0 = nI e0 ∧ (A 79).getD 1 0 = nI n0 ∧ (A 79).getD 2 0 = nI td) ∧
  (∀ i, i < e0 → BkE m A t i) ∧ (∀ i, e0 ≤ i → i < 4 → (A 77).getD (4 + i) 0 = 0) ∧ (∀ i j, i < e0 → j < t i → BkQ m A (8 * i + j)) ∧ ∀ i, i < n0 → BkA m A e0 i
theorem BkI.of {m' : Mx} {A' : Nat → List Int32} (h : BkI m A e0 n0 td t) (hM : Mw m m') (hA : ∀ z, 74 ≤ z → z < 79 → A' z = A z) (hl : (A' 79).length = 6) (h0 : (A' 79).getD 0 0 = (A 79).getD 0 0) (h1 : (A' 79).getD 1 0 = (A 79).getD 1 0) (h2 : (A' 79).getD 2 0 = (A 79).getD 2 0) : BkI m' A' e0 n0 td t := by
  obtain ⟨hj, hf⟩ := hM
  unfold BkI BkE BkQ BkA at h ⊢
  rw [hj 37 (by omega), hj 38 (by omega), hj 39 (by omega), hj 40 (by omega), hj 41 (by omega), hj 42 (by omega), hj 43 (by omega), hj 44 (by omega), hj 46 (by omega), hj 47 (by omega), hj 48 (by omega), hj 49 (by omega), hf 64 (by omega), hf 65 (by omega), hf 74 (by omega), hA 74 (by omega) (by omega), hA 75 (by omega) (by omega), hA 76 (by omega) (by omega), hA 77 (by omega) (by omega), hA 78 (by omega) (by omega), h0, h1, h2]
  obtain ⟨a1, a2, a3, ⟨b1, b2, b3, b4, b5, b6⟩, a5⟩ := h
  exact ⟨a1, a2, a3, ⟨b1, b2, b3, b4, b5, hl⟩, a5⟩
theorem nI_TT {n : Nat} (h : n < 2000000000) : (nI n).toInt = n := nI_toInt (by omega)
theorem nI_dv {a b : Nat} (ha : a < 2000000000) (hb : b < 90000) : nI a / nI b = nI (a / b) := by
  have hab : a / b ≤ a := Nat.div_le_self a b
  rw [i_eq, Int32.toInt_div, nI_TT ha, nI_TT (by omega), nI_TT (by omega), Int.tdiv_eq_ediv_of_nonneg (by omega), Int.bmod_eq_of_le (by have := Int.ediv_nonneg (a := (a : Int)) (b := (b : Int)) (by omega) (by omega); omega) (by
    have h1 : ((a : Int) / (b : Int)) = ((a / b : Nat) : Int) := rfl
    omega)]
  rfl
theorem nI_md {a b : Nat} (ha : a < 2000000000) (hb : b < 90000) (h0 : 0 < b) : nI a % nI b = nI (a % b) := by
  have hab : a % b < b := Nat.mod_lt a h0
  rw [i_eq, Int32.toInt_mod, nI_TT ha, nI_TT (by omega), nI_TT (by omega), Int.tmod_eq_emod_of_nonneg (by omega)]
  rfl
/-- what an answer passes -/
theorem psE {es : List Nat} {ts : Nat → List Nat} {as : List Nat} {ps : Nat → Nat} {txs : Nat → List Int32} {ss : Nat → Sx} {pd : Nat} {own : Nat → Nat} (h : SInv 0 T m tx es ts as ps txs ss pd own) (hi : i < as.length) (h47 : m 47 i = nI j) (hj : j < 4) {k : Nat} (hk : nI k < m 39 j) (hk8 : k < 8) : h_13015 0 (nI i) (nI k) T = some (m 51 (8 * i + k)) ∧ (m 51 (8 * i + k) = 0 ∨ m 51 (8 * i + k) = 1) := by
  have h30 := h.2.2.2.2.1.2.1
  obtain ⟨j', j1, j2, j3, a1, a2, a3, a4, a5, a6, a7, a8, a9, _⟩ := h.an hi
  have ej : j' = j := (nI_eq (by omega) (by omega)).1 (a4.symm.trans h47)
  subst ej
  have h39 : m 39 j' = nI (ts j').length := a3.2.2.2.2.2.2.2.2.2.2.2.2.1
  have ht := a3.2.2.2.2.2.2.1
  have hk' : k < (ts j').length := by
    rw [h39, i_lt, nI_T (by omega), nI_T (by omega)] at hk
    omega
  obtain ⟨q1, q2, q3⟩ := a9 k hk'
  have ek : (nI k).toInt = k := nI_T (by omega)
  have ei : (nI i).toInt = i := nI_T (by omega)
  refine ⟨?_, q3⟩
  have hh : h_11022 0 (nI i) (nI k) T = some (.inr (m 51 (8 * i + k))) := by
    unfold h_11022
    rw [gd_e h.1.1, g39n h hi, bXn_some, gd_e a1, a2, bP_some, g41 a3, if_pos (by omega), bXn_some, gd_e a1, a7, bP_some, gd_e a8, xg_at (by omega), ek, Int.toNat_natCast, q2]
    rcases q3 with q | q
    · rw [q, if_neg (by decide)]
    · rw [q, if_pos rfl]
  unfold h_13015
  rw [hh]
  rcases q3 with q | q
  · rw [q]; rfl
  · rw [q]; rfl
end BOO
