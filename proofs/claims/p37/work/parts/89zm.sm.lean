/-! how many parts two answers have in common: the reference -/
section SMX
variable {m : Mx} {sa sb : Sx}
def ptS (s : Sx) (i : Nat) : Nat := ((s.1 5).getD i 0).toNatClampNeg
def ptE (s : Sx) (i : Nat) : Nat := ((s.1 6).getD i 0).toNatClampNeg
theorem gD_mem {l : List Int32} {k : Nat} (hk : k < l.length) : l.getD k 0 ∈ l := by
  rw [List.getD_eq_getElem?_getD, List.getElem?_eq_getElem hk]
  exact List.getElem_mem hk
theorem TkO.s {s : Sx} {i k : Nat} (h : TkO s i) (hk : k < (s.1 5).length) (hi : i ≤ 300) : (s.1 5).getD k 0 = nI (ptS s k) ∧ ptS s k < i ∧ PtO (s.1 0) (ptS s k) := by
  obtain ⟨x, h1, h2, h3⟩ := h.2.1 _ (gD_mem hk)
  have ep : ptS s k = x := by
    unfold ptS
    rw [h1, nI_C (by omega)]
  rw [ep]
  exact ⟨h1, h2, h3⟩
theorem TkO.e {s : Sx} {i k : Nat} (h : TkO s i) (hk : k < (s.1 6).length) (hi : i ≤ 300) : (s.1 6).getD k 0 = nI (ptE s k) ∧ ptE s k ≤ i := by
  obtain ⟨x, h1, h2⟩ := h.2.2 _ (gD_mem hk)
  have ep : ptE s k = x := by
    unfold ptE
    rw [h1, nI_C (by omega)]
  rw [ep]
  exact ⟨h1, h2⟩
/-- two programs' parts, as the reference compares them -/
noncomputable def alw (f : Int32 → Int32) (sa sb : Sx) (i j : Nat) : Bool := @decide (AL f (sa.1 0) (sb.1 0) (ptS sa i) (ptE sa i) (ptS sb j) (ptE sb j)) (Classical.propDecidable _)
theorem alw_t {f : Int32 → Int32} {i j : Nat} : alw f sa sb i j = true ↔ AL f (sa.1 0) (sb.1 0) (ptS sa i) (ptE sa i) (ptS sb j) (ptE sb j) := by
  unfold alw
  exact @decide_eq_true_iff _ (Classical.propDecidable _)
/-- what the comparison looks at -/
def Cmp (m : Mx) (sa sb : Sx) (ia ib na nb : Nat) : Prop :=
  ia ≤ 300 ∧ ib ≤ 300 ∧ na ≤ 100 ∧ nb ≤ 100 ∧ m 0 16 = nI na ∧ m 0 44 = nI nb ∧ (∀ k, k < ia → m 6 k = wm ((sa.1 0).getD k 0)) ∧ (∀ k, k < ib → m 26 k = wm ((sb.1 0).getD k 0)) ∧
  (∀ k, k < na → m 7 k = nI (ptS sa k) ∧ m 8 k = nI (ptE sa k) - 1 ∧ ptS sa k < ia ∧ ptE sa k ≤ ia) ∧ ∀ k, k < nb → m 27 k = nI (ptS sb k) ∧ m 28 k = nI (ptE sb k) - 1 ∧ ptS sb k < ib ∧ ptE sb k ≤ ib
theorem sub_i {a b : Nat} (ha : a < 1000) (hb : b < 1000) : (nI b - 1 - nI a).toInt = (b : Int) - 1 - a := by
  have h1 : (nI b - 1).toInt = (b : Int) - 1 := by
    rw [Int32.toInt_sub, nI_T (by omega), i_1, Int.bmod_eq_of_le (by omega) (by omega)]
  rw [Int32.toInt_sub, h1, nI_T (by omega), Int.bmod_eq_of_le (by omega) (by omega)]
theorem nI_pl {a b : Nat} (ha : a < 40000) (hb : b < 40000) : nI a + nI b = nI (a + b) := by
  rw [i_eq, Int32.toInt_add, nI_T (by omega), nI_T (by omega), nI_T (by omega), Int.bmod_eq_of_le (by omega) (by omega)]
  omega
theorem al_L41 {ia ib na nb i j : Nat} (hC : Cmp m sa sb ia ib na nb) (hi : i < na) (hj : j < nb) (hz : (ptE sa i : Int) - ptS sa i = (ptE sb j : Int) - ptS sb j) :
    ∀ (q n k : Nat), ptE sa i ≤ ptS sa i + k + q → q < n → (∀ t, t < k → ptS sa i + t < ptE sa i → wm ((sa.1 0).getD (ptS sa i + t) 0) = wm ((sb.1 0).getD (ptS sb j + t) 0)) → k ≤ 301 → 
    ∃ v, f_12105_L41 n (nI i) (nI j) (nI (ptE sa i) - 1 - nI (ptS sa i)) 1 (nI k) m = some v ∧ ((v = 1 ∧ AL wm (sa.1 0) (sb.1 0) (ptS sa i) (ptE sa i) (ptS sb j) (ptE sb j)) ∨ (v = 0 ∧ ¬ AL wm (sa.1 0) (sb.1 0) (ptS sa i) (ptE sa i) (ptS sb j) (ptE sb j))) := by
  obtain ⟨c1, c2, c3, c4, c5, c6, c7, c8, c9, c10⟩ := hC
  obtain ⟨a1, a2, a3, a4⟩ := c9 i hi
  obtain ⟨b1, b2, b3, b4⟩ := c10 j hj
  intro q
  induction q with
  | zero =>
    intro n k hk hn hq h301
    obtain ⟨n, rfl⟩ : ∃ n', n = n' + 1 := ⟨n - 1, by omega⟩
    refine ⟨1, ?_, Or.inl ⟨rfl, hz, fun t ht => hq t (by omega) ht⟩⟩
    rw [f_12105_L41, if_pos (by rw [i_lt, sub_i (by omega) (by omega), nI_T (by omega)]; omega), gd_e (Or.inr rfl)]
  | succ q ih =>
    intro n k hk hn hq h301
    obtain ⟨n, rfl⟩ : ∃ n', n = n' + 1 := ⟨n - 1, by omega⟩
    rw [f_12105_L41]
    by_cases c : nI (ptE sa i) - 1 - nI (ptS sa i) < nI k
    · rw [if_pos c, gd_e (Or.inr rfl)]
      rw [i_lt, sub_i (by omega) (by omega), nI_T (by omega)] at c
      exact ⟨1, rfl, Or.inl ⟨rfl, hz, fun t ht => hq t (by omega) ht⟩⟩
    · rw [if_neg c, if_neg (by decide)]
      rw [i_lt, sub_i (by omega) (by omega), nI_T (by omega)] at c
      have g7 : mg m 7 (nI i) = nI (ptS sa i) := by unfold mg; rw [nI_C (by omega)]; exact a1
      have g27 : mg m 27 (nI j) = nI (ptS sb j) := by unfold mg; rw [nI_C (by omega)]; exact b1
      have g6 : mg m 6 (nI (ptS sa i + k)) = wm ((sa.1 0).getD (ptS sa i + k) 0) := by unfold mg; rw [nI_C (by omega)]; exact c7 _ (by omega)
      have g26 : mg m 26 (nI (ptS sb j + k)) = wm ((sb.1 0).getD (ptS sb j + k) 0) := by unfold mg; rw [nI_C (by omega)]; exact c8 _ (by omega)
      rw [gd_e (vi_n (by omega) (by omega)), g7, nI_pl (by omega) (by omega), gd_e (vi_n (by omega) (by omega)), gd_e (vi_n (by omega) (by omega)), g27, nI_pl (by omega) (by omega), gd_e (vi_n (by omega) (by omega)), g6, g26, nI_p1 (by omega)]
      by_cases e : wm ((sa.1 0).getD (ptS sa i + k) 0) = wm ((sb.1 0).getD (ptS sb j + k) 0)
      · rw [if_pos e]
        exact ih n (k + 1) (by omega) (by omega) (fun t ht1 ht2 => by
          by_cases et : t = k
          · rw [et]; exact e
          · exact hq t (by omega) ht2) (by omega)
      · rw [if_neg e]
        refine ⟨0, ?_, Or.inr ⟨rfl, fun w => e (w.2 k (by omega))⟩⟩
        obtain ⟨n, rfl⟩ : ∃ n', n = n' + 1 := ⟨n - 1, by omega⟩
        rw [f_12105_L41]
        by_cases c' : nI (ptE sa i) - 1 - nI (ptS sa i) < nI (k + 1)
        · rw [if_pos c', gd_e (Or.inl rfl)]
        · rw [if_neg c', if_pos rfl, gd_e (Or.inl rfl)]
theorem al_ref {ia ib na nb i j : Nat} (hC : Cmp m sa sb ia ib na nb) (hi : i < na) (hj : j < nb) : f_12105 (nI i) (nI j) m = some (if alw wm sa sb i j = true then 1 else 0) := by
  have hC' := hC
  obtain ⟨c1, c2, c3, c4, c5, c6, c7, c8, c9, c10⟩ := hC
  obtain ⟨a1, a2, a3, a4⟩ := c9 i hi
  obtain ⟨b1, b2, b3, b4⟩ := c10 j hj
  have g7 : mg m 7 (nI i) = nI (ptS sa i) := by unfold mg; rw [nI_C (by omega)]; exact a1
  have g8 : mg m 8 (nI i) = nI (ptE sa i) - 1 := by unfold mg; rw [nI_C (by omega)]; exact a2
  have g27 : mg m 27 (nI j) = nI (ptS sb j) := by unfold mg; rw [nI_C (by omega)]; exact b1
  have g28 : mg m 28 (nI j) = nI (ptE sb j) - 1 := by unfold mg; rw [nI_C (by omega)]; exact b2
  unfold f_12105
  rw [gd_e (vi_n (by omega) (by omega)), gd_e (vi_n (by omega) (by omega)), gd_e (vi_n (by omega) (by omega)), gd_e (vi_n (by omega) (by omega)), g7, g8, g27, g28]
  by_cases c : nI (ptE sa i) - 1 - nI (ptS sa i) = nI (ptE sb j) - 1 - nI (ptS sb j)
  · rw [if_pos c]
    have hz : (ptE sa i : Int) - ptS sa i = (ptE sb j : Int) - ptS sb j := by
      rw [i_eq, sub_i (by omega) (by omega), sub_i (by omega) (by omega)] at c
      omega
    obtain ⟨v, h1, h2⟩ := al_L41 hC' hi hj hz 301 1000 0 (by omega) (by omega) (fun t ht => by omega) (by omega)
    rw [show (0 : Int32) = nI 0 by decide, h1]
    rcases h2 with ⟨w1, w2⟩ | ⟨w1, w2⟩
    · rw [if_pos (alw_t.2 w2), w1]
    · rw [if_neg (fun q => w2 (alw_t.1 q)), w1]; rfl
  · rw [if_neg c, if_neg (fun q => by
      have := (alw_t.1 q).1
      apply c
      rw [i_eq, sub_i (by omega) (by omega), sub_i (by omega) (by omega)]
      omega)]
    rw [show (1000 : Nat) = 999 + 1 from rfl, f_12105_L41]
    by_cases c' : nI (ptE sa i) - 1 - nI (ptS sa i) < 0
    · rw [if_pos c', gd_e (Or.inl rfl)]
    · rw [if_neg c', if_pos rfl, gd_e (Or.inl rfl)]
end SMX
