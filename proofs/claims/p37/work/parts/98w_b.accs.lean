/-! the law accuses: all of it -/
section ACT
variable {T T' : Tx} {m m0 m' : Mx} {tx : List Int32} {e0 n0 td i j k : Nat} {t : Nat → Nat} {A : Nat → List Int32} {v w M : Int32} {es : List Nat} {ts : Nat → List Nat} {as : List Nat} {ps : Nat → Nat} {txs : Nat → List Int32} {ss : Nat → Sx} {pd : Nat} {own : Nat → Nat}
/-- what comes of an act of the desk -/
def AcR (T : Tx) (m : Mx) (A : Nat → List Int32) (e0 n0 td : Nat) (t : Nat → Nat) (tx : List Int32) (es : List Nat) (ts : Nat → List Nat) (as : List Nat) (ps : Nat → Nat) (txs : Nat → List Int32) (ss : Nat → Sx) (pd : Nat) (own : Nat → Nat) (r : Option (Lx × Int32)) : Prop :=
  ∃ T' A' m', r = some ((T', A'), 1) ∧ SInv 0 T' m' tx es ts as ps txs ss pd own ∧ tZ T' = tZ T ∧ BkI m' A' e0 n0 td t ∧ A' 79 = A 79 ∧ ∀ z, z < 78 → A' z = A z
theorem ac_322 (h : SInv 0 T m tx es ts as ps txs ss pd own) (hB : BkI m A e0 n0 td t) (hn : n0 = as.length) (hi : i < n0) (hk : k < n0) (hM : f_12098 (nI i) m = some M) {d C c : Int32} (hd : d = asc (fun k => susV m ss i k) (-1) i 0) (hC : (C = 1 ∧ susV m ss i k ≠ 0) ∨ (C = 0 ∧ susV m ss i k = 0)) (hc : (c = 1 ∧ m 49 i = 0 ∧ susV m ss i k ≠ 0) ∨ (c = 0 ∧ ¬ (m 49 i = 0 ∧ susV m ss i k ≠ 0))) (l5 l8 l9 : Int32) {bc bs : Nat} (hb : 40 ≤ bc ∧ 240 ≤ bs) :
    AcR T m A e0 n0 td t tx es ts as ps txs ss pd own (l_13040_J322 0 74 77 78 79 l5 (nI i) (nI k) l8 l9 1 M d C c bc bs (T, A)) := by
  have hB' := hB
  obtain ⟨b1, ⟨b2, b2'⟩, b3, ⟨l74, l75, l76, l77, l78, l79⟩, c1, cE, c0, cQ, cA⟩ := hB
  obtain ⟨P, J, D, G, g1, g2, g3, g4, g5, g6, g7, g8, g9⟩ := cA i hi
  have x78 : xg (A 78) (nI i) = nI (P + 8 * J + 32 * D + 65536 * G) := by rw [xg_n (by omega), g9]
  have v78 : vi (nI i) (A 78).length := by rw [l78]; exact vi_n (by omega) (by omega)
  have hi' : i < as.length := by omega
  have hk' : k < as.length := by omega
  have n79 : ∀ A' : Nat → List Int32, A' 79 = A 79 → (A' 79).getD 1 0 = nI as.length ∧ (A' 79).length = 6 := fun A' e => by
    rw [e]
    exact ⟨by rw [← hn]; exact c1.2.1, l79⟩
  have key : ∀ (z : Int32) (G' : Nat), G' ≤ 1 → nI (P + 8 * J + 32 * D + 65536 * G) + z = nI (P + 8 * J + 32 * D + 65536 * G') → (if c = 1 then ms m 49 (nI i) 1 else m) = ms m 49 (nI i) (nI G') → AcR T m A e0 n0 td t tx es ts as ps txs ss pd own (l_13040_J340 0 74 77 78 79 l5 (nI i) (nI k) l8 l9 1 M d C c z (xg (A 78) (nI i)) (nI i) 78 bc bs (T, A)) := fun z G' hG' ez em => by
    obtain ⟨A', hA'⟩ : ∃ A' : Nat → List Int32, A' = u1 A 78 ((A 78).set i (nI (P + 8 * J + 32 * D + 65536 * G'))) := ⟨_, rfl⟩
    have o79 : A' 79 = A 79 := by rw [hA']; exact u1_n _ _ (by decide)
    obtain ⟨n1, n2⟩ := n79 A' o79
    obtain ⟨T', m', q1, q2, q3, q4⟩ := ac_377 (A := A') h hi' hk' n1 n2 hM hc g3 (by omega) l5 l8 l9 1 d C (bc := bc) (bs := bs) hb
    rw [em] at q4
    have hBk := hB'.stk hi g1 g2 g3 g4 g5 g6 hG'
    rw [← hA', ← q4] at hBk
    refine ⟨T', A', m', ?_, q2, q3, hBk, o79, fun z hz => by rw [hA']; exact u1_n _ _ (by omega)⟩
    unfold l_13040_J340
    show gd (vi (nI i) (A 78).length) (bS (lSet (T, A) 78 (nI i) (xg (A 78) (nI i) + z)) _) = _
    rw [gd_e v78, x78, ez, lSet_e (by omega), ← hA', bS_eq, if_neg one_0]
    rcases asc_p (D := fun k => susV m ss i k) i 0 with ⟨w1, w2⟩ | ⟨q, w1, w2, w3, w4, w5⟩
    · rw [← hd] at w1
      have z0 : susV m ss i k = 0 := by
        by_cases hki : k < i
        · exact w2 k (Nat.zero_le _) (by omega)
        · unfold susV
          rw [if_pos (by omega)]
      have eC : C = 0 := by
        rcases hC with ⟨_, y⟩ | ⟨y, _⟩
        · exact absurd z0 y
        · exact y
      rw [w1] at q1 ⊢
      rw [if_neg (show ¬ nI i ≤ -1 by rw [i_le, nI_T (by omega), show (-1 : Int32).toInt = -1 by decide]; omega), if_neg (by decide), if_pos eC]
      exact q1
    · rw [← hd] at w3
      rw [w3] at q1 ⊢
      rw [if_neg (fun z => by have := (nI_gle (by omega) (by omega)).1 z; omega), if_neg (show ¬ nI q < -1 by rw [i_lt, nI_T (by omega), show (-1 : Int32).toInt = -1 by decide]; omega)]
      by_cases eC : C = 0
      · rw [if_pos eC]
        exact q1
      · have hs : susV m ss i k ≠ 0 := by
          rcases hC with ⟨_, y⟩ | ⟨y, _⟩
          · exact y
          · exact absurd y eC
        have hki : k < i := by
          by_cases c : i ≤ k
          · exfalso
            apply hs
            unfold susV
            rw [if_pos c]
          · omega
        have := w5 k (Nat.zero_le _) (by omega) hs
        rw [if_neg eC, if_neg (nI_nn (by omega)), if_neg (fun z => by
          rw [i_lt, nI_T (by omega), nI_T (by omega)] at z
          omega)]
        exact q1
  unfold l_13040_J322
  show AcR T m A e0 n0 td t tx es ts as ps txs ss pd own (gd (vi (nI i) (A 78).length) _)
  rw [gd_e v78]
  have mId : ∀ u : Int32, m 49 i = u → ms m 49 (nI i) u = m := fun u hu => by
    obtain ⟨k1, k2⟩ := ms49 (m := m) (u := u) (i := i) (by omega)
    funext y
    by_cases e : y = 49
    · rw [e]
      funext z
      rw [k1]
      by_cases e2 : z = i
      · rw [if_pos e2, e2, hu]
      · rw [if_neg e2]
    · exact k2 y e
  rcases hc with ⟨e, z1, z2⟩ | ⟨e, z⟩
  · have gz : G = 0 := by
      rw [g7] at z1
      exact (nI_eq (b := 0) (by omega) (by omega)).1 z1
    rw [if_neg (show ¬ c = 0 by rw [e]; decide)]
    exact key 65536 1 (Nat.le_refl _) (by
      rw [gz]
      rw [i_eq, Int32.toInt_add, nI_TT (by omega), nI_TT (by omega), show (65536 : Int32).toInt = 65536 by decide, Int.bmod_eq_of_le (by omega) (by omega)]
      omega) (by rw [if_pos e]; rfl)
  · rw [if_pos e]
    exact key 0 G g8 (Int32.add_zero _) (by rw [if_neg (show ¬ c = 1 by rw [e]; decide), mId _ g7])
theorem ac_301 (h : SInv 0 T m tx es ts as ps txs ss pd own) (hB : BkI m A e0 n0 td t) (hn : n0 = as.length) (hi : i < n0) (hk : k < n0) (hM : f_12098 (nI i) m = some M) {d C : Int32} (hd : d = asc (fun k => susV m ss i k) (-1) i 0) (hC : (C = 1 ∧ susV m ss i k ≠ 0) ∨ (C = 0 ∧ susV m ss i k = 0)) (l5 l8 l9 : Int32) {bc bs : Nat} (hb : 40 ≤ bc ∧ 240 ≤ bs) :
    AcR T m A e0 n0 td t tx es ts as ps txs ss pd own (l_13040_J301 0 74 77 78 79 l5 (nI i) (nI k) l8 l9 1 M d C bc bs (T, A)) := by
  have hB' := hB
  obtain ⟨b1, ⟨b2, b2'⟩, b3, ⟨l74, l75, l76, l77, l78, l79⟩, c1, cE, c0, cQ, cA⟩ := hB
  obtain ⟨P, J, D, G, g1, g2, g3, g4, g5, g6, g7, g8, g9⟩ := cA i hi
  have x78 : xg (A 78) (nI i) = nI (P + 8 * J + 32 * D + 65536 * G) := by rw [xg_n (by omega), g9]
  have v78 : vi (nI i) (A 78).length := by rw [l78]; exact vi_n (by omega) (by omega)
  obtain ⟨a1, a2, a3, a4⟩ := a_val (G := G) g2 (by omega : J < 4) g6 g8
  have gz : m 49 i = 0 ↔ G = 0 := by
    rw [g7]
    exact ⟨fun z => (nI_eq (b := 0) (by omega) (by omega)).1 z, fun z => by rw [z]; rfl⟩
  unfold l_13040_J301 l_13040_J321
  rcases hC with ⟨e, z⟩ | ⟨e, z⟩
  · rw [if_neg (show ¬ C = 0 by rw [e]; decide)]
    show AcR T m A e0 n0 td t tx es ts as ps txs ss pd own (gd (vi (nI i) (A 78).length) (if 65536 ≤ xg (A 78) (nI i) then _ else _))
    rw [gd_e v78, x78]
    by_cases g : G = 1
    · rw [if_pos (a4.2 g)]
      exact ac_322 h hB' hn hi hk hM hd (Or.inl ⟨e, z⟩) (Or.inr ⟨rfl, fun y => by have := gz.1 y.1; omega⟩) l5 l8 l9 hb
    · rw [if_neg (fun y => g (a4.1 y))]
      exact ac_322 h hB' hn hi hk hM hd (Or.inl ⟨e, z⟩) (Or.inl ⟨rfl, gz.2 (by omega), z⟩) l5 l8 l9 hb
  · rw [if_pos e]
    exact ac_322 h hB' hn hi hk hM hd (Or.inr ⟨e, z⟩) (Or.inr ⟨rfl, fun y => y.2 z⟩) l5 l8 l9 hb
end ACT
