/-! the school: the class counts what two programs have in common -/
section CMN
variable {T T' : Tx} {p q i j k na nb : Nat} {sa sb s : Sx} {m : Mx}
def Prt (s : Sx) (n : Nat) : Prop := n ≤ 100 ∧ (s.1 5).length = n ∧ ∀ k, k < n → (s.1 5).getD k 0 = nI (ptS s k) ∧ (s.1 6).getD k 0 = nI (ptE s k) ∧ ptS s k ≤ 300 ∧ ptE s k ≤ 300
theorem Prt.of {c d : Nat} (hC : PgC s i c d) (hM : PgM s i c d m) (ht : TkO s i) : Prt s (s.1 5).length := by
  have h3 := hM.2.2.2.2.2.1
  have h300 := hC.1
  refine ⟨by omega, rfl, fun k hk => ?_⟩
  obtain ⟨h1, h1', _⟩ := ht.s hk hC.1
  obtain ⟨h2, h2'⟩ := ht.e (k := k) (by rw [hM.2.2.2.2.1]; exact hk) hC.1
  exact ⟨h1, h2, by omega, by omega⟩
theorem PrgAt.pr (hP : PrgAt T p) (hs : PrgIs T p s) : (tK T p = 5 ∧ tW T p 0 = some (p + 1) ∧ tK T (p + 1) = 10 ∧ tW T (p + 1) 0 = some (p + 2) ∧ tK T (p + 2) = 7 ∧ tB T (p + 2) = s.1 0) ∧ (tW T p 1 = some (p + 12) ∧ tK T (p + 12) = 7 ∧ tB T (p + 12) = s.1 5) ∧ tW T p 2 = some (p + 14) ∧ tK T (p + 14) = 7 ∧ tB T (p + 14) = s.1 6 :=
  ⟨⟨hP.1, hP.2.2.1, hP.2.1, hP.2.2.2.1 0 (by decide), (hP.2.2.2.2.2.1 0 (by decide)).1, hs.1 0 (by decide)⟩, ⟨hP.2.2.2.2.1 0 (by decide), (hP.2.2.2.2.2.1 5 (by decide)).1, hs.1 5 (by decide)⟩, hP.2.2.2.2.1 1 (by decide), (hP.2.2.2.2.2.1 6 (by decide)).1, hs.1 6 (by decide)⟩
theorem sub2_i {a b : Nat} (ha : a < 1000) (hb : b < 1000) : (nI b - nI a).toInt = (b : Int) - a := by
  rw [Int32.toInt_sub, nI_T (by omega), nI_T (by omega), Int.bmod_eq_of_le (by omega) (by omega)]
theorem al_54 (hA : PrgAt T p) (sA : PrgIs T p sa) (hB : PrgAt T q) (sB : PrgIs T q sb) (pa : Prt sa na) (pb : Prt sb nb) (hi : i < na) (hj : j < nb) (hz : (ptE sa i : Int) - ptS sa i = (ptE sb j : Int) - ptS sb j) :
    ∀ (r n k : Nat), ptE sa i ≤ ptS sa i + k + r → r < n → (∀ t, t < k → ptS sa i + t < ptE sa i → (sa.1 0).getD (ptS sa i + t) 0 = (sb.1 0).getD (ptS sb j + t) 0) → k ≤ 301 → h_4018_L54 n p (nI i) q (nI j) (nI (ptS sa i)) (nI (ptS sb j)) (nI (ptE sa i) - nI (ptS sa i)) (nI k) T = some (if alw (fun v => v) sa sb i j = true then 1 else 0) := by
  obtain ⟨⟨a1, a2, a3, a4, a5, a6⟩, _⟩ := hA.pr sA
  obtain ⟨⟨b1, b2, b3, b4, b5, b6⟩, _⟩ := hB.pr sB
  obtain ⟨x1, x2, x3, x4⟩ := pa.2.2 i hi
  obtain ⟨y1, y2, y3, y4⟩ := pb.2.2 j hj
  intro r
  induction r with
  | zero =>
    intro n k hk hn hq h301
    obtain ⟨n, rfl⟩ : ∃ n', n = n' + 1 := ⟨n - 1, by omega⟩
    rw [h_4018_L54, if_pos (by rw [i_le, sub2_i (by omega) (by omega), nI_T (by omega)]; omega), if_pos (alw_t.2 ⟨hz, fun t ht => hq t (by omega) ht⟩)]
  | succ r ih =>
    intro n k hk hn hq h301
    obtain ⟨n, rfl⟩ : ∃ n', n = n' + 1 := ⟨n - 1, by omega⟩
    by_cases c : nI (ptE sa i) - nI (ptS sa i) ≤ nI k
    · have c' := c
      rw [i_le, sub2_i (by omega) (by omega), nI_T (by omega)] at c'
      rw [h_4018_L54, if_pos c, if_pos (alw_t.2 ⟨hz, fun t ht => hq t (by omega) ht⟩)]
    · have c' := c
      rw [i_le, sub2_i (by omega) (by omega), nI_T (by omega)] at c'
      rw [h_4018_L54, if_neg c, gd_e a1, a2, bP_some, gd_e a3, a4, bP_some, gd_e a5, a6, gd_e b1, b2, bP_some, gd_e b3, b4, bP_some, gd_e b5, b6, nI_pl (by omega) (by omega), nI_pl (by omega) (by omega), xg_n (by omega), xg_n (by omega), nI_p1 (by omega)]
      by_cases e : (sa.1 0).getD (ptS sa i + k) 0 = (sb.1 0).getD (ptS sb j + k) 0
      · rw [if_pos e]
        refine ih n (k + 1) (by omega) (by omega) (fun t ht h2 => ?_) (by omega)
        by_cases et : t = k
        · subst et; exact e
        · exact hq t (by omega) h2
      · rw [if_neg e, if_neg (fun z => e ((alw_t.1 z).2 k (by omega)))]
theorem h4018_e (hA : PrgAt T p) (sA : PrgIs T p sa) (hB : PrgAt T q) (sB : PrgIs T q sb) (pa : Prt sa na) (pb : Prt sb nb) (hi : i < na) (hj : j < nb) : h_4018 p (nI i) q (nI j) T = some (if alw (fun v => v) sa sb i j = true then 1 else 0) := by
  obtain ⟨⟨a1, _⟩, ⟨a2, a3, a4⟩, a5, a6, a7⟩ := hA.pr sA
  obtain ⟨⟨b1, _⟩, ⟨b2, b3, b4⟩, b5, b6, b7⟩ := hB.pr sB
  obtain ⟨x1, x2, x3, x4⟩ := pa.2.2 i hi
  obtain ⟨y1, y2, y3, y4⟩ := pb.2.2 j hj
  have ha := pa.1
  have hb := pb.1
  unfold h_4018
  rw [gd_e a1, a2, bP_some, gd_e a3, gd_e b1, b2, bP_some, gd_e b3, gd_e a1, a5, bP_some, gd_e a6, gd_e b1, b5, bP_some, gd_e b6, a4, a7, b4, b7, xg_n (by omega), xg_n (by omega), xg_n (by omega), xg_n (by omega), x1, x2, y1, y2]
  by_cases c : nI (ptE sb j) - nI (ptS sb j) = nI (ptE sa i) - nI (ptS sa i)
  · have c' := c
    rw [i_eq, sub2_i (by omega) (by omega), sub2_i (by omega) (by omega)] at c'
    rw [if_pos c]
    exact al_54 hA sA hB sB pa pb hi hj (by omega) 301 400 0 (by omega) (by omega) (fun t ht => absurd ht (by omega)) (by omega)
  · rw [if_neg c, if_neg (fun z => c (by
      have := (alw_t.1 z).1
      rw [i_eq, sub2_i (by omega) (by omega), sub2_i (by omega) (by omega)]
      omega))]
def og : Option Nat → Int32
  | some r => nI r
  | none => -1
theorem gf_r {al u : Nat → Bool} {r : Nat} : ∀ (k j : Nat), gf al u k j = some r → j ≤ r ∧ r < j + k := by
  intro k
  induction k with
  | zero => intro j h; rw [gf] at h; cases h
  | succ k ih =>
    intro j h
    rw [gf] at h
    by_cases c : u j = false ∧ al j = true
    · rw [if_pos c] at h
      cases h
      omega
    · rw [if_neg c] at h
      have := ih _ h
      omega
theorem h4017_L {r : Nat} {u : Nat → Bool} (hA : PrgAt T p) (sA : PrgIs T p sa) (hB : PrgAt T q) (sB : PrgIs T q sb) (pa : Prt sa na) (pb : Prt sb nb) (hi : i < na) (hr : tK T r = 7) (hu : ∀ y, y < nb → (tB T r).getD y 0 = if u y = true then 1 else 0) : ∀ (k n j : Nat), j + k = nb → k < n → h_4017_L3 n p (nI i) q r (nI j) T = some (og (gf (alw (fun v => v) sa sb i) u k j)) := by
  have hb := pb.1
  have hb1 : tK T q = 5 := hB.1
  have h44 : h_4004 q T = some (nI nb) := by rw [g4004 hB sB, pb.2.1]
  intro k
  induction k with
  | zero =>
    intro n j hj hn
    obtain ⟨n, rfl⟩ : ∃ n', n = n' + 1 := ⟨n - 1, by omega⟩
    rw [h_4017_L3, gd_e hb1, h44, bP_some, if_pos ((nI_le' (by omega) (by omega)).2 (by omega)), gf]
    rfl
  | succ k ih =>
    intro n j hj hn
    obtain ⟨n, rfl⟩ : ∃ n', n = n' + 1 := ⟨n - 1, by omega⟩
    rw [h_4017_L3, gd_e hb1, h44, bP_some, if_neg (fun z => by have := (nI_le' (by omega) (by omega)).1 z; omega), gd_e hr, xg_n (by omega), hu j (by omega), gd_e hA.1, h4018_e hA sA hB sB pa pb hi (by omega), bP_some, nI_p1 (by omega), gf]
    by_cases c1 : u j = true
    · rw [if_pos c1, if_neg (by decide), if_neg (fun z => by rw [c1] at z; exact absurd z.1 (by decide))]
      exact ih n (j + 1) (by omega) (by omega)
    · rw [if_neg c1, if_pos rfl]
      have c1' : u j = false := by cases hq : u j; rfl; exact absurd hq c1
      by_cases c2 : alw (fun v => v) sa sb i j = true
      · rw [if_pos c2, if_neg (by decide), if_pos ⟨c1', c2⟩]
        rfl
      · rw [if_neg c2, if_pos rfl, if_neg (fun z => c2 z.2)]
        exact ih n (j + 1) (by omega) (by omega)
theorem h4016_L {r bc bs : Nat} (hA : PrgAt T p) (sA : PrgIs T p sa) (hB : PrgAt T q) (sB : PrgIs T q sb) (pa : Prt sa na) (pb : Prt sb nb) (hr : tK T r = 7) (hpr : p + 28 ≤ r) (hqr : q + 28 ≤ r) : ∀ (k n i cnt : Nat) (u : Nat → Bool) (l : List Int32), i + k = na → k < n → cnt ≤ i → l.length = nb → (∀ y, y < nb → l.getD y 0 = if u y = true then 1 else 0) →
    ∃ l', h_4016_L21 n p q r (nI cnt) (nI i) bc bs (tsB T r l) = some (tsB T r l', nI (cnt + gr (alw (fun v => v) sa sb) nb k i u)) := by
  have ha := pa.1
  have hb := pb.1
  intro k
  induction k with
  | zero =>
    intro n i cnt u l hi hn hc hl hu
    obtain ⟨n, rfl⟩ : ∃ n', n = n' + 1 := ⟨n - 1, by omega⟩
    have A := hA.agr (T' := tsB T r l) (Nat.le_refl _) (fun k hk => Agr.B (by omega))
    have A' := sA.agr (T' := tsB T r l) (fun k hk => Agr.B (by omega))
    refine ⟨l, ?_⟩
    rw [h_4016_L21, gd_e A.1, g4004 A A', pa.2.1, bP_some, if_pos ((nI_le' (by omega) (by omega)).2 (by omega)), gr]
    rfl
  | succ k ih =>
    intro n i cnt u l hi hn hc hl hu
    obtain ⟨n, rfl⟩ : ∃ n', n = n' + 1 := ⟨n - 1, by omega⟩
    have A := hA.agr (T' := tsB T r l) (Nat.le_refl _) (fun k hk => Agr.B (by omega))
    have A' := sA.agr (T' := tsB T r l) (fun k hk => Agr.B (by omega))
    have B := hB.agr (T' := tsB T r l) (Nat.le_refl _) (fun k hk => Agr.B (by omega))
    have B' := sB.agr (T' := tsB T r l) (fun k hk => Agr.B (by omega))
    have h7 : h_4017 p (nI i) q r (tsB T r l) = some (og (gf (alw (fun v => v) sa sb i) u nb 0)) := by
      unfold h_4017
      exact h4017_L (T := tsB T r l) A A' B B' pa pb (by omega) hr (fun y hy => by rw [tB_s]; exact hu y hy) nb 200 0 (by omega) (by omega)
    rw [h_4016_L21, gd_e A.1, g4004 A A', pa.2.1, bP_some, if_neg (fun z => by have := (nI_le' (by omega) (by omega)).1 z; omega), gd_e A.1, h7, bP_some, nI_p1 (by omega), gr]
    cases hg : gf (alw (fun v => v) sa sb i) u nb 0 with
    | none =>
      show ∃ l', (if (-1 : Int32) = -1 then _ else _) = _
      rw [if_pos rfl]
      exact ih n (i + 1) cnt u l (by omega) (by omega) (by omega) hl hu
    | some w =>
      obtain ⟨w1, w2⟩ := gf_r _ _ hg
      rw [show og (some w) = nI w from rfl]
      rw [if_neg (show ¬ nI w = -1 from fun z => by rw [i_eq, nI_T (by omega), show (-1 : Int32).toInt = -1 by decide] at z; omega), gd_e (show tK (tsB T r l) r = 7 from hr), tB_s, xset_n (by omega), bS_eq, tsB2, nI_p1 (by omega)]
      obtain ⟨l', e'⟩ := ih n (i + 1) (cnt + 1) (gu u w) (l.set w 1) (by omega) (by omega) (by omega) (by rw [List.length_set]; exact hl) (fun y hy => by
        unfold gu
        rw [List.getD_eq_getElem?_getD, List.getElem?_set]
        by_cases e : y = w
        · subst e
          rw [if_pos rfl, if_pos (by omega), if_pos rfl, if_pos rfl]
          rfl
        · rw [if_neg (fun z => e z.symm), ← List.getD_eq_getElem?_getD, hu y hy, if_neg e])
      refine ⟨l', ?_⟩
      rw [e']
      dsimp only
      rw [show cnt + 1 + gr (alw (fun v => v) sa sb) nb k (i + 1) (gu u w) = cnt + (gr (alw (fun v => v) sa sb) nb k (i + 1) (gu u w) + 1) by omega]
theorem h4016_e (hA : PrgAt T p) (sA : PrgIs T p sa) (hB : PrgAt T q) (sB : PrgIs T q sb) (pa : Prt sa na) (pb : Prt sb nb) : ∃ T', h_4016 p q T = some (T', nI (gi sa sb)) ∧ tZ T' = tZ T + 2 ∧ ∀ y, y < tZ T → Agr T T' y := by
  have ha := pa.1
  have hb := pb.1
  have zA := hA.2.2.2.2.2.2
  have zB := hB.2.2.2.2.2.2
  obtain ⟨T8, hT8⟩ : ∃ T8, T8 = tRow (tNew T 107) (tZ T) nb := ⟨_, rfl⟩
  have g8 : ∀ y, y < tZ T → Agr T T8 y := fun y hy => by rw [hT8]; exact (Agr.N hy).tr (Agr.R (by omega))
  have k8 : tK T8 (tZ T) = 7 := by rw [hT8]; exact if_pos rfl
  have c8 : tC T8 (tZ T) = nb := by rw [hT8]; exact if_pos rfl
  have z8 : tZ T8 = tZ T + 2 := by rw [hT8]; rfl
  have B6 := hB.agr (T' := tNew T 107) (Nat.le_succ _) (fun k hk => Agr.N (by omega))
  have B6' := sB.agr (T' := tNew T 107) (fun k hk => Agr.N (by omega))
  obtain ⟨l', e'⟩ := h4016_L (r := tZ T) (bc := 1 - 1) (bs := 158 - (nI nb).toNatClampNeg) (hA.agr (T' := T8) (by omega) (fun k hk => g8 _ (by omega))) (sA.agr (T' := T8) (fun k hk => g8 _ (by omega))) (hB.agr (T' := T8) (by omega) (fun k hk => g8 _ (by omega))) (sB.agr (T' := T8) (fun k hk => g8 _ (by omega))) pa pb k8 zA zB na 200 0 0 (fun _ => false) (List.replicate nb 0) (by omega) (by omega) (by omega) (List.length_replicate ..) (fun y hy => by
    rw [List.getD_eq_getElem?_getD, List.getElem?_replicate, if_pos hy, if_neg (by decide)]
    rfl)
  refine ⟨tsB T8 (tZ T) l', ?_, z8, fun y hy => (g8 y hy).tr (Agr.B (by omega))⟩
  unfold h_4016
  rw [bS_eq, gd_e B6.1, g4004 B6 B6', pb.2.1, bP_some, gd_e tK_new, gd_e ⟨by rw [nI_T (by omega)]; omega, by rw [nI_T (by omega)]; omega⟩, gd_e ⟨by omega, by rw [nI_C (by omega)]; omega⟩, bS_eq, show (nI nb).toNatClampNeg = nb from nI_C (by omega), ← hT8, gd_e k8, c8, bS_eq]
  rw [show (nI nb).toNatClampNeg = nb from nI_C (by omega)] at e'
  refine e'.trans ?_
  rw [Nat.zero_add]
  unfold gi
  rw [pa.2.1, pb.2.1]
end CMN
