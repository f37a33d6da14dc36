/-! a program runs alike in all three ways -/
section RALL
variable {s : Sx} {m : Mx} {x y : Int32} {n d : Nat}
theorem sp_all (hX : Cx s m n d) (hDf : Df s n d) : ∀ (F : Nat) {N g j o L i i' c c' : Nat}, PX (rw4 s) (Qf s d) N g j o L i i' c c' → i' ≤ 300 → c' ≤ n → L ≤ 8 → Sp s m x y F g j L i i' c c' := by
  intro F
  induction F using Nat.strongRecOn with
  | ind F hF =>
    intro N
    induction N with
    | zero => intro g j o L i i' c c' h; exact h.elim
    | succ N ih =>
      intro g j o L i i' c c' h hi hc hL
      refine ⟨fun e h1 h2 h3 => ?_, fun e h1 h2 h3 => ?_, fun e h1 => ?_, fun e h1 => ?_, fun e h1 => ?_, fun e h1 h2 => ?_⟩
      · subst e; exact sp_e0 hX ih h hi hc hL h1 h2 h3
      · subst e; exact sp_m1 hX ih h hi hc hL h1 h2 h3
      · subst e; exact sp_o2 hX ih h hi hc hL h1
      · subst e; exact sp_c3 hX hDf ih hF h hi hc hL
      · subst e; exact sp_a5 ih h hi hc hL h1
      · rcases e with e | e
        · subst e; exact sp_s6 hX ih hF h hi hc hL h1 h2
        · subst e; exact sp_l8 ih h hi hc hL h1 h2
section
variable {O C V b vm vw wt : List Int32} {f t e p i u : Int32}
theorem cV7 {r : Int32} : sV (cS s O C V b vm vw wt f x y t e p i u) 7 r = cS s O C V b vm vw wt f r y t e p i u := by
  refine Prod.ext rfl (funext fun j => ?_)
  by_cases h : j = 7
  · subst h; rfl
  · simp only [sV, cS, if_neg h]
theorem cV8 {r : Int32} : sV (cS s O C V b vm vw wt f x y t e p i u) 8 r = cS s O C V b vm vw wt f x r t e p i u := by
  refine Prod.ext rfl (funext fun j => ?_)
  by_cases h : j = 8
  · subst h; rfl
  · simp only [sV, cS, if_neg h]
end
theorem c_beg (f : Int32) : f_7001 f x y s = cS s [] (List.replicate 32 0) (List.replicate 88 0) [] (s.1 22) (s.1 23) (s.1 24) f x y 0 (-1) (s.2 11) (s.2 12) (s.2 13) := by
  refine (congrArg (f_7001 f x y) (cS_self (s := s))).trans ?_
  unfold f_7001
  rw [cB18, bS_eq, cB19, bS_eq, cB20, bS_eq, cB21, bS_eq, cV6, bS_eq, cV7, bS_eq, cV8, bS_eq, cV9, bS_eq, cV10, bS_eq]
  rfl
theorem rS_self : m = rS m m (m 0 49) (m 0 50) (m 0 51) (m 0 52) (m 0 53) (m 0 57) := by
  funext j v
  unfold rS
  by_cases hj : j = 0
  · subst hj
    rw [if_pos rfl]
    repeat' split
    all_goals (first | rfl | (rename_i h; rw [h]))
  · rw [if_neg hj, ite_self]
def z34 : Nat → (Nat → Nat → Int32) → Nat → Nat → Int32
  | 0, A => A
  | k + 1, A => z34 k (u2 A 34 (31 - k) 0)
def z31 : Nat → (Nat → Nat → Int32) → Nat → Nat → Int32
  | 0, A => A
  | k + 1, A => z31 k (u2 A 31 (7 - k) 0)
theorem r_L33 {f e t D h o a b c : Int32} : ∀ (k n : Nat) (A : Nat → Nat → Int32), k ≤ 32 → k < n → f_12070_L33 n a b c (nI (32 - k)) (rS m A f e t D h o) = f_12070_L57 1000000000 a b c 0 (rS m (z34 k A) f e t D h o) := by
  intro k
  induction k with
  | zero =>
    intro n A hk hn
    obtain ⟨n, rfl⟩ : ∃ n', n = n' + 1 := ⟨n - 1, by omega⟩
    rw [f_12070_L33, if_pos (by decide)]
    rfl
  | succ k ih =>
    intro n A hk hn
    obtain ⟨n, rfl⟩ : ∃ n', n = n' + 1 := ⟨n - 1, by omega⟩
    rw [f_12070_L33, if_neg (by rw [i_le, nI_T (by omega), show (32 : Int32).toInt = 32 by decide]; omega), gd_e (vi_n (by omega) (by omega)), q_ms (by decide) (by omega), bS_eq, nI_p1 (by omega), show 32 - (k + 1) + 1 = 32 - k by omega, ih n _ (by omega) (by omega)]
    show f_12070_L57 1000000000 a b c 0 (rS m (z34 k (u2 A 34 (32 - (k + 1)) 0)) f e t D h o) = f_12070_L57 1000000000 a b c 0 (rS m (z34 k (u2 A 34 (31 - k) 0)) f e t D h o)
    rw [show 32 - (k + 1) = 31 - k by omega]
theorem r_L57 {f e t D h o a b c : Int32} : ∀ (k n : Nat) (A : Nat → Nat → Int32), k ≤ 8 → k < n → f_12070_L57 n a b c (nI (8 - k)) (rS m A f e t D h o) = f_12070_L81 1000000000 a b c 0 (rS m (z31 k A) f e t D h o) := by
  intro k
  induction k with
  | zero =>
    intro n A hk hn
    obtain ⟨n, rfl⟩ : ∃ n', n = n' + 1 := ⟨n - 1, by omega⟩
    rw [f_12070_L57, if_pos (by decide)]
    rfl
  | succ k ih =>
    intro n A hk hn
    obtain ⟨n, rfl⟩ : ∃ n', n = n' + 1 := ⟨n - 1, by omega⟩
    rw [f_12070_L57, if_neg (by rw [i_le, nI_T (by omega), show (8 : Int32).toInt = 8 by decide]; omega), gd_e (vi_n (by omega) (by omega)), q_ms (by decide) (by omega), bS_eq, nI_p1 (by omega), show 8 - (k + 1) + 1 = 8 - k by omega, ih n _ (by omega) (by omega)]
    show f_12070_L81 1000000000 a b c 0 (rS m (z31 k (u2 A 31 (8 - (k + 1)) 0)) f e t D h o) = f_12070_L81 1000000000 a b c 0 (rS m (z31 k (u2 A 31 (7 - k) 0)) f e t D h o)
    rw [show 8 - (k + 1) = 7 - k by omega]
theorem z34_s : ∀ (k : Nat) (A : Nat → Nat → Int32), k ≤ 32 → (∀ i, i < 32 - k → A 34 i = 0) → ∀ i, i < 32 → z34 k A 34 i = 0 := by
  intro k
  induction k with
  | zero => intro A _ h i hi; exact h i hi
  | succ k ih =>
    intro A hk h i hi
    refine ih _ (by omega) (fun a ha => ?_) i hi
    rw [uA_s]
    by_cases e : a = 31 - k
    · rw [if_pos e]
    · rw [if_neg e]; exact h a (by omega)
theorem z31_s : ∀ (k : Nat) (A : Nat → Nat → Int32), k ≤ 8 → (∀ i, i < 8 - k → A 31 i = 0) → (∀ i, i < 8 → z31 k A 31 i = 0) ∧ ∀ i, z31 k A 34 i = A 34 i := by
  intro k
  induction k with
  | zero => intro A _ h; exact ⟨h, fun _ => rfl⟩
  | succ k ih =>
    intro A hk h
    have := ih (u2 A 31 (7 - k) 0) (by omega) (fun a ha => by
      rw [uA_s]
      by_cases e : a = 7 - k
      · rw [if_pos e]
      · rw [if_neg e]; exact h a (by omega))
    exact ⟨this.1, fun i => (this.2 i).trans (uA_n (by decide))⟩
theorem r_beg {f : Int32} : ∃ A, AR A [] (List.replicate 32 0) (List.replicate 88 0) [] [] ∧ f_12070 f x y m = f_12070_L81 1000000000 f x y 0 (rS m A f 0 0 0 0 0) := by
  refine ⟨z31 8 (z34 32 m), ?_, ?_⟩
  · have h1 := z34_s 32 m (by omega) (fun i hi => absurd hi (by omega))
    obtain ⟨h2, h3⟩ := z31_s 8 (z34 32 m) (by omega) (fun i hi => absurd hi (by omega))
    have gr : ∀ {a k : Nat}, (List.replicate a (0 : Int32)).getD k 0 = 0 := fun {a k} => by
      rw [List.getD_eq_getElem?_getD, List.getElem?_replicate]
      split <;> rfl
    refine ⟨fun k hk => absurd hk (by simp), fun k hk => ?_, fun k hk => absurd hk (by simp), fun k hk => absurd hk (by simp), fun k hk => ?_⟩
    · rw [h2 k hk, gr]
    · rw [h3, h1 k hk, gr]
  · refine (congrArg (f_12070 f x y) (rS_self (m := m))).trans ?_
    unfold f_12070
    rw [q_49, bS_eq, q_50, bS_eq, q_51, bS_eq, q_52, bS_eq, q_53, bS_eq, q_57, bS_eq]
    have a1 := r_L33 (m := m) (f := f) (e := 0) (t := 0) (D := 0) (h := 0) (o := 0) (a := f) (b := x) (c := y) 32 1000000000 m (by omega) (by omega)
    have a2 := r_L57 (m := m) (f := f) (e := 0) (t := 0) (D := 0) (h := 0) (o := 0) (a := f) (b := x) (c := y) 8 1000000000 (z34 32 m) (by omega) (by omega)
    rw [show (nI (32 - 32) : Int32) = 0 by decide] at a1
    rw [show (nI (8 - 8) : Int32) = 0 by decide] at a2
    rw [a1, a2]
/-- all three ways end alike -/
theorem run_all {i c d f : Nat} (hf : f ≤ 5000) (hC : PgC s i c d) (hM : PgM s i c d m) : ∃ rW rM rR, f_10001 (nI f) x y s = some rW ∧ f_3001 (nI f) x y s = some rM ∧ f_12070 (nI f) x y m = some rR ∧ Fin3 s m x y rW rM rR := by
  obtain ⟨p1, p2, p3, p4, p5, p6, p7, p8, p9, p10, ⟨N, p11⟩, p12⟩ := hC
  obtain ⟨m1, m2, _⟩ := hM
  have hX : Cx s m c d := ⟨by omega, p3, fun k hk => m1 k (by omega), m2⟩
  have hD : Df s c d := fun q hq => by
    obtain ⟨N, i0, i1, i', c0, c1, p, z1, z2, z3, z4⟩ := p12 q hq
    exact ⟨N, i0, i1, i', c0, c1, p, z1, by omega, z3, z4⟩
  have l8 := PX.le N p11
  have k0 : (s.1 0).getD i 0 = 0 := p9
  have S := (sp_all (x := x) (y := y) hX hD f p11 p1 (Nat.le_refl _) (by omega)).2.2.2.2.2 (Or.inr rfl) (by omega) (by rw [k0]; decide)
  have e : nd 0 0 i = i := by unfold nd; rw [if_pos rfl]; omega
  have ho : Ok3 f 0 [] (List.replicate 32 0) (List.replicate 88 0) [] [] := ⟨hf, by omega, by simp, by simp, by simp, rfl, by simp⟩
  have G : Gl s m x y f 0 [] (List.replicate 32 0) (List.replicate 88 0) [] [] [] [] 0 0 0 27000 := by
    refine S f 0 [] _ _ [] [] [] [] 27000 0 (Nat.le_refl _) ho (by simp) (by simp) (by rw [e]; omega) (fun f' t' O' C' V' hf' ho' => ?_) (fun ej => absurd ej (by decide))
    exact Gl.halt ho'.2.2.1 ho'.2.2.2.1 ho'.1 (by rw [e]; omega) (by omega) (by omega) k0 p10 ((hX.c4 (Nat.le_refl _) p10).trans (by decide))
  obtain ⟨A, hA, eR⟩ := r_beg (m := m) (x := x) (y := y) (f := nI f)
  obtain ⟨kW, kM, kR, rW, rM, rR, h1, h2, h3, h4, h5, h6, h7⟩ := G A hA
  refine ⟨rW, rM, rR, ?_, ?_, ?_, h7⟩
  · unfold f_10001
    rw [c_beg, bS_eq, cB23, bS_eq, cB24, bS_eq, cV12, bS_eq, cV13, bS_eq]
    exact EW.run (a := nI f) (b := x) (c := y) kW 0 1000100 _ rW h1 (by omega) (by omega)
  · unfold f_3001
    rw [c_beg, bS_eq, cB22, bS_eq, cV11, bS_eq]
    exact EMl.run (a := nI f) (b := x) (c := y) kM 0 1000100 _ rM h2 (by omega) (by omega)
  · rw [eR]
    exact ER.run (a := nI f) kR 1000000000 _ _ rR h3 (by omega)
end RALL
