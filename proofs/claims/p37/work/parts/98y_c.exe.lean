/-! the school: a new exercise, with what changes -/
section EX2
variable {x : Nat} {T T' : Tx} {m m' : Mx} {tx : List Int32} {es es' : List Nat} {ts ts' : Nat → List Nat} {as : List Nat} {ps : Nat → Nat} {txs : Nat → List Int32} {ss : Nat → Sx} {pd : Nat} {own : Nat → Nat} {v w : Int32}
def mU (m : Mx) (J : Nat) (f : Nat → Int32) : Mx := u1 m J f
theorem mU_s {J : Nat} {f : Nat → Int32} : mU m J f J = f := u1_s _ _ _
theorem mU_n {J K : Nat} {f : Nat → Int32} (h : K ≠ J) : mU m J f K = m K := u1_n _ _ h
/-- what a new exercise changes -/
def ExM (m m' : Mx) (n : Nat) (v w : Int32) : Prop :=
  m' 0 65 = nI (n + 1) ∧ (∀ g, g ≠ 65 → m' 0 g = m 0 g) ∧ (∀ k, m' 37 k = if k = n then v else m 37 k) ∧ (∀ k, m' 38 k = if k = n then w else m 38 k) ∧ (∀ k, m' 39 k = if k = n then 0 else m 39 k) ∧ ∀ J, J ≠ 0 → J ≠ 37 → J ≠ 38 → J ≠ 39 → m' J = m J
theorem ex_new2 (h : SInv x T m tx es ts as ps txs ss pd own) (h4 : es.length < 4) (hv : 1 ≤ v.toInt ∧ v.toInt ≤ 2000) (hw : (tV T x 13).toInt ≤ w.toInt ∧ w.toInt ≤ 1000) (h65 : m' 0 65 = nI (es.length + 1)) (h37 : ∀ k, m' 37 k = if k = es.length then v else m 37 k) (h38 : ∀ k, m' 38 k = if k = es.length then w else m 38 k) (h39 : ∀ k, m' 39 k = if k = es.length then 0 else m 39 k) (hj : ∀ j, j ≠ 0 → j ≠ 37 → j ≠ 38 → j ≠ 39 → m' j = m j) (hf : ∀ f, f = 0 ∨ f = 60 ∨ f = 63 ∨ f = 64 ∨ f = 74 → m' 0 f = m 0 f) : ∃ T', h_11015 x v w T = some (T', .inr (nI es.length)) ∧ SINV x T' m' ∧ tZ T ≤ tZ T' := by
  obtain ⟨l1, l2, l3, l4, l5⟩ := h.low
  have hS := h.1
  have w9 : tW T x 9 = some (x + 68) := hS.2.2.2.2.2.2.2.1.1
  have k68 : tK T (x + 68) = 1 := hS.2.2.2.2.2.2.2.1.2
  have a68 : tA T (x + 68) = es := h.2.2.2.1.2.2.1
  obtain ⟨T9, hT9⟩ : ∃ T9, T9 = tNew T 3 := ⟨_, rfl⟩
  have o9 : ∀ y, y < tZ T → Agr T T9 y := fun y hy => by rw [hT9]; exact Agr.N hy
  obtain ⟨T12, e1, e2, e3, e4, e5, e6, e7, e8, e9, e10⟩ := h2000_e (T := T9) (me := tZ T) (a := nI es.length) (b := v) (c := w) (by rw [hT9]; exact tK_new) (by rw [hT9]; rfl)
  have o12 : ∀ y, y < tZ T → Agr T T12 y := fun y hy => (o9 y hy).tr (e3 y hy)
  obtain ⟨T13, hT13⟩ : ∃ T13, T13 = tAdd T12 (x + 68) (tZ T) := ⟨_, rfl⟩
  have o13 : ∀ y, y ≠ x + 68 → Agr T12 T13 y := fun y hy => by rw [hT13]; exact Agr.A hy
  have z13 : tZ T + 2 ≤ tZ T13 := by rw [hT13, ← e2]; exact tZ_add
  have a13 : tA T13 (x + 68) = es ++ [tZ T] := by rw [hT13, tA_s, (o12 _ (by omega)).2.2.2.1, a68]
  have g : ∀ a, a < tZ T → a ≠ x + 68 → Agr T T13 a := fun a ha h8 => (o12 a ha).tr (o13 a h8)
  have K : ∀ a, a < tZ T → tK T13 a = tK T a ∧ tW T13 a = tW T a := fun a ha => by rw [hT13]; exact ⟨(o12 a ha).1, (o12 a ha).2.2.1⟩
  have hlen : (es ++ [tZ T]).length = es.length + 1 := by simp
  refine ⟨T13, ?_, ?_, by omega⟩
  · unfold h_11015
    rw [if_neg (by rw [i_lt, i_1]; omega), if_neg (by rw [i_lt, show (2000 : Int32).toInt = 2000 by decide]; omega), gd_e hS.1, if_neg (by rw [i_lt]; omega), if_pos (by rw [i_le, show (1000 : Int32).toInt = 1000 by decide]; omega), gd_e hS.1, w9, bP_some, gd_e k68, a68, if_pos (show nI es.length < 4 by rw [i_lt, nI_T (by omega), show (4 : Int32).toInt = 4 by decide]; omega), gd_e hS.1, bP_some, bS_eq, ← hT9]
    rw [gd_e ((o9 x (by omega)).1.trans hS.1), (o9 x (by omega)).2.2.1, w9, bP_some, gd_e ((o9 _ (by omega)).1.trans k68), gd_e (show tK T9 (tZ T) = 3 by rw [hT9]; exact tK_new), (o9 (x + 68) (by omega)).2.2.2.1, a68, e1, bOv_some, gd_e ((o12 _ (by omega)).1.trans k68), gd_e ⟨by rw [(o12 (x + 68) (by omega)).2.2.2.1, a68]; omega, by rw [e4]; decide⟩, bS_eq, ← hT13, gd_e ((K x (by omega)).1.trans hS.1), (K x (by omega)).2, w9, bP_some, gd_e ((K (x + 68) (by omega)).1.trans k68), a13, hlen, nI_pp (by omega)]
  · obtain ⟨o1, o2, o3⟩ := h.old (T' := T13) (by omega) (fun a h1 h2 h3 => g a (by omega) h2) (fun a ha => K a (by omega))
    have hn1 := h.2.2.2.1
    have hn2 := h.2.2.2.2.1
    have hts : ∀ i, i < es.length → (if i = es.length then [] else ts i) = ts i := fun i hi => if_neg (by omega)
    refine ⟨tx, es ++ [tZ T], fun i => if i = es.length then [] else ts i, as, ps, txs, ss, pd, fun y => if tZ T ≤ y then 4 * es.length + 2 else own y, o1, o2.mm (hf 0 (by omega)) (hj 1 (by decide) (by decide) (by decide) (by decide)), o3.mm (hf 60 (by omega)) (hf 63 (by omega)) (hf 64 (by omega)) (hj _ (by decide) (by decide) (by decide) (by decide)) (hj _ (by decide) (by decide) (by decide) (by decide)), ⟨by rw [hlen]; exact h65, by rw [hlen]; omega, a13, fun i hi => ?_⟩, ⟨(hf 74 (by omega)).trans hn2.1, hn2.2.1, (g _ (by omega) (by omega)).2.2.2.1.trans hn2.2.2.1, fun i hi => ?_⟩, ⟨fun i hi k hk => ?_, fun p hp h1 k hk => ?_, fun i hi => ?_, fun i hi j hj => ?_⟩⟩
    · rw [hlen] at hi
      by_cases e : i = es.length
      · subst e
        show ExR x T13 m' (gNl (es ++ [tZ T]) es.length) es.length (if es.length = es.length then [] else ts es.length)
        rw [gN_e, if_pos rfl]
        have q1 := o13 (tZ T) (by omega)
        have q2 := o13 (tZ T + 1) (by omega)
        have y8 := h.2.2.1.2.2.2.2.2.2.2
        have := y8.1
        refine ⟨l5, z13, q1.1.trans e4, by rw [q1.2.2.1]; exact e5, q2.1.trans e6, q2.2.2.2.1.trans e7, by simp, by rw [q1.2.2.2.2.2]; exact e8, by rw [q1.2.2.2.2.2, h37, if_pos rfl]; exact e9, ?_, by rw [q1.2.2.2.2.2, h38, if_pos rfl]; exact e10, ?_, by rw [h39, if_pos rfl]; decide, fun j hj => absurd hj (by simp)⟩
        · rw [h37, if_pos rfl]; exact hv
        · rw [h38, if_pos rfl]; exact ⟨by omega, hw.2⟩
      · obtain ⟨p1, p2, p3⟩ := l1 i (by omega)
        show ExR x T13 m' (gNl (es ++ [tZ T]) i) i (if i = es.length then [] else ts i)
        rw [gN_l (by omega), if_neg e]
        refine ((hn1.2.2.2 i (by omega)).agr (by omega) (g _ (by omega) (by omega)) (g _ (by omega) (by omega)) (fun j hj => g _ (p3 j hj).2 (by have := (p3 j hj).1; omega))).ref (fun j hj' => ?_) (fun j h1 h2 => hj j (by omega) (by omega) (by omega) (by omega))
        rcases hj' with e' | e' | e' <;> subst e'
        · rw [h37, if_neg e]
        · rw [h38, if_neg e]
        · rw [h39, if_neg e]
    · obtain ⟨p1, p2, p3, p4⟩ := l2 i hi
      refine ((hn2.2.2.2 i hi).agr (by omega) (fun k hk => g _ (by omega) (by omega)) (fun k hk => g _ (by omega) (by omega))).ref (fun j hj' => ⟨by rw [hlen]; omega, gN_l hj', hts j hj', by rw [h37, if_neg (by omega)]⟩) hj
    · have := (l2 i hi).2.1
      show (if _ then _ else _) = _
      rw [if_neg (by omega)]
      exact h.2.2.2.2.2.1 i hi k hk
    · have : p + 28 ≤ tZ T := by
        rcases hp with e | ⟨i, hi, e⟩
        · rw [e]; exact l4
        · rw [e]; exact (l2 i hi).2.2.2
      show (if _ then _ else _) = _
      rw [if_neg (by omega)]
      exact h.2.2.2.2.2.2.1 p hp h1 k hk
    · rw [hlen] at hi
      by_cases e : i = es.length
      · subst e
        rw [gN_e]
        show (if _ then _ else _) = _ ∧ (if _ then _ else _) = _
        rw [if_pos (by omega), if_pos (by omega)]
        exact ⟨rfl, rfl⟩
      · rw [gN_l (by omega)]
        have := (l1 i (by omega)).2.1
        show (if _ then _ else _) = _ ∧ (if _ then _ else _) = _
        rw [if_neg (by omega), if_neg (by omega)]
        exact h.2.2.2.2.2.2.2.1 i (by omega)
    · rw [hlen] at hi
      by_cases e : i = es.length
      · subst e
        dsimp only at hj
        rw [if_pos rfl] at hj
        exact absurd hj (by simp)
      · dsimp only at hj ⊢
        rw [if_neg e] at hj ⊢
        have := ((l1 i (by omega)).2.2 j hj).2
        rw [if_neg (by omega)]
        exact h.2.2.2.2.2.2.2.2 i (by omega) j hj
theorem c_addEx2 (h : SInv x T m tx es ts as ps txs ss pd own) (h4 : es.length < 4) (hv : 1 ≤ v.toInt ∧ v.toInt ≤ 2000) (hw : (m 0 64).toInt ≤ w.toInt ∧ w.toInt ≤ 1000) : ∃ T' m', h_11015 x v w T = some (T', .inr (nI es.length)) ∧ SINV x T' m' ∧ tZ T ≤ tZ T' ∧ ExM m m' es.length v w := by
  have h64 : m 0 64 = tV T x 13 := h.2.2.1.2.2.2.2.2.2.1
  rw [h64] at hw
  obtain ⟨m', hm⟩ : ∃ m', m' = mU (mU (mU (mU m 37 (fun k => if k = es.length then v else m 37 k)) 38 (fun k => if k = es.length then w else m 38 k)) 39 (fun k => if k = es.length then 0 else m 39 k)) 0 (fun f => if f = 65 then nI (es.length + 1) else m 0 f) := ⟨_, rfl⟩
  have e0 : ∀ f, m' 0 f = if f = 65 then nI (es.length + 1) else m 0 f := fun f => by rw [hm, mU_s]
  have e39 : ∀ k, m' 39 k = if k = es.length then 0 else m 39 k := fun k => by rw [hm, mU_n (by decide), mU_s]
  have e38 : ∀ k, m' 38 k = if k = es.length then w else m 38 k := fun k => by rw [hm, mU_n (by decide), mU_n (by decide), mU_s]
  have e37 : ∀ k, m' 37 k = if k = es.length then v else m 37 k := fun k => by rw [hm, mU_n (by decide), mU_n (by decide), mU_n (by decide), mU_s]
  have eJ : ∀ J, J ≠ 0 → J ≠ 37 → J ≠ 38 → J ≠ 39 → m' J = m J := fun J h0 h1 h2 h3 => by rw [hm, mU_n h0, mU_n h3, mU_n h2, mU_n h1]
  obtain ⟨T', g1, g2, g3⟩ := ex_new2 (m' := m') h h4 hv hw (by rw [e0, if_pos rfl]) e37 e38 e39 eJ (fun f hf => by rw [e0, if_neg (by omega)])
  exact ⟨T', m', g1, g2, g3, by rw [e0, if_pos rfl], fun g hg => by rw [e0, if_neg hg], e37, e38, e39, eJ⟩
theorem c_addExF (h : SInv x T m tx es ts as ps txs ss pd own) (h4 : ¬ es.length < 4) (hv : 1 ≤ v.toInt ∧ v.toInt ≤ 2000) (hw : (m 0 64).toInt ≤ w.toInt ∧ w.toInt ≤ 1000) : h_11015 x v w T = some (T, .inl 3) := by
  have h64 : m 0 64 = tV T x 13 := h.2.2.1.2.2.2.2.2.2.1
  have hle := h.2.2.2.1.2.1
  rw [h64] at hw
  unfold h_11015
  rw [if_neg (by rw [i_lt, i_1]; omega), if_neg (by rw [i_lt, show (2000 : Int32).toInt = 2000 by decide]; omega), gd_e h.1.1, if_neg (by rw [i_lt]; omega), if_pos (by rw [i_le, show (1000 : Int32).toInt = 1000 by decide]; omega), gd_e h.1.1, h.1.2.2.2.2.2.2.2.1.1, bP_some, gd_e h.1.2.2.2.2.2.2.2.1.2, h.2.2.2.1.2.2.1, if_neg (by rw [i_lt, nI_T (by omega), show (4 : Int32).toInt = 4 by decide]; omega)]
theorem c_addExG (h : SInv x T m tx es ts as ps txs ss pd own) (hv : ¬ ((1 ≤ v.toInt ∧ v.toInt ≤ 2000) ∧ (m 0 64).toInt ≤ w.toInt ∧ w.toInt ≤ 1000)) : h_11015 x v w T = some (T, .inl 1) := by
  have h64 : m 0 64 = tV T x 13 := h.2.2.1.2.2.2.2.2.2.1
  rw [h64] at hv
  unfold h_11015
  by_cases c1 : v < 1
  · rw [if_pos c1]
  · rw [if_neg c1]
    by_cases c2 : 2000 < v
    · rw [if_pos c2]
    · rw [if_neg c2, gd_e h.1.1]
      by_cases c3 : w < tV T x 13
      · rw [if_pos c3]
      · rw [if_neg c3, if_neg (fun q => by
          rw [i_lt, i_1] at c1
          rw [i_lt, show (2000 : Int32).toInt = 2000 by decide] at c2
          rw [i_lt] at c3
          rw [i_le, show (1000 : Int32).toInt = 1000 by decide] at q
          exact hv ⟨⟨by omega, by omega⟩, by omega, by omega⟩)]
end EX2
