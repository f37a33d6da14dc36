/-! how many parts there are in common: the first that is free is taken -/
section GRX
def gf (al u : Nat → Bool) : Nat → Nat → Option Nat
  | 0, _ => none
  | k + 1, j => if u j = false ∧ al j = true then some j else gf al u k (j + 1)
def gu (u : Nat → Bool) (j : Nat) : Nat → Bool := fun x => if x = j then true else u x
def gr (al : Nat → Nat → Bool) (nq : Nat) : Nat → Nat → (Nat → Bool) → Nat
  | 0, _, _ => 0
  | k + 1, i, u => match gf (al i) u nq 0 with
    | some j => gr al nq k (i + 1) (gu u j) + 1
    | none => gr al nq k (i + 1) u
theorem gf_al {al al' u : Nat → Bool} : ∀ (k j : Nat), (∀ x, j ≤ x → x < j + k → al x = al' x) → gf al u k j = gf al' u k j := by
  intro k
  induction k with
  | zero => intro j _; rfl
  | succ k ih =>
    intro j h
    rw [gf, gf, h j (Nat.le_refl _) (by omega), ih (j + 1) (fun x h1 h2 => h x (by omega) (by omega))]
theorem gr_al {al al' : Nat → Nat → Bool} {nq : Nat} : ∀ (k i : Nat) (u : Nat → Bool), (∀ x y, i ≤ x → x < i + k → y < nq → al x y = al' x y) → gr al nq k i u = gr al' nq k i u := by
  intro k
  induction k with
  | zero => intro i u _; rfl
  | succ k ih =>
    intro i u h
    have e : gf (al i) u nq 0 = gf (al' i) u nq 0 := gf_al _ _ (fun x _ h2 => h i x (Nat.le_refl _) (by omega) (by omega))
    rw [gr, gr, e]
    cases gf (al' i) u nq 0 with
    | none => exact ih _ _ (fun x y h1 h2 h3 => h x y (by omega) (by omega) h3)
    | some j => exact congrArg (· + 1) (ih _ _ (fun x y h1 h2 h3 => h x y (by omega) (by omega) h3))
theorem gf_s {al u : Nat → Bool} : ∀ (k j r : Nat), gf al u k j = some r → j ≤ r ∧ r < j + k ∧ u r = false ∧ al r = true ∧ ∀ x, j ≤ x → x < r → ¬ (u x = false ∧ al x = true) := by
  intro k
  induction k with
  | zero => intro j r h; cases h
  | succ k ih =>
    intro j r h
    rw [gf] at h
    by_cases c : u j = false ∧ al j = true
    · rw [if_pos c] at h
      cases h
      exact ⟨Nat.le_refl _, by omega, c.1, c.2, fun x h1 h2 => by omega⟩
    · rw [if_neg c] at h
      obtain ⟨h1, h2, h3, h4, h5⟩ := ih _ _ h
      refine ⟨by omega, by omega, h3, h4, fun x g1 g2 => ?_⟩
      by_cases e : x = j
      · rw [e]; exact c
      · exact h5 x (by omega) g2
theorem gf_n {al u : Nat → Bool} : ∀ (k j : Nat), gf al u k j = none → ∀ x, j ≤ x → x < j + k → ¬ (u x = false ∧ al x = true) := by
  intro k
  induction k with
  | zero => intro j h x h1 h2; omega
  | succ k ih =>
    intro j h x h1 h2
    rw [gf] at h
    by_cases c : u j = false ∧ al j = true
    · rw [if_pos c] at h; cases h
    · rw [if_neg c] at h
      by_cases e : x = j
      · rw [e]; exact c
      · exact ih _ h x (by omega) (by omega)
/-- in lists -/
def cmn : List (List Int32) → List (List Int32) → Nat
  | [], _ => 0
  | x :: xs, ys => if x ∈ ys then cmn xs (ys.erase x) + 1 else cmn xs ys
theorem cmn_nil : ∀ (xs : List (List Int32)), cmn xs [] = 0 := by
  intro xs
  induction xs with
  | nil => rfl
  | cons x xs ih => rw [cmn, if_neg (by simp)]; exact ih
theorem cmn_cons (x : List Int32) (xs : List (List Int32)) : ∀ (ys : List (List Int32)), cmn ys (x :: xs) = if x ∈ ys then cmn (ys.erase x) xs + 1 else cmn ys xs := by
  intro ys
  induction ys generalizing xs with
  | nil => rw [if_neg (by simp)]; rfl
  | cons y ys ih =>
    by_cases e : y = x
    · subst e
      rw [cmn, if_pos (List.mem_cons_self ..), if_pos (List.mem_cons_self ..), List.erase_cons_head, List.erase_cons_head]
    · have hne : (y == x) = false := by simpa using e
      have hne' : (x == y) = false := by simpa using fun q => e q.symm
      have m1 : x ∈ y :: ys ↔ x ∈ ys := by rw [List.mem_cons]; exact ⟨fun q => q.resolve_left (fun w => e w.symm), Or.inr⟩
      have m2 : y ∈ x :: xs ↔ y ∈ xs := by rw [List.mem_cons]; exact ⟨fun q => q.resolve_left e, Or.inr⟩
      rw [cmn]
      by_cases c1 : y ∈ xs
      · rw [if_pos (m2.2 c1), List.erase_cons_tail (by simpa using hne'), ih]
        by_cases c2 : x ∈ ys
        · rw [if_pos c2, if_pos (m1.2 c2), List.erase_cons_tail (by simpa using hne), cmn, if_pos c1]
        · rw [if_neg c2, if_neg (fun q => c2 (m1.1 q)), cmn, if_pos c1]
      · rw [if_neg (fun q => c1 (m2.1 q)), ih]
        by_cases c2 : x ∈ ys
        · rw [if_pos c2, if_pos (m1.2 c2), List.erase_cons_tail (by simpa using hne), cmn, if_neg c1]
        · rw [if_neg c2, if_neg (fun q => c2 (m1.1 q)), cmn, if_neg c1]
theorem cmn_comm : ∀ (xs ys : List (List Int32)), cmn xs ys = cmn ys xs := by
  intro xs
  induction xs with
  | nil => intro ys; rw [cmn_nil]; rfl
  | cons x xs ih =>
    intro ys
    rw [cmn_cons, cmn, ih, ih]
/-- the words that are free -/
def fw (V : Nat → List Int32) (u : Nat → Bool) : Nat → Nat → List (List Int32)
  | 0, _ => []
  | k + 1, j => if u j = false then V j :: fw V u k (j + 1) else fw V u k (j + 1)
theorem fw_gu {V : Nat → List Int32} {u : Nat → Bool} {r : Nat} : ∀ (k j : Nat), r < j → fw V (gu u r) k j = fw V u k j := by
  intro k
  induction k with
  | zero => intro j _; rfl
  | succ k ih =>
    intro j h
    have e : gu u r j = u j := if_neg (by omega)
    rw [fw, fw, e, ih (j + 1) (by omega)]
theorem fw_s {V : Nat → List Int32} {u : Nat → Bool} {x : List Int32} : ∀ (k j r : Nat), j ≤ r → r < j + k → u r = false → V r = x → (∀ y, j ≤ y → y < r → ¬ (u y = false ∧ V y = x)) → x ∈ fw V u k j ∧ fw V (gu u r) k j = (fw V u k j).erase x := by
  intro k
  induction k with
  | zero => intro j r h1 h2; omega
  | succ k ih =>
    intro j r h1 h2 h3 h4 h5
    rw [fw, fw]
    by_cases e : r = j
    · subst e
      have eg : gu u r r = true := if_pos rfl
      rw [if_pos h3, eg, if_neg (by decide), h4, List.erase_cons_head, fw_gu _ _ (Nat.lt_succ_self _)]
      exact ⟨List.mem_cons_self .., rfl⟩
    · obtain ⟨g1, g2⟩ := ih (j + 1) r (by omega) (by omega) h3 h4 (fun y y1 y2 => h5 y (by omega) y2)
      have eg : gu u r j = u j := if_neg (by omega)
      rw [eg]
      by_cases c : u j = false
      · have hn : ¬ V j = x := fun q => h5 j (Nat.le_refl _) (by omega) ⟨c, q⟩
        rw [if_pos c, if_pos c, g2, List.erase_cons_tail (by simpa using hn)]
        exact ⟨List.mem_cons_of_mem _ g1, rfl⟩
      · rw [if_neg c, if_neg c]
        exact ⟨g1, g2⟩
theorem fw_n {V : Nat → List Int32} {u : Nat → Bool} {x : List Int32} : ∀ (k j : Nat), (∀ y, j ≤ y → y < j + k → ¬ (u y = false ∧ V y = x)) → x ∉ fw V u k j := by
  intro k
  induction k with
  | zero => intro j _ h; cases h
  | succ k ih =>
    intro j h
    have := ih (j + 1) (fun y y1 y2 => h y (by omega) (by omega))
    rw [fw]
    by_cases c : u j = false
    · rw [if_pos c]
      intro hm
      rcases List.mem_cons.1 hm with q | q
      · exact h j (Nat.le_refl _) (by omega) ⟨c, q.symm⟩
      · exact this q
    · rw [if_neg c]
      exact this
def ofW (U : Nat → List Int32) : Nat → Nat → List (List Int32)
  | 0, _ => []
  | k + 1, i => U i :: ofW U k (i + 1)
theorem gr_cmn {U V : Nat → List Int32} {nq : Nat} : ∀ (k i : Nat) (u : Nat → Bool), gr (fun x y => decide (U x = V y)) nq k i u = cmn (ofW U k i) (fw V u nq 0) := by
  intro k
  induction k with
  | zero => intro i u; rfl
  | succ k ih =>
    intro i u
    rw [gr, ofW, cmn]
    cases h : gf (fun y => decide (U i = V y)) u nq 0 with
    | none =>
      have := gf_n _ _ h
      rw [if_neg (fw_n _ _ (fun y y1 y2 q => this y y1 y2 ⟨q.1, by simp [q.2]⟩))]
      exact ih _ _
    | some r =>
      obtain ⟨h1, h2, h3, h4, h5⟩ := gf_s _ _ _ h
      obtain ⟨g1, g2⟩ := fw_s (V := V) (u := u) (x := U i) nq 0 r h1 h2 h3 (by simpa using h4 : U i = V r).symm (fun y y1 y2 q => h5 y y1 y2 ⟨q.1, by simp [q.2]⟩)
      rw [if_pos g1, ← g2]
      exact congrArg (· + 1) (ih _ _)
theorem fw_0 {V : Nat → List Int32} : ∀ (k j : Nat), fw V (fun _ => false) k j = ofW V k j := by
  intro k
  induction k with
  | zero => intro j; rfl
  | succ k ih => intro j; rw [fw, if_pos rfl, ofW, ih]
theorem gr_comm {U V : Nat → List Int32} {np nq : Nat} : gr (fun x y => decide (U x = V y)) nq np 0 (fun _ => false) = gr (fun y x => decide (V y = U x)) np nq 0 (fun _ => false) := by
  rw [gr_cmn, gr_cmn, fw_0, fw_0, cmn_comm]
end GRX
