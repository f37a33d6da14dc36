/-! how a drawn program is read: the automaton's way, token by token -/
section SIMD
abbrev KV : Type := Int32 × Int32
variable {s s' : Sx} {a e L np : Nat} {op bl : List Ae} {rest r : List KV} {st : Int32}
/-- from A the automaton comes to B -/
def GoA (A B : Au) : Prop := ∃ k A', au_it k A = .inl A' ∧ au_set A' = au_set B
theorem GoA.rr (A : Au) : GoA A A := ⟨0, A, rfl, rfl⟩
theorem GoA.tr {A B C : Au} (h : GoA A B) (h' : GoA B C) : GoA A C := by
  obtain ⟨k, A', h1, h2⟩ := h
  obtain ⟨j, B', h3, h4⟩ := h'
  cases j with
  | zero =>
    cases h3
    exact ⟨k, A', h1, h2.trans h4⟩
  | succ j =>
    refine ⟨k + (j + 1), B', ?_, h4⟩
    rw [au_it_add h1, ← au_it_set, h2, au_it_set]
    exact h3
theorem GoA.one {A B : Au} (h : au_acc A = .inl B) : GoA A B := ⟨1, B, (au_it_s h).trans rfl, rfl⟩
theorem GoA.set {A B : Au} (h : au_set A = B) : GoA A B := ⟨0, A, rfl, by rw [← h, au_set_i]⟩
/-- what lies before the reader -/
def Rs (s : Sx) (a : Nat) (rest : List KV) : Prop := (s.1 0).drop a = rest.map (fun t => t.1) ∧ (s.1 1).drop a = rest.map (fun t => t.2)
/-- a token that is marked as a name of a def has the value 0 -/
def I5 (s : Sx) (a : Nat) : Prop := ∀ t, t < a → (s.1 0).getD t 0 = 35 → (s.1 1).getD t 0 = 0
def Q1 (s : Sx) (a e L : Nat) (rest : List KV) : Prop := Lv a e L s ∧ Rs s a rest ∧ I5 s a
/-- tokens that are read keep their kind -/
def Z0 (s s' : Sx) (a : Nat) : Prop := ∀ t, t < a → (s'.1 0).getD t 0 = (s.1 0).getD t 0
theorem Z0.rr : Z0 s s a := fun _ _ => rfl
theorem Z0.tr {s'' : Sx} {b : Nat} (h : Z0 s s' a) (h' : Z0 s' s'' b) (hb : a ≤ b) : Z0 s s'' a := fun t ht => (h' t (by omega)).trans (h t ht)
def N8 (l : List Int32) : Prop := ∃ q : List Nat, l = q.map nI ∧ q.Nodup ∧ ∀ x, x ∈ q → x < 6
/-- what reading an expression leaves as it is -/
def Ow (s s' : Sx) : Prop := (∀ k, k = 5 ∨ k = 9 ∨ k = 10 ∨ 15 ≤ k ∧ k ≤ 17 → s'.1 k = s.1 k) ∧ (N8 (s.1 13) → N8 (s'.1 13)) ∧ (N8 (s.1 14) → N8 (s'.1 14)) ∧ s'.2 5 = s.2 5
theorem Ow.rr : Ow s s := ⟨fun _ _ => rfl, id, id, rfl⟩
theorem Ow.tr {s'' : Sx} (h : Ow s s') (h' : Ow s' s'') : Ow s s'' := ⟨fun k hk => (h'.1 k hk).trans (h.1 k hk), fun q => h'.2.1 (h.2.1 q), fun q => h'.2.2.1 (h.2.2.1 q), h'.2.2.2.trans h.2.2.2⟩
theorem Ow.of (h : ∀ k, k = 5 ∨ k = 9 ∨ k = 10 ∨ 13 ≤ k ∧ k ≤ 17 → s'.1 k = s.1 k) (h5 : s'.2 5 = s.2 5) : Ow s s' :=
  ⟨fun k hk => h k (by omega), fun q => by rw [h 13 (by decide)]; exact q, fun q => by rw [h 14 (by decide)]; exact q, h5⟩
theorem Ow.cd {c x : Int32} : Ow s (au_cd c x s) := Ow.of (fun k hk => by
  show (if k = 8 then _ else if k = 7 then _ else s.1 k) = s.1 k
  rw [if_neg (by omega), if_neg (by omega)]) rfl
theorem Ow.pt {x : Int32} : Ow s (au_pt x s) := Ow.of (fun k hk => if_neg (by omega)) rfl
theorem Ow.sv {t x : Int32} : Ow s (au_sv t x s) := Ow.of (fun k hk => if_neg (by omega)) rfl
theorem Ow.ep {x : Int32} : Ow s (au_ep x s) := Ow.of (fun k hk => if_neg (by omega)) rfl
theorem Ow.nx : Ow s (au_nx s) := Ow.of (fun k hk => rfl) rfl
theorem Ow.up : Ow s (au_up s) := Ow.of (fun k hk => rfl) rfl
theorem Ow.dn : Ow s (au_dn s) := Ow.of (fun k hk => rfl) rfl
theorem Ow.sk {x : Int32} : Ow s (au_sk x s) := Ow.of (fun k hk => if_neg (by omega)) rfl
theorem Ow.pop {x : Ae} : Ow s (au_pop x s) := by
  unfold au_pop
  split
  · exact (Ow.cd.tr Ow.pt).tr Ow.sv
  · exact Ow.cd
/-- rows 0 and 1 are the same -/
theorem Q1.co (h : Q1 s a e L rest) (c : Co s s') (h1 : s'.1 1 = s.1 1) : Q1 s' a e L rest := by
  obtain ⟨q1, ⟨q2, q3⟩, q4⟩ := h
  refine ⟨q1.co c, ⟨by rw [c.1]; exact q2, by rw [h1]; exact q3⟩, fun t ht => ?_⟩
  rw [c.1, h1]
  exact q4 t ht
theorem Q1.cd {c x : Int32} (h : Q1 s a e L rest) : Q1 (au_cd c x s) a e L rest := h.co Co_cd rfl
theorem Q1.pt {x : Int32} (h : Q1 s a e L rest) : Q1 (au_pt x s) a e L rest := h.co Co_pt rfl
theorem Q1.ep {x : Int32} (h : Q1 s a e L rest) : Q1 (au_ep x s) a e L rest := h.co Co_ep rfl
theorem Q1.bp (h : Q1 s a e L rest) : Q1 (au_bp s) a e L rest := h.co Co_bp rfl
theorem gD_head {l : List Int32} {x : Int32} {q : List Int32} (h : l.drop a = x :: q) : l.getD a 0 = x ∧ a < l.length ∧ l.drop (a + 1) = q := by
  have hl : a < l.length := by
    rcases Nat.lt_or_ge a l.length with z | z
    · exact z
    · rw [List.drop_eq_nil_of_le z] at h; cases h
  rw [List.drop_eq_getElem_cons hl] at h
  injection h with h1 h2
  refine ⟨?_, hl, h2⟩
  rw [List.getD_eq_getElem?_getD, List.getElem?_eq_getElem hl]
  exact h1
end SIMD
