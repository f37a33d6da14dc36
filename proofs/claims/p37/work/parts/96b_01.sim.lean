/-! how a drawn program is read: the automaton's way, token by token -/
section SIMD
variable {s s' : Sx} {a e L np : Nat} {op bl : List Ae} {rest r : List KV} {st : Int32}
theorem Q1.hd {k v : Int32} (h : Q1 s a e L ((k, v) :: r)) : au_ko s = k ∧ xg (s.1 1) (s.2 2) = v ∧ s.2 2 = nI a ∧ (s.1 0).getD a 0 = k ∧ (s.1 1).getD a 0 = v ∧ a < (s.1 0).length ∧ a < (s.1 1).length ∧ (s.1 0).drop (a + 1) = r.map (fun t => t.1) ∧ (s.1 1).drop (a + 1) = r.map (fun t => t.2) ∧ a ≤ 300 := by
  obtain ⟨q1, ⟨q2, q3⟩, q4⟩ := h
  have h300 : a ≤ 300 := by have := q1.2.2.2.1; have := q1.2.2.2.2.1; omega
  obtain ⟨g1, g2, g3⟩ := gD_head q2
  obtain ⟨k1, k2, k3⟩ := gD_head q3
  refine ⟨?_, ?_, q1.2.1, g1, k1, g2, k2, g3, k3, h300⟩
  · unfold au_ko
    rw [q1.2.1, xg_n (by omega), g1]
  · rw [q1.2.1, xg_n (by omega), k1]
theorem Q1.nk {k v k2 v2 : Int32} (h : Q1 s a e L ((k, v) :: (k2, v2) :: r)) : xg (s.1 0) (s.2 2 + 1) = k2 := by
  obtain ⟨h1, h2, h3, h4, h5, h6, h7, h8, h9, h10⟩ := h.hd
  obtain ⟨g1, g2, g3⟩ := gD_head h8
  rw [h3, nI_1, xg_n (by omega), g1]
theorem Q1.lt {k v : Int32} (h : Q1 s a e L ((k, v) :: r)) (hk : k ≠ 0) : a < e := h.1.lt (by rw [h.hd.1]; exact hk)
theorem I5.nx {k v : Int32} (h : I5 s a) (h0 : (s.1 0).getD a 0 = k) (h1 : (s.1 1).getD a 0 = v) (hk : k = 35 → v = 0) : I5 s (a + 1) := fun t ht e => by
  by_cases q : t = a
  · rw [q, h1]
    rw [q, h0] at e
    exact hk e
  · exact h t (by omega) e
theorem Q1.nx {k v : Int32} (h : Q1 s a e L ((k, v) :: r)) (hk : k ≠ 0) (h35 : k = 35 → v = 0) : Q1 (au_nx s) (a + 1) e L r := by
  obtain ⟨h1, h2, h3, h4, h5, h6, h7, h8, h9, h10⟩ := h.hd
  exact ⟨h.1.nx (h.lt hk), ⟨h8, h9⟩, I5.nx h.2.2 h4 h5 h35⟩
theorem Q1.up {k v : Int32} (h : Q1 s a e L ((k, v) :: r)) (hk : k ≠ 0) (h35 : k = 35 → v = 0) (hL : L < 8) : Q1 (au_up s) (a + 1) e (L + 1) r := by
  obtain ⟨h1, h2, h3, h4, h5, h6, h7, h8, h9, h10⟩ := h.hd
  exact ⟨h.1.up (h.lt hk) hL, ⟨h8, h9⟩, I5.nx h.2.2 h4 h5 h35⟩
theorem Q1.dn (h : Q1 s a e (L + 1) rest) : Q1 (au_dn s) a e L rest := ⟨h.1.dn, h.2.1, h.2.2⟩
/-- the token before the reader is marked -/
theorem Q1.sk {k v x : Int32} (h : Q1 s a e L ((k, v) :: r)) (hk : k ≠ 0) (hx : x ≠ 0) : Q1 (au_sk x s) a e L ((x, v) :: r) ∧ Z0 s (au_sk x s) a := by
  obtain ⟨h1, h2, h3, h4, h5, h6, h7, h8, h9, h10⟩ := h.hd
  have e0 : (au_sk x s).1 0 = (s.1 0).set a x := by
    show xset (s.1 0) (s.2 2) x = _
    rw [h3, xset_n (by omega)]
  have z : Z0 s (au_sk x s) a := fun t ht => by rw [e0, gD_set_n (by omega)]
  refine ⟨⟨h.1.sk (h.lt hk) hx, ⟨?_, h.2.1.2⟩, fun t ht => ?_⟩, z⟩
  · rw [e0, List.drop_eq_getElem_cons (by rw [List.length_set]; exact h6), List.getElem_set_self, List.drop_set_of_lt (by omega), h8]
    rfl
  · rw [z t ht]
    exact h.2.2 t ht
/-- a value is told to a token that is read -/
theorem Q1.sv {t : Nat} {x : Int32} (h : Q1 s a e L rest) (ht : t < a) (h35 : (s.1 0).getD t 0 ≠ 35) : Q1 (au_sv (nI t) x s) a e L rest := by
  have h300 : a ≤ 300 := by have := h.1.2.2.2.1; have := h.1.2.2.2.2.1; omega
  have e1 : (au_sv (nI t) x s).1 1 = (s.1 1).set t x := by
    show xset (s.1 1) (nI t) x = _
    rw [xset_n (by omega)]
  refine ⟨h.1.co Co_sv, ⟨h.2.1.1, ?_⟩, fun j hj e => ?_⟩
  · rw [e1, List.drop_set_of_lt ht]
    exact h.2.1.2
  · have e' : (s.1 0).getD j 0 = 35 := e
    rw [e1, gD_set_n (fun z => h35 (by rw [z]; exact e'))]
    exact h.2.2 j hj e'
/-- the same for the token before the reader -/
theorem Q1.sva {k v x : Int32} (h : Q1 s a e L ((k, v) :: r)) : Q1 (au_sv (s.2 2) x s) a e L ((k, x) :: r) := by
  obtain ⟨h1, h2, h3, h4, h5, h6, h7, h8, h9, h10⟩ := h.hd
  have e1 : (au_sv (s.2 2) x s).1 1 = (s.1 1).set a x := by
    show xset (s.1 1) (s.2 2) x = _
    rw [h3, xset_n (by omega)]
  refine ⟨h.1.co Co_sv, ⟨h.2.1.1, ?_⟩, fun j hj e => ?_⟩
  · rw [e1, List.drop_eq_getElem_cons (by rw [List.length_set]; exact h7), List.getElem_set_self, List.drop_set_of_lt (by omega), h9]
    rfl
  · rw [e1, gD_set_n (by omega)]
    exact h.2.2 j hj e
theorem nd_leq : ∀ (n : Nat) (l : List Nat), l.Nodup → (∀ x, x ∈ l → x < n) → l.length ≤ n := by
  intro n
  induction n with
  | zero =>
    intro l _ h
    cases l with
    | nil => exact Nat.le_refl _
    | cons x r => exact absurd (h x List.mem_cons_self) (by omega)
  | succ n ih =>
    intro l hd h
    by_cases hn : n ∈ l
    · have h1 : (l.erase n).length = l.length - 1 := List.length_erase_of_mem hn
      have h2 := ih (l.erase n) (hd.erase n) (fun x hx => by
        have := (hd.mem_erase_iff).1 hx
        have := h x this.2
        omega)
      omega
    · exact Nat.le_succ_of_le (ih l hd (fun x hx => by
        have := h x hx
        rcases Nat.lt_or_ge x n with z | z
        · exact z
        · have : x = n := by omega
          subst this
          exact absurd hx hn))
end SIMD
