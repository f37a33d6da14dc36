/-! how a drawn program is read: the automaton's way, token by token -/
section SIMD
abbrev KV : Type := Int32 × Int32
variable {s s' : Sx} {a e L np : Nat} {op bl : List Ae} {rest r : List KV} {st : Int32}
/-- from A the automaton comes to B -/
def Go (A B : Au) : Prop := ∃ k A', au_it k A = .inl A' ∧ au_set A' = au_set B
theorem Go.r (A : Au) : Go A A := ⟨0, A, rfl, rfl⟩
theorem Go.tr {A B C : Au} (h : Go A B) (h' : Go B C) : Go A C := by
  obtain ⟨k, A', h1, h2⟩ := h
  obtain ⟨j, B', h3, h4⟩ := h'
  cases j with
  | zero =>
    cases h3
    exact ⟨k, A', h1, h2.trans h4⟩
  | succ j =>
    refine ⟨k + (j + 1), B', ?_, h4⟩
    rw [au_it_add h1, ← au_it_set, h2, au_it_set]
    exact h3
theorem Go.one {A B : Au} (h : au_acc A = .inl B) : Go A B := ⟨1, B, (au_it_s h).trans rfl, rfl⟩
theorem Go.set {A B : Au} (h : au_set A = B) : Go A B := ⟨0, A, rfl, by rw [← h, au_set_i]⟩
/-- what lies before the reader -/
def Rs (s : Sx) (a : Nat) (rest : List KV) : Prop := (s.1 0).drop a = rest.map (fun t => t.1) ∧ (s.1 1).drop a = rest.map (fun t => t.2)
/-- a token that is marked as a name of a def has the value 0 -/
def I5 (s : Sx) (a : Nat) : Prop := ∀ t, t < a → (s.1 0).getD t 0 = 35 → (s.1 1).getD t 0 = 0
def Q1 (s : Sx) (a e L : Nat) (rest : List KV) : Prop := Lv a e L s ∧ Rs s a rest ∧ I5 s a
/-- tokens that are read keep their kind -/
def Z0 (s s' : Sx) (a : Nat) : Prop := ∀ t, t < a → (s'.1 0).getD t 0 = (s.1 0).getD t 0
theorem Z0.r : Z0 s s a := fun _ _ => rfl
theorem Z0.tr {s'' : Sx} {b : Nat} (h : Z0 s s' a) (h' : Z0 s' s'' b) (hb : a ≤ b) : Z0 s s'' a := fun t ht => (h' t (by omega)).trans (h t ht)
def N8 (l : List Int32) : Prop := ∃ q : List Nat, l = q.map nI ∧ q.Nodup ∧ ∀ x, x ∈ q → x < 6
/-- what reading an expression leaves as it is -/
def Ow (s s' : Sx) : Prop := (∀ k, k = 5 ∨ k = 9 ∨ k = 10 ∨ 15 ≤ k ∧ k ≤ 17 → s'.1 k = s.1 k) ∧ (N8 (s.1 13) → N8 (s'.1 13)) ∧ (N8 (s.1 14) → N8 (s'.1 14)) ∧ s'.2 5 = s.2 5
theorem Ow.r : Ow s s := ⟨fun _ _ => rfl, id, id, rfl⟩
theorem Ow.tr {s'' : Sx} (h : Ow s s') (h' : Ow s' s'') : Ow s s'' := ⟨fun k hk => (h'.1 k hk).trans (h.1 k hk), fun q => h'.2.1 (h.2.1 q), fun q => h'.2.2.1 (h.2.2.1 q), h'.2.2.2.trans h.2.2.2⟩
theorem Ow.of (h : ∀ k, k = 5 ∨ k = 9 ∨ k = 10 ∨ 13 ≤ k ∧ k ≤ 17 → s'.1 k = s.1 k) (h5 : s'.2 5 = s.2 5) : Ow s s' :=
  ⟨fun k hk => h k (by omega), fun q => by rw [h 13 (by decide)]; exact q, fun q => by rw [h 14 (by decide)]; exact q, h5⟩
theorem Ow.cd {c x : Int32} : Ow s (au_cd c x s) := Ow.of (fun k hk => by
  show (if k = 8 then _ else if k = 7 then _ else s.1 k) = s.1 k
  rw [if_neg (by omega), if_neg (by omega)]) rfl
theorem Ow.pt {x : Int32} : Ow s (au_pt x s) := Ow.of (fun k hk => if_neg (by omega)) rfl
theorem Ow.sv {t x : Int32} : Ow s (au_sv t x s) := Ow.of (fun k hk => if_neg (by omega)) rfl
theorem Ow.ep {x : Int32} : Ow s (au_ep x s) := Ow.of (fun k hk => if_neg (by omega)) rfl
theorem Ow.nx : Ow s (au_nx s) := Ow.of (fun k hk => rfl) rfl
theorem Ow.up : Ow s (au_up s) := Ow.of (fun k hk => rfl) rfl
theorem Ow.dn : Ow s (au_dn s) := Ow.of (fun k hk => rfl) rfl
theorem Ow.sk {x : Int32} : Ow s (au_sk x s) := Ow.of (fun k hk => if_neg (by omega)) rfl
theorem Ow.pop {x : Ae} : Ow s (au_pop x s) := by
  unfold au_pop
  split
  · exact (Ow.cd.tr Ow.pt).tr Ow.sv
  · exact Ow.cd
/-- rows 0 and 1 are the same -/
theorem Q1.co (h : Q1 s a e L rest) (c : Co s s') (h1 : s'.1 1 = s.1 1) : Q1 s' a e L rest := by
  obtain ⟨q1, ⟨q2, q3⟩, q4⟩ := h
  refine ⟨q1.co c, ⟨by rw [c.1]; exact q2, by rw [h1]; exact q3⟩, fun t ht => ?_⟩
  rw [c.1, h1]
  exact q4 t ht
theorem Q1.cd {c x : Int32} (h : Q1 s a e L rest) : Q1 (au_cd c x s) a e L rest := h.co Co_cd rfl
theorem Q1.pt {x : Int32} (h : Q1 s a e L rest) : Q1 (au_pt x s) a e L rest := h.co Co_pt rfl
theorem Q1.ep {x : Int32} (h : Q1 s a e L rest) : Q1 (au_ep x s) a e L rest := h.co Co_ep rfl
theorem Q1.bp (h : Q1 s a e L rest) : Q1 (au_bp s) a e L rest := h.co Co_bp rfl
theorem gD_head {l : List Int32} {x : Int32} {q : List Int32} (h : l.drop a = x :: q) : l.getD a 0 = x ∧ a < l.length ∧ l.drop (a + 1) = q := by
  have hl : a < l.length := by
    rcases Nat.lt_or_ge a l.length with z | z
    · exact z
    · rw [List.drop_eq_nil_of_le z] at h; cases h
  rw [List.drop_eq_getElem_cons hl] at h
  injection h with h1 h2
  refine ⟨?_, hl, h2⟩
  rw [List.getD_eq_getElem?_getD, List.getElem?_eq_getElem hl]
  exact h1
theorem Q1.hd {k v : Int32} (h : Q1 s a e L ((k, v) :: r)) : au_ko s = k ∧ xg (s.1 1) (s.2 2) = v ∧ s.2 2 = nI a ∧ (s.1 0).getD a 0 = k ∧ (s.1 1).getD a 0 = v ∧ a < (s.1 0).length ∧ a < (s.1 1).length ∧ (s.1 0).drop (a + 1) = r.map (fun t => t.1) ∧ (s.1 1).drop (a + 1) = r.map (fun t => t.2) ∧ a ≤ 300 := by
  obtain ⟨q1, ⟨q2, q3⟩, q4⟩ := h
  have h300 : a ≤ 300 := by have := q1.2.2.2.1; have := q1.2.2.2.2.1; omega
  obtain ⟨g1, g2, g3⟩ := gD_head q2
  obtain ⟨k1, k2, k3⟩ := gD_head q3
  refine ⟨?_, ?_, q1.2.1, g1, k1, g2, k2, g3, k3, h300⟩
  · unfold au_ko
    rw [q1.2.1, xg_n (by omega), g1]
  · rw [q1.2.1, xg_n (by omega), k1]
theorem Q1.nk {k v k2 v2 : Int32} (h : Q1 s a e L ((k, v) :: (k2, v2) :: r)) : xg (s.1 0) (s.2 2 + 1) = k2 := by
  obtain ⟨h1, h2, h3, h4, h5, h6, h7, h8, h9, h10⟩ := h.hd
  obtain ⟨g1, g2, g3⟩ := gD_head h8
  rw [h3, nI_1, xg_n (by omega), g1]
theorem Q1.lt {k v : Int32} (h : Q1 s a e L ((k, v) :: r)) (hk : k ≠ 0) : a < e := h.1.lt (by rw [h.hd.1]; exact hk)
theorem I5.nx {k v : Int32} (h : I5 s a) (h0 : (s.1 0).getD a 0 = k) (h1 : (s.1 1).getD a 0 = v) (hk : k = 35 → v = 0) : I5 s (a + 1) := fun t ht e => by
  by_cases q : t = a
  · rw [q, h1]
    rw [q, h0] at e
    exact hk e
  · exact h t (by omega) e
theorem Q1.nx {k v : Int32} (h : Q1 s a e L ((k, v) :: r)) (hk : k ≠ 0) (h35 : k = 35 → v = 0) : Q1 (au_nx s) (a + 1) e L r := by
  obtain ⟨h1, h2, h3, h4, h5, h6, h7, h8, h9, h10⟩ := h.hd
  exact ⟨h.1.nx (h.lt hk), ⟨h8, h9⟩, I5.nx h.2.2 h4 h5 h35⟩
theorem Q1.up {k v : Int32} (h : Q1 s a e L ((k, v) :: r)) (hk : k ≠ 0) (h35 : k = 35 → v = 0) (hL : L < 8) : Q1 (au_up s) (a + 1) e (L + 1) r := by
  obtain ⟨h1, h2, h3, h4, h5, h6, h7, h8, h9, h10⟩ := h.hd
  exact ⟨h.1.up (h.lt hk) hL, ⟨h8, h9⟩, I5.nx h.2.2 h4 h5 h35⟩
theorem Q1.dn (h : Q1 s a e (L + 1) rest) : Q1 (au_dn s) a e L rest := ⟨h.1.dn, h.2.1, h.2.2⟩
/-- the token before the reader is marked -/
theorem Q1.sk {k v x : Int32} (h : Q1 s a e L ((k, v) :: r)) (hk : k ≠ 0) (hx : x ≠ 0) : Q1 (au_sk x s) a e L ((x, v) :: r) ∧ Z0 s (au_sk x s) a := by
  obtain ⟨h1, h2, h3, h4, h5, h6, h7, h8, h9, h10⟩ := h.hd
  have e0 : (au_sk x s).1 0 = (s.1 0).set a x := by
    show xset (s.1 0) (s.2 2) x = _
    rw [h3, xset_n (by omega)]
  have z : Z0 s (au_sk x s) a := fun t ht => by rw [e0, gD_set_n (by omega)]
  refine ⟨⟨h.1.sk (h.lt hk) hx, ⟨?_, h.2.1.2⟩, fun t ht => ?_⟩, z⟩
  · rw [e0, List.drop_eq_getElem_cons (by rw [List.length_set]; exact h6), List.getElem_set_self, List.drop_set_of_lt (by omega), h8]
    rfl
  · rw [z t ht]
    exact h.2.2 t ht
/-- a value is told to a token that is read -/
theorem Q1.sv {t : Nat} {x : Int32} (h : Q1 s a e L rest) (ht : t < a) (h35 : (s.1 0).getD t 0 ≠ 35) : Q1 (au_sv (nI t) x s) a e L rest := by
  have h300 : a ≤ 300 := by have := h.1.2.2.2.1; have := h.1.2.2.2.2.1; omega
  have e1 : (au_sv (nI t) x s).1 1 = (s.1 1).set t x := by
    show xset (s.1 1) (nI t) x = _
    rw [xset_n (by omega)]
  refine ⟨h.1.co Co_sv, ⟨h.2.1.1, ?_⟩, fun j hj e => ?_⟩
  · rw [e1, List.drop_set_of_lt ht]
    exact h.2.1.2
  · have e' : (s.1 0).getD j 0 = 35 := e
    rw [e1, gD_set_n (fun z => h35 (by rw [z]; exact e'))]
    exact h.2.2 j hj e'
/-- the same for the token before the reader -/
theorem Q1.sva {k v x : Int32} (h : Q1 s a e L ((k, v) :: r)) : Q1 (au_sv (s.2 2) x s) a e L ((k, x) :: r) := by
  obtain ⟨h1, h2, h3, h4, h5, h6, h7, h8, h9, h10⟩ := h.hd
  have e1 : (au_sv (s.2 2) x s).1 1 = (s.1 1).set a x := by
    show xset (s.1 1) (s.2 2) x = _
    rw [h3, xset_n (by omega)]
  refine ⟨h.1.co Co_sv, ⟨h.2.1.1, ?_⟩, fun j hj e => ?_⟩
  · rw [e1, List.drop_eq_getElem_cons (by rw [List.length_set]; exact h7), List.getElem_set_self, List.drop_set_of_lt (by omega), h9]
    rfl
  · rw [e1, gD_set_n (by omega)]
    exact h.2.2 j hj e
theorem nd_le : ∀ (n : Nat) (l : List Nat), l.Nodup → (∀ x, x ∈ l → x < n) → l.length ≤ n := by
  intro n
  induction n with
  | zero =>
    intro l _ h
    cases l with
    | nil => exact Nat.le_refl _
    | cons x r => exact absurd (h x List.mem_cons_self) (by omega)
  | succ n ih =>
    intro l hd h
    by_cases hn : n ∈ l
    · have h1 : (l.erase n).length = l.length - 1 := List.length_erase_of_mem hn
      have h2 := ih (l.erase n) (hd.erase n) (fun x hx => by
        have := (hd.mem_erase_iff).1 hx
        have := h x this.2
        omega)
      omega
    · exact Nat.le_succ_of_le (ih l hd (fun x hx => by
        have := h x hx
        rcases Nat.lt_or_ge x n with z | z
        · exact z
        · have : x = n := by omega
          subst this
          exact absurd hx hn))
theorem N8.len {l : List Int32} (h : N8 l) : l.length ≤ 6 := by
  obtain ⟨q, h1, h2, h3⟩ := h
  rw [h1, List.length_map]
  exact nd_le 6 q h2 h3
theorem N8.nil : N8 [] := ⟨[], rfl, List.nodup_nil, fun x hx => by cases hx⟩
theorem N8.add {l : List Int32} {q : Nat} (h : N8 l) (hq : q < 6) (hn : nI q ∉ l) : N8 (l ++ [nI q]) := by
  obtain ⟨p, h1, h2, h3⟩ := h
  refine ⟨p ++ [q], by rw [List.map_append, ← h1]; rfl, ?_, fun x hx => ?_⟩
  · rw [List.nodup_append]
    refine ⟨h2, by simp, fun x hx y hy => ?_⟩
    rw [List.mem_singleton] at hy
    intro e
    apply hn
    rw [h1, ← hy, ← e]
    exact List.mem_map_of_mem hx
  · rcases List.mem_append.1 hx with z | z
    · exact h3 x z
    · rw [List.mem_singleton] at z
      omega
/-- a variable is read -/
theorem Q1.var {q : Nat} {x : Nat} {k : Sx → Int32 → Ar} (h : Q1 s a e L ((4, nI q) :: r)) (hq : q < 6) (hx : x = 13 ∨ x = 14) (hN : N8 (s.1 x)) : ∃ s' v, au_var x s k = k s' v ∧ Q1 s' (a + 1) e L r ∧ Ow s s' ∧ Z0 s s' a ∧ (nI q ∉ s.1 x → s'.1 x = s.1 x ++ [nI q]) := by
  obtain ⟨h1, h2, h3, h4, h5, h6, h7, h8, h9, h10⟩ := h.hd
  have hl := hN.len
  have h8' : nI (s.1 x).length < 8 := by
    rw [i_lt, nI_T (by omega), show (8 : Int32).toInt = 8 by decide]; omega
  have hae : a < e := h.lt (by decide)
  have fin : ∀ (sB' : Sx) (l2 : Int32), Q1 sB' a e L ((4, nI q) :: r) → Q1 (f_5022_J67 x l2 sB').1 (a + 1) e L r ∧ Ow sB' (f_5022_J67 x l2 sB').1 ∧ Z0 sB' (f_5022_J67 x l2 sB').1 a := by
    intro sB' l2 hB
    have e : (f_5022_J67 x l2 sB').1 = au_nx (au_sv ((au_sk 34 sB').2 2) l2 (au_sk 34 sB')) := rfl
    obtain ⟨k1, k2⟩ := hB.sk (x := 34) (by decide) (by decide)
    have k3 := k1.sva (x := l2)
    rw [e]
    exact ⟨k3.nx (by decide) (fun z => absurd z (by decide)), (Ow.sk.tr Ow.sv).tr Ow.nx, k2⟩
  have hau : au_var x s k = k (f_5022 x s).1 (f_5022 x s).2 := by
    unfold au_var
    rw [if_neg (fun z => z.2 h8')]
  by_cases hm : nI q ∈ s.1 x
  · have hp : ¬ xpos (s.1 x) (xg (s.1 1) (s.2 2)) = -1 := by
      rw [h2]
      unfold xpos
      rw [if_pos hm]
      intro z
      have hi : (s.1 x).idxOf (nI q) < (s.1 x).length := List.idxOf_lt_length_of_mem hm
      have := congrArg Int32.toInt z
      rw [nI_T (by omega), show (-1 : Int32).toInt = -1 by decide] at this
      omega
    have e5 : f_5022 x s = f_5022_J67 x (xpos (s.1 x) (xg (s.1 1) (s.2 2))) s := by
      unfold f_5022
      rw [if_neg hp]
    obtain ⟨g1, g2, g3⟩ := fin s (xpos (s.1 x) (xg (s.1 1) (s.2 2))) h
    exact ⟨_, _, hau, by rw [e5]; exact g1, by rw [e5]; exact g2, by rw [e5]; exact g3, fun z => absurd hm z⟩
  · have hp : xpos (s.1 x) (xg (s.1 1) (s.2 2)) = -1 := by
      rw [h2]
      unfold xpos
      rw [if_neg hm]
    have hx8 : ev_cap x = 8 := by rcases hx with z | z <;> rw [z] <;> rfl
    obtain ⟨s1, hs1⟩ : ∃ s1, s1 = sB s x (s.1 x ++ [nI q]) := ⟨_, rfl⟩
    have e5 : f_5022 x s = f_5022_J67 x (nI (s.1 x).length) s1 := by
      unfold f_5022
      rw [if_pos hp, if_pos h8', bS_eq, h2, hs1]
      have : xadd (ev_cap x) (s.1 x) (nI q) = s.1 x ++ [nI q] := by
        unfold xadd
        rw [hx8, if_pos (by omega)]
      rw [this]
    have hq1 : Q1 s1 a e L ((4, nI q) :: r) := by
      rw [hs1]
      exact h.co (Co_sB (by omega)) (if_neg (by omega))
    have how : Ow s s1 := by
      have hk : ∀ k, k ≠ x → s1.1 k = s.1 k := fun k hk => by rw [hs1]; exact if_neg hk
      have hs : s1.1 x = s.1 x ++ [nI q] := by rw [hs1]; exact if_pos rfl
      have hn := hN.add hq hm
      refine ⟨fun k hk' => hk k (by omega), fun z => ?_, fun z => ?_, by rw [hs1]; rfl⟩
      · rcases hx with w | w
        · rw [← w, hs]; exact hn
        · rw [hk 13 (by omega)]; exact z
      · rcases hx with w | w
        · rw [hk 14 (by omega)]; exact z
        · rw [← w, hs]; exact hn
    obtain ⟨g1, g2, g3⟩ := fin s1 (nI (s.1 x).length) hq1
    refine ⟨_, _, hau, by rw [e5]; exact g1, by rw [e5]; exact how.tr g2, ?_, fun _ => ?_⟩
    · rw [e5]
      intro t ht
      rw [g3 t ht, hs1]
      exact congrArg (fun l : List Int32 => l.getD t 0) (if_neg (by omega))
    · rw [e5]
      have : (f_5022_J67 x (nI (s.1 x).length) s1).1.1 x = s1.1 x := by
        show (if x = 1 then _ else if x = 0 then _ else s1.1 x) = _
        rw [if_neg (by omega), if_neg (by omega)]
      rw [this, hs1]
      exact if_pos rfl
/-- marks with two operands that wait -/
def Mk (s : Sx) (a : Nat) (x : Ae) : Prop := 1 ≤ lvK x.1 ∧ x.1 ≠ 40 ∧ x.1 ≠ 48 ∧ x.1 ≠ 50 ∧ (x.1 = 23 ∨ x.1 = 24 → ∃ t, x.2.1 = nI t ∧ t < a ∧ (s.1 0).getD t 0 = x.1)
def Ms (s : Sx) (a : Nat) (ms : List Ae) : Prop := ∀ x, x ∈ ms → Mk s a x
theorem Mk.up {x : Ae} {b : Nat} (h : Mk s a x) (hz : Z0 s s' a) (hb : a ≤ b) : Mk s' b x := by
  obtain ⟨h1, h2, h3, h4, h5⟩ := h
  refine ⟨h1, h2, h3, h4, fun q => ?_⟩
  obtain ⟨t, t1, t2, t3⟩ := h5 q
  exact ⟨t, t1, by omega, (hz t t2).trans t3⟩
theorem Ms.up {ms : List Ae} {b : Nat} (h : Ms s a ms) (hz : Z0 s s' a) (hb : a ≤ b) : Ms s' b ms := fun x hx => (h x hx).up hz hb
/-- an entry below the marks -/
def Bt (b : Ae) : Prop := lvK b.1 = 0 ∧ b.1 ≠ 40 ∧ b.1 ≠ 48 ∧ b.1 ≠ 50
theorem Q1.pop {x : Ae} (h : Q1 s a e L rest) (hx : Mk s a x) : Q1 (au_pop x s) a e L rest ∧ Z0 s (au_pop x s) a := by
  unfold au_pop
  by_cases c : x.1 = 23 ∨ x.1 = 24
  · rw [if_pos c]
    obtain ⟨t, t1, t2, t3⟩ := hx.2.2.2.2 c
    rw [t1]
    refine ⟨(h.cd.pt).sv t2 (fun z => ?_), fun _ _ => rfl⟩
    have z' : (s.1 0).getD t 0 = 35 := z
    rw [t3] at z'
    rcases c with c | c <;> rw [c] at z' <;> exact absurd z' (by decide)
  · rw [if_neg c]
    exact ⟨h.cd, fun _ _ => rfl⟩
theorem fl_go {lv : Int32} (hlv : 1 ≤ lv) {b : Ae} {B : List Ae} (hb : Bt b) : ∀ (ms : List Ae) (s : Sx), Ms s a ms → Q1 s a e L rest → ∃ ms' s', au_fl lv (ms ++ b :: B) s = (ms' ++ b :: B, s') ∧ Ms s' a ms' ∧ Q1 s' a e L rest ∧ Ow s s' ∧ Z0 s s' a ∧ (lv = 1 → ms' = []) := by
  intro ms
  induction ms with
  | nil =>
    intro s hM hQ
    refine ⟨[], s, ?_, hM, hQ, Ow.r, Z0.r, fun _ => rfl⟩
    show au_fl lv (b :: B) s = (b :: B, s)
    unfold au_fl
    rw [if_neg (fun z => by
      rw [hb.1] at z
      have h1 := Int32.le_iff_toInt_le.1 hlv
      have h2 := Int32.le_iff_toInt_le.1 z
      have e1 : (1 : Int32).toInt = 1 := by decide
      have e0 : (0 : Int32).toInt = 0 := by decide
      omega)]
  | cons x ms ih =>
    intro s hM hQ
    have hx := hM x List.mem_cons_self
    by_cases c : lv ≤ lvK x.1
    · obtain ⟨p1, p2⟩ := hQ.pop hx
      obtain ⟨ms', s', g1, g2, g3, g4, g5, g6⟩ := ih (au_pop x s) (fun y hy => (hM y (List.mem_cons_of_mem _ hy)).up p2 (Nat.le_refl _)) p1
      refine ⟨ms', s', ?_, g2, g3, Ow.pop.tr g4, p2.tr g5 (Nat.le_refl _), g6⟩
      show au_fl lv (x :: (ms ++ b :: B)) s = _
      unfold au_fl
      rw [if_pos c]
      exact g1
    · refine ⟨x :: ms, s, ?_, hM, hQ, Ow.r, Z0.r, fun z => absurd (by rw [z]; exact hx.1) c⟩
      show au_fl lv (x :: (ms ++ b :: B)) s = _
      unfold au_fl
      rw [if_neg c]
      rfl
theorem en_n {ms B : List Ae} {b : Ae} (hM : Ms s a ms) (hb : Bt b) : au_en bl (ms ++ b :: B) s' = (s', 4, ms ++ b :: B, bl) := by
  cases ms with
  | nil =>
    show au_en bl (b :: B) s' = (s', 4, b :: B, bl)
    unfold au_en
    rw [if_neg hb.2.1, if_neg hb.2.2.1, if_neg hb.2.2.2]
  | cons x ms =>
    obtain ⟨h1, h2, h3, h4, h5⟩ := hM x List.mem_cons_self
    show au_en bl (x :: (ms ++ b :: B)) s' = (s', 4, x :: (ms ++ b :: B), bl)
    unfold au_en
    rw [if_neg h2, if_neg h3, if_neg h4]
/-- the tokens of an operand without a mark -/
def BsT (rest r : List KV) : Prop := (∃ v, rest = (3, v) :: r) ∨ (∃ v, rest = (9, v) :: r) ∨ ∃ q k2 v2 r2, q < 6 ∧ r = (k2, v2) :: r2 ∧ k2 ≠ 28 ∧ rest = (4, nI q) :: r
def OpT (rest r : List KV) : Prop := BsT rest r ∨ ∃ pk pv r1, (pk = 13 ∨ pk = 25 ∨ pk = 26) ∧ rest = (pk, pv) :: r1 ∧ BsT r1 r
def mkK (k : Int32) : Prop := ∃ j : Nat, 12 ≤ j ∧ j < 25 ∧ k = nI j
theorem mkK_f : ∀ j : Nat, j < 25 → 12 ≤ j → (0 < lvK (nI j) ∧ lvK (nI j) < 7) ∧ 1 ≤ lvK (nI j) ∧ nI j ≠ 40 ∧ nI j ≠ 48 ∧ nI j ≠ 50 ∧ nI j ≠ 0 ∧ nI j ≠ 35 := by decide +kernel
def VlT : Nat → List KV → List KV → Prop
  | 0, rest, r => OpT rest r
  | n + 1, rest, r => ∃ mk v r1, OpT rest ((mk, v) :: r1) ∧ mkK mk ∧ VlT n r1 r
theorem BsT.ne {k v : Int32} (h : BsT rest r) (e : rest = (k, v) :: r') : k = 3 ∨ k = 9 ∨ k = 4 := by
  rcases h with ⟨w, h⟩ | ⟨w, h⟩ | ⟨q, k2, v2, r2, _, _, _, h⟩
  · rw [h] at e; cases e; exact Or.inl rfl
  · rw [h] at e; cases e; exact Or.inr (Or.inl rfl)
  · rw [h] at e; cases e; exact Or.inr (Or.inr rfl)
theorem acc_opd (h : st = 2 ∨ st = 3) : au_acc (s, st, op, bl) = au_opd s st op bl := by
  have h1 : st ≠ 1 := by rcases h with z | z <;> rw [z] <;> decide
  have h0 : st ≠ 0 := by rcases h with z | z <;> rw [z] <;> decide
  rw [au_acc_n h1]
  unfold au_acc0
  rw [if_neg h0, if_neg h1, if_pos h]
theorem f5004_r : f_5004 s = 13 ∨ f_5004 s = 14 := by
  unfold f_5004
  split
  · exact Or.inl rfl
  · exact Or.inr rfl
theorem base_go (h : Q1 s a e L rest) (hB : BsT rest r) (hst : st = 2 ∨ st = 3) (h13 : N8 (s.1 13)) (h14 : N8 (s.1 14)) : ∃ s', au_acc (s, st, op, bl) = .inl (au_en bl op s') ∧ Q1 s' (a + 1) e L r ∧ Ow s s' ∧ Z0 s s' a := by
  rw [acc_opd hst]
  unfold au_opd
  rcases hB with ⟨v, rfl⟩ | ⟨v, rfl⟩ | ⟨q, k2, v2, r2, hq, hr, hk2, rfl⟩
  · have hk := h.hd.1
    refine ⟨_, by rw [if_pos hk], (h.cd).nx (by decide) (fun z => absurd z (by decide)), Ow.cd.tr Ow.nx, Z0.r⟩
  · have hk := h.hd.1
    refine ⟨_, by rw [if_neg (by rw [hk]; decide), if_pos hk], (h.cd).nx (by decide) (fun z => absurd z (by decide)), Ow.cd.tr Ow.nx, Z0.r⟩
  · have hk := h.hd.1
    have hN : N8 (s.1 (f_5004 s)) := by
      rcases f5004_r (s := s) with z | z <;> rw [z] <;> assumption
    obtain ⟨s', v, g1, g2, g3, g4, _⟩ := h.var (k := fun s2 v => .inl (au_en bl op (au_cd 2 v s2))) hq f5004_r hN
    refine ⟨au_cd 2 v s', ?_, g2.cd, g3.tr Ow.cd, g4⟩
    have hnk : xg (s.1 0) (s.2 2 + 1) ≠ 28 := by
      rw [hr] at h
      rw [h.nk]
      exact hk2
    rw [if_neg (by rw [hk]; decide), if_neg (by rw [hk]; decide), if_neg (by rw [hk]; decide), if_neg (by rw [hk]; decide), if_neg (by rw [hk]; decide), if_pos hk, if_neg hnk]
    exact g1
theorem opd_go {ms B : List Ae} {b : Ae} (h : Q1 s a e L rest) (hO : OpT rest r) (hst : st = 2 ∨ st = 3) (h13 : N8 (s.1 13)) (h14 : N8 (s.1 14)) (hL : L < 8) (hM : Ms s a ms) (hb : Bt b) : ∃ s' a', Go (s, st, ms ++ b :: B, bl) (s', 4, ms ++ b :: B, bl) ∧ Q1 s' a' e L r ∧ Ow s s' ∧ Z0 s s' a ∧ a < a' := by
  rcases hO with hB | ⟨pk, pv, r1, hpk, rfl, hB⟩
  · obtain ⟨s', g1, g2, g3, g4⟩ := base_go (op := ms ++ b :: B) (bl := bl) h hB hst h13 h14
    rw [en_n hM hb] at g1
    exact ⟨s', a + 1, Go.one g1, g2, g3, g4, by omega⟩
  · have hk := h.hd.1
    have h4 : s.2 4 < 8 := (h.1.l8).2 hL
    have key : ∃ s1 x, au_acc (s, st, ms ++ b :: B, bl) = .inl (s1, 2, (40, x, s.2 2, 0, 0, 0) :: (ms ++ b :: B), bl) ∧ Q1 s1 (a + 1) e (L + 1) r1 ∧ Ow s s1 ∧ Z0 s s1 a := by
      rw [acc_opd hst]
      unfold au_opd
      rcases hpk with e | e | e
      · rw [e] at hk h
        obtain ⟨q1, q2⟩ := h.sk (x := 36) (by decide) (by decide)
        refine ⟨au_up (au_sk 36 s), 36, ?_, q1.up (by decide) (fun z => absurd z (by decide)) hL, Ow.sk.tr Ow.up, q2⟩
        rw [if_neg (by rw [hk]; decide), if_neg (by rw [hk]; decide), if_neg (by rw [hk]; decide), if_pos hk]
        unfold au_lv
        rw [if_pos (show (au_sk 36 s).2 4 < 8 from h4)]
      · rw [e] at hk h
        refine ⟨au_up s, au_ko s, ?_, h.up (by decide) (fun z => absurd z (by decide)) hL, Ow.up, Z0.r⟩
        rw [if_neg (by rw [hk]; decide), if_neg (by rw [hk]; decide), if_neg (by rw [hk]; decide), if_neg (by rw [hk]; decide), if_pos (Or.inl hk)]
        unfold au_lv
        rw [if_pos h4]
      · rw [e] at hk h
        refine ⟨au_up s, au_ko s, ?_, h.up (by decide) (fun z => absurd z (by decide)) hL, Ow.up, Z0.r⟩
        rw [if_neg (by rw [hk]; decide), if_neg (by rw [hk]; decide), if_neg (by rw [hk]; decide), if_neg (by rw [hk]; decide), if_pos (Or.inr hk)]
        unfold au_lv
        rw [if_pos h4]
    obtain ⟨s1, x, k1, k2, k3, k4⟩ := key
    obtain ⟨s2, g1, g2, g3, g4⟩ := base_go (op := (40, x, s.2 2, 0, 0, 0) :: (ms ++ b :: B)) (bl := bl) (st := 2) k2 hB (Or.inl rfl) (k3.2.1 h13) (k3.2.2.1 h14)
    have e40 : au_en bl ((40, x, s.2 2, 0, 0, 0) :: (ms ++ b :: B)) s2 = (au_cd 8 x (au_dn s2), 4, ms ++ b :: B, bl) := by
      have : au_en bl ((40, x, s.2 2, 0, 0, 0) :: (ms ++ b :: B)) s2 = au_en bl (ms ++ b :: B) (au_cd 8 x (au_dn s2)) := by
        conv => lhs; unfold au_en
        rw [if_pos rfl]
      rw [this]
      exact en_n hM hb
    rw [e40] at g1
    exact ⟨_, a + 1 + 1, (Go.one k1).tr (Go.one g1), g2.dn.cd, ((k3.tr g3).tr Ow.dn).tr Ow.cd, k4.tr g4 (by omega), by omega⟩
theorem acc_opr : au_acc (s, 4, op, bl) = au_opr s op bl := by
  rw [au_acc_n (by decide)]
  unfold au_acc0
  rw [if_neg (by decide), if_neg (by decide), if_neg (by decide), if_pos rfl]
/-- a mark with two operands -/
theorem mark_go {ms B : List Ae} {b : Ae} {mk v : Int32} (h : Q1 s a e L ((mk, v) :: r)) (hk : mkK mk) (hM : Ms s a ms) (hb : Bt b) : ∃ s' ms', Go (s, 4, ms ++ b :: B, bl) (s', 2, ms' ++ b :: B, bl) ∧ Q1 s' (a + 1) e L r ∧ Ms s' (a + 1) ms' ∧ Ow s s' ∧ Z0 s s' a := by
  obtain ⟨j, j1, j2, rfl⟩ := hk
  obtain ⟨f1, f2, f3, f4, f5, f6, f7⟩ := mkK_f j j2 j1
  have hko := h.hd.1
  obtain ⟨ms', s', g1, g2, g3, g4, g5, _⟩ := fl_go (lv := lvK (nI j)) f2 hb (B := B) ms s hM h
  have h2 : s.2 2 = nI a := h.hd.2.2.1
  have hka : (s'.1 0).getD a 0 = nI j := g3.hd.2.2.2.1
  have acc : au_acc (s, 4, ms ++ b :: B, bl) = au_opr s (ms ++ b :: B) bl := acc_opr
  unfold au_opr at acc
  rw [hko, if_pos f1, g1] at acc
  by_cases c : nI j = 23 ∨ nI j = 24
  · rw [if_pos c] at acc
    refine ⟨_, _, Go.one acc, ?_, ?_, ?_, g5⟩
    · exact (g3.nx f6 (fun z => absurd z f7)).cd
    · intro x hx
      rcases List.mem_cons.1 hx with z | z
      · subst z
        exact ⟨f2, f3, f4, f5, fun _ => ⟨a, h2, by omega, hka⟩⟩
      · exact (g2 x z).up (fun _ _ => rfl) (by omega)
    · exact (g4.tr Ow.nx).tr Ow.cd
  · rw [if_neg c] at acc
    refine ⟨_, _, Go.one acc, ?_, ?_, ?_, g5⟩
    · exact g3.nx f6 (fun z => absurd z f7)
    · intro x hx
      rcases List.mem_cons.1 hx with z | z
      · subst z
        exact ⟨f2, f3, f4, f5, fun z => absurd z c⟩
      · exact (g2 x z).up (fun _ _ => rfl) (by omega)
    · exact g4.tr Ow.nx
theorem val_go {B : List Ae} {b : Ae} (hb : Bt b) (hL : L < 8) : ∀ (n : Nat) (s : Sx) (a : Nat) (rest : List KV) (ms : List Ae) (st : Int32), Q1 s a e L rest → VlT n rest r → st = 2 ∨ st = 3 → N8 (s.1 13) → N8 (s.1 14) → Ms s a ms → ∃ s' a' ms', Go (s, st, ms ++ b :: B, bl) (s', 4, ms' ++ b :: B, bl) ∧ Q1 s' a' e L r ∧ Ms s' a' ms' ∧ Ow s s' ∧ Z0 s s' a ∧ a < a' := by
  intro n
  induction n with
  | zero =>
    intro s a rest ms st h hV hst h13 h14 hM
    obtain ⟨s', a', g1, g2, g3, g4, g5⟩ := opd_go (B := B) (bl := bl) h hV hst h13 h14 hL hM hb
    exact ⟨s', a', ms, g1, g2, hM.up g4 (by omega), g3, g4, g5⟩
  | succ n ih =>
    intro s a rest ms st h hV hst h13 h14 hM
    obtain ⟨mk, v, r1, hO, hk, hV'⟩ := hV
    obtain ⟨s1, a1, g1, g2, g3, g4, g5⟩ := opd_go (B := B) (bl := bl) h hO hst h13 h14 hL hM hb
    obtain ⟨s2, ms2, k1, k2, k3, k4, k5⟩ := mark_go (B := B) (bl := bl) g2 hk (hM.up g4 (by omega)) hb
    have o2 := g3.tr k4
    obtain ⟨s3, a3, ms3, l1, l2, l3, l4, l5, l6⟩ := ih s2 (a1 + 1) r1 ms2 2 k2 hV' (Or.inl rfl) (o2.2.1 h13) (o2.2.2.1 h14) k3
    exact ⟨s3, a3, ms3, (g1.tr k1).tr l1, l2, l3, o2.tr l4, (g4.tr k5 (by omega)).tr l5 (by omega), by omega⟩
end SIMD
