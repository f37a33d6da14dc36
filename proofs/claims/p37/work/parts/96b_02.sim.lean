/-! how a drawn program is read: the automaton's way, token by token -/
section SIMD
variable {s s' : Sx} {a e L np : Nat} {op bl : List Ae} {rest r : List KV} {st : Int32}
theorem N8.len {l : List Int32} (h : N8 l) : l.length ≤ 6 := by
  obtain ⟨q, h1, h2, h3⟩ := h
  rw [h1, List.length_map]
  exact nd_leq 6 q h2 h3
theorem N8.nil : N8 [] := ⟨[], rfl, List.nodup_nil, fun x hx => by cases hx⟩
theorem N8.add {l : List Int32} {q : Nat} (h : N8 l) (hq : q < 6) (hn : nI q ∉ l) : N8 (l ++ [nI q]) := by
  obtain ⟨p, h1, h2, h3⟩ := h
  refine ⟨p ++ [q], by rw [List.map_append, ← h1]; rfl, ?_, fun x hx => ?_⟩
  · rw [List.nodup_append]
    refine ⟨h2, by simp, fun x hx y hy => ?_⟩
    rw [List.mem_singleton] at hy
    intro e
    apply hn
    rw [h1, ← hy, ← e]
    exact List.mem_map_of_mem hx
  · rcases List.mem_append.1 hx with z | z
    · exact h3 x z
    · rw [List.mem_singleton] at z
      omega
/-- a variable is read -/
theorem Q1.var {q : Nat} {x : Nat} {k : Sx → Int32 → Ar} (h : Q1 s a e L ((4, nI q) :: r)) (hq : q < 6) (hx : x = 13 ∨ x = 14) (hN : N8 (s.1 x)) : ∃ s' v, au_var x s k = k s' v ∧ Q1 s' (a + 1) e L r ∧ Ow s s' ∧ Z0 s s' a ∧ (nI q ∉ s.1 x → s'.1 x = s.1 x ++ [nI q]) := by
  obtain ⟨h1, h2, h3, h4, h5, h6, h7, h8, h9, h10⟩ := h.hd
  have hl := hN.len
  have h8' : nI (s.1 x).length < 8 := by
    rw [i_lt, nI_T (by omega), show (8 : Int32).toInt = 8 by decide]; omega
  have hae : a < e := h.lt (by decide)
  have fin : ∀ (sB' : Sx) (l2 : Int32), Q1 sB' a e L ((4, nI q) :: r) → Q1 (f_5022_J67 x l2 sB').1 (a + 1) e L r ∧ Ow sB' (f_5022_J67 x l2 sB').1 ∧ Z0 sB' (f_5022_J67 x l2 sB').1 a := by
    intro sB' l2 hB
    have e : (f_5022_J67 x l2 sB').1 = au_nx (au_sv ((au_sk 34 sB').2 2) l2 (au_sk 34 sB')) := rfl
    obtain ⟨k1, k2⟩ := hB.sk (x := 34) (by decide) (by decide)
    have k3 := k1.sva (x := l2)
    rw [e]
    exact ⟨k3.nx (by decide) (fun z => absurd z (by decide)), (Ow.sk.tr Ow.sv).tr Ow.nx, k2⟩
  have hau : au_var x s k = k (f_5022 x s).1 (f_5022 x s).2 := by
    unfold au_var
    rw [if_neg (fun z => z.2 h8')]
  by_cases hm : nI q ∈ s.1 x
  · have hp : ¬ xpos (s.1 x) (xg (s.1 1) (s.2 2)) = -1 := by
      rw [h2]
      unfold xpos
      rw [if_pos hm]
      intro z
      have hi : (s.1 x).idxOf (nI q) < (s.1 x).length := List.idxOf_lt_length_of_mem hm
      have := congrArg Int32.toInt z
      rw [nI_T (by omega), show (-1 : Int32).toInt = -1 by decide] at this
      omega
    have e5 : f_5022 x s = f_5022_J67 x (xpos (s.1 x) (xg (s.1 1) (s.2 2))) s := by
      unfold f_5022
      rw [if_neg hp]
    obtain ⟨g1, g2, g3⟩ := fin s (xpos (s.1 x) (xg (s.1 1) (s.2 2))) h
    exact ⟨_, _, hau, by rw [e5]; exact g1, by rw [e5]; exact g2, by rw [e5]; exact g3, fun z => absurd hm z⟩
  · have hp : xpos (s.1 x) (xg (s.1 1) (s.2 2)) = -1 := by
      rw [h2]
      unfold xpos
      rw [if_neg hm]
    have hx8 : ev_cap x = 8 := by rcases hx with z | z <;> rw [z] <;> rfl
    obtain ⟨s1, hs1⟩ : ∃ s1, s1 = sB s x (s.1 x ++ [nI q]) := ⟨_, rfl⟩
    have e5 : f_5022 x s = f_5022_J67 x (nI (s.1 x).length) s1 := by
      unfold f_5022
      rw [if_pos hp, if_pos h8', bS_eq, h2, hs1]
      have : xadd (ev_cap x) (s.1 x) (nI q) = s.1 x ++ [nI q] := by
        unfold xadd
        rw [hx8, if_pos (by omega)]
      rw [this]
    have hq1 : Q1 s1 a e L ((4, nI q) :: r) := by
      rw [hs1]
      exact h.co (Co_sB (by omega)) (if_neg (by omega))
    have how : Ow s s1 := by
      have hk : ∀ k, k ≠ x → s1.1 k = s.1 k := fun k hk => by rw [hs1]; exact if_neg hk
      have hs : s1.1 x = s.1 x ++ [nI q] := by rw [hs1]; exact if_pos rfl
      have hn := hN.add hq hm
      refine ⟨fun k hk' => hk k (by omega), fun z => ?_, fun z => ?_, by rw [hs1]; rfl⟩
      · rcases hx with w | w
        · rw [← w, hs]; exact hn
        · rw [hk 13 (by omega)]; exact z
      · rcases hx with w | w
        · rw [hk 14 (by omega)]; exact z
        · rw [← w, hs]; exact hn
    obtain ⟨g1, g2, g3⟩ := fin s1 (nI (s.1 x).length) hq1
    refine ⟨_, _, hau, by rw [e5]; exact g1, by rw [e5]; exact how.tr g2, ?_, fun _ => ?_⟩
    · rw [e5]
      intro t ht
      rw [g3 t ht, hs1]
      exact congrArg (fun l : List Int32 => l.getD t 0) (if_neg (by omega))
    · rw [e5]
      have : (f_5022_J67 x (nI (s.1 x).length) s1).1.1 x = s1.1 x := by
        show (if x = 1 then _ else if x = 0 then _ else s1.1 x) = _
        rw [if_neg (by omega), if_neg (by omega)]
      rw [this, hs1]
      exact if_pos rfl
end SIMD
