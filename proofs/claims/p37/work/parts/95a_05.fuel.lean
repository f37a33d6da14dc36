/-! a run with less fuel: it is the same run, up to where its fuel is out -/
section FUE
theorem o_3004 {s : Sx} {a b : Int32} : (f_3004 a b s).1 18 = s.1 18 := by
  have j15 : ∀ (s : Sx) (k : Int32), (f_3004_J15 a b k s).1 18 = s.1 18 := fun s k => by
    unfold f_3004_J15 f_3004_J34
    split
    · split
      · rfl
      · rfl
    · rfl
  unfold f_3004
  rw [bT_eq]
  split
  · exact (j15 _ _).trans rfl
  · exact (j15 _ _).trans rfl
theorem fu_L39 : ∀ (n : Nat) (a b : Int32) (s : Sx) (f : Nat), f_7015_L39 n a b (fu s f) = (f_7015_L39 n a b s).map (fun p => (fu p.1 f, p.2)) := by
  intro n
  induction n with
  | zero => intro a b s f; rfl
  | succ n ih =>
    intro a b s f
    rw [f_7015_L39, f_7015_L39]
    by_cases c : 8 ≤ b
    · rw [if_pos c, if_pos c]; rfl
    · rw [if_neg c, if_neg c, bS_eq, bS_eq]
      exact ih a (b + 1) (f_7014 b 0 s) f
theorem o_L39 : ∀ (n : Nat) (a b : Int32) (s : Sx) (p : Sx × Int32), f_7015_L39 n a b s = some p → p.1.1 18 = s.1 18 ∧ p.1.2 = s.2 := by
  intro n
  induction n with
  | zero => intro a b s p h; cases h
  | succ n ih =>
    intro a b s p h
    rw [f_7015_L39] at h
    by_cases c : 8 ≤ b
    · rw [if_pos c] at h; cases h; exact ⟨rfl, rfl⟩
    · rw [if_neg c, bS_eq] at h
      exact ih a (b + 1) (f_7014 b 0 s) p h
theorem fu_L25 : ∀ (n : Nat) (a b : Int32) (s : Sx) (f : Nat), f_3005_L25 n a b (fu s f) = (f_3005_L25 n a b s).map (fun p => fu p f) := by
  intro n
  induction n with
  | zero => intro a b s f; rfl
  | succ n ih =>
    intro a b s f
    rw [f_3005_L25, f_3005_L25]
    by_cases c : b < 0
    · rw [if_pos c, if_pos c, bS_eq, bS_eq, fu_V (by decide)]; rfl
    · rw [if_neg c, if_neg c, bT_eq, bT_eq, bS_eq, bS_eq]
      exact ih a (b + (-1)) (f_7014 b (xlast (s.1 22)) (sB s 22 (s.1 22).dropLast)) f
theorem o_L25 : ∀ (n : Nat) (a b : Int32) (s p : Sx), f_3005_L25 n a b s = some p → p.1 18 = s.1 18 := by
  intro n
  induction n with
  | zero => intro a b s p h; cases h
  | succ n ih =>
    intro a b s p h
    rw [f_3005_L25] at h
    by_cases c : b < 0
    · rw [if_pos c] at h; cases h; rfl
    · rw [if_neg c, bT_eq, bS_eq] at h
      exact (ih a (b + (-1)) _ p h).trans rfl
theorem st_3005 {s : Sx} {x : Int32} (h : s.2 10 = -1) : FOne (f_3005 x) s := by
  have e0 : f_3005 x (fu s 0) = some (fu (sV s 10 1) 0) := by
    unfold f_3005 f_7015
    rw [fu_take0 h, bT_eq, if_pos rfl, bO_some, if_pos rfl]
  have stp : FStp (fu (sV s 10 1) 0) s := ⟨rfl, rfl, rfl⟩
  by_cases c : nI (s.1 21).length < 10
  · obtain ⟨s7, hs7⟩ : ∃ s7, s7 = sB s 21 (xadd (ev_cap 21) (s.1 21) (s.2 11)) := ⟨_, rfl⟩
    have o7 : s7.1 18 = s.1 18 := by rw [hs7]; rfl
    have e1 : ∀ f, f < 6000 → f_3005 x (fu s (f + 1)) = bO ((f_7015_L39 20 (s.2 11) 0 s7).map (fun p => (fu p.1 f, p.2))) (fun s6 r6 => if r6 = 0 then some s6 else f_3005_L25 400 x (f_4013 x s6 - 1) s6) := fun f hf => by
      unfold f_3005 f_7015
      rw [fu_take h hf, bT_eq, if_neg (by decide), if_pos (show nI ((fu s f).1 21).length < 10 from c), bS_eq, ← fu_L39, hs7]
      rfl
    cases hq : f_7015_L39 20 (s.2 11) 0 s7 with
    | none =>
      refine ⟨none, fun f hf => ?_, (fun q hq => by cases hq), _, e0, stp⟩
      rw [e1 f hf, hq]; rfl
    | some p =>
      obtain ⟨s6, r6⟩ := p
      have o6 := (o_L39 _ _ _ _ _ hq).1
      by_cases c6 : r6 = 0
      · refine FOne.of (h := s6) (fun f hf => ?_) (pf_e (o6.trans o7).symm) e0 stp
        rw [e1 f hf, hq]
        show (if r6 = 0 then some (fu s6 f) else _) = _
        rw [if_pos c6]
      · refine ⟨f_3005_L25 400 x (f_4013 x s6 - 1) s6, fun f hf => ?_, fun q hq => pf_e ((o_L25 _ _ _ _ _ hq).trans (o6.trans o7)).symm, _, e0, stp⟩
        rw [e1 f hf, hq]
        show (if r6 = 0 then some (fu s6 f) else f_3005_L25 400 x (f_4013 x s6 - 1) (fu s6 f)) = _
        rw [if_neg c6, fu_L25]
  · refine FOne.of (h := f_7008 7 s) (fun f hf => ?_) (pf_e (congrFun o_7008 18).symm) e0 stp
    unfold f_3005 f_7015
    rw [fu_take h hf, bT_eq, if_neg (by decide), if_neg (show ¬ nI ((fu s f).1 21).length < 10 from c), bS_eq, bO_some, if_pos rfl, fu_7008]
end FUE
