/-! a run ends by one of eight ends, and by fuel with none left -/
section EGD
def EG (s : Sx) : Prop := 0 ≤ (s.2 6).toInt ∧ (s.2 10 = -1 ∨ (0 ≤ (s.2 10).toInt ∧ (s.2 10).toInt < 8) ∧ (s.2 10 = 1 → s.2 6 = 0))
variable {s s' : Sx}
theorem EG.e (h : EG s) (h6 : s'.2 6 = s.2 6) (h10 : s'.2 10 = s.2 10) : EG s' := by
  unfold EG
  rw [h6, h10]
  exact h
theorem eg8 {c : Int32} (h : EG s) (hc : 0 ≤ c.toInt ∧ c.toInt < 8) (h1 : c = 1 → s.2 6 = 0) : EG (f_7008 c s) := by
  unfold f_7008
  by_cases e : s.2 10 = -1
  · rw [if_pos e, bS_eq]
    refine ⟨h.1, Or.inr ?_⟩
    show (0 ≤ c.toInt ∧ c.toInt < 8) ∧ (c = 1 → s.2 6 = 0)
    exact ⟨hc, h1⟩
  · rw [if_neg e]
    exact h
theorem eg9 (h : EG s) : EG (f_7009 s).1 := by
  unfold f_7009
  have h6 := h.1
  by_cases e : 1 ≤ s.2 6
  · rw [if_pos e, bS_eq]
    have e' : 1 ≤ (s.2 6).toInt := by
      rw [i_le, i_1] at e
      exact e
    have hr : (s.2 6).toInt < 2 ^ 31 := Int32.toInt_lt _
    have e1 : (s.2 6 - 1).toInt = (s.2 6).toInt - 1 := by
      rw [Int32.toInt_sub, i_1, Int.bmod_eq_of_le (by omega) (by omega)]
    refine ⟨?_, ?_⟩
    · show 0 ≤ (s.2 6 - 1).toInt
      omega
    · show s.2 10 = -1 ∨ (0 ≤ (s.2 10).toInt ∧ (s.2 10).toInt < 8) ∧ (s.2 10 = 1 → s.2 6 - 1 = 0)
      rcases h.2 with w | ⟨w1, w2⟩
      · exact Or.inl w
      · refine Or.inr ⟨w1, fun z => ?_⟩
        have := w2 z
        rw [this, i_0] at e'
        omega
  · rw [if_neg e, bS_eq]
    have e' : ¬ 1 ≤ (s.2 6).toInt := by
      rw [i_le, i_1] at e
      exact e
    refine eg8 h (by decide) (fun _ => ?_)
    rw [i_eq, i_0]
    omega
theorem eg_g {p : Sx × Int32} {k : Sx → Int32 → Sx × Int32} (h : EG p.1) (hk : ∀ s r, EG s → EG (k s r).1) : EG (bT p k).1 := by
  obtain ⟨s, r⟩ := p
  exact hk s r h
theorem eg_s {p : Sx × Int32} {k : Sx → Int32 → Sx} (h : EG p.1) (hk : ∀ s r, EG s → EG (k s r)) : EG (bT p k) := by
  obtain ⟨s, r⟩ := p
  exact hk s r h
theorem egg_o {p : Sx × Int32} {k : Sx → Int32 → Option Sx} {q : Sx} (h : EG p.1) (hk : ∀ s r, EG s → k s r = some q → EG q) (e : bT p k = some q) : EG q := by
  obtain ⟨s, r⟩ := p
  exact hk s r h e
theorem eg10 (h : EG s) : EG (f_7010 s).1 := by
  unfold f_7010
  refine eg_g (eg9 h) (fun s r h => ?_)
  by_cases c : r = 0
  · rw [if_pos c]; exact h
  · rw [if_neg c, bS_eq]
    have h9 : EG (sV s 9 (s.2 9 + 1)) := h.e rfl rfl
    by_cases c2 : (sV s 9 (s.2 9 + 1)).2 9 ≤ 2
    · rw [if_pos c2]
      by_cases c3 : (sV s 9 (s.2 9 + 1)).2 9 = 1
      · rw [if_pos c3]; exact h9
      · rw [if_neg c3]; exact h9
    · rw [if_neg c2, bS_eq]
      exact eg8 h9 (by decide) (fun z => absurd z (by decide))
theorem eg11 {c : Int32} (h : EG s) : EG (f_7011 c s) := by
  unfold f_7011
  by_cases e : nI (s.1 18).length < 8
  · rw [if_pos e, bS_eq]
    exact h.e rfl rfl
  · rw [if_neg e, bS_eq]
    exact eg8 h (by decide) (fun z => absurd z (by decide))
theorem eg12 {c d : Int32} (h : EG s) : EG (f_7012 c d s) := by
  have hJ : EG (f_7012_J10 c d s) := by
    unfold f_7012_J10
    rw [bS_eq]
    exact eg8 h (by decide) (fun z => absurd z (by decide))
  unfold f_7012
  by_cases e : c < 0
  · rw [if_pos e]; exact hJ
  · rw [if_neg e]
    by_cases e2 : c < 32
    · rw [if_pos e2, bS_eq]; exact h.e rfl rfl
    · rw [if_neg e2]; exact hJ
theorem eg14 {c d : Int32} (h : EG s) : EG (f_7014 c d s) := by
  unfold f_7014
  rw [bS_eq]
  exact h.e rfl rfl
theorem eg15_L : ∀ (n : Nat) (a b : Int32) (s : Sx) (q : Sx × Int32), EG s → f_7015_L39 n a b s = some q → EG q.1 := by
  intro n
  induction n with
  | zero => intro a b s q h e; cases e
  | succ n ih =>
    intro a b s q h e
    rw [f_7015_L39] at e
    by_cases c : 8 ≤ b
    · rw [if_pos c] at e
      cases e
      exact h
    · rw [if_neg c, bS_eq] at e
      exact ih a (b + 1) _ q (eg14 h) e
theorem eg15 {c : Int32} {q : Sx × Int32} (h : EG s) (e : f_7015 c s = some q) : EG q.1 := by
  unfold f_7015 at e
  have h9 := eg9 h
  generalize f_7009 s = p at e h9
  obtain ⟨s3, r3⟩ := p
  rw [bT_eq] at e
  by_cases c0 : r3 = 0
  · rw [if_pos c0] at e
    cases e
    exact h9
  · rw [if_neg c0] at e
    by_cases c1 : nI (s3.1 21).length < 10
    · rw [if_pos c1, bS_eq] at e
      exact eg15_L _ _ _ _ _ (EG.e (s := s3) (s' := sB s3 21 (xadd (ev_cap 21) (s3.1 21) c)) h9 rfl rfl) e
    · rw [if_neg c1, bS_eq] at e
      cases e
      exact eg8 (s := s3) h9 (by decide) (fun z => absurd z (by decide))
theorem eg19 {c : Int64} (h : EG s) : EG (f_7019 c s).1 := by
  have hJ : EG (f_7019_J16 c s).1 := by
    unfold f_7019_J16
    rw [bS_eq]
    exact eg8 h (by decide) (fun z => absurd z (by decide))
  unfold f_7019
  by_cases e : lg_cmp c (-2147483648) < 0
  · rw [if_pos e]; exact hJ
  · rw [if_neg e]
    by_cases e2 : lg_cmp c 2147483647 ≤ 0
    · rw [if_pos e2]; exact h
    · rw [if_neg e2]; exact hJ
theorem eg19' {c : Int64} (h : EG s) : EG (bT (f_7019 c s) fun s r => (s, r)).1 := eg_g (eg19 h) (fun _ _ h => h)
theorem eg17 {c d : Int32} (h : EG s) : EG (f_7017 c d s).1 := by
  unfold f_7017
  refine eg_g (eg9 h) (fun s r h => ?_)
  have hJ : EG (f_7017_J64 c d s).1 := by
    unfold f_7017_J64 f_7017_J69
    rw [bS_eq]
    exact eg8 h (by decide) (fun z => absurd z (by decide))
  have hK : EG (f_7017_J69 c d s).1 := h
  by_cases c0 : r = 0
  · rw [if_pos c0]; exact h
  rw [if_neg c0]
  by_cases c1 : c = 25
  · rw [if_pos c1]
    by_cases c2 : d = 0
    · rw [if_pos c2]; exact h
    · rw [if_neg c2]; exact h
  rw [if_neg c1]
  by_cases c2 : c = 36
  · rw [if_pos c2]; exact eg19' h
  rw [if_neg c2]
  by_cases c3 : d < 0
  · rw [if_pos c3]; exact hJ
  rw [if_neg c3]
  by_cases c4 : d < 32
  · rw [if_pos c4]; exact hK
  · rw [if_neg c4]; exact hJ
theorem eg_if {p : Prop} [Decidable p] {a b : Int32} (h : EG s) : EG (if p then (s, a) else (s, b)).1 := by
  by_cases c : p
  · rw [if_pos c]; exact h
  · rw [if_neg c]; exact h
theorem eg18 {c d e : Int32} (h : EG s) : EG (f_7018 c d e s).1 := by
  unfold f_7018
  refine eg_g (eg9 h) (fun s r h => ?_)
  have hJ : EG (f_7018_J94 c d e s).1 := by
    unfold f_7018_J94
    by_cases c0 : e = 0
    · rw [if_pos c0, bS_eq]
      exact eg8 h (by decide) (fun z => absurd z (by decide))
    · rw [if_neg c0]
      by_cases c1 : c = 15
      · rw [if_pos c1]; exact eg19' h
      · rw [if_neg c1]; exact eg19' h
  by_cases c0 : r = 0
  · rw [if_pos c0]; exact h
  rw [if_neg c0]
  by_cases d0 : c = 12
  · rw [if_pos d0]; exact eg19' h
  rw [if_neg d0]
  by_cases d1 : c = 13
  · rw [if_pos d1]; exact eg19' h
  rw [if_neg d1]
  by_cases d2 : c = 14
  · rw [if_pos d2]; exact eg19' h
  rw [if_neg d2]
  by_cases d3 : c = 15
  · rw [if_pos d3]; exact hJ
  rw [if_neg d3]
  by_cases d4 : c = 16
  · rw [if_pos d4]; exact hJ
  rw [if_neg d4]
  by_cases d5 : c = 17
  · rw [if_pos d5]; exact eg_if h
  rw [if_neg d5]
  by_cases d6 : c = 18
  · rw [if_pos d6]; exact eg_if h
  rw [if_neg d6]
  by_cases d7 : c = 19
  · rw [if_pos d7]; exact eg_if h
  rw [if_neg d7]
  by_cases d8 : c = 20
  · rw [if_pos d8]; exact eg_if h
  rw [if_neg d8]
  by_cases d9 : c = 21
  · rw [if_pos d9]; exact eg_if h
  rw [if_neg d9]
  exact eg_if h
theorem eg_pop {k : Sx → Int32 → Sx} (h : EG s) (hk : ∀ s r, EG s → EG (k s r)) : EG (bT (sB s 22 (s.1 22).dropLast, xlast (s.1 22)) k) := eg_s (p := (sB s 22 (s.1 22).dropLast, xlast (s.1 22))) (h.e rfl rfl) hk
theorem eg_push {v : Int32} (h : EG s) : EG (sB s 22 (xadd (ev_cap 22) (s.1 22) v)) := h.e rfl rfl
theorem eg3002 {c v : Int32} (h : EG s) : EG (f_3002 c v s) := by
  unfold f_3002
  by_cases c0 : c = 0
  · rw [if_pos c0]
    exact eg_s (eg9 h) (fun _ _ h => h)
  rw [if_neg c0]
  by_cases c1 : c = 1
  · rw [if_pos c1]
    exact eg_push h
  rw [if_neg c1]
  by_cases c2 : c = 2
  · rw [if_pos c2]
    exact eg_push h
  rw [if_neg c2]
  by_cases c3 : c = 3
  · rw [if_pos c3]
    exact eg_pop h (fun _ _ h => eg14 h)
  rw [if_neg c3]
  by_cases c4 : c = 4
  · rw [if_pos c4]
    exact eg_pop h (fun _ _ h => eg_pop h (fun _ _ h => eg12 h))
  rw [if_neg c4]
  by_cases c5 : c = 5
  · rw [if_pos c5]
    exact eg_s (eg10 h) (fun _ _ h => eg_push h)
  rw [if_neg c5]
  by_cases c6 : c = 6
  · rw [if_pos c6]
    exact eg_pop h (fun _ _ h => eg11 h)
  rw [if_neg c6]
  by_cases c7 : c = 7
  · rw [if_pos c7]
    exact eg_pop h (fun _ _ h => h)
  rw [if_neg c7]
  by_cases c8 : c = 8
  · rw [if_pos c8]
    exact eg_pop h (fun _ _ h => eg_s (eg17 h) (fun _ _ h => eg_push h))
  rw [if_neg c8]
  by_cases c9 : c = 9
  · rw [if_pos c9]
    exact eg_pop h (fun _ _ h => eg_pop h (fun _ _ h => eg_s (eg18 h) (fun _ _ h => eg_push h)))
  rw [if_neg c9]
  refine eg_pop h (fun s r h => ?_)
  by_cases c : r = 0
  · rw [if_pos c]; exact eg_push h
  · rw [if_neg c]; exact eg_push h
theorem eg3004 {c v : Int32} (h : EG s) : EG (f_3004 c v s) := by
  have hJ : ∀ k (s : Sx), EG s → EG (f_3004_J15 c v k s) := fun k s h => by
    unfold f_3004_J15 f_3004_J34
    split
    · split
      · exact EG.e (s := sB s 22 (xadd (ev_cap 22) (s.1 22) 0)) (eg_push h) rfl rfl
      · exact EG.e (s := sB s 22 (xadd (ev_cap 22) (s.1 22) 1)) (eg_push h) rfl rfl
    · exact h
  unfold f_3004
  refine eg_pop h (fun s r h => ?_)
  split
  · exact hJ _ _ h
  · exact hJ _ _ h
theorem eg3005_L : ∀ (n : Nat) (a b : Int32) (s q : Sx), EG s → f_3005_L25 n a b s = some q → EG q := by
  intro n
  induction n with
  | zero => intro a b s q h e; cases e
  | succ n ih =>
    intro a b s q h e
    rw [f_3005_L25] at e
    by_cases c : b < 0
    · rw [if_pos c, bS_eq] at e
      cases e
      exact h.e rfl rfl
    · rw [if_neg c, bT_eq, bS_eq] at e
      exact ih a (b + (-1)) _ q (eg14 (EG.e (s' := sB s 22 (s.1 22).dropLast) h rfl rfl)) e
theorem eg3005 {c : Int32} {q : Sx} (h : EG s) (e : f_3005 c s = some q) : EG q := by
  unfold f_3005 at e
  cases hq : f_7015 (s.2 11) s with
  | none => rw [hq] at e; cases e
  | some p =>
    have h1 := eg15 h hq
    obtain ⟨s6, r6⟩ := p
    rw [hq, bO_some] at e
    by_cases c0 : r6 = 0
    · rw [if_pos c0] at e
      cases e
      exact h1
    · rw [if_neg c0] at e
      exact eg3005_L _ _ _ _ _ h1 e
theorem eg3003 {c v : Int32} {q : Sx} (h : EG s) (e : f_3003 c v s = some q) : EG q := by
  have hJ : ∀ q, f_3003_J40 c v s = some q → EG q := fun q e => by
    unfold f_3003_J40 at e
    refine egg_o (eg9 h) (fun s r h e => ?_) e
    by_cases c0 : r = 0
    · rw [if_pos c0] at e
      cases e
      exact h
    · rw [if_neg c0] at e
      by_cases c1 : c = 12
      · rw [if_pos c1, bS_eq] at e
        cases e
        exact eg3004 h
      · rw [if_neg c1, bS_eq] at e
        cases e
        exact eg3004 h
  unfold f_3003 at e
  by_cases c0 : c = 11
  · rw [if_pos c0] at e
    exact hJ q e
  rw [if_neg c0] at e
  by_cases c1 : c = 12
  · rw [if_pos c1] at e
    exact hJ q e
  rw [if_neg c1] at e
  by_cases c2 : c = 13
  · rw [if_pos c2, bS_eq] at e
    cases e
    exact h.e rfl rfl
  rw [if_neg c2] at e
  by_cases c3 : c = 14
  · rw [if_pos c3, bT_eq] at e
    have h' : EG (sB s 22 (s.1 22).dropLast) := h.e rfl rfl
    by_cases c4 : xlast (s.1 22) = 0
    · rw [if_pos c4, bS_eq] at e
      cases e
      exact h'.e rfl rfl
    · rw [if_neg c4, bS_eq] at e
      cases e
      exact h'.e rfl rfl
  rw [if_neg c3] at e
  by_cases c5 : c = 15
  · rw [if_pos c5] at e
    cases hq : f_3005 v s with
    | none => rw [hq] at e; cases e
    | some p =>
      rw [hq, bOv_some] at e
      cases e
      exact eg3005 h hq
  rw [if_neg c5] at e
  by_cases c6 : c = 16
  · rw [if_pos c6] at e
    unfold f_7016 at e
    rw [bT_eq, bT_eq, bS_eq] at e
    cases e
    exact h.e rfl rfl
  rw [if_neg c6, bS_eq] at e
  cases e
  exact eg8 h (by decide) (fun z => absurd z (by decide))
theorem eg3001_L : ∀ (n : Nat) (a b c l : Int32) (s q : Sx), EG s → f_3001_L37 n a b c l s = some q → EG q := by
  intro n
  induction n with
  | zero => intro a b c l s q h e; cases e
  | succ n ih =>
    intro a b c l s q h e
    rw [f_3001_L37] at e
    by_cases c0 : 1000000 ≤ l
    · rw [if_pos c0] at e
      cases e
      exact h
    rw [if_neg c0] at e
    by_cases c1 : f_7002 s = 0
    · rw [if_pos c1] at e
      cases e
      exact h
    rw [if_neg c1, bS_eq] at e
    have h' : EG (sV s 11 (s.2 11 + 1)) := h.e rfl rfl
    by_cases c2 : 11 ≤ f_4007 (s.2 11) s
    · rw [if_pos c2] at e
      cases hq : f_3003 (f_4007 (s.2 11) s) (f_4008 (s.2 11) s) (sV s 11 (s.2 11 + 1)) with
      | none => rw [hq] at e; cases e
      | some p =>
        rw [hq, bOv_some] at e
        exact ih a b c (l + 1) p q (eg3003 h' hq) e
    · rw [if_neg c2, bS_eq] at e
      exact ih a b c (l + 1) _ q (eg3002 h') e
/-- the end of a run -/
theorem run_end {f : Nat} {a b : Int32} {q : Sx} (hf : f ≤ 5000) (e : f_3001 (nI f) a b s = some q) : EG q := by
  unfold f_3001 at e
  rw [bS_eq, bS_eq, bS_eq] at e
  refine eg3001_L _ _ _ _ _ _ _ ?_ e
  refine ⟨?_, Or.inl rfl⟩
  show 0 ≤ (nI f).toInt
  rw [nI_T (by omega)]
  omega
end EGD
