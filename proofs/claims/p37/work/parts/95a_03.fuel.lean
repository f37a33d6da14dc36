/-! a run with less fuel: it is the same run, up to where its fuel is out -/
section FUE
theorem fu_7012 {s : Sx} {f : Nat} {a b : Int32} : f_7012 a b (fu s f) = fu (f_7012 a b s) f := by
  unfold f_7012 f_7012_J10
  by_cases c : a < 0
  · rw [if_pos c, if_pos c, bS_eq, bS_eq, fu_7008]
  · rw [if_neg c, if_neg c]
    by_cases c2 : a < 32
    · rw [if_pos c2, if_pos c2]; rfl
    · rw [if_neg c2, if_neg c2, bS_eq, bS_eq, fu_7008]
theorem o_7012 {s : Sx} {a b : Int32} : (f_7012 a b s).1 18 = s.1 18 := by
  unfold f_7012 f_7012_J10
  split
  · exact congrFun o_7008 18
  · split
    · exact n18 (by decide)
    · exact congrFun o_7008 18
theorem fu_7011 {s : Sx} {f : Nat} {a : Int32} : f_7011 a (fu s f) = fu (f_7011 a s) f := by
  unfold f_7011
  show (if nI (s.1 18).length < 8 then _ else _) = _
  by_cases c : nI (s.1 18).length < 8
  · rw [if_pos c, if_pos c]; rfl
  · rw [if_neg c, if_neg c, bS_eq, bS_eq, fu_7008]
theorem o_7011 {s : Sx} {a : Int32} : s.1 18 <+: (f_7011 a s).1 18 := by
  unfold f_7011
  split
  · show s.1 18 <+: xadd (ev_cap 18) (s.1 18) a
    unfold xadd
    split
    · exact List.prefix_append _ _
    · exact pf_r
  · exact pf_e (congrFun o_7008 18).symm
/-- a step that goes on in the row of codes -/
theorem st_3002 {s : Sx} {c x : Int32} (h : s.2 10 = -1) : FNo (fun z => some (f_3002 c x z)) s ∨ FOne (fun z => some (f_3002 c x z)) s := by
  have stp : FStp (fu (sV s 10 1) 0) s := ⟨rfl, rfl, rfl⟩
  by_cases c0 : c = 0
  · right
    refine FOne.of (h := s) (Z := fu (sV s 10 1) 0) (fun f hf => ?_) pf_r ?_ stp
    · unfold f_3002
      rw [if_pos c0, fu_take h hf, bT_eq]
    · unfold f_3002
      rw [if_pos c0, fu_take0 h, bT_eq]
  by_cases c1 : c = 1
  · exact Or.inl (FNo.of (h := f_3002 c x s) (fun f _ => by unfold f_3002; rw [if_neg c0, if_pos c1, if_neg c0, if_pos c1]; rfl) (pf_e (by unfold f_3002; rw [if_neg c0, if_pos c1]; rfl)))
  by_cases c2 : c = 2
  · exact Or.inl (FNo.of (h := f_3002 c x s) (fun f _ => by unfold f_3002; rw [if_neg c0, if_neg c1, if_pos c2, if_neg c0, if_neg c1, if_pos c2]; rfl) (pf_e (by unfold f_3002; rw [if_neg c0, if_neg c1, if_pos c2]; rfl)))
  by_cases c3 : c = 3
  · exact Or.inl (FNo.of (h := f_3002 c x s) (fun f _ => by unfold f_3002; rw [if_neg c0, if_neg c1, if_neg c2, if_pos c3, if_neg c0, if_neg c1, if_neg c2, if_pos c3]; rfl) (pf_e (by unfold f_3002; rw [if_neg c0, if_neg c1, if_neg c2, if_pos c3]; rfl)))
  by_cases c4 : c = 4
  · refine Or.inl (FNo.of (h := f_3002 c x s) (fun f _ => ?_) (pf_e ?_))
    · unfold f_3002
      rw [if_neg c0, if_neg c1, if_neg c2, if_neg c3, if_pos c4, if_neg c0, if_neg c1, if_neg c2, if_neg c3, if_pos c4]
      show some (f_7012 (xlast ((sB s 22 (s.1 22).dropLast).1 22)) (xlast (s.1 22)) (fu (sB (sB s 22 (s.1 22).dropLast) 22 ((sB s 22 (s.1 22).dropLast).1 22).dropLast) f)) = _
      rw [fu_7012]
      rfl
    · unfold f_3002
      rw [if_neg c0, if_neg c1, if_neg c2, if_neg c3, if_pos c4]
      show s.1 18 = (f_7012 (xlast ((sB s 22 (s.1 22).dropLast).1 22)) (xlast (s.1 22)) (sB (sB s 22 (s.1 22).dropLast) 22 ((sB s 22 (s.1 22).dropLast).1 22).dropLast)).1 18
      rw [o_7012]
      rfl
  by_cases c5 : c = 5
  · obtain ⟨h1, v, g1, g2, g3⟩ := p_7010 h
    right
    refine FOne.of (h := sB h1 22 (xadd (ev_cap 22) (h1.1 22) v)) (Z := sB (fu (sV s 10 1) 0) 22 (xadd (ev_cap 22) ((fu (sV s 10 1) 0).1 22) 0)) (fun f hf => ?_) (pf_e ?_) ?_ ⟨rfl, rfl, rfl⟩
    · unfold f_3002
      rw [if_neg c0, if_neg c1, if_neg c2, if_neg c3, if_neg c4, if_pos c5, g1 f hf]
      rfl
    · rw [n18 (by decide), g2]
    · unfold f_3002
      rw [if_neg c0, if_neg c1, if_neg c2, if_neg c3, if_neg c4, if_pos c5, g3]
      rfl
  by_cases c6 : c = 6
  · refine Or.inl (FNo.of (h := f_3002 c x s) (fun f _ => ?_) ?_)
    · unfold f_3002
      rw [if_neg c0, if_neg c1, if_neg c2, if_neg c3, if_neg c4, if_neg c5, if_pos c6, if_neg c0, if_neg c1, if_neg c2, if_neg c3, if_neg c4, if_neg c5, if_pos c6]
      show some (f_7011 (xlast (s.1 22)) (fu (sB s 22 (s.1 22).dropLast) f)) = _
      rw [fu_7011]
      rfl
    · unfold f_3002
      rw [if_neg c0, if_neg c1, if_neg c2, if_neg c3, if_neg c4, if_neg c5, if_pos c6]
      exact o_7011 (s := sB s 22 (s.1 22).dropLast)
  by_cases c7 : c = 7
  · exact Or.inl (FNo.of (h := f_3002 c x s) (fun f _ => by unfold f_3002; rw [if_neg c0, if_neg c1, if_neg c2, if_neg c3, if_neg c4, if_neg c5, if_neg c6, if_pos c7, if_neg c0, if_neg c1, if_neg c2, if_neg c3, if_neg c4, if_neg c5, if_neg c6, if_pos c7]; rfl) (pf_e (by unfold f_3002; rw [if_neg c0, if_neg c1, if_neg c2, if_neg c3, if_neg c4, if_neg c5, if_neg c6, if_pos c7]; rfl)))
  by_cases c8 : c = 8
  · obtain ⟨h1, v, g1, g2, g3⟩ := p_7017 (s := sB s 22 (s.1 22).dropLast) (a := x) (b := xlast (s.1 22)) h
    right
    refine FOne.of (h := sB h1 22 (xadd (ev_cap 22) (h1.1 22) v)) (Z := sB (fu (sV (sB s 22 (s.1 22).dropLast) 10 1) 0) 22 (xadd (ev_cap 22) ((fu (sV (sB s 22 (s.1 22).dropLast) 10 1) 0).1 22) 0)) (fun f hf => ?_) (pf_e ?_) ?_ ⟨rfl, rfl, rfl⟩
    · unfold f_3002
      rw [if_neg c0, if_neg c1, if_neg c2, if_neg c3, if_neg c4, if_neg c5, if_neg c6, if_neg c7, if_pos c8, bT_eq]
      show some (bT (f_7017 x (xlast (s.1 22)) (fu (sB s 22 (s.1 22).dropLast) (f + 1))) _) = _
      rw [g1 f hf]
      rfl
    · rw [n18 (by decide), g2]; rfl
    · unfold f_3002
      rw [if_neg c0, if_neg c1, if_neg c2, if_neg c3, if_neg c4, if_neg c5, if_neg c6, if_neg c7, if_pos c8, bT_eq]
      show some (bT (f_7017 x (xlast (s.1 22)) (fu (sB s 22 (s.1 22).dropLast) 0)) _) = _
      rw [g3]
      rfl
  by_cases c9 : c = 9
  · obtain ⟨s2, hs2⟩ : ∃ s2, s2 = sB (sB s 22 (s.1 22).dropLast) 22 ((sB s 22 (s.1 22).dropLast).1 22).dropLast := ⟨_, rfl⟩
    have h2 : s2.2 10 = -1 := by rw [hs2]; exact h
    have o2 : s2.1 18 = s.1 18 := by rw [hs2]; rfl
    obtain ⟨h1, v, g1, g2, g3⟩ := p_7018 (s := s2) (a := x) (b := xlast ((sB s 22 (s.1 22).dropLast).1 22)) (c := xlast (s.1 22)) h2
    right
    refine FOne.of (h := sB h1 22 (xadd (ev_cap 22) (h1.1 22) v)) (Z := sB (fu (sV s2 10 1) 0) 22 (xadd (ev_cap 22) ((fu (sV s2 10 1) 0).1 22) 0)) (fun f hf => ?_) (pf_e ?_) ?_ ⟨rfl, rfl, o2⟩
    · unfold f_3002
      rw [if_neg c0, if_neg c1, if_neg c2, if_neg c3, if_neg c4, if_neg c5, if_neg c6, if_neg c7, if_neg c8, if_pos c9, bT_eq, bT_eq]
      have e : sB (sB (fu s (f + 1)) 22 ((fu s (f + 1)).1 22).dropLast) 22 ((sB (fu s (f + 1)) 22 ((fu s (f + 1)).1 22).dropLast).1 22).dropLast = fu s2 (f + 1) := by rw [hs2]; rfl
      rw [e]
      show some (bT (f_7018 x (xlast ((sB s 22 (s.1 22).dropLast).1 22)) (xlast (s.1 22)) (fu s2 (f + 1))) _) = _
      rw [g1 f hf]
      rfl
    · rw [n18 (by decide), g2, o2]
    · unfold f_3002
      rw [if_neg c0, if_neg c1, if_neg c2, if_neg c3, if_neg c4, if_neg c5, if_neg c6, if_neg c7, if_neg c8, if_pos c9, bT_eq, bT_eq]
      have e : sB (sB (fu s 0) 22 ((fu s 0).1 22).dropLast) 22 ((sB (fu s 0) 22 ((fu s 0).1 22).dropLast).1 22).dropLast = fu s2 0 := by rw [hs2]; rfl
      rw [e]
      show some (bT (f_7018 x (xlast ((sB s 22 (s.1 22).dropLast).1 22)) (xlast (s.1 22)) (fu s2 0)) _) = _
      rw [g3]
      rfl
  · refine Or.inl (FNo.of (h := f_3002 c x s) (fun f _ => ?_) (pf_e ?_))
    · unfold f_3002
      rw [if_neg c0, if_neg c1, if_neg c2, if_neg c3, if_neg c4, if_neg c5, if_neg c6, if_neg c7, if_neg c8, if_neg c9, if_neg c0, if_neg c1, if_neg c2, if_neg c3, if_neg c4, if_neg c5, if_neg c6, if_neg c7, if_neg c8, if_neg c9, bT_eq, bT_eq]
      show some (if xlast (s.1 22) = 0 then _ else _) = some (fu (if xlast (s.1 22) = 0 then _ else _) f)
      by_cases q : xlast (s.1 22) = 0
      · rw [if_pos q, if_pos q]; rfl
      · rw [if_neg q, if_neg q]; rfl
    · unfold f_3002
      rw [if_neg c0, if_neg c1, if_neg c2, if_neg c3, if_neg c4, if_neg c5, if_neg c6, if_neg c7, if_neg c8, if_neg c9, bT_eq]
      show s.1 18 = (if xlast (s.1 22) = 0 then _ else _ : Sx).1 18
      by_cases q : xlast (s.1 22) = 0
      · rw [if_pos q]; rfl
      · rw [if_neg q]; rfl
end FUE
