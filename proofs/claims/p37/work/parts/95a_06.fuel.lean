/-! a run with less fuel: it is the same run, up to where its fuel is out -/
section FUE
theorem st_3003 {s : Sx} {c x : Int32} (h : s.2 10 = -1) : FNo (f_3003 c x) s ∨ FOne (f_3003 c x) s := by
  have stp : FStp (fu (sV s 10 1) 0) s := ⟨rfl, rfl, rfl⟩
  have j40 : FOne (f_3003_J40 c x) s := by
    by_cases c12 : c = 12
    · refine FOne.of (h := f_3004 1 x s) (Z := fu (sV s 10 1) 0) (fun f hf => ?_) (pf_e o_3004.symm) ?_ stp
      · unfold f_3003_J40
        rw [fu_take h hf, bT_eq, if_neg (by decide), if_pos c12, bS_eq, fu_3004]
      · unfold f_3003_J40
        rw [fu_take0 h, bT_eq, if_pos rfl]
    · refine FOne.of (h := f_3004 0 x s) (Z := fu (sV s 10 1) 0) (fun f hf => ?_) (pf_e o_3004.symm) ?_ stp
      · unfold f_3003_J40
        rw [fu_take h hf, bT_eq, if_neg (by decide), if_neg c12, bS_eq, fu_3004]
      · unfold f_3003_J40
        rw [fu_take0 h, bT_eq, if_pos rfl]
  by_cases c11 : c = 11
  · right
    obtain ⟨H, g1, g2, Z, g3, g4⟩ := j40
    exact ⟨H, fun f hf => by rw [← g1 f hf]; unfold f_3003; rw [if_pos c11], g2, Z, by rw [← g3]; unfold f_3003; rw [if_pos c11], g4⟩
  by_cases c12 : c = 12
  · right
    obtain ⟨H, g1, g2, Z, g3, g4⟩ := j40
    exact ⟨H, fun f hf => by rw [← g1 f hf]; unfold f_3003; rw [if_neg c11, if_pos c12], g2, Z, by rw [← g3]; unfold f_3003; rw [if_neg c11, if_pos c12], g4⟩
  by_cases c13 : c = 13
  · exact Or.inl (FNo.of (h := sV s 11 x) (fun f _ => by unfold f_3003; rw [if_neg c11, if_neg c12, if_pos c13, bS_eq, fu_V (by decide)]) pf_r)
  by_cases c14 : c = 14
  · left
    by_cases q : xlast (s.1 22) = 0
    · refine FNo.of (h := sV (sB s 22 (s.1 22).dropLast) 11 x) (fun f _ => ?_) (pf_e rfl)
      unfold f_3003
      rw [if_neg c11, if_neg c12, if_neg c13, if_pos c14, bT_eq]
      show (if xlast (s.1 22) = 0 then _ else _) = _
      rw [if_pos q, bS_eq, fu_B, fu_V (by decide)]
      rfl
    · refine FNo.of (h := sV (sB s 22 (s.1 22).dropLast) 11 (s.2 11)) (fun f _ => ?_) (pf_e rfl)
      unfold f_3003
      rw [if_neg c11, if_neg c12, if_neg c13, if_pos c14, bT_eq]
      show (if xlast (s.1 22) = 0 then _ else _) = _
      rw [if_neg q, bS_eq, fu_B, fu_V (by decide)]
      rfl
  by_cases c15 : c = 15
  · right
    obtain ⟨H, g1, g2, Z, g3, g4⟩ := st_3005 (x := x) h
    refine ⟨H, fun f hf => ?_, g2, Z, ?_, g4⟩
    · unfold f_3003
      rw [if_neg c11, if_neg c12, if_neg c13, if_neg c14, if_pos c15, g1 f hf]
      cases H <;> rfl
    · unfold f_3003
      rw [if_neg c11, if_neg c12, if_neg c13, if_neg c14, if_pos c15, g3]
      rfl
  by_cases c16 : c = 16
  · refine Or.inl (FNo.of (h := sV (sB s 21 (s.1 21).dropLast) 11 (xlast (s.1 21))) (fun f _ => ?_) (pf_e rfl))
    unfold f_3003 f_7016
    rw [if_neg c11, if_neg c12, if_neg c13, if_neg c14, if_neg c15, if_pos c16, bT_eq, bT_eq, bS_eq, fu_B, fu_V (by decide)]
    rfl
  · refine Or.inl (FNo.of (h := f_7008 0 s) (fun f _ => ?_) (pf_e (congrFun o_7008 18).symm))
    unfold f_3003
    rw [if_neg c11, if_neg c12, if_neg c13, if_neg c14, if_neg c15, if_neg c16, bS_eq, fu_7008]
/-- one step of the run -/
def stp1 (s : Sx) : Option Sx := if 11 ≤ f_4007 (s.2 11) s then f_3003 (f_4007 (s.2 11) s) (f_4008 (s.2 11) s) (sV s 11 (s.2 11 + 1)) else some (f_3002 (f_4007 (s.2 11) s) (f_4008 (s.2 11) s) (sV s 11 (s.2 11 + 1)))
end FUE
