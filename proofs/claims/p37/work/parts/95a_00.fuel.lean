/-! a run with less fuel: it is the same run, up to where its fuel is out -/
section FUE
def fu (s : Sx) (f : Nat) : Sx := sV s 6 (nI f)
theorem fu_V {s : Sx} {f w : Nat} {v : Int32} (h : w ≠ 6) : sV (fu s f) w v = fu (sV s w v) f := by
  refine Prod.ext rfl (funext fun j => ?_)
  show (if j = w then v else if j = 6 then nI f else s.2 j) = if j = 6 then nI f else if j = w then v else s.2 j
  by_cases e : j = w
  · rw [if_pos e, if_neg (by omega), if_pos e]
  · rw [if_neg e, if_neg e]
theorem fu_B {s : Sx} {f k : Nat} {l : List Int32} : sB (fu s f) k l = fu (sB s k l) f := rfl
theorem fu_2 {s : Sx} {f w : Nat} (h : w ≠ 6) : (fu s f).2 w = s.2 w := if_neg h
theorem fu_6 {s : Sx} {f : Nat} : (fu s f).2 6 = nI f := rfl
theorem fu_fu {s : Sx} {f g : Nat} : fu (fu s f) g = fu s g := by
  refine Prod.ext rfl (funext fun j => ?_)
  show (if j = 6 then nI g else if j = 6 then nI f else s.2 j) = if j = 6 then nI g else s.2 j
  by_cases e : j = 6
  · rw [if_pos e, if_pos e]
  · rw [if_neg e, if_neg e, if_neg e]
theorem fu_id {s : Sx} {f : Nat} (h : s.2 6 = nI f) : fu s f = s := by
  refine Prod.ext rfl (funext fun j => ?_)
  show (if j = 6 then nI f else s.2 j) = s.2 j
  by_cases e : j = 6
  · rw [if_pos e, e, h]
  · rw [if_neg e]
theorem fu_7002 {s : Sx} {f : Nat} : f_7002 (fu s f) = f_7002 s := rfl
theorem fu_7008 {s : Sx} {f : Nat} {x : Int32} : f_7008 x (fu s f) = fu (f_7008 x s) f := by
  unfold f_7008
  rw [fu_2 (w := 10) (by decide)]
  by_cases c : s.2 10 = -1
  · rw [if_pos c, if_pos c, bS_eq, bS_eq, fu_V (by decide)]
  · rw [if_neg c, if_neg c]
theorem o_7008 {s : Sx} {x : Int32} : (f_7008 x s).1 = s.1 := by
  unfold f_7008
  split
  · rfl
  · rfl
/-- 1 of the fuel is taken -/
theorem fu_take {s : Sx} {f : Nat} (h : s.2 10 = -1) (hf : f < 6000) : f_7009 (fu s (f + 1)) = (fu s f, 1) := by
  unfold f_7009
  have e : (1 : Int32) ≤ (fu s (f + 1)).2 6 := by
    show (1 : Int32) ≤ nI (f + 1)
    rw [i_le, nI_T (by omega), i_1]; omega
  have e2 : sV (fu s (f + 1)) 6 ((fu s (f + 1)).2 6 - 1) = fu s f := by
    show sV (fu s (f + 1)) 6 (nI (f + 1) - 1) = fu s f
    rw [nI_pp (by omega)]
    exact fu_fu
  rw [if_pos e, e2, bS_eq]
  unfold f_7002
  rw [fu_2 (w := 10) (by decide), if_pos h]
theorem fu_take0 {s : Sx} (h : s.2 10 = -1) : f_7009 (fu s 0) = (fu (sV s 10 1) 0, 0) := by
  unfold f_7009
  have e : ¬ (1 : Int32) ≤ (fu s 0).2 6 := by
    show ¬ (1 : Int32) ≤ nI 0
    decide
  rw [if_neg e, bS_eq, fu_7008]
  unfold f_7008
  rw [if_pos h, bS_eq]
  unfold f_7002
  rw [fu_2 (w := 10) (by decide), if_neg (show ¬ (sV s 10 1).2 10 = -1 by show ¬ (1 : Int32) = -1; decide)]
/-- it has stopped for want of fuel -/
def FStp (Z s : Sx) : Prop := Z.2 10 = 1 ∧ Z.2 6 = 0 ∧ Z.1 18 = s.1 18
def FNo (G : Sx → Option Sx) (s : Sx) : Prop := ∃ H : Option Sx, (∀ f, f < 6000 → G (fu s f) = H.map (fun z => fu z f)) ∧ ∀ h, H = some h → s.1 18 <+: h.1 18
def FOne (G : Sx → Option Sx) (s : Sx) : Prop := ∃ H : Option Sx, (∀ f, f < 6000 → G (fu s (f + 1)) = H.map (fun z => fu z f)) ∧ (∀ h, H = some h → s.1 18 <+: h.1 18) ∧ ∃ Z, G (fu s 0) = some Z ∧ FStp Z s
theorem FNo.of {G : Sx → Option Sx} {s h : Sx} (e : ∀ f, f < 6000 → G (fu s f) = some (fu h f)) (h18 : s.1 18 <+: h.1 18) : FNo G s := ⟨some h, e, fun q hq => by cases hq; exact h18⟩
theorem FOne.of {G : Sx → Option Sx} {s h Z : Sx} (e : ∀ f, f < 6000 → G (fu s (f + 1)) = some (fu h f)) (h18 : s.1 18 <+: h.1 18) (e0 : G (fu s 0) = some Z) (hZ : FStp Z s) : FOne G s := ⟨some h, e, fun q hq => by cases hq; exact h18, Z, e0, hZ⟩
theorem pf_r {l : List Int32} : l <+: l := List.prefix_refl l
theorem pf_e {l l' : List Int32} (h : l = l') : l <+: l' := h ▸ List.prefix_refl l
theorem n18 {s : Sx} {k : Nat} {l : List Int32} (h : 18 ≠ k) : (sB s k l).1 18 = s.1 18 := if_neg h
/-- values that do not touch the fuel -/
theorem fu_7019 {s : Sx} {f : Nat} {x : Int64} : f_7019 x (fu s f) = (fu (f_7019 x s).1 f, (f_7019 x s).2) := by
  unfold f_7019 f_7019_J16
  by_cases c : lg_cmp x (-2147483648) < 0
  · rw [if_pos c, if_pos c, bS_eq, bS_eq, fu_7008]
  · rw [if_neg c, if_neg c]
    by_cases c2 : lg_cmp x 2147483647 ≤ 0
    · rw [if_pos c2, if_pos c2]
    · rw [if_neg c2, if_neg c2, bS_eq, bS_eq, fu_7008]
end FUE
