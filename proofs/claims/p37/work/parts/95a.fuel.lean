/-! a run with less fuel: it is the same run, up to where its fuel is out -/
section FUE
def fu (s : Sx) (f : Nat) : Sx := sV s 6 (nI f)
theorem fu_V {s : Sx} {f w : Nat} {v : Int32} (h : w ≠ 6) : sV (fu s f) w v = fu (sV s w v) f := by
  refine Prod.ext rfl (funext fun j => ?_)
  show (if j = w then v else if j = 6 then nI f else s.2 j) = if j = 6 then nI f else if j = w then v else s.2 j
  by_cases e : j = w
  · rw [if_pos e, if_neg (by omega), if_pos e]
  · rw [if_neg e, if_neg e]
theorem fu_B {s : Sx} {f k : Nat} {l : List Int32} : sB (fu s f) k l = fu (sB s k l) f := rfl
theorem fu_2 {s : Sx} {f w : Nat} (h : w ≠ 6) : (fu s f).2 w = s.2 w := if_neg h
theorem fu_6 {s : Sx} {f : Nat} : (fu s f).2 6 = nI f := rfl
theorem fu_fu {s : Sx} {f g : Nat} : fu (fu s f) g = fu s g := by
  refine Prod.ext rfl (funext fun j => ?_)
  show (if j = 6 then nI g else if j = 6 then nI f else s.2 j) = if j = 6 then nI g else s.2 j
  by_cases e : j = 6
  · rw [if_pos e, if_pos e]
  · rw [if_neg e, if_neg e, if_neg e]
theorem fu_id {s : Sx} {f : Nat} (h : s.2 6 = nI f) : fu s f = s := by
  refine Prod.ext rfl (funext fun j => ?_)
  show (if j = 6 then nI f else s.2 j) = s.2 j
  by_cases e : j = 6
  · rw [if_pos e, e, h]
  · rw [if_neg e]
theorem fu_7002 {s : Sx} {f : Nat} : f_7002 (fu s f) = f_7002 s := rfl
theorem fu_7008 {s : Sx} {f : Nat} {x : Int32} : f_7008 x (fu s f) = fu (f_7008 x s) f := by
  unfold f_7008
  rw [fu_2 (w := 10) (by decide)]
  by_cases c : s.2 10 = -1
  · rw [if_pos c, if_pos c, bS_eq, bS_eq, fu_V (by decide)]
  · rw [if_neg c, if_neg c]
theorem o_7008 {s : Sx} {x : Int32} : (f_7008 x s).1 = s.1 := by
  unfold f_7008
  split
  · rfl
  · rfl
/-- 1 of the fuel is taken -/
theorem fu_take {s : Sx} {f : Nat} (h : s.2 10 = -1) (hf : f < 6000) : f_7009 (fu s (f + 1)) = (fu s f, 1) := by
  unfold f_7009
  have e : (1 : Int32) ≤ (fu s (f + 1)).2 6 := by
    show (1 : Int32) ≤ nI (f + 1)
    rw [i_le, nI_T (by omega), i_1]; omega
  have e2 : sV (fu s (f + 1)) 6 ((fu s (f + 1)).2 6 - 1) = fu s f := by
    show sV (fu s (f + 1)) 6 (nI (f + 1) - 1) = fu s f
    rw [nI_pp (by omega)]
    exact fu_fu
  rw [if_pos e, e2, bS_eq]
  unfold f_7002
  rw [fu_2 (w := 10) (by decide), if_pos h]
theorem fu_take0 {s : Sx} (h : s.2 10 = -1) : f_7009 (fu s 0) = (fu (sV s 10 1) 0, 0) := by
  unfold f_7009
  have e : ¬ (1 : Int32) ≤ (fu s 0).2 6 := by
    show ¬ (1 : Int32) ≤ nI 0
    decide
  rw [if_neg e, bS_eq, fu_7008]
  unfold f_7008
  rw [if_pos h, bS_eq]
  unfold f_7002
  rw [fu_2 (w := 10) (by decide), if_neg (show ¬ (sV s 10 1).2 10 = -1 by show ¬ (1 : Int32) = -1; decide)]
/-- it has stopped for want of fuel -/
def FStp (Z s : Sx) : Prop := Z.2 10 = 1 ∧ Z.2 6 = 0 ∧ Z.1 18 = s.1 18
def FNo (G : Sx → Option Sx) (s : Sx) : Prop := ∃ H : Option Sx, (∀ f, f < 6000 → G (fu s f) = H.map (fun z => fu z f)) ∧ ∀ h, H = some h → s.1 18 <+: h.1 18
def FOne (G : Sx → Option Sx) (s : Sx) : Prop := ∃ H : Option Sx, (∀ f, f < 6000 → G (fu s (f + 1)) = H.map (fun z => fu z f)) ∧ (∀ h, H = some h → s.1 18 <+: h.1 18) ∧ ∃ Z, G (fu s 0) = some Z ∧ FStp Z s
theorem FNo.of {G : Sx → Option Sx} {s h : Sx} (e : ∀ f, f < 6000 → G (fu s f) = some (fu h f)) (h18 : s.1 18 <+: h.1 18) : FNo G s := ⟨some h, e, fun q hq => by cases hq; exact h18⟩
theorem FOne.of {G : Sx → Option Sx} {s h Z : Sx} (e : ∀ f, f < 6000 → G (fu s (f + 1)) = some (fu h f)) (h18 : s.1 18 <+: h.1 18) (e0 : G (fu s 0) = some Z) (hZ : FStp Z s) : FOne G s := ⟨some h, e, fun q hq => by cases hq; exact h18, Z, e0, hZ⟩
theorem pf_r {l : List Int32} : l <+: l := List.prefix_refl l
theorem pf_e {l l' : List Int32} (h : l = l') : l <+: l' := h ▸ List.prefix_refl l
theorem n18 {s : Sx} {k : Nat} {l : List Int32} (h : 18 ≠ k) : (sB s k l).1 18 = s.1 18 := if_neg h
/-- values that do not touch the fuel -/
theorem fu_7019 {s : Sx} {f : Nat} {x : Int64} : f_7019 x (fu s f) = (fu (f_7019 x s).1 f, (f_7019 x s).2) := by
  unfold f_7019 f_7019_J16
  by_cases c : lg_cmp x (-2147483648) < 0
  · rw [if_pos c, if_pos c, bS_eq, bS_eq, fu_7008]
  · rw [if_neg c, if_neg c]
    by_cases c2 : lg_cmp x 2147483647 ≤ 0
    · rw [if_pos c2, if_pos c2]
    · rw [if_neg c2, if_neg c2, bS_eq, bS_eq, fu_7008]
theorem o_7019 {s : Sx} {x : Int64} : (f_7019 x s).1.1 = s.1 := by
  unfold f_7019 f_7019_J16
  split
  · exact o_7008
  · split
    · rfl
    · exact o_7008
/-- a function that takes 1 and then does not touch the fuel -/
def POne (g : Sx → Sx × Int32) (s : Sx) : Prop := ∃ h v, (∀ f, f < 6000 → g (fu s (f + 1)) = (fu h f, v)) ∧ h.1 = s.1 ∧ g (fu s 0) = (fu (sV s 10 1) 0, 0)
theorem p_7017 {s : Sx} {a b : Int32} (h : s.2 10 = -1) : POne (f_7017 a b) s := by
  have e0 : f_7017 a b (fu s 0) = (fu (sV s 10 1) 0, 0) := by
    unfold f_7017
    rw [fu_take0 h, bT_eq, if_pos rfl]
  have go : ∀ f, f < 6000 → f_7017 a b (fu s (f + 1)) = if a = 25 then (if b = 0 then (fu s f, 1) else (fu s f, 0)) else if a = 36 then f_7019 (-b.toInt64) (fu s f) else if b < 0 then f_7017_J64 a b (fu s f) else if b < 32 then f_7017_J69 a b (fu s f) else f_7017_J64 a b (fu s f) := fun f hf => by
    unfold f_7017
    rw [fu_take h hf, bT_eq, if_neg (by decide)]
    rfl
  by_cases c1 : a = 25
  · by_cases c2 : b = 0
    · exact ⟨s, 1, fun f hf => by rw [go f hf, if_pos c1, if_pos c2], rfl, e0⟩
    · exact ⟨s, 0, fun f hf => by rw [go f hf, if_pos c1, if_neg c2], rfl, e0⟩
  · by_cases c2 : a = 36
    · exact ⟨_, _, fun f hf => by rw [go f hf, if_neg c1, if_pos c2, fu_7019], o_7019, e0⟩
    · have j64 : ∀ f, f_7017_J64 a b (fu s f) = (fu (f_7008 4 s) f, xg (s.1 19) b) := fun f => by
        unfold f_7017_J64 f_7017_J69
        rw [bS_eq, fu_7008]
        show (_, xg ((f_7008 4 s).1 19) b) = _
        rw [o_7008]
      by_cases c3 : b < 0
      · exact ⟨_, _, fun f hf => by rw [go f hf, if_neg c1, if_neg c2, if_pos c3, j64], o_7008, e0⟩
      · by_cases c4 : b < 32
        · exact ⟨s, xg (s.1 19) b, fun f hf => by rw [go f hf, if_neg c1, if_neg c2, if_neg c3, if_pos c4]; rfl, rfl, e0⟩
        · exact ⟨_, _, fun f hf => by rw [go f hf, if_neg c1, if_neg c2, if_neg c3, if_neg c4, j64], o_7008, e0⟩
theorem fu_J94 {s : Sx} {f : Nat} {a b c : Int32} : f_7018_J94 a b c (fu s f) = (fu (f_7018_J94 a b c s).1 f, (f_7018_J94 a b c s).2) := by
  unfold f_7018_J94
  by_cases c1 : c = 0
  · rw [if_pos c1, if_pos c1, bS_eq, bS_eq, fu_7008]
  · rw [if_neg c1, if_neg c1]
    by_cases c2 : a = 15
    · rw [if_pos c2, if_pos c2, fu_7019]; rfl
    · rw [if_neg c2, if_neg c2, fu_7019]; rfl
theorem o_J94 {s : Sx} {a b c : Int32} : (f_7018_J94 a b c s).1.1 = s.1 := by
  unfold f_7018_J94
  split
  · exact o_7008
  · split
    · exact o_7019
    · exact o_7019
theorem p_7018 {s : Sx} {a b c : Int32} (h : s.2 10 = -1) : POne (f_7018 a b c) s := by
  have e0 : f_7018 a b c (fu s 0) = (fu (sV s 10 1) 0, 0) := by
    unfold f_7018
    rw [fu_take0 h, bT_eq, if_pos rfl]
  have key : ∀ g : Sx → Sx × Int32, (∀ f, g (fu s f) = (fu (g s).1 f, (g s).2)) → (g s).1.1 = s.1 → (∀ f, f < 6000 → f_7018 a b c (fu s (f + 1)) = g (fu s f)) → POne (f_7018 a b c) s := fun g hg ho hf => ⟨_, _, fun f hf' => by rw [hf f hf', hg f], ho, e0⟩
  have con : ∀ v : Int32, ∀ f, (fun z : Sx => (z, v)) (fu s f) = (fu ((fun z : Sx => (z, v)) s).1 f, ((fun z : Sx => (z, v)) s).2) := fun v f => rfl
  have st : ∀ f, f < 6000 → f_7018 a b c (fu s (f + 1)) = (fun z : Sx => if a = 12 then f_7019 (b.toInt64 + c.toInt64) z else if a = 13 then f_7019 (b.toInt64 - c.toInt64) z else if a = 14 then f_7019 (b.toInt64 * c.toInt64) z else if a = 15 then f_7018_J94 a b c z else if a = 16 then f_7018_J94 a b c z else if a = 17 then (if c ≤ b then (z, 0) else (z, 1)) else if a = 18 then (if c < b then (z, 0) else (z, 1)) else if a = 19 then (if b ≤ c then (z, 0) else (z, 1)) else if a = 20 then (if b < c then (z, 0) else (z, 1)) else if a = 21 then (if b = c then (z, 1) else (z, 0)) else (if b = c then (z, 0) else (z, 1)) : Sx → Sx × Int32) (fu s f) := fun f hf => by
    unfold f_7018
    rw [fu_take h hf, bT_eq, if_neg (by decide)]
    rfl
  by_cases c12 : a = 12
  · exact key _ (fun f => fu_7019) o_7019 (fun f hf => by rw [st f hf]; dsimp only; rw [if_pos c12])
  by_cases c13 : a = 13
  · exact key _ (fun f => fu_7019) o_7019 (fun f hf => by rw [st f hf]; dsimp only; rw [if_neg c12, if_pos c13])
  by_cases c14 : a = 14
  · exact key _ (fun f => fu_7019) o_7019 (fun f hf => by rw [st f hf]; dsimp only; rw [if_neg c12, if_neg c13, if_pos c14])
  by_cases c15 : a = 15
  · exact key _ (fun f => fu_J94) o_J94 (fun f hf => by rw [st f hf]; dsimp only; rw [if_neg c12, if_neg c13, if_neg c14, if_pos c15])
  by_cases c16 : a = 16
  · exact key _ (fun f => fu_J94) o_J94 (fun f hf => by rw [st f hf]; dsimp only; rw [if_neg c12, if_neg c13, if_neg c14, if_neg c15, if_pos c16])
  have cc : ∃ v : Int32, ∀ f, f < 6000 → f_7018 a b c (fu s (f + 1)) = (fu s f, v) := by
    by_cases c17 : a = 17
    · by_cases q : c ≤ b
      · exact ⟨0, fun f hf => by rw [st f hf]; dsimp only; rw [if_neg c12, if_neg c13, if_neg c14, if_neg c15, if_neg c16, if_pos c17, if_pos q]⟩
      · exact ⟨1, fun f hf => by rw [st f hf]; dsimp only; rw [if_neg c12, if_neg c13, if_neg c14, if_neg c15, if_neg c16, if_pos c17, if_neg q]⟩
    by_cases c18 : a = 18
    · by_cases q : c < b
      · exact ⟨0, fun f hf => by rw [st f hf]; dsimp only; rw [if_neg c12, if_neg c13, if_neg c14, if_neg c15, if_neg c16, if_neg c17, if_pos c18, if_pos q]⟩
      · exact ⟨1, fun f hf => by rw [st f hf]; dsimp only; rw [if_neg c12, if_neg c13, if_neg c14, if_neg c15, if_neg c16, if_neg c17, if_pos c18, if_neg q]⟩
    by_cases c19 : a = 19
    · by_cases q : b ≤ c
      · exact ⟨0, fun f hf => by rw [st f hf]; dsimp only; rw [if_neg c12, if_neg c13, if_neg c14, if_neg c15, if_neg c16, if_neg c17, if_neg c18, if_pos c19, if_pos q]⟩
      · exact ⟨1, fun f hf => by rw [st f hf]; dsimp only; rw [if_neg c12, if_neg c13, if_neg c14, if_neg c15, if_neg c16, if_neg c17, if_neg c18, if_pos c19, if_neg q]⟩
    by_cases c20 : a = 20
    · by_cases q : b < c
      · exact ⟨0, fun f hf => by rw [st f hf]; dsimp only; rw [if_neg c12, if_neg c13, if_neg c14, if_neg c15, if_neg c16, if_neg c17, if_neg c18, if_neg c19, if_pos c20, if_pos q]⟩
      · exact ⟨1, fun f hf => by rw [st f hf]; dsimp only; rw [if_neg c12, if_neg c13, if_neg c14, if_neg c15, if_neg c16, if_neg c17, if_neg c18, if_neg c19, if_pos c20, if_neg q]⟩
    by_cases c21 : a = 21
    · by_cases q : b = c
      · exact ⟨1, fun f hf => by rw [st f hf]; dsimp only; rw [if_neg c12, if_neg c13, if_neg c14, if_neg c15, if_neg c16, if_neg c17, if_neg c18, if_neg c19, if_neg c20, if_pos c21, if_pos q]⟩
      · exact ⟨0, fun f hf => by rw [st f hf]; dsimp only; rw [if_neg c12, if_neg c13, if_neg c14, if_neg c15, if_neg c16, if_neg c17, if_neg c18, if_neg c19, if_neg c20, if_pos c21, if_neg q]⟩
    by_cases q : b = c
    · exact ⟨0, fun f hf => by rw [st f hf]; dsimp only; rw [if_neg c12, if_neg c13, if_neg c14, if_neg c15, if_neg c16, if_neg c17, if_neg c18, if_neg c19, if_neg c20, if_neg c21, if_pos q]⟩
    · exact ⟨1, fun f hf => by rw [st f hf]; dsimp only; rw [if_neg c12, if_neg c13, if_neg c14, if_neg c15, if_neg c16, if_neg c17, if_neg c18, if_neg c19, if_neg c20, if_neg c21, if_neg q]⟩
  obtain ⟨v, hv⟩ := cc
  exact ⟨s, v, hv, rfl, e0⟩
theorem p_7010 {s : Sx} (h : s.2 10 = -1) : POne f_7010 s := by
  have e0 : f_7010 (fu s 0) = (fu (sV s 10 1) 0, 0) := by
    unfold f_7010
    rw [fu_take0 h, bT_eq, if_pos rfl]
  have go : ∀ f, f < 6000 → f_7010 (fu s (f + 1)) = if (s.2 9 + 1) ≤ 2 then (if s.2 9 + 1 = 1 then (fu (sV s 9 (s.2 9 + 1)) f, s.2 7) else (fu (sV s 9 (s.2 9 + 1)) f, s.2 8)) else (fu (f_7008 5 (sV s 9 (s.2 9 + 1))) f, 0) := fun f hf => by
    unfold f_7010
    rw [fu_take h hf, bT_eq, if_neg (by decide), fu_V (by decide), fu_2 (w := 9) (by decide), bS_eq, bS_eq, fu_7008]
    rfl
  by_cases c1 : s.2 9 + 1 ≤ 2
  · by_cases c2 : s.2 9 + 1 = 1
    · exact ⟨_, _, fun f hf => by rw [go f hf, if_pos c1, if_pos c2], rfl, e0⟩
    · exact ⟨_, _, fun f hf => by rw [go f hf, if_pos c1, if_neg c2], rfl, e0⟩
  · exact ⟨_, _, fun f hf => by rw [go f hf, if_neg c1], o_7008.trans rfl, e0⟩
theorem fu_7012 {s : Sx} {f : Nat} {a b : Int32} : f_7012 a b (fu s f) = fu (f_7012 a b s) f := by
  unfold f_7012 f_7012_J10
  by_cases c : a < 0
  · rw [if_pos c, if_pos c, bS_eq, bS_eq, fu_7008]
  · rw [if_neg c, if_neg c]
    by_cases c2 : a < 32
    · rw [if_pos c2, if_pos c2]; rfl
    · rw [if_neg c2, if_neg c2, bS_eq, bS_eq, fu_7008]
theorem o_7012 {s : Sx} {a b : Int32} : (f_7012 a b s).1 18 = s.1 18 := by
  unfold f_7012 f_7012_J10
  split
  · exact congrFun o_7008 18
  · split
    · exact n18 (by decide)
    · exact congrFun o_7008 18
theorem fu_7011 {s : Sx} {f : Nat} {a : Int32} : f_7011 a (fu s f) = fu (f_7011 a s) f := by
  unfold f_7011
  show (if nI (s.1 18).length < 8 then _ else _) = _
  by_cases c : nI (s.1 18).length < 8
  · rw [if_pos c, if_pos c]; rfl
  · rw [if_neg c, if_neg c, bS_eq, bS_eq, fu_7008]
theorem o_7011 {s : Sx} {a : Int32} : s.1 18 <+: (f_7011 a s).1 18 := by
  unfold f_7011
  split
  · show s.1 18 <+: xadd (ev_cap 18) (s.1 18) a
    unfold xadd
    split
    · exact List.prefix_append _ _
    · exact pf_r
  · exact pf_e (congrFun o_7008 18).symm
/-- a step that goes on in the row of codes -/
theorem st_3002 {s : Sx} {c x : Int32} (h : s.2 10 = -1) : FNo (fun z => some (f_3002 c x z)) s ∨ FOne (fun z => some (f_3002 c x z)) s := by
  have stp : FStp (fu (sV s 10 1) 0) s := ⟨rfl, rfl, rfl⟩
  by_cases c0 : c = 0
  · right
    refine FOne.of (h := s) (Z := fu (sV s 10 1) 0) (fun f hf => ?_) pf_r ?_ stp
    · unfold f_3002
      rw [if_pos c0, fu_take h hf, bT_eq]
    · unfold f_3002
      rw [if_pos c0, fu_take0 h, bT_eq]
  by_cases c1 : c = 1
  · exact Or.inl (FNo.of (h := f_3002 c x s) (fun f _ => by unfold f_3002; rw [if_neg c0, if_pos c1, if_neg c0, if_pos c1]; rfl) (pf_e (by unfold f_3002; rw [if_neg c0, if_pos c1]; rfl)))
  by_cases c2 : c = 2
  · exact Or.inl (FNo.of (h := f_3002 c x s) (fun f _ => by unfold f_3002; rw [if_neg c0, if_neg c1, if_pos c2, if_neg c0, if_neg c1, if_pos c2]; rfl) (pf_e (by unfold f_3002; rw [if_neg c0, if_neg c1, if_pos c2]; rfl)))
  by_cases c3 : c = 3
  · exact Or.inl (FNo.of (h := f_3002 c x s) (fun f _ => by unfold f_3002; rw [if_neg c0, if_neg c1, if_neg c2, if_pos c3, if_neg c0, if_neg c1, if_neg c2, if_pos c3]; rfl) (pf_e (by unfold f_3002; rw [if_neg c0, if_neg c1, if_neg c2, if_pos c3]; rfl)))
  by_cases c4 : c = 4
  · refine Or.inl (FNo.of (h := f_3002 c x s) (fun f _ => ?_) (pf_e ?_))
    · unfold f_3002
      rw [if_neg c0, if_neg c1, if_neg c2, if_neg c3, if_pos c4, if_neg c0, if_neg c1, if_neg c2, if_neg c3, if_pos c4]
      show some (f_7012 _ _ (fu _ f)) = _
      rw [fu_7012]
      rfl
    · unfold f_3002
      rw [if_neg c0, if_neg c1, if_neg c2, if_neg c3, if_pos c4]
      exact (o_7012.trans rfl).symm
  by_cases c5 : c = 5
  · obtain ⟨h1, v, g1, g2, g3⟩ := p_7010 h
    right
    refine FOne.of (h := sB h1 22 (xadd (ev_cap 22) (h1.1 22) v)) (Z := sB (fu (sV s 10 1) 0) 22 (xadd (ev_cap 22) ((fu (sV s 10 1) 0).1 22) 0)) (fun f hf => ?_) (pf_e ?_) ?_ ⟨rfl, rfl, rfl⟩
    · unfold f_3002
      rw [if_neg c0, if_neg c1, if_neg c2, if_neg c3, if_neg c4, if_pos c5, g1 f hf]
      rfl
    · rw [n18 (by decide), g2]
    · unfold f_3002
      rw [if_neg c0, if_neg c1, if_neg c2, if_neg c3, if_neg c4, if_pos c5, g3]
      rfl
  by_cases c6 : c = 6
  · refine Or.inl (FNo.of (h := f_3002 c x s) (fun f _ => ?_) ?_)
    · unfold f_3002
      rw [if_neg c0, if_neg c1, if_neg c2, if_neg c3, if_neg c4, if_neg c5, if_pos c6, if_neg c0, if_neg c1, if_neg c2, if_neg c3, if_neg c4, if_neg c5, if_pos c6]
      show some (f_7011 _ (fu _ f)) = _
      rw [fu_7011]
      rfl
    · unfold f_3002
      rw [if_neg c0, if_neg c1, if_neg c2, if_neg c3, if_neg c4, if_neg c5, if_pos c6]
      exact o_7011 (s := sB s 22 (s.1 22).dropLast)
  by_cases c7 : c = 7
  · exact Or.inl (FNo.of (h := f_3002 c x s) (fun f _ => by unfold f_3002; rw [if_neg c0, if_neg c1, if_neg c2, if_neg c3, if_neg c4, if_neg c5, if_neg c6, if_pos c7, if_neg c0, if_neg c1, if_neg c2, if_neg c3, if_neg c4, if_neg c5, if_neg c6, if_pos c7]; rfl) (pf_e (by unfold f_3002; rw [if_neg c0, if_neg c1, if_neg c2, if_neg c3, if_neg c4, if_neg c5, if_neg c6, if_pos c7]; rfl)))
  by_cases c8 : c = 8
  · obtain ⟨h1, v, g1, g2, g3⟩ := p_7017 (s := sB s 22 (s.1 22).dropLast) (a := x) (b := xlast (s.1 22)) h
    right
    refine FOne.of (h := sB h1 22 (xadd (ev_cap 22) (h1.1 22) v)) (Z := sB (fu (sV (sB s 22 (s.1 22).dropLast) 10 1) 0) 22 (xadd (ev_cap 22) ((fu (sV (sB s 22 (s.1 22).dropLast) 10 1) 0).1 22) 0)) (fun f hf => ?_) (pf_e ?_) ?_ ⟨rfl, rfl, rfl⟩
    · unfold f_3002
      rw [if_neg c0, if_neg c1, if_neg c2, if_neg c3, if_neg c4, if_neg c5, if_neg c6, if_neg c7, if_pos c8, bT_eq]
      show some (bT (f_7017 x (xlast (s.1 22)) (fu (sB s 22 (s.1 22).dropLast) (f + 1))) _) = _
      rw [g1 f hf]
      rfl
    · rw [n18 (by decide), g2]; rfl
    · unfold f_3002
      rw [if_neg c0, if_neg c1, if_neg c2, if_neg c3, if_neg c4, if_neg c5, if_neg c6, if_neg c7, if_pos c8, bT_eq]
      show some (bT (f_7017 x (xlast (s.1 22)) (fu (sB s 22 (s.1 22).dropLast) 0)) _) = _
      rw [g3]
      rfl
  by_cases c9 : c = 9
  · obtain ⟨s2, hs2⟩ : ∃ s2, s2 = sB (sB s 22 (s.1 22).dropLast) 22 ((sB s 22 (s.1 22).dropLast).1 22).dropLast := ⟨_, rfl⟩
    have h2 : s2.2 10 = -1 := by rw [hs2]; exact h
    have o2 : s2.1 18 = s.1 18 := by rw [hs2]; rfl
    obtain ⟨h1, v, g1, g2, g3⟩ := p_7018 (s := s2) (a := x) (b := xlast ((sB s 22 (s.1 22).dropLast).1 22)) (c := xlast (s.1 22)) h2
    right
    refine FOne.of (h := sB h1 22 (xadd (ev_cap 22) (h1.1 22) v)) (Z := sB (fu (sV s2 10 1) 0) 22 (xadd (ev_cap 22) ((fu (sV s2 10 1) 0).1 22) 0)) (fun f hf => ?_) (pf_e ?_) ?_ ⟨rfl, rfl, o2⟩
    · unfold f_3002
      rw [if_neg c0, if_neg c1, if_neg c2, if_neg c3, if_neg c4, if_neg c5, if_neg c6, if_neg c7, if_neg c8, if_pos c9, bT_eq, bT_eq]
      have e : sB (sB (fu s (f + 1)) 22 ((fu s (f + 1)).1 22).dropLast) 22 ((sB (fu s (f + 1)) 22 ((fu s (f + 1)).1 22).dropLast).1 22).dropLast = fu s2 (f + 1) := by rw [hs2]; rfl
      rw [e]
      show some (bT (f_7018 x (xlast ((sB s 22 (s.1 22).dropLast).1 22)) (xlast (s.1 22)) (fu s2 (f + 1))) _) = _
      rw [g1 f hf]
      rfl
    · rw [n18 (by decide), g2, o2]
    · unfold f_3002
      rw [if_neg c0, if_neg c1, if_neg c2, if_neg c3, if_neg c4, if_neg c5, if_neg c6, if_neg c7, if_neg c8, if_pos c9, bT_eq, bT_eq]
      have e : sB (sB (fu s 0) 22 ((fu s 0).1 22).dropLast) 22 ((sB (fu s 0) 22 ((fu s 0).1 22).dropLast).1 22).dropLast = fu s2 0 := by rw [hs2]; rfl
      rw [e]
      show some (bT (f_7018 x (xlast ((sB s 22 (s.1 22).dropLast).1 22)) (xlast (s.1 22)) (fu s2 0)) _) = _
      rw [g3]
      rfl
  · refine Or.inl (FNo.of (h := f_3002 c x s) (fun f _ => ?_) (pf_e ?_))
    · unfold f_3002
      rw [if_neg c0, if_neg c1, if_neg c2, if_neg c3, if_neg c4, if_neg c5, if_neg c6, if_neg c7, if_neg c8, if_neg c9, if_neg c0, if_neg c1, if_neg c2, if_neg c3, if_neg c4, if_neg c5, if_neg c6, if_neg c7, if_neg c8, if_neg c9, bT_eq, bT_eq]
      show some (if xlast (s.1 22) = 0 then _ else _) = some (fu (if xlast (s.1 22) = 0 then _ else _) f)
      by_cases q : xlast (s.1 22) = 0
      · rw [if_pos q, if_pos q]; rfl
      · rw [if_neg q, if_neg q]; rfl
    · unfold f_3002
      rw [if_neg c0, if_neg c1, if_neg c2, if_neg c3, if_neg c4, if_neg c5, if_neg c6, if_neg c7, if_neg c8, if_neg c9, bT_eq]
      show s.1 18 = (if xlast (s.1 22) = 0 then _ else _ : Sx).1 18
      by_cases q : xlast (s.1 22) = 0
      · rw [if_pos q]; rfl
      · rw [if_neg q]; rfl
theorem fu_3004 {s : Sx} {f : Nat} {a b : Int32} : f_3004 a b (fu s f) = fu (f_3004 a b s) f := by
  have j34 : ∀ (s : Sx) (l3 k : Int32), f_3004_J34 a b l3 k (fu s f) = fu (f_3004_J34 a b l3 k s) f := fun s l3 k => by
    unfold f_3004_J34
    rw [bS_eq, bS_eq, bS_eq, bS_eq, fu_B, fu_V (by decide)]
    rfl
  have j15 : ∀ (s : Sx) (k : Int32), f_3004_J15 a b k (fu s f) = fu (f_3004_J15 a b k s) f := fun s k => by
    unfold f_3004_J15
    by_cases c : k = a
    · rw [if_pos c, if_pos c]
      by_cases c2 : k = 0
      · rw [if_pos c2, if_pos c2, j34]
      · rw [if_neg c2, if_neg c2, j34]
    · rw [if_neg c, if_neg c]
  unfold f_3004
  rw [bT_eq, bT_eq]
  show (if xlast (s.1 22) = 0 then _ else _) = _
  by_cases c : xlast (s.1 22) = 0
  · rw [if_pos c, if_pos c]
    exact j15 _ _
  · rw [if_neg c, if_neg c]
    exact j15 _ _
theorem o_3004 {s : Sx} {a b : Int32} : (f_3004 a b s).1 18 = s.1 18 := by
  have j15 : ∀ (s : Sx) (k : Int32), (f_3004_J15 a b k s).1 18 = s.1 18 := fun s k => by
    unfold f_3004_J15 f_3004_J34
    split
    · split
      · rfl
      · rfl
    · rfl
  unfold f_3004
  rw [bT_eq]
  split
  · exact (j15 _ _).trans rfl
  · exact (j15 _ _).trans rfl
theorem fu_L39 : ∀ (n : Nat) (a b : Int32) (s : Sx) (f : Nat), f_7015_L39 n a b (fu s f) = (f_7015_L39 n a b s).map (fun p => (fu p.1 f, p.2)) := by
  intro n
  induction n with
  | zero => intro a b s f; rfl
  | succ n ih =>
    intro a b s f
    rw [f_7015_L39, f_7015_L39]
    by_cases c : 8 ≤ b
    · rw [if_pos c, if_pos c]; rfl
    · rw [if_neg c, if_neg c, bS_eq, bS_eq]
      exact ih a (b + 1) (f_7014 b 0 s) f
theorem o_L39 : ∀ (n : Nat) (a b : Int32) (s : Sx) (p : Sx × Int32), f_7015_L39 n a b s = some p → p.1.1 18 = s.1 18 ∧ p.1.2 = s.2 := by
  intro n
  induction n with
  | zero => intro a b s p h; cases h
  | succ n ih =>
    intro a b s p h
    rw [f_7015_L39] at h
    by_cases c : 8 ≤ b
    · rw [if_pos c] at h; cases h; exact ⟨rfl, rfl⟩
    · rw [if_neg c, bS_eq] at h
      exact ih a (b + 1) (f_7014 b 0 s) p h
theorem fu_L25 : ∀ (n : Nat) (a b : Int32) (s : Sx) (f : Nat), f_3005_L25 n a b (fu s f) = (f_3005_L25 n a b s).map (fun p => fu p f) := by
  intro n
  induction n with
  | zero => intro a b s f; rfl
  | succ n ih =>
    intro a b s f
    rw [f_3005_L25, f_3005_L25]
    by_cases c : b < 0
    · rw [if_pos c, if_pos c, bS_eq, bS_eq, fu_V (by decide)]; rfl
    · rw [if_neg c, if_neg c, bT_eq, bT_eq, bS_eq, bS_eq]
      exact ih a (b + (-1)) _ f
theorem o_L25 : ∀ (n : Nat) (a b : Int32) (s p : Sx), f_3005_L25 n a b s = some p → p.1 18 = s.1 18 := by
  intro n
  induction n with
  | zero => intro a b s p h; cases h
  | succ n ih =>
    intro a b s p h
    rw [f_3005_L25] at h
    by_cases c : b < 0
    · rw [if_pos c] at h; cases h; rfl
    · rw [if_neg c, bT_eq, bS_eq] at h
      exact (ih a (b + (-1)) _ p h).trans rfl
theorem st_3005 {s : Sx} {x : Int32} (h : s.2 10 = -1) : FOne (f_3005 x) s := by
  have e0 : f_3005 x (fu s 0) = some (fu (sV s 10 1) 0) := by
    unfold f_3005 f_7015
    rw [fu_take0 h, bT_eq, if_pos rfl, bO_some, if_pos rfl]
  have stp : FStp (fu (sV s 10 1) 0) s := ⟨rfl, rfl, rfl⟩
  by_cases c : nI (s.1 21).length < 10
  · obtain ⟨s7, hs7⟩ : ∃ s7, s7 = sB s 21 (xadd (ev_cap 21) (s.1 21) (s.2 11)) := ⟨_, rfl⟩
    have o7 : s7.1 18 = s.1 18 := by rw [hs7]; rfl
    have e1 : ∀ f, f < 6000 → f_3005 x (fu s (f + 1)) = bO ((f_7015_L39 20 (s.2 11) 0 s7).map (fun p => (fu p.1 f, p.2))) (fun s6 r6 => if r6 = 0 then some s6 else f_3005_L25 400 x (f_4013 x s6 - 1) s6) := fun f hf => by
      unfold f_3005 f_7015
      rw [fu_take h hf, bT_eq, if_neg (by decide), show nI ((fu s f).1 21).length < 10 ↔ nI (s.1 21).length < 10 from Iff.rfl, if_pos c, bS_eq, ← fu_L39, hs7]
      rfl
    cases hq : f_7015_L39 20 (s.2 11) 0 s7 with
    | none =>
      refine ⟨none, fun f hf => ?_, fun q hq => by cases hq, _, e0, stp⟩
      rw [e1 f hf, hq]; rfl
    | some p =>
      obtain ⟨s6, r6⟩ := p
      have o6 := (o_L39 _ _ _ _ _ hq).1
      by_cases c6 : r6 = 0
      · refine FOne.of (h := s6) (fun f hf => ?_) (pf_e (o6.trans o7).symm) e0 stp
        rw [e1 f hf, hq]
        show (if r6 = 0 then some (fu s6 f) else _) = _
        rw [if_pos c6]
      · refine ⟨f_3005_L25 400 x (f_4013 x s6 - 1) s6, fun f hf => ?_, fun q hq => pf_e ((o_L25 _ _ _ _ _ hq).trans (o6.trans o7)).symm, _, e0, stp⟩
        rw [e1 f hf, hq]
        show (if r6 = 0 then some (fu s6 f) else f_3005_L25 400 x (f_4013 x s6 - 1) (fu s6 f)) = _
        rw [if_neg c6, fu_L25]
  · refine FOne.of (h := f_7008 7 s) (fun f hf => ?_) (pf_e (congrFun o_7008 18).symm) e0 stp
    unfold f_3005 f_7015
    rw [fu_take h hf, bT_eq, if_neg (by decide), if_neg (show ¬ nI ((fu s f).1 21).length < 10 from c), bS_eq, bO_some, if_pos rfl, fu_7008]
theorem st_3003 {s : Sx} {c x : Int32} (h : s.2 10 = -1) : FNo (f_3003 c x) s ∨ FOne (f_3003 c x) s := by
  have stp : FStp (fu (sV s 10 1) 0) s := ⟨rfl, rfl, rfl⟩
  have j40 : FOne (f_3003_J40 c x) s := by
    by_cases c12 : c = 12
    · refine FOne.of (h := f_3004 1 x s) (Z := fu (sV s 10 1) 0) (fun f hf => ?_) (pf_e o_3004.symm) ?_ stp
      · unfold f_3003_J40
        rw [fu_take h hf, bT_eq, if_neg (by decide), if_pos c12, bS_eq, fu_3004]
      · unfold f_3003_J40
        rw [fu_take0 h, bT_eq, if_pos rfl]
    · refine FOne.of (h := f_3004 0 x s) (Z := fu (sV s 10 1) 0) (fun f hf => ?_) (pf_e o_3004.symm) ?_ stp
      · unfold f_3003_J40
        rw [fu_take h hf, bT_eq, if_neg (by decide), if_neg c12, bS_eq, fu_3004]
      · unfold f_3003_J40
        rw [fu_take0 h, bT_eq, if_pos rfl]
  by_cases c11 : c = 11
  · right
    obtain ⟨H, g1, g2, Z, g3, g4⟩ := j40
    exact ⟨H, fun f hf => by rw [← g1 f hf]; unfold f_3003; rw [if_pos c11], g2, Z, by rw [← g3]; unfold f_3003; rw [if_pos c11], g4⟩
  by_cases c12 : c = 12
  · right
    obtain ⟨H, g1, g2, Z, g3, g4⟩ := j40
    exact ⟨H, fun f hf => by rw [← g1 f hf]; unfold f_3003; rw [if_neg c11, if_pos c12], g2, Z, by rw [← g3]; unfold f_3003; rw [if_neg c11, if_pos c12], g4⟩
  by_cases c13 : c = 13
  · exact Or.inl (FNo.of (h := sV s 11 x) (fun f _ => by unfold f_3003; rw [if_neg c11, if_neg c12, if_pos c13, bS_eq, fu_V (by decide)]) pf_r)
  by_cases c14 : c = 14
  · left
    by_cases q : xlast (s.1 22) = 0
    · refine FNo.of (h := sV (sB s 22 (s.1 22).dropLast) 11 x) (fun f _ => ?_) (pf_e rfl)
      unfold f_3003
      rw [if_neg c11, if_neg c12, if_neg c13, if_pos c14, bT_eq]
      show (if xlast (s.1 22) = 0 then _ else _) = _
      rw [if_pos q, bS_eq, fu_B, fu_V (by decide)]
      rfl
    · refine FNo.of (h := sV (sB s 22 (s.1 22).dropLast) 11 (s.2 11)) (fun f _ => ?_) (pf_e rfl)
      unfold f_3003
      rw [if_neg c11, if_neg c12, if_neg c13, if_pos c14, bT_eq]
      show (if xlast (s.1 22) = 0 then _ else _) = _
      rw [if_neg q, bS_eq, fu_B, fu_V (by decide)]
      rfl
  by_cases c15 : c = 15
  · right
    obtain ⟨H, g1, g2, Z, g3, g4⟩ := st_3005 (x := x) h
    refine ⟨H, fun f hf => ?_, g2, Z, ?_, g4⟩
    · unfold f_3003
      rw [if_neg c11, if_neg c12, if_neg c13, if_neg c14, if_pos c15, g1 f hf]
      cases H <;> rfl
    · unfold f_3003
      rw [if_neg c11, if_neg c12, if_neg c13, if_neg c14, if_pos c15, g3]
      rfl
  by_cases c16 : c = 16
  · refine Or.inl (FNo.of (h := sV (sB s 21 (s.1 21).dropLast) 11 (xlast (s.1 21))) (fun f _ => ?_) (pf_e rfl))
    unfold f_3003 f_7016
    rw [if_neg c11, if_neg c12, if_neg c13, if_neg c14, if_neg c15, if_pos c16, bT_eq, bT_eq, bS_eq, fu_B, fu_V (by decide)]
    rfl
  · refine Or.inl (FNo.of (h := f_7008 0 s) (fun f _ => ?_) (pf_e (congrFun o_7008 18).symm))
    unfold f_3003
    rw [if_neg c11, if_neg c12, if_neg c13, if_neg c14, if_neg c15, if_neg c16, bS_eq, fu_7008]
/-- one step of the run -/
def stp1 (s : Sx) : Option Sx := if 11 ≤ f_4007 (s.2 11) s then f_3003 (f_4007 (s.2 11) s) (f_4008 (s.2 11) s) (sV s 11 (s.2 11 + 1)) else some (f_3002 (f_4007 (s.2 11) s) (f_4008 (s.2 11) s) (sV s 11 (s.2 11 + 1)))
theorem L37_s {n : Nat} {a b c l : Int32} {s : Sx} (h1 : ¬ 1000000 ≤ l) (h2 : s.2 10 = -1) : f_3001_L37 (n + 1) a b c l s = bOv (stp1 s) (fun z => f_3001_L37 n a b c (l + 1) z) := by
  have h3 : ¬ f_7002 s = 0 := by unfold f_7002; rw [if_pos h2]; decide
  rw [f_3001_L37, if_neg h1, if_neg h3, bS_eq]
  unfold stp1
  by_cases q : 11 ≤ f_4007 (s.2 11) s
  · rw [if_pos q, if_pos q]
  · rw [if_neg q, if_neg q, bS_eq]
    rfl
theorem L37_e {n : Nat} {a b c l : Int32} {s : Sx} (h : 1000000 ≤ l ∨ s.2 10 ≠ -1) : f_3001_L37 (n + 1) a b c l s = some s := by
  rw [f_3001_L37]
  by_cases h1 : 1000000 ≤ l
  · rw [if_pos h1]
  · rw [if_neg h1, if_pos (by unfold f_7002; rw [if_neg (h.resolve_left h1)])]
theorem stp1_f {s : Sx} (h : s.2 10 = -1) : FNo stp1 s ∨ FOne stp1 s := by
  have e : ∀ f, stp1 (fu s f) = if 11 ≤ f_4007 (s.2 11) s then f_3003 (f_4007 (s.2 11) s) (f_4008 (s.2 11) s) (fu (sV s 11 (s.2 11 + 1)) f) else some (f_3002 (f_4007 (s.2 11) s) (f_4008 (s.2 11) s) (fu (sV s 11 (s.2 11 + 1)) f)) := fun f => by
    unfold stp1
    rw [fu_2 (w := 11) (by decide), fu_V (by decide)]
    rfl
  have hs : (sV s 11 (s.2 11 + 1)).2 10 = -1 := h
  by_cases c : 11 ≤ f_4007 (s.2 11) s
  · rcases st_3003 (c := f_4007 (s.2 11) s) (x := f_4008 (s.2 11) s) hs with ⟨H, g1, g2⟩ | ⟨H, g1, g2, Z, g3, g4⟩
    · exact Or.inl ⟨H, fun f hf => by rw [e, if_pos c]; exact g1 f hf, g2⟩
    · exact Or.inr ⟨H, fun f hf => by rw [e, if_pos c]; exact g1 f hf, g2, Z, by rw [e, if_pos c]; exact g3, g4⟩
  · rcases st_3002 (c := f_4007 (s.2 11) s) (x := f_4008 (s.2 11) s) hs with ⟨H, g1, g2⟩ | ⟨H, g1, g2, Z, g3, g4⟩
    · exact Or.inl ⟨H, fun f hf => by rw [e, if_neg c]; exact g1 f hf, g2⟩
    · exact Or.inr ⟨H, fun f hf => by rw [e, if_neg c]; exact g1 f hf, g2, Z, by rw [e, if_neg c]; exact g3, g4⟩
/-- two runs side by side, d of the fuel apart -/
theorem fu_sim (x y a a' : Int32) : ∀ (n : Nat) (l : Int32) (s : Sx) (f d : Nat) (r : Sx), f + d < 6000 → f_3001_L37 n a x y l (fu s (f + d)) = some r →
    (∃ r0 f', r = fu r0 (f' + d) ∧ f' ≤ f ∧ f_3001_L37 n a' x y l (fu s f) = some (fu r0 f') ∧ s.1 18 <+: r0.1 18) ∨
    (∃ r0 g, r = fu r0 g ∧ g < d ∧ s.1 18 <+: r0.1 18 ∧ ∃ Z, f_3001_L37 n a' x y l (fu s f) = some Z ∧ Z.2 10 = 1 ∧ Z.2 6 = 0 ∧ Z.1 18 <+: r0.1 18) := by
  intro n
  induction n with
  | zero => intro l s f d r hd h; cases h
  | succ n ih =>
    intro l s f d r hd h
    by_cases hl : 1000000 ≤ l ∨ s.2 10 ≠ -1
    · rw [L37_e (s := fu s (f + d)) (by rw [fu_2 (by decide)]; exact hl)] at h
      cases h
      exact Or.inl ⟨s, f, rfl, Nat.le_refl _, L37_e (s := fu s f) (by rw [fu_2 (by decide)]; exact hl), pf_r⟩
    · have h1 : ¬ 1000000 ≤ l := fun q => hl (Or.inl q)
      have h2 : s.2 10 = -1 := by
        by_cases q : s.2 10 = -1
        · exact q
        · exact absurd (Or.inr q) hl
      have h3 : ∀ g, (fu s g).2 10 = -1 := fun g => (fu_2 (by decide)).trans h2
      rw [L37_s h1 (h3 _)] at h
      rw [L37_s h1 (h3 _)]
      rcases stp1_f h2 with ⟨H, g1, g2⟩ | ⟨H, g1, g2, Z, g3, g4, g5, g6⟩
      · rw [g1 _ hd] at h
        rw [g1 f (by omega)]
        cases H with
        | none => cases h
        | some q =>
          have p0 := g2 q rfl
          rcases ih (l + 1) q f d r hd h with ⟨r0, f', e1, e2, e3, e4⟩ | ⟨r0, g, e1, e2, e3, Z, e4, e5, e6, e7⟩
          · exact Or.inl ⟨r0, f', e1, e2, e3, p0.trans e4⟩
          · exact Or.inr ⟨r0, g, e1, e2, p0.trans e3, Z, e4, e5, e6, e7⟩
      · have zend : ∀ b : Int32, n ≠ 0 → f_3001_L37 n b x y (l + 1) Z = some Z := fun b hn => by
          obtain ⟨n, rfl⟩ : ∃ k, n = k + 1 := ⟨n - 1, by omega⟩
          exact L37_e (Or.inr (by rw [g4]; decide))
        have hn0 : n ≠ 0 := by
          intro e
          subst e
          cases hq : stp1 (fu s (f + d)) with
          | none => rw [hq] at h; cases h
          | some q => rw [hq] at h; cases h
        cases hfd : f + d with
        | zero =>
          have ef : f = 0 := by omega
          have ed : d = 0 := by omega
          subst ef
          subst ed
          rw [show (0 : Nat) + 0 = 0 from rfl, g3, bOv_some, zend a hn0] at h
          cases h
          refine Or.inl ⟨Z, 0, (fu_id (f := 0) g5).symm, Nat.le_refl _, ?_, pf_e g6.symm⟩
          rw [g3, bOv_some, zend a' hn0, fu_id (f := 0) g5]
        | succ k =>
          rw [hfd, g1 k (by omega)] at h
          cases H with
          | none => cases h
          | some q =>
            have p0 := g2 q rfl
            cases f with
            | succ f0 =>
              rw [g1 f0 (by omega)]
              have hk : k = f0 + d := by omega
              rw [hk] at h
              rcases ih (l + 1) q f0 d r (by omega) h with ⟨r0, f', e1, e2, e3, e4⟩ | ⟨r0, g, e1, e2, e3, Z, e4, e5, e6, e7⟩
              · exact Or.inl ⟨r0, f', e1, by omega, e3, p0.trans e4⟩
              · exact Or.inr ⟨r0, g, e1, e2, p0.trans e3, Z, e4, e5, e6, e7⟩
            | zero =>
              rw [g3, bOv_some, zend a' hn0]
              rcases ih (l + 1) q k 0 r (by omega) h with ⟨r0, f', e1, e2, e3, e4⟩ | ⟨r0, g, e1, e2, e3, _⟩
              · exact Or.inr ⟨r0, f', e1, by omega, p0.trans e4, Z, rfl, g4, g5, by rw [g6]; exact p0.trans e4⟩
              · omega
/-- a run, one with just the fuel that it used, and one with 1 less -/
theorem fuel_run {F : Nat} {x y : Int32} {s r : Sx} (hF : F ≤ 5000) (h : f_3001 (nI F) x y s = some r) : ∃ L, L ≤ F ∧ r.2 6 = nI L ∧
    (∃ r1, f_3001 (nI (F - L)) x y s = some r1 ∧ r1.2 10 = r.2 10 ∧ r1.2 6 = 0 ∧ r1.1 18 = r.1 18 ∧ r1.1 19 = r.1 19) ∧
    (L < F → ∃ r2, f_3001 (nI (F - L - 1)) x y s = some r2 ∧ r2.2 10 = 1 ∧ r2.2 6 = 0 ∧ r2.1 18 <+: r.1 18) := by
  obtain ⟨s0, hs0⟩ : ∃ s0 : Sx, ∀ G : Nat, f_3001 (nI G) x y s = f_3001_L37 1000100 (nI G) x y 0 (fu s0 G) := by
    refine ⟨sV (sB (f_7001 0 x y s) 22 []) 11 0, fun G => ?_⟩
    unfold f_3001
    rw [bS_eq, bS_eq, bS_eq]
    congr 1
    refine Prod.ext rfl (funext fun j => ?_)
    show (if j = 11 then 0 else if j = 10 then -1 else if j = 9 then 0 else if j = 8 then y else if j = 7 then x else if j = 6 then nI G else s.2 j) = if j = 6 then nI G else if j = 11 then 0 else if j = 10 then -1 else if j = 9 then 0 else if j = 8 then y else if j = 7 then x else if j = 6 then 0 else s.2 j
    by_cases e : j = 6
    · subst e; rfl
    · rw [if_neg e, if_neg e, if_neg e]
  rw [hs0] at h
  obtain ⟨r0, L, e1, e2, e3, e4⟩ : ∃ r0 L, r = fu r0 L ∧ L ≤ F ∧ True ∧ True := by
    rcases fu_sim x y (nI F) (nI F) 1000100 0 s0 F 0 r (by omega) h with ⟨r0, f', e1, e2, e3, e4⟩ | ⟨r0, g, e1, e2, _⟩
    · exact ⟨r0, f', e1, e2, trivial, trivial⟩
    · omega
  have hr6 : r.2 6 = nI L := by rw [e1]; rfl
  have inj : ∀ g, r.2 6 = nI g → g < 6000 → g = L := fun g hg hl => by
    rw [hr6] at hg
    exact ((nI_eq (by omega) (by omega)).1 hg).symm
  refine ⟨L, e2, hr6, ?_, fun hL => ?_⟩
  · have h' := h
    rw [show F = (F - L) + L by omega] at h'
    rcases fu_sim x y _ (nI (F - L)) 1000100 0 s0 (F - L) L r (by omega) h' with ⟨q0, f', k1, k2, k3, k4⟩ | ⟨q0, g, k1, k2, _⟩
    · have : f' + L = L := inj _ (by rw [k1]; rfl) (by omega)
      have hf0 : f' = 0 := by omega
      subst hf0
      refine ⟨fu q0 0, (hs0 _).trans k3, ?_, rfl, ?_, ?_⟩
      · rw [k1, fu_2 (by decide), fu_2 (by decide)]
      · rw [k1]; rfl
      · rw [k1]; rfl
    · have : g = L := inj _ (by rw [k1]; rfl) (by omega)
      omega
  · have h' := h
    rw [show F = (F - L - 1) + (L + 1) by omega] at h'
    rcases fu_sim x y _ (nI (F - L - 1)) 1000100 0 s0 (F - L - 1) (L + 1) r (by omega) h' with ⟨q0, f', k1, k2, k3, k4⟩ | ⟨q0, g, k1, k2, k3, Z, k4, k5, k6, k7⟩
    · have : f' + (L + 1) = L := inj _ (by rw [k1]; rfl) (by omega)
      omega
    · exact ⟨Z, (hs0 _).trans k4, k5, k6, by rw [k1]; exact k7⟩
end FUE
