/-! the law: what it writes, and the tokens of that -/
section WRI
/-- the names that may be known, behind f and x -/
theorem bs_d {l : List KV} (h : ∃ v, l = [(3, v)]) : ∀ R, RH R → OpT (l ++ R) R := by
  obtain ⟨v, rfl⟩ := h
  exact fun R _ => Or.inl (Or.inl ⟨v, rfl⟩)
theorem bs_p {l : List KV} {k : Int32} (hk : k = 13 ∨ k = 25 ∨ k = 26) (h : ∃ v, l = [(3, v)]) : ∀ R, RH R → OpT (([(k, 0)] ++ l) ++ R) R := by
  obtain ⟨v, rfl⟩ := h
  exact fun R _ => Or.inr ⟨k, 0, _, hk, rfl, Or.inl ⟨v, rfl⟩⟩
theorem od_1 {i : Nat} (hi : i < 10) : OPd [dgt i] := ⟨(pc_d1 hi).im (fun _ h => h.1) (fun _ h => bs_d h), fun r => dgt61 hi⟩
theorem od_2 {i j : Nat} (hi : i < 10) (hj : j < 10) : OPd [dgt i, dgt j] := ⟨(pc_d2 hi hj).im (fun _ h => h.1) (fun _ h => bs_d h), fun r => dgt61 hi⟩
theorem pre_f {c : Int32} (h : c = 45 ∨ c = 35 ∨ c = 33) : ((¬ isD c ∧ ¬ isL c ∧ ¬ isB c) ∧ lx_1 c ≠ 4) ∧ (lx_1 c = 13 ∨ lx_1 c = 25 ∨ lx_1 c = 26) ∧ c ≠ 61 ∧ (c ≠ 38 ∧ c ≠ 124) := by
  rcases h with h | h | h <;> subst h <;> decide
theorem od_p1 {c : Int32} {i : Nat} (h : c = 45 ∨ c = 35 ∨ c = 33) (hi : i < 10) : OPd ([c] ++ [dgt i]) := by
  obtain ⟨p1, p2, p3, p4⟩ := pre_f h
  exact ⟨((pc_m1 (F := fun r => tg r 0 ≠ 61) p1 (fun r hr => lx_2_q p4 hr)).app (pc_d1 hi) (fun r _ => dgt61 hi) (fun a b ha hb => by subst ha; exact bs_p p2 hb)).im (fun _ h => h.1) (fun _ h => h), fun r => p3⟩
theorem od_p2 {c : Int32} {i j : Nat} (h : c = 45 ∨ c = 35 ∨ c = 33) (hi : i < 10) (hj : j < 10) : OPd ([c] ++ [dgt i, dgt j]) := by
  obtain ⟨p1, p2, p3, p4⟩ := pre_f h
  exact ⟨((pc_m1 (F := fun r => tg r 0 ≠ 61) p1 (fun r hr => lx_2_q p4 hr)).app (pc_d2 hi hj) (fun r _ => dgt61 hi) (fun a b ha hb => by subst ha; exact bs_p p2 hb)).im (fun _ h => h.1) (fun _ h => h), fun r => p3⟩
theorem od_in : OPd [105, 110] := ⟨(pc_kw (c := 105) (w := [110]) (by decide) (by decide)).im (fun _ h => h.2) (fun l h R _ => by subst h; exact Or.inl (Or.inr (Or.inl ⟨0, rfl⟩))), fun r => by show (105 : Int32) ≠ 61; decide⟩
theorem od_v {c : Int32} (hc : c ∈ ([97, 98, 99, 100] : List Int32)) : OPd [c] := by
  have hl : isL c ∧ c ≠ 61 := by revert c; decide
  refine ⟨(pc_v hc hl.1).im (fun _ h => h.2) (fun l h R hR => ?_), fun r => hl.2⟩
  obtain ⟨k, hk, rfl⟩ := h
  obtain ⟨k2, v2, r2, e, h2⟩ := hR
  exact Or.inl (Or.inr (Or.inr ⟨k, k2, v2, r2, hk, e, h2, rfl⟩))
/-- a mark -/
def MKd (w : List Int32) : Prop := Pc w (fun r => tg r 0 ≠ 61) (fun l => ∃ mk, l = [(mk, 0)] ∧ mkK mk) ∧ ∀ r, Hd (w ++ r)
def Mk1 : List Int32 := [43, 45, 42, 47, 37, 60, 62]
def Mk2 : List (Int32 × Int32) := [(60, 61), (62, 61), (61, 61), (33, 61), (38, 38), (124, 124)]
def MKL : List Int32 := (List.range 13).map (fun j => nI (j + 12))
theorem MKL_k {c : Int32} (h : c ∈ MKL) : mkK c := by
  obtain ⟨j, h1, rfl⟩ := List.mem_map.1 h
  have := List.mem_range.1 h1
  exact ⟨j + 12, by omega, by omega, rfl⟩
theorem mk1_f : ∀ c, c ∈ Mk1 → ((¬ isD c ∧ ¬ isL c ∧ ¬ isB c) ∧ lx_1 c ≠ 4) ∧ lx_1 c ∈ MKL ∧ (c ≠ 38 ∧ c ≠ 124) := by decide +kernel
theorem mk2_f : ∀ c, c ∈ Mk2 → (¬ isD c.1 ∧ ¬ isL c.1 ∧ ¬ isB c.1) ∧ lx_2 c.1 c.2 ≠ 1 ∧ lx_2 c.1 c.2 ≠ 4 ∧ lx_2 c.1 c.2 ∈ MKL := by decide +kernel
theorem mk_1 {c : Int32} (h : c ∈ Mk1) : MKd [c] := by
  obtain ⟨p1, p2, p3⟩ := mk1_f c h
  exact ⟨(pc_m1 p1 (fun r hr => lx_2_q p3 hr)).im (fun _ h => h) (fun l hl => ⟨_, hl, MKL_k p2⟩), fun r => ⟨p1.1.1, p1.1.2.1⟩⟩
theorem mk_2 {c d : Int32} (h : (c, d) ∈ Mk2) : MKd [c, d] := by
  obtain ⟨p1, p2, p3, p4⟩ := mk2_f (c, d) h
  exact ⟨(pc_m2 p1 p2 p3).im (fun _ _ => trivial) (fun l hl => ⟨_, hl, MKL_k p4⟩), fun r => ⟨p1.1, p1.2.1⟩⟩
theorem mkK_28 {k : Int32} (h : mkK k) : k ≠ 28 := by
  obtain ⟨j, h1, h2, rfl⟩ := h
  intro e
  have := (mkK_f j h2 h1)
  have e2 : nI j = nI 28 := e
  have := congrArg Int32.toInt e2
  rw [nI_T (by omega), nI_T (by omega)] at this
  omega
theorem VlT.snoc {mk v : Int32} {r1 r : List KV} (hm : mkK mk) (ho : OpT r1 r) : ∀ (n : Nat) (l : List KV), VlT n l ((mk, v) :: r1) → VlT (n + 1) l r
  | 0, l, h => ⟨mk, v, r1, h, hm, ho⟩
  | n + 1, l, h => by
    obtain ⟨mk', v', r2, g1, g2, g3⟩ := h
    exact ⟨mk', v', r2, g1, g2, VlT.snoc hm ho n r2 g3⟩
/-- a value -/
def VAd (w : List Int32) : Prop := Pc w Hd (fun l => ∃ n, ∀ R, RH R → VlT n (l ++ R) R) ∧ H1 w
theorem va_0 {w : List Int32} (h : OPd w) : VAd w := ⟨h.1.im (fun _ h => h) (fun l h => ⟨0, h⟩), h.2⟩
theorem H1.app {w v : List Int32} (h : H1 w) : H1 (w ++ v) := fun r => by rw [List.append_assoc]; exact h _
theorem va_s {w u v : List Int32} (h : VAd w) (hu : MKd u) (hv : OPd v) : VAd (w ++ (u ++ v)) := by
  refine ⟨h.1.app (hu.1.app hv.1 (C := fun l => ∃ mk o, l = (mk, 0) :: o ∧ mkK mk ∧ ∀ R, RH R → OpT (o ++ R) R) (fun r _ => hv.2 r) (fun a b ha hb => by
    obtain ⟨mk, rfl, hm⟩ := ha
    exact ⟨mk, b, rfl, hm, hb⟩)) (fun r _ => by rw [List.append_assoc]; exact hu.2 _) (fun a b ha hb => ?_), h.2.app⟩
  obtain ⟨n, ha⟩ := ha
  obtain ⟨mk, o, rfl, hm, ho⟩ := hb
  refine ⟨n + 1, fun R hR => ?_⟩
  have := ha ((mk, 0) :: (o ++ R)) ⟨_, _, _, rfl, mkK_28 hm⟩
  rw [List.append_assoc]
  exact VlT.snoc hm (ho R hR) n _ this
end WRI
