/-! the law: what it writes, and the tokens of that -/
section WRI
/-- the names that may be known, behind f and x -/
def qnx (q : List Int32) : List (List Int32) := (([97, 98, 99, 100] : List Int32).filter (fun c => !q.contains c)).map (fun c => q ++ [c])
def QL1 : List (List Int32) := qnx []
def QL2 : List (List Int32) := QL1.flatMap qnx
def QL3 : List (List Int32) := QL2.flatMap qnx
def QL4 : List (List Int32) := QL3.flatMap qnx
def QL : List (List Int32) := [] :: (QL1 ++ (QL2 ++ (QL3 ++ QL4)))
def wq (q : List Int32) : List (List Int32) := [102] :: [120] :: q.map (fun c => [c])
theorem wq_nx : ∀ q, q ∈ QL → ∀ c, c ∈ ([97, 98, 99, 100] : List Int32) → wi [c] (wq q) < 6 ∧ (if wi [c] (wq q) < (wq q).length then q else q ++ [c]) ∈ QL := by decide +kernel
theorem wq_if {q : List Int32} {c : Int32} : (if wi [c] (wq q) < (wq q).length then wq q else wq q ++ [[c]]) = wq (if wi [c] (wq q) < (wq q).length then q else q ++ [c]) := by
  split
  · rfl
  · unfold wq
    rw [List.map_append]
    rfl
theorem wi_f {q : List Int32} : wi [102] (wq q) = 0 := rfl
theorem wi_x {q : List Int32} : wi [120] (wq q) = 1 := by
  unfold wq wi
  rw [if_neg (by decide)]
  rfl
def kvt (ts : List Tk) : List KV := ts.map (fun t => (t.1, t.2.1))
theorem kvt_app {a b : List Tk} : kvt (a ++ b) = kvt a ++ kvt b := List.map_append
/-- a piece of text, and its tokens, if what follows keeps F -/
def Pc (w : List Int32) (F : List Int32 → Prop) (tp : List KV → Prop) : Prop := ∀ q, q ∈ QL → ∀ p, ∃ q' ts, q' ∈ QL ∧ tp (kvt ts) ∧ ∀ r, F r → LZ (w ++ r) p (wq q) ts r (p + w.length) (wq q')
theorem Pc.app {w v : List Int32} {F G : List Int32 → Prop} {A B C : List KV → Prop} (h : Pc w F A) (h' : Pc v G B) (hf : ∀ r, G r → F (v ++ r)) (hc : ∀ a b, A a → B b → C (a ++ b)) : Pc (w ++ v) G C := by
  intro q hq p
  obtain ⟨q1, t1, a1, a2, a3⟩ := h q hq p
  obtain ⟨q2, t2, b1, b2, b3⟩ := h' q1 a1 (p + w.length)
  refine ⟨q2, t1 ++ t2, b1, ?_, fun r hr => ?_⟩
  · rw [kvt_app]
    exact hc _ _ a2 b2
  · rw [List.append_assoc, List.length_append, ← Nat.add_assoc]
    exact (a3 _ (hf r hr)).tr (b3 r hr)
theorem Pc.im {w : List Int32} {F G : List Int32 → Prop} {A B : List KV → Prop} (h : Pc w F A) (hf : ∀ r, G r → F r) (hc : ∀ a, A a → B a) : Pc w G B := by
  intro q hq p
  obtain ⟨q1, t1, a1, a2, a3⟩ := h q hq p
  exact ⟨q1, t1, a1, hc _ a2, fun r hr => a3 r (hf r hr)⟩
theorem pc_m1 {c : Int32} {F : List Int32 → Prop} (hc : (¬ isD c ∧ ¬ isL c ∧ ¬ isB c) ∧ lx_1 c ≠ 4) (hF : ∀ r, F r → lx_2 c (tg r 0) = 1) : Pc [c] F (fun l => l = [(lx_1 c, 0)]) :=
  fun q hq p => ⟨q, [(lx_1 c, 0, p, p + 1)], hq, rfl, fun r hr => LZ.m1 hc (hF r hr)⟩
theorem pc_m2 {c d : Int32} (hc : ¬ isD c ∧ ¬ isL c ∧ ¬ isB c) (h : lx_2 c d ≠ 1) (h4 : lx_2 c d ≠ 4) : Pc [c, d] (fun _ => True) (fun l => l = [(lx_2 c d, 0)]) :=
  fun q hq p => ⟨q, [(lx_2 c d, 0, p, p + 2)], hq, rfl, fun r hr => LZ.m2 hc h h4⟩
theorem pc_b : Pc [32] (fun _ => True) (fun l => l = []) :=
  fun q hq p => ⟨q, [], hq, rfl, fun r hr => LZ.b (Or.inl rfl)⟩
theorem pc_kw {c : Int32} {w : List Int32} (hw : ∀ x, x ∈ c :: w → isL x) (h4 : lx_kw (c :: w) ≠ 4) : Pc (c :: w) (fun r => ¬ isL (tg r 0)) (fun l => l = [(lx_kw (c :: w), 0)]) :=
  fun q hq p => ⟨q, [(lx_kw (c :: w), 0, p, p + (c :: w).length)], hq, rfl, fun r hr => LZ.kw hw hr h4⟩
theorem pc_f : Pc [102] (fun r => ¬ isL (tg r 0)) (fun l => l = [(4, 0)]) := fun q hq p => by
  refine ⟨q, [(4, 0, p, p + 1)], hq, rfl, fun r hr => ?_⟩
  have := LZ.nm (c := 102) (r := r) (p := p) (ws := wq q) (by decide) hr
  rw [wi_f, if_pos (show 0 < (wq q).length from Nat.succ_pos _)] at this
  exact this
theorem pc_v {c : Int32} (hc : c ∈ ([97, 98, 99, 100] : List Int32)) (hl : isL c) : Pc [c] (fun r => ¬ isL (tg r 0)) (fun l => ∃ k, k < 6 ∧ l = [(4, nI k)]) := fun q hq p => by
  obtain ⟨g1, g2⟩ := wq_nx q hq c hc
  refine ⟨_, [(4, nI (wi [c] (wq q)), p, p + 1)], g2, ⟨_, g1, rfl⟩, fun r hr => ?_⟩
  rw [← wq_if]
  exact LZ.nm hl hr
theorem pc_d1 {i : Nat} (hi : i < 10) : Pc [dgt i] (fun r => ¬ isD (tg r 0)) (fun l => ∃ v, l = [(3, v)]) := fun q hq p =>
  ⟨q, [(3, (lx_st 0 (dgt i)).toInt32, p, p + 1)], hq, ⟨_, rfl⟩, fun r hr => LZ.t (dgt_D i hi).2.2.1 (lt_d1 hi hr) (by decide) (Nat.le_refl _) rfl⟩
theorem pc_d2 {i j : Nat} (hi : i < 10) (hj : j < 10) : Pc [dgt i, dgt j] (fun r => ¬ isD (tg r 0)) (fun l => ∃ v, l = [(3, v)]) := fun q hq p =>
  ⟨q, [(3, (lx_st (lx_st 0 (dgt i)) (dgt j)).toInt32, p, p + 2)], hq, ⟨_, rfl⟩, fun r hr => LZ.t (dgt_D i hi).2.2.1 (lt_d2 hi hj hr) (by decide) (by decide) rfl⟩
/-- what a value is followed by -/
def RH (R : List KV) : Prop := ∃ k v r, R = (k, v) :: r ∧ k ≠ 28
/-- an operand -/
def H1 (w : List Int32) : Prop := ∀ r, tg (w ++ r) 0 ≠ 61
def OPd (w : List Int32) : Prop := Pc w Hd (fun l => ∀ R, RH R → OpT (l ++ R) R) ∧ H1 w
theorem dgt61 {i : Nat} (hi : i < 10) {l : List Int32} : tg (dgt i :: l) 0 ≠ 61 := (dgt_D i hi).2.2.2
end WRI
