/-! the law: what it writes, and the tokens of that -/
section WRI
/-- the names that may be known, behind f and x -/
theorem st_blk {c : Int32} {u : List Int32} (hw : ∀ x, x ∈ c :: u → isL x) (hk : lx_kw (c :: u) = 5 ∨ lx_kw (c :: u) = 7) {w v : List Int32} (h : VAd w) (hv : VAd v) : STd ((c :: u) ++ ([32] ++ (w ++ ([123] ++ (([98] ++ ([61] ++ (v ++ [59]))) ++ [125]))))) 2 := by
  have h4 : lx_kw (c :: u) ≠ 4 := by rcases hk with e | e <;> rw [e] <;> decide
  have inner := (as_p (c := 98) (by decide) hv).app pc_125 (C := fun l => ∀ R, Sm1 (l ++ R) ((31, 0) :: R)) (fun r _ => trivial) (fun a b ha hb R => by
    subst hb
    rw [List.append_assoc]
    exact ha.2 ((31, 0) :: R))
  refine (pc_kw hw h4).app (pc_b.app (h.1.app (pc_123.app inner (C := fun l => ∃ o, l = (30, 0) :: o ∧ ∀ R, Sm1 (o ++ R) ((31, 0) :: R)) (fun r _ => trivial) (fun a b ha hb => by subst ha; exact ⟨b, rfl, hb⟩)) (C := fun l => ∃ n, ∀ R, ∃ r2, VlT n (l ++ R) ((30, 0) :: r2) ∧ Sm1 r2 ((31, 0) :: R)) (fun r _ => hd_123) (fun a b ha hb => by
    obtain ⟨n, ha⟩ := ha
    obtain ⟨o, rfl, ho⟩ := hb
    exact ⟨n, fun R => ⟨o ++ R, by rw [List.append_assoc]; exact ha ((30, 0) :: (o ++ R)) (rh_n (by decide)), ho R⟩⟩)) (C := fun l => ∃ n, ∀ R, ∃ r2, VlT n (l ++ R) ((30, 0) :: r2) ∧ Sm1 r2 ((31, 0) :: R)) (fun r _ => trivial) (fun a b ha hb => by subst ha; exact hb)) (fun r _ => by show ¬ isL 32; decide) (fun a b ha hb => ?_)
  subst ha
  obtain ⟨n, hb⟩ := hb
  refine ⟨⟨_, 0, b, rfl, by rcases hk with e | e <;> rw [e] <;> decide⟩, fun R => ?_⟩
  obtain ⟨r2, g1, g2⟩ := hb R
  exact Or.inr ⟨rfl, _, 0, b ++ R, n, 0, r2, 0, hk, rfl, g1, g2⟩
/-- a text of n parts that can stand -/
def PrW (tx : List Int32) (n : Nat) : Prop := ∃ q ts n0 ds, q ∈ QL ∧ n = n0 + 1 + smT ds ∧ (∀ r, LZ (tx ++ r) 0 [] ts r tx.length (wq q)) ∧ ∀ R, PrgT n0 ds (kvt ts ++ R) R
theorem PrW.app {tx w : List Int32} {n k : Nat} (h : PrW tx n) (hw : STd w k) : PrW (tx ++ w) (n + k) := by
  obtain ⟨q, ts, n0, ds, a1, a2, a3, a4⟩ := h
  obtain ⟨q', t', b1, b2, b3⟩ := hw q a1 tx.length
  refine ⟨q', ts ++ t', n0, ds ++ [(k, kvt t')], b1, ?_, fun r => ?_, fun R => ?_⟩
  · unfold smT at a2 ⊢
    rw [List.map_append, List.sum_append, a2]
    show _ = n0 + 1 + (_ + (k + 0))
    omega
  · rw [List.append_assoc, List.length_append]
    exact (a3 _).tr (b3 r trivial)
  · obtain ⟨v0, v2, v4, v5, v6, rest, e1, e2, e3⟩ := a4 (kvt t' ++ R)
    refine ⟨v0, v2, v4, v5, v6, rest, ?_, ?_, fun d hd => ?_⟩
    · rw [kvt_app, List.append_assoc]
      exact e1
    · have : flT (ds ++ [(k, kvt t')]) ++ R = flT ds ++ (kvt t' ++ R) := by
        unfold flT
        rw [List.flatMap_append, List.append_assoc]
        show _ ++ ((kvt t' ++ []) ++ R) = _
        rw [List.append_nil]
      rw [this]
      exact e2
    · rcases List.mem_append.1 hd with z | z
      · exact e3 d z
      · rw [List.mem_singleton.1 z]
        exact b2
def hd1 : List Int32 := [100, 101, 102, 32, 102, 40, 120, 41, 123, 111, 117, 116, 32, 120, 59, 125]
def hd2 : List Int32 := [100, 101, 102, 32, 102, 40, 120, 41, 123, 105, 102, 32, 120, 123, 102, 40, 120, 45, 49, 41, 59, 125, 125]
theorem lz_m {c : Int32} {r : List Int32} {p : Nat} {ws : List (List Int32)} (hc : (¬ isD c ∧ ¬ isL c ∧ ¬ isB c) ∧ lx_1 c ≠ 4) (h : c ≠ 60 ∧ c ≠ 62 ∧ c ≠ 61 ∧ c ≠ 33 ∧ c ≠ 38 ∧ c ≠ 124) : LZ (c :: r) p ws [(lx_1 c, 0, p, p + 1)] r (p + 1) ws := LZ.m1 hc (lx_2_1 h)
/-- def f(x){ -/
theorem lz_def {r : List Int32} : LZ (100 :: 101 :: 102 :: 32 :: 102 :: 40 :: 120 :: 41 :: 123 :: r) 0 [] [(10, 0, 0, 3), (4, 0, 4, 5), (28, 0, 5, 6), (4, nI 1, 6, 7), (29, 0, 7, 8), (30, 0, 8, 9)] r 9 (wq []) :=
  (LZ.kw (c := 100) (w := [101, 102]) (r := 32 :: 102 :: 40 :: 120 :: 41 :: 123 :: r) (by decide) (by show ¬ isL 32; decide) (by decide)).tr <|
  (LZ.b (c := 32) (Or.inl rfl)).tr <|
  (LZ.nm (c := 102) (ws := []) (by decide) (by show ¬ isL 40; decide)).tr <|
  (lz_m (c := 40) (by decide) (by decide)).tr <|
  (LZ.nm (c := 120) (ws := [[102]]) (by decide) (by show ¬ isL 41; decide)).tr <|
  (lz_m (c := 41) (by decide) (by decide)).tr <| lz_m (c := 123) (by decide) (by decide)
theorem lz_x {r : List Int32} {p : Nat} (h : ¬ isL (tg r 0)) : LZ (120 :: r) p (wq []) [(4, nI 1, p, p + 1)] r (p + 1) (wq []) := LZ.nm (c := 120) (ws := [[102], [120]]) (by decide) h
theorem lz_f {r : List Int32} {p : Nat} (h : ¬ isL (tg r 0)) : LZ (102 :: r) p (wq []) [(4, 0, p, p + 1)] r (p + 1) (wq []) := LZ.nm (c := 102) (ws := [[102], [120]]) (by decide) h
end WRI
