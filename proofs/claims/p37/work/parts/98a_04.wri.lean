/-! the law: what it writes, and the tokens of that -/
section WRI
/-- the names that may be known, behind f and x -/
theorem rh1 {R : List KV} {k v : Int32} (h : k ≠ 28) : OpT ((4, nI 1) :: (k, v) :: R) ((k, v) :: R) := Or.inl (Or.inr (Or.inr ⟨1, k, v, R, by decide, rfl, h, rfl⟩))
theorem PrW.hd1 : PrW hd1 2 := by
  refine ⟨[], [(10, 0, 0, 3), (4, 0, 4, 5), (28, 0, 5, 6), (4, nI 1, 6, 7), (29, 0, 7, 8), (30, 0, 8, 9)] ++ ([(8, 0, 9, 12)] ++ ([] ++ ([(4, nI 1, 13, 14)] ++ ([(33, 0, 14, 15)] ++ [(31, 0, 15, 16)])))), 1, [], List.mem_cons_self, rfl, fun r => ?_, fun R => ?_⟩
  · exact lz_def.tr <|
      (LZ.kw (c := 111) (w := [117, 116]) (r := 32 :: 120 :: 59 :: 125 :: r) (by decide) (by show ¬ isL 32; decide) (by decide)).tr <|
      (LZ.b (c := 32) (Or.inl rfl)).tr <| (lz_x (by show ¬ isL 59; decide)).tr <| (lz_m (c := 59) (by decide) (by decide)).tr <| lz_m (c := 125) (by decide) (by decide)
  · refine ⟨0, 0, 0, 0, 0, (8, 0) :: (4, nI 1) :: (33, 0) :: (31, 0) :: R, rfl, Or.inl ⟨rfl, Or.inr (Or.inl ⟨0, _, 0, 0, rfl, rh1 (by decide)⟩)⟩, fun d hd => absurd hd List.not_mem_nil⟩
theorem PrW.hd2 : PrW hd2 3 := by
  refine ⟨[], [(10, 0, 0, 3), (4, 0, 4, 5), (28, 0, 5, 6), (4, nI 1, 6, 7), (29, 0, 7, 8), (30, 0, 8, 9)] ++ ([(5, 0, 9, 11)] ++ ([] ++ ([(4, nI 1, 12, 13)] ++ ([(30, 0, 13, 14)] ++ ([(4, 0, 14, 15)] ++ ([(28, 0, 15, 16)] ++ ([(4, nI 1, 16, 17)] ++ ([(13, 0, 17, 18)] ++ ([(3, (lx_st 0 (dgt 1)).toInt32, 18, 19)] ++ ([(29, 0, 19, 20)] ++ ([(33, 0, 20, 21)] ++ ([(31, 0, 21, 22)] ++ [(31, 0, 22, 23)])))))))))))), 2, [], List.mem_cons_self, rfl, fun r => ?_, fun R => ?_⟩
  · exact lz_def.tr <|
      (LZ.kw (c := 105) (w := [102]) (r := 32 :: 120 :: 123 :: 102 :: 40 :: 120 :: 45 :: 49 :: 41 :: 59 :: 125 :: 125 :: r) (by decide) (by show ¬ isL 32; decide) (by decide)).tr <|
      (LZ.b (c := 32) (Or.inl rfl)).tr <| (lz_x (by show ¬ isL 123; decide)).tr <| (lz_m (c := 123) (by decide) (by decide)).tr <|
      (lz_f (by show ¬ isL 40; decide)).tr <| (lz_m (c := 40) (by decide) (by decide)).tr <| (lz_x (by show ¬ isL 45; decide)).tr <| (lz_m (c := 45) (by decide) (by decide)).tr <|
      (LZ.t (c := dgt 1) (dgt_D 1 (by decide)).2.2.1 (lt_d1 (i := 1) (by decide) (by show ¬ isD 41; decide)) (by decide) (Nat.le_refl _) rfl).tr <|
      (lz_m (c := 41) (by decide) (by decide)).tr <| (lz_m (c := 59) (by decide) (by decide)).tr <| (lz_m (c := 125) (by decide) (by decide)).tr <| lz_m (c := 125) (by decide) (by decide)
  · refine ⟨0, 0, 0, 0, 0, (5, 0) :: (4, nI 1) :: (30, 0) :: (4, 0) :: (28, 0) :: (4, nI 1) :: (13, 0) :: (3, (lx_st 0 (dgt 1)).toInt32) :: (29, 0) :: (33, 0) :: (31, 0) :: (31, 0) :: R, rfl, Or.inr ⟨rfl, 5, 0, _, 0, 0, _, 0, Or.inl rfl, rfl, rh1 (by decide), ?_⟩, fun d hd => absurd hd List.not_mem_nil⟩
    exact Or.inr (Or.inr (Or.inr ⟨0, _, 1, 0, 0, rfl, 13, 0, _, rh1 (by decide), ⟨13, by decide, by decide, rfl⟩, Or.inl (Or.inl ⟨_, rfl⟩)⟩))
/-- such a text is read without a fault -/
theorem PrW.ok {tx : List Int32} {n : Nat} {s s1 : Sx} (h : PrW tx n) (hn : tx.length ≤ 300) (ht : tkR s (tks tx)) (hs : f_5001 s = some s1) : s1.2 0 = 0 ∧ (s1.1 5).length = n := by
  obtain ⟨q, ts, n0, ds, a1, a2, a3, a4⟩ := h
  have e := a3 []
  rw [List.append_nil] at e
  have et := tks_of e
  have := rd_ok hn ht hs (n := n0) (ds := ds) (by
    have := a4 [(0, 0)]
    unfold kvs
    rw [et, List.map_append]
    exact this)
  exact ⟨this.1, this.2.trans a2.symm⟩
/-- a sign behind it that cannot stand -/
theorem PrW.bad {tx rest : List Int32} {n : Nat} {s s1 : Sx} {c k v : Int32} (h : PrW tx n) (hk : badK k) (hc : ∀ q p, ∃ q', LZ (c :: rest) p (wq q) [(k, v, p, p + 1)] rest (p + 1) q') (hn : (tx ++ c :: rest).length ≤ 300) (ht : tkR s (tks (tx ++ c :: rest))) (hs : f_5001 s = some s1) :
    s1.2 0 = (if k = 1 then 1 else 3) ∧ ∃ i, s1.2 1 = nI i ∧ i < (tks (tx ++ c :: rest)).length ∧ tpl (tks (tx ++ c :: rest)) i = tx.length := by
  obtain ⟨q, ts, n0, ds, a1, a2, a3, a4⟩ := h
  obtain ⟨q', e'⟩ := hc q tx.length
  obtain ⟨us, et⟩ := tks_pre ((a3 (c :: rest)).tr e')
  have e2 : kvs (tx ++ c :: rest) = kvt ts ++ (k, v) :: kvt us := by
    unfold kvs
    rw [et, List.map_append, List.map_append, List.append_assoc]
    rfl
  have hP := a4 ((k, v) :: kvt us)
  rw [← e2] at hP
  obtain ⟨g1, g2⟩ := rd_bad (k2 := 0) (v2 := 0) hn ht hs hP hk
  refine ⟨g1, ts.length, ?_, ?_, ?_⟩
  · rw [g2, et]
    congr 1
    unfold kvt
    rw [List.length_map, List.length_append, List.length_append]
    show ts.length + 1 + us.length - (us.length + 1) = ts.length
    omega
  · rw [et, List.length_append, List.length_append]
    show ts.length < ts.length + 1 + us.length
    omega
  · rw [et, tpl, List.getD_eq_getElem?_getD, List.append_assoc, List.getElem?_append_right (Nat.le_refl _), Nat.sub_self]
    rfl
end WRI
