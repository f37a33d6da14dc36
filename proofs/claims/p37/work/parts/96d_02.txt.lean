/-! how a drawn program is read: its head, all of it -/
section TXTD
variable {s s' : Sx} {a e L np : Nat} {op bl : List Ae} {rest r : List KV} {st : Int32} {tx : List Int32}
/-- statements in a row -/
def StT (n : Nat) (ts : List KV) : Prop := (∃ k v q, ts = (k, v) :: q ∧ k ≠ 6) ∧ ∀ r, Bd n (ts ++ r) r
def flT (ds : List (Nat × List KV)) : List KV := ds.flatMap (fun d => d.2)
def smT (ds : List (Nat × List KV)) : Nat := (ds.map (fun d => d.1)).sum
theorem sts_go {k2 v2 : Int32} {r' : List KV} (hr : r = (k2, v2) :: r') (hk2 : k2 ≠ 6) : ∀ (ds : List (Nat × List KV)) (s : Sx) (a np : Nat), Q1 s a e 0 (flT ds ++ r) → SB s a np → 3 * np ≤ a → (∀ d, d ∈ ds → StT d.1 d.2) → ∃ s' a', GoA (s, 0, [], []) (s', 0, [], []) ∧ Q1 s' a' e 0 r ∧ SB s' a' (np + smT ds) ∧ 3 * (np + smT ds) ≤ a' ∧ s'.2 5 = s.2 5 := by
  intro ds
  induction ds with
  | nil =>
    intro s a np h hC hnp _
    exact ⟨s, a, GoA.rr _, h, hC, hnp, rfl⟩
  | cons d ds ih =>
    intro s a np h hC hnp hd
    obtain ⟨n, ts⟩ := d
    have hst := hd (n, ts) List.mem_cons_self
    have e1 : flT ((n, ts) :: ds) ++ r = ts ++ (flT ds ++ r) := by
      unfold flT
      rw [List.flatMap_cons, List.append_assoc]
    have e2 : smT ((n, ts) :: ds) = n + smT ds := by
      unfold smT
      rw [List.map_cons, List.sum_cons]
    have hh : ∃ k v q, flT ds ++ r = (k, v) :: q ∧ k ≠ 6 := by
      cases ds with
      | nil => exact ⟨k2, v2, r', hr, hk2⟩
      | cons d2 ds =>
        obtain ⟨⟨k, v, q, g1, g2⟩, _⟩ := hd d2 (List.mem_cons_of_mem _ List.mem_cons_self)
        refine ⟨k, v, q ++ (flT ds ++ r), ?_, g2⟩
        unfold flT
        rw [List.flatMap_cons, g1, List.append_assoc]
        rfl
    obtain ⟨k, v, q, hq, hk⟩ := hh
    rw [e1] at h
    rw [e2]
    have a300 : a ≤ 300 := by have := h.1.2.2.2.1; have := h.1.2.2.2.2.1; omega
    have one : ∃ s1 a1, GoA (s, 0, [], []) (s1, 0, [], []) ∧ Q1 s1 a1 e 0 (flT ds ++ r) ∧ SB s1 a1 (np + n) ∧ 3 * (np + n) ≤ a1 ∧ s1.2 5 = s.2 5 := by
      rcases hst.2 (flT ds ++ r) with ⟨z, hS⟩ | ⟨z, hS⟩
      · have z' : n = 1 := z
        subst z'
        obtain ⟨s1, a1, g1, g2, g3, g4, g5, g6⟩ := sm1_go (bl := []) h hS hC (by omega) (by decide)
        exact ⟨s1, a1, g1, g2, g3, by omega, g6⟩
      · have z' : n = 2 := z
        subst z'
        obtain ⟨s1, a1, g1, g2, g3, g4, g5, g6⟩ := sm2_go (bl := []) h hS hq hk hC hnp (by decide)
        exact ⟨s1, a1, g1, g2, g3, by omega, g6⟩
    obtain ⟨s1, a1, g1, g2, g3, g4, g5⟩ := one
    obtain ⟨s2, a2, k1, k2', k3, k4, k5⟩ := ih s1 a1 (np + n) g2 g3 g4 (fun d' hd' => hd d' (List.mem_cons_of_mem _ hd'))
    exact ⟨s2, a2, g1.tr k1, k2', by rw [show np + (n + smT ds) = np + n + smT ds by omega]; exact k3, by omega, k5.trans g5⟩
/-- the tokens of a drawn program, as far as it goes -/
def PrgT (n : Nat) (ds : List (Nat × List KV)) (ts r : List KV) : Prop := ∃ v0 v2 v4 v5 v6 rest, ts = (10, v0) :: (4, 0) :: (28, v2) :: (4, nI 1) :: (29, v4) :: (30, v5) :: rest ∧ Bd n rest ((31, v6) :: (flT ds ++ r)) ∧ ∀ d, d ∈ ds → StT d.1 d.2
def kvs (tx : List Int32) : List KV := (tks tx).map (fun t => (t.1, t.2.1))
/-- the reader comes to r -/
theorem prg_go {k2 v2 : Int32} {r' : List KV} {n : Nat} {ds : List (Nat × List KV)} (hn : tx.length ≤ 300) (ht : tkR s (tks tx)) (hP : PrgT n ds (kvs tx) r) (hr : r = (k2, v2) :: r') (hk2 : k2 ≠ 6) : ∃ s' a', GoA (rdA s, 0, [], []) (s', 0, [], []) ∧ Q1 s' a' ((tks tx).length - 1) 0 r ∧ SB s' a' (n + 1 + smT ds) ∧ s'.2 5 = 0 := by
  obtain ⟨v0, v2', v4, v5, v6, rest, hk, hB, hd⟩ := hP
  have hq : Q1 (rdA s) 0 ((tks tx).length - 1) 0 (kvs tx) := by
    refine ⟨(rdA_Lv hn ht).1, ⟨?_, ?_⟩, fun t ht => absurd ht (Nat.not_lt_zero _)⟩
    · rw [List.drop_zero, rdA_r s (by omega), ht.1]
      unfold kvs
      rw [List.map_map]
      rfl
    · rw [List.drop_zero, rdA_r s (by omega), ht.2.1]
      unfold kvs
      rw [List.map_map]
      rfl
  rw [hk] at hq
  obtain ⟨s1, a1, g1, g2, g3, g4, g5⟩ := hdr_go hq rfl rfl rfl rfl rfl rfl rfl hB
  obtain ⟨s2, a2, k1, k2'', k3, k4, k5⟩ := sts_go hr hk2 ds s1 a1 (n + 1) g2 g3 g4 hd
  exact ⟨s2, a2, g1.tr k1, k2'', k3, k5.trans g5⟩
end TXTD
