/-! what reading a drawn program tells: no fault and its parts; or the fault behind it -/
section RESD
variable {s s1 : Sx} {tx : List Int32} {n : Nat} {ds : List (Nat × List KV)} {r : List KV}
theorem it_inr {A : Au} {f : Int32 × Int32} : ∀ (j k : Nat), au_it k A = .inr f → au_it (k + j) A = .inr f := by
  intro j
  induction j with
  | zero => intro k h; exact h
  | succ j ih =>
    have one : ∀ (k : Nat) (A : Au), au_it k A = .inr f → au_it (k + 1) A = .inr f := by
      intro k
      induction k with
      | zero => intro A h; cases h
      | succ k ihk =>
        intro A h
        rw [au_it_e] at h ⊢
        cases hq : au_acc A with
        | inl B =>
          rw [hq] at h
          exact ihk B h
        | inr g =>
          rw [hq] at h
          exact h
    intro k h
    exact one (k + j) A (ih k h)
theorem acc_end {a e L : Nat} {v : Int32} {q : List KV} (h : Q1 s a e L ((0, v) :: q)) : ∃ t, au_acc (s, 0, [], []) = .inr (99, t) := by
  have acc := acc_st (op := []) (bl := []) h (by decide)
  have ko := st_ko h
  unfold au_st at acc
  rw [ko, if_neg (by decide), if_neg (by decide), if_neg (by decide), if_neg (by decide), if_neg (by decide), if_neg (by decide), if_neg (by decide), if_pos ⟨rfl, rfl⟩] at acc
  exact ⟨_, acc⟩
theorem acc_ko0 (h : au_ko s = 0) : ∃ t, au_acc (s, 0, [], []) = .inr (99, t) := by
  have acc : au_acc (s, 0, [], []) = au_s0 s [] := acc_0
  unfold au_s0 at acc
  rw [h, if_neg (by decide)] at acc
  unfold au_st at acc
  rw [h, if_neg (by decide), if_neg (by decide), if_neg (by decide), if_neg (by decide), if_neg (by decide), if_neg (by decide), if_neg (by decide), if_pos ⟨rfl, rfl⟩] at acc
  exact ⟨_, acc⟩
def badK (k : Int32) : Prop := k = 31 ∨ k = 29 ∨ k = 1 ∨ k = 33 ∨ k = 3 ∨ k = 27
theorem acc_bad {a e L : Nat} {k v : Int32} {q : List KV} (h : Q1 s a e L ((k, v) :: q)) (hk : badK k) : au_acc (s, 0, [], []) = .inr (3, nI a) := by
  have acc : au_acc (s, 0, [], []) = au_s0 s [] := acc_0
  have ko := st_ko h
  have h22 := h.hd.2.2.1
  unfold au_s0 at acc
  rw [ko] at acc
  by_cases c : k = 31
  · rw [if_pos c] at acc
    rw [acc, h22]
  · rw [if_neg c] at acc
    have n : ∀ z : Int32, z = 4 ∨ z = 26 ∨ z = 8 ∨ z = 5 ∨ z = 7 ∨ z = 11 ∨ z = 10 ∨ z = 0 → k ≠ z := by
      rintro z hz rfl
      rcases hk with w | w | w | w | w | w <;> rw [w] at hz <;> revert hz <;> decide
    unfold au_st at acc
    rw [ko, if_neg (n 4 (by decide)), if_neg (n 26 (by decide)), if_neg (n 8 (by decide)), if_neg (n 5 (by decide)), if_neg (n 7 (by decide)), if_neg (n 11 (by decide)), if_neg (n 10 (by decide)), if_neg (fun z => n 0 (by decide) z.1), h22] at acc
    exact acc
/-- calls are linked -/
theorem link_go {J : List Nat} : ∀ (k n l : Nat) (s : Sx), l + k = J.length → k < n → J.length ≤ 200 → s.1 15 = J.map nI → s.1 16 = J.map (fun _ => 1) → s.1 9 = [0] → s.1 10 = [1] → s.2 0 = 0 → (∀ j, j ∈ J → j < 400 ∧ (s.1 1).getD j 0 = 0) → ∃ s', f_5023_L2 n (nI l) s = some s' ∧ s'.2 0 = 0 ∧ s'.1 5 = s.1 5 := by
  intro k
  induction k with
  | zero =>
    intro n l s hl hn h200 h15 h16 h9 h10 h0 hJ
    obtain ⟨n, rfl⟩ : ∃ j, n = j + 1 := ⟨n - 1, by omega⟩
    refine ⟨s, ?_, h0, rfl⟩
    rw [f_5023_L2, if_pos]
    rw [h15, List.length_map]
    exact (nI_leI (by omega) (by omega)).2 (by omega)
  | succ k ih =>
    intro n l s hl hn h200 h15 h16 h9 h10 h0 hJ
    obtain ⟨n, rfl⟩ : ∃ j, n = j + 1 := ⟨n - 1, by omega⟩
    have hlt : l < J.length := by omega
    have e15 : xg (s.1 15) (nI l) = nI (J.getD l 0) := by
      rw [xg_n (by omega), h15, List.getD_eq_getElem?_getD, List.getElem?_map, List.getD_eq_getElem?_getD, List.getElem?_eq_getElem hlt]
      rfl
    have hm : J.getD l 0 ∈ J := by
      rw [List.getD_eq_getElem?_getD, List.getElem?_eq_getElem hlt]
      exact List.getElem_mem hlt
    obtain ⟨j1, j2⟩ := hJ _ hm
    have e1 : xg (s.1 1) (nI (J.getD l 0)) = 0 := by rw [xg_n (by omega), j2]
    have e12 : f_4012 0 s = 0 := by
      unfold f_4012
      rw [h9]; decide
    have e13 : f_4013 0 s = 1 := by
      unfold f_4013
      rw [h10]; decide
    have e16 : xg (s.1 16) (nI l) = 1 := by
      rw [xg_n (by omega), h16, List.getD_eq_getElem?_getD, List.getElem?_map, List.getElem?_eq_getElem hlt]
      rfl
    have hc : ¬ nI (s.1 15).length ≤ nI l := by
      rw [h15, List.length_map]
      intro z
      have := (nI_leI (by omega) (by omega)).1 z
      omega
    rw [f_5023_L2, if_neg hc, if_pos h0, e15, e1, e12, if_neg (by decide), e13, e16, if_pos rfl, bS_eq, bS_eq, nI_p1 (by omega)]
    obtain ⟨s2, hs2⟩ : ∃ s2, s2 = f_4009 (xg ((sB s 1 (xset (s.1 1) (nI (J.getD l 0)) 0)).1 17) (nI l)) 0 (sB s 1 (xset (s.1 1) (nI (J.getD l 0)) 0)) := ⟨_, rfl⟩
    rw [← hs2]
    have k2 : ∀ q, q ≠ 1 → q ≠ 8 → s2.1 q = s.1 q := fun q b1 b2 => by
      rw [hs2]
      show (if q = 8 then _ else if q = 1 then _ else s.1 q) = _
      rw [if_neg b2, if_neg b1]
    have k1 : s2.1 1 = (s.1 1).set (J.getD l 0) 0 := by
      rw [hs2]
      show xset (s.1 1) (nI (J.getD l 0)) 0 = _
      rw [xset_n (by omega)]
    obtain ⟨s', g1, g2, g3⟩ := ih n (l + 1) s2 (by omega) (by omega) h200 (by rw [k2 15 (by decide) (by decide)]; exact h15) (by rw [k2 16 (by decide) (by decide)]; exact h16) (by rw [k2 9 (by decide) (by decide)]; exact h9) (by rw [k2 10 (by decide) (by decide)]; exact h10) (by rw [hs2]; exact h0) (fun j hj => by
      obtain ⟨y1, y2⟩ := hJ j hj
      refine ⟨y1, ?_⟩
      rw [k1]
      by_cases c : J.getD l 0 = j
      · rw [List.getD_eq_getElem?_getD, List.getElem?_set]
        rw [if_pos c]
        split <;> rfl
      · rw [gD_set_n c]
        exact y2)
    exact ⟨s', g1, g2, g3.trans (k2 5 (by decide) (by decide))⟩
/-- what is left is the end of it -/
def Sfx (l r : List KV) : Prop := ∃ pre, l = pre ++ r
theorem Sfx.tr {l m r : List KV} (h : Sfx l m) (h' : Sfx m r) : Sfx l r := by
  obtain ⟨p, h⟩ := h
  obtain ⟨q, h'⟩ := h'
  exact ⟨p ++ q, by rw [h, h', List.append_assoc]⟩
theorem Sfx.c {x : KV} {l : List KV} : Sfx (x :: l) l := ⟨[x], rfl⟩
theorem BsT.sfx {l r : List KV} (h : BsT l r) : Sfx l r := by
  rcases h with ⟨v, rfl⟩ | ⟨v, rfl⟩ | ⟨q, k2, v2, r2, _, _, _, rfl⟩ <;> exact Sfx.c
theorem OpT.sfx {l r : List KV} (h : OpT l r) : Sfx l r := by
  rcases h with h | ⟨pk, pv, r1, _, rfl, h⟩
  · exact h.sfx
  · exact Sfx.c.tr h.sfx
theorem VlT.sfx : ∀ {n : Nat} {l r : List KV}, VlT n l r → Sfx l r
  | 0, _, _, h => OpT.sfx h
  | n + 1, _, _, h => by
    obtain ⟨mk, v, r1, h1, _, h2⟩ := h
    exact h1.sfx.tr (Sfx.c.tr (VlT.sfx h2))
theorem Sm1.sfx {l r : List KV} (h : Sm1 l r) : Sfx l r := by
  rcases h with ⟨q, v, r1, n, w, _, rfl, h⟩ | ⟨v, r1, n, w, rfl, h⟩ | ⟨v, u, t, r1, n, w, rfl, h⟩ | ⟨v, r1, n, w, u, rfl, h⟩
  · exact Sfx.c.tr (Sfx.c.tr (h.sfx.tr Sfx.c))
  · exact Sfx.c.tr (h.sfx.tr Sfx.c)
  · exact Sfx.c.tr (Sfx.c.tr (Sfx.c.tr (h.sfx.tr Sfx.c)))
  · exact Sfx.c.tr (Sfx.c.tr (h.sfx.tr (Sfx.c.tr Sfx.c)))
theorem Bd.sfx {n : Nat} {l r : List KV} (h : Bd n l r) : Sfx l r := by
  rcases h with ⟨_, h⟩ | ⟨_, k, v, r1, n, w, r2, u, _, rfl, h1, h2⟩
  · exact h.sfx
  · exact Sfx.c.tr (h1.sfx.tr (Sfx.c.tr (h2.sfx.tr Sfx.c)))
theorem PrgT.sfx {n : Nat} {ds : List (Nat × List KV)} {l r : List KV} (h : PrgT n ds l r) : Sfx l r := by
  obtain ⟨v0, v2, v4, v5, v6, rest, rfl, hB, _⟩ := h
  exact (((((Sfx.c.tr Sfx.c).tr Sfx.c).tr Sfx.c).tr Sfx.c).tr Sfx.c).tr (hB.sfx.tr (Sfx.c.tr ⟨flT ds, rfl⟩))
/-- a drawn program has no fault, and its parts -/
theorem rd_ok (hn : tx.length ≤ 300) (ht : tkR s (tks tx)) (hs : f_5001 s = some s1) (hP : PrgT n ds (kvs tx) [(0, 0)]) : s1.2 0 = 0 ∧ (s1.1 5).length = n + 1 + smT ds := by
  obtain ⟨s', a', ⟨k, A', g1, g1'⟩, g2, g3, g4⟩ := prg_go hn ht hP rfl (by decide)
  have hset' : au_set A' = (s', 0, [], []) := by rw [g1', au_set_n (by decide)]
  obtain ⟨t9, e9⟩ := acc_end g2
  have kend : au_it (k + 1) (rdA s, 0, [], []) = .inr (99, t9) := by
    rw [au_it_add g1, ← au_it_set, hset']
    exact au_it_f e9
  have hL := (rdA_Lv hn ht).1
  have r0 : (rdA s).1 0 = s.1 0 := rdA_r s (by omega)
  have hp := tks_pos tx
  have h301 := tks_300 hn
  rw [rdA_e] at hs
  rcases read_loopK (G := fun _ => True) (fun _ _ _ _ => trivial) (e := (tks tx).length - 1) (sA := rdA s) (s0 := s) (r0 := s.1 0) 400 0 0 (rdA s, 0, [], []) (rdA s) 0 (by omega) (Nat.le_refl _) rfl (au_set_n (by decide)) hL rfl (by rw [← r0]; exact KI.r) (rdA_FC s) trivial with ⟨f, t, k1, s2, h1, h2, h3, h4, h5⟩ | ⟨k1, A, s2, h1, h2, h3, h4, h5, h6, h7, h8, h9⟩
  · exfalso
    have c1 := it_inr k1 _ kend
    have c2 := it_inr (k + 1) _ h2
    rw [Nat.add_comm] at c2
    rw [c1] at c2
    cases c2
    exact h3.2.2.1.2 rfl
  · obtain ⟨t1, e1⟩ := acc_ko0 h4
    have k1end : au_it (k1 + 1) (rdA s, 0, [], []) = .inr (99, t1) := by
      rw [au_it_add h2, ← au_it_set, h3]
      exact au_it_f e1
    have hk : k1 = k := by
      rcases Nat.lt_trichotomy k1 k with z | z | z
      · have := it_inr (k - (k1 + 1)) _ k1end
        rw [show k1 + 1 + (k - (k1 + 1)) = k by omega, g1] at this
        cases this
      · exact z
      · have := it_inr (k1 - (k + 1)) _ kend
        rw [show k + 1 + (k1 - (k + 1)) = k1 by omega, h2] at this
        cases this
    subst hk
    rw [g1] at h2
    cases h2
    rw [h3] at hset'
    have e2 : s2 = s' := congrArg (fun q : Au => q.1) hset'
    subst e2
    rw [h1] at hs
    obtain ⟨⟨J, j1, j2, j3, j4, j5⟩, c2, c3, c4, c5, c6⟩ := g3
    have f0 : s2.2 0 = 0 := g2.1.1
    have a300 : a' ≤ 300 := g2.hd.2.2.2.2.2.2.2.2.2
    obtain ⟨s3, q1, q2, q3⟩ := link_go (J := J) J.length 400 0 (au_cd 17 0 s2) (by omega) (by omega) (by omega) j1 j2 c5 c6 f0 (fun j hj => by
      obtain ⟨y1, y2⟩ := j5 j hj
      exact ⟨by omega, g2.2.2 j y1 y2⟩)
    have ef : f_5001_J100 0 s2 = some s3 := by
      unfold f_5001_J100
      rw [bT]
      show bS (f_5002 (au_cd 17 0 s2)) _ = _
      rw [f5002_0 (show (au_cd 17 0 s2).2 0 = 0 from f0), bS_eq]
      unfold f_5023
      show bOv (f_5023_L2 400 (nI 0) (au_cd 17 0 s2)) _ = _
      rw [q1]
      rfl
    have : f_5001_J100 (nI 0) s2 = f_5001_J100 0 s2 := rfl
    rw [ef] at hs
    cases hs
    refine ⟨q2, ?_⟩
    rw [q3]
    exact c4
/-- a token that cannot stand behind it is its fault -/
theorem rd_bad {k v k2 v2 : Int32} {r' : List KV} (hn : tx.length ≤ 300) (ht : tkR s (tks tx)) (hs : f_5001 s = some s1) (hP : PrgT n ds (kvs tx) ((k, v) :: r')) (hk : badK k) : s1.2 0 = (if k = 1 then 1 else 3) ∧ s1.2 1 = nI ((tks tx).length - (r'.length + 1)) := by
  have hk6 : k ≠ 6 := by rcases hk with w | w | w | w | w | w <;> rw [w] <;> decide
  obtain ⟨s', a', ⟨j, A', g1, g1'⟩, g2, g3, g4⟩ := prg_go hn ht hP rfl hk6
  have hset' : au_set A' = (s', 0, [], []) := by rw [g1', au_set_n (by decide)]
  have kend : au_it (j + 1) (rdA s, 0, [], []) = .inr (3, nI a') := by
    rw [au_it_add g1, ← au_it_set, hset']
    exact au_it_f (acc_bad g2 hk)
  have hp := tks_pos tx
  have h301 := tks_300 hn
  have ha : a' = (tks tx).length - (r'.length + 1) := by
    have l0 := g2.1.2.2.2.2.2.1
    have l1 := congrArg List.length g2.2.1.1
    rw [List.length_drop, List.length_map, List.length_cons] at l1
    omega
  have hL := (rdA_Lv hn ht).1
  have r0 : (rdA s).1 0 = s.1 0 := rdA_r s (by omega)
  rw [rdA_e] at hs
  rcases read_loopK (G := fun _ => True) (fun _ _ _ _ => trivial) (e := (tks tx).length - 1) (sA := rdA s) (s0 := s) (r0 := s.1 0) 400 0 0 (rdA s, 0, [], []) (rdA s) 0 (by omega) (Nat.le_refl _) rfl (au_set_n (by decide)) hL rfl (by rw [← r0]; exact KI.r) (rdA_FC s) trivial with ⟨f, t, k1, s2, h1, h2, h3, h4, h5⟩ | ⟨k1, A, s2, h1, h2, h3, h4, h5, h6, h7, h8, h9⟩
  · have c1 := it_inr k1 _ kend
    have c2 := it_inr (j + 1) _ h2
    rw [Nat.add_comm] at c2
    rw [c1] at c2
    injection c2 with c2
    injection c2 with cf ct
    subst cf
    subst ct
    rw [h1] at hs
    -- the kind of the token at the fault
    have hkind : (s.1 0).getD a' 0 = k := by
      obtain ⟨pre, hpre⟩ := hP.sfx
      have hl : (tks tx).length = pre.length + (r'.length + 1) := by
        have := congrArg List.length hpre
        unfold kvs at this
        rw [List.length_map, List.length_append, List.length_cons] at this
        exact this
      have e0 : s.1 0 = (kvs tx).map (fun t => t.1) := by
        rw [ht.1]; unfold kvs; rw [List.map_map]; rfl
      have ea : a' = pre.length := by omega
      rw [e0, hpre, ea, List.map_append, List.getD_eq_getElem?_getD, List.getElem?_append_right (by rw [List.length_map]; exact Nat.le_refl _), List.length_map, Nat.sub_self]
      rfl
    obtain ⟨d, v1, v2⟩ := J100_co h3
    have hs' : some d = some s1 := v1.symm.trans hs
    cases hs'
    have hKI : KI (s.1 0) (f_4005 17 0 s2).1 := h4.cd
    have f0 : (f_4005 17 0 s2).1.2 0 = 3 := h3.1
    have f1 : (f_4005 17 0 s2).1.2 1 = nI a' := h3.2.1
    have a300 : a' ≤ 300 := g2.hd.2.2.2.2.2.2.2.2.2
    have hx : xg ((f_4005 17 0 s2).1.1 0) ((f_4005 17 0 s2).1.2 1) = ((f_4005 17 0 s2).1.1 0).getD a' 0 := by
      rw [f1, xg_n (by omega)]
    rw [v2, ← ha]
    unfold f_5002
    rw [if_pos f0, hx]
    by_cases c : k = 1
    · rw [if_pos ((hKI a').1.2 (by rw [hkind]; exact c)), if_pos c]
      exact ⟨rfl, f1⟩
    · rw [if_neg (fun z => c (by rw [← hkind]; exact (hKI a').1.1 z)), if_neg (fun z => by
        have := (hKI a').2.1 z
        rw [hkind] at this
        rw [this] at hk
        rcases hk with w | w | w | w | w | w <;> exact absurd w (by decide)), if_neg c]
      exact ⟨rfl, f1⟩
  · exfalso
    obtain ⟨t1, e1⟩ := acc_ko0 h4
    have k1end : au_it (k1 + 1) (rdA s, 0, [], []) = .inr (99, t1) := by
      rw [au_it_add h2, ← au_it_set, h3]
      exact au_it_f e1
    have c1 := it_inr (k1 + 1) _ kend
    have c2 := it_inr (j + 1) _ k1end
    rw [Nat.add_comm] at c2
    rw [c1] at c2
    cases c2
end RESD
