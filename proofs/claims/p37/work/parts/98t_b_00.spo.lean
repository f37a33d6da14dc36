/-! the law spoils a draft -/
section SPO
variable {x g : Nat} {T T' : Tx} {m m0 m' : Mx} {tx rest : List Int32} {n e0 : Nat} {A : Nat → List Int32} {c k : Int32}
theorem Wt.handF (h : Wt x m0 T tx) (hv : ∀ s0 s1, tkR s0 (tks tx) → f_5001 s0 = some s1 → s1.2 0 ≠ 0) (he : m0 0 65 = nI e0) (hb : e0 ≤ 4) : ∃ T', h_13014 x 0 (nI e0 - 1) T = some (T', if e0 = 0 then -1000001 else -1000003) ∧ Wt x m0 T' tx := by
  have h' := h
  obtain ⟨m, ⟨es, ts, as, ps, txs, ss, pd, own, hS, hzz⟩, hM⟩ := h'
  have hes : es.length = e0 := by
    have e1 := hS.2.2.2.1.1
    have e4 := hS.2.2.2.1.2.1
    rw [hM.2 65 (by decide), he] at e1
    exact ((nI_eq (by omega) (by omega)).1 e1).symm
  have ew : (nI e0 - 1).toInt = (e0 : Int) - 1 := by
    rw [Int32.toInt_sub, nI_T (by omega), i_1, Int.bmod_eq_of_le (by omega) (by omega)]
  have e37 : h_11037 0 T = some (.inr ()) := by rw [g37, if_pos (by decide)]
  by_cases c : e0 = 0
  · refine ⟨T, ?_, h⟩
    have hh : h_11020 x 0 (nI e0 - 1) T = some (T, .inl 2) := by
      unfold h_11020
      rw [e37, bXp_some, gd_e h.k12, g40 hS, if_neg (by rw [ew]; omega)]
      rfl
    unfold h_13014
    rw [hh, if_pos c]
    rfl
  · obtain ⟨T', pd', s0, s1, g1, g2, g3, g4, g5, g6, g7, g8, g9, _⟩ := h.rd
    refine ⟨T', ?_, g2⟩
    have hh : h_11020 x 0 (nI e0 - 1) T = some (T', .inl 3) := by
      unfold h_11020
      rw [e37, bXp_some, gd_e h.k12, g40 hS, if_pos (by rw [ew]; omega), bXp_some, gd_e g8, g1, bOv_some, gd_e g9, g43 (hS := g9) g3 g4.1, if_neg (by rw [g7.2.1]; exact hv s0 s1 g5 g6)]
      rfl
    unfold h_13014
    rw [hh, if_neg c]
    rfl
/-- the signs that cannot stand there, and the kinds of their tokens -/
def bdS : List (Int32 × Int32) := [(125, 31), (41, 29), (38, 1), (65, 1), (59, 33), (53, 3), (61, 27)]
theorem bd_f : ∀ q, q ∈ bdS → bnd q.1 32 126 ∧ (q.2 = 31 ∨ q.2 = 29 ∨ q.2 = 1 ∨ q.2 = 33 ∨ q.2 = 3 ∨ q.2 = 27) ∧ (q.2 = 3 ∧ q.1 = dgt 5 ∨ ((¬ isD q.1 ∧ ¬ isL q.1 ∧ ¬ isB q.1) ∧ lx_1 q.1 ≠ 4) ∧ lx_1 q.1 = q.2 ∧ lx_2 q.1 0 = 1 ∧ lx_2 q.1 32 = 1) := by decide +kernel
theorem bd_z {c k : Int32} (h : (c, k) ∈ bdS) {rest : List Int32} (hr : tg rest 0 = 0 ∨ tg rest 0 = 32) : ∃ v, ∀ q p, ∃ q', LZ (c :: rest) p (wq q) [(k, v, p, p + 1)] rest (p + 1) q' := by
  obtain ⟨_, _, h3⟩ := bd_f (c, k) h
  rcases h3 with ⟨e, e'⟩ | ⟨e1, e2, e3, e4⟩
  · have e1 : k = 3 := e
    have e2 : c = dgt 5 := e'
    subst e1
    subst e2
    refine ⟨(lx_st 0 (dgt 5)).toInt32, fun q p => ⟨wq q, ?_⟩⟩
    exact LZ.t (dgt_D 5 (by decide)).2.2.1 (lt_d1 (i := 5) (by decide) (by rcases hr with z | z <;> rw [z] <;> decide)) (by decide) (Nat.le_refl _) rfl
  · have e2' : lx_1 c = k := e2
    refine ⟨0, fun q p => ⟨wq q, ?_⟩⟩
    rw [← e2']
    exact LZ.m1 e1 (by rcases hr with z | z <;> rw [z]; exact e3; exact e4)
/-- the fault of it -/
def fOf (k : Int32) : Int32 := if k = 1 then 1 else 3
theorem fOf_0 {k : Int32} : fOf k ≠ 0 := by
  unfold fOf
  split <;> decide
theorem bad_f (hP : PrW tx n) (h : (c, k) ∈ bdS) (hr : tg rest 0 = 0 ∨ tg rest 0 = 32) (hl : (tx ++ c :: rest).length ≤ 300) : ∀ s0 s1, tkR s0 (tks (tx ++ c :: rest)) → f_5001 s0 = some s1 → s1.2 0 = fOf k ∧ ∃ i, s1.2 1 = nI i ∧ i < (tks (tx ++ c :: rest)).length ∧ tpl (tks (tx ++ c :: rest)) i = tx.length := by
  intro s0 s1 a b
  obtain ⟨v, hz⟩ := bd_z h hr
  exact hP.bad (bd_f (c, k) h).2.1 hz hl a b
/-- at the end the draft is as it was -/
theorem l_J311 {T : Tx} {q f : Nat} (h : Wt x m0 T (tx ++ c :: rest)) (hr : rest.length = q + 1) (hP : PrW tx n) (hg : (A g).length = 6) (h3 : (A g).getD 3 0 = nI n) (hl : tx.length ≤ 277) (hq : q < 9) (l2 l3 l5 l6 l7 l8 l10 : Int32) {bc bs : Nat} (hb : 84 ≤ bc ∧ 7424 ≤ bs) : ∃ T', l_13036_J311 x g l2 l3 (nI tx.length) l5 l6 l7 l8 (nI q) l10 1 bc bs (T, A) = some ((T', A), 1) ∧ Wt x m0 T' tx := by
  have hX : PrX tx n := Or.inl hP
  have hn : tx.length ≤ 300 := by omega
  have lt : (tx ++ c :: rest).length = tx.length + (q + 2) := by rw [List.length_append, List.length_cons, hr]
  have e1 := h.eraseF (k := tx.length + q + 3) (by omega) (by omega)
  obtain ⟨T1, e2, h1⟩ := h.erase (k := q + 2) (by omega) (by omega)
  rw [lt, show tx.length + (q + 2) - (q + 2) = tx.length by omega] at e2 h1
  rw [List.take_left' rfl] at h1
  obtain ⟨T2, e3, h2⟩ := h1.fault (v := 0) (fun s0 s1 a b => (hX.ok hn a b).1)
  obtain ⟨T3, e4, h3'⟩ := h2.parts (k := n) (fun s0 s1 a b => hX.ok hn a b)
  refine ⟨T3, ?_, h3'⟩
  have v3 : vi 3 (A g).length := vi6 (k := 3) (by decide) hg
  have a1 : nI tx.length + nI q + 3 = nI (tx.length + q + 3) := by
    rw [nI_pl (by omega) (by omega)]
    exact nI_pl (b := 3) (by omega) (by omega)
  have a2 : nI q + 2 = nI (q + 2) := nI_pl (b := 2) (by omega) (by omega)
  obtain ⟨m3, hD3, _⟩ := h3'
  have so := hD3.sat_o (i := nI tx.length) (by rw [nI_T (by omega)]; omega)
  unfold l_13036_J311
  rw [if_neg one_0, gd_e (show tK (T, A).1 x = 12 from h.k12), gd_e ⟨by omega, by omega⟩, a1, show h_13003 x (nI (tx.length + q + 3)) (T, A).1 = some (T, -1000002) from e1, bO_some, bS_eq, if_pos rfl]
  show gd (tK T x = 12) _ = _
  rw [gd_e h.k12, gd_e ⟨by omega, by omega⟩, a2]
  show bO (h_13003 x (nI (q + 2)) T) _ = _
  rw [e2, bO_some, bS_eq, if_pos rfl]
  show gd (tK T1 x = 12) _ = _
  rw [gd_e h1.k12, gd_e ⟨by omega, by omega⟩]
  show bO (h_11006 x T1) _ = _
  rw [e3, bO_some, bS_eq, if_pos rfl]
  show gd (tK T2 x = 12) _ = _
  rw [gd_e h2.k12, gd_e ⟨by omega, by omega⟩]
  show bO (h_13005 x T2) _ = _
  rw [e4, bO_some, bS_eq]
  show gd (vi 3 (A g).length) (if nI n = xg (A g) (nI 3) then _ else _) = _
  rw [gd_e v3, xg_n (by omega), h3, if_pos rfl]
  show gd (tK T3 x = 12) _ = _
  rw [gd_e hD3.ok.2.2, gd_e ⟨by omega, by omega⟩]
  show bP (h_13004 x (nI tx.length) T3) _ = _
  rw [so, bP_some, if_pos rfl]
  rfl
end SPO
