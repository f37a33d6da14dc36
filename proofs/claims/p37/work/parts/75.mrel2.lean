/-! the reference's reader beside the automaton: single acts -/
section RRt
variable {T : List Tk} {tx : List Int32} {s : Sx} {a : Nat} {mo bl : List Ae} {oe oc : Nat → Prop} {pd : Nat} {m : Mx}
theorem RR.i (h : RR T tx s a mo bl oe oc pd m) {s' : Sx} (e : s'.1 = s.1) : RR T tx s' a mo bl oe oc pd m := by
  unfold RR
  rw [e]
  exact h
/-- fields that hold nothing of it -/
theorem RR.f (h : RR T tx s a mo bl oe oc pd m) {f : Nat} {x : Int32} (hf : f ∉ [4, 9, 11, 14, 16, 22, 27, 35, 38]) : RR T tx s a mo bl oe oc pd (mp m f x) := by
  obtain ⟨⟨⟨h0, h1, h2⟩, h3⟩, h4, h5, h6, h7, h8, h9, h10, h11⟩ := h
  simp only [List.mem_cons, List.not_mem_nil, or_false, not_or] at hf
  have g : ∀ j, j ≠ f → mp m f x 0 j = m 0 j := fun j hj => mp_n hj
  refine ⟨⟨⟨h0, ?_, fun i hi => h2 i hi⟩, ?_⟩, ?_, ?_, h6, ?_, ?_, ?_, ?_, ?_⟩
  · rw [g 4 (by omega)]; exact h1
  · rw [g 9 (by omega)]; exact h3
  · rw [g 11 (by omega)]; exact h4
  · rw [g 14 (by omega)]; exact h5
  · rw [g 16 (by omega)]; exact h7
  · rw [g 22 (by omega)]; exact h8
  · rw [g 27 (by omega)]; exact h9
  · rw [g 35 (by omega)]; exact h10
  · rw [g 38 (by omega)]; exact h11
theorem RR.oew (h : RR T tx s a mo bl oe oc pd m) {oe' : Nat → Prop} (hw : ∀ k, oe k → oe' k) : RR T tx s a mo bl oe' oc pd m := by
  obtain ⟨h1, h2, h3, h4, ⟨h5, h6⟩, h7⟩ := h
  exact ⟨h1, h2, h3, h4, ⟨h5, fun k hk ho => h6 k hk (fun q => ho (hw k q))⟩, h7⟩
theorem RR.ocw (h : RR T tx s a mo bl oe oc pd m) {oc' : Nat → Prop} (hw : ∀ k, oc k → oc' k) : RR T tx s a mo bl oe oc' pd m := by
  obtain ⟨h1, h2, h3, h4, h5, h6, ⟨q1, q2, q3, q4, q5⟩, h7⟩ := h
  exact ⟨h1, h2, h3, h4, h5, h6, ⟨q1, q2, q3, q4, fun k hk ho => q5 k hk (fun r => ho (hw k r))⟩, h7⟩
theorem RR.m8 (h : RR T tx s a mo bl oe oc pd m) {k : Nat} {x : Int32} (hk : k < 1000) (ho : oe k) : RR T tx s a mo bl oe oc pd (ms m 8 (nI k) x) := by
  obtain ⟨h1, h2, h3, h4, ⟨h5, h6⟩, h7⟩ := h
  refine ⟨h1, h2, h3, h4, ⟨h5, fun j hj hn => ?_⟩, h7⟩
  rw [ms_s (by omega)]
  show (if j = k then x else m 8 j) = _
  rw [if_neg (fun e : j = k => hn (by rw [e]; exact ho))]
  exact h6 j hj hn
theorem RR.ep (h : RR T tx s a mo bl oe oc pd m) {k : Nat} {p : Int32} (hp : p = nI k) (hk : k < 1000) {oe' : Nat → Prop} (hE : m 8 k = s.2 2 - 1) (hw : ∀ j, ¬ oe' j → j = k ∨ ¬ oe j) : RR T tx (au_ep p s) a mo bl oe' oc pd m := by
  obtain ⟨h1, h2, h3, h4, ⟨⟨q1, q2, q3⟩, h6⟩, h7⟩ := h
  have e6 : (au_ep p s).1 6 = (s.1 6).set k (s.2 2) := by
    show xset (s.1 6) p (s.2 2) = _
    rw [hp, xset_n (by omega)]
  refine ⟨h1, h2, h3, h4, ⟨⟨q1, ?_, q3⟩, fun j hj hn => ?_⟩, h7⟩
  · rw [e6, List.length_set]
    exact q2
  · rw [e6, List.length_set] at hj
    rw [e6]
    by_cases e : j = k
    · subst e
      rw [gD_set_s hj]
      exact hE
    · rw [gD_set_n (fun q => e q.symm)]
      rcases hw j hn with r | r
      · exact absurd r e
      · exact h6 j hj r
theorem RR.pt (h : RR T tx s a mo bl oe oc pd m) {k : Nat} {p : Int32} (hp : p = nI k) (hk : k < (s.1 7).length) (hl : (s.1 7).length < 1000) (hc : (s.1 7).getD k 0 ≠ 8 ∧ (s.1 7).getD k 0 ≠ 9) : RR T tx (au_pt p s) a mo bl oe oc pd (ms m 5 (nI k) (mf m 11)) := by
  obtain ⟨h1, ⟨q1, q2, q3⟩, h3⟩ := h
  refine ⟨h1, ⟨q1, ?_, fun i hi => ?_⟩, h3⟩
  · show (xset (s.1 8) p _).length = _
    rw [xset_len]
    exact q2
  · have e8 : (au_pt p s).1 8 = (s.1 8).set k (nI (s.1 7).length) := by
      show xset (s.1 8) p (nI (s.1 7).length) = _
      rw [hp, xset_n (by omega)]
    rw [e8, ms_s (by omega)]
    show m 4 i = cm ((s.1 7).getD i 0) ∧ (if i = k then mf m 11 else m 5 i) = cdm ((s.1 7).getD i 0) _
    refine ⟨(q3 i hi).1, ?_⟩
    by_cases e : i = k
    · subst e
      rw [if_pos rfl, gD_set_s (by rw [q2]; exact hi)]
      unfold cdm
      rw [if_neg (fun r => r.elim hc.1 hc.2)]
      exact q1
    · rw [if_neg e, gD_set_n (fun q => e q.symm)]
      exact (q3 i hi).2
theorem RR.sv (h : RR T tx s a mo bl oe oc pd m) {i : Nat} {t x : Int32} (ht : t = nI i) (hi : i < 1000) (h35 : (s.1 0).getD i 0 ≠ 35) : RR T tx (au_sv t x s) a mo bl oe oc pd m := by
  obtain ⟨h1, h2, h3, h4, h5, h6, ⟨q1, q2, q3, q4, q5⟩, h7⟩ := h
  refine ⟨h1, h2, h3, h4, h5, h6, ⟨q1, q2, q3, fun k hk => ?_, q5⟩, h7⟩
  obtain ⟨j, w1, w2, w3, w4, w5, w6, w7⟩ := q4 k hk
  refine ⟨j, w1, w2, w3, w4, w5, ?_, w7⟩
  have e1 : (au_sv t x s).1 1 = (s.1 1).set i x := by
    show xset (s.1 1) t x = _
    rw [ht, xset_n (by omega)]
  rw [e1, gD_set_n (fun e : i = j => h35 (by rw [e]; exact w5))]
  exact w6
theorem Qo.up {K D G K' D' G' : Nat → Int32} {l : List Ae} (h : Qo K D G l) (h1 : ∀ j, j < l.length → K' j = K j ∧ D' j = D j) (h2 : ∀ x, x ∈ l → x.1 = 42 → ∀ k, x.2.1 = nI k → k < 110 → G' k = G k) : Qo K' D' G' l := by
  induction l with
  | nil => trivial
  | cons x r ih =>
    obtain ⟨q1, q2, q3, q4⟩ := h
    have w := h1 r.length (Nat.lt_succ_self _)
    refine ⟨w.1.trans q1, w.2.trans q2, fun e => ?_, ih q4 (fun j hj => h1 j (Nat.lt_succ_of_lt hj)) (fun y hy => h2 y (List.mem_cons_of_mem _ hy))⟩
    obtain ⟨k, r1, r2, r3⟩ := q3 e
    exact ⟨k, r1, r2, (h2 x (List.mem_cons_self ..) e k r1 r2).trans r3⟩
theorem Qb.up {K P C F K' P' C' F' : Nat → Int32} {l : List Ae} (h : Qb K P C F l) (h1 : ∀ j, j < l.length → K' j = K j ∧ P' j = P j ∧ C' j = C j ∧ F' j = F j) : Qb K' P' C' F' l := by
  induction l with
  | nil => trivial
  | cons x r ih =>
    obtain ⟨q1, q2, q3, q4, q5⟩ := h
    have w := h1 r.length (Nat.lt_succ_self _)
    exact ⟨w.1.trans q1, w.2.1.trans q2, w.2.2.1.trans q3, fun e => w.2.2.2.trans (q4 e), ih q5 (fun j hj => h1 j (Nat.lt_succ_of_lt hj))⟩
theorem RR.psh (h : RR T tx s a mo bl oe oc pd m) {x : Ae} {w y : Int32} (hl : mo.length < 1000) (hw : w = okm x.1) (hy : y = odm x) (h42 : x.1 = 42 → ∃ k, x.2.1 = nI k ∧ k < 110 ∧ m 18 k = x.2.2.1) : RR T tx s a (x :: mo) bl oe oc pd (MO w y m) := by
  obtain ⟨h1, h2, h3, h4, h5, h6, h7, ⟨q1, q2⟩, h8⟩ := h
  have f1 : mf m 35 = nI mo.length := q1
  have g20 : MO w y m 20 = fun i => if i = mo.length then w else m 20 i := by
    unfold MO
    rw [mp_j (by decide), ms_j (by decide), f1, ms_s (by omega)]
  have g21 : MO w y m 21 = fun i => if i = mo.length then y else m 21 i := by
    unfold MO
    rw [mp_j (by decide), f1, ms_s (by omega), ms_j (by decide)]
  refine ⟨h1, h2, h3, h4, h5, h6, h7, ⟨?_, ?_⟩, h8⟩
  · unfold MO
    rw [mp_s, f1, nI_1]
    rfl
  · rw [g20, g21]
    refine ⟨?_, ?_, h42, ?_⟩
    · show (if mo.length = mo.length then w else _) = _
      rw [if_pos rfl, hw]
    · show (if mo.length = mo.length then y else _) = _
      rw [if_pos rfl, hy]
    · refine q2.up (fun j hj => ?_) (fun _ _ _ _ _ _ => rfl)
      show (if j = mo.length then w else _) = _ ∧ (if j = mo.length then y else _) = _
      rw [if_neg (by omega), if_neg (by omega)]
      exact ⟨rfl, rfl⟩
theorem RR.pop {x : Ae} (h : RR T tx s a (x :: mo) bl oe oc pd m) : RR T tx s a mo bl oe oc pd (mp m 35 (mf m 35 - 1)) := by
  obtain ⟨h1, h2, h3, h4, h5, h6, h7, ⟨q1, q2⟩, h8⟩ := h
  refine ⟨h1, h2, h3, h4, h5, h6, h7, ⟨?_, q2.2.2.2⟩, h8⟩
  have f1 : mf m 35 = nI (mo.length + 1) := q1
  rw [mp_s, f1, nI_pred]
/-- what lies above the open blocks -/
theorem RR.bw (h : RR T tx s a mo bl oe oc pd m) {j : Nat} {x : Int32} (hj : j = 22 ∨ j = 23 ∨ j = 24 ∨ j = 25) (hl : bl.length < 1000) : RR T tx s a mo bl oe oc pd (ms m j (nI bl.length) x) := by
  obtain ⟨h1, h2, h3, h4, h5, h6, h7, h8, ⟨q1, q2⟩⟩ := h
  have key : ∀ i k, i < bl.length → ms m j (nI bl.length) x k i = m k i := by
    intro i k hi
    by_cases e : k = j
    · rw [e, ms_s (by omega)]
      exact if_neg (by omega)
    · rw [ms_j e]
  rcases hj with rfl | rfl | rfl | rfl
  all_goals exact ⟨h1, h2, h3, h4, h5, h6, h7, h8, ⟨q1, q2.up (fun i hi => ⟨key i 22 hi, key i 23 hi, key i 24 hi, key i 25 hi⟩)⟩⟩
theorem RR.bpsh (h : RR T tx s a mo bl oe oc pd m) {b : Ae} (hl : bl.length < 1000) (h1 : m 22 bl.length = bkm b.1) (h2 : m 23 bl.length = b.2.1) (h3 : m 24 bl.length = b.2.2.1) (h4 : b.1 = 7 → m 25 bl.length = b.2.2.2.1) : RR T tx s a mo (b :: bl) oe oc pd (mp m 38 (mf m 38 + 1)) := by
  obtain ⟨q1, q2, q3, q4, q5, q6, q7, q8, ⟨q9, q10⟩⟩ := h
  refine ⟨q1, q2, q3, q4, q5, q6, q7, q8, ⟨?_, h1, h2, h3, h4, q10⟩⟩
  have f1 : mf m 38 = nI bl.length := q9
  rw [mp_s, f1, nI_1]
  rfl
theorem RR.bpop {b : Ae} (h : RR T tx s a mo (b :: bl) oe oc pd m) : RR T tx s a mo bl oe oc pd (mp m 38 (mf m 38 - 1)) := by
  obtain ⟨h1, h2, h3, h4, h5, h6, h7, h8, ⟨q1, q2⟩⟩ := h
  refine ⟨h1, h2, h3, h4, h5, h6, h7, h8, ⟨?_, q2.2.2.2.2⟩⟩
  have f1 : mf m 38 = nI (bl.length + 1) := q1
  rw [mp_s, f1, nI_pred]
end RRt
