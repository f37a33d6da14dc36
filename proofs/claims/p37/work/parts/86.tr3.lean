/-! acts: a def's name and parameters -/
section DF
variable {T : List Tk} {tx : List Int32} {s : Sx} {mo op bl : List Ae} {oe oc : Nat → Prop} {pd a L : Nat} {m : Mx}
/-- the names of a def begin anew -/
theorem RR.nil14 (h : RR T tx s a mo bl oe oc pd m) : RR T tx (sB s 14 []) a mo bl oe oc pd (ms m 9 1 0) := by
  obtain ⟨h1, h2, h3, ⟨n1, n2, n3, n4, n5, n6, n7, n8⟩, h5⟩ := h
  have g9 : ms m 9 1 0 9 = fun j => if j = 1 then 0 else m 9 j := ms_s (n := 1) (by omega)
  refine ⟨h1, h2, h3, ⟨?_, ?_, n3, Nat.zero_le _, n5, List.nodup_nil, n7, fun k hk => by cases hk⟩, h5⟩
  · rw [g9]
    exact n1
  · rw [g9]
    rfl
theorem RR.def {nd i : Nat} (h : RR (tks tx) tx s a mo bl oe oc 0 m) (hnd : (s.1 9).length = nd) (hn : nd < 40) (hj : i + 1 < (tks tx).length) (h4 : tkd (tks tx) i = 4) (hv : tvl (tks tx) i ∉ s.1 9) {x : Int32} :
    RR (tks tx) tx (f_4010 (tvl (tks tx) i) s).1 a mo bl oe oc 1 (mp (ms (ms (ms (ms m 12 (nI nd) (nI (tpl (tks tx) i))) 13 (nI nd) (nI (ten (tks tx) i - tpl (tks tx) i))) 14 (nI nd) 0) 15 (nI nd) x) 22 (nI nd + 1)) := by
  obtain ⟨g1, g2, g3, g4, g5, ⟨q1, q2, q3, q4, q5, q6⟩, g7⟩ := h
  have e9 : (f_4010 (tvl (tks tx) i) s).1.1 9 = s.1 9 ++ [tvl (tks tx) i] := by
    show xadd 75 (s.1 9) _ = _
    exact xadd_e (by omega)
  have e10 : (f_4010 (tvl (tks tx) i) s).1.1 10 = s.1 10 ++ [0] := by
    show xadd 75 (s.1 10) _ = _
    exact xadd_e (by omega)
  have e12 : (f_4010 (tvl (tks tx) i) s).1.1 12 = s.1 12 ++ [0] := by
    show xadd 75 (s.1 12) _ = _
    exact xadd_e (by omega)
  generalize hm1 : ms (ms (ms (ms m 12 (nI nd) (nI (tpl (tks tx) i))) 13 (nI nd) (nI (ten (tks tx) i - tpl (tks tx) i))) 14 (nI nd) 0) 15 (nI nd) x = m1
  have f12 : ∀ j, m1 12 j = if j = nd then nI (tpl (tks tx) i) else m 12 j := fun j => by
    rw [← hm1, ms_j (by decide), ms_j (by decide), ms_j (by decide), ms_s (by omega)]
  have f13 : ∀ j, m1 13 j = if j = nd then nI (ten (tks tx) i - tpl (tks tx) i) else m 13 j := fun j => by
    rw [← hm1, ms_j (by decide), ms_j (by decide), ms_s (by omega), ms_j (by decide)]
  have f14 : ∀ j, j ≠ nd → m1 14 j = m 14 j := fun j hj => by
    rw [← hm1, ms_j (by decide), ms_s (by omega), ms_j (by decide), ms_j (by decide)]
    exact if_neg hj
  have f15 : ∀ j, j ≠ nd → m1 15 j = m 15 j := fun j hj => by
    rw [← hm1, ms_s (by omega), ms_j (by decide), ms_j (by decide), ms_j (by decide)]
    exact if_neg hj
  have l1 : ∀ y : Int32, [y].length = 1 := fun _ => rfl
  have hQ : Qd (tks tx) (nI nd + 1) (m1 12) (m1 13) (m1 14) (m1 15) (s.1 9 ++ [tvl (tks tx) i]) (s.1 10 ++ [0]) (s.1 12 ++ [0]) 1 := by
    refine ⟨?_, ?_, ?_, nodup_app q4 hv, fun k hk => ?_, fun k hk => ?_⟩
    · rw [List.length_append, hnd, l1, nI_1]
    · rw [List.length_append, List.length_append, q2, l1, l1]
    · rw [List.length_append, List.length_append, q3, l1, l1]
    · rw [List.length_append, l1] at hk
      rw [f12, f13, gD_n hnd]
      by_cases e : k = nd
      · rw [if_pos e, if_pos e, if_pos e]
        exact ⟨i, hj, h4, rfl, rfl, rfl⟩
      · rw [if_neg e, if_neg e, if_neg e]
        exact q5 k (by omega)
    · rw [List.length_append, l1] at hk
      rw [f14 k (by omega), f15 k (by omega), gD_app_l (by omega), gD_app_l (by omega)]
      exact q6 k (by omega)
  unfold RR
  rw [e9, e10, e12, mp_s]
  subst hm1
  exact ⟨g1, g2, g3, g4, g5, hQ, g7⟩
/-- the parameters are all read -/
theorem RR.pz {nd : Nat} {d : Int32} (h : RR T tx s a mo bl oe oc 1 m) (hnd : (s.1 9).length = nd + 1) (hn : nd < 1000) (hd : d = nI nd) (h14 : m 14 nd = nI (s.1 14).length) (h15 : m 15 nd = nI (s.1 7).length) {x : Int32} :
    RR T tx (f_4011 d (nI (s.1 14).length) x (nI (s.1 7).length) s) a mo bl oe oc 0 m := by
  obtain ⟨g1, g2, g3, g4, g5, ⟨q1, q2, q3, q4, q5, q6⟩, g7⟩ := h
  have e10 : (f_4011 d (nI (s.1 14).length) x (nI (s.1 7).length) s).1 10 = (s.1 10).set nd (nI (s.1 14).length) := by
    show xset (s.1 10) d _ = _
    rw [hd, xset_n (by omega)]
  have e12 : (f_4011 d (nI (s.1 14).length) x (nI (s.1 7).length) s).1 12 = (s.1 12).set nd (nI (s.1 7).length) := by
    show xset (s.1 12) d _ = _
    rw [hd, xset_n (by omega)]
  refine ⟨g1, g2, g3, g4, g5, ⟨q1, ?_, ?_, q4, q5, fun k hk => ?_⟩, g7⟩
  · rw [e10, List.length_set]; exact q2
  · rw [e12, List.length_set]; exact q3
  · have hk' : k < (s.1 9).length := hk
    rw [e10, e12]
    by_cases e : k = nd
    · subst e
      rw [gD_set_s (by omega), gD_set_s (by omega)]
      exact ⟨h14, h15⟩
    · rw [gD_set_n (fun q => e q.symm), gD_set_n (fun q => e q.symm)]
      exact q6 k (by omega)
theorem RR.m14 {nd : Nat} (h : RR T tx s a mo bl oe oc 1 m) (hnd : (s.1 9).length = nd + 1) (hn : nd < 1000) {x : Int32} : RR T tx s a mo bl oe oc 1 (ms m 14 (nI nd) x) := by
  obtain ⟨g1, g2, g3, g4, g5, ⟨q1, q2, q3, q4, q5, q6⟩, g7⟩ := h
  refine ⟨g1, g2, g3, g4, g5, ⟨q1, q2, q3, q4, q5, fun k hk => ?_⟩, g7⟩
  rw [ms_s (by omega)]
  show (if k = nd then x else m 14 k) = _ ∧ _
  rw [if_neg (by omega)]
  exact q6 k hk
end DF
