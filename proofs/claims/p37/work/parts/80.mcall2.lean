/-! the reference: calls, levels, blocks -/
section CL
variable {tx : List Int32} {s : Sx} {a : Nat} {mo bl : List Ae} {oe oc : Nat → Prop} {pd : Nat} {m : Mx}
theorem gD_n {l : List Int32} {x : Int32} {k n : Nat} (h : l.length = n) : (l ++ [x]).getD k 0 = if k = n then x else l.getD k 0 := by
  by_cases e : k = n
  · rw [if_pos e, e, ← h, gD_app_r]
  · rw [if_neg e]
    rcases Nat.lt_or_ge k l.length with q | q
    · exact gD_app_l q
    · rw [List.getD_eq_getElem?_getD, List.getElem?_eq_none (by rw [List.length_append]; show l.length + 1 ≤ k; omega), List.getD_eq_getElem?_getD, List.getElem?_eq_none q]
theorem ca3 {x y z : Int32} (h15 : (s.1 15).length < 150) (h16 : (s.1 16).length < 150) (h17 : (s.1 17).length < 150) : (au_ca 17 z (au_ca 16 y (au_ca 15 x s))).1 15 = s.1 15 ++ [x] ∧ (au_ca 17 z (au_ca 16 y (au_ca 15 x s))).1 16 = s.1 16 ++ [y] ∧ (au_ca 17 z (au_ca 16 y (au_ca 15 x s))).1 17 = s.1 17 ++ [z] := by
  refine ⟨?_, ?_, ?_⟩
  · show xadd 150 (s.1 15) x = _
    exact xadd_e h15
  · show xadd 150 (s.1 16) y = _
    exact xadd_e h16
  · show xadd 150 (s.1 17) z = _
    exact xadd_e h17
theorem Qk_new {i nc : Nat} {c : Int32} {P Z N C P' Z' N' : Nat → Int32} {r0 r1 r15 r16 r17 : List Int32} (h : Qk (tks tx) c P Z N C a r0 r1 r15 r16 r17 oc) (hnc : r15.length = nc) (hi : i < a) (hj : i + 1 < (tks tx).length) (h4 : tkd (tks tx) i = 4) (h0 : r0.getD i 0 = 35) (h1 : r1.getD i 0 = tvl (tks tx) i)
    (f16 : ∀ j, P' j = if j = nc then nI (tpl (tks tx) i) else P j) (f17 : ∀ j, Z' j = if j = nc then nI (ten (tks tx) i - tpl (tks tx) i) else Z j) (f18 : ∀ j, N' j = if j = nc then 0 else N j) :
    Qk (tks tx) (nI nc + 1) P' Z' N' C a r0 r1 (r15 ++ [nI i]) (r16 ++ [0]) (r17 ++ [0]) (fun k => k = nc ∨ oc k) := by
  obtain ⟨q1, q2, q3, q4, q5⟩ := h
  have l1 : [nI i].length = 1 := rfl
  refine ⟨?_, ?_, ?_, ?_, ?_⟩
  · rw [List.length_append, hnc, nI_1, l1]
  · rw [List.length_append, List.length_append, q2, l1]; rfl
  · rw [List.length_append, List.length_append, q3, l1]; rfl
  · intro k hk
    rw [List.length_append, l1] at hk
    rw [f16, f17, gD_n hnc]
    by_cases e : k = nc
    · rw [if_pos e, if_pos e, if_pos e]
      exact ⟨i, hi, hj, rfl, h4, h0, h1, rfl, rfl⟩
    · rw [if_neg e, if_neg e, if_neg e]
      exact q4 k (by omega)
  · intro k hk ho
    rw [List.length_append, l1] at hk
    have e : k ≠ nc := fun q => ho (Or.inl q)
    rw [f18, gD_n (n := nc) (by rw [q2]; exact hnc), gD_n (n := nc) (by rw [q3]; exact hnc), if_neg e, if_neg e, if_neg e]
    exact q5 k (by omega) (fun r => ho (Or.inr r))
theorem Qo_new {nc n : Nat} {y : Int32} {K D G K' D' G' : Nat → Int32} (h : Qo K D G mo) (hl : mo.length = n) (hn : nc < 110) (f20 : ∀ j, K' j = if j = n then 42 else K j) (f21 : ∀ j, D' j = if j = n then nI nc else D j) (f18 : ∀ j, G' j = if j = nc then 0 else G j)
    (hq : ∀ x, x ∈ mo → x.1 = 42 → ∃ k, x.2.1 = nI k ∧ k < nc) : Qo K' D' G' ((42, nI nc, 0, y, 0, 0) :: mo) := by
  have ho : odm (42, nI nc, 0, y, 0, 0) = nI nc := by
    unfold odm
    dsimp only
    rw [if_neg (by decide), if_pos rfl]
  refine ⟨?_, ?_, ?_, ?_⟩
  · rw [f20, if_pos hl]
    rfl
  · rw [f21, if_pos hl, ho]
  · intro _
    refine ⟨nc, rfl, hn, ?_⟩
    rw [f18, if_pos rfl]
  · refine h.up (fun j hj => ?_) (fun x hx h42 k hk hk2 => ?_)
    · rw [f20, f21, if_neg (by omega), if_neg (by omega)]
      exact ⟨rfl, rfl⟩
    · obtain ⟨k', w1, w2⟩ := hq x hx h42
      have : k = k' := (nI_eq (by omega) (by omega)).1 (hk.symm.trans w1)
      rw [f18, if_neg (by omega)]
def MC (nc : Nat) (p z : Int32) (m : Mx) : Mx := mp (MO 42 (nI nc) (ms (ms (ms m 16 (nI nc) p) 17 (nI nc) z) 18 (nI nc) 0)) 27 (nI nc + 1)
theorem MC_f {nc : Nat} {p z : Int32} {o : Nat} (hn : nc < 110) (h35 : mf m 35 = nI o) (ho : o < 1000) :
    (∀ j, MC nc p z m 16 j = if j = nc then p else m 16 j) ∧ (∀ j, MC nc p z m 17 j = if j = nc then z else m 17 j) ∧ (∀ j, MC nc p z m 18 j = if j = nc then 0 else m 18 j) ∧
    (∀ j, MC nc p z m 20 j = if j = o then 42 else m 20 j) ∧ (∀ j, MC nc p z m 21 j = if j = o then nI nc else m 21 j) ∧ MC nc p z m 0 27 = nI nc + 1 ∧ MC nc p z m 0 35 = nI (o + 1) := by
  have f35 : mf (ms (ms (ms m 16 (nI nc) p) 17 (nI nc) z) 18 (nI nc) 0) 35 = nI o := h35
  refine ⟨fun j => ?_, fun j => ?_, fun j => ?_, fun j => ?_, fun j => ?_, ?_, ?_⟩
  · unfold MC MO
    rw [mp_j (by decide), mp_j (by decide), ms_j (by decide), ms_j (by decide), ms_j (by decide), ms_j (by decide), ms_s (by omega)]
  · unfold MC MO
    rw [mp_j (by decide), mp_j (by decide), ms_j (by decide), ms_j (by decide), ms_j (by decide), ms_s (by omega), ms_j (by decide)]
  · unfold MC MO
    rw [mp_j (by decide), mp_j (by decide), ms_j (by decide), ms_j (by decide), ms_s (by omega), ms_j (by decide), ms_j (by decide)]
  · unfold MC MO
    rw [mp_j (by decide), mp_j (by decide), ms_j (by decide), f35, ms_s (by omega), ms_j (by decide), ms_j (by decide), ms_j (by decide)]
  · unfold MC MO
    rw [mp_j (by decide), mp_j (by decide), f35, ms_s (by omega), ms_j (by decide), ms_j (by decide), ms_j (by decide), ms_j (by decide)]
  · unfold MC
    rw [mp_s]
  · unfold MC MO
    rw [mp_n (by decide), mp_s, f35, nI_1]
/-- a call is noted -/
theorem RR.cal {i nc : Nat} {y : Int32} (h : RR (tks tx) tx s a mo bl oe oc pd m) (hnc : (s.1 15).length = nc) (hn : nc < 110) (hi : i < a) (hj : i + 1 < (tks tx).length) (h4 : tkd (tks tx) i = 4) (h0 : (s.1 0).getD i 0 = 35) (h1 : (s.1 1).getD i 0 = tvl (tks tx) i) (hl : mo.length < 1000)
    (hq : ∀ x, x ∈ mo → x.1 = 42 → ∃ k, x.2.1 = nI k ∧ k < nc) :
    RR (tks tx) tx (au_ca 17 0 (au_ca 16 0 (au_ca 15 (nI i) s))) a ((42, nI nc, 0, y, 0, 0) :: mo) bl oe (fun k => k = nc ∨ oc k) pd (MC nc (nI (tpl (tks tx) i)) (nI (ten (tks tx) i - tpl (tks tx) i)) m) := by
  obtain ⟨g1, g2, g3, g4, g5, g6, hQ, ⟨q6, q7⟩, g9⟩ := h
  obtain ⟨f16, f17, f18, f20, f21, f27, f35⟩ := MC_f (p := nI (tpl (tks tx) i)) (z := nI (ten (tks tx) i - tpl (tks tx) i)) hn q6 hl
  obtain ⟨e15, e16, e17⟩ := ca3 (s := s) (x := nI i) (y := 0) (z := 0) (by omega) (by rw [hQ.2.1]; omega) (by rw [hQ.2.2.1]; omega)
  have A7 := Qk_new hQ hnc hi hj h4 h0 h1 f16 f17 f18
  have A8 := Qo_new (y := y) q7 rfl hn f20 f21 f18 hq
  unfold RR
  rw [e15, e16, e17, f27, f35]
  exact ⟨g1, g2, g3, g4, g5, g6, A7, ⟨rfl, A8⟩, g9⟩
/-- the count of a call's arguments is noted -/
theorem RR.giv {k : Nat} {n : Int32} {xr : Int32 × Int32 × Int32} (h : RR (tks tx) tx s a ((42, nI k, n, xr) :: mo) bl oe oc pd m) (hk : k < 110) (ho : oc k) (hq : ∀ x, x ∈ mo → x.1 = 42 → ∃ j, x.2.1 = nI j ∧ j < k) {x : Int32} :
    RR (tks tx) tx s a ((42, nI k, x, xr) :: mo) bl oe oc pd (ms m 18 (nI k) x) := by
  obtain ⟨g1, g2, g3, g4, g5, g6, ⟨q1, q2, q3, q4, q5⟩, ⟨q6, q7⟩, g9⟩ := h
  have f18 : ms m 18 (nI k) x 18 = fun j => if j = k then x else m 18 j := ms_s (by omega)
  refine ⟨g1, g2, g3, g4, g5, g6, ⟨q1, q2, q3, q4, fun j hj hn => ?_⟩, ⟨q6, ?_⟩, g9⟩
  · rw [f18]
    show (if j = k then x else m 18 j) = _ ∧ _
    rw [if_neg (fun e : j = k => hn (by rw [e]; exact ho))]
    exact q5 j hj hn
  · obtain ⟨w1, w2, w3, w4⟩ := q7
    refine ⟨w1, w2, fun _ => ⟨k, rfl, hk, ?_⟩, ?_⟩
    · rw [f18]
      show (if k = k then x else _) = x
      rw [if_pos rfl]
    · refine w4.up (fun _ _ => ⟨rfl, rfl⟩) (fun y hy h42 j hj hj2 => ?_)
      obtain ⟨j', v1, v2⟩ := hq y hy h42
      have : j = j' := (nI_eq (by omega) (by omega)).1 (hj.symm.trans v1)
      rw [f18]
      show (if j = k then x else m 18 j) = _
      rw [if_neg (by omega)]
/-- a call is closed -/
theorem RR.cls {k : Nat} {n w st : Int32} {xr : Int32 × Int32 × Int32} (h : RR (tks tx) tx s a ((42, nI k, n, xr) :: mo) bl oe oc pd m) (hk : k < 110) {oc' : Nat → Prop} (ho : ∀ j, ¬ oc' j → j = k ∨ ¬ oc j) (ha : a < 300) (hw : w = wm ((s.1 0).getD a 0)) (hc : (s.1 7).length < 600) :
    RR (tks tx) tx (au_clz (nI k) n s) (a + 1) mo bl oe oc' pd (ms (MA 10 0 (mp (mp (MK w st m) 35 (mf (MK w st m) 35 - 1)) 33 (mf (mp (MK w st m) 35 (mf (MK w st m) 35 - 1)) 33 - 1))) 19 (nI k) (nI (s.1 7).length)) := by
  have hG : m 18 k = n := by
    obtain ⟨k', e1, e2, e3⟩ := h.2.2.2.2.2.2.2.1.2.2.2.1 rfl
    have : k = k' := (nI_eq (by omega) (by omega)).1 e1
    rw [this]
    exact e3
  have hR := ((((h.nx (w := w) (st := st) ha hw).pop).f (f := 33) (x := mf (mp (MK w st m) 35 (mf (MK w st m) 35 - 1)) 33 - 1) (by decide)).i (s' := au_dn (au_nx s)) rfl).cd (c := 15) (x := 0) (w := 10) (y := 0) hc rfl rfl
  have hm2 : mp (mp (MK w st m) 35 (mf (MK w st m) 35 - 1)) 33 (mf (mp (MK w st m) 35 (mf (MK w st m) 35 - 1)) 33 - 1) 18 = m 18 := rfl
  generalize mp (mp (MK w st m) 35 (mf (MK w st m) 35 - 1)) 33 (mf (mp (MK w st m) 35 (mf (MK w st m) 35 - 1)) 33 - 1) = m2 at *
  obtain ⟨g1, g2, g3, g4, g5, g6, ⟨q1, q2, q3, q4, q5⟩, g8⟩ := hR
  have q2' : (s.1 16).length = (s.1 15).length := q2
  have q3' : (s.1 17).length = (s.1 15).length := q3
  have e16 : (au_clz (nI k) n s).1 16 = (s.1 16).set k n := by
    show xset (s.1 16) (nI k) n = _
    rw [xset_n (by omega)]
  have e17 : (au_clz (nI k) n s).1 17 = (s.1 17).set k (nI (s.1 7).length) := by
    have e7 : (au_cd 15 0 (au_rs 16 (nI k) n (au_dn (au_nx s)))).1 7 = s.1 7 ++ [15] := xadd_e hc
    show xset (s.1 17) (nI k) (au_cn (au_cd 15 0 (au_rs 16 (nI k) n (au_dn (au_nx s))))) = _
    unfold au_cn
    rw [e7, List.length_append, show [(15 : Int32)].length = 1 from rfl, nI_pred, xset_n (by omega)]
  refine ⟨g1, g2, g3, g4, g5, g6, ?_, g8⟩
  rw [e16, e17]
  refine ⟨q1, ?_, ?_, q4, fun j hj hn => ?_⟩
  · rw [List.length_set]; exact q2
  · rw [List.length_set]; exact q3
  · have hj' : j < (s.1 15).length := hj
    show MA 10 0 m2 18 j = _ ∧ ms (MA 10 0 m2) 19 (nI k) (nI (s.1 7).length) 19 j = _
    rw [ms_s (by omega)]
    by_cases e : j = k
    · subst e
      rw [gD_set_s (by omega), gD_set_s (by omega)]
      refine ⟨?_, if_pos rfl⟩
      show m2 18 j = n
      rw [hm2]
      exact hG
    · rw [gD_set_n (fun q => e q.symm), gD_set_n (fun q => e q.symm)]
      show _ ∧ (if j = k then _ else _) = _
      rw [if_neg e]
      exact q5 j hj (fun r => (ho j hn).elim e (fun x => x r))
end CL
