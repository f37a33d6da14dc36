/-! the reference ends operations, operands; names and calls -/
theorem lx_tk_28 {tx : List Int32} {q : Nat} : (lx_tk tx q).1 = 28 ↔ tg tx q = 40 := by
  constructor
  · intro h
    unfold lx_tk at h
    by_cases hd : isD (tg tx q)
    · rw [if_pos hd] at h
      exfalso
      revert h
      show (if _ then (3 : Int32) else 2) = 28 → False
      split <;> decide
    · rw [if_neg hd] at h
      by_cases hl : isL (tg tx q)
      · rw [if_pos hl] at h
        exfalso
        revert h
        show lx_kw _ = 28 → False
        unfold lx_kw
        repeat (refine ite_P (P := fun x => x = 28 → False) (by decide) ?_)
        decide
      · rw [if_neg hl] at h
        by_cases h2 : lx_2 (tg tx q) (tg tx (q + 1)) = 1
        · rw [if_pos h2] at h
          have h' : lx_1 (tg tx q) = 28 := h
          by_cases e : tg tx q = 40
          · exact e
          · exfalso
            revert h'
            unfold lx_1 f_9013
            refine ite_P (P := fun x => x = 28 → False) (by decide) ?_
            refine ite_P (P := fun x => x = 28 → False) (by decide) ?_
            refine ite_P (P := fun x => x = 28 → False) (by decide) ?_
            rw [if_neg e]
            repeat (refine ite_P (P := fun x => x = 28 → False) (by decide) ?_)
            decide
        · rw [if_neg h2] at h
          exfalso
          have h' : lx_2 (tg tx q) (tg tx (q + 1)) = 28 := h
          revert h'
          unfold lx_2 f_9012
          refine ite_P (P := fun x => x = 28 → False) ?_ ?_
          · repeat (refine ite_P (P := fun x => x = 28 → False) (by decide) ?_)
            decide
          · refine ite_P (P := fun x => x = 28 → False) ?_ (by decide)
            repeat (refine ite_P (P := fun x => x = 28 → False) (by decide) ?_)
            decide
  · intro h
    unfold lx_tk
    rw [h, if_neg (by decide), if_neg (by decide), if_pos (lx_2_s (by decide) (by decide) (by decide) (by decide) (by decide) (by decide))]
    rfl
theorem opb_12014 {tx : List Int32} {m : Mx} {p : Nat} (h : MT tx m) (h7 : mf m 7 = nI p) (hp : p ≤ tx.length) : f_12014 m = some (if (lx_nx tx p).1 = 28 then 1 else 0) := by
  have hn := h.1
  have hb := lx_sk_b tx (tx.length - p) p
  unfold f_12014 f_12013
  rw [h7, sk_12013 h (nI p) (tx.length - p) 1000 p (by omega) (by omega), bP_some, h.f4]
  unfold lx_nx
  generalize lx_sk tx (tx.length - p) p = q at *
  by_cases e : tx.length ≤ q
  · rw [if_pos (nI_le e (by omega)), if_pos e, if_neg (show ¬ (0 : Int32) = 28 by decide)]
  · rw [if_neg (nI_ge (by omega) (by omega)), if_neg e, gd_e (vi_n (by omega) (by omega)), h.g (by omega)]
    by_cases c : tg tx q = 40
    · rw [if_pos c, if_pos (lx_tk_28.2 c)]
    · rw [if_neg c, if_neg (fun r => c (lx_tk_28.1 r))]
theorem lvK_31 {k : Int32} (m : Mx) (h : 1 ≤ (lvK k).toInt) (h6 : (lvK k).toInt ≤ 6) : f_12031 (km k) m = lvK k ∧ ¬ (40 : Int32) ≤ km k ∧ okm k = km k ∧ ¬ (40 : Int32) ≤ k := by
  have hk : k = 12 ∨ k = 13 ∨ k = 14 ∨ k = 15 ∨ k = 16 ∨ k = 17 ∨ k = 18 ∨ k = 19 ∨ k = 20 ∨ k = 21 ∨ k = 22 ∨ k = 23 ∨ k = 24 := by
    by_cases c12 : k = 12
    · exact Or.inl c12
    by_cases c13 : k = 13
    · simp [c13]
    by_cases c14 : k = 14
    · simp [c14]
    by_cases c15 : k = 15
    · simp [c15]
    by_cases c16 : k = 16
    · simp [c16]
    by_cases c17 : k = 17
    · simp [c17]
    by_cases c18 : k = 18
    · simp [c18]
    by_cases c19 : k = 19
    · simp [c19]
    by_cases c20 : k = 20
    · simp [c20]
    by_cases c21 : k = 21
    · simp [c21]
    by_cases c22 : k = 22
    · simp [c22]
    by_cases c23 : k = 23
    · simp [c23]
    by_cases c24 : k = 24
    · simp [c24]
    exfalso
    revert h h6
    unfold lvK f_9003
    rw [if_neg c12, if_neg c13, if_neg c14, if_neg c15, if_neg c16, if_neg c17, if_neg c18, if_neg c19, if_neg c20, if_neg c21, if_neg c22, if_neg c23, if_neg c24]
    repeat (refine ite_P (P := fun x => 1 ≤ x.toInt → x.toInt ≤ 6 → False) (by decide) ?_)
    decide
  rcases hk with rfl | rfl | rfl | rfl | rfl | rfl | rfl | rfl | rfl | rfl | rfl | rfl | rfl <;> exact ⟨rfl, by decide, rfl, by decide⟩
/-- an entry of what is open, as it must be -/
def OpV (s : Sx) (x : Ae) : Prop :=
  (40 ≤ x.1 ∧ lvK x.1 = 0 ∨ 1 ≤ (lvK x.1).toInt ∧ (lvK x.1).toInt ≤ 6) ∧
    (x.1 = 23 ∨ x.1 = 24 → (∃ i, x.2.1 = nI i ∧ i < 1000 ∧ (s.1 0).getD i 0 ≠ 35 ∧ (s.1 0).getD i 0 ≠ 4) ∧ ∃ k, x.2.2.1 = nI k ∧ k < (s.1 7).length ∧ (s.1 7).getD k 0 ≠ 8 ∧ (s.1 7).getD k 0 ≠ 9)
theorem OpV.cd {s : Sx} {x : Ae} (h : OpV s x) {c y : Int32} (hc : (s.1 7).length < 600) : OpV (au_cd c y s) x := by
  refine ⟨h.1, fun e => ?_⟩
  obtain ⟨h1, k, h2, h3, h4⟩ := h.2 e
  have e7 : (au_cd c y s).1 7 = s.1 7 ++ [c] := xadd_e hc
  refine ⟨h1, k, h2, ?_, ?_⟩
  · rw [e7, List.length_append]
    omega
  · rw [e7, gD_app_l h3]
    exact h4
theorem OpV.same {s s' : Sx} {x : Ae} (h : OpV s x) (h0 : s'.1 0 = s.1 0) (h7 : s'.1 7 = s.1 7) : OpV s' x := by
  unfold OpV
  rw [h0, h7]
  exact h
theorem len_cd {s : Sx} {c y : Int32} (hc : (s.1 7).length < 600) : ((au_cd c y s).1 7).length = (s.1 7).length + 1 := by
  have e7 : (au_cd c y s).1 7 = s.1 7 ++ [c] := xadd_e hc
  rw [e7, List.length_append]
  rfl
section FL
variable {T : List Tk} {tx : List Int32} {a : Nat} {bl : List Ae} {oe oc : Nat → Prop} {pd : Nat}
theorem top_12025 {s : Sx} {mo : List Ae} {m : Mx} {x : Ae} (h : RR T tx s a (x :: mo) bl oe oc pd m) (hl : mo.length < 100) : f_12025 m = some (okm x.1) := by
  obtain ⟨h1, h2, h3, h4, h5, h6, h7, ⟨q1, q2⟩, h8⟩ := h
  have f1 : mf m 35 = nI (mo.length + 1) := q1
  unfold f_12025
  rw [f1, if_neg (nI_ne0 (by omega) (by omega)), nI_pred, gd_e (vi_n (by omega) (by omega))]
  unfold mg
  rw [nI_C (by omega), q2.1]
theorem top_nil {s : Sx} {m : Mx} (h : RR T tx s a [] bl oe oc pd m) : f_12025 m = some (-1) := by
  obtain ⟨h1, h2, h3, h4, h5, h6, h7, ⟨q1, q2⟩, h8⟩ := h
  have f1 : mf m 35 = nI 0 := q1
  unfold f_12025
  rw [f1, if_pos (by decide)]
theorem fl_12032 {lv : Int32} (hlv : 1 ≤ lv.toInt) : ∀ (mo : List Ae) (n : Nat) (s : Sx) (m : Mx), RR T tx s a mo bl oe oc pd m → (∀ x, x ∈ mo → OpV s x) → mo.length < 100 → (s.1 7).length + mo.length ≤ 600 → mo.length < n →
    ∃ m', f_12032_L0 n lv m = some m' ∧ RR T tx (au_fl lv mo s).2 a (au_fl lv mo s).1 bl oe oc pd m' ∧ (∀ f, f ≠ 11 → f ≠ 35 → m' 0 f = m 0 f) := by
  intro mo
  induction mo with
  | nil =>
    intro n s m h hV hl hc hn
    obtain ⟨n, rfl⟩ : ∃ y, n = y + 1 := ⟨n - 1, by omega⟩
    refine ⟨m, ?_, h, fun _ _ _ => rfl⟩
    rw [f_12032_L0, top_nil h, bP_some, if_pos rfl]
  | cons x r ih =>
    intro n s m h hV hl hc hn
    obtain ⟨n, rfl⟩ : ∃ y, n = y + 1 := ⟨n - 1, by omega⟩
    have hl' : r.length + 1 < 100 := hl
    have hc' : (s.1 7).length + (r.length + 1) ≤ 600 := hc
    have hx := hV x (List.mem_cons_self ..)
    rw [f_12032_L0, top_12025 h (by omega), bP_some]
    rcases hx.1 with ⟨h40, h0⟩ | ⟨hb1, hb6⟩
    · have hok : okm x.1 = x.1 := if_pos h40
      have hfl : au_fl lv (x :: r) s = (x :: r, s) := by
        refine if_neg (fun q => ?_)
        rw [h0, i_le] at q
        have : (0 : Int32).toInt = 0 := rfl
        omega
      rw [hok, if_neg (fun e => by rw [e] at h40; exact absurd h40 (by decide)), bP_some, if_pos h40, hfl]
      exact ⟨m, rfl, h, fun _ _ _ => rfl⟩
    · obtain ⟨k1, k2, k3, k4⟩ := lvK_31 m hb1 hb6
      have hne : ¬ km x.1 = -1 := by
        intro e
        have h5 := k1
        rw [e] at h5
        have : f_12031 (-1) m = 0 := rfl
        rw [this] at h5
        rw [← h5] at hb1
        exact absurd hb1 (by decide)
      rw [k3, if_neg hne, bP_some, if_neg k2, bP_some, k1]
      by_cases hlt : lvK x.1 < lv
      · have hfl : au_fl lv (x :: r) s = (x :: r, s) := by
          refine if_neg (fun q => ?_)
          rw [i_le] at q
          rw [i_lt] at hlt
          omega
        rw [if_pos hlt, hfl]
        exact ⟨m, rfl, h, fun _ _ _ => rfl⟩
      · have hfl : au_fl lv (x :: r) s = au_fl lv r (au_pop x s) := by
          refine if_pos ?_
          rw [i_lt] at hlt
          rw [i_le]
          omega
        rw [if_neg hlt, bS_eq, hfl]
        have hc7 : (s.1 7).length < 600 := by omega
        have hK : m 20 r.length = okm x.1 := h.2.2.2.2.2.2.2.1.2.1
        have hD : m 21 r.length = odm x := h.2.2.2.2.2.2.2.1.2.2.1
        have hp := h.pop
        generalize hm1 : mp m 35 (mf m 35 - 1) = m1 at *
        have f35 : mf m1 35 = nI r.length := hp.2.2.2.2.2.2.2.1.1
        have g20 : mg m1 20 (mf m1 35) = km x.1 := by
          rw [f35]
          unfold mg
          rw [nI_C (by omega), ← k3, ← hK, ← hm1]
          rfl
        have g21 : mg m1 21 (mf m1 35) = odm x := by
          rw [f35]
          unfold mg
          rw [nI_C (by omega), ← hD, ← hm1]
          rfl
        have F1 : ∀ f, f ≠ 35 → m1 0 f = m 0 f := fun f hf => by
          rw [← hm1]
          exact mp_n hf
        have v35 : vi (mf m1 35) 100 := by rw [f35]; exact vi_n (by omega) (by omega)
        rw [gd_e v35, gd_e v35, gd_e v35, g20]
        have f11 : mf m1 11 = nI (s.1 7).length := hp.2.1.1
        by_cases h23 : x.1 = 23 ∨ x.1 = 24
        · obtain ⟨⟨i, e1, e2, e3⟩, k, w1, w2, w3, w4⟩ := hx.2 h23
          have hod : odm x = nI k := by
            unfold odm
            rw [if_neg, if_neg, if_neg, if_pos h23, w1]
            all_goals (intro e; rw [e] at h23; revert h23; decide)
          have hJ : ∀ l, f_12032_J66 (f_12032_L0 n) l m1 = f_12032_L0 n l (ms (MA 8 0 m1) 5 (nI k) (mf (MA 8 0 m1) 11)) := by
            intro l
            unfold f_12032_J66
            rw [MA_e f11 (by omega), bO_some]
            have g35 : mf (MA 8 0 m1) 35 = nI r.length := f35
            have gk : mg (MA 8 0 m1) 21 (nI r.length) = nI k := by
              rw [← hod, ← g21, f35]
              rfl
            rw [g35, gd_e (vi_n (by omega) (by omega)), gk, gd_e (vi_n (by omega) (by omega)), bS_eq]
          have hb : (if km x.1 = 22 then f_12032_J66 (f_12032_L0 n) lv m1 else if km x.1 = 23 then f_12032_J66 (f_12032_L0 n) lv m1 else bO (f_12021 5 (km x.1) m1) fun s13 r13 => f_12032_L0 n lv s13) = f_12032_L0 n lv (ms (MA 8 0 m1) 5 (nI k) (mf (MA 8 0 m1) 11)) := by
            rw [← hJ]
            rcases h23 with e | e
            · rw [e]; rfl
            · rw [e]; rfl
          have hR := ((hp.cd (c := 10) (x := 0) (w := 8) (y := 0) hc7 rfl rfl).pt (k := k) (p := x.2.2.1) w1 (by rw [len_cd hc7]; omega) (by rw [len_cd hc7]; omega) (by
            have e7 : (au_cd 10 0 s).1 7 = s.1 7 ++ [10] := xadd_e hc7
            rw [e7, gD_app_l w2]
            exact ⟨w3, w4⟩)).sv (i := i) (t := x.2.1) (x := s.2 2) e1 e2 e3.1
          have hpop : au_pop x s = au_sv x.2.1 (s.2 2) (au_pt x.2.2.1 (au_cd 10 0 s)) := if_pos h23
          rw [← hpop] at hR
          have h7p : (au_pop x s).1 7 = (au_cd 10 0 s).1 7 := by rw [hpop]; rfl
          have h0p : (au_pop x s).1 0 = (au_cd 10 0 s).1 0 := by rw [hpop]; rfl
          obtain ⟨m', u1, u2, u3⟩ := ih n (au_pop x s) _ hR (fun y hy => ((hV y (List.mem_cons_of_mem _ hy)).cd hc7).same h0p h7p) (by omega) (by rw [h7p, len_cd hc7]; omega) (by have : r.length + 1 < n + 1 := hn; omega)
          refine ⟨m', ?_, u2, fun f h11 h35 => ?_⟩
          · rw [← u1]
            exact hb
          · rw [u3 f h11 h35, ms_j (by decide)]
            show mp _ 11 _ 0 f = _
            rw [mp_n h11]
            exact F1 f h35
        · have hn22 : ¬ km x.1 = 22 ∧ ¬ km x.1 = 23 := by
            constructor
            · intro e
              apply h23
              left
              revert e
              unfold km
              rcases (by
                revert hb1 hb6
                exact fun _ _ => Classical.em (x.1 = 23)) with q | q
              · exact fun _ => q
              · intro e
                exfalso
                revert e
                iterate 23 (refine ite_P (P := fun x => x = 22 → False) (by decide) ?_)
                rw [if_neg q]
                repeat (refine ite_P (P := fun x => x = 22 → False) (by decide) ?_)
                decide
            · intro e
              apply h23
              right
              revert e
              unfold km
              rcases Classical.em (x.1 = 24) with q | q
              · exact fun _ => q
              · intro e
                exfalso
                revert e
                iterate 24 (refine ite_P (P := fun x => x = 23 → False) (by decide) ?_)
                rw [if_neg q]
                repeat (refine ite_P (P := fun x => x = 23 → False) (by decide) ?_)
                decide
          rw [if_neg hn22.1, if_neg hn22.2, MA_e f11 (by omega), bO_some]
          have hwm : wm x.1 = km x.1 := by
            unfold wm
            have q : ∀ v : Int32, ¬ (1 ≤ (lvK v).toInt ∧ (lvK v).toInt ≤ 6) → x.1 ≠ v := fun v hv e => hv (e ▸ ⟨hb1, hb6⟩)
            rw [if_neg (q 34 (by decide +kernel)), if_neg (q 35 (by decide +kernel)), if_neg (q 36 (by decide +kernel)), if_neg (q 37 (by decide +kernel)), if_neg (q 38 (by decide +kernel))]
          have hR := hp.cd (c := 9) (x := x.1) (w := 5) (y := km x.1) hc7 rfl (by unfold cdm; rw [if_pos (Or.inr rfl), hwm])
          have hpop : au_pop x s = au_cd 9 x.1 s := if_neg h23
          rw [← hpop] at hR
          obtain ⟨m', u1, u2, u3⟩ := ih n (au_pop x s) _ hR (fun y hy => by rw [hpop]; exact (hV y (List.mem_cons_of_mem _ hy)).cd hc7) (by omega) (by rw [hpop, len_cd hc7]; omega) (by have : r.length + 1 < n + 1 := hn; omega)
          refine ⟨m', u1, u2, fun f h11 h35 => ?_⟩
          rw [u3 f h11 h35]
          show mp _ 11 _ 0 f = _
          rw [mp_n h11]
          exact F1 f h35
end FL
