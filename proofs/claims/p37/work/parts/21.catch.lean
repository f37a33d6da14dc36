/-! handlers of the law's methods with a table -/
theorem ab_hx_link : (∀ E, ab_EX E → Cond.classLink RL (ab_hx E) E ∈ ab_W ∧ ab_hx E ≠ 0 ∧ Cond.castable E E ∈ ab_B) := by
  intro E hE
  rcases hE with rfl | rfl | rfl
  · exact ⟨ab_W_of (i := 1106) (by decide +kernel) rfl, by decide, by decide +kernel⟩
  · exact ⟨ab_W_of (i := 423) (by decide +kernel) rfl, by decide, by decide +kernel⟩
  · exact ⟨ab_W_of (i := 1072) (by decide +kernel) rfl, by decide, by decide +kernel⟩
theorem ab_cat_list {args : Array Value} {s : State} {pc h : Nat} {E : String} (hE : ab_EX E) (hts : ∀ w ∈ ab_W, w.before args s = true) (hNc : ∀ E F, ab_EX E → ab_EX F → E ≠ F → va_Nc E F s) : ∀ xt : List (Nat × Nat × Nat × String), (∀ q ∈ xt, ab_EX q.2.2.2) → ab_hnd xt pc E = some h →
    ∃ pre x suf, tableOf (xt.map (fun q => (q.1, q.2.1, q.2.2.1, ab_hx q.2.2.2))) = pre ++ x :: suf ∧ (∀ z ∈ pre, covers z pc = false ∨ (z.catchType ≠ 0 ∧ ∃ nm : String, (Cond.classLink RL z.catchType nm).before args s = true ∧ va_Nc E nm s)) ∧ covers x pc = true ∧ x.catchType = ab_hx E ∧ x.handlerPc = h
  | [], _, hh => by cases hh
  | q :: r, hx, hh => by
    unfold ab_hnd at hh
    rw [List.find?_cons] at hh
    cases hc : (decide (q.1 ≤ pc) && decide (pc < q.2.1) && (q.2.2.2 == E)) with
    | true =>
      rw [hc] at hh
      simp only [Option.map_some, Option.some.injEq] at hh
      simp only [Bool.and_eq_true, decide_eq_true_eq, beq_iff_eq] at hc
      obtain ⟨⟨c1, c2⟩, c3⟩ := hc
      refine ⟨[], ⟨q.1, q.2.1, q.2.2.1, ab_hx q.2.2.2⟩, tableOf (r.map (fun q => (q.1, q.2.1, q.2.2.1, ab_hx q.2.2.2))), rfl, (fun z hz => by cases hz), ?_, by rw [c3], hh⟩
      simp [covers, c1, c2]
    | false =>
      rw [hc] at hh
      obtain ⟨pre, x, suf, e1, e2, e3, e4, e5⟩ := ab_cat_list hE hts hNc r (fun z hz => hx z (List.mem_cons_of_mem _ hz)) hh
      refine ⟨⟨q.1, q.2.1, q.2.2.1, ab_hx q.2.2.2⟩ :: pre, x, suf, ?_, ?_, e3, e4, e5⟩
      · show _ :: tableOf (r.map (fun q => (q.1, q.2.1, q.2.2.1, ab_hx q.2.2.2))) = _ :: (pre ++ x :: suf)
        rw [e1]
      · intro z hz
        rcases List.mem_cons.mp hz with rfl | hz
        · by_cases hcov : q.1 ≤ pc ∧ pc < q.2.1
          · have hne : ¬ q.2.2.2 = E := by
              intro he
              have : (decide (q.1 ≤ pc) && decide (pc < q.2.1) && (q.2.2.2 == E)) = true := by simp [hcov.1, hcov.2, he]
              rw [hc] at this
              cases this
            have hq := hx q List.mem_cons_self
            exact Or.inr ⟨(ab_hx_link _ hq).2.1, q.2.2.2, hts _ (ab_hx_link _ hq).1, hNc E _ hE hq (fun z => hne z.symm)⟩
          · left
            simp only [covers]
            by_cases h1 : q.1 ≤ pc
            · have h2 : ¬ pc < q.2.1 := fun z => hcov ⟨h1, z⟩
              simp [h2]
            · simp [h1]
        · exact e2 z hz
theorem ab_xt_EX : ab_ML.all (fun K => K.all (fun I => (mXt I).all (fun q => decide (q.2.2.2 = "java/lang/IllegalArgumentException" ∨ q.2.2.2 = "java/lang/IndexOutOfBoundsException" ∨ q.2.2.2 = "java/lang/IllegalStateException")))) = true := by decide +kernel
theorem ab_M_EX {y : Nat} {J : ab_Info} (h : ab_M y = some J) : ∀ q ∈ mXt J, ab_EX q.2.2.2 := by
  unfold ab_M at h
  cases hq : ab_ML[y / 1000]? with
  | none => rw [hq] at h; simp at h
  | some K =>
    rw [hq] at h
    have h1 := List.all_eq_true.mp ab_xt_EX K (List.mem_of_getElem? hq)
    have h2 := List.all_eq_true.mp h1 J (List.mem_of_getElem? h)
    intro q hq2
    have h3 := List.all_eq_true.mp h2 q hq2
    simp only [decide_eq_true_eq] at h3
    exact h3
theorem ab_cat_ok (l : Launch) : ab_CatP l := by
  intro p e R s m args below meth c Q A D cy sp ρ0 z0 z1 t0 I d o scL scX y ws s₁ hC hM ho hx0 B
  obtain ⟨y1, hJ⟩ := hM
  have hok := ab_M_ok hJ
  obtain ⟨hx, hb, hml, hown, hts, hK, hA, hE, hX, hin, hRf, hRl, hz1, ho2⟩ := hC
  obtain ⟨k1, k2, k3, k4, k5, k6, k7, k8, k9, k10, k11, k12, k13⟩ := id hok
  have h13 : o = 13 := ho.trans (k12 hx0).2
  subst h13
  intro E H locs cells slots ls pc h rest ce q9 hEX hh hce hcv hcl kk
  have hw := hts _ k1
  rw [ab_hd_x hx0] at hw
  have htab : c.exceptionTable.toList = tableOf (ab_hh I) := vx_table (x := mNm I) B hw
  obtain ⟨pre, x, suf, e1, e2, e3, e4, e5⟩ := ab_cat_list hEX hts hE.2.2.2.2.2.2.2.2.1 (mXt I) (ab_M_EX hJ) hh
  have hl := ab_hx_link E hEX
  refine vx_catch (own := RL) (name := E) hown pre x suf (htab.trans e1) e2 e3 (by rw [e4]; exact hl.2.1) (by rw [e4]; exact hts _ hl.1) (va_Nw.use (ab_B_on hl.2.2) (hE.2.2.2.2.2.2.2.2.2.2.1 _ hl.2.2)) hce hcv hcl ?_
  rw [e5]
  exact kk
