/-! the reference: an operand ends; what is around; a variable; a call opens and closes -/
/-- what the reference holds open of it -/
def mop (st : Int32) (op : List Ae) : List Ae := if st = 0 ∨ st = 2 ∨ st = 3 ∨ st = 4 ∨ st = 5 ∨ st = 13 then op else op.tail
section EN
variable {T : List Tk} {tx : List Int32} {a : Nat} {bl : List Ae} {oe oc : Nat → Prop} {pd : Nat}
theorem en_12034 : ∀ (mo : List Ae) (n : Nat) (s : Sx) (m : Mx), RR T tx s a mo bl oe oc pd m → (∀ x, x ∈ mo → OpV s x) → mo.length < 100 → (s.1 7).length + mo.length ≤ 600 → mo.length < n → mf m 33 = s.2 4 →
    ∃ m', f_12034_L0 n m = some (m', 1) ∧ RR T tx (au_en bl mo s).1 a (mop (au_en bl mo s).2.1 (au_en bl mo s).2.2.1) bl oe oc pd m' ∧ m' 0 32 = (au_en bl mo s).2.1 ∧ m' 0 33 = (au_en bl mo s).1.2 4 ∧ (∀ f, f ≠ 11 → f ≠ 35 → f ≠ 32 → f ≠ 33 → m' 0 f = m 0 f) := by
  have done : ∀ (mo : List Ae) (s : Sx) (m : Mx), RR T tx s a mo bl oe oc pd m → mf m 33 = s.2 4 → RR T tx s a mo bl oe oc pd (mp m 32 4) ∧ mp m 32 4 0 32 = 4 ∧ mp m 32 4 0 33 = s.2 4 ∧ (∀ f, f ≠ 11 → f ≠ 35 → f ≠ 32 → f ≠ 33 → mp m 32 4 0 f = m 0 f) := by
    intro mo s m h h33
    refine ⟨h.f (by decide), mp_s, ?_, fun f _ _ h32 _ => mp_n h32⟩
    rw [mp_n (by decide)]
    exact h33
  intro mo
  induction mo with
  | nil =>
    intro n s m h hV hl hc hn h33
    obtain ⟨n, rfl⟩ : ∃ y, n = y + 1 := ⟨n - 1, by omega⟩
    obtain ⟨d1, d2, d3, d4⟩ := done [] s m h h33
    refine ⟨mp m 32 4, ?_, d1, d2, d3, d4⟩
    rw [f_12034_L0, top_nil h, bP_some, if_neg (by decide), bS_eq, top_nil d1, bP_some, if_neg (by decide), bP_some, if_neg (by decide)]
  | cons x r ih =>
    intro n s m h hV hl hc hn h33
    obtain ⟨n, rfl⟩ : ∃ y, n = y + 1 := ⟨n - 1, by omega⟩
    obtain ⟨x0, xr⟩ := x
    have hl' : r.length + 1 < 100 := hl
    have hc' : (s.1 7).length + (r.length + 1) ≤ 600 := hc
    have hc7 : (s.1 7).length < 600 := by omega
    have hx := hV (x0, xr) (List.mem_cons_self ..)
    have hK : m 20 r.length = okm x0 := h.2.2.2.2.2.2.2.1.2.1
    have hD : m 21 r.length = odm (x0, xr) := h.2.2.2.2.2.2.2.1.2.2.1
    rw [f_12034_L0, top_12025 h (by omega), bP_some]
    by_cases c40 : x0 = 40
    · subst c40
      have hen : au_en bl ((40, xr) :: r) s = au_en bl r (au_cd 8 xr.1 (au_dn s)) := by
        conv => lhs; unfold au_en
        rw [if_pos rfl]
      rw [hen, if_pos (show okm 40 = 40 from rfl), bS_eq, bS_eq]
      have hp := h.pop
      generalize hm1 : mp m 35 (mf m 35 - 1) = m1 at *
      have hp2 : RR T tx (au_dn s) a r bl oe oc pd (mp m1 33 (mf m1 33 - 1)) := (hp.f (f := 33) (x := mf m1 33 - 1) (by decide)).i rfl
      have k33 : mf m1 33 = s.2 4 := by rw [← hm1]; exact h33
      generalize hm2 : mp m1 33 (mf m1 33 - 1) = m2 at *
      have f35 : mf m2 35 = nI r.length := hp2.2.2.2.2.2.2.2.1.1
      have g21 : mg m2 21 (nI r.length) = wm xr.1 := by
        unfold mg
        rw [nI_C (by omega), ← hm2, ← hm1]
        exact hD
      have f11 : mf m2 11 = nI (s.1 7).length := hp2.2.1.1
      rw [f35, gd_e (vi_n (by omega) (by omega)), g21, MA_e f11 (by omega), bO_some]
      have hR := hp2.cd (c := 8) (x := xr.1) (w := 4) (y := wm xr.1) hc7 rfl (by unfold cdm; rw [if_pos (Or.inl rfl)])
      have h33' : mf (MA 4 (wm xr.1) m2) 33 = (au_cd 8 xr.1 (au_dn s)).2 4 := by
        show m2 0 33 = s.2 4 - 1
        rw [← hm2, mp_s, k33]
      obtain ⟨m', u1, u2, u3, u4, u5⟩ := ih n (au_cd 8 xr.1 (au_dn s)) _ hR (fun y hy => (OpV.same (s' := au_dn s) (hV y (List.mem_cons_of_mem _ hy)) rfl rfl).cd hc7) (by omega) (by rw [len_cd (s := au_dn s) hc7]; show (s.1 7).length + 1 + _ ≤ _; omega) (by have : r.length + 1 < n + 1 := hn; omega) h33'
      refine ⟨m', u1, u2, u3, u4, fun f h11 h35 h32 h33 => ?_⟩
      rw [u5 f h11 h35 h32 h33]
      show mp _ 11 _ 0 f = _
      rw [mp_n h11]
      show m2 0 f = _
      rw [← hm2, mp_n h33, ← hm1, mp_n h35]
    · have hok : ∀ v : Int32, (40 : Int32) ≤ v → (okm x0 = v ↔ x0 = v) := by
        intro v hv
        rcases hx.1 with ⟨h40, h0⟩ | ⟨hb1, hb6⟩
        · rw [show okm x0 = x0 from if_pos h40]
        · obtain ⟨k1, k2, k3, k4⟩ := lvK_31 m hb1 hb6
          constructor
          · intro e
            have e2 : km x0 = v := k3.symm.trans e
            rw [e2] at k2
            exact absurd hv k2
          · intro e
            have e2 : x0 = v := e
            have k4' : ¬ (40 : Int32) ≤ x0 := k4
            rw [e2] at k4'
            exact absurd hv k4'
      obtain ⟨d1, d2, d3, d4⟩ := done _ s m h h33
      rw [if_neg (fun e => c40 ((hok 40 (by decide)).1 e)), bS_eq, top_12025 d1 (by omega), bP_some, bP_some]
      have f35 : mf (mp m 32 4) 35 = nI (r.length + 1) := d1.2.2.2.2.2.2.2.1.1
      by_cases c48 : x0 = 48
      · subst c48
        have hen : au_en bl ((48, xr) :: r) s = (au_dn s, 6, (49, xr) :: r, bl) := by
          unfold au_en
          dsimp only
          rw [if_neg (by decide), if_pos rfl]
        rw [hen, if_pos (show okm 48 = 48 from rfl), bS_eq, bS_eq, bS_eq]
        refine ⟨_, rfl, ?_, ?_, ?_, ?_⟩
        · exact (((d1.pop).f (f := 33) (by decide)).f (f := 32) (by decide)).i rfl
        · exact mp_s
        · rw [mp_n (by decide), mp_s]
          show mf m 33 - 1 = s.2 4 - 1
          rw [h33]
        · intro f h11 h35 h32 h33
          rw [mp_n h32, mp_n h33, mp_n h35, mp_n h32]
      · rw [if_neg (fun e => c48 ((hok 48 (by decide)).1 e))]
        by_cases c50 : x0 = 50
        · subst c50
          have hen : au_en bl ((50, xr) :: r) s = (au_cd 7 0 s, 14, (54, xr) :: r, bl) := by
            unfold au_en
            dsimp only
            rw [if_neg (by decide), if_neg (by decide), if_pos rfl]
          have f11 : mf (mp (mp m 32 4) 35 (mf (mp m 32 4) 35 - 1)) 11 = nI (s.1 7).length := d1.2.1.1
          rw [hen, if_pos (show okm 50 = 50 from rfl), bS_eq, MA_e f11 (by omega), bO_some, bS_eq]
          refine ⟨_, rfl, ?_, mp_s, ?_, ?_⟩
          · exact ((d1.pop).cd (c := 7) (x := 0) (w := 16) (y := 0) hc7 rfl rfl).f (f := 32) (by decide)
          · rw [mp_n (by decide)]
            exact h33
          · intro f h11 h35 h32 h33
            rw [mp_n h32]
            show mp _ 11 _ 0 f = _
            rw [mp_n h11]
            show mp _ 35 _ 0 f = _
            rw [mp_n h35, mp_n h32]
        · have hen : au_en bl ((x0, xr) :: r) s = (s, 4, (x0, xr) :: r, bl) := by
            unfold au_en
            dsimp only
            rw [if_neg c40, if_neg c48, if_neg c50]
          rw [hen, if_neg (fun e => c50 ((hok 50 (by decide)).1 e))]
          exact ⟨_, rfl, d1, d2, d3, d4⟩
theorem ar_12033 : ∀ (mo : List Ae) (n : Nat) (s s' : Sx) (m : Mx) (e : Ae) (r : List Ae), Qo (m 20) (m 21) (m 18) mo → (∀ x, x ∈ mo → OpV s x) → mo.length < 100 → mo.length ≤ n → (au_fl 1 mo s').1 = e :: r → f_12033_L7 n (nI mo.length - 1) m = some e.1 := by
  intro mo
  induction mo with
  | nil =>
    intro n s s' m e r _ _ _ _ h
    cases h
  | cons x q ih =>
    intro n s s' m e r hQ hV hl hn h
    obtain ⟨n, rfl⟩ : ∃ y, n = y + 1 := ⟨n - 1, by have : q.length + 1 ≤ n := hn; omega⟩
    have hl' : q.length + 1 < 100 := hl
    have hx := hV x (List.mem_cons_self ..)
    have g20 : mg m 20 (nI q.length) = okm x.1 := by
      unfold mg
      rw [nI_C (by omega)]
      exact hQ.1
    show f_12033_L7 (n + 1) (nI (q.length + 1) - 1) m = _
    rw [nI_pred, f_12033_L7, gd_e (vi_n (by omega) (by omega)), g20]
    have hdef : au_fl 1 (x :: q) s' = if 1 ≤ lvK x.1 then au_fl 1 q (au_pop x s') else (x :: q, s') := rfl
    rcases hx.1 with ⟨h40, h0⟩ | ⟨hb1, hb6⟩
    · have hok : okm x.1 = x.1 := if_pos h40
      rw [hok, if_pos h40, gd_e (vi_n (by omega) (by omega))]
      rw [hdef, h0, if_neg (by decide)] at h
      rw [(List.cons.inj h).1]
    · obtain ⟨k1, k2, k3, k4⟩ := lvK_31 m hb1 hb6
      rw [k3, if_neg k2]
      rw [hdef, if_pos (by rw [i_le]; exact hb1)] at h
      have em : nI q.length + (-1) = nI q.length - 1 := by rw [Int32.sub_eq_add_neg]
      rw [em]
      exact ih n s (au_pop x s') m e r hQ.2.2.2 (fun y hy => hV y (List.mem_cons_of_mem _ hy)) (by omega) (by have : q.length + 1 ≤ n + 1 := hn; omega) h
end EN
