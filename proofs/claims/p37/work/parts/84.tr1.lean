/-! acts: marks that are looked for alone -/
section TR
variable {tx : List Int32} {s : Sx} {op bl : List Ae} {a L : Nat} {m : Mx}
/-- how an act ends -/
def Good (tx : List Int32) (st : Int32) (B : Au) (a : Nat) (m : Mx) : Prop := ∃ m' L', mAcc st m = some (m', 1) ∧ Rel tx B (a + 1) L' m' 0 ∧ Inv tx B (a + 1) L'
theorem Rel.q14 {A : Au} {r : Nat} (h : Rel tx A a L m r) : mf m 14 = nI a := h.2.2.1.2.2.1.1
theorem Rel.a3 {A : Au} {r : Nat} (h : Rel tx A a L m r) (ha : a + 1 < (tks tx).length) : a < 300 := by
  have := h.1.2.2.2.2.1
  omega
theorem Rel.r0 {A : Au} {r : Nat} (h : Rel tx A a L m r) (ha : a + 1 < (tks tx).length) : (A.1.1 0).getD a 0 = tkd (tks tx) a := (h.2.1.2 a (Nat.le_refl _) (by omega)).1
theorem Tok.k (h : Tok tx a m) {k : Int32} (e : tkd (tks tx) a = k) : mf m 5 = km k := by rw [← e]; exact h.1
theorem set_12053 {x0 x1 : Int32} (h14 : mf m 14 = nI a) (ha : a < 301) (h5 : mf m 5 = x0) : f_12053 x0 x1 m = some (MK x0 x1 m, 1) := by
  unfold f_12053
  rw [if_pos h5, bO_id, MK_e h14 ha]
theorem Nm.tk {st st' : Int32} {s' : Sx} (h : Nm tx s st op bl a L) (ha : a + 1 < (tks tx).length) (e1 : s13 st = 0) (e2 : s13 st' = 0) (ePr : sPr st' = sPr st) (hA : dsA st' = 0) (hB : dsB st op bl ≤ dsB st' op bl + 1) (n01 : st' ≠ 0 ∧ st' ≠ 1)
    (h7 : (s'.1 7).length = (s.1 7).length) (h15 : (s'.1 15).length = (s.1 15).length) (h9 : (s'.1 9).length = (s.1 9).length) : Nm tx s' st' op bl (a + 1) L := by
  obtain ⟨q1, q2, q3, q4, q5⟩ := h
  have hb := (bend_s ha).1
  refine ⟨by omega, fun e => absurd e (by rintro (e | e); exact n01.1 e; exact n01.2 e), by omega, by omega, by omega⟩
theorem RwS.nx : RwS s (au_nx s) := RwS.of rfl rfl rfl
theorem Sh.s0 (h : Sh tx s 0 op bl a) : op = [] ∧ 3 * (s.1 5).length ≤ a := by
  rcases h with ⟨_, q⟩ | ⟨q, _⟩ | ⟨q, _⟩ | ⟨q, _⟩ | ⟨q, _⟩ | ⟨q, _⟩ | ⟨q, _⟩ | ⟨q, _⟩
  all_goals first | exact q | exact absurd q (by decide)
theorem Sh.s1 (h : Sh tx s 1 op bl a) : (∃ p k, op = [(51, p, k, 0, 0, 0)] ∧ PtV s p ∧ CdV s k) ∧ 3 * (s.1 5).length ≤ a := by
  rcases h with ⟨q, _⟩ | ⟨_, q⟩ | ⟨q, _⟩ | ⟨q, _⟩ | ⟨q, _⟩ | ⟨q, _⟩ | ⟨q, _⟩ | ⟨q, _⟩
  all_goals first | exact q | exact absurd q (by decide)
theorem Sh.s5 (h : Sh tx s 5 op bl a) : ∃ f, op = [f] ∧ f.1 = 43 ∧ FV s f a 1 := by
  rcases h with ⟨q, _⟩ | ⟨q, _⟩ | ⟨q, _⟩ | ⟨_, q⟩ | ⟨q, _⟩ | ⟨q, _⟩ | ⟨q, _⟩ | ⟨q, _⟩
  all_goals first | exact q | exact absurd q (by decide)
theorem Sh.s6 (h : Sh tx s 6 op bl a) : ∃ f, op = [f] ∧ f.1 = 49 ∧ FV s f a 2 := by
  rcases h with ⟨q, _⟩ | ⟨q, _⟩ | ⟨q, _⟩ | ⟨q, _⟩ | ⟨_, q⟩ | ⟨q, _⟩ | ⟨q, _⟩ | ⟨q, _⟩
  all_goals first | exact q | exact absurd q (by decide)
theorem Sh.s14 (h : Sh tx s 14 op bl a) : ∃ f, op = [f] ∧ f.1 = 54 ∧ FV s f a 2 := by
  rcases h with ⟨q, _⟩ | ⟨q, _⟩ | ⟨q, _⟩ | ⟨q, _⟩ | ⟨q, _⟩ | ⟨q, _⟩ | ⟨q, _⟩ | ⟨_, q⟩
  all_goals first | exact q | exact absurd q (by decide)
theorem Sh.s7 (h : Sh tx s 7 op bl a) : (∃ p o k, op = [(52, p, o, k, 0, 0)] ∧ PtV s p ∧ CdV s k ∧ 3 * (s.1 5).length ≤ a) ∨ (bl = [] ∧ ∃ f, op = [f] ∧ f.1 = 53 ∧ FV s f a 2 ∧ TkV s f.2.2.1 ∧ CdV s f.2.2.2.1) := by
  rcases h with ⟨q, _⟩ | ⟨q, _⟩ | ⟨q, _⟩ | ⟨q, _⟩ | ⟨q, _⟩ | ⟨_, q⟩ | ⟨_, q1, f, q2, q3, q4, q5, q6, q7⟩ | ⟨q, _⟩
  all_goals first | exact Or.inl q | exact Or.inr ⟨q1, f, q2, q3, q4, q5, q6 (by decide)⟩ | exact absurd q (by decide)
theorem Sh.sP {st : Int32} (h : Sh tx s st op bl a) (hst : st = 8 ∨ st = 9 ∨ st = 10 ∨ st = 11 ∨ st = 12) : bl = [] ∧ ∃ f, op = [f] ∧ f.1 = 53 ∧ FV s f a (if st = 8 then 1 else 2) ∧ TkV s f.2.2.1 ∧ (st ≠ 8 → CdV s f.2.2.2.1) ∧ (pdN st = 1 → ∃ d, f.2.2.2.2.1 = nI d ∧ d + 1 = (s.1 9).length) := by
  rcases h with ⟨q, _⟩ | ⟨q, _⟩ | ⟨q, _⟩ | ⟨q, _⟩ | ⟨q, _⟩ | ⟨q, _⟩ | ⟨_, q⟩ | ⟨q, _⟩
  all_goals first | exact q | (exfalso; rcases hst with e | e | e | e | e <;> subst e <;> exact absurd q (by decide))
theorem Sh.sE {st : Int32} (h : Sh tx s st op bl a) (hst : st = 2 ∨ st = 3 ∨ st = 4 ∨ st = 13) : ∃ xs f, op = xs ++ [f] ∧ (∀ x, x ∈ xs → isEx x.1) ∧ stF f.1 ∧ FV s f a (if st = 4 then 2 else 1) ∧ (st = 3 ∨ st = 13 → ∃ y r, op = y :: r ∧ y.1 = 42) ∧ (st = 13 → tkd (tks tx) a = 28) := by
  rcases h with ⟨q, _⟩ | ⟨q, _⟩ | ⟨_, q⟩ | ⟨q, _⟩ | ⟨q, _⟩ | ⟨q, _⟩ | ⟨q, _⟩ | ⟨q, _⟩
  all_goals first | exact q | (exfalso; rcases hst with e | e | e | e <;> subst e <;> exact absurd q (by decide))
/-- a statement's own entry alone, an operand behind it -/
theorem Sh.to2 {s' : Sx} {f : Ae} (e : op = [f]) (h2 : stF f.1) (h3 : FV s' f (a + 1) 1) : Sh tx s' 2 op bl (a + 1) :=
  Or.inr (Or.inr (Or.inl ⟨Or.inl rfl, [], f, e, (fun x hx => by cases hx), h2, h3, (fun q => absurd q (by decide)), fun q => absurd q (by decide)⟩))
theorem app1 {xs q : List Ae} {f g : Ae} (h : xs ++ [f] = q ++ [g]) : f = g := by
  have := congrArg List.getLast? h
  rw [List.getLast?_concat, List.getLast?_concat] at this
  exact Option.some.inj this
theorem app1' {xs : List Ae} {f g : Ae} (h : xs ++ [f] = [g]) : f = g := app1 (q := []) h
/-- what else the reference holds while a statement is read -/
theorem Ex.mkE {st : Int32} {xs : List Ae} {f : Ae} (hf : stF f.1 ∨ f.1 = 54) (h43 : m 0 43 = f.2.1) (h47 : f.1 = 47 → m 25 bl.length = f.2.2.2.1) (hp : pdN st = 0) : Ex st (xs ++ [f]) bl a s m := by
  have hn : f.1 ≠ 51 ∧ f.1 ≠ 52 ∧ f.1 ≠ 53 := by
    rcases hf with (e | e | e | e | e | e | e | e) | e <;> rw [e] <;> decide
  refine ⟨fun q g e _ _ => ?_, fun q g e h => ?_, fun x e h => ?_, fun x e h => ?_, fun x e h => ?_, fun e => ?_⟩
  · rw [← app1 e]; exact h43
  · rw [← app1 e] at h ⊢; exact h47 h
  · rw [← app1' e] at h; exact absurd h hn.1
  · rw [← app1' e] at h; exact absurd h hn.2.1
  · rw [← app1' e] at h; exact absurd h hn.2.2
  · rw [hp] at e; exact absurd e (by decide)
theorem Ex.f43 {st : Int32} {xs : List Ae} {f : Ae} (h : Ex st (xs ++ [f]) bl a s m) (h1 : f.1 ≠ 51) (h2 : f.1 ≠ 52) : m 0 43 = f.2.1 := h.1 xs f rfl h1 h2
theorem Ex.f47 {st : Int32} {xs : List Ae} {f : Ae} (h : Ex st (xs ++ [f]) bl a s m) (h1 : f.1 = 47) : m 25 bl.length = f.2.2.2.1 := h.2.1 xs f rfl h1
/-- = behind the variable -/
theorem go5 (h : Rel tx (s, 5, op, bl) a L m 1) (hI : Inv tx (s, 5, op, bl) a L) (ht : Tok tx a m) (ha : a + 1 < (tks tx).length) (hk : tkd (tks tx) a = 27) : Good tx 5 (au_nx s, 2, op, bl) a m := by
  have h5 := ht.k hk
  obtain ⟨hO, hB, hS, hN⟩ := hI
  have hS2 : Sh tx s 5 op bl a := hS
  obtain ⟨f, rfl, e2, e3⟩ := Sh.s5 hS2
  have hw : (25 : Int32) = wm ((s.1 0).getD a 0) := by rw [h.r0 ha, hk]; rfl
  refine ⟨MK 25 2 m, L, ?_, ?_, ?_⟩
  · unfold mAcc
    rw [if_neg (by decide), if_neg (by decide), if_neg (by decide), if_neg (by decide), if_neg (by decide), if_pos rfl]
    exact set_12053 h.q14 (by have := h.a3 ha; omega) h5
  · refine Rel.tk h.w ha hw rfl rfl rfl (fun x hx => ?_)
    rw [← (List.cons.inj hx).1, e2]
    exact ⟨by decide, by decide, fun q => absurd q (by decide)⟩
  · exact ⟨hO.up RwS.nx (Nat.le_refl _), fun b hb => (hB b hb).up RwS.nx, Sh.to2 rfl (Or.inl e2) (e3.up RwS.nx (by omega)), Nm.tk (st := 5) (st' := 2) hN ha (by decide) (by decide) (by decide) (by decide) (Nat.le_succ _) ⟨by decide, by decide⟩ rfl rfl rfl⟩
/-- = behind the cell -/
theorem go6 (h : Rel tx (s, 6, op, bl) a L m 1) (hI : Inv tx (s, 6, op, bl) a L) (ht : Tok tx a m) (ha : a + 1 < (tks tx).length) (hk : tkd (tks tx) a = 27) : Good tx 6 (au_nx s, 2, op, bl) a m := by
  have h5 := ht.k hk
  obtain ⟨hO, hB, hS, hN⟩ := hI
  have hS2 : Sh tx s 6 op bl a := hS
  obtain ⟨f, rfl, e2, e3⟩ := Sh.s6 hS2
  have hw : (25 : Int32) = wm ((s.1 0).getD a 0) := by rw [h.r0 ha, hk]; rfl
  have hRR := h.2.2.1
  have h35 : mf m 35 = nI 0 := by
    have := hRR.2.2.2.2.2.2.2.1.1
    exact this
  have hod : odm f = 0 := by
    unfold odm
    rw [e2]
    rfl
  have hP : Rel' tx (s, 5, [f], bl) a L (MO 49 0 m) 1 := by
    obtain ⟨r1, r2, r3, r4, ⟨r5, r6, r7⟩, r8⟩ := h
    have r3' : RR (tks tx) tx s a [] bl (oeP [f] bl) (ocP [f]) 0 m := r3
    have r3'' := r3'.psh (x := f) (w := 49) (y := 0) (by decide) (by rw [e2]; rfl) hod.symm (fun q => by rw [e2] at q; exact absurd q (by decide))
    have r8' : Ex 6 ([] ++ [f]) bl a s m := r8
    exact ⟨r1, r2, r3'', r4, ⟨r6, r7⟩, Ex.mkE (xs := []) (Or.inl (by rw [e2]; decide)) (r8'.f43 (by rw [e2]; decide) (by rw [e2]; decide)) (fun q => by rw [e2] at q; exact absurd q (by decide)) rfl⟩
  refine ⟨MK 25 2 (MO 49 0 m), L, ?_, ?_, ?_⟩
  · unfold mAcc
    rw [if_neg (by decide), if_neg (by decide), if_neg (by decide), if_neg (by decide), if_neg (by decide), if_neg (by decide), if_pos rfl, MO_e h35 (by decide), bOv_some]
    exact set_12053 (m := MO 49 0 m) h.q14 (by have := h.a3 ha; omega) h5
  · refine Rel.tk hP ha hw rfl rfl rfl (fun x hx => ?_)
    rw [← (List.cons.inj hx).1, e2]
    exact ⟨by decide, by decide, fun q => absurd q (by decide)⟩
  · have hO2 : IvO (au_nx s) (mop 2 [f]) := by
      show IvO (au_nx s) [f]
      refine ⟨fun x hx => ?_, ?_, ?_, trivial⟩
      · rw [List.mem_singleton.1 hx]
        refine ⟨Or.inl ?_, fun q => ?_⟩
        · rw [e2]; exact ⟨by decide, by decide +kernel⟩
        · rw [e2] at q; exact absurd q (by decide)
      · unfold Dc
        rw [if_neg (by rw [e2]; decide)]
        trivial
      · intro _ y q r
        cases r
    exact ⟨hO2, fun b hb => (hB b hb).up RwS.nx, Sh.to2 rfl (by rw [e2]; decide) (e3.up RwS.nx (by omega)), Nm.tk (st := 6) (st' := 2) hN ha (by decide) (by decide) (by decide) (by decide) (Nat.le_succ _) ⟨by decide, by decide⟩ rfl rfl rfl⟩
end TR
