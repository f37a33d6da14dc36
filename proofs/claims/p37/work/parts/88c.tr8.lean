/-! acts: an operand ends -/
section EN2
variable {tx : List Int32} {bl : List Ae} {a e : Nat}
theorem lc_cons {x : Ae} {op : List Ae} : lc (x :: op) = lc op + if lcF x = true then 1 else 0 := by
  unfold lc
  rw [List.countP_cons]
theorem cc_cons {x : Ae} {op : List Ae} : cc (x :: op) = cc op + if ccF x = true then 1 else 0 := by
  unfold cc
  rw [List.countP_cons]
theorem lcF_e {x0 : Int32} {xr : Int32 × Int32 × Int32 × Int32 × Int32} : lcF (x0, xr) = (x0 == 40 || x0 == 41 || x0 == 42 || x0 == 48) := rfl
theorem isEx_n {k : Int32} (h : isEx k) : k ≠ 53 ∧ k ≠ 43 ∧ k ≠ 48 ∧ k ≠ 50 := by
  rcases h with h | h | h | h
  · refine ⟨?_, ?_, ?_, ?_⟩ <;> (intro e; rw [e] at h; revert h; decide +kernel)
  all_goals subst h; decide
/-- the bounds while an expression is read, with one to spare -/
def NmE (tx : List Int32) (s : Sx) (op bl : List Ae) (a L : Nat) : Prop :=
  (s.1 7).length + op.length + 2 * bl.length + 1 ≤ 2 * a ∧ 3 * (s.1 15).length ≤ a + cc op ∧ L = bl.length + lc op ∧ 8 * (s.1 9).length ≤ bend (tks tx) a + if (bl.any fun b => b.1 == 10) = true then 1 else 0
theorem NmE.nm {s : Sx} {op : List Ae} {L : Nat} (h : NmE tx s op bl a L) (st : Int32) (h1 : st ≠ 8 ∧ st ≠ 9 ∧ sPr st = 0) (h2 : ∀ x, x ∈ op → x.1 ≠ 53) (h13 : st ≠ 13) (h01 : st ≠ 0 ∧ st ≠ 1) : Nm tx s st op bl a L := by
  obtain ⟨q1, q2, q3, q4⟩ := h
  have hA : dsA st = 0 := if_neg h1.1
  rw [show Nm tx s st op bl a L = _ from rfl]
  refine ⟨by rw [s13_n h13]; omega, fun q => absurd q (by rintro (r | r); exact h01.1 r; exact h01.2 r), by rw [s13_n h13]; omega, by rw [s13_n h13, h1.2.2]; omega, ?_⟩
  rw [hA, dsB_n h1 h2]
  omega
theorem en_all {f : Ae} (hf : stF f.1) : ∀ (xs : List Ae) (s : Sx) (L : Nat), Lv a e L s → IvO s (xs ++ [f]) → (∀ x, x ∈ xs → isEx x.1) → FV s f a 2 → (∀ b, b ∈ bl → BlV s b) → NmE tx s (xs ++ [f]) bl a L → a ≤ 300 →
    ∃ L', Lv a e L' (au_en bl (xs ++ [f]) s).1 ∧ Inv tx (au_en bl (xs ++ [f]) s) a L' ∧ (∀ k, k ≠ 7 → k ≠ 8 → (au_en bl (xs ++ [f]) s).1.1 k = s.1 k) ∧ (au_en bl (xs ++ [f]) s).1.2 5 = s.2 5 ∧ (au_en bl (xs ++ [f]) s).2.2.2 = bl ∧
      ((au_en bl (xs ++ [f]) s).2.1 = 4 ∨ (au_en bl (xs ++ [f]) s).2.1 = 6 ∨ (au_en bl (xs ++ [f]) s).2.1 = 14) ∧
      ∃ ys f', (au_en bl (xs ++ [f]) s).2.2.1 = ys ++ [f'] ∧ f'.2 = f.2 ∧ (stF f'.1 ∨ f'.1 = 54) ∧ (f'.1 = 47 → f.1 = 47) ∧ ∀ x, x ∈ xs → x.1 = 42 → x ∈ ys := by
  have hfl : lcF f = true ↔ f.1 = 48 := by
    unfold lcF
    rcases hf with r | r | r | r | r | r | r | r <;> rw [r] <;> decide
  have hfc : ccF f = false := by
    unfold ccF
    rcases hf with r | r | r | r | r | r | r | r <;> rw [r] <;> decide
  have hf40 : f.1 ≠ 40 ∧ f.1 ≠ 53 := by
    rcases hf with r | r | r | r | r | r | r | r <;> rw [r] <;> decide
  -- the end at st = 4
  have stay : ∀ (xs : List Ae) (s : Sx) (L : Nat), Lv a e L s → IvO s (xs ++ [f]) → (∀ x, x ∈ xs → isEx x.1) → FV s f a 2 → (∀ b, b ∈ bl → BlV s b) → NmE tx s (xs ++ [f]) bl a L → au_en bl (xs ++ [f]) s = (s, 4, xs ++ [f], bl) →
      ∃ L', Lv a e L' (au_en bl (xs ++ [f]) s).1 ∧ Inv tx (au_en bl (xs ++ [f]) s) a L' ∧ (∀ k, k ≠ 7 → k ≠ 8 → (au_en bl (xs ++ [f]) s).1.1 k = s.1 k) ∧ (au_en bl (xs ++ [f]) s).1.2 5 = s.2 5 ∧ (au_en bl (xs ++ [f]) s).2.2.2 = bl ∧
      ((au_en bl (xs ++ [f]) s).2.1 = 4 ∨ (au_en bl (xs ++ [f]) s).2.1 = 6 ∨ (au_en bl (xs ++ [f]) s).2.1 = 14) ∧
      ∃ ys f', (au_en bl (xs ++ [f]) s).2.2.1 = ys ++ [f'] ∧ f'.2 = f.2 ∧ (stF f'.1 ∨ f'.1 = 54) ∧ (f'.1 = 47 → f.1 = 47) ∧ ∀ x, x ∈ xs → x.1 = 42 → x ∈ ys := by
    intro xs s L hL hO hx hF hB hN he
    rw [he]
    have h53 : ∀ x, x ∈ xs ++ [f] → x.1 ≠ 53 := fun x q => by
      rcases List.mem_append.1 q with r | r
      · exact (isEx_n (hx x r)).1
      · rw [List.mem_singleton.1 r]; exact hf40.2
    exact ⟨L, hL, Inv.mk hO hB (Sh.mkE (Or.inr (Or.inr (Or.inl rfl))) hx hf hF rfl (fun q => absurd q (by decide)) (fun q => absurd q (by decide))) (hN.nm 4 (by decide) h53 (by decide) (by decide)), fun _ _ _ => rfl, rfl, rfl, Or.inl rfl, xs, f, rfl, rfl, Or.inl hf, id, fun x q _ => q⟩
  intro xs
  induction xs with
  | nil =>
    intro s L hL hO hx hF hB hN ha
    obtain ⟨f0, fr⟩ := f
    have hc6 : (s.1 7).length < 600 := by
      have := hN.1
      have : ([(f0, fr)] : List Ae).length = 1 := rfl
      simp only [List.nil_append] at *
      omega
    by_cases c48 : f0 = 48
    · subst c48
      have he : au_en bl ([] ++ [(48, fr)]) s = (au_dn s, 6, [(49, fr)], bl) := by
        obtain ⟨f1, f2, f3, f4, f5⟩ := fr
        exact au_en48
      rw [he]
      obtain ⟨q1, q2, q3, q4⟩ := hN
      have l1 : lc ([] ++ [(48, fr)]) = 1 := rfl
      have l2 : lc [((49 : Int32), fr)] = 0 := rfl
      have c1 : cc ([] ++ [((48 : Int32), fr)]) = 0 := rfl
      have c2 : cc [((49 : Int32), fr)] = 0 := rfl
      obtain ⟨L0, rfl⟩ : ∃ L0, L = L0 + 1 := ⟨L - 1, by omega⟩
      have hr : RwS s (au_dn s) := RwS.of rfl rfl rfl
      have hNE : NmE tx (au_dn s) [((49 : Int32), fr)] bl a L0 := ⟨q1, by rw [c2]; rw [c1] at q2; exact q2, by rw [l2]; omega, q4⟩
      refine ⟨L0, hL.dn, Inv.mk IvO.nil (fun b hb => (hB b hb).up hr) ?_ (hNE.nm 6 (by decide) (fun x q => by rw [List.mem_singleton.1 q]; show (49 : Int32) ≠ 53; decide) (by decide) (by decide)), fun _ _ _ => rfl, rfl, rfl, Or.inr (Or.inl rfl), [], (49, fr), rfl, rfl, Or.inl (by show stF 49; decide), fun q => absurd (show (49 : Int32) = 47 from q) (by decide), fun x q => by cases q⟩
      exact Or.inr (Or.inr (Or.inr (Or.inr (Or.inl ⟨rfl, (49, fr), rfl, rfl, hF.up hr (Nat.le_refl _)⟩))))
    · by_cases c50 : f0 = 50
      · subst c50
        have he : au_en bl ([] ++ [(50, fr)]) s = (au_cd 7 0 s, 14, [(54, fr)], bl) := by
          obtain ⟨f1, f2, f3, f4, f5⟩ := fr
          exact au_en50
        rw [he]
        obtain ⟨q1, q2, q3, q4⟩ := hN
        have hr : RwS s (au_cd 7 0 s) := RwS.cd hc6
        have h7 := len_cd (c := 7) (y := 0) hc6
        have l1 : lc ([] ++ [((50 : Int32), fr)]) = 0 := rfl
        have l2 : lc [((54 : Int32), fr)] = 0 := rfl
        have c1 : cc ([] ++ [((50 : Int32), fr)]) = 0 := rfl
        have c2 : cc [((54 : Int32), fr)] = 0 := rfl
        have hn : ([] ++ [((50 : Int32), fr)] : List Ae).length = 1 := rfl
        have hn2 : ([((54 : Int32), fr)] : List Ae).length = 1 := rfl
        refine ⟨L, hL.co Co_cd, Inv.mk IvO.nil (fun b hb => (hB b hb).up hr) ?_ ?_, ?_, rfl, rfl, Or.inr (Or.inr rfl), [], (54, fr), rfl, rfl, Or.inr rfl, fun q => absurd (show (54 : Int32) = 47 from q) (by decide), fun x q => by cases q⟩
        · exact Or.inr (Or.inr (Or.inr (Or.inr (Or.inr (Or.inr (Or.inr ⟨rfl, (54, fr), rfl, rfl, hF.up hr (Nat.le_refl _)⟩))))))
        · refine ⟨?_, fun q => absurd q (by decide), ?_, ?_, ?_⟩
          · show ((au_cd 7 0 s).1 7).length + [((54 : Int32), fr)].length + 2 * bl.length ≤ 2 * a + 0
            omega
          · show 3 * (s.1 15).length ≤ a + cc [((54 : Int32), fr)] + 0
            omega
          · show L + 0 = bl.length + lc [((54 : Int32), fr)] + 0
            omega
          · rw [dsB_n (by decide) (fun x q => by rw [List.mem_singleton.1 q]; show (54 : Int32) ≠ 53; decide)]
            show 8 * (s.1 9).length + 0 ≤ _
            omega
        · intro k h7 h8
          show (if k = 8 then _ else if k = 7 then _ else s.1 k) = _
          rw [if_neg h8, if_neg h7]
      · refine stay [] s L hL hO hx hF hB hN ?_
        show au_en bl [(f0, fr)] s = _
        unfold au_en
        dsimp only
        rw [if_neg hf40.1, if_neg c48, if_neg c50]
        rfl
  | cons x r ih =>
    intro s L hL hO hx hF hB hN ha
    obtain ⟨x0, xr⟩ := x
    have hxe := hx (x0, xr) (List.mem_cons_self ..)
    have hxn := isEx_n hxe
    by_cases c40 : x0 = 40
    · subst c40
      have he : au_en bl ((40, xr) :: r ++ [f]) s = au_en bl (r ++ [f]) (au_cd 8 xr.1 (au_dn s)) := by
        show au_en bl ((40, xr) :: (r ++ [f])) s = _
        conv => lhs; unfold au_en
        rw [if_pos rfl]
      rw [he]
      obtain ⟨q1, q2, q3, q4⟩ := hN
      have hlen : ((40, xr) :: r ++ [f] : List Ae).length = (r ++ [f]).length + 1 := rfl
      have hc6 : (s.1 7).length < 600 := by omega
      have l1 : lc ((40, xr) :: r ++ [f]) = lc (r ++ [f]) + 1 := by
        show lc ((40, xr) :: (r ++ [f])) = _
        rw [lc_cons]
        rfl
      have c1 : cc ((40, xr) :: r ++ [f]) = cc (r ++ [f]) := by
        show cc ((40, xr) :: (r ++ [f])) = _
        rw [cc_cons]
        rfl
      obtain ⟨L0, rfl⟩ : ∃ L0, L = L0 + 1 := ⟨L - 1, by omega⟩
      have hr : RwS s (au_cd 8 xr.1 (au_dn s)) := (RwS.of (s' := au_dn s) rfl rfl rfl).tr (RwS.cd hc6)
      have h7 : ((au_cd 8 xr.1 (au_dn s)).1 7).length = (s.1 7).length + 1 := len_cd (s := au_dn s) hc6
      obtain ⟨L', z1, z2, z3, z4, z5, z6, ys, f', z7, z8, z9, z10, z11⟩ := ih (au_cd 8 xr.1 (au_dn s)) L0 ((hL.dn).co Co_cd) ((hO.tl).up hr (Nat.le_refl _)) (fun y hy => hx y (List.mem_cons_of_mem _ hy)) (hF.up hr (Nat.le_refl _)) (fun b hb => (hB b hb).up hr) ⟨by omega, by show 3 * (s.1 15).length ≤ _; omega, by omega, q4⟩ ha
      refine ⟨L', z1, z2, fun k h7 h8 => (z3 k h7 h8).trans ?_, z4, z5, z6, ys, f', z7, z8, z9, z10, fun y hy h42 => ?_⟩
      · show (if k = 8 then _ else if k = 7 then _ else s.1 k) = _
        rw [if_neg h8, if_neg h7]
      · rcases List.mem_cons.1 hy with w | w
        · rw [w] at h42
          exact absurd (show (40 : Int32) = 42 from h42) (by decide)
        · exact z11 y w h42
    · refine stay ((x0, xr) :: r) s L hL hO hx hF hB hN ?_
      show au_en bl ((x0, xr) :: (r ++ [f])) s = _
      unfold au_en
      dsimp only
      rw [if_neg c40, if_neg hxn.2.2.1, if_neg hxn.2.2.2]
      rfl
end EN2
