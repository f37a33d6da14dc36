/-! every act keeps it: operators, statements, all -/
section LTX
variable {s s' : Sx} {e a : Nat} {p q v st k : Int32} {op bl : List Ae} {B : Au} {P : Prop}
theorem clz_F {c n : Int32} : Fz (au_nx s) (au_clz c n s) := by
  unfold au_clz au_rs
  exact ((Fz.dn.tr (Fz.B (by decide) (by decide) (by decide))).tr Fz.cd).tr (Fz.B (by decide) (by decide) (by decide))
theorem LI0.opr (h : LI0 e s a p q P) (hp : EndO p) (hB : au_opr s op bl = .inl B) : LI e B.1 B.2.1 (a + 1) := by
  have hko := h.ko
  have hnB : ¬ BegS p := by rcases hp with w | w | w | w <;> subst w <;> decide
  have hp35 : p ≠ 35 := by rcases hp with w | w | w | w <;> subst w <;> decide
  unfold au_opr at hB
  by_cases c : 0 < lvK (au_ko s) ∧ lvK (au_ko s) < 7
  · rw [if_pos c] at hB
    have hv : (s.1 0).getD a 0 = 23 ∨ (s.1 0).getD a 0 = 24 ∨ isO2 ((s.1 0).getD a 0) := by
      rw [hko] at c
      by_cases c23 : (s.1 0).getD a 0 = 23
      · exact Or.inl c23
      by_cases c24 : (s.1 0).getD a 0 = 24
      · exact Or.inr (Or.inl c24)
      obtain ⟨c1, c2⟩ := c
      rw [i_lt, i_0] at c1
      rw [i_lt, show (7 : Int32).toInt = 7 by decide] at c2
      exact Or.inr (Or.inr (lv_O2 (by omega) (by omega) c23 c24))
    have key : ∀ s', Fz (au_nx (au_fl (lvK (au_ko s)) op s).2) s' → LI e s' 2 (a + 1) := fun s' hF => by
      have g := h.fz (Fz.fl (lv := lvK (au_ko s)) op s)
      have gk : (((au_fl (lvK (au_ko s)) op s).2).1 0).getD a 0 = (s.1 0).getD a 0 := by rw [(Fz.fl (lv := lvK (au_ko s)) op s).1]
      generalize hv0 : (s.1 0).getD a 0 = v at hv gk
      refine g.go (v := v) gk ?_ ?_ (fun w => absurd w hnB) hF (fun _ _ _ => sc_2 (Or.inl rfl) ?_)
      · rcases hv with w | w | w
        · subst w; decide
        · subst w; decide
        · rcases w with w | w | w | w | w | w | w | w | w | w | w <;> subst w <;> decide
      · refine ⟨?_, fun _ => hp, ?_, ?_, ?_, ?_, ?_⟩
        · rcases hv with w | w | w
          · subst w; decide
          · subst w; decide
          · rcases w with w | w | w | w | w | w | w | w | w | w | w <;> subst w <;> decide
        · intro w2; subst w2; exfalso; revert hv; unfold isO2; decide
        · intro w2; subst w2; exfalso; revert hv; unfold isO2; decide
        · intro w2; exact hnB
        · intro w2; subst w2; exfalso; revert hv; unfold isO2; decide
        · intro _ w2; exact hp35 w2.1
      · rcases hv with w | w | w
        · subst w; decide
        · subst w; decide
        · rcases w with w | w | w | w | w | w | w | w | w | w | w <;> subst w <;> decide
    by_cases c3 : au_ko s = 23 ∨ au_ko s = 24
    · rw [if_pos c3] at hB
      exact inl_e hB (R := fun B => LI e B.1 B.2.1 (a + 1)) (key _ Fz.cd)
    · rw [if_neg c3] at hB
      exact inl_e hB (R := fun B => LI e B.1 B.2.1 (a + 1)) (key _ Fz.r)
  · rw [if_neg c] at hB
    have hF := Fz.fl (lv := 1) op s
    have g := h.fz hF
    have gk : (((au_fl 1 op s).2).1 0).getD a 0 = (s.1 0).getD a 0 := by rw [hF.1]
    rw [hko] at hB
    split at hB
    · cases hB
    · rename_i x r hx
      split at hB
      · rename_i c
        obtain ⟨q', g1, _⟩ := g.nx (gk.trans c.1) (by decide) (loc_n (by decide)) (fun _ => by decide)
        exact inl_e hB (R := fun B => LI e B.1 B.2.1 (a + 1)) (LI.en ⟨q', g1.fz Fz.dn⟩ (by decide))
      split at hB
      · rename_i c
        obtain ⟨q', g1, _⟩ := g.nx (gk.trans c.1) (by decide) (loc_n (by decide)) (fun _ => by decide)
        exact inl_e hB (R := fun B => LI e B.1 B.2.1 (a + 1)) (LI.en ⟨q', g1.fz clz_F⟩ (by decide))
      split at hB
      · rename_i c
        exact inl_e hB (R := fun B => LI e B.1 B.2.1 (a + 1)) (g.go (gk.trans c.1) (by decide) (loc_n (by decide)) (fun _ => by decide) Fz.r (fun _ _ _ => sc_2 (Or.inl rfl) (by decide)))
      split at hB
      · rename_i c
        exact inl_e hB (R := fun B => LI e B.1 B.2.1 (a + 1)) ((g.fz Fz.cd).go (gk.trans c.1) (by decide) (loc_n (by decide)) (fun _ => by decide) Fz.ep (fun _ _ _ => sc_0 (by decide)))
      split at hB
      · rename_i c
        exact inl_e hB (R := fun B => LI e B.1 B.2.1 (a + 1)) ((g.fz Fz.cd).go (gk.trans c.1) (by decide) (loc_n (by decide)) (fun _ => by decide) Fz.ep (fun _ _ _ => sc_0 (by decide)))
      split at hB
      · rename_i c
        exact inl_e hB (R := fun B => LI e B.1 B.2.1 (a + 1)) ((g.fz Fz.cd).go (gk.trans c.1) (by decide) (loc_n (by decide)) (fun _ => by decide) Fz.ep (fun _ _ _ => sc_0 (by decide)))
      split at hB
      · rename_i c
        exact inl_e hB (R := fun B => LI e B.1 B.2.1 (a + 1)) ((g.fz Fz.cd).go (gk.trans c.1) (by decide) (loc_n (by decide)) (fun _ => by decide) Fz.ep (fun _ _ _ => sc_0 (by decide)))
      split at hB
      · rename_i c
        exact LI.lv hB (fun hB => inl_e hB (R := fun B => LI e B.1 B.2.1 (a + 1)) (((g.fz Fz.cd).up).go (gk.trans c.1) (by decide) (loc_n (by decide)) (fun _ => by decide) Fz.r (fun _ _ _ => sc_0 (by decide))))
      split at hB
      · rename_i c
        exact LI.lv hB (fun hB => inl_e hB (R := fun B => LI e B.1 B.2.1 (a + 1)) (((g.fz Fz.cd).up).go (gk.trans c.1) (by decide) (loc_n (by decide)) (fun _ => by decide) Fz.r (fun _ _ _ => sc_0 (by decide))))
      · cases hB
/-- statements begin -/
theorem LI0.stm (h : LI0 e s a p q P) (hp : BegS p) (hB : au_st s bl = .inl B) : LI e B.1 B.2.1 (a + 1) := by
  have hko := h.ko
  have g := h.bp hp
  have hp10 : p ≠ 10 := by rcases hp with w | w | w <;> subst w <;> decide
  unfold au_st at hB
  rw [hko] at hB
  split at hB
  · rename_i c
    split at hB
    · rename_i c2
      exact (g.fz (Fz.cd (c := 0) (x := 0))).call c c2 hp10 hB
    · refine (g.fz (Fz.cd (c := 0) (x := 0))).var c (names_x s) hB (fun s2 y g hB => inl_e hB (R := fun B => LI e B.1 B.2.1 (a + 1)) ?_)
      obtain ⟨q', g⟩ := g
      exact ⟨34, q', g, sc_n (by simp)⟩
  split at hB
  · rename_i c
    refine LI.lv hB (fun hB => inl_e hB (R := fun B => LI e B.1 B.2.1 (a + 1)) ?_)
    have ha := h.lt (by rw [c]; decide)
    obtain ⟨g1, g2⟩ := (g.fz (Fz.cd (c := 0) (x := 0))).sk (v := 37) ha
    exact g1.up.go (v := 37) g2 (by decide) ⟨by decide, fun w => absurd w (by decide), fun w => absurd w (by decide), fun _ => hp, fun w => absurd w (by decide), fun w => absurd w (by decide), fun w => absurd w (by decide)⟩ (fun _ => by decide) Fz.r (fun _ _ _ => sc_2 (Or.inl rfl) (by decide))
  split at hB
  · rename_i c
    exact inl_e hB (R := fun B => LI e B.1 B.2.1 (a + 1)) ((g.fz (Fz.cd (c := 0) (x := 0))).go c (by decide) (loc_n (by decide)) (fun _ => by decide) Fz.r (fun _ _ _ => sc_2 (Or.inl rfl) (by decide)))
  split at hB
  · rename_i c
    exact inl_e hB (R := fun B => LI e B.1 B.2.1 (a + 1)) ((g.fz (Fz.cd (c := 0) (x := 0))).go c (by decide) (loc_n (by decide)) (fun _ => by decide) Fz.r (fun _ _ _ => sc_2 (Or.inl rfl) (by decide)))
  split at hB
  · rename_i c
    exact inl_e hB (R := fun B => LI e B.1 B.2.1 (a + 1)) (g.go c (by decide) (loc_n (by decide)) (fun _ => by decide) Fz.cd (fun _ _ _ => sc_2 (Or.inl rfl) (by decide)))
  split at hB
  · rename_i c
    split at hB
    · cases hB
    · exact inl_e hB (R := fun B => LI e B.1 B.2.1 (a + 1)) ((g.fz (Fz.cd (c := 0) (x := 0))).go c (by decide) (loc_n (by decide)) (fun _ => by decide) Fz.r (fun _ _ _ => sc_2 (Or.inl rfl) (by decide)))
  split at hB
  · rename_i c
    split at hB
    · exact inl_e hB (R := fun B => LI e B.1 B.2.1 (a + 1)) (g.go c (by decide) (loc_n (by decide)) (fun _ => by decide) Fz.r (fun _ _ _ => sc_8 rfl))
    · cases hB
  · cases hB
theorem LI0.s0 (h : LI0 e s a p q P) (hp : BegS p) (hB : au_s0 s bl = .inl B) : LI e B.1 B.2.1 (a + 1) := by
  have hko := h.ko
  unfold au_s0 at hB
  rw [hko] at hB
  split at hB
  · rename_i c
    cases bl with
    | nil => cases hB
    | cons b r =>
      refine inl_e hB (R := fun B => LI e B.1 B.2.1 (a + 1)) ?_
      have hF : Fz s (au_sv (s.2 2) b.2.2.2.2.1 (au_sv b.2.2.2.2.2 (s.2 2 + 1) s)) := Fz.r
      obtain ⟨q', g1, _⟩ := (h.fz hF).nx c (by decide) (loc_n (by decide)) (fun _ => by decide)
      have g2 : LI0 e (au_clb b s) (a + 1) 31 q' False := g1.fz Fz.dn
      unfold au_cls
      split
      · exact ⟨31, q', g2, sc_1 rfl⟩
      split
      · exact ⟨31, q', g2.fz (Fz.pt.tr Fz.ep), sc_0 (by decide)⟩
      split
      · exact ⟨31, q', g2.fz ((Fz.cd.tr Fz.pt).tr Fz.ep), sc_0 (by decide)⟩
      · exact ⟨31, q', g2.fz (((((Fz.va (by decide)).tr Fz.cd).tr Fz.cd).tr Fz.pt).tr (Fz.sv.tr Fz.ep)), sc_0 (by decide)⟩
  · exact h.stm hp hB
/-- parameters -/
theorem LI0.prm (h : LI0 e s a p q P) (hB : au_prm s op bl = .inl B) : LI e B.1 B.2.1 (a + 1) := by
  have hko := h.ko
  unfold au_prm at hB
  rw [hko] at hB
  split at hB
  · rename_i c
    split at hB
    · exact h.var c (by decide) hB (fun s2 y g hB => inl_e hB (R := fun B => LI e B.1 B.2.1 (a + 1)) (by
        obtain ⟨q', g⟩ := g
        exact ⟨34, q', g, sc_n (by simp)⟩))
    · cases hB
  · cases hB
theorem LI0.pcl (h : LI0 e s a p q P) (hk : (s.1 0).getD a 0 = 29) (hB : au_pcl s op bl = .inl B) : LI e B.1 B.2.1 (a + 1) := by
  unfold au_pcl at hB
  cases op with
  | nil => cases hB
  | cons x r =>
    refine inl_e hB (R := fun B => LI e B.1 B.2.1 (a + 1)) (h.go hk (by decide) (loc_n (by decide)) (fun _ => by decide) ?_ (fun _ _ _ => sc_n (by simp)))
    unfold au_pz
    exact ((Fz.dn.tr (Fz.B (k := 10) (by decide) (by decide) (by decide))).tr ((Fz.B (k := 11) (by decide) (by decide) (by decide)).tr (Fz.B (k := 12) (by decide) (by decide) (by decide)))).tr (Fz.va (by decide))
theorem LI0.dfw (h : LI0 e s a p q P) (hp : p = 10) (hB : au_dfw s op bl = .inl B) : LI e B.1 B.2.1 (a + 1) := by
  have hko := h.ko
  unfold au_dfw at hB
  rw [hko] at hB
  split at hB
  · rename_i c
    split at hB
    · cases op with
      | nil => cases hB
      | cons x r =>
        refine inl_e hB (R := fun B => LI e B.1 B.2.1 (a + 1)) ?_
        have ha := h.lt (by rw [c]; decide)
        have hF : Fz s (f_4010 (xg (s.1 1) (s.2 2)) s).1 := ((Fz.B (k := 9) (by decide) (by decide) (by decide)).tr (Fz.B (k := 10) (by decide) (by decide) (by decide))).tr ((Fz.B (k := 11) (by decide) (by decide) (by decide)).tr (Fz.B (k := 12) (by decide) (by decide) (by decide)))
        obtain ⟨g1, g2⟩ := (h.fz hF).sk (v := 35) ha
        exact g1.go (v := 35) g2 (by decide) (loc_n (by decide)) (fun _ => by decide) (Fz.cd.tr (Fz.B (by decide) (by decide) (by decide))) (fun q' _ w => sc_9 ⟨rfl, w.2 hp⟩)
    · cases hB
  · cases hB
end LTX
