/-! every act keeps it -/
section LSX
variable {s s' : Sx} {e a : Nat} {p q v st k : Int32} {op bl : List Ae} {B : Au} {P : Prop}
theorem loc_n (h : v ≠ 13 ∧ v ≠ 36 ∧ v ≠ 37 ∧ v ≠ 26 ∧ v ≠ 38 ∧ v ≠ 28 ∧ OkV v) : LocP p q v := ⟨h.2.2.2.2.2.2, fun w => absurd w h.1, fun w => absurd w h.2.1, fun w => absurd w h.2.2.1, fun w => absurd w h.2.2.2.1, fun w => absurd w h.2.2.2.2.1, fun w => absurd w h.2.2.2.2.2.1⟩
theorem sc_0 (h : BegS p) : ScO 0 p q k := ⟨fun _ => h, fun w => absurd w (by decide), fun w => absurd w (by decide), fun w => absurd w (by decide), fun w => absurd w (by decide), fun w => absurd w (by decide), fun w => absurd w (by decide)⟩
theorem sc_1 (h : p = 31) : ScO 1 p q k := ⟨fun w => absurd w (by decide), fun _ => h, fun w => absurd w (by decide), fun w => absurd w (by decide), fun w => absurd w (by decide), fun w => absurd w (by decide), fun w => absurd w (by decide)⟩
theorem sc_2 (hs : st = 2 ∨ st = 3) (h : ¬ EndO p ∧ ¬ BegS p ∧ p ≠ 35 ∧ p ≠ 10) : ScO st p q k := by
  rcases hs with w | w <;> subst w <;> exact ⟨fun w => absurd w (by decide), fun w => absurd w (by decide), fun _ => h, fun w => absurd w (by decide), fun w => absurd w (by decide), fun w => absurd w (by decide), fun w => absurd w (by decide)⟩
theorem sc_4 (h : EndO p) : ScO 4 p q k := ⟨fun w => absurd w (by decide), fun w => absurd w (by decide), fun w => absurd w (by decide), fun _ => h, fun w => absurd w (by decide), fun w => absurd w (by decide), fun w => absurd w (by decide)⟩
theorem sc_8 (h : p = 10) : ScO 8 p q k := ⟨fun w => absurd w (by decide), fun w => absurd w (by decide), fun w => absurd w (by decide), fun w => absurd w (by decide), fun _ => h, fun w => absurd w (by decide), fun w => absurd w (by decide)⟩
theorem sc_9 (h : p = 35 ∧ q = 10) : ScO 9 p q k := ⟨fun w => absurd w (by decide), fun w => absurd w (by decide), fun w => absurd w (by decide), fun w => absurd w (by decide), fun w => absurd w (by decide), fun _ => h, fun w => absurd w (by decide)⟩
theorem sc_13 (h : p = 35 ∧ q ≠ 10 ∧ k = 28) : ScO 13 p q k := ⟨fun w => absurd w (by decide), fun w => absurd w (by decide), fun w => absurd w (by decide), fun w => absurd w (by decide), fun w => absurd w (by decide), fun w => absurd w (by decide), fun _ => h⟩
theorem sc_n (h : st = 5 ∨ st = 6 ∨ st = 7 ∨ st = 10 ∨ st = 11 ∨ st = 12 ∨ st = 14) : ScO st p q k := by
  rcases h with w | w | w | w | w | w | w <;> subst w <;> exact ⟨fun w => absurd w (by decide), fun w => absurd w (by decide), fun w => absurd w (by decide), fun w => absurd w (by decide), fun w => absurd w (by decide), fun w => absurd w (by decide), fun w => absurd w (by decide)⟩
/-- the token is read as it is -/
theorem LI0.go (h : LI0 e s a p q P) (hk : (s.1 0).getD a 0 = v) (hv0 : v ≠ 0) (hv : LocP p q v) (hb : BegS p → ¬ BadV v) (hF : Fz (au_nx s) s') (hs : ∀ q' k, (q' = 10 ↔ p = 10) → ScO st v q' k) : LI e s' st (a + 1) := by
  obtain ⟨q', h1, h2⟩ := h.nx hk hv0 hv hb
  exact ⟨v, q', h1.fz hF, hs q' _ h2⟩
theorem LI0.lt (h : LI0 e s a p q P) (hk : (s.1 0).getD a 0 ≠ 0) : a < e := by
  rcases Nat.lt_or_ge a e with w | w
  · exact w
  · exfalso
    have := h.2.1
    rw [show a = e by omega, h.2.2.2.2.1] at hk
    exact hk rfl
theorem var_e {x : Nat} (hx : x ≠ 0 ∧ x ≠ 5 ∧ x ≠ 6) (h : ¬ (xpos (s.1 x) (xg (s.1 1) (s.2 2)) = -1 ∧ ¬ nI (s.1 x).length < 8)) : ∃ s1 y, Fz s s1 ∧ (f_5022 x s).1 = au_nx (sB (au_sk 34 s1) 1 y) := by
  unfold f_5022
  by_cases c : xpos (s.1 x) (xg (s.1 1) (s.2 2)) = -1
  · rw [if_pos c]
    by_cases c2 : nI (s.1 x).length < 8
    · rw [if_pos c2, bS_eq]
      exact ⟨_, _, Fz.B (xs := xadd (ev_cap x) (s.1 x) (xg (s.1 1) (s.2 2))) hx.1 hx.2.1 hx.2.2, rfl⟩
    · exact absurd ⟨c, c2⟩ h
  · rw [if_neg c]
    exact ⟨s, _, Fz.r, rfl⟩
/-- a name becomes a variable -/
theorem LI0.var {x : Nat} {K : Sx → Int32 → Ar} (h : LI0 e s a p q P) (hk : (s.1 0).getD a 0 = 4) (hx : x ≠ 0 ∧ x ≠ 5 ∧ x ≠ 6) (hB : au_var x s K = .inl B) (hK : ∀ s2 y, (∃ q', LI0 e s2 (a + 1) 34 q' False) → K s2 y = .inl B → LI e B.1 B.2.1 (a + 1)) : LI e B.1 B.2.1 (a + 1) := by
  unfold au_var at hB
  split at hB
  · cases hB
  · rename_i hc
    obtain ⟨s1, y, h1, h2⟩ := var_e hx hc
    refine hK _ _ ?_ hB
    have ha := h.lt (by rw [hk]; decide)
    obtain ⟨g1, g2⟩ := (h.fz h1).sk (v := 34) ha
    obtain ⟨q', g3, _⟩ := (g1.fz (Fz.B (k := 1) (xs := y) (by decide) (by decide) (by decide))).nx g2 (by decide) (loc_n (by decide)) (fun _ => by decide)
    exact ⟨q', by rw [h2]; exact g3⟩
theorem names_x (s : Sx) : f_5004 s ≠ 0 ∧ f_5004 s ≠ 5 ∧ f_5004 s ≠ 6 := by
  unfold f_5004
  split <;> decide
theorem LI.en (h : ∃ q', LI0 e s a p q' False) (hp : EndO p) : LI e (au_en bl op s).1 (au_en bl op s).2.1 a := by
  obtain ⟨q', h⟩ := h
  obtain ⟨h1, h2⟩ := Fz.en (bl := bl) op s
  refine ⟨p, q', h.fz h1, ?_⟩
  rcases h2 with w | w | w
  · rw [w]; exact sc_4 hp
  · rw [w]; exact sc_n (by simp)
  · rw [w]; exact sc_n (by simp)
theorem LI.lv {K : Sx → Ar} (hB : au_lv s K = .inl B) (hK : K (au_up s) = .inl B → LI e B.1 B.2.1 (a + 1)) : LI e B.1 B.2.1 (a + 1) := by
  unfold au_lv at hB
  split at hB
  · exact hK hB
  · cases hB
theorem inl_e {A : Au} {R : Au → Prop} (h : (Sum.inl A : Ar) = .inl B) (hP : R A) : R B := by
  cases h; exact hP
theorem LI0.up (h : LI0 e s a p q P) : LI0 e (sV s 4 (s.2 4 + 1)) a p q P := h.fz (Fz.va (by decide))
/-- a call begins -/
theorem LI0.call (h : LI0 e s a p q P) (hk : (s.1 0).getD a 0 = 4) (hn : xg (s.1 0) (s.2 2 + 1) = 28) (hp : p ≠ 10) (hB : au_call s op bl = .inl B) : LI e B.1 B.2.1 (a + 1) := by
  refine inl_e hB (R := fun B => LI e B.1 B.2.1 (a + 1)) ?_
  have ha := h.lt (by rw [hk]; decide)
  have hF : Fz s (au_ca 17 0 (au_ca 16 0 (au_ca 15 (s.2 2) s))) := ((Fz.B (by decide) (by decide) (by decide)).tr (Fz.B (by decide) (by decide) (by decide))).tr (Fz.B (by decide) (by decide) (by decide))
  obtain ⟨g1, g2⟩ := (h.fz hF).sk (v := 35) ha
  obtain ⟨q', g3, g4⟩ := g1.nx g2 (by decide) (loc_n (by decide)) (fun _ => by decide)
  refine ⟨35, q', g3, sc_13 ⟨rfl, fun w => hp (g4.1 w), ?_⟩⟩
  have e0 : (au_nx (au_sk 35 (au_ca 17 0 (au_ca 16 0 (au_ca 15 (s.2 2) s))))).1 0 = xset (s.1 0) (s.2 2) 35 := rfl
  show ((au_nx (au_sk 35 (au_ca 17 0 (au_ca 16 0 (au_ca 15 (s.2 2) s))))).1 0).getD (a + 1) 0 = 28
  rw [e0, h.1, xset_n (by have := h.2.2.1; omega), gD_set_n (by omega), ← h.kn]
  exact hn
/-- operands -/
theorem LI0.opd (h : LI0 e s a p q P) (hs : st = 2 ∨ st = 3) (hp : ¬ EndO p ∧ ¬ BegS p ∧ p ≠ 35 ∧ p ≠ 10) (hB : au_opd s st op bl = .inl B) : LI e B.1 B.2.1 (a + 1) := by
  have hko := h.ko
  unfold au_opd at hB
  split at hB
  · rename_i c
    rw [hko] at c
    obtain ⟨q', g, _⟩ := (h.fz (Fz.cd (c := 1) (x := xg (s.1 1) (s.2 2)))).nx c (by decide) (loc_n (by decide)) (fun _ => by decide)
    exact inl_e hB (R := fun B => LI e B.1 B.2.1 (a + 1)) (LI.en ⟨q', g⟩ (by decide))
  split at hB
  · rename_i c
    rw [hko] at c
    obtain ⟨q', g, _⟩ := (h.fz (Fz.cd (c := 5) (x := 0))).nx c (by decide) (loc_n (by decide)) (fun _ => by decide)
    exact inl_e hB (R := fun B => LI e B.1 B.2.1 (a + 1)) (LI.en ⟨q', g⟩ (by decide))
  split at hB
  · rename_i c
    rw [hko] at c
    refine LI.lv hB (fun hB => inl_e hB (R := fun B => LI e B.1 B.2.1 (a + 1)) ?_)
    exact h.up.go (v := 28) c (by decide) ⟨by decide, fun w => absurd w (by decide), fun w => absurd w (by decide), fun w => absurd w (by decide), fun w => absurd w (by decide), fun w => absurd w (by decide), fun _ w => hp.2.2.1 w.1⟩ (fun w => absurd w hp.2.1) Fz.r (fun _ _ _ => sc_2 (Or.inl rfl) (by decide))
  split at hB
  · rename_i c
    rw [hko] at c
    have ha := h.lt (by rw [c]; decide)
    refine LI.lv hB (fun hB => inl_e hB (R := fun B => LI e B.1 B.2.1 (a + 1)) ?_)
    obtain ⟨g1, g2⟩ := h.sk (v := 36) ha
    exact g1.up.go (v := 36) g2 (by decide) ⟨by decide, fun w => absurd w (by decide), fun _ => hp.1, fun w => absurd w (by decide), fun w => absurd w (by decide), fun w => absurd w (by decide), fun w => absurd w (by decide)⟩ (fun w => absurd w hp.2.1) Fz.r (fun _ _ _ => sc_2 (Or.inl rfl) (by decide))
  split at hB
  · rename_i c
    rw [hko] at c
    refine LI.lv hB (fun hB => inl_e hB (R := fun B => LI e B.1 B.2.1 (a + 1)) ?_)
    rcases c with c | c
    · exact h.up.go (v := 25) c (by decide) (loc_n (by decide)) (fun w => absurd w hp.2.1) Fz.r (fun _ _ _ => sc_2 (Or.inl rfl) (by decide))
    · exact h.up.go (v := 26) c (by decide) ⟨by decide, fun w => absurd w (by decide), fun w => absurd w (by decide), fun w => absurd w (by decide), fun _ => hp.2.1, fun w => absurd w (by decide), fun w => absurd w (by decide)⟩ (fun w => absurd w hp.2.1) Fz.r (fun _ _ _ => sc_2 (Or.inl rfl) (by decide))
  split at hB
  · rename_i c
    rw [hko] at c
    split at hB
    · rename_i c2
      exact h.call c c2 hp.2.2.2 hB
    · refine h.var c (names_x s) hB (fun s2 y g hB => inl_e hB (R := fun B => LI e B.1 B.2.1 (a + 1)) ?_)
      obtain ⟨q', g⟩ := g
      exact LI.en ⟨q', g.fz Fz.cd⟩ (by decide)
  split at hB
  · rename_i c
    rw [hko] at c
    cases op with
    | nil => cases hB
    | cons x r =>
      obtain ⟨q', g, _⟩ := h.nx c.1 (by decide) (loc_n (by decide)) (fun _ => by decide)
      refine inl_e hB (R := fun B => LI e B.1 B.2.1 (a + 1)) (LI.en ⟨q', g.fz (s' := au_clz x.2.1 x.2.2.1 s) ?_⟩ (by decide))
      unfold au_clz au_rs
      exact ((Fz.dn.tr (Fz.B (by decide) (by decide) (by decide))).tr Fz.cd).tr (Fz.B (by decide) (by decide) (by decide))
  · cases hB
end LSX
