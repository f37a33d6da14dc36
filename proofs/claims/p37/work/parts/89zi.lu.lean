/-! a text that was read: kinds are told by the tokens before -/
section LUX
variable {s s' : Sx} {e a : Nat} {p q v st k : Int32} {op bl : List Ae} {B : Au}
theorem LI.set (h : LI e s st a) : LI e (au_set (s, st, op, bl)).1 (au_set (s, st, op, bl)).2.1 a ∧ ((au_set (s, st, op, bl)).2.1 = 1 → au_ko (au_set (s, st, op, bl)).1 = 6) := by
  obtain ⟨p, q, h0, hs⟩ := h
  by_cases c : st = 1 ∧ au_ko s ≠ 6
  · have hp : p = 31 := hs.2.1 c.1
    cases op with
    | nil =>
      have e1 : au_set (s, st, [], bl) = (s, 0, [], bl) := by
        show (if st = 1 ∧ au_ko s ≠ 6 then _ else _) = _
        rw [if_pos c]
      rw [e1]
      exact ⟨⟨p, q, h0, sc_0 (by rw [hp]; decide)⟩, fun w => absurd w (show ¬ (0 : Int32) = 1 by decide)⟩
    | cons x r =>
      have e1 : au_set (s, st, x :: r, bl) = (au_ep x.2.1 (au_pt x.2.2.1 s), 0, r, bl) := by
        show (if st = 1 ∧ au_ko s ≠ 6 then _ else _) = _
        rw [if_pos c]
      rw [e1]
      exact ⟨⟨p, q, h0.fz (Fz.pt.tr Fz.ep), sc_0 (by rw [hp]; decide)⟩, fun w => absurd w (show ¬ (0 : Int32) = 1 by decide)⟩
  · have e1 : au_set (s, st, op, bl) = (s, st, op, bl) := if_neg c
    rw [e1]
    refine ⟨⟨p, q, h0, hs⟩, fun w => ?_⟩
    by_cases c6 : au_ko s = 6
    · exact c6
    · exact absurd ⟨w, c6⟩ c
theorem LI.acc0 (h : LI e s st a) (h1 : st = 1 → au_ko s = 6) (hB : au_acc0 s st op bl = .inl B) : LI e B.1 B.2.1 (a + 1) := by
  obtain ⟨p, q, h, s0, s1, s2, s4, s8, s9, s13⟩ := h
  have hko := h.ko
  unfold au_acc0 at hB
  by_cases c : st = 0
  · rw [if_pos c] at hB
    exact h.s0 (s0 c) hB
  rw [if_neg c] at hB
  by_cases c : st = 1
  · rw [if_pos c] at hB
    have h6 := h1 c
    rw [hko] at h6
    cases op with
    | nil => cases hB
    | cons x r => exact inl_e hB (R := fun B => LI e B.1 B.2.1 (a + 1)) (h.go h6 (by decide) (loc_n (by decide)) (fun _ => by decide) (Fz.cd.tr Fz.pt) (fun _ _ _ => sc_n (by simp)))
  rw [if_neg c] at hB
  by_cases c : st = 2 ∨ st = 3
  · rw [if_pos c] at hB
    exact h.opd c (s2 c) hB
  rw [if_neg c] at hB
  by_cases c : st = 4
  · rw [if_pos c] at hB
    exact h.opr (s4 c) hB
  rw [if_neg c] at hB
  by_cases c : st = 5 ∨ st = 6
  · rw [if_pos c] at hB
    split at hB
    · rename_i c2
      rw [hko] at c2
      exact inl_e hB (R := fun B => LI e B.1 B.2.1 (a + 1)) (h.go c2 (by decide) (loc_n (by decide)) (fun _ => by decide) Fz.r (fun _ _ _ => sc_2 (Or.inl rfl) (by decide)))
    · cases hB
  rw [if_neg c] at hB
  by_cases c : st = 7
  · rw [if_pos c] at hB
    cases op with
    | nil => cases hB
    | cons x r =>
      dsimp only at hB
      split at hB
      · rename_i c2
        rw [hko] at c2
        exact LI.lv hB (fun hB => inl_e hB (R := fun B => LI e B.1 B.2.1 (a + 1)) (h.up.go c2 (by decide) (loc_n (by decide)) (fun _ => by decide) Fz.r (fun _ _ _ => sc_0 (by decide))))
      · cases hB
  rw [if_neg c] at hB
  by_cases c : st = 8
  · rw [if_pos c] at hB
    exact h.dfw (s8 c) hB
  rw [if_neg c] at hB
  by_cases c : st = 9
  · rw [if_pos c] at hB
    obtain ⟨p35, q10⟩ := s9 c
    split at hB
    · rename_i c2
      rw [hko] at c2
      refine LI.lv hB (fun hB => inl_e hB (R := fun B => LI e B.1 B.2.1 (a + 1)) (h.up.go (v := 28) c2 (by decide) ⟨by decide, fun w => absurd w (by decide), fun w => absurd w (by decide), fun w => absurd w (by decide), fun w => absurd w (by decide), fun w => absurd w (by decide), fun _ w => w.2 q10⟩ (fun w => ?_) Fz.r (fun _ _ _ => sc_n (by simp))))
      rw [p35] at w
      exact absurd w (by decide)
    · cases hB
  rw [if_neg c] at hB
  by_cases c : st = 10
  · rw [if_pos c] at hB
    split at hB
    · rename_i c2
      rw [hko] at c2
      exact h.pcl c2 hB
    · exact h.prm hB
  rw [if_neg c] at hB
  by_cases c : st = 11
  · rw [if_pos c] at hB
    exact h.prm hB
  rw [if_neg c] at hB
  by_cases c : st = 12
  · rw [if_pos c] at hB
    split at hB
    · rename_i c2
      rw [hko] at c2
      exact inl_e hB (R := fun B => LI e B.1 B.2.1 (a + 1)) (h.go c2 (by decide) (loc_n (by decide)) (fun _ => by decide) Fz.r (fun _ _ _ => sc_n (by simp)))
    split at hB
    · rename_i c2
      rw [hko] at c2
      exact h.pcl c2 hB
    · cases hB
  rw [if_neg c] at hB
  by_cases c : st = 13
  · rw [if_pos c] at hB
    obtain ⟨p35, q10, k28⟩ := s13 c
    refine LI.lv hB (fun hB => inl_e hB (R := fun B => LI e B.1 B.2.1 (a + 1)) ?_)
    have ha := h.lt (by rw [k28]; decide)
    obtain ⟨g1, g2⟩ := h.sk (v := 38) ha
    refine g1.up.go (v := 38) g2 (by decide) ⟨by decide, fun w => absurd w (by decide), fun w => absurd w (by decide), fun w => absurd w (by decide), fun w => absurd w (by decide), fun _ => ⟨p35, q10⟩, fun w => absurd w (by decide)⟩ (fun w => ?_) Fz.r (fun _ _ _ => sc_2 (Or.inr rfl) (by decide))
    rw [p35] at w
    exact absurd w (by decide)
  rw [if_neg c] at hB
  cases op with
  | nil => cases hB
  | cons x r =>
    dsimp only at hB
    split at hB
    · rename_i c2
      rw [hko] at c2
      exact inl_e hB (R := fun B => LI e B.1 B.2.1 (a + 1)) (h.go c2 (by decide) (loc_n (by decide)) (fun _ => by decide) Fz.ep (fun _ _ _ => sc_0 (by decide)))
    · cases hB
theorem LI.it : ∀ (k a : Nat) (A B : Au), LI e A.1 A.2.1 a → au_it k A = .inl B → LI e B.1 B.2.1 (a + k) := by
  intro k
  induction k with
  | zero =>
    intro a A B h hB
    cases hB
    exact h
  | succ k ih =>
    intro a A B h hB
    rw [au_it] at hB
    obtain ⟨s, st, op, bl⟩ := A
    obtain ⟨g1, g2⟩ := LI.set (op := op) (bl := bl) h
    cases hC : au_acc (s, st, op, bl) with
    | inl C =>
      rw [hC] at hB
      have := ih (a + 1) C B (g1.acc0 g2 hC) hB
      rw [show a + (k + 1) = a + 1 + k by omega]
      exact this
    | inr f => rw [hC] at hB; cases hB
def S056 (s s' : Sx) : Prop := s'.1 0 = s.1 0 ∧ s'.1 5 = s.1 5 ∧ s'.1 6 = s.1 6
theorem S056.tr {s'' : Sx} (h : S056 s s') (h' : S056 s' s'') : S056 s s'' := ⟨h'.1.trans h.1, h'.2.1.trans h.2.1, h'.2.2.trans h.2.2⟩
theorem S056.ref {f t : Int32} : S056 s (f_5005 f t s) := by
  unfold S056
  rw [ref0]
  exact ⟨rfl, rfl, rfl⟩
theorem S056.lk : ∀ (n : Nat) (l : Int32) (s : Sx), HS (S056 s) (f_5023_L2 n l s) := by
  intro n
  induction n with
  | zero => intro l s s' h; cases h
  | succ n ih =>
    intro l s
    rw [f_5023_L2]
    refine HS.ite (fun _ => HS.some ⟨rfl, rfl, rfl⟩) (fun _ => HS.ite (fun _ => ?_) (fun _ => HS.some ⟨rfl, rfl, rfl⟩))
    refine HS.ite (fun _ => HS.bS (fun s' h => S056.ref.tr (ih _ _ s' h))) (fun _ => HS.ite (fun _ => HS.bS (HS.bS (fun s' h => ?_))) (fun _ => HS.bS (fun s' h => S056.ref.tr (ih _ _ s' h))))
    exact S056.tr (s' := f_4009 _ _ (sB s 1 _)) ⟨rfl, rfl, rfl⟩ (ih _ _ s' h)
theorem S056.x02 : S056 s (f_5002 s) := by
  unfold f_5002
  split
  · simp only [bS_eq]
    split
    · exact ⟨rfl, rfl, rfl⟩
    split
    · exact ⟨rfl, rfl, rfl⟩
    · exact ⟨rfl, rfl, rfl⟩
  · exact ⟨rfl, rfl, rfl⟩
/-- what is known of the tokens and parts of a text that was read -/
def TkO (s : Sx) (i : Nat) : Prop := (∀ x, x < i → Loc (s.1 0) x) ∧ (∀ z, z ∈ s.1 5 → ∃ x, z = nI x ∧ x < i ∧ PtO (s.1 0) x) ∧ (∀ z, z ∈ s.1 6 → ∃ x, z = nI x ∧ x ≤ i)
theorem rd_loc {tx : List Int32} {s1 : Sx} (hn : tx.length ≤ 300) (ht : tkR s (tks tx)) (h1 : f_5001 s = some s1) (h0 : s1.2 0 = 0) : TkO s1 ((tks tx).length - 1) := by
  obtain ⟨hL, hR⟩ := rdA_Lv hn ht
  have h5 : (rdA s).2 5 = 0 := rfl
  have r0 : (rdA s).1 0 = s.1 0 := rdA_r s (by omega)
  rw [rdA_e] at h1
  rcases read_loopK (G := fun _ => True) (fun _ _ _ _ => trivial) (e := (tks tx).length - 1) (sA := rdA s) (s0 := s) (r0 := s.1 0) 400 0 0 (rdA s, 0, [], []) (rdA s) 0 (by have := tks_300 hn; omega) (Nat.le_refl _) rfl (au_set_n (by decide)) hL h5 (by rw [← r0]; exact KI.r) (rdA_FC s) trivial with ⟨f, t, k, s', g1, g2, g3, g4, g5⟩ | ⟨k, A, s', g1, g2, g3, g4, g5, g6, g7, g8, g9⟩
  · exfalso
    obtain ⟨d, v1, v2⟩ := J100_co g3
    rw [g1, v1] at h1
    cases h1
    have hD : Dd f t (f_4005 17 0 s').1 := g3.co Co_cd
    rw [v2] at h0
    revert h0
    unfold f_5002
    split
    · simp only [bS_eq]
      split
      · exact fun w => absurd w (show ¬ (1 : Int32) = 0 by decide)
      split
      · exact fun w => absurd w (show ¬ (2 : Int32) = 0 by decide)
      · exact fun w => absurd w (show ¬ (3 : Int32) = 0 by decide)
    · intro w
      exact hD.2.2.1.1 (hD.1.symm.trans w)
  · have hI : LI ((tks tx).length - 1) (rdA s) 0 0 := by
      refine ⟨33, 0, ⟨hL.2.1, hL.2.2.2.1, hL.2.2.2.2.1, hL.2.2.2.2.2.1, hL.2.2.2.2.2.2.2.2.1, fun x hx => absurd hx (by omega), fun z hz => ?_, fun z hz => ?_, rfl, rfl⟩, sc_0 (by decide)⟩
      · rw [show (rdA s).1 5 = [] from rfl] at hz; cases hz
      · rw [show (rdA s).1 6 = [] from rfl] at hz; cases hz
    have hA := LI.it k 0 _ A hI g2
    rw [Nat.zero_add] at hA
    obtain ⟨sa, sta, opa, bla⟩ := A
    obtain ⟨w1, _⟩ := LI.set (op := opa) (bl := bla) hA
    rw [g3] at w1
    obtain ⟨p, q, w, _⟩ := w1
    have hk : k = (tks tx).length - 1 := by
      have q1 := w.1
      have q2 := w.2.1
      have q3 := w.2.2.1
      have q4 := g5.2.1
      rw [q1, nI_eq (by omega) (by omega)] at q4
      exact q4
    subst hk
    rw [g1] at h1
    unfold f_5001_J100 at h1
    rw [bT, bS_eq] at h1
    obtain ⟨s3, h3⟩ := bOv_ex h1
    rw [h3, bOv_some] at h1
    cases h1
    have hS : S056 s' s1 := (S056.tr (s' := (f_4005 17 0 s').1) ⟨rfl, rfl, rfl⟩ S056.x02).tr (S056.lk _ _ _ s1 h3)
    obtain ⟨v1, v2, v3⟩ := hS
    unfold TkO
    rw [v1, v2, v3]
    refine ⟨w.2.2.2.2.2.1, fun z hz => ?_, w.2.2.2.2.2.2.2.1⟩
    obtain ⟨x, x1, x2⟩ := w.2.2.2.2.2.2.1 z hz
    refine ⟨x, x1, ?_⟩
    rcases x2 with x2 | ⟨_, _, x3⟩
    · exact x2
    · exact x3.elim
end LUX
