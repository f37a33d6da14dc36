/-! what the reader makes of a token is told by the tokens before it -/
section LOX
abbrev EndO (p : Int32) : Prop := p = 3 ∨ p = 9 ∨ p = 34 ∨ p = 29
abbrev BegS (p : Int32) : Prop := p = 30 ∨ p = 31 ∨ p = 33
abbrev BadV (v : Int32) : Prop := v = 13 ∨ v = 36 ∨ v = 26 ∨ v = 28 ∨ v = 38
def Pv (l : List Int32) (a : Nat) : Int32 := if a = 0 then 33 else l.getD (a - 1) 0
def Qv (l : List Int32) (a : Nat) : Int32 := if a < 2 then 0 else l.getD (a - 2) 0
abbrev OkV (v : Int32) : Prop := v ≠ 4 ∧ 3 ≤ v.toInt ∧ v.toInt ≤ 38
abbrev LocP (p q v : Int32) : Prop := OkV v ∧ (v = 13 → EndO p) ∧ (v = 36 → ¬ EndO p) ∧ (v = 37 → BegS p) ∧ (v = 26 → ¬ BegS p) ∧ (v = 38 → p = 35 ∧ q ≠ 10) ∧ (v = 28 → ¬ (p = 35 ∧ q ≠ 10))
def Loc (l : List Int32) (x : Nat) : Prop := LocP (Pv l x) (Qv l x) (l.getD x 0)
def PtO (l : List Int32) (x : Nat) : Prop := ¬ BadV (l.getD x 0) ∧ BegS (Pv l x)
def LI0 (e : Nat) (s : Sx) (a : Nat) (p q : Int32) (P : Prop) : Prop :=
  s.2 2 = nI a ∧ a ≤ e ∧ e ≤ 300 ∧ (s.1 0).length = e + 1 ∧ (s.1 0).getD e 0 = 0 ∧ (∀ x, x < a → Loc (s.1 0) x) ∧ (∀ z, z ∈ s.1 5 → ∃ x, z = nI x ∧ (x < a ∧ PtO (s.1 0) x ∨ x = a ∧ BegS p ∧ P)) ∧ (∀ z, z ∈ s.1 6 → ∃ x, z = nI x ∧ x ≤ a) ∧ Pv (s.1 0) a = p ∧ Qv (s.1 0) a = q
def ScO (st p q k : Int32) : Prop :=
  (st = 0 → BegS p) ∧ (st = 1 → p = 31) ∧ (st = 2 ∨ st = 3 → ¬ EndO p ∧ ¬ BegS p ∧ p ≠ 35 ∧ p ≠ 10) ∧ (st = 4 → EndO p) ∧ (st = 8 → p = 10) ∧ (st = 9 → p = 35 ∧ q = 10) ∧ (st = 13 → p = 35 ∧ q ≠ 10 ∧ k = 28)
def LI (e : Nat) (s : Sx) (st : Int32) (a : Nat) : Prop := ∃ p q, LI0 e s a p q False ∧ ScO st p q ((s.1 0).getD a 0)
/-- what leaves the tokens as they are -/
def Fz (s s' : Sx) : Prop := s'.1 0 = s.1 0 ∧ s'.1 5 = s.1 5 ∧ s'.2 2 = s.2 2 ∧ ∀ z, z ∈ s'.1 6 → z ∈ s.1 6 ∨ z = s.2 2
variable {s s' : Sx} {e a : Nat} {p q v st : Int32} {op bl : List Ae} {P : Prop}
theorem Fz.r : Fz s s := ⟨rfl, rfl, rfl, fun _ h => Or.inl h⟩
theorem Fz.tr {s'' : Sx} (h : Fz s s') (h' : Fz s' s'') : Fz s s'' := by
  refine ⟨h'.1.trans h.1, h'.2.1.trans h.2.1, h'.2.2.1.trans h.2.2.1, fun z hz => ?_⟩
  rcases h'.2.2.2 z hz with w | w
  · exact h.2.2.2 z w
  · exact Or.inr (w.trans h.2.2.1)
theorem Fz.cd {c x : Int32} : Fz s (au_cd c x s) := Fz.r
theorem Fz.pt {x : Int32} : Fz s (au_pt x s) := Fz.r
theorem Fz.sv {t x : Int32} : Fz s (au_sv t x s) := Fz.r
theorem Fz.dn : Fz s (au_dn s) := Fz.r
theorem Fz.va {k : Nat} {x : Int32} (h : k ≠ 2) : Fz s (sV s k x) := ⟨rfl, rfl, if_neg (fun e => h e.symm), fun _ h => Or.inl h⟩
theorem Fz.B {k : Nat} {xs : List Int32} (h0 : k ≠ 0) (h5 : k ≠ 5) (h6 : k ≠ 6) : Fz s (sB s k xs) := by
  refine ⟨if_neg (fun e => h0 e.symm), if_neg (fun e => h5 e.symm), rfl, fun z hz => ?_⟩
  rw [show (sB s k xs).1 6 = s.1 6 from if_neg (fun e => h6 e.symm)] at hz
  exact Or.inl hz
theorem mem_xset {l : List Int32} {x y z : Int32} (h : z ∈ xset l x y) : z ∈ l ∨ z = y := by
  unfold xset at h
  split at h
  · exact Or.inl h
  · exact List.mem_or_eq_of_mem_set h
theorem Fz.ep {x : Int32} : Fz s (au_ep x s) := ⟨rfl, rfl, rfl, fun z hz => mem_xset hz⟩
theorem Fz.pop {x : Ae} : Fz s (au_pop x s) := by
  unfold au_pop
  split
  · exact (Fz.cd.tr Fz.pt).tr Fz.sv
  · exact Fz.cd
theorem Fz.fl {lv : Int32} : ∀ (op : List Ae) (s : Sx), Fz s (au_fl lv op s).2 := by
  intro op
  induction op with
  | nil => intro s; exact Fz.r
  | cons x r ih =>
    intro s
    unfold au_fl
    split
    · exact Fz.pop.tr (ih _)
    · exact Fz.r
theorem Fz.en : ∀ (op : List Ae) (s : Sx), Fz s (au_en bl op s).1 ∧ ((au_en bl op s).2.1 = 4 ∨ (au_en bl op s).2.1 = 6 ∨ (au_en bl op s).2.1 = 14) := by
  intro op
  induction op with
  | nil => intro s; exact ⟨Fz.r, Or.inl rfl⟩
  | cons x r ih =>
    intro s
    rw [au_en]
    split
    · have := ih (au_cd 8 x.2.1 (au_dn s))
      exact ⟨(Fz.dn.tr Fz.cd).tr this.1, this.2⟩
    split
    · exact ⟨Fz.dn, Or.inr (Or.inl rfl)⟩
    split
    · exact ⟨Fz.cd, Or.inr (Or.inr rfl)⟩
    · exact ⟨Fz.r, Or.inl rfl⟩
theorem LI0.fz (h : LI0 e s a p q P) (hF : Fz s s') : LI0 e s' a p q P := by
  obtain ⟨h1, h2, h3, h4, h5, h6, h7, h8, h9, h10⟩ := h
  obtain ⟨f1, f2, f3, f4⟩ := hF
  refine ⟨f3.trans h1, h2, h3, by rw [f1]; exact h4, by rw [f1]; exact h5, by rw [f1]; exact h6, by rw [f1, f2]; exact h7, fun z hz => ?_, by rw [f1]; exact h9, by rw [f1]; exact h10⟩
  rcases f4 z hz with w | w
  · exact h8 z w
  · exact ⟨a, w.trans h1, Nat.le_refl _⟩
theorem Pv_set {l : List Int32} {x b : Nat} (h : x ≤ b) : Pv (l.set b v) x = Pv l x := by
  unfold Pv
  split
  · rfl
  · rw [gD_set_n (by omega)]
theorem Qv_set {l : List Int32} {x b : Nat} (h : x ≤ b) : Qv (l.set b v) x = Qv l x := by
  unfold Qv
  split
  · rfl
  · rw [gD_set_n (by omega)]
theorem LI0.sk (h : LI0 e s a p q P) (ha : a < e) : LI0 e (au_sk v s) a p q P ∧ ((au_sk v s).1 0).getD a 0 = v := by
  obtain ⟨h1, h2, h3, h4, h5, h6, h7, h8, h9, h10⟩ := h
  have e0 : (au_sk v s).1 0 = (s.1 0).set a v := by
    show xset (s.1 0) (s.2 2) v = _
    rw [h1, xset_n (by omega)]
  have hp : ∀ x, x < a → (PtO ((s.1 0).set a v) x ↔ PtO (s.1 0) x) := fun x hx => by
    unfold PtO
    rw [Pv_set (by omega), gD_set_n (by omega)]
  refine ⟨⟨h1, h2, h3, by rw [e0, List.length_set]; exact h4, by rw [e0, gD_set_n (by omega)]; exact h5, fun x hx => by rw [e0]; unfold Loc; rw [Pv_set (by omega), Qv_set (by omega), gD_set_n (by omega)]; exact h6 x hx, fun z hz => ?_, h8, by rw [e0, Pv_set (Nat.le_refl _)]; exact h9, by rw [e0, Qv_set (Nat.le_refl _)]; exact h10⟩, by rw [e0, gD_set_s (by omega)]⟩
  obtain ⟨x, hx, hx2⟩ := h7 z hz
  refine ⟨x, hx, ?_⟩
  rcases hx2 with ⟨w1, w2⟩ | w
  · exact Or.inl ⟨w1, by rw [e0]; exact (hp x w1).2 w2⟩
  · exact Or.inr w
theorem LI0.nx (h : LI0 e s a p q P) (hk : (s.1 0).getD a 0 = v) (hv0 : v ≠ 0) (hv : LocP p q v) (hb : BegS p → ¬ BadV v) : ∃ q', LI0 e (au_nx s) (a + 1) v q' False ∧ (q' = 10 ↔ p = 10) := by
  obtain ⟨h1, h2, h3, h4, h5, h6, h7, h8, h9, h10⟩ := h
  have ha : a < e := by
    rcases Nat.lt_or_ge a e with w | w
    · exact w
    · exfalso
      rw [show a = e by omega, h5] at hk
      exact hv0 hk.symm
  have hP : Pv (s.1 0) (a + 1) = v := by
    unfold Pv
    rw [if_neg (by omega), show a + 1 - 1 = a from rfl]
    exact hk
  refine ⟨Qv (s.1 0) (a + 1), ⟨?_, by omega, h3, h4, h5, fun x hx => ?_, fun z hz => ?_, fun z hz => ?_, hP, rfl⟩, ?_⟩
  · show s.2 2 + 1 = _
    rw [h1, nI_p1 (by omega)]
  · by_cases c : x = a
    · subst c
      unfold Loc
      show LocP (Pv (s.1 0) x) (Qv (s.1 0) x) ((s.1 0).getD x 0)
      rw [h9, h10, hk]
      exact hv
    · exact h6 x (by omega)
  · obtain ⟨x, hx, hx2⟩ := h7 z hz
    refine ⟨x, hx, Or.inl ?_⟩
    rcases hx2 with ⟨w1, w2⟩ | ⟨w1, w2, _⟩
    · exact ⟨by omega, w2⟩
    · subst w1
      refine ⟨by omega, ?_, ?_⟩
      · show ¬ BadV ((s.1 0).getD x 0)
        rw [hk]; exact hb w2
      · show BegS (Pv (s.1 0) x)
        rw [h9]; exact w2
  · obtain ⟨x, hx, hx2⟩ := h8 z hz
    exact ⟨x, hx, by omega⟩
  · unfold Qv
    by_cases c : a = 0
    · subst c
      rw [if_pos (by omega)]
      unfold Pv at h9
      rw [if_pos rfl] at h9
      rw [← h9]
      decide
    · rw [if_neg (by omega), show a + 1 - 2 = a - 1 by omega]
      unfold Pv at h9
      rw [if_neg c] at h9
      rw [h9]
theorem LI0.bp (h : LI0 e s a p q P) (hB : BegS p) : LI0 e (au_bp s) a p q True := by
  obtain ⟨h1, h2, h3, h4, h5, h6, h7, h8, h9, h10⟩ := h
  have old : ∀ z, z ∈ s.1 5 → ∃ x, z = nI x ∧ (x < a ∧ PtO (s.1 0) x ∨ x = a ∧ BegS p ∧ True) := fun z hz => by
    obtain ⟨x, hx, hx2⟩ := h7 z hz
    rcases hx2 with w | w
    · exact ⟨x, hx, Or.inl w⟩
    · exact ⟨x, hx, Or.inr ⟨w.1, w.2.1, trivial⟩⟩
  refine ⟨h1, h2, h3, h4, h5, h6, fun z hz => ?_, fun z hz => ?_, h9, h10⟩
  · have hz : z ∈ xadd (ev_cap 5) (s.1 5) (s.2 2) := hz
    unfold xadd at hz
    split at hz
    · rcases List.mem_append.1 hz with w | w
      · exact old z w
      · exact ⟨a, (List.mem_singleton.1 w).trans h1, Or.inr ⟨rfl, hB, trivial⟩⟩
    · exact old z hz
  · have hz : z ∈ xadd (ev_cap 6) (s.1 6) (s.2 2) := hz
    unfold xadd at hz
    split at hz
    · rcases List.mem_append.1 hz with w | w
      · exact h8 z w
      · exact ⟨a, (List.mem_singleton.1 w).trans h1, Nat.le_refl _⟩
    · exact h8 z hz
theorem LI0.ko (h : LI0 e s a p q P) : au_ko s = (s.1 0).getD a 0 := by
  unfold au_ko
  rw [h.1, xg_n (by have := h.2.1; have := h.2.2.1; omega)]
theorem LI0.kn (h : LI0 e s a p q P) : xg (s.1 0) (s.2 2 + 1) = (s.1 0).getD (a + 1) 0 := by
  have := h.2.1
  have := h.2.2.1
  rw [h.1, nI_p1 (by omega), xg_n (by omega)]
end LOX
