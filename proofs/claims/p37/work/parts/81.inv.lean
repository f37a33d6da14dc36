/-! what stays so along the automaton's way -/
abbrev isBin (k : Int32) : Prop := 1 ≤ (lvK k).toInt ∧ (lvK k).toInt ≤ 6
/-- entries of an expression -/
abbrev isEx (k : Int32) : Prop := isBin k ∨ k = 40 ∨ k = 41 ∨ k = 42
def lcF (x : Ae) : Bool := x.1 == 40 || x.1 == 41 || x.1 == 42 || x.1 == 48
def ccF (x : Ae) : Bool := x.1 == 42
def lc (op : List Ae) : Nat := op.countP lcF
def cc (op : List Ae) : Nat := op.countP ccF
/-- calls that are open: the upper the later -/
def Dc : Nat → List Ae → Prop
  | _, [] => True
  | n, x :: r => if x.1 = 42 then ∃ k, x.2.1 = nI k ∧ k < n ∧ Dc k r else Dc n r
/-- operations lie above weaker ones -/
def Srt : List Ae → Prop
  | [] => True
  | x :: r => (isBin x.1 → ∀ y q, r = y :: q → (lvK y.1).toInt < (lvK x.1).toInt) ∧ Srt r
theorem lvK_ex {k : Int32} (h : k = 40 ∨ k = 41 ∨ k = 42 ∨ k = 43 ∨ k = 44 ∨ k = 45 ∨ k = 46 ∨ k = 47 ∨ k = 48 ∨ k = 49 ∨ k = 50) : lvK k = 0 ∧ ¬ isBin k ∧ (40 : Int32) ≤ k := by
  rcases h with h | h | h | h | h | h | h | h | h | h | h <;> subst h <;> exact ⟨by decide +kernel, by decide +kernel, by decide⟩
theorem Dc.mono {n n' : Nat} {op : List Ae} (h : Dc n op) (hn : n ≤ n') : Dc n' op := by
  induction op with
  | nil => trivial
  | cons x r ih =>
    unfold Dc at h ⊢
    split
    · rename_i e
      rw [if_pos e] at h
      obtain ⟨k, h1, h2, h3⟩ := h
      exact ⟨k, h1, by omega, h3⟩
    · rename_i e
      rw [if_neg e] at h
      exact ih h
theorem Dc.all {n : Nat} {op : List Ae} (h : Dc n op) : ∀ x, x ∈ op → x.1 = 42 → ∃ k, x.2.1 = nI k ∧ k < n := by
  induction op generalizing n with
  | nil => intro x hx; cases hx
  | cons y r ih =>
    intro x hx h42
    unfold Dc at h
    rcases List.mem_cons.1 hx with e | e
    · subst e
      rw [if_pos h42] at h
      obtain ⟨k, h1, h2, h3⟩ := h
      exact ⟨k, h1, h2⟩
    · split at h
      · obtain ⟨k, h1, h2, h3⟩ := h
        obtain ⟨j, w1, w2⟩ := ih h3 x e h42
        exact ⟨j, w1, by omega⟩
      · exact ih h x e h42
theorem Dc.tl {n : Nat} {x : Ae} {op : List Ae} (h : Dc n (x :: op)) : Dc n op := by
  unfold Dc at h
  split at h
  · obtain ⟨k, h1, h2, h3⟩ := h
    exact h3.mono (by omega)
  · exact h
/-- how deep it can be: nine or ten entries that are no operations -/
theorem Srt.len {op : List Ae} (h : Srt op) (hV : ∀ x, x ∈ op → (lvK x.1 = 0 ∨ isBin x.1)) : op.length ≤ 7 * op.countP (fun x => decide (lvK x.1 = 0)) + (match op with | [] => 0 | x :: _ => (lvK x.1).toInt.toNat) := by
  induction op with
  | nil => exact Nat.le_refl _
  | cons x r ih =>
    have ih' := ih h.2 (fun y hy => hV y (List.mem_cons_of_mem _ hy))
    rcases hV x (List.mem_cons_self ..) with h0 | hb
    · rw [List.countP_cons_of_pos (by simpa using h0), List.length_cons]
      have hz : (lvK x.1).toInt.toNat = 0 := by rw [h0]; rfl
      show _ ≤ _ + (lvK x.1).toInt.toNat
      rw [hz]
      cases r with
      | nil => simp
      | cons y q =>
        have hy := hV y (by simp)
        have hy6 : (lvK y.1).toInt.toNat ≤ 6 := by
          rcases hy with e | e
          · rw [e]; decide
          · have := e.2; omega
        have ih2 : (y :: q).length ≤ 7 * (y :: q).countP (fun x => decide (lvK x.1 = 0)) + (lvK y.1).toInt.toNat := ih'
        omega
    · have hn0 : ¬ lvK x.1 = 0 := by
        intro e
        have := hb.1
        rw [e] at this
        exact absurd this (by decide)
      rw [List.countP_cons_of_neg (by simpa using hn0), List.length_cons]
      show _ ≤ _ + (lvK x.1).toInt.toNat
      have hb1 := hb.1
      cases r with
      | nil =>
        have : (0 : Nat) + 1 ≤ 7 * 0 + (lvK x.1).toInt.toNat := by omega
        simpa using this
      | cons y q =>
        have hlt := h.1 hb y q rfl
        have hy := hV y (by simp)
        have ih2 : (y :: q).length ≤ 7 * (y :: q).countP (fun x => decide (lvK x.1 = 0)) + (lvK y.1).toInt.toNat := ih'
        have hy0 : 0 ≤ (lvK y.1).toInt := by
          rcases hy with e | e
          · rw [e]; decide
          · have := e.1; omega
        omega
/-- the entries of what is open, all together -/
def IvO (s : Sx) (op : List Ae) : Prop := (∀ x, x ∈ op → OpV s x) ∧ Dc (s.1 15).length op ∧ Srt op
theorem IvO.tl {s : Sx} {x : Ae} {op : List Ae} (h : IvO s (x :: op)) : IvO s op := ⟨fun y hy => h.1 y (List.mem_cons_of_mem _ hy), h.2.1.tl, h.2.2.2⟩
theorem IvO.cd {s : Sx} {op : List Ae} (h : IvO s op) {c y : Int32} (hc : (s.1 7).length < 600) : IvO (au_cd c y s) op := ⟨fun x hx => (h.1 x hx).cd hc, h.2⟩
theorem IvO.same {s s' : Sx} {op : List Ae} (h : IvO s op) (h0 : s'.1 0 = s.1 0) (h7 : s'.1 7 = s.1 7) (h15 : (s.1 15).length ≤ (s'.1 15).length) : IvO s' op := ⟨fun x hx => (h.1 x hx).same h0 h7, h.2.1.mono h15, h.2.2⟩
theorem fl_inv {lv : Int32} (hlv : 1 ≤ lv.toInt) : ∀ (op : List Ae) (s : Sx), IvO s op → (s.1 7).length + op.length ≤ 600 →
    IvO (au_fl lv op s).2 (au_fl lv op s).1 ∧ ((au_fl lv op s).2.1 7).length + (au_fl lv op s).1.length = (s.1 7).length + op.length ∧ lc (au_fl lv op s).1 = lc op ∧ cc (au_fl lv op s).1 = cc op ∧ (au_fl lv op s).1.length ≤ op.length ∧
      (∀ k, k ≠ 1 → k ≠ 7 → k ≠ 8 → (au_fl lv op s).2.1 k = s.1 k) ∧ (au_fl lv op s).2.2 = s.2 ∧ (∃ q, op = q ++ (au_fl lv op s).1 ∧ ∀ x, x ∈ q → isBin x.1) ∧ (∀ x r, (au_fl lv op s).1 = x :: r → ¬ lv ≤ lvK x.1) := by
  intro op
  induction op with
  | nil =>
    intro s h hc
    exact ⟨h, rfl, rfl, rfl, Nat.le_refl _, fun _ _ _ _ => rfl, rfl, ⟨[], rfl, fun x hx => by cases hx⟩, fun x r e => by cases e⟩
  | cons x r ih =>
    intro s h hc
    have hc' : (s.1 7).length + (r.length + 1) ≤ 600 := hc
    have hdef : au_fl lv (x :: r) s = if lv ≤ lvK x.1 then au_fl lv r (au_pop x s) else (x :: r, s) := rfl
    by_cases q : lv ≤ lvK x.1
    · rw [hdef, if_pos q]
      have hb : isBin x.1 := by
        rcases (h.1 x (List.mem_cons_self ..)).1 with ⟨_, e⟩ | e
        · rw [e, i_le] at q
          have : (0 : Int32).toInt = 0 := rfl
          omega
        · exact e
      have hn : ∀ v : Int32, ¬ isBin v → x.1 ≠ v := fun v hv e => hv (e ▸ hb)
      have e40 : x.1 ≠ 40 := hn 40 (by decide +kernel)
      have e41 : x.1 ≠ 41 := hn 41 (by decide +kernel)
      have e42 : x.1 ≠ 42 := hn 42 (by decide +kernel)
      have e48 : x.1 ≠ 48 := hn 48 (by decide +kernel)
      have hlc : lc (x :: r) = lc r := by
        unfold lc
        rw [List.countP_cons_of_neg]
        simp [lcF, e40, e41, e42, e48]
      have hcc : cc (x :: r) = cc r := by
        unfold cc
        rw [List.countP_cons_of_neg]
        simp [ccF, e42]
      have p7 : ((au_pop x s).1 7).length = (s.1 7).length + 1 := by
        unfold au_pop
        split
        · exact len_cd (c := 10) (y := 0) (by omega)
        · exact len_cd (by omega)
      have pk : ∀ k, k ≠ 1 → k ≠ 7 → k ≠ 8 → (au_pop x s).1 k = s.1 k := by
        intro k h1 h7 h8
        unfold au_pop
        split
        · show (if k = 1 then _ else if k = 8 then _ else if k = 8 then _ else if k = 7 then _ else s.1 k) = _
          rw [if_neg h1, if_neg h8, if_neg h8, if_neg h7]
        · show (if k = 8 then _ else if k = 7 then _ else s.1 k) = _
          rw [if_neg h8, if_neg h7]
      have p2 : (au_pop x s).2 = s.2 := by
        unfold au_pop
        split <;> rfl
      have hI : IvO (au_pop x s) r := by
        have ht := h.tl
        unfold au_pop
        split
        · exact (ht.cd (c := 10) (y := 0) (by omega)).same rfl rfl (Nat.le_refl _)
        · exact ht.cd (by omega)
      obtain ⟨g1, g2, g3, g4, g5, g6, g7, ⟨g8, g9, g10⟩, g11⟩ := ih (au_pop x s) hI (by omega)
      refine ⟨g1, ?_, g3.trans hlc.symm, g4.trans hcc.symm, Nat.le_succ_of_le g5, fun k a1 a2 a3 => (g6 k a1 a2 a3).trans (pk k a1 a2 a3), g7.trans p2, ⟨x :: g8, by rw [List.cons_append, ← g9], fun y hy => ?_⟩, g11⟩
      · rw [g2, p7, List.length_cons]
        omega
      · rcases List.mem_cons.1 hy with e | e
        · rw [e]; exact hb
        · exact g10 y e
    · rw [hdef, if_neg q]
      refine ⟨h, rfl, rfl, rfl, Nat.le_refl _, fun _ _ _ _ => rfl, rfl, ⟨[], rfl, fun x hx => by cases hx⟩, fun y r' e => ?_⟩
      rw [← (List.cons.inj e).1]
      exact q
