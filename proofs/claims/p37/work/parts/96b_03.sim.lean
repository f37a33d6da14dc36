/-! how a drawn program is read: the automaton's way, token by token -/
section SIMD
variable {s s' : Sx} {a e L np : Nat} {op bl : List Ae} {rest r : List KV} {st : Int32}
/-- marks with two operands that wait -/
def Mk (s : Sx) (a : Nat) (x : Ae) : Prop := 1 ≤ lvK x.1 ∧ x.1 ≠ 40 ∧ x.1 ≠ 48 ∧ x.1 ≠ 50 ∧ (x.1 = 23 ∨ x.1 = 24 → ∃ t, x.2.1 = nI t ∧ t < a ∧ (s.1 0).getD t 0 = x.1)
def Ms (s : Sx) (a : Nat) (ms : List Ae) : Prop := ∀ x, x ∈ ms → Mk s a x
theorem Mk.up {x : Ae} {b : Nat} (h : Mk s a x) (hz : Z0 s s' a) (hb : a ≤ b) : Mk s' b x := by
  obtain ⟨h1, h2, h3, h4, h5⟩ := h
  refine ⟨h1, h2, h3, h4, fun q => ?_⟩
  obtain ⟨t, t1, t2, t3⟩ := h5 q
  exact ⟨t, t1, by omega, (hz t t2).trans t3⟩
theorem Ms.up {ms : List Ae} {b : Nat} (h : Ms s a ms) (hz : Z0 s s' a) (hb : a ≤ b) : Ms s' b ms := fun x hx => (h x hx).up hz hb
/-- an entry below the marks -/
def Bt (b : Ae) : Prop := lvK b.1 = 0 ∧ b.1 ≠ 40 ∧ b.1 ≠ 48 ∧ b.1 ≠ 50
theorem Q1.pop {x : Ae} (h : Q1 s a e L rest) (hx : Mk s a x) : Q1 (au_pop x s) a e L rest ∧ Z0 s (au_pop x s) a := by
  unfold au_pop
  by_cases c : x.1 = 23 ∨ x.1 = 24
  · rw [if_pos c]
    obtain ⟨t, t1, t2, t3⟩ := hx.2.2.2.2 c
    rw [t1]
    refine ⟨(h.cd.pt).sv t2 (fun z => ?_), fun _ _ => rfl⟩
    have z' : (s.1 0).getD t 0 = 35 := z
    rw [t3] at z'
    rcases c with c | c <;> rw [c] at z' <;> exact absurd z' (by decide)
  · rw [if_neg c]
    exact ⟨h.cd, fun _ _ => rfl⟩
theorem fl_go {lv : Int32} (hlv : 1 ≤ lv) {b : Ae} {B : List Ae} (hb : Bt b) : ∀ (ms : List Ae) (s : Sx), Ms s a ms → Q1 s a e L rest → ∃ ms' s', au_fl lv (ms ++ b :: B) s = (ms' ++ b :: B, s') ∧ Ms s' a ms' ∧ Q1 s' a e L rest ∧ Ow s s' ∧ Z0 s s' a ∧ (lv = 1 → ms' = []) := by
  intro ms
  induction ms with
  | nil =>
    intro s hM hQ
    refine ⟨[], s, ?_, hM, hQ, Ow.rr, Z0.rr, fun _ => rfl⟩
    show au_fl lv (b :: B) s = (b :: B, s)
    unfold au_fl
    rw [if_neg (fun z => by
      rw [hb.1] at z
      have h1 := Int32.le_iff_toInt_le.1 hlv
      have h2 := Int32.le_iff_toInt_le.1 z
      have e1 : (1 : Int32).toInt = 1 := by decide
      have e0 : (0 : Int32).toInt = 0 := by decide
      omega)]
  | cons x ms ih =>
    intro s hM hQ
    have hx := hM x List.mem_cons_self
    by_cases c : lv ≤ lvK x.1
    · obtain ⟨p1, p2⟩ := hQ.pop hx
      obtain ⟨ms', s', g1, g2, g3, g4, g5, g6⟩ := ih (au_pop x s) (fun y hy => (hM y (List.mem_cons_of_mem _ hy)).up p2 (Nat.le_refl _)) p1
      refine ⟨ms', s', ?_, g2, g3, Ow.pop.tr g4, p2.tr g5 (Nat.le_refl _), g6⟩
      show au_fl lv (x :: (ms ++ b :: B)) s = _
      unfold au_fl
      rw [if_pos c]
      exact g1
    · refine ⟨x :: ms, s, ?_, hM, hQ, Ow.rr, Z0.rr, fun z => absurd (by rw [z]; exact hx.1) c⟩
      show au_fl lv (x :: (ms ++ b :: B)) s = _
      unfold au_fl
      rw [if_neg c]
      rfl
theorem en_n {ms B : List Ae} {b : Ae} (hM : Ms s a ms) (hb : Bt b) : au_en bl (ms ++ b :: B) s' = (s', 4, ms ++ b :: B, bl) := by
  cases ms with
  | nil =>
    show au_en bl (b :: B) s' = (s', 4, b :: B, bl)
    unfold au_en
    rw [if_neg hb.2.1, if_neg hb.2.2.1, if_neg hb.2.2.2]
  | cons x ms =>
    obtain ⟨h1, h2, h3, h4, h5⟩ := hM x List.mem_cons_self
    show au_en bl (x :: (ms ++ b :: B)) s' = (s', 4, x :: (ms ++ b :: B), bl)
    unfold au_en
    rw [if_neg h2, if_neg h3, if_neg h4]
end SIMD
