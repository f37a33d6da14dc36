/-! the school: an answer is handed in (state) -/
section HND
variable {x : Nat} {T T' : Tx} {m m' m1 m2 : Mx} {tx : List Int32} {es es' : List Nat} {ts ts' tsN : Nat → List Nat} {as : List Nat} {ps : Nat → Nat} {txs : Nat → List Int32} {ss : Nat → Sx} {pd : Nat} {own : Nat → Nat} {v w : Int32} {i j k a I c d : Nat} {s : Sx}
/-- all lies below a -/
def Lo (x : Nat) (es : List Nat) (ts : Nat → List Nat) (as : List Nat) (ps : Nat → Nat) (pd a : Nat) : Prop := (∀ i, i < es.length → gNl es i + 2 ≤ a ∧ ∀ j, j < (ts i).length → gNl (ts i) j < a) ∧ (∀ i, i < as.length → gNl as i + 7 ≤ a ∧ ps i + 28 ≤ a) ∧ pd + 28 ≤ a ∧ x + 74 ≤ a
theorem SInv.lo (h : SInv x T m tx es ts as ps txs ss pd own) : Lo x es ts as ps pd (tZ T) := by
  obtain ⟨l1, l2, l3, l4, l5⟩ := h.low
  exact ⟨fun i hi => ⟨(l1 i hi).2.1, fun j hj => ((l1 i hi).2.2 j hj).2⟩, fun i hi => ⟨(l2 i hi).2.1, (l2 i hi).2.2.2⟩, l4, l5⟩
/-- the reference keeps what is told of n answers -/
def MSn (m m' : Mx) (n : Nat) : Prop := (∀ J, J = 1 ∨ 34 < J → J < 45 → m' J = m J) ∧ (∀ f, f = 0 ∨ f = 60 ∨ f = 63 ∨ f = 64 ∨ f = 65 ∨ f = 74 → m' 0 f = m 0 f) ∧ (∀ i, i < n → (∀ k, k < 300 → m' 2 (300 * i + k) = m 2 (300 * i + k)) ∧ (∀ J, 45 ≤ J → J ≤ 49 → m' J i = m J i) ∧ ∀ k, k < 8 → m' 50 (8 * i + k) = m 50 (8 * i + k) ∧ m' 51 (8 * i + k) = m 51 (8 * i + k))
theorem SInv.ex (h : SInv x T m tx es ts as ps txs ss pd own) (lo : Lo x es ts as ps pd a) (hS : Shp T' x) (hZ : tZ T ≤ tZ T') (g : ∀ y, y < a → ¬ (x + 51 ≤ y ∧ y < x + 68) → Agr T T' y) (hM : MSn m m' as.length) : SInv x T' m' tx es ts as ps txs ss pd own := by
  obtain ⟨l1, l2, l3, l4, l5⟩ := h.low
  obtain ⟨o1, o2, o3, o4⟩ := lo
  obtain ⟨e1, e2, e3⟩ := hM
  obtain ⟨a1, a2, a3, a4, a5, a6⟩ := h
  refine ⟨hS, (a2.agr (T' := T') hZ (g _ (by omega) (by omega)) (g _ (by omega) (by omega)) (g _ (by omega) (by omega)) (fun k hk => g _ (by omega) (by omega))).mm (e2 0 (by omega)) (e1 1 (by omega) (by omega)), (a3.of (T' := T') (g _ (by omega) (by omega)).2.2.2.2.1 (g _ (by omega) (by omega)).2.2.2.2.1 (congrFun (g (x + 42) (by omega) (by omega)).2.2.2.2.2 4) (congrFun (g x (by omega) (by omega)).2.2.2.2.2 13)).mm (e2 60 (by omega)) (e2 63 (by omega)) (e2 64 (by omega)) (e1 35 (by omega) (by omega)) (e1 36 (by omega) (by omega)), (a4.agr (T' := T') hZ (g _ (by omega) (by omega)).2.2.2.1 (fun i hi => ?_)).mm (e2 65 (by omega)) (fun J h1 h2 => e1 J (by omega) (by omega)), ⟨(e2 74 (by omega)).trans a5.1, a5.2.1, (g _ (by omega) (by omega)).2.2.2.1.trans a5.2.2.1, fun i hi => ?_⟩, a6⟩
  · obtain ⟨p1, p2, p3⟩ := l1 i hi
    obtain ⟨q1, q2⟩ := o1 i hi
    exact ⟨g _ (by omega) (by omega), g _ (by omega) (by omega), fun j hj => g _ (q2 j hj) (by have := (p3 j hj).1; omega)⟩
  · obtain ⟨p1, p2, p3, p4⟩ := l2 i hi
    obtain ⟨q1, q2⟩ := o2 i hi
    obtain ⟨f1, f2, f3⟩ := e3 i hi
    refine ((a5.2.2.2 i hi).agr (T' := T') hZ (fun z hz => g _ (by omega) (by omega)) (fun z hz => g _ (by omega) (by omega))).rx f1 f2 (fun j' hj' hq => ⟨hj', rfl, rfl, by rw [e1 37 (by omega) (by omega)], fun z hz => ?_⟩) (fun _ _ => rfl)
    have t8 := (a4.2.2.2 j' hj').2.2.2.2.2.2.1
    rw [e1 41 (by omega) (by omega), e1 42 (by omega) (by omega), e1 43 (by omega) (by omega)]
    exact ⟨rfl, rfl, rfl, rfl, rfl, f3 z (by omega)⟩
theorem MSn.r {n : Nat} : MSn m m n := ⟨fun _ _ _ => rfl, fun _ _ => rfl, fun _ _ => ⟨fun _ _ => rfl, fun _ _ _ => rfl, fun _ _ => ⟨rfl, rfl⟩⟩⟩
/-- the draft is handed in -/
theorem SInv.hd (h : SInv x T m tx es ts as ps txs ss pd own) : SInv x (tsV T x 3 1) m tx es ts as ps txs ss pd own := by
  obtain ⟨l1, l2, l3, l4, l5⟩ := h.low
  have g : ∀ y, y ≠ x → Agr T (tsV T x 3 1) y := fun y hy => Agr.V hy
  have gv : ∀ f, f ≠ 3 → tV (tsV T x 3 1) x f = tV T x f := fun f hf => tV_n (Or.inr hf)
  obtain ⟨a1, ⟨⟨b1, b1'⟩, b2, b3, b4, b5, b6, b7⟩, a3, a4, a5, a6⟩ := h
  refine ⟨a1, ⟨⟨b1, b1'⟩, b2, b3, b4, ?_, Or.inr tV_s, b7⟩, a3.of rfl rfl (congrFun (g (x + 42) (by omega)).2.2.2.2.2 4) (gv 13 (by decide)), a4.agr (Nat.le_refl _) rfl (fun i hi => ?_), a5.agr (Nat.le_refl _) rfl (fun i hi => ?_), a6⟩
  · rw [gv 2 (by decide)]
    rcases b5 with w | ⟨w, s0, s1, z1, z2, z3, z4⟩
    · exact Or.inl w
    · exact Or.inr ⟨w, s0, s1, z1, z2, z3, z4.agr (fun k hk => g _ (by omega))⟩
  · obtain ⟨p1, p2, p3⟩ := l1 i hi
    exact ⟨g _ (by omega), g _ (by omega), fun j hj => g _ (by have := (p3 j hj).1; omega)⟩
  · obtain ⟨p1, p2, p3, p4⟩ := l2 i hi
    exact ⟨fun z hz => g _ (by omega), fun z hz => g _ (by omega)⟩
/-- the new answer is one of the answers -/
theorem SInv.hnd (h : SInv x T m tx es ts as ps txs ss pd own) (lo : Lo x es ts as ps pd a) (hA : AnR x T m es ts a as.length pd tx s ss) (hn : as.length < 30) (h3 : tV T x 3 = 1) (h74 : m' 0 74 = nI (as.length + 1)) (hf : ∀ g, g ≠ 74 → m' 0 g = m 0 g) (hj : ∀ J, J ≠ 0 → m' J = m J) : SINV x (tAdd T (x + 69) a) m' := by
  obtain ⟨l1, l2, l3, l4, l5⟩ := h.low
  obtain ⟨o1, o2, o3, o4⟩ := lo
  have g : ∀ y, y ≠ x + 69 → Agr T (tAdd T (x + 69) a) y := fun y hy => Agr.A hy
  have hZ : tZ T ≤ tZ (tAdd T (x + 69) a) := tZ_add
  have hlen : (as ++ [a]).length = as.length + 1 := by simp
  have n69 : tK T (x + 69) = 1 := h.ans.2.1
  have a69 : tA T (x + 69) = as := h.ans.2.2.1
  obtain ⟨a1, a2, a3, a4, a5, a6⟩ := h
  have la := hA.1
  refine ⟨tx, es, ts, as ++ [a], fun i => if i = as.length then pd else ps i, fun i => if i = as.length then tx else txs i, fun i => if i = as.length then s else ss i, pd, fun y => if a ≤ y then 4 * as.length else own y, ?_, ?_, ?_, ?_, ⟨?_, ?_, ?_, fun i hi => ?_⟩, fun i hi k hk => ?_, fun p hp h1 k hk => ?_, fun i hi => ?_, fun i hi k hk => ?_⟩
  · refine a1.of (fun y h1 h2 => ⟨rfl, fun q => ?_⟩) (fun _ _ _ _ _ _ _ _ => rfl) hZ
    by_cases e : y = x + 69
    · rw [e, n69] at q; exact absurd q (by decide)
    · exact (g y e).2.1 q
  · have a2' := a2.agr (T' := tAdd T (x + 69) a) hZ (g _ (by omega)) (g _ (by omega)) (g _ (by omega)) (fun z hz => g _ (by omega))
    obtain ⟨b1, b2, b3, b4, b5, b6, b7⟩ := a2'.mm (hf 0 (by decide)) (hj 1 (by decide))
    exact ⟨b1, b2, b3, b4, b5, Or.inr h3, b7⟩
  · exact (a3.of (T' := tAdd T (x + 69) a) rfl rfl rfl rfl).mm (hf 60 (by decide)) (hf 63 (by decide)) (hf 64 (by decide)) (hj 35 (by decide)) (hj 36 (by decide))
  · refine (a4.agr hZ (g _ (by omega)).2.2.2.1 (fun i hi => ?_)).mm (hf 65 (by decide)) (fun J h1 h2 => hj J (by omega))
    obtain ⟨p1, p2, p3⟩ := l1 i hi
    exact ⟨g _ (by omega), g _ (by omega), fun j hj => g _ (by have := (p3 j hj).1; omega)⟩
  · rw [hlen]; exact h74
  · rw [hlen]; omega
  · rw [tA_s, a69]
  · rw [hlen] at hi
    have key : ∀ b p tx0 s0, AnR x T m es ts b i p tx0 s0 ss → (p = x + 3 ∨ x + 74 ≤ p) → i ≤ as.length → AnR x (tAdd T (x + 69) a) m' es ts b i p tx0 s0 (fun i => if i = as.length then s else ss i) := fun b p tx0 s0 hb hp hi' => by
      have lb := hb.1
      refine (hb.agr (T' := tAdd T (x + 69) a) hZ (fun z hz => g _ (by omega)) (fun z hz => g _ (by omega))).rx (fun _ _ => by rw [hj 2 (by decide)]) (fun J h1 h2 => by rw [hj J (by omega)]) (fun j' hj' hq => ⟨hj', rfl, rfl, by rw [hj 37 (by decide)], fun z hz => by rw [hj 41 (by decide), hj 42 (by decide), hj 43 (by decide), hj 50 (by decide), hj 51 (by decide)]; exact ⟨rfl, rfl, rfl, rfl, rfl, rfl, rfl⟩⟩) (fun k hk => if_neg (by omega))
    by_cases e : i = as.length
    · subst e
      dsimp only
      rw [gN_e, if_pos rfl, if_pos rfl, if_pos rfl]
      exact key _ _ _ _ hA l3 (Nat.le_refl _)
    · dsimp only
      rw [gN_l (by omega), if_neg e, if_neg e, if_neg e]
      exact key _ _ _ _ (a5.2.2.2 i (by omega)) (l2 i (by omega)).2.2.1 (by omega)
  · rw [hlen] at hi
    show (if _ then _ else _) = _
    by_cases e : i = as.length
    · subst e
      rw [gN_e, if_pos (by omega)]
    · rw [gN_l (by omega), if_neg (by have := (o2 i (by omega)).1; omega)]
      exact a6.1 i (by omega) k hk
  · have hp' : p = pd ∨ ∃ i, i < as.length ∧ p = ps i := by
      rcases hp with z | ⟨i, hi, z⟩
      · exact Or.inl z
      · dsimp only at z
        rw [hlen] at hi
        by_cases e : i = as.length
        · rw [if_pos e] at z; exact Or.inl z
        · rw [if_neg e] at z; exact Or.inr ⟨i, by omega, z⟩
    have : p + 28 ≤ a := by
      rcases hp' with z | ⟨i, hi, z⟩
      · rw [z]; exact o3
      · rw [z]; exact (o2 i hi).2
    show (if _ then _ else _) = _
    rw [if_neg (by omega)]
    exact a6.2.1 p hp' h1 k hk
  · have := (o1 i hi).1
    show (if _ then _ else _) = _ ∧ (if _ then _ else _) = _
    rw [if_neg (by omega), if_neg (by omega)]
    exact a6.2.2.1 i hi
  · have := (o1 i hi).2 k hk
    show (if _ then _ else _) = _
    rw [if_neg (by omega)]
    exact a6.2.2.2 i hi k hk
end HND
