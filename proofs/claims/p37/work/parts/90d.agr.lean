/-! the school: what stays when a part of the heap changes; simple calls -/
section AGR
variable {x : Nat} {T T' : Tx} {m m' : Mx} {tx : List Int32} {es : List Nat} {ts : Nat → List Nat} {as : List Nat} {ps : Nat → Nat} {txs : Nat → List Int32} {ss : Nat → Sx} {pd : Nat} {own : Nat → Nat}
def Agr (T T' : Tx) (a : Nat) : Prop := tK T' a = tK T a ∧ (tK T a = 7 → tC T' a = tC T a) ∧ tW T' a = tW T a ∧ tA T' a = tA T a ∧ tB T' a = tB T a ∧ tV T' a = tV T a
theorem Agr.r {a : Nat} : Agr T T a := ⟨rfl, fun _ => rfl, rfl, rfl, rfl, rfl⟩
theorem Agr.tr {T'' : Tx} {a : Nat} (h : Agr T T' a) (h' : Agr T' T'' a) : Agr T T'' a :=
  ⟨h'.1.trans h.1, fun k => (h'.2.1 (h.1.trans k)).trans (h.2.1 k), h'.2.2.1.trans h.2.2.1, h'.2.2.2.1.trans h.2.2.2.1, h'.2.2.2.2.1.trans h.2.2.2.2.1, h'.2.2.2.2.2.trans h.2.2.2.2.2⟩
theorem TstR.agr {t q : Nat} (h : TstR T m t q) (hZ : tZ T ≤ tZ T') (hg : Agr T T' t) : TstR T' m t q := by
  obtain ⟨g1, g2, g3, g4, g5, g6⟩ := hg
  unfold TstR at h ⊢
  rw [g1, g6]
  exact ⟨h.1, by omega, h.2.2⟩
theorem ExR.agr {e i : Nat} {tl : List Nat} (h : ExR x T m e i tl) (hZ : tZ T ≤ tZ T') (h1 : Agr T T' e) (h2 : Agr T T' (e + 1)) (h3 : ∀ j, j < tl.length → Agr T T' (gNl tl j)) : ExR x T' m e i tl := by
  obtain ⟨g1, g2, g3, g4, g5, g6⟩ := h1
  obtain ⟨k1, k2, k3, k4, k5, k6⟩ := h2
  obtain ⟨a1, a2, a3, a4, a5, a6, a7, a8, a9, b1, b2, b3, b4, b5⟩ := h
  exact ⟨a1, by omega, g1.trans a3, by rw [g3]; exact a4, k1.trans a5, k4.trans a6, a7, by rw [g6]; exact a8, by rw [g6]; exact a9, b1, by rw [g6]; exact b2, b3, b4, fun j hj => ⟨(b5 j hj).1, (b5 j hj).2.agr hZ (h3 j hj)⟩⟩
theorem ExI.agr (h : ExI x T m es ts) (hZ : tZ T ≤ tZ T') (hA : tA T' (x + 68) = tA T (x + 68)) (hg : ∀ i, i < es.length → Agr T T' (gNl es i) ∧ Agr T T' (gNl es i + 1) ∧ ∀ j, j < (ts i).length → Agr T T' (gNl (ts i) j)) : ExI x T' m es ts := by
  obtain ⟨a1, a2, a3, a4⟩ := h
  exact ⟨a1, a2, hA.trans a3, fun i hi => (a4 i hi).agr hZ (hg i hi).1 (hg i hi).2.1 (hg i hi).2.2⟩
theorem PrgAt.agr {p : Nat} (h : PrgAt T p) (hZ : tZ T ≤ tZ T') (hg : ∀ k, k < 28 → Agr T T' (p + k)) : PrgAt T' p :=
  h.of (fun a h1 h2 => by have := hg (a - p) (by omega); rw [show p + (a - p) = a by omega] at this; exact ⟨this.1, this.2.1⟩) (fun a f h1 h2 => by have := hg (a - p) (by omega); rw [show p + (a - p) = a by omega] at this; rw [this.2.2.1]) hZ
theorem PrgIs.agr {p : Nat} {s : Sx} (h : PrgIs T p s) (hg : ∀ k, k < 28 → Agr T T' (p + k)) : PrgIs T' p s := by
  obtain ⟨h1, h2, h3⟩ := h
  refine ⟨fun k hk => ?_, ?_, ?_⟩
  · have := hg (2 + 2 * k) (by omega)
    rw [show p + (2 + 2 * k) = p + 2 + 2 * k by omega] at this
    rw [this.2.2.2.2.1]; exact h1 k hk
  · have := hg 0 (by omega)
    rw [Nat.add_zero] at this
    rw [this.2.2.2.2.2]; exact h2
  · have := hg 0 (by omega)
    rw [Nat.add_zero] at this
    rw [this.2.2.2.2.2]; exact h3
theorem RwAt.agr {a n : Nat} (h : RwAt T a n) (hg : Agr T T' a) : RwAt T' a n := h.of ⟨hg.1, hg.2.1⟩
theorem AnR.agr {a i p : Nat} {tx : List Int32} {s : Sx} {ps : Nat → Sx} (h : AnR x T m es ts a i p tx s ps) (hZ : tZ T ≤ tZ T') (ha : ∀ k, k < 7 → Agr T T' (a + k)) (hp : ∀ k, k < 28 → Agr T T' (p + k)) : AnR x T' m es ts a i p tx s ps := by
  have h0 := ha 0 (by omega)
  rw [Nat.add_zero] at h0
  have h1 := ha 1 (by omega)
  have h3 := ha 3 (by omega)
  have h5 := ha 5 (by omega)
  obtain ⟨a1, a2, a3, a4, ⟨b1, b2, b3, b4⟩, a5, ⟨c1, c2, c3, c4, c5, c6⟩, d1, d2, d3, ⟨j, e1, e2, e3, e4, e5, e6⟩, f1⟩ := h
  refine ⟨a1, by omega, h0.1.trans a3, by rw [h0.2.2.2.2.2]; exact a4, ⟨by rw [h0.2.2.1]; exact b1, b2.agr hZ hp, b3, b4.agr hp⟩, by rw [h0.2.2.2.2.2]; exact a5, ⟨by rw [h0.2.2.1]; exact c1, c2.agr h1, by rw [h0.2.2.1]; exact c3, c4.agr h3, by rw [h0.2.2.1]; exact c5, c6.agr h5⟩, by rw [h0.2.2.2.2.2]; exact d1, d2, d3, ⟨j, e1, e2, by rw [h0.2.2.1]; exact e3, by rw [h1.2.2.2.2.1]; exact e4, by rw [h3.2.2.2.2.1]; exact e5, fun k hk => ?_⟩, by rw [h5.2.2.2.2.1]; exact f1⟩
  rw [h1.2.2.2.2.1, h3.2.2.2.2.1]
  exact e6 k hk
theorem AnI.agr (h : AnI x T m es ts as ps txs ss) (hZ : tZ T ≤ tZ T') (hA : tA T' (x + 69) = tA T (x + 69)) (hg : ∀ i, i < as.length → (∀ k, k < 7 → Agr T T' (gNl as i + k)) ∧ ∀ k, k < 28 → Agr T T' (ps i + k)) : AnI x T' m es ts as ps txs ss := by
  obtain ⟨a1, a2, a3, a4⟩ := h
  exact ⟨a1, a2, hA.trans a3, fun i hi => (a4 i hi).agr hZ (hg i hi).1 (hg i hi).2⟩
theorem tV_n {a b f g : Nat} {v : Int32} (h : b ≠ a ∨ g ≠ f) : tV (tsV T a f v) b g = tV T b g := by
  show u2 (tV T) a f v b g = tV T b g
  by_cases e : b = a
  · subst e
    rw [u2_s]
    exact if_neg (by rcases h with h | h; exact absurd rfl h; exact h)
  · rw [u2_n _ _ _ e]
theorem tV_s {a f : Nat} {v : Int32} : tV (tsV T a f v) a f = v := by
  show u2 (tV T) a f v a f = v
  rw [u2_s]
  exact if_pos rfl
theorem tW_n {a b f g : Nat} {v : Option Nat} (h : b ≠ a ∨ g ≠ f) : tW (tsW T a f v) b g = tW T b g := by
  show u2 (tW T) a f v b g = tW T b g
  by_cases e : b = a
  · subst e
    rw [u2_s]
    exact if_neg (by rcases h with h | h; exact absurd rfl h; exact h)
  · rw [u2_n _ _ _ e]
theorem tW_s {a f : Nat} {v : Option Nat} : tW (tsW T a f v) a f = v := by
  show u2 (tW T) a f v a f = v
  rw [u2_s]
  exact if_pos rfl
theorem tB_s {a : Nat} {l : List Int32} : tB (tsB T a l) a = l := if_pos rfl
theorem tB_n {a b : Nat} {l : List Int32} (h : b ≠ a) : tB (tsB T a l) b = tB T b := if_neg h
theorem Agr.V {a b f : Nat} {v : Int32} (h : b ≠ a) : Agr T (tsV T a f v) b := ⟨rfl, fun _ => rfl, rfl, rfl, rfl, u2_n _ _ _ h⟩
theorem Agr.W {a b f : Nat} {v : Option Nat} (h : b ≠ a) : Agr T (tsW T a f v) b := ⟨rfl, fun _ => rfl, u2_n _ _ _ h, rfl, rfl, rfl⟩
theorem Agr.B {a b : Nat} {l : List Int32} (h : b ≠ a) : Agr T (tsB T a l) b := ⟨rfl, fun _ => rfl, rfl, rfl, if_neg h, rfl⟩
theorem Agr.N {b k : Nat} (h : b < tZ T) : Agr T (tNew T k) b := by
  have : ¬ b = tZ T := by omega
  exact ⟨if_neg this, fun _ => rfl, if_neg this, if_neg this, if_neg this, if_neg this⟩
theorem Agr.R {a b n : Nat} (h : b ≠ a) : Agr T (tRow T a n) b := ⟨if_neg h, fun _ => if_neg h, rfl, rfl, if_neg h, rfl⟩
theorem Agr.L {a b : Nat} (h : b ≠ a) : Agr T (tLst T a) b := ⟨if_neg h, fun _ => if_neg h, rfl, if_neg h, rfl, rfl⟩
theorem Agr.A {a b y : Nat} (h : b ≠ a) : Agr T (tAdd T a y) b := ⟨rfl, fun _ => if_neg h, rfl, if_neg h, rfl, rfl⟩
/-- where the dynamic things lie -/
theorem SInv.low (h : SInv x T m tx es ts as ps txs ss pd own) : (∀ i, i < es.length → x + 74 ≤ gNl es i ∧ gNl es i + 2 ≤ tZ T ∧ ∀ j, j < (ts i).length → x + 74 ≤ gNl (ts i) j ∧ gNl (ts i) j < tZ T) ∧ (∀ i, i < as.length → x + 74 ≤ gNl as i ∧ gNl as i + 7 ≤ tZ T ∧ (ps i = x + 3 ∨ x + 74 ≤ ps i) ∧ ps i + 28 ≤ tZ T) ∧ (pd = x + 3 ∨ x + 74 ≤ pd) ∧ pd + 28 ≤ tZ T ∧ x + 74 ≤ tZ T := by
  obtain ⟨h1, h2, h3, h4, h5, h6⟩ := h
  refine ⟨fun i hi => ?_, fun i hi => ?_, h2.2.2.2.1, h2.2.2.1.2.2.2.2.2.2, h1.2.2.2.2.2.2.2.2.2.2.2⟩
  · have := h4.2.2.2 i hi
    exact ⟨this.1, this.2.1, fun j hj => ⟨(this.2.2.2.2.2.2.2.2.2.2.2.2.2 j hj).1, (this.2.2.2.2.2.2.2.2.2.2.2.2.2 j hj).2.2.1⟩⟩
  · have := h5.2.2.2 i hi
    exact ⟨this.1, this.2.1, this.2.2.2.2.1.2.2.1, this.2.2.2.2.1.2.1.2.2.2.2.2.2⟩
/-- the exercises and answers stay when the dynamic things and the programs do -/
theorem SInv.dyn (h : SInv x T m tx es ts as ps txs ss pd own) (hZ : tZ T ≤ tZ T') (hA : tA T' (x + 68) = tA T (x + 68) ∧ tA T' (x + 69) = tA T (x + 69)) (hg : ∀ a, x + 3 ≤ a → a < tZ T → (a < x + 31 ∨ x + 74 ≤ a) → Agr T T' a) : ExI x T' m es ts ∧ AnI x T' m es ts as ps txs ss := by
  obtain ⟨l1, l2, l3, l4⟩ := h.low
  refine ⟨h.2.2.2.1.agr hZ hA.1 (fun i hi => ?_), h.2.2.2.2.1.agr hZ hA.2 (fun i hi => ?_)⟩
  · obtain ⟨g1, g2, g3⟩ := l1 i hi
    exact ⟨hg _ (by omega) (by omega) (Or.inr (by omega)), hg _ (by omega) (by omega) (Or.inr (by omega)), fun j hj => hg _ (by have := (g3 j hj).1; omega) (g3 j hj).2 (Or.inr (g3 j hj).1)⟩
  · obtain ⟨g1, g2, g3, g4⟩ := l2 i hi
    exact ⟨fun k hk => hg _ (by omega) (by omega) (Or.inr (by omega)), fun k hk => hg _ (by omega) (by omega) (by omega)⟩
end AGR
