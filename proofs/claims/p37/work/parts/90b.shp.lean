/-! shapes: what lies where in the school's heap -/
section SHP
def PrgAt (T : Tx) (p : Nat) : Prop := tK T p = 5 ∧ tK T (p + 1) = 10 ∧ tW T p 0 = some (p + 1) ∧ (∀ k, k < 5 → tW T (p + 1) k = some (p + 2 + 2 * k)) ∧ (∀ k, k < 8 → tW T p (k + 1) = some (p + 12 + 2 * k)) ∧ (∀ k, k < 13 → tK T (p + 2 + 2 * k) = 7 ∧ tC T (p + 2 + 2 * k) = ev_cap k) ∧ p + 28 ≤ tZ T
def RunAt (T : Tx) (u : Nat) : Prop := tK T u = 8 ∧ ∀ k, k < 4 → tW T u k = some (u + 1 + 2 * k) ∧ tK T (u + 1 + 2 * k) = 7 ∧ tC T (u + 1 + 2 * k) = ev_cap (18 + k)
def RwAt (T : Tx) (a n : Nat) : Prop := tK T a = 7 ∧ tC T a = n
def Shp (T : Tx) (x : Nat) : Prop := tK T x = 12 ∧ (tW T x 0 = some (x + 1) ∧ RwAt T (x + 1) 300) ∧ (tW T x 4 = some (x + 31) ∧ tK T (x + 31) = 6 ∧ ∀ k, k < 5 → tW T (x + 31) (6 + k) = some (x + 32 + 2 * k) ∧ RwAt T (x + 32 + 2 * k) (ev_cap (13 + k))) ∧
  (tW T x 5 = some (x + 42) ∧ RunAt T (x + 42)) ∧ (tW T x 6 = some (x + 51) ∧ RunAt T (x + 51)) ∧ (tW T x 7 = some (x + 60) ∧ tK T (x + 60) = 4 ∧ tW T (x + 60) 0 = some (x + 61) ∧ RwAt T (x + 61) 1650) ∧
  (tW T x 8 = some (x + 63) ∧ tK T (x + 63) = 11 ∧ tW T (x + 63) 0 = some (x + 64) ∧ RwAt T (x + 64) 1650 ∧ tW T (x + 63) 1 = some (x + 66) ∧ RwAt T (x + 66) 1650) ∧ (tW T x 9 = some (x + 68) ∧ tK T (x + 68) = 1) ∧ (tW T x 10 = some (x + 69) ∧ tK T (x + 69) = 1) ∧
  (tW T x 11 = some (x + 70) ∧ RwAt T (x + 70) 30) ∧ (tW T x 12 = some (x + 72) ∧ RwAt T (x + 72) 8) ∧ x + 74 ≤ tZ T
variable {T T' : Tx} {x p u : Nat}
theorem PrgAt.of (h : PrgAt T p) (hK : ∀ a, p ≤ a → a < p + 28 → tK T' a = tK T a ∧ (tK T a = 7 → tC T' a = tC T a)) (hW : ∀ a f, p ≤ a → a < p + 28 → tW T' a f = tW T a f) (hZ : tZ T ≤ tZ T') : PrgAt T' p := by
  obtain ⟨h1, h2, h3, h4, h5, h6, h7⟩ := h
  refine ⟨(hK p (by omega) (by omega)).1.trans h1, (hK (p + 1) (by omega) (by omega)).1.trans h2, (hW p 0 (by omega) (by omega)).trans h3, fun k hk => (hW _ _ (by omega) (by omega)).trans (h4 k hk), fun k hk => (hW _ _ (by omega) (by omega)).trans (h5 k hk), fun k hk => ?_, by omega⟩
  have := hK (p + 2 + 2 * k) (by omega) (by omega)
  exact ⟨this.1.trans (h6 k hk).1, (this.2 (h6 k hk).1).trans (h6 k hk).2⟩
theorem RwAt.of {a n : Nat} (h : RwAt T a n) (hK : tK T' a = tK T a ∧ (tK T a = 7 → tC T' a = tC T a)) : RwAt T' a n := ⟨hK.1.trans h.1, (hK.2 h.1).trans h.2⟩
theorem RunAt.of (h : RunAt T u) (hK : ∀ a, u ≤ a → a < u + 9 → tK T' a = tK T a ∧ (tK T a = 7 → tC T' a = tC T a)) (hW : ∀ f, f < 4 → tW T' u f = tW T u f) : RunAt T' u := by
  refine ⟨(hK u (by omega) (by omega)).1.trans h.1, fun k hk => ?_⟩
  have := hK (u + 1 + 2 * k) (by omega) (by omega)
  obtain ⟨g1, g2, g3⟩ := h.2 k hk
  exact ⟨(hW k hk).trans g1, this.1.trans g2, (this.2 g2).trans g3⟩
theorem Shp.of (h : Shp T x) (hK : ∀ a, x ≤ a → a < x + 74 → tK T' a = tK T a ∧ (tK T a = 7 → tC T' a = tC T a)) (hW : ∀ a f, x ≤ a → a < x + 74 → ¬ (a = x ∧ f = 1) → ¬ (a = x + 31 ∧ f < 6) → ¬ (a = x + 60 ∧ 1 ≤ f) → ¬ (a = x + 63 ∧ 2 ≤ f) → tW T' a f = tW T a f) (hZ : tZ T ≤ tZ T') : Shp T' x := by
  obtain ⟨a0, ⟨a1, a2⟩, ⟨a3, a4, a5⟩, ⟨a6, a7⟩, ⟨a8, a9⟩, ⟨b1, b2, b3, b4⟩, ⟨b5, b6, b7, b8, b9, c0⟩, ⟨c1, c2⟩, ⟨c3, c4⟩, ⟨c5, c6⟩, ⟨c7, c8⟩, c9⟩ := h
  have K : ∀ a, x ≤ a → a < x + 74 → tK T' a = tK T a := fun a h1 h2 => (hK a h1 h2).1
  have W : ∀ f, f ≠ 1 → tW T' x f = tW T x f := fun f hf => hW x f (by omega) (by omega) (by omega) (by omega) (by omega) (by omega)
  refine ⟨(K x (by omega) (by omega)).trans a0, ⟨(W 0 (by omega)).trans a1, a2.of (hK _ (by omega) (by omega))⟩, ⟨(W 4 (by omega)).trans a3, (K _ (by omega) (by omega)).trans a4, fun k hk => ⟨(hW _ _ (by omega) (by omega) (by omega) (by omega) (by omega) (by omega)).trans (a5 k hk).1, (a5 k hk).2.of (hK _ (by omega) (by omega))⟩⟩,
    ⟨(W 5 (by omega)).trans a6, a7.of (fun a h1 h2 => hK a (by omega) (by omega)) (fun f hf => hW _ _ (by omega) (by omega) (by omega) (by omega) (by omega) (by omega))⟩, ⟨(W 6 (by omega)).trans a8, a9.of (fun a h1 h2 => hK a (by omega) (by omega)) (fun f hf => hW _ _ (by omega) (by omega) (by omega) (by omega) (by omega) (by omega))⟩,
    ⟨(W 7 (by omega)).trans b1, (K _ (by omega) (by omega)).trans b2, (hW _ _ (by omega) (by omega) (by omega) (by omega) (by omega) (by omega)).trans b3, b4.of (hK _ (by omega) (by omega))⟩,
    ⟨(W 8 (by omega)).trans b5, (K _ (by omega) (by omega)).trans b6, (hW _ _ (by omega) (by omega) (by omega) (by omega) (by omega) (by omega)).trans b7, b8.of (hK _ (by omega) (by omega)), (hW _ _ (by omega) (by omega) (by omega) (by omega) (by omega) (by omega)).trans b9, c0.of (hK _ (by omega) (by omega))⟩,
    ⟨(W 9 (by omega)).trans c1, (K _ (by omega) (by omega)).trans c2⟩, ⟨(W 10 (by omega)).trans c3, (K _ (by omega) (by omega)).trans c4⟩, ⟨(W 11 (by omega)).trans c5, c6.of (hK _ (by omega) (by omega))⟩, ⟨(W 12 (by omega)).trans c7, c8.of (hK _ (by omega) (by omega))⟩, by omega⟩
def egP (i : Nat) : Bool := i == 0 || i == 1 || (decide (6 ≤ i) && decide (i ≤ 18))
def egO (v : Bool) (i : Nat) : Nat := (if v then [0, 1, 31, 42, 60, 63, 2, 4, 6, 8, 10, 12, 14, 16, 18, 20, 22, 24, 26, 32, 34, 36, 38, 40, 43, 45, 47, 49, 61, 64, 66, 1] else [0, 1, 31, 51, 60, 63, 2, 4, 6, 8, 10, 12, 14, 16, 18, 20, 22, 24, 26, 32, 34, 36, 38, 40, 52, 54, 56, 58, 61, 64, 66, 1]).getD i 0
def egU (v : Bool) : Nat := if v then 42 else 51
theorem egO_inj : ∀ v : Bool, ∀ i, i < 32 → ∀ j, j < 32 → egP i = egP j → egO v i = egO v j → i = j := by decide +kernel
theorem egO_lt : ∀ v : Bool, ∀ i, i < 32 → egP i = false → egO v i < 74 := by decide +kernel
theorem egO_mix : ∀ v : Bool, ∀ i, i < 32 → ∀ j, j < 32 → egP i = true → egP j = false → 3 + egO v i ≠ egO v j := by decide +kernel
section
variable (hS : Shp T x) (hP : PrgAt T p) (hR : RunAt T u)
theorem eg_0 : eg T x p u 0 = p := rfl
theorem eg_1 (hP : PrgAt T p) : eg T x p u 1 = p + 1 := by
  show (tW T p 0).getD 0 = _
  rw [hP.2.2.1]; rfl
theorem eg_2 (hS : Shp T x) : eg T x p u 2 = x + 31 := by
  show (tW T x 4).getD 0 = _
  rw [hS.2.2.1.1]; rfl
theorem eg_3 : eg T x p u 3 = u := rfl
theorem eg_4 (hS : Shp T x) : eg T x p u 4 = x + 60 := by
  show (tW T x 7).getD 0 = _
  rw [hS.2.2.2.2.2.1.1]; rfl
theorem eg_5 (hS : Shp T x) : eg T x p u 5 = x + 63 := by
  show (tW T x 8).getD 0 = _
  rw [hS.2.2.2.2.2.2.1.1]; rfl
theorem eg_6 (hP : PrgAt T p) : eg T x p u 6 = p + 2 := by
  show (tW T ((tW T p 0).getD 0) 0).getD 0 = _
  rw [show (tW T p 0).getD 0 = p + 1 by rw [hP.2.2.1]; rfl, hP.2.2.2.1 0 (by decide)]; rfl
theorem eg_7 (hP : PrgAt T p) : eg T x p u 7 = p + 4 := by
  show (tW T ((tW T p 0).getD 0) 1).getD 0 = _
  rw [show (tW T p 0).getD 0 = p + 1 by rw [hP.2.2.1]; rfl, hP.2.2.2.1 1 (by decide)]; rfl
theorem eg_8 (hP : PrgAt T p) : eg T x p u 8 = p + 6 := by
  show (tW T ((tW T p 0).getD 0) 2).getD 0 = _
  rw [show (tW T p 0).getD 0 = p + 1 by rw [hP.2.2.1]; rfl, hP.2.2.2.1 2 (by decide)]; rfl
theorem eg_9 (hP : PrgAt T p) : eg T x p u 9 = p + 8 := by
  show (tW T ((tW T p 0).getD 0) 3).getD 0 = _
  rw [show (tW T p 0).getD 0 = p + 1 by rw [hP.2.2.1]; rfl, hP.2.2.2.1 3 (by decide)]; rfl
theorem eg_10 (hP : PrgAt T p) : eg T x p u 10 = p + 10 := by
  show (tW T ((tW T p 0).getD 0) 4).getD 0 = _
  rw [show (tW T p 0).getD 0 = p + 1 by rw [hP.2.2.1]; rfl, hP.2.2.2.1 4 (by decide)]; rfl
theorem eg_11 (hP : PrgAt T p) : eg T x p u 11 = p + 12 := by
  show (tW T p 1).getD 0 = _
  rw [hP.2.2.2.2.1 0 (by decide)]; rfl
theorem eg_12 (hP : PrgAt T p) : eg T x p u 12 = p + 14 := by
  show (tW T p 2).getD 0 = _
  rw [hP.2.2.2.2.1 1 (by decide)]; rfl
theorem eg_13 (hP : PrgAt T p) : eg T x p u 13 = p + 16 := by
  show (tW T p 3).getD 0 = _
  rw [hP.2.2.2.2.1 2 (by decide)]; rfl
theorem eg_14 (hP : PrgAt T p) : eg T x p u 14 = p + 18 := by
  show (tW T p 4).getD 0 = _
  rw [hP.2.2.2.2.1 3 (by decide)]; rfl
theorem eg_15 (hP : PrgAt T p) : eg T x p u 15 = p + 20 := by
  show (tW T p 5).getD 0 = _
  rw [hP.2.2.2.2.1 4 (by decide)]; rfl
theorem eg_16 (hP : PrgAt T p) : eg T x p u 16 = p + 22 := by
  show (tW T p 6).getD 0 = _
  rw [hP.2.2.2.2.1 5 (by decide)]; rfl
theorem eg_17 (hP : PrgAt T p) : eg T x p u 17 = p + 24 := by
  show (tW T p 7).getD 0 = _
  rw [hP.2.2.2.2.1 6 (by decide)]; rfl
theorem eg_18 (hP : PrgAt T p) : eg T x p u 18 = p + 26 := by
  show (tW T p 8).getD 0 = _
  rw [hP.2.2.2.2.1 7 (by decide)]; rfl
theorem eg_19 (hS : Shp T x) : eg T x p u 19 = x + 32 := by
  show (tW T ((tW T x 4).getD 0) 6).getD 0 = _
  rw [show (tW T x 4).getD 0 = x + 31 by rw [hS.2.2.1.1]; rfl, (hS.2.2.1.2.2 0 (by decide)).1]; rfl
theorem eg_20 (hS : Shp T x) : eg T x p u 20 = x + 34 := by
  show (tW T ((tW T x 4).getD 0) 7).getD 0 = _
  rw [show (tW T x 4).getD 0 = x + 31 by rw [hS.2.2.1.1]; rfl, (hS.2.2.1.2.2 1 (by decide)).1]; rfl
theorem eg_21 (hS : Shp T x) : eg T x p u 21 = x + 36 := by
  show (tW T ((tW T x 4).getD 0) 8).getD 0 = _
  rw [show (tW T x 4).getD 0 = x + 31 by rw [hS.2.2.1.1]; rfl, (hS.2.2.1.2.2 2 (by decide)).1]; rfl
theorem eg_22 (hS : Shp T x) : eg T x p u 22 = x + 38 := by
  show (tW T ((tW T x 4).getD 0) 9).getD 0 = _
  rw [show (tW T x 4).getD 0 = x + 31 by rw [hS.2.2.1.1]; rfl, (hS.2.2.1.2.2 3 (by decide)).1]; rfl
theorem eg_23 (hS : Shp T x) : eg T x p u 23 = x + 40 := by
  show (tW T ((tW T x 4).getD 0) 10).getD 0 = _
  rw [show (tW T x 4).getD 0 = x + 31 by rw [hS.2.2.1.1]; rfl, (hS.2.2.1.2.2 4 (by decide)).1]; rfl
theorem eg_24 (hR : RunAt T u) : eg T x p u 24 = u + 1 := by
  show (tW T u 0).getD 0 = _
  rw [(hR.2 0 (by decide)).1]; rfl
theorem eg_25 (hR : RunAt T u) : eg T x p u 25 = u + 3 := by
  show (tW T u 1).getD 0 = _
  rw [(hR.2 1 (by decide)).1]; rfl
theorem eg_26 (hR : RunAt T u) : eg T x p u 26 = u + 5 := by
  show (tW T u 2).getD 0 = _
  rw [(hR.2 2 (by decide)).1]; rfl
theorem eg_27 (hR : RunAt T u) : eg T x p u 27 = u + 7 := by
  show (tW T u 3).getD 0 = _
  rw [(hR.2 3 (by decide)).1]; rfl
theorem eg_28 (hS : Shp T x) : eg T x p u 28 = x + 61 := by
  show (tW T ((tW T x 7).getD 0) 0).getD 0 = _
  rw [show (tW T x 7).getD 0 = x + 60 by rw [hS.2.2.2.2.2.1.1]; rfl, hS.2.2.2.2.2.1.2.2.1]; rfl
theorem eg_29 (hS : Shp T x) : eg T x p u 29 = x + 64 := by
  show (tW T ((tW T x 8).getD 0) 0).getD 0 = _
  rw [show (tW T x 8).getD 0 = x + 63 by rw [hS.2.2.2.2.2.2.1.1]; rfl, hS.2.2.2.2.2.2.1.2.2.1]; rfl
theorem eg_30 (hS : Shp T x) : eg T x p u 30 = x + 66 := by
  show (tW T ((tW T x 8).getD 0) 1).getD 0 = _
  rw [show (tW T x 8).getD 0 = x + 63 by rw [hS.2.2.2.2.2.2.1.1]; rfl, hS.2.2.2.2.2.2.1.2.2.2.2.1]; rfl
theorem eg_31 (hS : Shp T x) : eg T x p u 31 = x + 1 := by
  show (tW T x 0).getD 0 = _
  rw [hS.2.1.1]; rfl
end
theorem eg_o (hS : Shp T x) (hP : PrgAt T p) (v : Bool) (hu : u = x + egU v) (hR : RunAt T u) : ∀ i, i < 32 → eg T x p u i = (if egP i then p else x) + egO v i
  | 0, _ => by rw [eg_0]; cases v <;> (first | rfl | (rw [hu]; rfl))
  | 1, _ => by rw [eg_1 hP]; cases v <;> (first | rfl | (rw [hu]; rfl))
  | 2, _ => by rw [eg_2 hS]; cases v <;> (first | rfl | (rw [hu]; rfl))
  | 3, _ => by rw [eg_3]; cases v <;> (first | rfl | (rw [hu]; rfl))
  | 4, _ => by rw [eg_4 hS]; cases v <;> (first | rfl | (rw [hu]; rfl))
  | 5, _ => by rw [eg_5 hS]; cases v <;> (first | rfl | (rw [hu]; rfl))
  | 6, _ => by rw [eg_6 hP]; cases v <;> (first | rfl | (rw [hu]; rfl))
  | 7, _ => by rw [eg_7 hP]; cases v <;> (first | rfl | (rw [hu]; rfl))
  | 8, _ => by rw [eg_8 hP]; cases v <;> (first | rfl | (rw [hu]; rfl))
  | 9, _ => by rw [eg_9 hP]; cases v <;> (first | rfl | (rw [hu]; rfl))
  | 10, _ => by rw [eg_10 hP]; cases v <;> (first | rfl | (rw [hu]; rfl))
  | 11, _ => by rw [eg_11 hP]; cases v <;> (first | rfl | (rw [hu]; rfl))
  | 12, _ => by rw [eg_12 hP]; cases v <;> (first | rfl | (rw [hu]; rfl))
  | 13, _ => by rw [eg_13 hP]; cases v <;> (first | rfl | (rw [hu]; rfl))
  | 14, _ => by rw [eg_14 hP]; cases v <;> (first | rfl | (rw [hu]; rfl))
  | 15, _ => by rw [eg_15 hP]; cases v <;> (first | rfl | (rw [hu]; rfl))
  | 16, _ => by rw [eg_16 hP]; cases v <;> (first | rfl | (rw [hu]; rfl))
  | 17, _ => by rw [eg_17 hP]; cases v <;> (first | rfl | (rw [hu]; rfl))
  | 18, _ => by rw [eg_18 hP]; cases v <;> (first | rfl | (rw [hu]; rfl))
  | 19, _ => by rw [eg_19 hS]; cases v <;> (first | rfl | (rw [hu]; rfl))
  | 20, _ => by rw [eg_20 hS]; cases v <;> (first | rfl | (rw [hu]; rfl))
  | 21, _ => by rw [eg_21 hS]; cases v <;> (first | rfl | (rw [hu]; rfl))
  | 22, _ => by rw [eg_22 hS]; cases v <;> (first | rfl | (rw [hu]; rfl))
  | 23, _ => by rw [eg_23 hS]; cases v <;> (first | rfl | (rw [hu]; rfl))
  | 24, _ => by rw [eg_24 hR]; cases v <;> (first | rfl | (rw [hu]; rfl))
  | 25, _ => by rw [eg_25 hR]; cases v <;> (first | rfl | (rw [hu]; rfl))
  | 26, _ => by rw [eg_26 hR]; cases v <;> (first | rfl | (rw [hu]; rfl))
  | 27, _ => by rw [eg_27 hR]; cases v <;> (first | rfl | (rw [hu]; rfl))
  | 28, _ => by rw [eg_28 hS]; cases v <;> (first | rfl | (rw [hu]; rfl))
  | 29, _ => by rw [eg_29 hS]; cases v <;> (first | rfl | (rw [hu]; rfl))
  | 30, _ => by rw [eg_30 hS]; cases v <;> (first | rfl | (rw [hu]; rfl))
  | 31, _ => by rw [eg_31 hS]; cases v <;> (first | rfl | (rw [hu]; rfl))
  | n + 32, h => absurd h (by omega)
theorem eng_ok (hS : Shp T x) (hP : PrgAt T p) (hp : p = x + 3 ∨ x + 74 ≤ p) (v : Bool) (hu : u = x + egU v) : EngOK T x p u := by
  have hR : RunAt T u := by
    rw [hu]
    cases v
    · exact hS.2.2.2.2.1.2
    · exact hS.2.2.2.1.2
  refine ⟨fun q hq => ?_, fun k hk => ?_, fun q hq => ?_, fun i hi j hj e => ?_⟩
  · simp only [ev_tk, List.mem_cons, List.not_mem_nil, or_false] at hq
    rcases hq with rfl | rfl | rfl | rfl | rfl | rfl
    · exact hP.1
    · rw [eg_1 hP]; exact hP.2.1
    · rw [eg_2 hS]; exact hS.2.2.1.2.1
    · exact hR.1
    · rw [eg_4 hS]; exact hS.2.2.2.2.2.1.2.1
    · rw [eg_5 hS]; exact hS.2.2.2.2.2.2.1.2.1
  · match k, hk with
    | 0, _ => rw [show 6 + 0 = 6 from rfl, eg_6 hP]; exact hP.2.2.2.2.2.1 0 (by decide)
    | 1, _ => rw [show 6 + 1 = 7 from rfl, eg_7 hP]; exact hP.2.2.2.2.2.1 1 (by decide)
    | 2, _ => rw [show 6 + 2 = 8 from rfl, eg_8 hP]; exact hP.2.2.2.2.2.1 2 (by decide)
    | 3, _ => rw [show 6 + 3 = 9 from rfl, eg_9 hP]; exact hP.2.2.2.2.2.1 3 (by decide)
    | 4, _ => rw [show 6 + 4 = 10 from rfl, eg_10 hP]; exact hP.2.2.2.2.2.1 4 (by decide)
    | 5, _ => rw [show 6 + 5 = 11 from rfl, eg_11 hP]; exact hP.2.2.2.2.2.1 5 (by decide)
    | 6, _ => rw [show 6 + 6 = 12 from rfl, eg_12 hP]; exact hP.2.2.2.2.2.1 6 (by decide)
    | 7, _ => rw [show 6 + 7 = 13 from rfl, eg_13 hP]; exact hP.2.2.2.2.2.1 7 (by decide)
    | 8, _ => rw [show 6 + 8 = 14 from rfl, eg_14 hP]; exact hP.2.2.2.2.2.1 8 (by decide)
    | 9, _ => rw [show 6 + 9 = 15 from rfl, eg_15 hP]; exact hP.2.2.2.2.2.1 9 (by decide)
    | 10, _ => rw [show 6 + 10 = 16 from rfl, eg_16 hP]; exact hP.2.2.2.2.2.1 10 (by decide)
    | 11, _ => rw [show 6 + 11 = 17 from rfl, eg_17 hP]; exact hP.2.2.2.2.2.1 11 (by decide)
    | 12, _ => rw [show 6 + 12 = 18 from rfl, eg_18 hP]; exact hP.2.2.2.2.2.1 12 (by decide)
    | 13, _ => rw [show 6 + 13 = 19 from rfl, eg_19 hS]; exact (hS.2.2.1.2.2 0 (by decide)).2
    | 14, _ => rw [show 6 + 14 = 20 from rfl, eg_20 hS]; exact (hS.2.2.1.2.2 1 (by decide)).2
    | 15, _ => rw [show 6 + 15 = 21 from rfl, eg_21 hS]; exact (hS.2.2.1.2.2 2 (by decide)).2
    | 16, _ => rw [show 6 + 16 = 22 from rfl, eg_22 hS]; exact (hS.2.2.1.2.2 3 (by decide)).2
    | 17, _ => rw [show 6 + 17 = 23 from rfl, eg_23 hS]; exact (hS.2.2.1.2.2 4 (by decide)).2
    | 18, _ => rw [show 6 + 18 = 24 from rfl, eg_24 hR]; exact (hR.2 0 (by decide)).2
    | 19, _ => rw [show 6 + 19 = 25 from rfl, eg_25 hR]; exact (hR.2 1 (by decide)).2
    | 20, _ => rw [show 6 + 20 = 26 from rfl, eg_26 hR]; exact (hR.2 2 (by decide)).2
    | 21, _ => rw [show 6 + 21 = 27 from rfl, eg_27 hR]; exact (hR.2 3 (by decide)).2
    | 22, _ => rw [show 6 + 22 = 28 from rfl, eg_28 hS]; exact hS.2.2.2.2.2.1.2.2.2
    | 23, _ => rw [show 6 + 23 = 29 from rfl, eg_29 hS]; exact hS.2.2.2.2.2.2.1.2.2.2.1
    | 24, _ => rw [show 6 + 24 = 30 from rfl, eg_30 hS]; exact hS.2.2.2.2.2.2.1.2.2.2.2.2
    | 25, _ => rw [show 6 + 25 = 31 from rfl, eg_31 hS]; exact hS.2.1.2
    | n + 26, h => exact absurd h (by omega)
  · simp only [ev_tr, List.mem_cons, List.not_mem_nil, or_false] at hq
    rcases hq with rfl | rfl | rfl | rfl | rfl | rfl | rfl | rfl | rfl | rfl | rfl | rfl | rfl | rfl | rfl | rfl | rfl | rfl | rfl | rfl | rfl | rfl | rfl | rfl | rfl | rfl
    · show tW T (eg T x p u 0) 0 = some (eg T x p u 1); rw [eg_0, eg_1 hP]; exact hP.2.2.1
    · show tW T (eg T x p u 0) 1 = some (eg T x p u 11); rw [eg_0, eg_11 hP]; exact hP.2.2.2.2.1 0 (by decide)
    · show tW T (eg T x p u 0) 2 = some (eg T x p u 12); rw [eg_0, eg_12 hP]; exact hP.2.2.2.2.1 1 (by decide)
    · show tW T (eg T x p u 0) 3 = some (eg T x p u 13); rw [eg_0, eg_13 hP]; exact hP.2.2.2.2.1 2 (by decide)
    · show tW T (eg T x p u 0) 4 = some (eg T x p u 14); rw [eg_0, eg_14 hP]; exact hP.2.2.2.2.1 3 (by decide)
    · show tW T (eg T x p u 0) 5 = some (eg T x p u 15); rw [eg_0, eg_15 hP]; exact hP.2.2.2.2.1 4 (by decide)
    · show tW T (eg T x p u 0) 6 = some (eg T x p u 16); rw [eg_0, eg_16 hP]; exact hP.2.2.2.2.1 5 (by decide)
    · show tW T (eg T x p u 0) 7 = some (eg T x p u 17); rw [eg_0, eg_17 hP]; exact hP.2.2.2.2.1 6 (by decide)
    · show tW T (eg T x p u 0) 8 = some (eg T x p u 18); rw [eg_0, eg_18 hP]; exact hP.2.2.2.2.1 7 (by decide)
    · show tW T (eg T x p u 1) 0 = some (eg T x p u 6); rw [eg_1 hP, eg_6 hP]; exact hP.2.2.2.1 0 (by decide)
    · show tW T (eg T x p u 1) 1 = some (eg T x p u 7); rw [eg_1 hP, eg_7 hP]; exact hP.2.2.2.1 1 (by decide)
    · show tW T (eg T x p u 1) 2 = some (eg T x p u 8); rw [eg_1 hP, eg_8 hP]; exact hP.2.2.2.1 2 (by decide)
    · show tW T (eg T x p u 1) 3 = some (eg T x p u 9); rw [eg_1 hP, eg_9 hP]; exact hP.2.2.2.1 3 (by decide)
    · show tW T (eg T x p u 1) 4 = some (eg T x p u 10); rw [eg_1 hP, eg_10 hP]; exact hP.2.2.2.1 4 (by decide)
    · show tW T (eg T x p u 2) 6 = some (eg T x p u 19); rw [eg_2 hS, eg_19 hS]; exact (hS.2.2.1.2.2 0 (by decide)).1
    · show tW T (eg T x p u 2) 7 = some (eg T x p u 20); rw [eg_2 hS, eg_20 hS]; exact (hS.2.2.1.2.2 1 (by decide)).1
    · show tW T (eg T x p u 2) 8 = some (eg T x p u 21); rw [eg_2 hS, eg_21 hS]; exact (hS.2.2.1.2.2 2 (by decide)).1
    · show tW T (eg T x p u 2) 9 = some (eg T x p u 22); rw [eg_2 hS, eg_22 hS]; exact (hS.2.2.1.2.2 3 (by decide)).1
    · show tW T (eg T x p u 2) 10 = some (eg T x p u 23); rw [eg_2 hS, eg_23 hS]; exact (hS.2.2.1.2.2 4 (by decide)).1
    · show tW T (eg T x p u 3) 0 = some (eg T x p u 24); rw [eg_3, eg_24 hR]; exact (hR.2 0 (by decide)).1
    · show tW T (eg T x p u 3) 1 = some (eg T x p u 25); rw [eg_3, eg_25 hR]; exact (hR.2 1 (by decide)).1
    · show tW T (eg T x p u 3) 2 = some (eg T x p u 26); rw [eg_3, eg_26 hR]; exact (hR.2 2 (by decide)).1
    · show tW T (eg T x p u 3) 3 = some (eg T x p u 27); rw [eg_3, eg_27 hR]; exact (hR.2 3 (by decide)).1
    · show tW T (eg T x p u 4) 0 = some (eg T x p u 28); rw [eg_4 hS, eg_28 hS]; exact hS.2.2.2.2.2.1.2.2.1
    · show tW T (eg T x p u 5) 0 = some (eg T x p u 29); rw [eg_5 hS, eg_29 hS]; exact hS.2.2.2.2.2.2.1.2.2.1
    · show tW T (eg T x p u 5) 1 = some (eg T x p u 30); rw [eg_5 hS, eg_30 hS]; exact hS.2.2.2.2.2.2.1.2.2.2.2.1
  · rw [eg_o hS hP v hu hR i hi, eg_o hS hP v hu hR j hj] at e
    cases hi' : egP i <;> cases hj' : egP j <;> rw [hi', hj'] at e <;> simp only [if_true, if_false, Bool.false_eq_true] at e
    · exact egO_inj v i hi j hj (by rw [hi', hj']) (by omega)
    · exfalso
      have q1 := egO_lt v i hi hi'
      rcases hp with hp | hp
      · exact egO_mix v j hj i hi hj' hi' (by omega)
      · omega
    · exfalso
      have q1 := egO_lt v j hj hj'
      rcases hp with hp | hp
      · exact egO_mix v i hi j hj hi' hj' (by omega)
      · omega
    · exact egO_inj v i hi j hj (by rw [hi', hj']) (by omega)
end SHP
