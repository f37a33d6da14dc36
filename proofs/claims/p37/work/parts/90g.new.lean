/-! the school: new rows, new programs -/
section NEWX
def rowAt (T : Tx) (me f n : Nat) : Tx := tsW (tRow (tNew T 107) (tZ T) n) me f (some (tZ T))
def rws (me : Nat) : List (Nat × Nat) → Tx → Tx
  | [], T => T
  | q :: r, T => rws me r (rowAt T me q.1 q.2)
variable {T : Tx} {me : Nat}
theorem tK_new {k : Nat} : tK (tNew T k) (tZ T) = k := if_pos rfl
theorem row_step {α : Type} {f n k : Nat} {K : Tx → Option α} (hk : tK T me = k) (hz : me < tZ T) : (bS (tNew T 107) fun T1 => gd (tK T1 (tZ T) = 107) <| bS (tRow T1 (tZ T) n) fun T2 => gd (tK T2 me = k) <| bS (tsW T2 me f (some (tZ T))) K) = K (rowAt T me f n) := by
  have h1 : tK (tRow (tNew T 107) (tZ T) n) me = k := by
    have hne : ¬ me = tZ T := by omega
    show (if me = tZ T then 7 else tK (tNew T 107) me) = k
    rw [if_neg hne]
    exact (if_neg hne).trans hk
  rw [bS_eq, gd_e tK_new, bS_eq, gd_e h1, bS_eq]
  rfl
theorem rowAt_Z {f n : Nat} : tZ (rowAt T me f n) = tZ T + 2 := rfl
theorem rowAt_o {f n a : Nat} (h : a < tZ T) (hm : a ≠ me) : Agr T (rowAt T me f n) a := ((Agr.N h).tr (Agr.R (by omega))).tr (Agr.W hm)
theorem rowAt_me {f n : Nat} (h : me < tZ T) : tK (rowAt T me f n) me = tK T me ∧ tV (rowAt T me f n) me = tV T me ∧ tW (rowAt T me f n) me f = some (tZ T) ∧ ∀ g, g ≠ f → tW (rowAt T me f n) me g = tW T me g := by
  have h1 : Agr T (tRow (tNew T 107) (tZ T) n) me := (Agr.N h).tr (Agr.R (by omega))
  refine ⟨h1.1, h1.2.2.2.2.2, tW_s, fun g hg => ?_⟩
  unfold rowAt
  rw [tW_n (Or.inr hg), h1.2.2.1]
theorem rowAt_r {f n : Nat} (h : me < tZ T) : RwAt (rowAt T me f n) (tZ T) n ∧ tB (rowAt T me f n) (tZ T) = [] := ⟨⟨if_pos rfl, if_pos rfl⟩, if_pos rfl⟩
theorem rws_Z : ∀ (l : List (Nat × Nat)) (T : Tx), tZ (rws me l T) = tZ T + 2 * l.length := by
  intro l
  induction l with
  | nil => intro T; rfl
  | cons q r ih =>
    intro T
    rw [rws, ih, rowAt_Z, List.length_cons]
    omega
theorem rws_o : ∀ (l : List (Nat × Nat)) (T : Tx) (a : Nat), a < tZ T → a ≠ me → Agr T (rws me l T) a := by
  intro l
  induction l with
  | nil => intro T a _ _; exact Agr.r
  | cons q r ih => intro T a h1 h2; exact (rowAt_o h1 h2).tr (ih _ a (by rw [rowAt_Z]; omega) h2)
theorem rws_me : ∀ (l : List (Nat × Nat)) (T : Tx), me < tZ T → tK (rws me l T) me = tK T me ∧ tV (rws me l T) me = tV T me ∧ ∀ g, (∀ q, q ∈ l → q.1 ≠ g) → tW (rws me l T) me g = tW T me g := by
  intro l
  induction l with
  | nil => intro T _; exact ⟨rfl, rfl, fun _ _ => rfl⟩
  | cons q r ih =>
    intro T h
    obtain ⟨g1, g2, g3⟩ := ih (rowAt T me q.1 q.2) (by rw [rowAt_Z]; omega)
    obtain ⟨k1, k2, k3, k4⟩ := rowAt_me (f := q.1) (n := q.2) h
    exact ⟨g1.trans k1, g2.trans k2, fun g hg => (g3 g (fun q' hq' => hg q' (List.mem_cons_of_mem _ hq'))).trans (k4 g (fun e => hg q (List.mem_cons_self ..) e.symm))⟩
theorem rws_i : ∀ (l : List (Nat × Nat)) (T : Tx), me < tZ T → (l.map (fun q => q.1)).Nodup → ∀ i, i < l.length → tW (rws me l T) me (l.getD i (0, 0)).1 = some (tZ T + 2 * i) ∧ RwAt (rws me l T) (tZ T + 2 * i) (l.getD i (0, 0)).2 ∧ tB (rws me l T) (tZ T + 2 * i) = [] := by
  intro l
  induction l with
  | nil => intro T _ _ i hi; exact absurd hi (Nat.not_lt_zero _)
  | cons q r ih =>
    intro T h hn i hi
    rw [List.map_cons, List.nodup_cons] at hn
    cases i with
    | zero =>
      obtain ⟨k1, k2, k3, k4⟩ := rowAt_me (f := q.1) (n := q.2) h
      obtain ⟨j1, j2⟩ := rowAt_r (f := q.1) (n := q.2) h
      have ho := rws_o (me := me) r (rowAt T me q.1 q.2) (tZ T) (by rw [rowAt_Z]; omega) (by omega)
      obtain ⟨_, _, g3⟩ := rws_me (me := me) r (rowAt T me q.1 q.2) (by rw [rowAt_Z]; omega)
      refine ⟨(g3 q.1 (fun q' hq' e => hn.1 (List.mem_map.2 ⟨q', hq', e⟩))).trans k3, j1.agr ho, ho.2.2.2.2.1.trans j2⟩
    | succ i =>
      have := ih (rowAt T me q.1 q.2) (by rw [rowAt_Z]; omega) hn.2 i (by simpa using hi)
      rw [rowAt_Z, show tZ T + 2 + 2 * i = tZ T + 2 * (i + 1) by omega] at this
      exact this
theorem n301 : (301 : Int32).toNatClampNeg = 301 ∧ (300 : Int32).toNatClampNeg = 300 ∧ (150 : Int32).toNatClampNeg = 150 ∧ (600 : Int32).toNatClampNeg = 600 ∧ (75 : Int32).toNatClampNeg = 75 ∧ (8 : Int32).toNatClampNeg = 8 ∧ (30 : Int32).toNatClampNeg = 30 := by decide
def rw9 : List (Nat × Nat) := [(0, 301), (1, 301), (2, 301), (3, 300), (4, 300)]
def rw4' : List (Nat × Nat) := [(1, 150), (2, 150), (3, 600), (4, 600), (5, 75), (6, 75), (7, 75), (8, 75)]
theorem k_rws {l : List (Nat × Nat)} {k : Nat} (hk : tK T me = k) (hz : me < tZ T) : tK (rws me l T) me = k ∧ me < tZ (rws me l T) := ⟨(rws_me l T hz).1.trans hk, by rw [rws_Z]; omega⟩
theorem h9000_e (hk : tK T me = 10) (hz : me < tZ T) : h_9000 me T = some (rws me rw9 T) := by
  have k : ∀ (l : List (Nat × Nat)), tK (rws me l T) me = 10 ∧ me < tZ (rws me l T) := fun l => k_rws hk hz
  unfold h_9000
  rw [n301.1, n301.2.1]
  rw [row_step (T := T) (k []).1 (k []).2]
  rw [row_step (T := (rowAt T me 0 301)) (k [(0, 301)]).1 (k [(0, 301)]).2]
  rw [row_step (T := (rowAt (rowAt T me 0 301) me 1 301)) (k [(0, 301), (1, 301)]).1 (k [(0, 301), (1, 301)]).2]
  rw [row_step (T := (rowAt (rowAt (rowAt T me 0 301) me 1 301) me 2 301)) (k [(0, 301), (1, 301), (2, 301)]).1 (k [(0, 301), (1, 301), (2, 301)]).2]
  rw [row_step (T := (rowAt (rowAt (rowAt (rowAt T me 0 301) me 1 301) me 2 301) me 3 300)) (k [(0, 301), (1, 301), (2, 301), (3, 300)]).1 (k [(0, 301), (1, 301), (2, 301), (3, 300)]).2]
  rfl
/-- a new program: it takes the next 28 cells -/
theorem h4000_e (hk : tK T me = 5) (hz : me + 1 = tZ T) : ∃ T', h_4000 me T = some T' ∧ PrgAt T' me ∧ tZ T' = me + 28 ∧ (∀ a, a < me → Agr T T' a) := by
  have hT1 : tK (tNew T 10) (tZ T) = 10 := tK_new
  have hZ1 : tZ (tNew T 10) = tZ T + 1 := rfl
  have hm1 : Agr T (tNew T 10) me := Agr.N (by omega)
  have e9 := h9000_e (T := tNew T 10) (me := tZ T) hT1 (by omega)
  obtain ⟨T2, hT2⟩ : ∃ T2, T2 = rws (tZ T) rw9 (tNew T 10) := ⟨_, rfl⟩
  have z2 : tZ T2 = tZ T + 11 := by rw [hT2, rws_Z, hZ1]; rfl
  have m2 : Agr T T2 me := hm1.tr (by rw [hT2]; exact rws_o _ _ _ (by omega) (by omega))
  obtain ⟨T3, hT3⟩ : ∃ T3, T3 = tsW T2 me 0 (some (tZ T)) := ⟨_, rfl⟩
  have z3 : tZ T3 = tZ T + 11 := by rw [hT3]; exact z2
  have k3 : tK T3 me = 5 := by rw [hT3]; exact m2.1.trans hk
  obtain ⟨T4, hT4⟩ : ∃ T4, T4 = rws me rw4' T3 := ⟨_, rfl⟩
  have z4 : tZ T4 = tZ T + 27 := by rw [hT4, rws_Z, z3]; rfl
  have k : ∀ (l : List (Nat × Nat)), tK (rws me l T3) me = 5 ∧ me < tZ (rws me l T3) := fun l => k_rws k3 (by omega)
  refine ⟨tsV T4 me 9 0, ?_, ⟨?_, ?_, ?_, fun i hi => ?_, fun i hi => ?_, fun i hi => ?_, ?_⟩, ?_, fun a ha => ?_⟩
  · unfold h_4000
    rw [bS_eq, gd_e hT1, e9, bOv_some, ← hT2, gd_e (m2.1.trans hk), bS_eq, ← hT3, n301.2.2.1, n301.2.2.2.1, n301.2.2.2.2.1]
    rw [row_step (T := T3) (k []).1 (k []).2]
    rw [row_step (T := (rowAt T3 me 1 150)) (k [(1, 150)]).1 (k [(1, 150)]).2]
    rw [row_step (T := (rowAt (rowAt T3 me 1 150) me 2 150)) (k [(1, 150), (2, 150)]).1 (k [(1, 150), (2, 150)]).2]
    rw [row_step (T := (rowAt (rowAt (rowAt T3 me 1 150) me 2 150) me 3 600)) (k [(1, 150), (2, 150), (3, 600)]).1 (k [(1, 150), (2, 150), (3, 600)]).2]
    rw [row_step (T := (rowAt (rowAt (rowAt (rowAt T3 me 1 150) me 2 150) me 3 600) me 4 600)) (k [(1, 150), (2, 150), (3, 600), (4, 600)]).1 (k [(1, 150), (2, 150), (3, 600), (4, 600)]).2]
    rw [row_step (T := (rowAt (rowAt (rowAt (rowAt (rowAt T3 me 1 150) me 2 150) me 3 600) me 4 600) me 5 75)) (k [(1, 150), (2, 150), (3, 600), (4, 600), (5, 75)]).1 (k [(1, 150), (2, 150), (3, 600), (4, 600), (5, 75)]).2]
    rw [row_step (T := (rowAt (rowAt (rowAt (rowAt (rowAt (rowAt T3 me 1 150) me 2 150) me 3 600) me 4 600) me 5 75) me 6 75)) (k [(1, 150), (2, 150), (3, 600), (4, 600), (5, 75), (6, 75)]).1 (k [(1, 150), (2, 150), (3, 600), (4, 600), (5, 75), (6, 75)]).2]
    rw [row_step (T := (rowAt (rowAt (rowAt (rowAt (rowAt (rowAt (rowAt T3 me 1 150) me 2 150) me 3 600) me 4 600) me 5 75) me 6 75) me 7 75)) (k [(1, 150), (2, 150), (3, 600), (4, 600), (5, 75), (6, 75), (7, 75)]).1 (k [(1, 150), (2, 150), (3, 600), (4, 600), (5, 75), (6, 75), (7, 75)]).2]
    show gd (tK (rws me rw4' T3) me = 5) (bS (tsV (rws me rw4' T3) me 9 0) fun T28 => some T28) = _
    rw [gd_e (k rw4').1, bS_eq, hT4]
  · show tK T4 me = 5
    rw [hT4]; exact (k _).1
  · show tK T4 (me + 1) = 10
    have : Agr T3 T4 (me + 1) := by rw [hT4]; exact rws_o _ _ _ (by omega) (by omega)
    rw [this.1, hT3]
    show tK T2 (me + 1) = 10
    rw [hT2, hz]
    exact (rws_me rw9 (tNew T 10) (by omega)).1.trans hT1
  · show tW T4 me 0 = some (me + 1)
    rw [hT4, (rws_me rw4' T3 (by omega)).2.2 0 (by decide), hT3, tW_s, hz]
  · show tW T4 (me + 1) i = _
    have ho : Agr T3 T4 (me + 1) := by rw [hT4]; exact rws_o _ _ _ (by omega) (by omega)
    rw [ho.2.2.1, hT3, tW_n (Or.inl (by omega)), hT2, hz]
    have := (rws_i (me := tZ T) rw9 (tNew T 10) (by omega) (by decide) i hi).1
    rw [show (rw9.getD i (0, 0)).1 = i from (show ∀ i, i < 5 → (rw9.getD i (0, 0)).1 = i by decide) i hi] at this
    rw [this, hZ1]
    congr 1
    omega
  · show tW T4 me (i + 1) = _
    have := (rws_i (me := me) rw4' T3 (by omega) (by decide) i hi).1
    rw [show (rw4'.getD i (0, 0)).1 = i + 1 from (show ∀ i, i < 8 → (rw4'.getD i (0, 0)).1 = i + 1 by decide) i hi, z3] at this
    rw [hT4, this]
    congr 1
    omega
  · show RwAt T4 (me + 2 + 2 * i) (ev_cap i)
    by_cases h5 : i < 5
    · have ho : Agr T3 T4 (me + 2 + 2 * i) := by rw [hT4]; exact rws_o _ _ _ (by omega) (by omega)
      refine RwAt.agr ?_ ho
      rw [hT3]
      show RwAt T2 _ _
      have := (rws_i (me := tZ T) rw9 (tNew T 10) (by omega) (by decide) i h5).2.1
      rw [show (rw9.getD i (0, 0)).2 = ev_cap i from (show ∀ i, i < 5 → (rw9.getD i (0, 0)).2 = ev_cap i by decide) i h5, hZ1, show tZ T + 1 + 2 * i = me + 2 + 2 * i by omega] at this
      rw [hT2]
      exact this
    · have := (rws_i (me := me) rw4' T3 (by omega) (by decide) (i - 5) (by show i - 5 < 8; omega)).2.1
      rw [show (rw4'.getD (i - 5) (0, 0)).2 = ev_cap i from (show ∀ i, i < 13 → ¬ i < 5 → (rw4'.getD (i - 5) (0, 0)).2 = ev_cap i by decide) i hi h5, z3, show tZ T + 11 + 2 * (i - 5) = me + 2 + 2 * i by omega] at this
      rw [hT4]
      exact this
  · show me + 28 ≤ tZ T4
    omega
  · show tZ T4 = me + 28
    omega
  · have h1 : Agr T T2 a := (Agr.N (by omega)).tr (by rw [hT2]; exact rws_o _ _ _ (by omega) (by omega))
    have h2 : Agr T2 T3 a := by rw [hT3]; exact Agr.W (by omega)
    have h3 : Agr T3 T4 a := by rw [hT4]; exact rws_o _ _ _ (by omega) (by omega)
    exact ((h1.tr h2).tr h3).tr (Agr.V (by omega))
end NEWX
