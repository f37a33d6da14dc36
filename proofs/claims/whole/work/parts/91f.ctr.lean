/-! the school as it is made -/
section CTR
variable {T T' T2 : Tx} {x me p q : Nat} {m : Mx}
theorem n32 : (32 : Int32).toNatClampNeg = 32 ∧ (88 : Int32).toNatClampNeg = 88 ∧ (10 : Int32).toNatClampNeg = 10 ∧ (1650 : Int32).toNatClampNeg = 1650 := by decide
def rwR : List (Nat × Nat) := [(6, 8), (7, 8), (8, 150), (9, 150), (10, 150)]
def rwU : List (Nat × Nat) := [(0, 8), (1, 32), (2, 88), (3, 10)]
def rwM : List (Nat × Nat) := [(0, 1650)]
def rwK : List (Nat × Nat) := [(0, 1650), (1, 1650)]
theorem h5000_e (hk : tK T me = 6) (hz : me + 1 = tZ T) (hp : tK T p = 5) (hp' : p < me) (hw : tW T p 0 = some q) : ∃ T', h_5000 me p T = some T' ∧ tZ T' = me + 11 ∧ (∀ y, y < me → Agr T T' y) ∧ tK T' me = 6 ∧ (∀ k, k < 5 → tW T' me (6 + k) = some (me + 1 + 2 * k) ∧ RwAt T' (me + 1 + 2 * k) (ev_cap (13 + k))) ∧ tB T' (me + 3) = [] := by
  obtain ⟨T3, hT3⟩ : ∃ T3, T3 = rws me rwR T := ⟨_, rfl⟩
  have k : ∀ (l : List (Nat × Nat)), tK (rws me l T) me = 6 ∧ me < tZ (rws me l T) := fun l => k_rws hk (by omega)
  have z3 : tZ T3 = me + 11 := by rw [hT3, rws_Z, ← hz]; rfl
  have k3 : tK T3 me = 6 := by rw [hT3]; exact (k _).1
  have g3 : ∀ y, y < me → Agr T T3 y := fun y hy => by rw [hT3]; exact rws_o _ _ _ (by omega) (by omega)
  have r : ∀ i, i < 5 → tW T3 me (6 + i) = some (me + 1 + 2 * i) ∧ RwAt T3 (me + 1 + 2 * i) (ev_cap (13 + i)) ∧ tB T3 (me + 1 + 2 * i) = [] := fun i hi => by
    have := rws_i (me := me) rwR T (by omega) (by decide) i hi
    rw [← hT3, ← hz] at this
    have t1 : ∀ i, i < 5 → (rwR.getD i (0, 0)).1 = 6 + i ∧ (rwR.getD i (0, 0)).2 = ev_cap (13 + i) := by decide
    rw [(t1 i hi).1, (t1 i hi).2] at this
    exact this
  obtain ⟨T7, hT7⟩ : ∃ T7, T7 = tsW (tsW T3 me 0 (some p)) me 1 (some q) := ⟨_, rfl⟩
  have g7 : ∀ y, y ≠ me → Agr T3 T7 y := fun y hy => by rw [hT7]; exact (Agr.W hy).tr (Agr.W hy)
  refine ⟨T7, ?_, by rw [hT7]; exact z3, fun y hy => (g3 y hy).tr (g7 y (by omega)), by rw [hT7]; exact k3, fun i hi => ⟨?_, (r i hi).2.1.agr (g7 _ (by omega))⟩, (g7 (me + 3) (by omega)).2.2.2.2.1.trans (r 1 (by decide)).2.2⟩
  · unfold h_5000
    rw [n301.2.2.2.2.2.1, n301.2.2.1]
    rw [row_step (T := T) (k []).1 (k []).2]
    rw [row_step (T := (rowAt T me 6 8)) (k [(6, 8)]).1 (k [(6, 8)]).2]
    rw [row_step (T := (rowAt (rowAt T me 6 8) me 7 8)) (k [(6, 8), (7, 8)]).1 (k [(6, 8), (7, 8)]).2]
    rw [row_step (T := (rowAt (rowAt (rowAt T me 6 8) me 7 8) me 8 150)) (k [(6, 8), (7, 8), (8, 150)]).1 (k [(6, 8), (7, 8), (8, 150)]).2]
    rw [row_step (T := (rowAt (rowAt (rowAt (rowAt T me 6 8) me 7 8) me 8 150) me 9 150)) (k [(6, 8), (7, 8), (8, 150), (9, 150)]).1 (k [(6, 8), (7, 8), (8, 150), (9, 150)]).2]
    have e3 : rowAt (rowAt (rowAt (rowAt (rowAt T me 6 8) me 7 8) me 8 150) me 9 150) me 10 150 = T3 := hT3.symm
    have w3 : tW (tsW T3 me 0 (some p)) p 0 = some q := by rw [tW_n (Or.inl (by omega)), (g3 p hp').2.2.1]; exact hw
    rw [e3, gd_e k3, bS_eq, gd_e (show tK (tsW T3 me 0 (some p)) p = 5 from (g3 p hp').1.trans hp), w3, bP_some, gd_e (show tK (tsW T3 me 0 (some p)) me = 6 from k3), bS_eq, ← hT7]
  · rw [hT7, tW_n (Or.inr (by omega)), tW_n (Or.inr (by omega))]
    exact (r i hi).1
theorem h7000_e (hk : tK T me = 8) (hz : me + 1 = tZ T) : ∃ T', h_7000 me T = some T' ∧ tZ T' = me + 9 ∧ (∀ y, y < me → Agr T T' y) ∧ RunAt T' me ∧ tB T' (me + 1) = [] ∧ tB T' (me + 3) = List.replicate 32 0 ∧ tV T' me 4 = tV T me 4 := by
  obtain ⟨T3, hT3⟩ : ∃ T3, T3 = rws me rwU T := ⟨_, rfl⟩
  have k : ∀ (l : List (Nat × Nat)), tK (rws me l T) me = 8 ∧ me < tZ (rws me l T) := fun l => k_rws hk (by omega)
  have z3 : tZ T3 = me + 9 := by rw [hT3, rws_Z, ← hz]; rfl
  have k3 : tK T3 me = 8 := by rw [hT3]; exact (k _).1
  have v3 : tV T3 me = tV T me := by rw [hT3]; exact (rws_me (me := me) rwU T (by omega)).2.1
  have g3 : ∀ y, y < me → Agr T T3 y := fun y hy => by rw [hT3]; exact rws_o _ _ _ (by omega) (by omega)
  have r : ∀ i, i < 4 → tW T3 me i = some (me + 1 + 2 * i) ∧ RwAt T3 (me + 1 + 2 * i) (ev_cap (18 + i)) ∧ tB T3 (me + 1 + 2 * i) = [] := fun i hi => by
    have := rws_i (me := me) rwU T (by omega) (by decide) i hi
    rw [← hT3, ← hz] at this
    have t1 : ∀ i, i < 4 → (rwU.getD i (0, 0)).1 = i ∧ (rwU.getD i (0, 0)).2 = ev_cap (18 + i) := by decide
    rw [(t1 i hi).1, (t1 i hi).2] at this
    exact this
  have r1 := r 1 (by decide)
  have r2 := r 2 (by decide)
  have c1 : tC T3 (me + 3) = 32 := r1.2.1.2
  obtain ⟨T7, hT7⟩ : ∃ T7, T7 = tsB (tsB (tsV T3 me 8 0) (me + 3) (List.replicate 32 0)) (me + 5) (List.replicate (tC T3 (me + 5)) 0) := ⟨_, rfl⟩
  have K7 : ∀ y, tK T7 y = tK T3 y ∧ tW T7 y = tW T3 y ∧ tC T7 y = tC T3 y := fun y => by rw [hT7]; exact ⟨rfl, rfl, rfl⟩
  refine ⟨T7, ?_, by rw [hT7]; exact z3, fun y hy => (g3 y hy).tr ?_, ⟨(K7 me).1.trans k3, fun i hi => ⟨by rw [(K7 me).2.1]; exact (r i hi).1, (K7 _).1.trans (r i hi).2.1.1, (K7 _).2.2.trans (r i hi).2.1.2⟩⟩, ?_, ?_, ?_⟩
  · unfold h_7000
    rw [n301.2.2.2.2.2.1, n32.1, n32.2.1, n32.2.2.1]
    rw [row_step (T := T) (k []).1 (k []).2]
    rw [row_step (T := (rowAt T me 0 8)) (k [(0, 8)]).1 (k [(0, 8)]).2]
    rw [row_step (T := (rowAt (rowAt T me 0 8) me 1 32)) (k [(0, 8), (1, 32)]).1 (k [(0, 8), (1, 32)]).2]
    rw [row_step (T := (rowAt (rowAt (rowAt T me 0 8) me 1 32) me 2 88)) (k [(0, 8), (1, 32), (2, 88)]).1 (k [(0, 8), (1, 32), (2, 88)]).2]
    have e3 : rowAt (rowAt (rowAt (rowAt T me 0 8) me 1 32) me 2 88) me 3 10 = T3 := hT3.symm
    rw [e3, gd_e k3, bS_eq, gd_e (show tK (tsV T3 me 8 0) me = 8 from k3), show tW (tsV T3 me 8 0) me 1 = some (me + 3) from r1.1, bP_some, gd_e (show tK (tsV T3 me 8 0) (me + 3) = 7 from r1.2.1.1), show tC (tsV T3 me 8 0) (me + 3) = 32 from c1, bS_eq]
    rw [gd_e (show tK (tsB (tsV T3 me 8 0) (me + 3) (List.replicate 32 0)) me = 8 from k3), show tW (tsB (tsV T3 me 8 0) (me + 3) (List.replicate 32 0)) me 2 = some (me + 5) from r2.1, bP_some, gd_e (show tK (tsB (tsV T3 me 8 0) (me + 3) (List.replicate 32 0)) (me + 5) = 7 from r2.2.1.1), bS_eq, hT7]
    rfl
  · rw [hT7]
    exact ((Agr.V (by omega)).tr (Agr.B (by omega))).tr (Agr.B (by omega))
  · rw [hT7, tB_n (by omega), tB_n (by omega)]
    exact (r 0 (by decide)).2.2
  · rw [hT7, tB_n (by omega), tB_s]
  · rw [hT7]
    refine (tV_n (T := T3) (a := me) (f := 8) (v := 0) (Or.inr (by decide))).trans ?_
    rw [v3]
theorem h3000_e {a b : Nat} (hk : tK T me = 4) (hz : me + 1 = tZ T) : ∃ T', h_3000 me a b T = some T' ∧ tZ T' = me + 3 ∧ (∀ y, y < me → Agr T T' y) ∧ tK T' me = 4 ∧ tW T' me 0 = some (me + 1) ∧ RwAt T' (me + 1) 1650 := by
  obtain ⟨T3, hT3⟩ : ∃ T3, T3 = rws me rwM T := ⟨_, rfl⟩
  have k : ∀ (l : List (Nat × Nat)), tK (rws me l T) me = 4 ∧ me < tZ (rws me l T) := fun l => k_rws hk (by omega)
  have z3 : tZ T3 = me + 3 := by rw [hT3, rws_Z, ← hz]; rfl
  have k3 : tK T3 me = 4 := by rw [hT3]; exact (k _).1
  have g3 : ∀ y, y < me → Agr T T3 y := fun y hy => by rw [hT3]; exact rws_o _ _ _ (by omega) (by omega)
  have r := rws_i (me := me) rwM T (by omega) (by decide) 0 (by decide)
  rw [← hT3, ← hz] at r
  obtain ⟨T7, hT7⟩ : ∃ T7, T7 = tsW (tsW T3 me 1 (some a)) me 2 (some b) := ⟨_, rfl⟩
  have g7 : ∀ y, y ≠ me → Agr T3 T7 y := fun y hy => by rw [hT7]; exact (Agr.W hy).tr (Agr.W hy)
  refine ⟨T7, ?_, by rw [hT7]; exact z3, fun y hy => (g3 y hy).tr (g7 y (by omega)), by rw [hT7]; exact k3, ?_, r.2.1.agr (g7 _ (by omega))⟩
  · unfold h_3000
    rw [n32.2.2.2]
    rw [row_step (T := T) (k []).1 (k []).2]
    have e3 : rowAt T me 0 1650 = T3 := hT3.symm
    rw [e3, gd_e k3, bS_eq, gd_e (show tK (tsW T3 me 1 (some a)) me = 4 from k3), bS_eq, ← hT7]
  · rw [hT7, tW_n (Or.inr (by decide)), tW_n (Or.inr (by decide))]
    exact r.1
theorem h10000_e {b : Nat} (hk : tK T me = 11) (hz : me + 1 = tZ T) (hp : tK T p = 5) (hp' : p < me) (hw : tW T p 0 = some q) : ∃ T', h_10000 me p b T = some T' ∧ tZ T' = me + 5 ∧ (∀ y, y < me → Agr T T' y) ∧ tK T' me = 11 ∧ tW T' me 0 = some (me + 1) ∧ RwAt T' (me + 1) 1650 ∧ tW T' me 1 = some (me + 3) ∧ RwAt T' (me + 3) 1650 := by
  obtain ⟨T3, hT3⟩ : ∃ T3, T3 = rws me rwK T := ⟨_, rfl⟩
  have k : ∀ (l : List (Nat × Nat)), tK (rws me l T) me = 11 ∧ me < tZ (rws me l T) := fun l => k_rws hk (by omega)
  have z3 : tZ T3 = me + 5 := by rw [hT3, rws_Z, ← hz]; rfl
  have k3 : tK T3 me = 11 := by rw [hT3]; exact (k _).1
  have g3 : ∀ y, y < me → Agr T T3 y := fun y hy => by rw [hT3]; exact rws_o _ _ _ (by omega) (by omega)
  have r0 := rws_i (me := me) rwK T (by omega) (by decide) 0 (by decide)
  have r1 := rws_i (me := me) rwK T (by omega) (by decide) 1 (by decide)
  rw [← hT3, ← hz] at r0 r1
  obtain ⟨T7, hT7⟩ : ∃ T7, T7 = tsW (tsW (tsW T3 me 2 (some p)) me 3 (some q)) me 4 (some b) := ⟨_, rfl⟩
  have g7 : ∀ y, y ≠ me → Agr T3 T7 y := fun y hy => by rw [hT7]; exact ((Agr.W hy).tr (Agr.W hy)).tr (Agr.W hy)
  refine ⟨T7, ?_, by rw [hT7]; exact z3, fun y hy => (g3 y hy).tr (g7 y (by omega)), by rw [hT7]; exact k3, ?_, r0.2.1.agr (g7 _ (by omega)), ?_, r1.2.1.agr (g7 _ (by omega))⟩
  · unfold h_10000
    rw [n32.2.2.2]
    rw [row_step (T := T) (k []).1 (k []).2]
    rw [row_step (T := rowAt T me 0 1650) (k [(0, 1650)]).1 (k [(0, 1650)]).2]
    have e3 : rowAt (rowAt T me 0 1650) me 1 1650 = T3 := hT3.symm
    have w3 : tW (tsW T3 me 2 (some p)) p 0 = some q := by rw [tW_n (Or.inl (by omega)), (g3 p hp').2.2.1]; exact hw
    rw [e3, gd_e k3, bS_eq, gd_e (show tK (tsW T3 me 2 (some p)) p = 5 from (g3 p hp').1.trans hp), w3, bP_some, gd_e (show tK (tsW T3 me 2 (some p)) me = 11 from k3), bS_eq, gd_e (show tK (tsW (tsW T3 me 2 (some p)) me 3 (some q)) me = 11 from k3), bS_eq, ← hT7]
  · rw [hT7, tW_n (Or.inr (by decide)), tW_n (Or.inr (by decide)), tW_n (Or.inr (by decide))]
    exact r0.1
  · rw [hT7, tW_n (Or.inr (by decide)), tW_n (Or.inr (by decide)), tW_n (Or.inr (by decide))]
    exact r1.1
/-- a stage: a new thing is noted in x -/
theorem stg {k f : Nat} (hx : x < tZ T) (h2 : ∀ y, y < tZ T → Agr (tNew T k) T2 y) : (∀ y, y < tZ T → y ≠ x → Agr T (tsW T2 x f (some (tZ T))) y) ∧ tK (tsW T2 x f (some (tZ T))) x = tK T x ∧ tV (tsW T2 x f (some (tZ T))) x = tV T x ∧ (∀ g, tW (tsW T2 x f (some (tZ T))) x g = if g = f then some (tZ T) else tW T x g) ∧ ∀ y, y ≠ x → Agr T2 (tsW T2 x f (some (tZ T))) y := by
  have g : ∀ y, y < tZ T → Agr T T2 y := fun y hy => (Agr.N hy).tr (h2 y hy)
  refine ⟨fun y hy hn => (g y hy).tr (Agr.W hn), (g x hx).1, (g x hx).2.2.2.2.2, fun f' => ?_, fun y hy => Agr.W hy⟩
  by_cases e : f' = f
  · rw [if_pos e, e, tW_s]
  · rw [if_neg e, tW_n (Or.inr e), (g x hx).2.2.1]
set_option maxHeartbeats 8000000 in
theorem h11000_e (hk : tK T x = 12) (hz : x + 1 = tZ T) : ∃ T', h_11000 x T = some T' ∧ tZ T' = x + 74 ∧ (∀ y, y < x → Agr T T' y) ∧ Shp T' x ∧ PrgAt T' (x + 3) ∧ tW T' x 1 = some (x + 3) ∧ tV T' x = tV T x ∧ tB T' (x + 1) = [] ∧ tB T' (x + 34) = [] ∧ tB T' (x + 43) = [] ∧ tB T' (x + 45) = List.replicate 32 0 ∧ tV T' (x + 42) 4 = 0 ∧ tA T' (x + 68) = [] ∧ tA T' (x + 69) = [] := by
  obtain ⟨S1, hS1⟩ : ∃ S1, S1 = rowAt T x 0 300 := ⟨_, rfl⟩
  have z1 : tZ S1 = x + 3 := by rw [hS1, rowAt_Z]; omega
  have A1 : ∀ y, y < x + 1 → y ≠ x → Agr T S1 y := fun y hy hn => by rw [hS1]; exact rowAt_o (by omega) hn
  have me1 := rowAt_me (T := T) (me := x) (f := 0) (n := 300) (by omega)
  rw [← hS1] at me1
  have k1 : tK S1 x = 12 := me1.1.trans hk
  have v1 : tV S1 x = tV T x := me1.2.1
  have w1 : ∀ g, tW S1 x g = if g = 0 then some (x + 1) else tW T x g := fun g => by
    by_cases e : g = 0
    · rw [if_pos e, e, me1.2.2.1, hz]
    · rw [if_neg e, me1.2.2.2 g e]
  have r1 := rowAt_r (T := T) (me := x) (f := 0) (n := 300) (by omega)
  rw [← hS1, ← hz] at r1
  have n2 : tK (tNew S1 5) (x + 3) = 5 := by rw [← z1]; exact tK_new
  have N2 : ∀ y, y < x + 3 → Agr S1 (tNew S1 5) y := fun y hy => Agr.N (by omega)
  have y2 : x + 3 + 1 = tZ (tNew S1 5) := by show _ = tZ S1 + 1; omega
  obtain ⟨Q2, q2e, q2P, q2z, q2g⟩ := h4000_e (T := tNew S1 5) (me := x + 3) n2 y2
  obtain ⟨S2, hS2⟩ : ∃ S, S = tsW Q2 x 1 (some (x + 3)) := ⟨_, rfl⟩
  have t2 := stg (T := S1) (T2 := Q2) (k := 5) (f := 1) (x := x) (by omega) (fun y hy => q2g y (by omega))
  rw [z1, ← hS2] at t2
  obtain ⟨A2, k2, v2, w2, B2⟩ := t2
  have k2 := k2.trans k1
  have v2 := v2.trans v1
  have z2 : tZ S2 = x + 31 := by rw [hS2]; show tZ Q2 = _; omega
  have P2 : PrgAt S2 (x + 3) := q2P.agr (T' := S2) (by rw [hS2]; exact Nat.le_refl _) (fun k hk => B2 _ (by omega))
  have e2 : tW S2 x 1 = some (x + 3) := by rw [w2, if_pos rfl]
  have n3 : tK (tNew S2 6) (x + 31) = 6 := by rw [← z2]; exact tK_new
  have N3 : ∀ y, y < x + 31 → Agr S2 (tNew S2 6) y := fun y hy => Agr.N (by omega)
  have y3 : x + 31 + 1 = tZ (tNew S2 6) := by show _ = tZ S2 + 1; omega
  obtain ⟨Q3, q3e, q3z, q3g, q3k, q3r, q3b⟩ := h5000_e (T := tNew S2 6) (me := x + 31) (p := x + 3) (q := x + 4) n3 y3 ((N3 _ (by omega)).1.trans P2.1) (by omega) (by rw [(N3 (x + 3) (by omega)).2.2.1]; exact P2.2.2.1)
  obtain ⟨S3, hS3⟩ : ∃ S, S = tsW Q3 x 4 (some (x + 31)) := ⟨_, rfl⟩
  have t3 := stg (T := S2) (T2 := Q3) (k := 6) (f := 4) (x := x) (by omega) (fun y hy => q3g y (by omega))
  rw [z2, ← hS3] at t3
  obtain ⟨A3, k3, v3, w3, B3⟩ := t3
  have k3 := k3.trans k2
  have v3 := v3.trans v2
  have z3 : tZ S3 = x + 42 := by rw [hS3]; show tZ Q3 = _; omega
  have n4 : tK (tNew S3 8) (x + 42) = 8 := by rw [← z3]; exact tK_new
  have N4 : ∀ y, y < x + 42 → Agr S3 (tNew S3 8) y := fun y hy => Agr.N (by omega)
  have y4 : x + 42 + 1 = tZ (tNew S3 8) := by show _ = tZ S3 + 1; omega
  obtain ⟨Q4, q4e, q4z, q4g, q4R, q4b, q4c, q4v⟩ := h7000_e (T := tNew S3 8) (me := x + 42) n4 y4
  obtain ⟨S4, hS4⟩ : ∃ S, S = tsW Q4 x 5 (some (x + 42)) := ⟨_, rfl⟩
  have t4 := stg (T := S3) (T2 := Q4) (k := 8) (f := 5) (x := x) (by omega) (fun y hy => q4g y (by omega))
  rw [z3, ← hS4] at t4
  obtain ⟨A4, k4, v4, w4, B4⟩ := t4
  have k4 := k4.trans k3
  have v4 := v4.trans v3
  have z4 : tZ S4 = x + 51 := by rw [hS4]; show tZ Q4 = _; omega
  have n5 : tK (tNew S4 8) (x + 51) = 8 := by rw [← z4]; exact tK_new
  have N5 : ∀ y, y < x + 51 → Agr S4 (tNew S4 8) y := fun y hy => Agr.N (by omega)
  have y5 : x + 51 + 1 = tZ (tNew S4 8) := by show _ = tZ S4 + 1; omega
  obtain ⟨Q5, q5e, q5z, q5g, q5R, q5b, q5c, q5v⟩ := h7000_e (T := tNew S4 8) (me := x + 51) n5 y5
  obtain ⟨S5, hS5⟩ : ∃ S, S = tsW Q5 x 6 (some (x + 51)) := ⟨_, rfl⟩
  have t5 := stg (T := S4) (T2 := Q5) (k := 8) (f := 6) (x := x) (by omega) (fun y hy => q5g y (by omega))
  rw [z4, ← hS5] at t5
  obtain ⟨A5, k5, v5, w5, B5⟩ := t5
  have k5 := k5.trans k4
  have v5 := v5.trans v4
  have z5 : tZ S5 = x + 60 := by rw [hS5]; show tZ Q5 = _; omega
  have e5 : tW S5 x 1 = some (x + 3) := by rw [w5, if_neg (by decide), w4, if_neg (by decide), w3, if_neg (by decide)]; exact e2
  have f5 : tW S5 x 6 = some (x + 51) := by rw [w5, if_pos rfl]
  have n6 : tK (tNew S5 4) (x + 60) = 4 := by rw [← z5]; exact tK_new
  have N6 : ∀ y, y < x + 60 → Agr S5 (tNew S5 4) y := fun y hy => Agr.N (by omega)
  have y6 : x + 60 + 1 = tZ (tNew S5 4) := by show _ = tZ S5 + 1; omega
  obtain ⟨Q6, q6e, q6z, q6g, q6k, q6w, q6r⟩ := h3000_e (T := tNew S5 4) (me := x + 60) (a := x + 3) (b := x + 51) n6 y6
  obtain ⟨S6, hS6⟩ : ∃ S, S = tsW Q6 x 7 (some (x + 60)) := ⟨_, rfl⟩
  have t6 := stg (T := S5) (T2 := Q6) (k := 4) (f := 7) (x := x) (by omega) (fun y hy => q6g y (by omega))
  rw [z5, ← hS6] at t6
  obtain ⟨A6, k6, v6, w6, B6⟩ := t6
  have k6 := k6.trans k5
  have v6 := v6.trans v5
  have z6 : tZ S6 = x + 63 := by rw [hS6]; show tZ Q6 = _; omega
  have e6 : tW S6 x 1 = some (x + 3) := by rw [w6, if_neg (by decide)]; exact e5
  have f6 : tW S6 x 6 = some (x + 51) := by rw [w6, if_neg (by decide)]; exact f5
  have g36 : ∀ y, y < x + 31 → y ≠ x → Agr S2 S6 y := fun y hy hn => (((A3 y (by omega) hn).tr (A4 y (by omega) hn)).tr (A5 y (by omega) hn)).tr (A6 y (by omega) hn)
  have n7 : tK (tNew S6 11) (x + 63) = 11 := by rw [← z6]; exact tK_new
  have N7 : ∀ y, y < x + 63 → Agr S6 (tNew S6 11) y := fun y hy => Agr.N (by omega)
  have y7 : x + 63 + 1 = tZ (tNew S6 11) := by show _ = tZ S6 + 1; omega
  obtain ⟨Q7, q7e, q7z, q7g, q7k, q7w, q7r, q7u, q7s⟩ := h10000_e (T := tNew S6 11) (me := x + 63) (p := x + 3) (q := x + 4) (b := x + 51) n7 y7 ((N7 _ (by omega)).1.trans ((g36 _ (by omega) (by omega)).1.trans P2.1)) (by omega) (by rw [(N7 (x + 3) (by omega)).2.2.1, (g36 (x + 3) (by omega) (by omega)).2.2.1]; exact P2.2.2.1)
  obtain ⟨S7, hS7⟩ : ∃ S, S = tsW Q7 x 8 (some (x + 63)) := ⟨_, rfl⟩
  have t7 := stg (T := S6) (T2 := Q7) (k := 11) (f := 8) (x := x) (by omega) (fun y hy => q7g y (by omega))
  rw [z6, ← hS7] at t7
  obtain ⟨A7, k7, v7, w7, B7⟩ := t7
  have k7 := k7.trans k6
  have v7 := v7.trans v6
  have z7 : tZ S7 = x + 68 := by rw [hS7]; show tZ Q7 = _; omega
  have n8 : tK (tNew S7 101) (x + 68) = 101 := by rw [← z7]; exact tK_new
  have N8 : ∀ y, y < x + 68 → Agr S7 (tNew S7 101) y := fun y hy => Agr.N (by omega)
  have y8 : x + 68 + 1 = tZ (tNew S7 101) := by show _ = tZ S7 + 1; omega
  obtain ⟨Q8, q8e, q8z, q8g, q8k, q8a⟩ := (⟨tLst (tNew S7 101) (x + 68), rfl, rfl, fun y hy => Agr.L (by omega), if_pos rfl, if_pos rfl⟩ : ∃ Q, Q = tLst (tNew S7 101) (x + 68) ∧ tZ Q = tZ S7 + 1 ∧ (∀ y, y < x + 68 → Agr (tNew S7 101) Q y) ∧ tK Q (x + 68) = 1 ∧ tA Q (x + 68) = [])
  obtain ⟨S8, hS8⟩ : ∃ S, S = tsW Q8 x 9 (some (x + 68)) := ⟨_, rfl⟩
  have t8 := stg (T := S7) (T2 := Q8) (k := 101) (f := 9) (x := x) (by omega) (fun y hy => q8g y (by omega))
  rw [z7, ← hS8] at t8
  obtain ⟨A8, k8, v8, w8, B8⟩ := t8
  have k8 := k8.trans k7
  have v8 := v8.trans v7
  have z8 : tZ S8 = x + 69 := by rw [hS8]; show tZ Q8 = _; omega
  have n9 : tK (tNew S8 101) (x + 69) = 101 := by rw [← z8]; exact tK_new
  have N9 : ∀ y, y < x + 69 → Agr S8 (tNew S8 101) y := fun y hy => Agr.N (by omega)
  have y9 : x + 69 + 1 = tZ (tNew S8 101) := by show _ = tZ S8 + 1; omega
  obtain ⟨Q9, q9e, q9z, q9g, q9k, q9a⟩ := (⟨tLst (tNew S8 101) (x + 69), rfl, rfl, fun y hy => Agr.L (by omega), if_pos rfl, if_pos rfl⟩ : ∃ Q, Q = tLst (tNew S8 101) (x + 69) ∧ tZ Q = tZ S8 + 1 ∧ (∀ y, y < x + 69 → Agr (tNew S8 101) Q y) ∧ tK Q (x + 69) = 1 ∧ tA Q (x + 69) = [])
  obtain ⟨S9, hS9⟩ : ∃ S, S = tsW Q9 x 10 (some (x + 69)) := ⟨_, rfl⟩
  have t9 := stg (T := S8) (T2 := Q9) (k := 101) (f := 10) (x := x) (by omega) (fun y hy => q9g y (by omega))
  rw [z8, ← hS9] at t9
  obtain ⟨A9, k9, v9, w9, B9⟩ := t9
  have k9 := k9.trans k8
  have v9 := v9.trans v8
  have z9 : tZ S9 = x + 70 := by rw [hS9]; show tZ Q9 = _; omega
  obtain ⟨S10, hS10⟩ : ∃ S, S = rowAt S9 x 11 30 := ⟨_, rfl⟩
  have z10 : tZ S10 = x + 72 := by rw [hS10, rowAt_Z]; omega
  have A10 : ∀ y, y < x + 70 → y ≠ x → Agr S9 S10 y := fun y hy hn => by rw [hS10]; exact rowAt_o (by omega) hn
  have me10 := rowAt_me (T := S9) (me := x) (f := 11) (n := 30) (by omega)
  rw [← hS10] at me10
  have k10 : tK S10 x = 12 := me10.1.trans k9
  have v10 : tV S10 x = tV T x := me10.2.1.trans v9
  have w10 : ∀ g, tW S10 x g = if g = 11 then some (x + 70) else tW S9 x g := fun g => by
    by_cases e : g = 11
    · rw [if_pos e, e, me10.2.2.1, z9]
    · rw [if_neg e, me10.2.2.2 g e]
  have r10 := rowAt_r (T := S9) (me := x) (f := 11) (n := 30) (by omega)
  rw [← hS10, z9] at r10
  obtain ⟨S11, hS11⟩ : ∃ S, S = rowAt S10 x 12 8 := ⟨_, rfl⟩
  have z11 : tZ S11 = x + 74 := by rw [hS11, rowAt_Z]; omega
  have A11 : ∀ y, y < x + 72 → y ≠ x → Agr S10 S11 y := fun y hy hn => by rw [hS11]; exact rowAt_o (by omega) hn
  have me11 := rowAt_me (T := S10) (me := x) (f := 12) (n := 8) (by omega)
  rw [← hS11] at me11
  have k11 : tK S11 x = 12 := me11.1.trans k10
  have v11 : tV S11 x = tV T x := me11.2.1.trans v10
  have w11 : ∀ g, tW S11 x g = if g = 12 then some (x + 72) else tW S10 x g := fun g => by
    by_cases e : g = 12
    · rw [if_pos e, e, me11.2.2.1, z10]
    · rw [if_neg e, me11.2.2.2 g e]
  have r11 := rowAt_r (T := S10) (me := x) (f := 12) (n := 8) (by omega)
  rw [← hS11, z10] at r11
  have F10 : ∀ y, y < x + 72 → y ≠ x → Agr S10 S11 y := A11
  have F9 : ∀ y, y < x + 70 → y ≠ x → Agr S9 S11 y := fun y hy hn => (A10 y (by omega) hn).tr (F10 y (by omega) hn)
  have F8 : ∀ y, y < x + 69 → y ≠ x → Agr S8 S11 y := fun y hy hn => (A9 y (by omega) hn).tr (F9 y (by omega) hn)
  have F7 : ∀ y, y < x + 68 → y ≠ x → Agr S7 S11 y := fun y hy hn => (A8 y (by omega) hn).tr (F8 y (by omega) hn)
  have F6 : ∀ y, y < x + 63 → y ≠ x → Agr S6 S11 y := fun y hy hn => (A7 y (by omega) hn).tr (F7 y (by omega) hn)
  have F5 : ∀ y, y < x + 60 → y ≠ x → Agr S5 S11 y := fun y hy hn => (A6 y (by omega) hn).tr (F6 y (by omega) hn)
  have F4 : ∀ y, y < x + 51 → y ≠ x → Agr S4 S11 y := fun y hy hn => (A5 y (by omega) hn).tr (F5 y (by omega) hn)
  have F3 : ∀ y, y < x + 42 → y ≠ x → Agr S3 S11 y := fun y hy hn => (A4 y (by omega) hn).tr (F4 y (by omega) hn)
  have F2 : ∀ y, y < x + 31 → y ≠ x → Agr S2 S11 y := fun y hy hn => (A3 y (by omega) hn).tr (F3 y (by omega) hn)
  have F1 : ∀ y, y < x + 3 → y ≠ x → Agr S1 S11 y := fun y hy hn => (A2 y (by omega) hn).tr (F2 y (by omega) hn)
  have W0 : tW S11 x 0 = some (x + 1) := by rw [w11, if_neg (by decide), w10, if_neg (by decide), w9, if_neg (by decide), w8, if_neg (by decide), w7, if_neg (by decide), w6, if_neg (by decide), w5, if_neg (by decide), w4, if_neg (by decide), w3, if_neg (by decide), w2, if_neg (by decide), w1, if_pos rfl]
  have W1 : tW S11 x 1 = some (x + 3) := by rw [w11, if_neg (by decide), w10, if_neg (by decide), w9, if_neg (by decide), w8, if_neg (by decide), w7, if_neg (by decide), w6, if_neg (by decide), w5, if_neg (by decide), w4, if_neg (by decide), w3, if_neg (by decide), w2, if_pos rfl]
  have W4 : tW S11 x 4 = some (x + 31) := by rw [w11, if_neg (by decide), w10, if_neg (by decide), w9, if_neg (by decide), w8, if_neg (by decide), w7, if_neg (by decide), w6, if_neg (by decide), w5, if_neg (by decide), w4, if_neg (by decide), w3, if_pos rfl]
  have W5 : tW S11 x 5 = some (x + 42) := by rw [w11, if_neg (by decide), w10, if_neg (by decide), w9, if_neg (by decide), w8, if_neg (by decide), w7, if_neg (by decide), w6, if_neg (by decide), w5, if_neg (by decide), w4, if_pos rfl]
  have W6 : tW S11 x 6 = some (x + 51) := by rw [w11, if_neg (by decide), w10, if_neg (by decide), w9, if_neg (by decide), w8, if_neg (by decide), w7, if_neg (by decide), w6, if_neg (by decide), w5, if_pos rfl]
  have W7 : tW S11 x 7 = some (x + 60) := by rw [w11, if_neg (by decide), w10, if_neg (by decide), w9, if_neg (by decide), w8, if_neg (by decide), w7, if_neg (by decide), w6, if_pos rfl]
  have W8 : tW S11 x 8 = some (x + 63) := by rw [w11, if_neg (by decide), w10, if_neg (by decide), w9, if_neg (by decide), w8, if_neg (by decide), w7, if_pos rfl]
  have W9 : tW S11 x 9 = some (x + 68) := by rw [w11, if_neg (by decide), w10, if_neg (by decide), w9, if_neg (by decide), w8, if_pos rfl]
  have W10 : tW S11 x 10 = some (x + 69) := by rw [w11, if_neg (by decide), w10, if_neg (by decide), w9, if_pos rfl]
  have W11 : tW S11 x 11 = some (x + 70) := by rw [w11, if_neg (by decide), w10, if_pos rfl]
  have W12 : tW S11 x 12 = some (x + 72) := by rw [w11, if_pos rfl]
  have G : ∀ i Q, (∀ y, y ≠ x → Agr Q (i : Tx) y) → ∀ Z, (∀ y, y < Z → y ≠ x → Agr i S11 y) → ∀ y, y < Z → y ≠ x → Agr Q S11 y := fun i Q h1 Z h2 y h3 h4 => (h1 y h4).tr (h2 y h3 h4)
  have G3 := G S3 Q3 B3 (x + 42) F3
  have G4 := G S4 Q4 B4 (x + 51) F4
  have G5 := G S5 Q5 B5 (x + 60) F5
  have G6 := G S6 Q6 B6 (x + 63) F6
  have G7 := G S7 Q7 B7 (x + 68) F7
  have G8 := G S8 Q8 B8 (x + 69) F8
  have G9 := G S9 Q9 B9 (x + 70) F9
  have RU : ∀ Q u Z, (∀ y, y < Z → y ≠ x → Agr Q S11 y) → x < u → u + 9 ≤ Z → RunAt Q u → RunAt S11 u := fun Q u Z hg hu hZ hr => hr.of (fun y h1 h2 => ⟨(hg y (by omega) (by omega)).1, (hg y (by omega) (by omega)).2.1⟩) (fun f _ => by rw [(hg u (by omega) (by omega)).2.2.1])
  refine ⟨S11, ?_, z11, fun y hy => (((A1 y (by omega) (by omega)).tr (F1 y (by omega) (by omega)))), ⟨k11, ⟨W0, r1.1.agr (F1 _ (by omega) (by omega))⟩, ⟨W4, (G3 _ (by omega) (by omega)).1.trans q3k, fun k hk => ⟨by rw [(G3 (x + 31) (by omega) (by omega)).2.2.1]; exact (q3r k hk).1, (q3r k hk).2.agr (G3 _ (by omega) (by omega))⟩⟩, ⟨W5, RU Q4 (x + 42) (x + 51) G4 (by omega) (by omega) q4R⟩, ⟨W6, RU Q5 (x + 51) (x + 60) G5 (by omega) (by omega) q5R⟩, ⟨W7, (G6 _ (by omega) (by omega)).1.trans q6k, by rw [(G6 (x + 60) (by omega) (by omega)).2.2.1]; exact q6w, q6r.agr (G6 _ (by omega) (by omega))⟩, ⟨W8, (G7 _ (by omega) (by omega)).1.trans q7k, by rw [(G7 (x + 63) (by omega) (by omega)).2.2.1]; exact q7w, q7r.agr (G7 _ (by omega) (by omega)), by rw [(G7 (x + 63) (by omega) (by omega)).2.2.1]; exact q7u, q7s.agr (G7 _ (by omega) (by omega))⟩, ⟨W9, (G8 _ (by omega) (by omega)).1.trans q8k⟩, ⟨W10, (G9 _ (by omega) (by omega)).1.trans q9k⟩, ⟨W11, r10.1.agr (F10 _ (by omega) (by omega))⟩, ⟨W12, r11.1⟩, by omega⟩, P2.agr (T' := S11) (by omega) (fun k hk => F2 _ (by omega) (by omega)), W1, v11, (F1 _ (by omega) (by omega)).2.2.2.2.1.trans r1.2, (G3 _ (by omega) (by omega)).2.2.2.2.1.trans q3b, (G4 _ (by omega) (by omega)).2.2.2.2.1.trans q4b, (G4 _ (by omega) (by omega)).2.2.2.2.1.trans q4c, ?_, (G8 _ (by omega) (by omega)).2.2.2.1.trans q8a, (G9 _ (by omega) (by omega)).2.2.2.1.trans q9a⟩
  · skip
    unfold h_11000
    rw [n301.2.1, n301.2.2.2.2.2.1, n301.2.2.2.2.2.2]
    rw [row_step (T := T) (me := x) hk (by omega), ← hS1]
    rw [bS_eq, z1, gd_e n2, q2e, bOv_some, gd_e (show tK Q2 x = 12 from (q2g x (by omega)).1.trans ((N2 x (by omega)).1.trans k1)), bS_eq, ← hS2]
    rw [bS_eq, z2, gd_e ((N3 x (by omega)).1.trans k2), show tW (tNew S2 6) x 1 = some (x + 3) by rw [(N3 x (by omega)).2.2.1]; exact e2, bP_some, gd_e n3, q3e, bOv_some, gd_e (show tK Q3 x = 12 from (q3g x (by omega)).1.trans ((N3 x (by omega)).1.trans k2)), bS_eq, ← hS3]
    rw [bS_eq, z3, gd_e n4, q4e, bOv_some, gd_e (show tK Q4 x = 12 from (q4g x (by omega)).1.trans ((N4 x (by omega)).1.trans k3)), bS_eq, ← hS4]
    rw [bS_eq, z4, gd_e n5, q5e, bOv_some, gd_e (show tK Q5 x = 12 from (q5g x (by omega)).1.trans ((N5 x (by omega)).1.trans k4)), bS_eq, ← hS5]
    rw [bS_eq, z5, gd_e ((N6 x (by omega)).1.trans k5), show tW (tNew S5 4) x 1 = some (x + 3) by rw [(N6 x (by omega)).2.2.1]; exact e5, bP_some, gd_e ((N6 x (by omega)).1.trans k5), show tW (tNew S5 4) x 6 = some (x + 51) by rw [(N6 x (by omega)).2.2.1]; exact f5, bP_some, gd_e n6, q6e, bOv_some, gd_e (show tK Q6 x = 12 from (q6g x (by omega)).1.trans ((N6 x (by omega)).1.trans k5)), bS_eq, ← hS6]
    rw [bS_eq, z6, gd_e ((N7 x (by omega)).1.trans k6), show tW (tNew S6 11) x 1 = some (x + 3) by rw [(N7 x (by omega)).2.2.1]; exact e6, bP_some, gd_e ((N7 x (by omega)).1.trans k6), show tW (tNew S6 11) x 6 = some (x + 51) by rw [(N7 x (by omega)).2.2.1]; exact f6, bP_some, gd_e n7, q7e, bOv_some, gd_e (show tK Q7 x = 12 from (q7g x (by omega)).1.trans ((N7 x (by omega)).1.trans k6)), bS_eq, ← hS7]
    rw [bS_eq, z7, gd_e n8, bS_eq, ← q8e, gd_e (show tK Q8 x = 12 from (q8g x (by omega)).1.trans ((N8 x (by omega)).1.trans k7)), bS_eq, ← hS8]
    rw [bS_eq, z8, gd_e n9, bS_eq, ← q9e, gd_e (show tK Q9 x = 12 from (q9g x (by omega)).1.trans ((N9 x (by omega)).1.trans k8)), bS_eq, ← hS9]
    rw [row_step (T := S9) (me := x) k9 (by omega), ← hS10]
    rw [row_step (T := S10) (me := x) k10 (by omega), ← hS11]
  · rw [(G4 (x + 42) (by omega) (by omega)).2.2.2.2.2, q4v]
    have : tV (tNew S3 8) (x + 42) = fun _ => 0 := by rw [← z3]; exact if_pos rfl
    rw [this]
theorem SInv.ini (hk : tK T x = 12) (hz : x + 1 = tZ T) (hV : ∀ f, tV T x f = 0) (hm : ∀ j k, m j k = 0) : ∃ T', h_11000 x T = some T' ∧ SINV x T' m ∧ ∀ y, y < x → Agr T T' y := by
  obtain ⟨T', e1, e2, e3, e4, e5, e6, e7, e8, e9, e10, e11, e12, e13, e14⟩ := h11000_e hk hz
  have V : ∀ f, tV T' x f = 0 := fun f => by rw [e7]; exact hV f
  refine ⟨T', e1, ⟨[], [], fun _ => [], [], fun _ => 0, fun _ => [], fun _ => (fun _ => [], fun _ => 0), x + 3, fun _ => 0, e4, ⟨⟨e8, by decide, fun c hc => absurd hc (List.not_mem_nil), hm _ _, fun k hk => absurd hk (Nat.not_lt_zero _)⟩, e6, e5, Or.inl rfl, Or.inl (V 2), Or.inl ⟨V 3, fun i hi => absurd hi (Nat.not_lt_zero _)⟩, by rw [e9]; decide⟩, ⟨by rw [e10]; decide, by rw [e10]; exact hm _ _, fun k hk => by rw [e10] at hk; exact absurd hk (Nat.not_lt_zero _), by rw [hm, e12], by rw [e11, List.length_replicate], fun k hk => ?_, by rw [hm, V], by rw [V]; exact ⟨by decide, by decide⟩⟩, ⟨hm _ _, by decide, e13, fun i hi => absurd hi (Nat.not_lt_zero _)⟩, ⟨hm _ _, by decide, e14, fun i hi => absurd hi (Nat.not_lt_zero _)⟩, fun i hi => absurd hi (Nat.not_lt_zero _), fun p hp h1 => ?_, fun i hi => absurd hi (Nat.not_lt_zero _), fun i hi => absurd hi (Nat.not_lt_zero _)⟩, e3⟩
  · rw [hm, e11, List.getD_eq_getElem?_getD, List.getElem?_replicate, if_pos hk]
    rfl
  · rcases hp with z | ⟨i, hi, _⟩
    · omega
    · exact absurd hi (Nat.not_lt_zero _)
end CTR
