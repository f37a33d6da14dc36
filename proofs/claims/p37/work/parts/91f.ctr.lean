/-! the school as it is made -/
section CTR
variable {T T' T2 : Tx} {x me p q : Nat} {m : Mx}
theorem n32 : (32 : Int32).toNatClampNeg = 32 ∧ (88 : Int32).toNatClampNeg = 88 ∧ (10 : Int32).toNatClampNeg = 10 ∧ (1650 : Int32).toNatClampNeg = 1650 := by decide
def rwR : List (Nat × Nat) := [(6, 8), (7, 8), (8, 150), (9, 150), (10, 150)]
def rwU : List (Nat × Nat) := [(0, 8), (1, 32), (2, 88), (3, 10)]
def rwM : List (Nat × Nat) := [(0, 1650)]
def rwK : List (Nat × Nat) := [(0, 1650), (1, 1650)]
theorem h5000_e (hk : tK T me = 6) (hz : me + 1 = tZ T) (hp : tK T p = 5) (hp' : p < me) (hw : tW T p 0 = some q) : ∃ T', h_5000 me p T = some T' ∧ tZ T' = me + 11 ∧ (∀ y, y < me → Agr T T' y) ∧ tK T' me = 6 ∧ (∀ k, k < 5 → tW T' me (6 + k) = some (me + 1 + 2 * k) ∧ RwAt T' (me + 1 + 2 * k) (ev_cap (13 + k))) ∧ tB T' (me + 3) = [] := by
  obtain ⟨T3, hT3⟩ : ∃ T3, T3 = rws me rwR T := ⟨_, rfl⟩
  have k : ∀ (l : List (Nat × Nat)), tK (rws me l T) me = 6 ∧ me < tZ (rws me l T) := fun l => k_rws hk (by omega)
  have z3 : tZ T3 = me + 11 := by rw [hT3, rws_Z, ← hz]; rfl
  have k3 : tK T3 me = 6 := by rw [hT3]; exact (k _).1
  have g3 : ∀ y, y < me → Agr T T3 y := fun y hy => by rw [hT3]; exact rws_o _ _ _ (by omega) (by omega)
  have r : ∀ i, i < 5 → tW T3 me (6 + i) = some (me + 1 + 2 * i) ∧ RwAt T3 (me + 1 + 2 * i) (ev_cap (13 + i)) ∧ tB T3 (me + 1 + 2 * i) = [] := fun i hi => by
    have := rws_i (me := me) rwR T (by omega) (by decide) i hi
    rw [← hT3, ← hz] at this
    have t1 : ∀ i, i < 5 → (rwR.getD i (0, 0)).1 = 6 + i ∧ (rwR.getD i (0, 0)).2 = ev_cap (13 + i) := by decide
    rw [(t1 i hi).1, (t1 i hi).2] at this
    exact this
  obtain ⟨T7, hT7⟩ : ∃ T7, T7 = tsW (tsW T3 me 0 (some p)) me 1 (some q) := ⟨_, rfl⟩
  have g7 : ∀ y, y ≠ me → Agr T3 T7 y := fun y hy => by rw [hT7]; exact (Agr.W hy).tr (Agr.W hy)
  refine ⟨T7, ?_, by rw [hT7]; exact z3, fun y hy => (g3 y hy).tr (g7 y (by omega)), by rw [hT7]; exact k3, fun i hi => ⟨?_, (r i hi).2.1.agr (g7 _ (by omega))⟩, (g7 (me + 3) (by omega)).2.2.2.2.1.trans (r 1 (by decide)).2.2⟩
  · unfold h_5000
    rw [n301.2.2.2.2.2.1, n301.2.2.1]
    rw [row_step (T := T) (k []).1 (k []).2]
    rw [row_step (T := (rowAt T me 6 8)) (k [(6, 8)]).1 (k [(6, 8)]).2]
    rw [row_step (T := (rowAt (rowAt T me 6 8) me 7 8)) (k [(6, 8), (7, 8)]).1 (k [(6, 8), (7, 8)]).2]
    rw [row_step (T := (rowAt (rowAt (rowAt T me 6 8) me 7 8) me 8 150)) (k [(6, 8), (7, 8), (8, 150)]).1 (k [(6, 8), (7, 8), (8, 150)]).2]
    rw [row_step (T := (rowAt (rowAt (rowAt (rowAt T me 6 8) me 7 8) me 8 150) me 9 150)) (k [(6, 8), (7, 8), (8, 150), (9, 150)]).1 (k [(6, 8), (7, 8), (8, 150), (9, 150)]).2]
    have e3 : rowAt (rowAt (rowAt (rowAt (rowAt T me 6 8) me 7 8) me 8 150) me 9 150) me 10 150 = T3 := hT3.symm
    have w3 : tW (tsW T3 me 0 (some p)) p 0 = some q := by rw [tW_n (Or.inl (by omega)), (g3 p hp').2.2.1]; exact hw
    rw [e3, gd_e k3, bS_eq, gd_e (show tK (tsW T3 me 0 (some p)) p = 5 from (g3 p hp').1.trans hp), w3, bP_some, gd_e (show tK (tsW T3 me 0 (some p)) me = 6 from k3), bS_eq, ← hT7]
  · rw [hT7, tW_n (Or.inr (by omega)), tW_n (Or.inr (by omega))]
    exact (r i hi).1
theorem h7000_e (hk : tK T me = 8) (hz : me + 1 = tZ T) : ∃ T', h_7000 me T = some T' ∧ tZ T' = me + 9 ∧ (∀ y, y < me → Agr T T' y) ∧ RunAt T' me ∧ tB T' (me + 1) = [] ∧ tB T' (me + 3) = List.replicate 32 0 ∧ tV T' me 4 = tV T me 4 := by
  obtain ⟨T3, hT3⟩ : ∃ T3, T3 = rws me rwU T := ⟨_, rfl⟩
  have k : ∀ (l : List (Nat × Nat)), tK (rws me l T) me = 8 ∧ me < tZ (rws me l T) := fun l => k_rws hk (by omega)
  have z3 : tZ T3 = me + 9 := by rw [hT3, rws_Z, ← hz]; rfl
  have k3 : tK T3 me = 8 := by rw [hT3]; exact (k _).1
  have v3 : tV T3 me = tV T me := by rw [hT3]; exact (rws_me (me := me) rwU T (by omega)).2.1
  have g3 : ∀ y, y < me → Agr T T3 y := fun y hy => by rw [hT3]; exact rws_o _ _ _ (by omega) (by omega)
  have r : ∀ i, i < 4 → tW T3 me i = some (me + 1 + 2 * i) ∧ RwAt T3 (me + 1 + 2 * i) (ev_cap (18 + i)) ∧ tB T3 (me + 1 + 2 * i) = [] := fun i hi => by
    have := rws_i (me := me) rwU T (by omega) (by decide) i hi
    rw [← hT3, ← hz] at this
    have t1 : ∀ i, i < 4 → (rwU.getD i (0, 0)).1 = i ∧ (rwU.getD i (0, 0)).2 = ev_cap (18 + i) := by decide
    rw [(t1 i hi).1, (t1 i hi).2] at this
    exact this
  have r1 := r 1 (by decide)
  have r2 := r 2 (by decide)
  have c1 : tC T3 (me + 3) = 32 := r1.2.1.2
  obtain ⟨T7, hT7⟩ : ∃ T7, T7 = tsB (tsB (tsV T3 me 8 0) (me + 3) (List.replicate 32 0)) (me + 5) (List.replicate (tC T3 (me + 5)) 0) := ⟨_, rfl⟩
  have K7 : ∀ y, tK T7 y = tK T3 y ∧ tW T7 y = tW T3 y ∧ tC T7 y = tC T3 y := fun y => by rw [hT7]; exact ⟨rfl, rfl, rfl⟩
  refine ⟨T7, ?_, by rw [hT7]; exact z3, fun y hy => (g3 y hy).tr ?_, ⟨(K7 me).1.trans k3, fun i hi => ⟨by rw [(K7 me).2.1]; exact (r i hi).1, (K7 _).1.trans (r i hi).2.1.1, (K7 _).2.2.trans (r i hi).2.1.2⟩⟩, ?_, ?_, ?_⟩
  · unfold h_7000
    rw [n301.2.2.2.2.2.1, n32.1, n32.2.1, n32.2.2.1]
    rw [row_step (T := T) (k []).1 (k []).2]
    rw [row_step (T := (rowAt T me 0 8)) (k [(0, 8)]).1 (k [(0, 8)]).2]
    rw [row_step (T := (rowAt (rowAt T me 0 8) me 1 32)) (k [(0, 8), (1, 32)]).1 (k [(0, 8), (1, 32)]).2]
    rw [row_step (T := (rowAt (rowAt (rowAt T me 0 8) me 1 32) me 2 88)) (k [(0, 8), (1, 32), (2, 88)]).1 (k [(0, 8), (1, 32), (2, 88)]).2]
    have e3 : rowAt (rowAt (rowAt (rowAt T me 0 8) me 1 32) me 2 88) me 3 10 = T3 := hT3.symm
    rw [e3, gd_e k3, bS_eq, gd_e (show tK (tsV T3 me 8 0) me = 8 from k3), show tW (tsV T3 me 8 0) me 1 = some (me + 3) from r1.1, bP_some, gd_e (show tK (tsV T3 me 8 0) (me + 3) = 7 from r1.2.1.1), show tC (tsV T3 me 8 0) (me + 3) = 32 from c1, bS_eq]
    rw [gd_e (show tK (tsB (tsV T3 me 8 0) (me + 3) (List.replicate 32 0)) me = 8 from k3), show tW (tsB (tsV T3 me 8 0) (me + 3) (List.replicate 32 0)) me 2 = some (me + 5) from r2.1, bP_some, gd_e (show tK (tsB (tsV T3 me 8 0) (me + 3) (List.replicate 32 0)) (me + 5) = 7 from r2.2.1.1), bS_eq, hT7]
    rfl
  · rw [hT7]
    exact ((Agr.V (by omega)).tr (Agr.B (by omega))).tr (Agr.B (by omega))
  · rw [hT7, tB_n (by omega), tB_n (by omega)]
    exact (r 0 (by decide)).2.2
  · rw [hT7, tB_n (by omega), tB_s]
  · rw [hT7]
    refine (tV_n (T := T3) (a := me) (f := 8) (v := 0) (Or.inr (by decide))).trans ?_
    rw [v3]
theorem h3000_e {a b : Nat} (hk : tK T me = 4) (hz : me + 1 = tZ T) : ∃ T', h_3000 me a b T = some T' ∧ tZ T' = me + 3 ∧ (∀ y, y < me → Agr T T' y) ∧ tK T' me = 4 ∧ tW T' me 0 = some (me + 1) ∧ RwAt T' (me + 1) 1650 := by
  obtain ⟨T3, hT3⟩ : ∃ T3, T3 = rws me rwM T := ⟨_, rfl⟩
  have k : ∀ (l : List (Nat × Nat)), tK (rws me l T) me = 4 ∧ me < tZ (rws me l T) := fun l => k_rws hk (by omega)
  have z3 : tZ T3 = me + 3 := by rw [hT3, rws_Z, ← hz]; rfl
  have k3 : tK T3 me = 4 := by rw [hT3]; exact (k _).1
  have g3 : ∀ y, y < me → Agr T T3 y := fun y hy => by rw [hT3]; exact rws_o _ _ _ (by omega) (by omega)
  have r := rws_i (me := me) rwM T (by omega) (by decide) 0 (by decide)
  rw [← hT3, ← hz] at r
  obtain ⟨T7, hT7⟩ : ∃ T7, T7 = tsW (tsW T3 me 1 (some a)) me 2 (some b) := ⟨_, rfl⟩
  have g7 : ∀ y, y ≠ me → Agr T3 T7 y := fun y hy => by rw [hT7]; exact (Agr.W hy).tr (Agr.W hy)
  refine ⟨T7, ?_, by rw [hT7]; exact z3, fun y hy => (g3 y hy).tr (g7 y (by omega)), by rw [hT7]; exact k3, ?_, r.2.1.agr (g7 _ (by omega))⟩
  · unfold h_3000
    rw [n32.2.2.2]
    rw [row_step (T := T) (k []).1 (k []).2]
    have e3 : rowAt T me 0 1650 = T3 := hT3.symm
    rw [e3, gd_e k3, bS_eq, gd_e (show tK (tsW T3 me 1 (some a)) me = 4 from k3), bS_eq, ← hT7]
  · rw [hT7, tW_n (Or.inr (by decide)), tW_n (Or.inr (by decide))]
    exact r.1
theorem h10000_e {b : Nat} (hk : tK T me = 11) (hz : me + 1 = tZ T) (hp : tK T p = 5) (hp' : p < me) (hw : tW T p 0 = some q) : ∃ T', h_10000 me p b T = some T' ∧ tZ T' = me + 5 ∧ (∀ y, y < me → Agr T T' y) ∧ tK T' me = 11 ∧ tW T' me 0 = some (me + 1) ∧ RwAt T' (me + 1) 1650 ∧ tW T' me 1 = some (me + 3) ∧ RwAt T' (me + 3) 1650 := by
  obtain ⟨T3, hT3⟩ : ∃ T3, T3 = rws me rwK T := ⟨_, rfl⟩
  have k : ∀ (l : List (Nat × Nat)), tK (rws me l T) me = 11 ∧ me < tZ (rws me l T) := fun l => k_rws hk (by omega)
  have z3 : tZ T3 = me + 5 := by rw [hT3, rws_Z, ← hz]; rfl
  have k3 : tK T3 me = 11 := by rw [hT3]; exact (k _).1
  have g3 : ∀ y, y < me → Agr T T3 y := fun y hy => by rw [hT3]; exact rws_o _ _ _ (by omega) (by omega)
  have r0 := rws_i (me := me) rwK T (by omega) (by decide) 0 (by decide)
  have r1 := rws_i (me := me) rwK T (by omega) (by decide) 1 (by decide)
  rw [← hT3, ← hz] at r0 r1
  obtain ⟨T7, hT7⟩ : ∃ T7, T7 = tsW (tsW (tsW T3 me 2 (some p)) me 3 (some q)) me 4 (some b) := ⟨_, rfl⟩
  have g7 : ∀ y, y ≠ me → Agr T3 T7 y := fun y hy => by rw [hT7]; exact ((Agr.W hy).tr (Agr.W hy)).tr (Agr.W hy)
  refine ⟨T7, ?_, by rw [hT7]; exact z3, fun y hy => (g3 y hy).tr (g7 y (by omega)), by rw [hT7]; exact k3, ?_, r0.2.1.agr (g7 _ (by omega)), ?_, r1.2.1.agr (g7 _ (by omega))⟩
  · unfold h_10000
    rw [n32.2.2.2]
    rw [row_step (T := T) (k []).1 (k []).2]
    rw [row_step (T := rowAt T me 0 1650) (k [(0, 1650)]).1 (k [(0, 1650)]).2]
    have e3 : rowAt (rowAt T me 0 1650) me 1 1650 = T3 := hT3.symm
    have w3 : tW (tsW T3 me 2 (some p)) p 0 = some q := by rw [tW_n (Or.inl (by omega)), (g3 p hp').2.2.1]; exact hw
    rw [e3, gd_e k3, bS_eq, gd_e (show tK (tsW T3 me 2 (some p)) p = 5 from (g3 p hp').1.trans hp), w3, bP_some, gd_e (show tK (tsW T3 me 2 (some p)) me = 11 from k3), bS_eq, gd_e (show tK (tsW (tsW T3 me 2 (some p)) me 3 (some q)) me = 11 from k3), bS_eq, ← hT7]
  · rw [hT7, tW_n (Or.inr (by decide)), tW_n (Or.inr (by decide)), tW_n (Or.inr (by decide))]
    exact r0.1
  · rw [hT7, tW_n (Or.inr (by decide)), tW_n (Or.inr (by decide)), tW_n (Or.inr (by decide))]
    exact r1.1
/-- a stage: a new thing is noted in x -/
theorem stg {k f : Nat} (hx : x < tZ T) (h2 : ∀ y, y < tZ T → Agr (tNew T k) T2 y) : (∀ y, y < tZ T → y ≠ x → Agr T (tsW T2 x f (some (tZ T))) y) ∧ tK (tsW T2 x f (some (tZ T))) x = tK T x ∧ tV (tsW T2 x f (some (tZ T))) x = tV T x ∧ (∀ g, tW (tsW T2 x f (some (tZ T))) x g = if g = f then some (tZ T) else tW T x g) ∧ ∀ y, y ≠ x → Agr T2 (tsW T2 x f (some (tZ T))) y := by
  have g : ∀ y, y < tZ T → Agr T T2 y := fun y hy => (Agr.N hy).tr (h2 y hy)
  refine ⟨fun y hy hn => (g y hy).tr (Agr.W hn), (g x hx).1, (g x hx).2.2.2.2.2, fun f' => ?_, fun y hy => Agr.W hy⟩
  by_cases e : f' = f
  · rw [if_pos e, e, tW_s]
  · rw [if_neg e, tW_n (Or.inr e), (g x hx).2.2.1]
/-- what a stage does to x: a new thing at Z is noted as its f -/
def Nx (S S' : Tx) (x Z Z' f : Nat) : Prop := tZ S' = Z' ∧ (∀ y, y < Z → y ≠ x → Agr S S' y) ∧ tK S' x = 12 ∧ tV S' x = tV S x ∧ ∀ g, tW S' x g = if g = f then some Z else tW S x g
theorem new_f {k Z : Nat} (hk : tK T x = 12) (hz : tZ T = Z) (hx : x < Z) : tK (tNew T k) Z = k ∧ tK (tNew T k) x = 12 ∧ ∀ g, tW (tNew T k) x g = tW T x g := by
  subst hz
  have h := Agr.N (T := T) (k := k) hx
  exact ⟨tK_new, h.1.trans hk, fun g => by rw [h.2.2.1]⟩
theorem stx {Q : Tx} {k f Z Z' : Nat} (hk : tK T x = 12) (hz : tZ T = Z) (hx : x < Z) (hQ : tZ Q = Z') (hg : ∀ y, y < Z → Agr (tNew T k) Q y) : tK Q x = 12 ∧ Nx T (tsW Q x f (some Z)) x Z Z' f ∧ ∀ y, y ≠ x → Agr Q (tsW Q x f (some Z)) y := by
  subst hz
  obtain ⟨a1, a2, a3, a4, a5⟩ := stg (T := T) (T2 := Q) (k := k) (f := f) hx hg
  exact ⟨(hg x hx).1.trans (new_f (k := k) hk rfl hx).2.1, ⟨hQ, a1, a2.trans hk, a3, a4⟩, a5⟩
theorem s_row {f n Z Z' : Nat} (hk : tK T x = 12) (hz : tZ T = Z) (hx : x < Z) (hZ : Z + 2 = Z') : Nx T (rowAt T x f n) x Z Z' f ∧ RwAt (rowAt T x f n) Z n ∧ tB (rowAt T x f n) Z = [] := by
  subst hz
  have h := rowAt_me (T := T) (me := x) (f := f) (n := n) hx
  refine ⟨⟨rowAt_Z.trans hZ, fun y hy hn => rowAt_o hy hn, h.1.trans hk, h.2.1, fun g => ?_⟩, rowAt_r hx⟩
  by_cases e : g = f
  · rw [if_pos e, e, h.2.2.1]
  · rw [if_neg e, h.2.2.2 g e]
theorem s_prg {f Z Z' : Nat} (hk : tK T x = 12) (hz : tZ T = Z) (hx : x < Z) (hZ : Z + 28 = Z') : ∃ Q, h_4000 Z (tNew T 5) = some Q ∧ tK Q x = 12 ∧ Nx T (tsW Q x f (some Z)) x Z Z' f ∧ PrgAt (tsW Q x f (some Z)) Z := by
  obtain ⟨n1, n2, n3⟩ := new_f (k := 5) hk hz hx
  obtain ⟨Q, q1, q2, q3, q4⟩ := h4000_e (T := tNew T 5) (me := Z) n1 (by show _ = tZ T + 1; omega)
  obtain ⟨a1, a2, a3⟩ := stx (f := f) hk hz hx (q3.trans hZ) q4
  exact ⟨Q, q1, a1, a2, q2.agr (T' := tsW Q x f (some Z)) (Nat.le_refl _) (fun k hk => a3 _ (by omega))⟩
theorem s_rdr {f Z Z' : Nat} (hk : tK T x = 12) (hz : tZ T = Z) (hx : x < Z) (hZ : Z + 11 = Z') (hp : tK T p = 5) (hp' : p < Z) (hw : tW T p 0 = some q) : ∃ Q, h_5000 Z p (tNew T 6) = some Q ∧ tK Q x = 12 ∧ Nx T (tsW Q x f (some Z)) x Z Z' f ∧ tK (tsW Q x f (some Z)) Z = 6 ∧ (∀ k, k < 5 → tW (tsW Q x f (some Z)) Z (6 + k) = some (Z + 1 + 2 * k) ∧ RwAt (tsW Q x f (some Z)) (Z + 1 + 2 * k) (ev_cap (13 + k))) ∧ tB (tsW Q x f (some Z)) (Z + 3) = [] := by
  obtain ⟨n1, n2, n3⟩ := new_f (k := 6) hk hz hx
  have hN := Agr.N (T := T) (k := 6) (show p < tZ T by omega)
  obtain ⟨Q, q1, q2, q3, q4, q5, q6⟩ := h5000_e (T := tNew T 6) (me := Z) (p := p) (q := q) n1 (by show _ = tZ T + 1; omega) (hN.1.trans hp) hp' (by rw [hN.2.2.1]; exact hw)
  obtain ⟨a1, a2, a3⟩ := stx (f := f) hk hz hx (q2.trans hZ) q3
  refine ⟨Q, q1, a1, a2, (a3 _ (by omega)).1.trans q4, fun k hk => ⟨?_, (q5 k hk).2.agr (a3 _ (by omega))⟩, (a3 _ (by omega)).2.2.2.2.1.trans q6⟩
  rw [(a3 Z (by omega)).2.2.1]
  exact (q5 k hk).1
theorem s_run {f Z Z' : Nat} (hk : tK T x = 12) (hz : tZ T = Z) (hx : x < Z) (hZ : Z + 9 = Z') : ∃ Q, h_7000 Z (tNew T 8) = some Q ∧ tK Q x = 12 ∧ Nx T (tsW Q x f (some Z)) x Z Z' f ∧ RunAt (tsW Q x f (some Z)) Z ∧ tB (tsW Q x f (some Z)) (Z + 1) = [] ∧ tB (tsW Q x f (some Z)) (Z + 3) = List.replicate 32 0 ∧ tV (tsW Q x f (some Z)) Z 4 = 0 := by
  obtain ⟨n1, n2, n3⟩ := new_f (k := 8) hk hz hx
  obtain ⟨Q, q1, q2, q3, q4, q5, q6, q7⟩ := h7000_e (T := tNew T 8) (me := Z) n1 (by show _ = tZ T + 1; omega)
  obtain ⟨a1, a2, a3⟩ := stx (f := f) hk hz hx (q2.trans hZ) q3
  refine ⟨Q, q1, a1, a2, q4.of (fun y h1 h2 => ⟨(a3 y (by omega)).1, (a3 y (by omega)).2.1⟩) (fun f _ => by rw [(a3 Z (by omega)).2.2.1]), (a3 _ (by omega)).2.2.2.2.1.trans q5, (a3 _ (by omega)).2.2.2.2.1.trans q6, ?_⟩
  rw [(a3 Z (by omega)).2.2.2.2.2, q7]
  have : tV (tNew T 8) Z = fun _ => 0 := by rw [← hz]; exact if_pos rfl
  rw [this]
theorem s_mac {f a b Z Z' : Nat} (hk : tK T x = 12) (hz : tZ T = Z) (hx : x < Z) (hZ : Z + 3 = Z') : ∃ Q, h_3000 Z a b (tNew T 4) = some Q ∧ tK Q x = 12 ∧ Nx T (tsW Q x f (some Z)) x Z Z' f ∧ tK (tsW Q x f (some Z)) Z = 4 ∧ tW (tsW Q x f (some Z)) Z 0 = some (Z + 1) ∧ RwAt (tsW Q x f (some Z)) (Z + 1) 1650 := by
  obtain ⟨n1, n2, n3⟩ := new_f (k := 4) hk hz hx
  obtain ⟨Q, q1, q2, q3, q4, q5, q6⟩ := h3000_e (T := tNew T 4) (me := Z) (a := a) (b := b) n1 (by show _ = tZ T + 1; omega)
  obtain ⟨a1, a2, a3⟩ := stx (f := f) hk hz hx (q2.trans hZ) q3
  refine ⟨Q, q1, a1, a2, (a3 _ (by omega)).1.trans q4, ?_, q6.agr (a3 _ (by omega))⟩
  rw [(a3 Z (by omega)).2.2.1]
  exact q5
theorem s_wlk {f b Z Z' : Nat} (hk : tK T x = 12) (hz : tZ T = Z) (hx : x < Z) (hZ : Z + 5 = Z') (hp : tK T p = 5) (hp' : p < Z) (hw : tW T p 0 = some q) : ∃ Q, h_10000 Z p b (tNew T 11) = some Q ∧ tK Q x = 12 ∧ Nx T (tsW Q x f (some Z)) x Z Z' f ∧ tK (tsW Q x f (some Z)) Z = 11 ∧ tW (tsW Q x f (some Z)) Z 0 = some (Z + 1) ∧ RwAt (tsW Q x f (some Z)) (Z + 1) 1650 ∧ tW (tsW Q x f (some Z)) Z 1 = some (Z + 3) ∧ RwAt (tsW Q x f (some Z)) (Z + 3) 1650 := by
  obtain ⟨n1, n2, n3⟩ := new_f (k := 11) hk hz hx
  have hN := Agr.N (T := T) (k := 11) (show p < tZ T by omega)
  obtain ⟨Q, q1, q2, q3, q4, q5, q6, q7, q8⟩ := h10000_e (T := tNew T 11) (me := Z) (p := p) (q := q) (b := b) n1 (by show _ = tZ T + 1; omega) (hN.1.trans hp) hp' (by rw [hN.2.2.1]; exact hw)
  obtain ⟨a1, a2, a3⟩ := stx (f := f) hk hz hx (q2.trans hZ) q3
  refine ⟨Q, q1, a1, a2, (a3 _ (by omega)).1.trans q4, ?_, q6.agr (a3 _ (by omega)), ?_, q8.agr (a3 _ (by omega))⟩
  · rw [(a3 Z (by omega)).2.2.1]
    exact q5
  · rw [(a3 Z (by omega)).2.2.1]
    exact q7
theorem s_lst {f Z Z' : Nat} (hk : tK T x = 12) (hz : tZ T = Z) (hx : x < Z) (hZ : Z + 1 = Z') : tK (tLst (tNew T 101) Z) x = 12 ∧ Nx T (tsW (tLst (tNew T 101) Z) x f (some Z)) x Z Z' f ∧ tK (tsW (tLst (tNew T 101) Z) x f (some Z)) Z = 1 ∧ tA (tsW (tLst (tNew T 101) Z) x f (some Z)) Z = [] := by
  obtain ⟨a1, a2, a3⟩ := stx (f := f) (Q := tLst (tNew T 101) Z) (Z' := Z') (k := 101) hk hz hx (show tZ T + 1 = Z' by omega) (fun y hy => Agr.L (by omega))
  exact ⟨a1, a2, (a3 Z (by omega)).1.trans (if_pos rfl), (a3 Z (by omega)).2.2.2.1.trans (if_pos rfl)⟩
/-- stages one after another -/
theorem Nx.ch {S S1 SE : Tx} {Z Z1 f a b : Nat} (h : Nx S S1 x Z Z1 f) (hE : ∀ y, y < b → y ≠ x → Agr S1 SE y) (hb : a ≤ b) (ha : a ≤ Z) : ∀ y, y < a → y ≠ x → Agr S SE y := fun y hy hn => (h.2.1 y (Nat.lt_of_lt_of_le hy ha) hn).tr (hE y (Nat.lt_of_lt_of_le hy hb) hn)
theorem pl {a b : Nat} (h : a ≤ b) : x + a ≤ x + b := Nat.add_le_add_left h x
theorem pt {a b : Nat} (h : a < b) : x + a < x + b := Nat.add_lt_add_left h x
theorem pn {a : Nat} (h : 0 < a) : x + a ≠ x := by omega
theorem l2 {k : Nat} (hk : k < 28) : x + 3 + k < x + 31 ∧ x + 3 + k ≠ x := by omega
theorem l3 {k : Nat} (hk : k < 5) : x + 31 + 1 + 2 * k < x + 42 ∧ x + 31 + 1 + 2 * k ≠ x := by omega
theorem run_E {Q SE : Tx} {u Z : Nat} (hg : ∀ y, y < Z → y ≠ x → Agr Q SE y) (hu : x < u) (hZ : u + 9 ≤ Z) (hr : RunAt Q u) : RunAt SE u := hr.of (fun y h1 h2 => ⟨(hg y (by omega) (by omega)).1, (hg y (by omega) (by omega)).2.1⟩) (fun f _ => by rw [(hg u (by omega) (by omega)).2.2.1])
theorem h11000_e (hk : tK T x = 12) (hz : x + 1 = tZ T) : ∃ T', h_11000 x T = some T' ∧ tZ T' = x + 74 ∧ (∀ y, y < x → Agr T T' y) ∧ Shp T' x ∧ PrgAt T' (x + 3) ∧ tW T' x 1 = some (x + 3) ∧ tV T' x = tV T x ∧ tB T' (x + 1) = [] ∧ tB T' (x + 34) = [] ∧ tB T' (x + 43) = [] ∧ tB T' (x + 45) = List.replicate 32 0 ∧ tV T' (x + 42) 4 = 0 ∧ tA T' (x + 68) = [] ∧ tA T' (x + 69) = [] := by
  have z0 : tZ T = x + 1 := hz.symm
  have s1 := s_row (T := T) (n := 300) hk z0 (pt (a := 0) (by decide)) (f := 0) (Z' := x + 3) rfl
  obtain ⟨S1, hS1⟩ : ∃ S, S = rowAt T x 0 300 := ⟨_, rfl⟩
  rw [← hS1] at s1
  obtain ⟨N1, r1, b1⟩ := s1
  have z1 := N1.1
  have k1 := N1.2.2.1
  obtain ⟨Q2, q2e, q2k, s2⟩ := s_prg (T := S1) k1 z1 (pt (a := 0) (by decide)) (f := 1) (Z' := x + 31) rfl
  obtain ⟨S2, hS2⟩ : ∃ S, S = tsW Q2 x 1 (some (x + 3)) := ⟨_, rfl⟩
  rw [← hS2] at s2
  obtain ⟨N2, P2⟩ := s2
  have z2 := N2.1
  have k2 := N2.2.2.1
  obtain ⟨Q3, q3e, q3k, s3⟩ := s_rdr (T := S2) (p := x + 3) (q := x + 4) k2 z2 (pt (a := 0) (by decide)) (f := 4) (Z' := x + 42) rfl P2.1 (pt (by decide)) P2.2.2.1
  obtain ⟨S3, hS3⟩ : ∃ S, S = tsW Q3 x 4 (some (x + 31)) := ⟨_, rfl⟩
  rw [← hS3] at s3
  obtain ⟨N3, o3, r3, b3⟩ := s3
  have z3 := N3.1
  have k3 := N3.2.2.1
  obtain ⟨Q4, q4e, q4k, s4⟩ := s_run (T := S3) k3 z3 (pt (a := 0) (by decide)) (f := 5) (Z' := x + 51) rfl
  obtain ⟨S4, hS4⟩ : ∃ S, S = tsW Q4 x 5 (some (x + 42)) := ⟨_, rfl⟩
  rw [← hS4] at s4
  obtain ⟨N4, R4, b4, c4, v44⟩ := s4
  have z4 := N4.1
  have k4 := N4.2.2.1
  obtain ⟨Q5, q5e, q5k, s5⟩ := s_run (T := S4) k4 z4 (pt (a := 0) (by decide)) (f := 6) (Z' := x + 60) rfl
  obtain ⟨S5, hS5⟩ : ∃ S, S = tsW Q5 x 6 (some (x + 51)) := ⟨_, rfl⟩
  rw [← hS5] at s5
  obtain ⟨N5, R5, b5, c5, v54⟩ := s5
  have z5 := N5.1
  have k5 := N5.2.2.1
  obtain ⟨Q6, q6e, q6k, s6⟩ := s_mac (T := S5) (a := x + 3) (b := x + 51) k5 z5 (pt (a := 0) (by decide)) (f := 7) (Z' := x + 63) rfl
  obtain ⟨S6, hS6⟩ : ∃ S, S = tsW Q6 x 7 (some (x + 60)) := ⟨_, rfl⟩
  rw [← hS6] at s6
  obtain ⟨N6, o6, w6, r6⟩ := s6
  have z6 := N6.1
  have k6 := N6.2.2.1
  have D5 := N6.2.1
  have D4 := N5.ch D5 (pl (a := 51) (b := 60) (by decide)) (Nat.le_refl _)
  have D3 := N4.ch D4 (pl (a := 42) (b := 51) (by decide)) (Nat.le_refl _)
  have D2 := N3.ch D3 (pl (a := 31) (b := 42) (by decide)) (Nat.le_refl _)
  obtain ⟨Q7, q7e, q7k, s7⟩ := s_wlk (T := S6) (p := x + 3) (q := x + 4) (b := x + 51) k6 z6 (pt (a := 0) (by decide)) (f := 8) (Z' := x + 68) rfl ((D2 _ (pt (by decide)) (pn (by decide))).1.trans P2.1) (pt (by decide)) (by rw [(D2 (x + 3) (pt (by decide)) (pn (by decide))).2.2.1]; exact P2.2.2.1)
  obtain ⟨S7, hS7⟩ : ∃ S, S = tsW Q7 x 8 (some (x + 63)) := ⟨_, rfl⟩
  rw [← hS7] at s7
  obtain ⟨N7, o7, w7, r7, u7, s7⟩ := s7
  have z7 := N7.1
  have k7 := N7.2.2.1
  have s8 := s_lst (T := S7) k7 z7 (pt (a := 0) (by decide)) (f := 9) (Z' := x + 69) rfl
  obtain ⟨S8, hS8⟩ : ∃ S, S = tsW (tLst (tNew S7 101) (x + 68)) x 9 (some (x + 68)) := ⟨_, rfl⟩
  rw [← hS8] at s8
  obtain ⟨q8k, N8, o8, a8⟩ := s8
  have z8 := N8.1
  have k8 := N8.2.2.1
  have s9 := s_lst (T := S8) k8 z8 (pt (a := 0) (by decide)) (f := 10) (Z' := x + 70) rfl
  obtain ⟨S9, hS9⟩ : ∃ S, S = tsW (tLst (tNew S8 101) (x + 69)) x 10 (some (x + 69)) := ⟨_, rfl⟩
  rw [← hS9] at s9
  obtain ⟨q9k, N9, o9, a9⟩ := s9
  have z9 := N9.1
  have k9 := N9.2.2.1
  have s10 := s_row (T := S9) (n := 30) k9 z9 (pt (a := 0) (by decide)) (f := 11) (Z' := x + 72) rfl
  obtain ⟨S10, hS10⟩ : ∃ S, S = rowAt S9 x 11 30 := ⟨_, rfl⟩
  rw [← hS10] at s10
  obtain ⟨N10, r10, b10⟩ := s10
  have z10 := N10.1
  have k10 := N10.2.2.1
  have s11 := s_row (T := S10) (n := 8) k10 z10 (pt (a := 0) (by decide)) (f := 12) (Z' := x + 74) rfl
  obtain ⟨S11, hS11⟩ : ∃ S, S = rowAt S10 x 12 8 := ⟨_, rfl⟩
  rw [← hS11] at s11
  obtain ⟨N11, r11, b11⟩ := s11
  have z11 := N11.1
  have k11 := N11.2.2.1
  have E10 := N11.2.1
  have E9 := N10.ch E10 (pl (a := 70) (b := 72) (by decide)) (Nat.le_refl _)
  have E8 := N9.ch E9 (pl (a := 69) (b := 70) (by decide)) (Nat.le_refl _)
  have E7 := N8.ch E8 (pl (a := 68) (b := 69) (by decide)) (Nat.le_refl _)
  have E6 := N7.ch E7 (pl (a := 63) (b := 68) (by decide)) (Nat.le_refl _)
  have E5 := N6.ch E6 (pl (a := 60) (b := 63) (by decide)) (Nat.le_refl _)
  have E4 := N5.ch E5 (pl (a := 51) (b := 60) (by decide)) (Nat.le_refl _)
  have E3 := N4.ch E4 (pl (a := 42) (b := 51) (by decide)) (Nat.le_refl _)
  have E2 := N3.ch E3 (pl (a := 31) (b := 42) (by decide)) (Nat.le_refl _)
  have E1 := N2.ch E2 (pl (a := 3) (b := 31) (by decide)) (Nat.le_refl _)
  have W0 : tW S11 x 0 = some (x + 1) := by rw [N11.2.2.2.2, if_neg (by decide), N10.2.2.2.2, if_neg (by decide), N9.2.2.2.2, if_neg (by decide), N8.2.2.2.2, if_neg (by decide), N7.2.2.2.2, if_neg (by decide), N6.2.2.2.2, if_neg (by decide), N5.2.2.2.2, if_neg (by decide), N4.2.2.2.2, if_neg (by decide), N3.2.2.2.2, if_neg (by decide), N2.2.2.2.2, if_neg (by decide), N1.2.2.2.2, if_pos rfl]
  have W1 : tW S11 x 1 = some (x + 3) := by rw [N11.2.2.2.2, if_neg (by decide), N10.2.2.2.2, if_neg (by decide), N9.2.2.2.2, if_neg (by decide), N8.2.2.2.2, if_neg (by decide), N7.2.2.2.2, if_neg (by decide), N6.2.2.2.2, if_neg (by decide), N5.2.2.2.2, if_neg (by decide), N4.2.2.2.2, if_neg (by decide), N3.2.2.2.2, if_neg (by decide), N2.2.2.2.2, if_pos rfl]
  have W4 : tW S11 x 4 = some (x + 31) := by rw [N11.2.2.2.2, if_neg (by decide), N10.2.2.2.2, if_neg (by decide), N9.2.2.2.2, if_neg (by decide), N8.2.2.2.2, if_neg (by decide), N7.2.2.2.2, if_neg (by decide), N6.2.2.2.2, if_neg (by decide), N5.2.2.2.2, if_neg (by decide), N4.2.2.2.2, if_neg (by decide), N3.2.2.2.2, if_pos rfl]
  have W5 : tW S11 x 5 = some (x + 42) := by rw [N11.2.2.2.2, if_neg (by decide), N10.2.2.2.2, if_neg (by decide), N9.2.2.2.2, if_neg (by decide), N8.2.2.2.2, if_neg (by decide), N7.2.2.2.2, if_neg (by decide), N6.2.2.2.2, if_neg (by decide), N5.2.2.2.2, if_neg (by decide), N4.2.2.2.2, if_pos rfl]
  have W6 : tW S11 x 6 = some (x + 51) := by rw [N11.2.2.2.2, if_neg (by decide), N10.2.2.2.2, if_neg (by decide), N9.2.2.2.2, if_neg (by decide), N8.2.2.2.2, if_neg (by decide), N7.2.2.2.2, if_neg (by decide), N6.2.2.2.2, if_neg (by decide), N5.2.2.2.2, if_pos rfl]
  have W7 : tW S11 x 7 = some (x + 60) := by rw [N11.2.2.2.2, if_neg (by decide), N10.2.2.2.2, if_neg (by decide), N9.2.2.2.2, if_neg (by decide), N8.2.2.2.2, if_neg (by decide), N7.2.2.2.2, if_neg (by decide), N6.2.2.2.2, if_pos rfl]
  have W8 : tW S11 x 8 = some (x + 63) := by rw [N11.2.2.2.2, if_neg (by decide), N10.2.2.2.2, if_neg (by decide), N9.2.2.2.2, if_neg (by decide), N8.2.2.2.2, if_neg (by decide), N7.2.2.2.2, if_pos rfl]
  have W9 : tW S11 x 9 = some (x + 68) := by rw [N11.2.2.2.2, if_neg (by decide), N10.2.2.2.2, if_neg (by decide), N9.2.2.2.2, if_neg (by decide), N8.2.2.2.2, if_pos rfl]
  have W10 : tW S11 x 10 = some (x + 69) := by rw [N11.2.2.2.2, if_neg (by decide), N10.2.2.2.2, if_neg (by decide), N9.2.2.2.2, if_pos rfl]
  have W11 : tW S11 x 11 = some (x + 70) := by rw [N11.2.2.2.2, if_neg (by decide), N10.2.2.2.2, if_pos rfl]
  have W12 : tW S11 x 12 = some (x + 72) := by rw [N11.2.2.2.2, if_pos rfl]
  have X2_1 : tW S2 x 1 = some (x + 3) := by rw [N2.2.2.2.2, if_pos rfl]
  have X5_1 : tW S5 x 1 = some (x + 3) := by rw [N5.2.2.2.2, if_neg (by decide), N4.2.2.2.2, if_neg (by decide), N3.2.2.2.2, if_neg (by decide), N2.2.2.2.2, if_pos rfl]
  have X5_6 : tW S5 x 6 = some (x + 51) := by rw [N5.2.2.2.2, if_pos rfl]
  have X6_1 : tW S6 x 1 = some (x + 3) := by rw [N6.2.2.2.2, if_neg (by decide), N5.2.2.2.2, if_neg (by decide), N4.2.2.2.2, if_neg (by decide), N3.2.2.2.2, if_neg (by decide), N2.2.2.2.2, if_pos rfl]
  have X6_6 : tW S6 x 6 = some (x + 51) := by rw [N6.2.2.2.2, if_neg (by decide), N5.2.2.2.2, if_pos rfl]
  refine ⟨S11, ?_, z11, fun y hy => ?_, ⟨k11, ⟨W0, r1.agr (E1 _ (pt (by decide)) (pn (by decide)))⟩, ⟨W4, (E3 (x + 31) (pt (by decide)) (pn (by decide))).1.trans o3, fun k hk => ⟨by rw [(E3 (x + 31) (pt (by decide)) (pn (by decide))).2.2.1]; exact (r3 k hk).1, (r3 k hk).2.agr (E3 _ (l3 hk).1 (l3 hk).2)⟩⟩, ⟨W5, run_E E4 (pt (a := 0) (by decide)) (Nat.le_refl _) R4⟩, ⟨W6, run_E E5 (pt (a := 0) (by decide)) (Nat.le_refl _) R5⟩, ⟨W7, (E6 (x + 60) (pt (by decide)) (pn (by decide))).1.trans o6, by rw [(E6 (x + 60) (pt (by decide)) (pn (by decide))).2.2.1]; exact w6, r6.agr (E6 (x + 61) (pt (by decide)) (pn (by decide)))⟩, ⟨W8, (E7 (x + 63) (pt (by decide)) (pn (by decide))).1.trans o7, by rw [(E7 (x + 63) (pt (by decide)) (pn (by decide))).2.2.1]; exact w7, r7.agr (E7 (x + 64) (pt (by decide)) (pn (by decide))), by rw [(E7 (x + 63) (pt (by decide)) (pn (by decide))).2.2.1]; exact u7, s7.agr (E7 (x + 66) (pt (by decide)) (pn (by decide)))⟩, ⟨W9, (E8 (x + 68) (pt (by decide)) (pn (by decide))).1.trans o8⟩, ⟨W10, (E9 (x + 69) (pt (by decide)) (pn (by decide))).1.trans o9⟩, ⟨W11, r10.agr (E10 _ (pt (by decide)) (pn (by decide)))⟩, ⟨W12, r11⟩, by rw [z11]; exact Nat.le_refl _⟩, P2.agr (T' := S11) (by rw [z2, z11]; exact pl (by decide)) (fun k hk => E2 _ (l2 hk).1 (l2 hk).2), W1, ((((((((((N11.2.2.2.1.trans N10.2.2.2.1).trans N9.2.2.2.1).trans N8.2.2.2.1).trans N7.2.2.2.1).trans N6.2.2.2.1).trans N5.2.2.2.1).trans N4.2.2.2.1).trans N3.2.2.2.1).trans N2.2.2.2.1).trans N1.2.2.2.1), (E1 (x + 1) (pt (by decide)) (pn (by decide))).2.2.2.2.1.trans b1, (E3 (x + 34) (pt (by decide)) (pn (by decide))).2.2.2.2.1.trans b3, (E4 (x + 43) (pt (by decide)) (pn (by decide))).2.2.2.2.1.trans b4, (E4 (x + 45) (pt (by decide)) (pn (by decide))).2.2.2.2.1.trans c4, by rw [(E4 (x + 42) (pt (by decide)) (pn (by decide))).2.2.2.2.2]; exact v44, (E8 (x + 68) (pt (by decide)) (pn (by decide))).2.2.2.1.trans a8, (E9 (x + 69) (pt (by decide)) (pn (by decide))).2.2.2.1.trans a9⟩
  · have m2 := new_f (k := 5) k1 z1 (pt (a := 0) (by decide))
    have m3 := new_f (k := 6) k2 z2 (pt (a := 0) (by decide))
    have m4 := new_f (k := 8) k3 z3 (pt (a := 0) (by decide))
    have m5 := new_f (k := 8) k4 z4 (pt (a := 0) (by decide))
    have m6 := new_f (k := 4) k5 z5 (pt (a := 0) (by decide))
    have m7 := new_f (k := 11) k6 z6 (pt (a := 0) (by decide))
    have m8 := new_f (k := 101) k7 z7 (pt (a := 0) (by decide))
    have m9 := new_f (k := 101) k8 z8 (pt (a := 0) (by decide))
    unfold h_11000
    rw [n301.2.1, n301.2.2.2.2.2.1, n301.2.2.2.2.2.2]
    rw [row_step (T := T) (me := x) hk (by rw [z0]; exact pt (a := 0) (by decide)), ← hS1]
    rw [bS_eq, z1, gd_e m2.1, q2e, bOv_some, gd_e q2k, bS_eq, ← hS2]
    rw [bS_eq, z2, gd_e m3.2.1, (m3.2.2 1).trans X2_1, bP_some, gd_e m3.1, q3e, bOv_some, gd_e q3k, bS_eq, ← hS3]
    rw [bS_eq, z3, gd_e m4.1, q4e, bOv_some, gd_e q4k, bS_eq, ← hS4]
    rw [bS_eq, z4, gd_e m5.1, q5e, bOv_some, gd_e q5k, bS_eq, ← hS5]
    rw [bS_eq, z5, gd_e m6.2.1, (m6.2.2 1).trans X5_1, bP_some, gd_e m6.2.1, (m6.2.2 6).trans X5_6, bP_some, gd_e m6.1, q6e, bOv_some, gd_e q6k, bS_eq, ← hS6]
    rw [bS_eq, z6, gd_e m7.2.1, (m7.2.2 1).trans X6_1, bP_some, gd_e m7.2.1, (m7.2.2 6).trans X6_6, bP_some, gd_e m7.1, q7e, bOv_some, gd_e q7k, bS_eq, ← hS7]
    rw [bS_eq, z7, gd_e m8.1, bS_eq, gd_e q8k, bS_eq, ← hS8]
    rw [bS_eq, z8, gd_e m9.1, bS_eq, gd_e q9k, bS_eq, ← hS9]
    rw [row_step (T := S9) (me := x) k9 (by rw [z9]; exact pt (a := 0) (by decide)), ← hS10]
    rw [row_step (T := S10) (me := x) k10 (by rw [z10]; exact pt (a := 0) (by decide)), ← hS11]
  · exact (N1.2.1 y (Nat.lt_succ_of_lt hy) (Nat.ne_of_lt hy)).tr (E1 y (Nat.lt_add_right 3 hy) (Nat.ne_of_lt hy))
theorem SInv.ini (hk : tK T x = 12) (hz : x + 1 = tZ T) (hV : ∀ f, tV T x f = 0) (hm : ∀ j k, m j k = 0) : ∃ T', h_11000 x T = some T' ∧ SINV x T' m ∧ ∀ y, y < x → Agr T T' y := by
  obtain ⟨T', e1, e2, e3, e4, e5, e6, e7, e8, e9, e10, e11, e12, e13, e14⟩ := h11000_e hk hz
  have V : ∀ f, tV T' x f = 0 := fun f => by rw [e7]; exact hV f
  refine ⟨T', e1, ⟨[], [], fun _ => [], [], fun _ => 0, fun _ => [], fun _ => (fun _ => [], fun _ => 0), x + 3, fun _ => 0, e4, ⟨⟨e8, by decide, fun c hc => absurd hc (List.not_mem_nil), hm _ _, fun k hk => absurd hk (Nat.not_lt_zero _)⟩, e6, e5, Or.inl rfl, Or.inl (V 2), Or.inl ⟨V 3, fun i hi => absurd hi (Nat.not_lt_zero _)⟩, by rw [e9]; decide⟩, ⟨by rw [e10]; decide, by rw [e10]; exact hm _ _, fun k hk => by rw [e10] at hk; exact absurd hk (Nat.not_lt_zero _), by rw [hm, e12], by rw [e11, List.length_replicate], fun k hk => ?_, by rw [hm, V], by rw [V]; exact ⟨by decide, by decide⟩⟩, ⟨hm _ _, by decide, e13, fun i hi => absurd hi (Nat.not_lt_zero _)⟩, ⟨hm _ _, by decide, e14, fun i hi => absurd hi (Nat.not_lt_zero _)⟩, fun i hi => absurd hi (Nat.not_lt_zero _), fun p hp h1 => ?_, fun i hi => absurd hi (Nat.not_lt_zero _), fun i hi => absurd hi (Nat.not_lt_zero _)⟩, e3⟩
  · rw [hm, e11, List.getD_eq_getElem?_getD, List.getElem?_replicate, if_pos hk]
    rfl
  · rcases hp with z | ⟨i, hi, _⟩
    · omega
    · exact absurd hi (Nat.not_lt_zero _)
end CTR
