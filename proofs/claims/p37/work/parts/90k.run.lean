/-! the school: runs, told by the reference -/
section RN3
variable {s s' : Sx} {m : Mx} {x y : Int32} {i c d f : Nat}
theorem PgC.of (h : PgC s i c d) (e : ∀ k, k < 13 → s'.1 k = s.1 k) : PgC s' i c d := by
  unfold PgC Dl Qf rw4 at h ⊢
  rw [e 0 (by decide), e 1 (by decide), e 7 (by decide), e 8 (by decide), e 9 (by decide), e 10 (by decide), e 11 (by decide), e 12 (by decide)]
  exact h
theorem PgM.of (h : PgM s i c d m) (e : ∀ k, k < 13 → s'.1 k = s.1 k) : PgM s' i c d m := by
  unfold PgM rw4 at h ⊢
  rw [e 0 (by decide), e 5 (by decide), e 6 (by decide), e 7 (by decide), e 8 (by decide), e 10 (by decide), e 12 (by decide)]
  exact h
/-- what a run leaves in the class -/
def RunX (s : Sx) (O C : List Int32) (f' : Nat) (e : Int32) (r : Sx) : Prop := r.1 18 = O ∧ r.1 19 = C ∧ r.2 6 = nI f' ∧ r.2 10 = e ∧ (∀ k, k < 18 ∨ 24 < k → r.1 k = s.1 k) ∧ ∀ w, w < 6 ∨ 13 < w → r.2 w = s.2 w
/-- what a run leaves in the reference -/
def RunM (m : Mx) (O C : List Int32) (f' : Nat) (e : Int32) (r : Mx) : Prop := r 0 50 = e ∧ r 0 57 = nI O.length ∧ r 0 49 = nI f' ∧ (∀ k, k < O.length → r 33 k = O.getD k 0) ∧ (∀ k, k < 32 → r 34 k = C.getD k 0) ∧ (∀ j, j ≠ 0 → j < 30 ∨ 34 < j → r j = m j) ∧ ∀ g, g ≠ 49 → g ≠ 50 → g ≠ 51 → g ≠ 52 → g ≠ 53 → g ≠ 57 → r 0 g = m 0 g
theorem cS_x {O C V b vm vw wt : List Int32} {f' : Nat} {t e p w u : Int32} : RunX s O C f' e (cS s O C V b vm vw wt (nI f') x y t e p w u) := by
  refine ⟨rfl, rfl, rfl, rfl, fun k hk => ?_, fun k hk => ?_⟩
  · show (if k = 18 then O else if k = 19 then C else if k = 20 then V else if k = 21 then b else if k = 22 then vm else if k = 23 then vw else if k = 24 then wt else s.1 k) = _
    rw [if_neg (by omega), if_neg (by omega), if_neg (by omega), if_neg (by omega), if_neg (by omega), if_neg (by omega), if_neg (by omega)]
  · show (if k = 6 then nI f' else if k = 7 then x else if k = 8 then y else if k = 9 then t else if k = 10 then e else if k = 11 then p else if k = 12 then w else if k = 13 then u else s.2 k) = _
    rw [if_neg (by omega), if_neg (by omega), if_neg (by omega), if_neg (by omega), if_neg (by omega), if_neg (by omega), if_neg (by omega), if_neg (by omega)]
theorem rS_m {A : Nat → Nat → Int32} {O C : List Int32} {f' : Nat} {e t D h : Int32} (h1 : ∀ k, k < O.length → A 33 k = O.getD k 0) (h2 : ∀ k, k < 32 → A 34 k = C.getD k 0) : RunM m O C f' e (rS m A (nI f') e t D h (nI O.length)) := by
  refine ⟨rfl, rfl, rfl, fun k hk => h1 k hk, fun k hk => h2 k hk, fun j h0 hj => ?_, fun g g1 g2 g3 g4 g5 g6 => ?_⟩
  · funext v
    show (if j = 0 then _ else if 30 ≤ j ∧ j ≤ 34 then A j v else m j v) = _
    rw [if_neg h0, if_neg (by omega)]
  · show (if g = 49 then nI f' else if g = 50 then e else if g = 51 then t else if g = 52 then D else if g = 53 then h else if g = 57 then nI O.length else m 0 g) = _
    rw [if_neg g1, if_neg g2, if_neg g3, if_neg g4, if_neg g5, if_neg g6]
theorem Fin3.go {rW rM : Sx} {rR : Mx} (h : Fin3 s m x y rW rM rR) : ∃ (O C : List Int32) (f' : Nat) (e : Int32), e ≠ -1 ∧ O.length ≤ 8 ∧ C.length = 32 ∧ f' ≤ 5000 ∧ RunX s O C f' e rW ∧ RunX s O C f' e rM ∧ RunM m O C f' e rR := by
  obtain ⟨O, C, f', e, a1, a2, a3, a4, ⟨V, b, v, w, t, i, u, a5⟩, ⟨V', b', v', t', p', a6⟩, A, t'', D, h', a7, a8, a9⟩ := h
  exact ⟨O, C, f', e, a1, a2, a3, a4, by rw [a5]; exact cS_x, by rw [a6]; exact cS_x, by rw [a7]; exact rS_m a8 a9⟩
theorem l_ext {a b : List Int32} (h : a.length = b.length) (h' : ∀ k, k < a.length → a.getD k 0 = b.getD k 0) : a = b := by
  refine List.ext_getElem h (fun k h1 h2 => ?_)
  have := h' k h1
  rw [List.getD_eq_getElem?_getD, List.getD_eq_getElem?_getD, List.getElem?_eq_getElem h1, List.getElem?_eq_getElem h2] at this
  exact this
/-- the same program anywhere in the class runs as the reference does -/
theorem run3 (hf : f ≤ 5000) (hC : PgC s i c d) (hM : PgM s i c d m) : ∃ (O C : List Int32) (f' : Nat) (e : Int32) (rR : Mx), e ≠ -1 ∧ O.length ≤ 8 ∧ C.length = 32 ∧ f' ≤ 5000 ∧ f_12070 (nI f) x y m = some rR ∧ RunM m O C f' e rR ∧
    ∀ s' : Sx, (∀ k, k < 13 → s'.1 k = s.1 k) → ∃ rW rM, f_10001 (nI f) x y s' = some rW ∧ f_3001 (nI f) x y s' = some rM ∧ RunX s' O C f' e rW ∧ RunX s' O C f' e rM := by
  obtain ⟨rW, rM, rR, g1, g2, g3, g4⟩ := run_all (x := x) (y := y) hf hC hM
  obtain ⟨O, C, f', e, h1, h2, h3, h4, h5, h6, h7⟩ := g4.go
  refine ⟨O, C, f', e, rR, h1, h2, h3, h4, g3, h7, fun s' hs => ?_⟩
  obtain ⟨rW', rM', rR', k1, k2, k3, k4⟩ := run_all (x := x) (y := y) hf (hC.of hs) (hM.of hs)
  obtain ⟨O', C', f'', e', l1, l2, l3, l4, l5, l6, l7⟩ := k4.go
  rw [g3] at k3
  cases k3
  have eL : O'.length = O.length := by
    have := l7.2.1.symm.trans h7.2.1
    rw [nI_eq (by omega) (by omega)] at this
    exact this
  have eO : O' = O := l_ext eL (fun k hk => (l7.2.2.2.1 k hk).symm.trans (h7.2.2.2.1 k (by omega)))
  have eC : C' = C := l_ext (by omega) (fun k hk => (l7.2.2.2.2.1 k (by omega)).symm.trans (h7.2.2.2.2.1 k (by omega)))
  have ef : f'' = f' := by
    have := l7.2.2.1.symm.trans h7.2.2.1
    rw [nI_eq (by omega) (by omega)] at this
    exact this
  have ee : e' = e := l7.1.symm.trans h7.1
  rw [eO, eC, ef, ee] at l5 l6
  exact ⟨rW', rM', k1, k2, l5, l6⟩
theorem RunM.ms {O C : List Int32} {f' : Nat} {e : Int32} {r : Mx} (h : RunM m O C f' e r) : MSm m r := by
  refine ⟨fun j h0 hj => h.2.2.2.2.2.1 j h0 (by omega), fun g hg => h.2.2.2.2.2.2 g (by omega) (by omega) (by omega) (by omega) (by omega) (by omega)⟩
end RN3
/-! the school: the engine runs -/
section ENR
variable {T T' : Tx} {x p : Nat} {v : Bool} {s : Sx} {O C : List Int32} {f f' : Nat} {e a b : Int32}
/-- what a run changes in the heap -/
def RunT (T T' : Tx) (x : Nat) (v : Bool) (O C : List Int32) (f' : Nat) (e : Int32) : Prop :=
  Shp T' x ∧ tB T' (x + egU v + 1) = O ∧ tB T' (x + egU v + 3) = C ∧ tV T' (x + egU v) 4 = nI f' ∧ tV T' (x + egU v) 8 = e ∧ tZ T' = tZ T ∧ (∀ a, ¬ (x + egU v ≤ a ∧ a < x + egU v + 9) → ¬ (x + 60 ≤ a ∧ a < x + 68) → Agr T T' a) ∧ ∀ a, tK T' a = tK T a ∧ (tK T a = 7 → tC T' a = tC T a)
theorem en_emb {T1 : Tx} {rM : Sx} (hS : Shp T x) (hP : PrgAt T p) (hp : p = x + 3 ∨ x + 74 ≤ p) (hS1 : Shp T1 x) (hP1 : PrgAt T1 p) (hB : tB T1 = tB T) (hV : tV T1 = tV T) (hA : tA T1 = tA T) (hK : tK T1 = tK T) (hC' : tC T1 = tC T) (hZ : tZ T1 = tZ T) (hW : ∀ a, ¬ (x + 60 ≤ a ∧ a < x + 68) → tW T1 a = tW T a) (hr : RunX (pj T x p v) O C f' e rM) : RunT T (emb T1 x p (x + egU v) rM) x v O C f' e := by
  have hpj : pj T1 x p v = pj T x p v := by unfold pj; rw [hB, hV]
  have tabR : ∀ v : Bool, ∀ k, k < 26 → ¬ (k < 18 ∨ 24 < k) → egP (6 + k) = false ∧ (egU v ≤ egO v (6 + k) ∧ egO v (6 + k) < egU v + 9 ∨ 60 ≤ egO v (6 + k) ∧ egO v (6 + k) < 68) := by decide
  have tabO : ∀ v : Bool, ∀ w, w < 14 → ¬ (w < 6 ∨ 13 < w) → egP (ev_ob w) = false ∧ (egU v ≤ egO v (ev_ob w) ∧ egO v (ev_ob w) < egU v + 9 ∨ 60 ≤ egO v (ev_ob w) ∧ egO v (ev_ob w) < 68) := by decide
  obtain ⟨r1, r2, r3, r4, r5, r6⟩ := hr
  have q18 : egA x p v (6 + 18) = x + egU v + 1 := by cases v <;> rfl
  have q19 : egA x p v (6 + 19) = x + egU v + 3 := by cases v <;> rfl
  have q6 : egA x p v (ev_ob 6) = x + egU v := by cases v <;> rfl
  have q10 : egA x p v (ev_ob 10) = x + egU v := by cases v <;> rfl
  refine ⟨hS1, ?_, ?_, ?_, ?_, hZ, fun a h1 h2 => ⟨congrFun hK a, fun _ => congrFun hC' a, hW a h2, congrFun hA a, ?_, funext fun g => ?_⟩, fun a => ⟨congrFun hK a, fun _ => congrFun hC' a⟩⟩
  · rw [← q18, emb_r hS1 hP1 hp (by decide), r1]
  · rw [← q19, emb_r hS1 hP1 hp (by decide), r2]
  · have := emb_i (v := v) (s := rM) (w := 6) hS1 hP1 hp (by decide)
    rw [q6] at this
    exact this.trans r3
  · have := emb_i (v := v) (s := rM) (w := 10) hS1 hP1 hp (by decide)
    rw [q10] at this
    exact this.trans r4
  · rw [emb_same hS1 hP1 hp (fun k hk eq => ?_), hB]
    rw [hpj]
    by_cases c : k < 18 ∨ 24 < k
    · exact r5 k c
    · exfalso
      obtain ⟨c1, c2⟩ := tabR v k hk c
      unfold egA at eq
      rw [if_pos (by omega), c1, if_neg (by decide)] at eq
      omega
  · rw [emb_samei hS1 hP1 hp (fun w hw eq _ => ?_), hV]
    rw [hpj]
    by_cases c : w < 6 ∨ 13 < w
    · exact r6 w c
    · exfalso
      obtain ⟨c1, c2⟩ := tabO v w hw c
      unfold egA at eq
      rw [if_pos (by have := ev_ob6 w; omega), c1, if_neg (by decide)] at eq
      omega
theorem en_m (hS : Shp T x) (hP : PrgAt T p) (hp : p = x + 3 ∨ x + 74 ≤ p) {rM : Sx} (h1 : f_3001 (nI f) a b (pj T x p v) = some rM) (h2 : RunX (pj T x p v) O C f' e rM) : ∃ T', h_3001 x (x + 60) p (x + egU v) (nI f) a b T = some T' ∧ RunT T T' x v O C f' e := by
  obtain ⟨T1, hT1⟩ : ∃ T1, T1 = tsW (tsW T (x + 60) 1 (some p)) (x + 60) 2 (some (x + egU v)) := ⟨_, rfl⟩
  have o1 : ∀ a, a ≠ x + 60 → tW T1 a = tW T a := fun a ha => by
    rw [hT1]
    exact (u2_n _ _ _ ha).trans (u2_n _ _ _ ha)
  have hS1 : Shp T1 x := hS.of (fun a _ _ => by rw [hT1]; exact ⟨rfl, fun _ => rfl⟩) (fun a g h1 h2 h3 h4 h5 h6 => by
    by_cases e : a = x + 60
    · rw [e, hT1, tW_n (Or.inr (by omega)), tW_n (Or.inr (by omega))]
    · rw [o1 a e]) (by rw [hT1]; exact Nat.le_refl _)
  have hP1 : PrgAt T1 p := hP.of (fun a _ _ => by rw [hT1]; exact ⟨rfl, fun _ => rfl⟩) (fun a g h1 h2 => by rw [o1 a (by omega)]) (by rw [hT1]; exact Nat.le_refl _)
  refine ⟨emb T1 x p (x + egU v) rM, ?_, en_emb hS hP hp hS1 hP1 (by rw [hT1]; rfl) (by rw [hT1]; rfl) (by rw [hT1]; rfl) (by rw [hT1]; rfl) (by rw [hT1]; rfl) (by rw [hT1]; rfl) (fun a ha => o1 a (by omega)) h2⟩
  have hpj : pj T1 x p v = pj T x p v := by rw [hT1]; rfl
  unfold h_3001
  rw [bS_eq, ← hT1, gdc_e ⟨eng_ok hS1 hP1 hp v rfl, hS1.2.2.2.2.2.1.1, hS.2.2.2.2.2.1.2.1⟩, proj_e hS1 hP1, hpj, h1, bOv_some]
theorem en_w (hS : Shp T x) (hP : PrgAt T p) (hp : p = x + 3 ∨ x + 74 ≤ p) {rM : Sx} (h1 : f_10001 (nI f) a b (pj T x p v) = some rM) (h2 : RunX (pj T x p v) O C f' e rM) : ∃ T', h_10001 x (x + 63) p (x + egU v) (nI f) a b T = some T' ∧ RunT T T' x v O C f' e := by
  obtain ⟨T1, hT1⟩ : ∃ T1, T1 = tsW (tsW (tsW T (x + 63) 2 (some p)) (x + 63) 3 (some (p + 1))) (x + 63) 4 (some (x + egU v)) := ⟨_, rfl⟩
  have o1 : ∀ a, a ≠ x + 63 → tW T1 a = tW T a := fun a ha => by
    rw [hT1]
    exact (u2_n _ _ _ ha).trans ((u2_n _ _ _ ha).trans (u2_n _ _ _ ha))
  have hS1 : Shp T1 x := hS.of (fun a _ _ => by rw [hT1]; exact ⟨rfl, fun _ => rfl⟩) (fun a g h1 h2 h3 h4 h5 h6 => by
    by_cases e : a = x + 63
    · rw [e, hT1, tW_n (Or.inr (by omega)), tW_n (Or.inr (by omega)), tW_n (Or.inr (by omega))]
    · rw [o1 a e]) (by rw [hT1]; exact Nat.le_refl _)
  have hP1 : PrgAt T1 p := hP.of (fun a _ _ => by rw [hT1]; exact ⟨rfl, fun _ => rfl⟩) (fun a g h1 h2 => by rw [o1 a (by omega)]) (by rw [hT1]; exact Nat.le_refl _)
  refine ⟨emb T1 x p (x + egU v) rM, ?_, en_emb hS hP hp hS1 hP1 (by rw [hT1]; rfl) (by rw [hT1]; rfl) (by rw [hT1]; rfl) (by rw [hT1]; rfl) (by rw [hT1]; rfl) (by rw [hT1]; rfl) (fun a ha => o1 a (by omega)) h2⟩
  have hpj : pj T1 x p v = pj T x p v := by rw [hT1]; rfl
  unfold h_10001
  rw [hP.2.2.1, bP_some, bS_eq, ← hT1, gdc_e ⟨eng_ok hS1 hP1 hp v rfl, hS1.2.2.2.2.2.2.1.1, hP1.2.2.1, hS.2.2.2.2.2.2.1.2.1⟩, proj_e hS1 hP1, hpj, h1, bOv_some]
theorem PrgIs.pj (h : PrgIs T p s) : ∀ k, k < 13 → (pj T x p v).1 k = s.1 k := fun k hk => (pj_prg hk).trans (h.1 k hk)
end ENR
