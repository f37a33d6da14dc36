/-! the school: calls into the engine, written out -/
section PJX
variable {T T' : Tx} {x p : Nat} {v : Bool} {s : Sx}
/-- where the engine's things lie -/
def egA (x p : Nat) (v : Bool) (i : Nat) : Nat := if i < 32 then (if egP i then p else x) + egO v i else 0
theorem run_at (hS : Shp T x) : RunAt T (x + egU v) := by
  cases v
  · exact hS.2.2.2.2.1.2
  · exact hS.2.2.2.1.2
theorem eg_A (hS : Shp T x) (hP : PrgAt T p) (i : Nat) : eg T x p (x + egU v) i = egA x p v i := by
  unfold egA
  by_cases h : i < 32
  · rw [if_pos h, eg_o hS hP v rfl (run_at hS) i h]
  · rw [if_neg h]
    obtain ⟨n, rfl⟩ : ∃ n, i = n + 32 := ⟨i - 32, by omega⟩
    rfl
def pj (T : Tx) (x p : Nat) (v : Bool) : Sx := (fun k => tB T (egA x p v (6 + k)), fun w => tV T (egA x p v (ev_ob w)) (ev_fl w))
theorem proj_e (hS : Shp T x) (hP : PrgAt T p) : proj T x p (x + egU v) = pj T x p v := by
  unfold proj pj
  refine Prod.ext (funext fun k => ?_) (funext fun w => ?_)
  · show tB T (eg T x p (x + egU v) (6 + k)) = _
    rw [eg_A hS hP]
  · show tV T (eg T x p (x + egU v) (ev_ob w)) (ev_fl w) = _
    rw [eg_A hS hP]
theorem pj_prg {k : Nat} (hk : k < 13) : (pj T x p v).1 k = tB T (p + 2 + 2 * k) := by
  have h : ∀ v : Bool, ∀ k, k < 13 → egP (6 + k) = true ∧ egO v (6 + k) = 2 + 2 * k ∧ 6 + k < 32 := by decide
  obtain ⟨h1, h2, h3⟩ := h v k hk
  show tB T (egA x p v (6 + k)) = _
  unfold egA
  rw [if_pos h3, h1, if_pos rfl, h2, Nat.add_assoc]
theorem pj_x {k : Nat} (hk : k < 26) (h13 : 13 ≤ k) : (pj T x p v).1 k = tB T (x + egO v (6 + k)) := by
  have h : ∀ v : Bool, ∀ k, k < 26 → 13 ≤ k → egP (6 + k) = false ∧ 6 + k < 32 := by decide
  obtain ⟨h1, h3⟩ := h v k hk h13
  show tB T (egA x p v (6 + k)) = _
  unfold egA
  rw [if_pos h3, h1, if_neg (by decide)]
theorem emb_r (hS : Shp T x) (hP : PrgAt T p) (hp : p = x + 3 ∨ x + 74 ≤ p) {k : Nat} (hk : k < 26) : tB (emb T x p (x + egU v) s) (egA x p v (6 + k)) = s.1 k := by
  rw [← eg_A (v := v) hS hP]
  exact emb_row (eng_ok hS hP hp v rfl) hk
theorem emb_rn (hS : Shp T x) (hP : PrgAt T p) {a : Nat} (ha : ∀ k, k < 26 → a ≠ egA x p v (6 + k)) : tB (emb T x p (x + egU v) s) a = tB T a :=
  emb_row_n (fun k hk => by rw [eg_A hS hP]; exact ha k hk)
theorem emb_i (hS : Shp T x) (hP : PrgAt T p) (hp : p = x + 3 ∨ x + 74 ≤ p) {w : Nat} (hw : w < 14) : tV (emb T x p (x + egU v) s) (egA x p v (ev_ob w)) (ev_fl w) = s.2 w := by
  rw [← eg_A (v := v) hS hP]
  exact emb_int (eng_ok hS hP hp v rfl) hw
theorem emb_in (hS : Shp T x) (hP : PrgAt T p) {a f : Nat} (ha : ∀ w, w < 14 → ¬ (a = egA x p v (ev_ob w) ∧ f = ev_fl w)) : tV (emb T x p (x + egU v) s) a f = tV T a f :=
  emb_int_n (fun w hw => by rw [eg_A hS hP]; exact ha w hw)
/-- rows that are as they were stay -/
theorem emb_same (hS : Shp T x) (hP : PrgAt T p) (hp : p = x + 3 ∨ x + 74 ≤ p) {a : Nat} (ha : ∀ k, k < 26 → a = egA x p v (6 + k) → s.1 k = (pj T x p v).1 k) : tB (emb T x p (x + egU v) s) a = tB T a := by
  by_cases h : ∃ k, k < 26 ∧ a = egA x p v (6 + k)
  · obtain ⟨k, hk, e⟩ := h
    have := ha k hk e
    subst e
    rw [emb_r hS hP hp hk, this]
    rfl
  · exact emb_rn hS hP (fun k hk e => h ⟨k, hk, e⟩)
theorem emb_samei (hS : Shp T x) (hP : PrgAt T p) (hp : p = x + 3 ∨ x + 74 ≤ p) {a f : Nat} (ha : ∀ w, w < 14 → a = egA x p v (ev_ob w) → f = ev_fl w → s.2 w = (pj T x p v).2 w) : tV (emb T x p (x + egU v) s) a f = tV T a f := by
  by_cases h : ∃ w, w < 14 ∧ a = egA x p v (ev_ob w) ∧ f = ev_fl w
  · obtain ⟨w, hw, e, e'⟩ := h
    have := ha w hw e e'
    subst e; subst e'
    rw [emb_i hS hP hp hw, this]
    rfl
  · exact emb_in hS hP (fun w hw e => h ⟨w, hw, e⟩)
theorem ev_ob6 (w : Nat) : ev_ob w < 6 := ev_ob_lt w
theorem ev_14 {w : Nat} (h : 14 ≤ w) : ev_ob w = 0 ∧ ev_fl w = 0 := by
  unfold ev_ob ev_fl
  rw [List.getD_eq_getElem?_getD, List.getElem?_eq_none (by show 14 ≤ w; exact h), List.getD_eq_getElem?_getD, List.getElem?_eq_none (by show 14 ≤ w; exact h)]
  exact ⟨rfl, rfl⟩
theorem Shp.em {u : Nat} (h : Shp T x) : Shp (emb T x p u s) x := h
theorem PrgAt.em {q u : Nat} (h : PrgAt T q) : PrgAt (emb T x p u s) q := h
/-- what was written into the engine is read out of it -/
theorem pj_emb (hS : Shp T x) (hP : PrgAt T p) (hp : p = x + 3 ∨ x + 74 ≤ p) (h1 : ∀ k, 26 ≤ k → s.1 k = (pj T x p v).1 k) (h2 : ∀ w, 14 ≤ w → s.2 w = (pj T x p v).2 w) : pj (emb T x p (x + egU v) s) x p v = s := by
  refine Prod.ext (funext fun k => ?_) (funext fun w => ?_)
  · show tB (emb T x p (x + egU v) s) (egA x p v (6 + k)) = s.1 k
    by_cases hk : k < 26
    · exact emb_r hS hP hp hk
    · have e0 : egA x p v (6 + k) = 0 := if_neg (by omega)
      rw [h1 k (by omega), e0]
      show _ = tB T (egA x p v (6 + k))
      rw [e0]
      refine emb_rn hS hP (fun j hj e => ?_)
      have hj' : ∀ v : Bool, ∀ j, j < 26 → 6 + j < 32 ∧ 1 ≤ egO v (6 + j) := by decide
      obtain ⟨q1, q2⟩ := hj' v j hj
      unfold egA at e
      rw [if_pos q1] at e
      omega
  · show tV (emb T x p (x + egU v) s) (egA x p v (ev_ob w)) (ev_fl w) = s.2 w
    by_cases hw : w < 14
    · exact emb_i hS hP hp hw
    · obtain ⟨e1, e2⟩ := ev_14 (w := w) (by omega)
      rw [h2 w (by omega)]
      show _ = tV T (egA x p v (ev_ob w)) (ev_fl w)
      refine emb_in hS hP (fun j hj e => ?_)
      have hj' : ∀ j, j < 14 → 2 ≤ ev_fl j := by decide
      have := hj' j hj
      rw [e2] at e
      omega
end PJX
