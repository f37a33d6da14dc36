/-! the school: what the class's heap and the reference hold alike -/
section SINV
abbrev gNl (l : List Nat) (i : Nat) : Nat := l.getD i 0
abbrev bnd (v : Int32) (a b : Int) : Prop := a ≤ v.toInt ∧ v.toInt ≤ b
/-- a program's rows and ints are those of s -/
def PrgIs (T : Tx) (p : Nat) (s : Sx) : Prop := (∀ k, k < 13 → tB T (p + 2 + 2 * k) = s.1 k) ∧ tV T p 9 = s.2 0 ∧ tV T p 10 = s.2 1
def okS (c : Int32) : Prop := c = 10 ∨ bnd c 32 126
def Txt (T : Tx) (x : Nat) (m : Mx) (tx : List Int32) : Prop := tB T (x + 1) = tx ∧ tx.length ≤ 300 ∧ (∀ c, c ∈ tx → okS c) ∧ m 0 0 = nI tx.length ∧ ∀ k, k < tx.length → m 1 k = tx.getD k 0
def ReadIs (T : Tx) (p : Nat) (tx : List Int32) : Prop := ∃ s0 s1, tkR s0 (tks tx) ∧ (s0.1 14).length ≤ 8 ∧ f_5001 s0 = some s1 ∧ PrgIs T p s1
def DrI (x : Nat) (T : Tx) (m : Mx) (tx : List Int32) (na : Nat) (ps : Nat → Nat) (pd : Nat) : Prop :=
  Txt T x m tx ∧ tW T x 1 = some pd ∧ PrgAt T pd ∧ (pd = x + 3 ∨ x + 74 ≤ pd) ∧ (tV T x 2 = 0 ∨ tV T x 2 = 1 ∧ ReadIs T pd tx) ∧ (tV T x 3 = 0 ∧ (∀ i, i < na → ps i ≠ pd) ∨ tV T x 3 = 1) ∧ (tB T (x + 34)).length ≤ 8
def TrI (x : Nat) (T : Tx) (m : Mx) : Prop :=
  (tB T (x + 43)).length ≤ 8 ∧ m 0 60 = nI (tB T (x + 43)).length ∧ (∀ k, k < (tB T (x + 43)).length → m 35 k = (tB T (x + 43)).getD k 0) ∧ m 0 63 = tV T (x + 42) 4 ∧ (tB T (x + 45)).length = 32 ∧ (∀ k, k < 32 → m 36 k = (tB T (x + 45)).getD k 0) ∧ m 0 64 = tV T x 13 ∧ bnd (tV T x 13) 0 1000
def TstR (T : Tx) (m : Mx) (t q : Nat) : Prop := tK T t = 9 ∧ t < tZ T ∧ tV T t 0 = m 40 q ∧ bnd (m 40 q) 1 10 ∧ tV T t 1 = m 41 (2 * q) ∧ tV T t 2 = m 41 (2 * q + 1) ∧ tV T t 3 = m 42 q ∧ bnd (m 42 q) 0 2 ∧ tV T t 4 = m 43 (2 * q) ∧ tV T t 5 = m 43 (2 * q + 1) ∧ tV T t 6 = m 44 q ∧ (m 44 q = 0 ∨ m 44 q = 1)
def ExR (x : Nat) (T : Tx) (m : Mx) (e i : Nat) (tl : List Nat) : Prop := x + 74 ≤ e ∧ e + 2 ≤ tZ T ∧ tK T e = 3 ∧ tW T e 3 = some (e + 1) ∧ tK T (e + 1) = 1 ∧ tA T (e + 1) = tl ∧ tl.length ≤ 8 ∧ tV T e 0 = nI i ∧ tV T e 1 = m 37 i ∧ bnd (m 37 i) 1 2000 ∧ tV T e 2 = m 38 i ∧ bnd (m 38 i) 0 1000 ∧ m 39 i = nI tl.length ∧ ∀ j, j < tl.length → x + 74 ≤ gNl tl j ∧ TstR T m (gNl tl j) (8 * i + j)
def ExI (x : Nat) (T : Tx) (m : Mx) (es : List Nat) (ts : Nat → List Nat) : Prop := m 0 65 = nI es.length ∧ es.length ≤ 4 ∧ tA T (x + 68) = es ∧ ∀ i, i < es.length → ExR x T m (gNl es i) i (ts i)
/-- what the run of a program comes to -/
def RunIs (s : Sx) (f x y e : Int32) (O : List Int32) : Prop := ∃ r, f_3001 f x y s = some r ∧ r.2 10 = e ∧ r.1 18 = O
def PasIs (e : Int32) (O : List Int32) (c a b v : Int32) : Prop := v = if e = 0 ∧ nI O.length = c ∧ (c < 1 ∨ xg O 0 = a) ∧ (c < 2 ∨ xg O 1 = b) then 1 else 0
/-- an answer: its exercise is j -/
def AnR (x : Nat) (T : Tx) (m : Mx) (es : List Nat) (ts : Nat → List Nat) (a i p : Nat) (tx : List Int32) (s : Sx) (ps : Nat → Sx) : Prop :=
  x + 74 ≤ a ∧ a + 7 ≤ tZ T ∧ tK T a = 2 ∧ (tV T a 0 = m 46 i ∧ bnd (m 46 i) 0 5) ∧ (tW T a 2 = some p ∧ PrgAt T p ∧ (p = x + 3 ∨ x + 74 ≤ p) ∧ PrgIs T p s) ∧ (tV T a 3 = m 48 i ∧ bnd (m 48 i) 0 1000) ∧
  (tW T a 4 = some (a + 1) ∧ RwAt T (a + 1) 8 ∧ tW T a 5 = some (a + 3) ∧ RwAt T (a + 3) 8 ∧ tW T a 6 = some (a + 5) ∧ RwAt T (a + 5) 30) ∧ (tV T a 7 = m 49 i ∧ (m 49 i = 0 ∨ m 49 i = 1)) ∧ TxA m i tx ∧ Red tx s ∧
  (∃ j, j < es.length ∧ m 47 i = nI j ∧ tW T a 1 = some (gNl es j) ∧ (tB T (a + 1)).length = (ts j).length ∧ (tB T (a + 3)).length = (ts j).length ∧
    ∀ k, k < (ts j).length → (tB T (a + 1)).getD k 0 = m 50 (8 * i + k) ∧ (tB T (a + 3)).getD k 0 = m 51 (8 * i + k) ∧ ∃ O, RunIs s (m 37 j) (m 41 (2 * (8 * j + k))) (m 41 (2 * (8 * j + k) + 1)) (m 50 (8 * i + k)) O ∧ PasIs (m 50 (8 * i + k)) O (m 42 (8 * j + k)) (m 43 (2 * (8 * j + k))) (m 43 (2 * (8 * j + k) + 1)) (m 51 (8 * i + k))) ∧
  ((tB T (a + 5)).length = i + 1 ∧ (tB T (a + 5)).getD i 0 = nI (s.1 5).length ∧ ∀ k, k < i → (tB T (a + 5)).getD k 0 = nI (gr (alw (fun v => v) s (ps k)) ((ps k).1 5).length (s.1 5).length 0 (fun _ => false)))
def AnI (x : Nat) (T : Tx) (m : Mx) (es : List Nat) (ts : Nat → List Nat) (as : List Nat) (ps : Nat → Nat) (txs : Nat → List Int32) (ss : Nat → Sx) : Prop :=
  m 0 74 = nI as.length ∧ as.length ≤ 30 ∧ tA T (x + 69) = as ∧ ∀ i, i < as.length → AnR x T m es ts (gNl as i) i (ps i) (txs i) (ss i) ss
/-- no two of them overlap -/
def OwI (x : Nat) (es : List Nat) (ts : Nat → List Nat) (as : List Nat) (ps : Nat → Nat) (pd : Nat) (own : Nat → Nat) : Prop :=
  (∀ i, i < as.length → ∀ k, k < 7 → own (gNl as i + k) = 4 * i) ∧ (∀ p, p = pd ∨ (∃ i, i < as.length ∧ p = ps i) → x + 74 ≤ p → ∀ k, k < 28 → own (p + k) = 4 * p + 1) ∧
  (∀ i, i < es.length → own (gNl es i) = 4 * i + 2 ∧ own (gNl es i + 1) = 4 * i + 2) ∧ ∀ i, i < es.length → ∀ j, j < (ts i).length → own (gNl (ts i) j) = 4 * (8 * i + j) + 3
def SInv (x : Nat) (T : Tx) (m : Mx) (tx : List Int32) (es : List Nat) (ts : Nat → List Nat) (as : List Nat) (ps : Nat → Nat) (txs : Nat → List Int32) (ss : Nat → Sx) (pd : Nat) (own : Nat → Nat) : Prop :=
  Shp T x ∧ DrI x T m tx as.length ps pd ∧ TrI x T m ∧ ExI x T m es ts ∧ AnI x T m es ts as ps txs ss ∧ OwI x es ts as ps pd own
/-- what of the reference the invariant looks at -/
def MSm (m m' : Mx) : Prop := (∀ j, j ≠ 0 → (j < 3 ∨ 34 < j) → m' j = m j) ∧ ∀ f, f = 0 ∨ f = 60 ∨ f = 63 ∨ f = 64 ∨ f = 65 ∨ f = 74 → m' 0 f = m 0 f
variable {x : Nat} {T : Tx} {m m' : Mx} {tx : List Int32} {es : List Nat} {ts : Nat → List Nat} {as : List Nat} {ps : Nat → Nat} {txs : Nat → List Int32} {ss : Nat → Sx} {pd : Nat} {own : Nat → Nat}
theorem MSm.r : MSm m m := ⟨fun _ _ _ => rfl, fun _ _ => rfl⟩
theorem MSm.tr {m'' : Mx} (h : MSm m m') (h' : MSm m' m'') : MSm m m'' := ⟨fun j h0 hj => (h'.1 j h0 hj).trans (h.1 j h0 hj), fun f hf => (h'.2 f hf).trans (h.2 f hf)⟩
theorem MSm.mp {v : Int32} {f : Nat} (hf : ¬ (f = 0 ∨ f = 60 ∨ f = 63 ∨ f = 64 ∨ f = 65 ∨ f = 74)) : MSm m (mp m f v) := ⟨fun j h0 _ => mp_j h0, fun g hg => mp_n (fun e => hf (by rw [← e]; exact hg))⟩
theorem SInv.mm (h : SInv x T m tx es ts as ps txs ss pd own) (hM : MSm m m') : SInv x T m' tx es ts as ps txs ss pd own := by
  obtain ⟨hj, hf⟩ := hM
  have e1 : m' 1 = m 1 := hj 1 (by decide) (by decide)
  have e2 : m' 2 = m 2 := hj 2 (by decide) (by decide)
  have e35 : m' 35 = m 35 := hj _ (by decide) (by decide)
  have e36 : m' 36 = m 36 := hj _ (by decide) (by decide)
  have e37 : m' 37 = m 37 := hj _ (by decide) (by decide)
  have e38 : m' 38 = m 38 := hj _ (by decide) (by decide)
  have e39 : m' 39 = m 39 := hj _ (by decide) (by decide)
  have e40 : m' 40 = m 40 := hj _ (by decide) (by decide)
  have e41 : m' 41 = m 41 := hj _ (by decide) (by decide)
  have e42 : m' 42 = m 42 := hj _ (by decide) (by decide)
  have e43 : m' 43 = m 43 := hj _ (by decide) (by decide)
  have e44 : m' 44 = m 44 := hj _ (by decide) (by decide)
  have e45 : m' 45 = m 45 := hj _ (by decide) (by decide)
  have e46 : m' 46 = m 46 := hj _ (by decide) (by decide)
  have e47 : m' 47 = m 47 := hj _ (by decide) (by decide)
  have e48 : m' 48 = m 48 := hj _ (by decide) (by decide)
  have e49 : m' 49 = m 49 := hj _ (by decide) (by decide)
  have e50 : m' 50 = m 50 := hj _ (by decide) (by decide)
  have e51 : m' 51 = m 51 := hj _ (by decide) (by decide)
  have f0 : m' 0 0 = m 0 0 := hf 0 (by decide)
  have f60 : m' 0 60 = m 0 60 := hf _ (by decide)
  have f63 : m' 0 63 = m 0 63 := hf _ (by decide)
  have f64 : m' 0 64 = m 0 64 := hf _ (by decide)
  have f65 : m' 0 65 = m 0 65 := hf _ (by decide)
  have f74 : m' 0 74 = m 0 74 := hf _ (by decide)
  unfold SInv DrI Txt TrI ExI ExR TstR AnI AnR TxA at h ⊢
  rw [e1, e2, e35, e36, e37, e38, e39, e40, e41, e42, e43, e44, e45, e46, e47, e48, e49, e50, e51, f0, f60, f63, f64, f65, f74]
  exact h
/-- a call whose exception is noted -/
theorem thr3 {a b c : Int32} (ha : a = 0 ∨ a = 1) (hb : b = 0 ∨ b = 1) (hc : c = 0 ∨ c = 1) : f_12003 a b c m = (mp m 82 (if a = 0 then 1 else if b = 0 then 2 else if c = 0 then 3 else 0), if a = 1 ∧ b = 1 ∧ c = 1 then 1 else 0) := by
  unfold f_12003 f_12003_J26
  rcases ha with e | e <;> rcases hb with e' | e' <;> rcases hc with e'' | e'' <;> subst e <;> subst e' <;> subst e'' <;> simp only [if_true, if_false, bS_eq, show mf (mp m 82 1) 82 = 1 from mp_s, show mf (mp m 82 2) 82 = 2 from mp_s, show mf (mp m 82 3) 82 = 3 from mp_s, show mf (mp m 82 0) 82 = 0 from mp_s] <;> rfl
theorem told_e {v : Int32} : f_12004 v m = (mp m 82 0, v) := rfl
end SINV
