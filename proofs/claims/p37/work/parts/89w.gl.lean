/-! three runs at once: they end alike -/
section GLX
/-- the reference's rows hold the same -/
def AR (A : Nat → Nat → Int32) (O C V vs bM : List Int32) : Prop :=
  (∀ k, k < vs.length → A 30 k = vs.getD k 0) ∧ (∀ k, k < 8 * (bM.length + 1) → A 31 k = V.getD k 0) ∧ (∀ k, k < bM.length → A 32 (k + 1) = bM.getD k 0) ∧ (∀ k, k < O.length → A 33 k = O.getD k 0) ∧ ∀ k, k < 32 → A 34 k = C.getD k 0
theorem uA_s {A : Nat → Nat → Int32} {j k i : Nat} {v : Int32} : u2 A j k v j i = if i = k then v else A j i := by rw [u2_s]
theorem uA_n {A : Nat → Nat → Int32} {j a k i : Nat} {v : Int32} (h : a ≠ j) : u2 A j k v a i = A a i := by rw [u2_n _ _ _ h]
variable {A : Nat → Nat → Int32} {O C V vs bM : List Int32} {v : Int32}
theorem gapp {l : List Int32} {k : Nat} (h : k < (l ++ [v]).length) : (l ++ [v]).getD k 0 = if k = l.length then v else l.getD k 0 := by
  by_cases e : k = l.length
  · rw [if_pos e, e, gD_app_r]
  · rw [List.length_append] at h
    have h2 : [v].length = 1 := rfl
    rw [if_neg e, gD_app_l (by omega)]
theorem AR.push (h : AR A O C V vs bM) : AR (u2 A 30 vs.length v) O C V (vs ++ [v]) bM := by
  obtain ⟨h1, h2, h3, h4, h5⟩ := h
  refine ⟨fun k hk => ?_, fun k hk => ?_, fun k hk => ?_, fun k hk => ?_, fun k hk => ?_⟩
  · rw [gapp hk, uA_s]
    by_cases e : k = vs.length
    · rw [if_pos e, if_pos e]
    · rw [if_neg e, if_neg e, h1 k (by rw [List.length_append] at hk; have h2 : [v].length = 1 := rfl; omega)]
  · rw [uA_n (by decide)]; exact h2 k hk
  · rw [uA_n (by decide)]; exact h3 k hk
  · rw [uA_n (by decide)]; exact h4 k hk
  · rw [uA_n (by decide)]; exact h5 k hk
theorem AR.top (h : AR A O C V (vs ++ [v]) bM) : A 30 vs.length = v := by
  rw [h.1 _ (by rw [List.length_append]; exact Nat.lt_succ_self _), gD_app_r]
theorem AR.pop (h : AR A O C V (vs ++ [v]) bM) : AR A O C V vs bM := by
  obtain ⟨h1, h2⟩ := h
  exact ⟨fun k hk => by rw [h1 k (by rw [List.length_append]; omega), gD_app_l hk], h2⟩
theorem AR.var {k : Nat} (h : AR A O C V vs bM) (hk : k < V.length) : AR (u2 A 31 k v) O C (V.set k v) vs bM := by
  obtain ⟨h1, h2, h3, h4, h5⟩ := h
  refine ⟨fun k hk => ?_, fun j hj => ?_, fun k hk => ?_, fun k hk => ?_, fun k hk => ?_⟩
  · rw [uA_n (by decide)]; exact h1 k hk
  · rw [uA_s, gset_cases hk]
    by_cases e : j = k
    · rw [if_pos e, if_pos e]
    · rw [if_neg e, if_neg e, h2 j hj]
  · rw [uA_n (by decide)]; exact h3 k hk
  · rw [uA_n (by decide)]; exact h4 k hk
  · rw [uA_n (by decide)]; exact h5 k hk
theorem AR.out (h : AR A O C V vs bM) : AR (u2 A 33 O.length v) (O ++ [v]) C V vs bM := by
  obtain ⟨h1, h2, h3, h4, h5⟩ := h
  refine ⟨fun k hk => ?_, fun k hk => ?_, fun k hk => ?_, fun k hk => ?_, fun k hk => ?_⟩
  · rw [uA_n (by decide)]; exact h1 k hk
  · rw [uA_n (by decide)]; exact h2 k hk
  · rw [uA_n (by decide)]; exact h3 k hk
  · rw [gapp hk, uA_s]
    by_cases e : k = O.length
    · rw [if_pos e, if_pos e]
    · rw [if_neg e, if_neg e, h4 k (by rw [List.length_append] at hk; have h2 : [v].length = 1 := rfl; omega)]
  · rw [uA_n (by decide)]; exact h5 k hk
theorem AR.cell {n : Nat} (h : AR A O C V vs bM) (hC : C.length = 32) (hn : n < 32) : AR (u2 A 34 n v) O (C.set n v) V vs bM := by
  obtain ⟨h1, h2, h3, h4, h5⟩ := h
  refine ⟨fun k hk => ?_, fun k hk => ?_, fun k hk => ?_, fun k hk => ?_, fun k hk => ?_⟩
  · rw [uA_n (by decide)]; exact h1 k hk
  · rw [uA_n (by decide)]; exact h2 k hk
  · rw [uA_n (by decide)]; exact h3 k hk
  · rw [uA_n (by decide)]; exact h4 k hk
  · rw [uA_s, gset_cases (by omega)]
    by_cases e : k = n
    · rw [if_pos e, if_pos e]
    · rw [if_neg e, if_neg e, h5 k hk]
theorem AR.leave {z : Int32} (h : AR A O C V vs (bM ++ [z])) : AR A O C V vs bM ∧ A 32 (bM.length + 1) = z := by
  obtain ⟨h1, h2, h3, h4, h5⟩ := h
  have hl : (bM ++ [z]).length = bM.length + 1 := by rw [List.length_append]; rfl
  refine ⟨⟨h1, fun k hk => h2 k (by omega), fun k hk => ?_, h4, h5⟩, ?_⟩
  · rw [h3 k (by omega), gD_app_l hk]
  · rw [h3 _ (by omega), gD_app_r]
/-- they have ended alike -/
def Fin3 (s : Sx) (m : Mx) (x y : Int32) (rW rM : Sx) (rR : Mx) : Prop := ∃ (O C : List Int32) (f : Nat) (e : Int32), e ≠ -1 ∧ O.length ≤ 8 ∧ C.length = 32 ∧ f ≤ 5000 ∧
  (∃ V b v w t i u, rW = cS s O C V b (s.1 22) v w (nI f) x y t e (s.2 11) i u) ∧ (∃ V b v t p, rM = cS s O C V b v (s.1 23) (s.1 24) (nI f) x y t e p (s.2 12) (s.2 13)) ∧
  ∃ A t D h, rR = rS m A (nI f) e t D h (nI O.length) ∧ (∀ k, k < O.length → A 33 k = O.getD k 0) ∧ ∀ k, k < 32 → A 34 k = C.getD k 0
def Gl (s : Sx) (m : Mx) (x y : Int32) (f t : Nat) (O C V bW bM vs wt : List Int32) (i : Nat) (u : Int32) (c r : Nat) : Prop :=
  ∀ A, AR A O C V vs bM → ∃ kW kM kR rW rM rR, EW kW (cS s O C V bW (s.1 22) vs wt (nI f) x y (nI t) (-1) (s.2 11) (nI i) u) rW ∧ EMl kM (cS s O C V bM vs (s.1 23) (s.1 24) (nI f) x y (nI t) (-1) (nI c) (s.2 12) (s.2 13)) rM ∧
    ER x y kR (nI c) (rS m A (nI f) 0 (nI t) (nI bM.length) (nI vs.length) (nI O.length)) rR ∧ kW ≤ 180 * f + r ∧ kM ≤ 180 * f + r ∧ kR ≤ 180 * f + r ∧ Fin3 s m x y rW rM rR
variable {s : Sx} {m : Mx} {x y : Int32} {f t f' t' : Nat} {O' C' V' bW bW' bM' vs' wt wt' : List Int32} {i i' c c' r r' : Nat} {u u' : Int32}
theorem Gl.mono (h : Gl s m x y f t O C V bW bM vs wt i u c r) (hr : r ≤ r') : Gl s m x y f t O C V bW bM vs wt i u c r' := by
  intro A hA
  obtain ⟨kW, kM, kR, rW, rM, rR, h1, h2, h3, h4, h5, h6, h7⟩ := h A hA
  exact ⟨kW, kM, kR, rW, rM, rR, h1, h2, h3, by omega, by omega, by omega, h7⟩
theorem ER.cons {k : Nat} {A' : Nat → Nat → Int32} {F T D h o F' T' D' h' o' : Int32} {rR : Mx} (hc : c < 1000) (h17 : m 4 c ≠ 17) (hR : rst x y (nI c) (rS m A F 0 T D h o) = some (rS m A' F' 0 T' D' h' o', nI c')) (hE : ER x y k (nI c') (rS m A' F' 0 T' D' h' o') rR) : ER x y (k + 1) (nI c) (rS m A F 0 T D h o) rR :=
  ⟨rfl, vi_n (by omega) (by omega), by rw [q_mc (by decide) (by omega)]; exact h17, _, _, hR, hE⟩
theorem Gl.go (hW : wst (cS s O C V bW (s.1 22) vs wt (nI f) x y (nI t) (-1) (s.2 11) (nI i) u) = some (cS s O' C' V' bW' (s.1 22) vs' wt' (nI f') x y (nI t') (-1) (s.2 11) (nI i') u'))
    (hM : mst (cS s O C V bM vs (s.1 23) (s.1 24) (nI f) x y (nI t) (-1) (nI c) (s.2 12) (s.2 13)) = some (cS s O' C' V' bM' vs' (s.1 23) (s.1 24) (nI f') x y (nI t') (-1) (nI c') (s.2 12) (s.2 13)))
    (hR : ∀ A, AR A O C V vs bM → ∃ A', AR A' O' C' V' vs' bM' ∧ rst x y (nI c) (rS m A (nI f) 0 (nI t) (nI bM.length) (nI vs.length) (nI O.length)) = some (rS m A' (nI f') 0 (nI t') (nI bM'.length) (nI vs'.length) (nI O'.length), nI c'))
    (hc : c < 1000) (h17 : m 4 c ≠ 17) (hq : 180 * f' + r' + 1 ≤ 180 * f + r) (G : Gl s m x y f' t' O' C' V' bW' bM' vs' wt' i' u' c' r') : Gl s m x y f t O C V bW bM vs wt i u c r := by
  intro A hA
  obtain ⟨A', hA', eR⟩ := hR A hA
  obtain ⟨kW, kM, kR, rW, rM, rR, h1, h2, h3, h4, h5, h6, h7⟩ := G A' hA'
  exact ⟨kW + 1, kM + 1, kR + 1, rW, rM, rR, ⟨rfl, _, hW, h1⟩, ⟨rfl, _, hM, h2⟩, ER.cons hc h17 eR h3, by omega, by omega, by omega, h7⟩
theorem Gl.w (hW : wst (cS s O C V bW (s.1 22) vs wt (nI f) x y (nI t) (-1) (s.2 11) (nI i) u) = some (cS s O C V bW (s.1 22) vs wt' (nI f) x y (nI t) (-1) (s.2 11) (nI i') u'))
    (G : Gl s m x y f t O C V bW bM vs wt' i' u' c r) : Gl s m x y f t O C V bW bM vs wt i u c (r + 1) := by
  intro A hA
  obtain ⟨kW, kM, kR, rW, rM, rR, h1, h2, h3, h4, h5, h6, h7⟩ := G A hA
  exact ⟨kW + 1, kM, kR, rW, rM, rR, ⟨rfl, _, hW, h1⟩, h2, h3, by omega, by omega, by omega, h7⟩
theorem Gl.fl (hW : wst (cS s O C V bW (s.1 22) vs wt (nI f) x y (nI t) (-1) (s.2 11) (nI i) u) = wst (cS s O' C' V' bW' (s.1 22) vs' wt' (nI f') x y (nI t') (-1) (s.2 11) (nI i') u'))
    (hM : mst (cS s O C V bM vs (s.1 23) (s.1 24) (nI f) x y (nI t) (-1) (nI c) (s.2 12) (s.2 13)) = some (cS s O' C' V' bM' vs' (s.1 23) (s.1 24) (nI f') x y (nI t') (-1) (nI c') (s.2 12) (s.2 13)))
    (hR : ∀ A, AR A O C V vs bM → ∃ A', AR A' O' C' V' vs' bM' ∧ rst x y (nI c) (rS m A (nI f) 0 (nI t) (nI bM.length) (nI vs.length) (nI O.length)) = some (rS m A' (nI f') 0 (nI t') (nI bM'.length) (nI vs'.length) (nI O'.length), nI c'))
    (hc : c < 1000) (h17 : m 4 c ≠ 17) (hq : 180 * f' + r' + 1 ≤ 180 * f + r) (G : Gl s m x y f' t' O' C' V' bW' bM' vs' wt' i' u' c' r') : Gl s m x y f t O C V bW bM vs wt i u c r := by
  intro A hA
  obtain ⟨A', hA', eR⟩ := hR A hA
  obtain ⟨kW, kM, kR, rW, rM, rR, h1, h2, h3, h4, h5, h6, h7⟩ := G A' hA'
  cases kW with
  | zero => exact absurd rfl h1.2
  | succ kW =>
    obtain ⟨_, z, h1, h1'⟩ := h1
    exact ⟨kW + 1, kM + 1, kR + 1, rW, rM, rR, ⟨rfl, z, hW.trans h1, h1'⟩, ⟨rfl, _, hM, h2⟩, ER.cons hc h17 eR h3, by omega, by omega, by omega, h7⟩
theorem Gl.en {V1 b1 v1 w1 V2 b2 v2 : List Int32} {t1 i1 u1 t2 p2 e : Int32} (he : e ≠ -1) (he0 : e ≠ 0) (hO : O'.length ≤ 8) (hC : C'.length = 32) (hf : f' ≤ 5000) (hr : 1 ≤ r)
    (hW : wst (cS s O C V bW (s.1 22) vs wt (nI f) x y (nI t) (-1) (s.2 11) (nI i) u) = some (cS s O' C' V1 b1 (s.1 22) v1 w1 (nI f') x y t1 e (s.2 11) i1 u1))
    (hM : mst (cS s O C V bM vs (s.1 23) (s.1 24) (nI f) x y (nI t) (-1) (nI c) (s.2 12) (s.2 13)) = some (cS s O' C' V2 b2 v2 (s.1 23) (s.1 24) (nI f') x y t2 e p2 (s.2 12) (s.2 13)))
    (hR : ∀ A, AR A O C V vs bM → ∃ A' t3 D h pc, rst x y (nI c) (rS m A (nI f) 0 (nI t) (nI bM.length) (nI vs.length) (nI O.length)) = some (rS m A' (nI f') e t3 D h (nI O'.length), pc) ∧ (∀ k, k < O'.length → A' 33 k = O'.getD k 0) ∧ ∀ k, k < 32 → A' 34 k = C'.getD k 0)
    (hc : c < 1000) (h17 : m 4 c ≠ 17) : Gl s m x y f t O C V bW bM vs wt i u c r := by
  intro A hA
  obtain ⟨A', t3, D, h, pc, eR, k1, k2⟩ := hR A hA
  exact ⟨1, 1, 1, _, _, _, ⟨rfl, _, hW, rfl, he⟩, ⟨rfl, _, hM, rfl, he⟩, ⟨rfl, vi_n (by omega) (by omega), by rw [q_mc (by decide) (by omega)]; exact h17, _, _, eR, rfl, Or.inl he0⟩, by omega, by omega, by omega,
    O', C', f', e, he, hO, hC, hf, ⟨_, _, _, _, _, _, _, rfl⟩, ⟨_, _, _, _, _, rfl⟩, A', t3, D, h, rfl, k1, k2⟩
/-- the program ends -/
theorem Gl.halt (hO : O.length ≤ 8) (hC : C.length = 32) (hf : f ≤ 5000) (hr : 1 ≤ r) (hi : i < 1000) (hc : c < 1000) (hk : (s.1 0).getD i 0 = 0) (h7 : (s.1 7).getD c 0 = 17) (h4 : m 4 c = 17) : Gl s m x y f t O C V bW bM vs wt i 0 c r := by
  intro A hA
  obtain ⟨h1, h2, h3, h4', h5⟩ := hA
  exact ⟨1, 1, 0, _, _, _, ⟨rfl, _, W_end hi hk, rfl, (show (0 : Int32) ≠ -1 by decide)⟩, ⟨rfl, _, mc17 hc h7, rfl, (show (0 : Int32) ≠ -1 by decide)⟩, ⟨rfl, Or.inr ⟨vi_n (by omega) (by omega), by rw [q_mc (by decide) (by omega)]; exact h4⟩⟩, by omega, by omega, by omega,
    O, C, f, 0, by decide, hO, hC, hf, ⟨_, _, _, _, _, _, _, rfl⟩, ⟨_, _, _, _, _, rfl⟩, A, _, _, _, rfl, h4', h5⟩
end GLX
