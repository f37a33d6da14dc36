/-! three runs at once: ends of statements -/
section GAX
variable {s : Sx} {m : Mx} {x y : Int32} {n d f t : Nat} {O C V bW bM vs wt w : List Int32} {i k c r : Nat} {z z' kd mk : Int32}
theorem g_set {v : Nat} (hX : Cx s m n d) (ho : Ok3 f t O C V bW bM) (hc : c ≤ n) (hi : i < 900) (hk : k < 900) (hl : w.length < 1630) (hd : (s.1 0).getD i 0 = 33) (h : (s.1 0).getD k 0 = 34) (ht : (s.1 1).getD k 0 = nI v) (hv8 : v < 8) (h7 : (s.1 7).getD c 0 = 3) (h8 : (s.1 8).getD c 0 = nI v) (hv : vs.length < 1290)
    (G : ∀ V', V'.length = 88 → Gl s m x y f t O C V' bW bM vs w (i + 1) 0 (c + 1) r) : Gl s m x y f t O C V bW bM (vs ++ [z]) (w ++ [nI k]) i 2 c (r + 1) := by
  obtain ⟨o1, o2, o3, o4, o5, o6, o7⟩ := ho
  have h4 : m 4 c = 3 := (hX.c4 hc h7).trans (by decide)
  have h5 : m 5 c = nI v := (hX.c5 hc h7 h8).trans (if_neg (by decide))
  have h17 : m 4 c ≠ 17 := by rw [h4]; decide
  have hn := hX.1
  have hW := W_set (O := O) (C := C) (V := V) (vm := s.1 22) (vw := vs) (b := bW) (f := nI f) (x := x) (y := y) (t := nI t) (p := s.2 11) (z := z) (w := w) (show i < 1000 by omega) (show k < 1000 by omega) (by omega) hd h ht hv8 (by omega)
  rw [o6] at hW
  refine Gl.go hW (mc3 (by omega) h7 h8 hv8 (by omega)) (fun A hA => ⟨_, hA.pop.var (v := z) (k := 8 * bM.length + v) (by omega), ?_⟩) (by omega) h17 (by omega) (G _ (by rw [List.length_set]; exact o5))
  rw [len1, rc3 (by omega) h4 h5 hv8 (by omega) (by omega), hA.top]
theorem g_out (hX : Cx s m n d) (ho : Ok3 f t O C V bW bM) (hc : c ≤ n) (hi : i < 900) (hk : k < 900) (hl : w.length < 1630) (hd : (s.1 0).getD i 0 = 33) (h : (s.1 0).getD k 0 = 8) (h7 : (s.1 7).getD c 0 = 6) (hv : vs.length < 1290)
    (G : ∀ O', O'.length ≤ 8 → Gl s m x y f t O' C V bW bM vs w (i + 1) 0 (c + 1) r) : Gl s m x y f t O C V bW bM (vs ++ [z]) (w ++ [nI k]) i 2 c (r + 1) := by
  obtain ⟨o1, o2, o3, o4, o5, o6, o7⟩ := ho
  have h4 : m 4 c = 11 := (hX.c4 hc h7).trans (by decide)
  have h17 : m 4 c ≠ 17 := by rw [h4]; decide
  have hn := hX.1
  by_cases h8 : O.length < 8
  · refine Gl.go (W_out (by omega) (by omega) (by omega) hd h h8) (mc6 h8 (by omega) h7) (fun A hA => ⟨_, hA.pop.out (v := z), ?_⟩) (by omega) h17 (by omega) (G _ (by rw [len1]; omega))
    rw [len1, rc11 h8 (by omega) h4 (by omega), hA.top, len1]
  · have e8 : O.length = 8 := by omega
    refine Gl.en (e := 6) (by decide) (by decide) o3 o4 o1 (by omega) (W_outx (by omega) (by omega) (by omega) hd h e8) (mc6x e8 (by omega) h7) (fun A hA => ?_) (by omega) h17
    rw [len1, e8, rc11x (by omega) h4 (by omega)]
    exact ⟨_, _, _, _, _, rfl, by rw [← e8]; exact hA.2.2.2.1, hA.2.2.2.2⟩
theorem g_cel (hX : Cx s m n d) (ho : Ok3 f t O C V bW bM) (hc : c ≤ n) (hi : i < 900) (hk : k < 900) (hl : w.length < 1630) (hd : (s.1 0).getD i 0 = 33) (h : (s.1 0).getD k 0 = 37) (h7 : (s.1 7).getD c 0 = 4) (hv : vs.length < 1190)
    (G : ∀ C', C'.length = 32 → Gl s m x y f t O C' V bW bM vs w (i + 1) 0 (c + 1) r) : Gl s m x y f t O C V bW bM (vs ++ [z] ++ [z']) (w ++ [nI k]) i 2 c (r + 1) := by
  obtain ⟨o1, o2, o3, o4, o5, o6, o7⟩ := ho
  have h4 : m 4 c = 12 := (hX.c4 hc h7).trans (by decide)
  have h17 : m 4 c ≠ 17 := by rw [h4]; decide
  have hn := hX.1
  rcases cell_or z with ⟨a, ha, e⟩ | hx
  · subst e
    refine Gl.go (W_cel ha (by omega) (by omega) (by omega) hd h) (mc4 ha (by omega) h7) (fun A hA => ⟨_, hA.pop.pop.cell (v := z') o4 ha, ?_⟩) (by omega) h17 (by omega) (G _ (by rw [List.length_set]; exact o4))
    have ht := hA.top
    rw [len1] at ht
    rw [len1, len1, rc12 ha (by omega) h4 (by omega) hA.pop.top, ht]
  · refine Gl.en (e := 4) (by decide) (by decide) o3 o4 o1 (by omega) (W_celx hx (by omega) (by omega) (by omega) hd h) (mc4x hx (by omega) h7) (fun A hA => ?_) (by omega) h17
    rw [len1, len1, rc12x hx (by omega) h4 (by omega) hA.pop.top]
    exact ⟨_, _, _, _, _, rfl, hA.2.2.2.1, hA.2.2.2.2⟩
theorem g_drp (hX : Cx s m n d) (hc : c ≤ n) (hi : i < 900) (hk : k < 900) (hl : w.length < 1630) (hd : (s.1 0).getD i 0 = 33) (h : (s.1 0).getD k 0 = 35) (h7 : (s.1 7).getD c 0 = 7) (hv : vs.length < 1290)
    (G : Gl s m x y f t O C V bW bM vs w (i + 1) 0 (c + 1) r) : Gl s m x y f t O C V bW bM (vs ++ [z]) (w ++ [nI k]) i 2 c (r + 1) := by
  have h4 : m 4 c = 16 := (hX.c4 hc h7).trans (by decide)
  have h17 : m 4 c ≠ 17 := by rw [h4]; decide
  have hn := hX.1
  refine Gl.go (W_drp (by omega) (by omega) (by omega) hd h) (mc7 (by omega) h7) (fun A hA => ⟨_, hA.pop, ?_⟩) (by omega) h17 (by omega) G
  rw [len1, rc16 (by omega) h4 (by omega)]
theorem g_ret {j q : Nat} (hX : Cx s m n d) (hc : c ≤ n) (hi : i < 900) (hk : k < 900) (hl : w.length < 1630) (hd : (s.1 0).getD i 0 = 33) (h : (s.1 0).getD k 0 = 11) (h7 : (s.1 7).getD c 0 = 16) (hv : vs.length < 1290) (hb : bM.length < 10)
    (G : Gl s m x y f t O C V bW bM (vs ++ [z]) w j 2 q r) : Gl s m x y f t O C V (bW ++ [nI j]) (bM ++ [nI q]) (vs ++ [z]) (w ++ [nI k]) i 2 c (r + 1) := by
  have h4 : m 4 c = 15 := (hX.c4 hc h7).trans (by decide)
  have h17 : m 4 c ≠ 17 := by rw [h4]; decide
  have hn := hX.1
  refine Gl.go (W_ret (by omega) (by omega) (by omega) hd h (by omega)) (mc16 (by omega) h7) (fun A hA => ⟨_, hA.leave.1, ?_⟩) (by omega) h17 (by omega) G
  rw [len1, rc15 (by omega) (by omega) h4, hA.leave.2]
end GAX
