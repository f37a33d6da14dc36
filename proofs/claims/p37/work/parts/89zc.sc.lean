/-! calls run alike -/
section SCX
variable {s : Sx} {m : Mx} {x y : Int32} {n d F : Nat} {N j o L i i' c c' : Nat}
def Df (s : Sx) (n d : Nat) : Prop := ∀ q, q < d → ∃ N i0 i1 i' c0 c1 p, i0 < i1 ∧ i' ≤ 300 ∧ c1 + 2 ≤ n ∧ PX (rw4 s) (Qf s d) N 7 1 i0 0 i1 i' c0 c1 ∧ (s.1 0).getD i0 0 = 10 ∧ (s.1 10).getD q 0 = nI p ∧ p ≤ 8 ∧ (s.1 11).getD q 0 = nI i1 ∧ (s.1 12).getD q 0 = nI c0 ∧ (s.1 7).getD c1 0 = 1 ∧ (s.1 8).getD c1 0 = 0 ∧ (s.1 7).getD (c1 + 1) 0 = 16
theorem PX.a5 {R : Rw} {Q : Nat → Nat → Nat → Prop} : ∀ (N : Nat) {j o L i i' c c' : Nat}, PX R Q N 5 j o L i i' c c' → i + j ≤ i' := by
  intro N
  induction N with
  | zero => intro j o L i i' c c' h; exact h.elim
  | succ N ih =>
    intro j o L i i' c c' h
    have h : PF R Q (PX R Q N) 5 j o L i i' c c' := h
    unfold PF at h
    rw [if_neg (by decide), if_neg (by decide), if_neg (by decide), if_neg (by decide), if_pos rfl] at h
    rcases h with ⟨q0, q1, q2⟩ | ⟨a, i1, c1, q1, q2, h1, h2⟩
    · omega
    · have := ih h2
      have := PX.le N h1
      omega
/-- the block of a def, from a call to its return -/
theorem sp_body (hX : Cx s m n d) {q N i0 i1 i' c0 c1 : Nat} (h7 : PX (rw4 s) (Qf s d) N 7 1 i0 0 i1 i' c0 c1) (hi0 : i0 < i1) (hi : i' ≤ 300) (hc : c1 + 2 ≤ n) (hk : (s.1 0).getD i0 0 = 10) (k1 : (s.1 7).getD c1 0 = 1) (k2 : (s.1 8).getD c1 0 = 0) (k3 : (s.1 7).getD (c1 + 1) 0 = 16)
    (hF : ∀ {N g j o L i i' c c' : Nat}, PX (rw4 s) (Qf s d) N g j o L i i' c c' → i' ≤ 300 → c' ≤ n → L ≤ 8 → Sp s m x y F g j L i i' c c')
    {t a b r : Nat} {O C V bW bM vs w : List Int32} (ho : Ok3 F t O C V (bW ++ [nI a]) (bM ++ [nI b])) (hb : bM.length < 10) (hv : vs.length ≤ 111 * (bM.length + 1)) (hw : w.length ≤ 111 * (bM.length + 1)) (hr : 25998 ≤ r + 20 * vs.length) (hr2 : 2 ≤ r)
    (G : ∀ (f' t' : Nat) (O' C' V' : List Int32) (v : Int32), f' ≤ F → Ok3 f' t' O' C' V' bW bM → Gl s m x y f' t' O' C' V' bW bM (vs ++ [v]) w a 2 b (r - 2)) : Gl s m x y F t O C V (bW ++ [nI a]) (bM ++ [nI b]) vs w (i1 + 1) 0 c0 r := by
  obtain ⟨e1, e2, e3, b1, h8, e4, e5, e6⟩ := h7.b7
  have S := (hF h8 (by omega) (by omega) (by omega)).2.2.2.2.2 (Or.inr rfl) (Nat.le_refl _) (by rw [e4]; decide)
  have l8 := PX.le N h8
  have lb : bW.length = bM.length := by
    have := ho.2.2.2.2.2.1
    rw [len1, len1] at this
    omega
  have n1 : nd (0 + 1) (i1 + 1) b1 = 0 := if_neg (by decide)
  refine S F t O C V (bW ++ [nI a]) (bM ++ [nI b]) vs w r (r - 2) (Nat.le_refl _) ho (by rw [len1]; omega) (by rw [len1]; omega) (by rw [n1]; omega) (fun f' t' O' C' V' hf' ho' => ?_) (fun _ => ⟨by rw [n1]; omega, bW, bM, a, b, rfl, rfl, hb, G⟩)
  rw [n1, Nat.sub_zero, show r = r - 2 + 2 by omega]
  exact g_cld (o := i0) hX (by omega) (by omega) (by omega) e4 e5 hk k1 k2 k3 (by omega) hb (G f' t' O' C' V' 0 hf' ⟨ho'.1, ho'.2.1, ho'.2.2.1, ho'.2.2.2.1, ho'.2.2.2.2.1, lb, by omega⟩)
theorem sp_c3 (hX : Cx s m n d) (hDf : Df s n d) (ih : ∀ {g j o L i i' c c' : Nat}, PX (rw4 s) (Qf s d) N g j o L i i' c c' → i' ≤ 300 → c' ≤ n → L ≤ 8 → Sp s m x y F g j L i i' c c') (hF : ∀ F', F' < F → ∀ {N g j o L i i' c c' : Nat}, PX (rw4 s) (Qf s d) N g j o L i i' c c' → i' ≤ 300 → c' ≤ n → L ≤ 8 → Sp s m x y F' g j L i i' c c')
    (h : PX (rw4 s) (Qf s d) (N + 1) 3 j o L i i' c c') (hi : i' ≤ 300) (hc : c' ≤ n) (hL : L ≤ 8) : XO s m x y F L i i' c c' := by
  have h : PF (rw4 s) (Qf s d) (PX (rw4 s) (Qf s d) N) 3 j o L i i' c c' := h
  unfold PF at h
  rw [if_neg (by decide), if_neg (by decide), if_neg (by decide), if_pos rfl] at h
  obtain ⟨q1, q2, q3, h⟩ := h
  have hn := hX.1
  rcases h with ⟨q4, q5, q6, q7, e, he, e1, e2, e3⟩ | ⟨a, i1, c1, i2, c2, h1, h2, q4, q5, q6, q7, q8, e, he, e1, e2, e3⟩
  · subst q5; subst q7
    obtain ⟨M, j0, j1, j', d0, d1, p, z0, z1, z2, z3, z4, z5, z6, z7, z8, z9, z10, z11⟩ := hDf e he
    have hp : p = 0 := by
      rw [z5, nI_eq (by omega) (by omega)] at e3
      exact e3
    subst hp
    have lb := PX.le M z3
    intro f t O C V bW bM vs w k r hf ho hk hh hw hr G
    have hD := ho.2.2.2.2.2.2
    have hm : (Ok3 f t O C V bW bM) := ho
    rw [← List.append_nil vs]
    refine g_call (u := 1) (k := i) (i := i + 2) (p := 0) (k' := j1) (q := d0) (us := []) hX ho (by omega) (by omega) (by omega) e1 he q6 e2 z5 z6 z7 (by omega) z8 rfl (by rw [List.append_nil]; omega) (by omega) (W_fn0 (by omega) q1 q4 (by rw [len1]; omega)) (fun g V' hg hb hV => ?_)
    subst hg
    have ho' : Ok3 g t O C V' (bW ++ [nI (i + 2 + 1)]) (bM ++ [nI (c + 1)]) := ⟨by have := ho.1; omega, ho.2.1, ho.2.2.1, ho.2.2.2.1, hV, by rw [len1, len1, ho.2.2.2.2.2.1], by rw [len1]; omega⟩
    exact sp_body (q := e) hX z3 z0 z1 z2 z4 z9 z10 z11 (hF g (by omega)) ho' hb (by omega) (by rw [len1]; omega) (by omega) (by omega) (fun f2 t2 O2 C2 V2 v2 hf2 ho2 => (G f2 t2 O2 C2 V2 v2 (by omega) ho2).mono (by omega))
  · subst q6; subst q8
    obtain ⟨M, j0, j1, j', d0, d1, p, z0, z1, z2, z3, z4, z5, z6, z7, z8, z9, z10, z11⟩ := hDf e he
    have l1 := PX.le N h1
    have l2 := PX.le N h2
    have l5 := PX.a5 N h2
    have hp : p = a + 1 := by
      rw [z5, nI_eq (by omega) (by omega)] at e3
      exact e3
    subst hp
    have lb := PX.le M z3
    have l38 : lvN s (i + 1) = 0 := (lvN_k q2).trans (by decide)
    have l29 : lvN s i2 = 0 := (lvN_k q4).trans (by decide)
    have A1 := (ih h2 (by omega) (by omega) (by omega)).2.2.2.2.1 rfl (by omega)
    have x1 : lvN s i1 < 1 := by
      cases N with
      | zero => exact h2.elim
      | succ N =>
        have h : PF (rw4 s) (Qf s d) (PX (rw4 s) (Qf s d) N) 5 a 0 (L + 1) i1 i2 c1 c2 := h2
        unfold PF at h
        rw [if_neg (by decide), if_neg (by decide), if_neg (by decide), if_neg (by decide), if_pos rfl] at h
        rcases h with ⟨w0, w1, w2⟩ | ⟨a', i3, c3, w1, w2, h3, h4⟩
        · rw [← w1]; omega
        · have := (lvN_k (s := s) w2).trans (show (lvK 32).toInt.toNat = 0 by decide)
          omega
    have E1 := (ih h1 (by omega) (by omega) (by omega)).1 rfl (by omega) (by omega) x1
    intro f t O C V bW bM vs w k r hf ho hk hh hw hr G
    have hD := ho.2.2.2.2.2.2
    rw [show r = r - 1 + 1 by omega]
    refine g_fn (by omega) q1 q5 (by rw [len1]; omega) ?_
    refine E1 f t O C V bW bM vs (w ++ [nI k]) (i + 1) (r - 1) hf ho (by omega) (by omega) (by omega) (by rw [len1]; omega) (by omega) (fun f2 t2 O2 C2 V2 v2 hf2 ho2 => ?_)
    refine A1 f2 t2 O2 C2 V2 bW bM (vs ++ [v2]) (w ++ [nI k]) (i + 1) _ (by omega) ho2 (by omega) l38 (by rw [len1]; omega) (by rw [len1]; omega) (by rw [len1]; omega) (fun f3 t3 O3 C3 V3 us hf3 hus ho3 => ?_)
    rw [List.append_assoc]
    have hul : ([v2] ++ us).length = a + 1 := by rw [List.length_append, hus]; exact Nat.add_comm 1 a
    refine g_call (k := i) (i := i2) (p := a + 1) (k' := j1) (q := d0) (us := [v2] ++ us) hX ho3 (by omega) (by omega) (by omega) e1 he q7 e2 z5 z6 z7 (by omega) z8 hul (by rw [List.length_append, hul]; omega) (by omega) (W_cal (by omega) (by omega) (by rw [len1]; omega) q4 q2) (fun g V' hg hb hV => ?_)
    subst hg
    have ho' : Ok3 g t3 O3 C3 V' (bW ++ [nI (i2 + 1)]) (bM ++ [nI (c2 + 1)]) := ⟨by have := ho3.1; omega, ho3.2.1, ho3.2.2.1, ho3.2.2.2.1, hV, by rw [len1, len1, ho3.2.2.2.2.2.1], by rw [len1]; omega⟩
    exact sp_body (q := e) hX z3 z0 z1 z2 z4 z9 z10 z11 (hF g (by omega)) ho' hb (by omega) (by rw [len1]; omega) (by omega) (by omega) (fun f4 t4 O4 C4 V4 v4 hf4 ho4 => (G f4 t4 O4 C4 V4 v4 (by omega) ho4).mono (by omega))
end SCX
