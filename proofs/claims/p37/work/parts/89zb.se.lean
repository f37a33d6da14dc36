/-! expressions run alike -/
section SEX
variable {s : Sx} {m : Mx} {x y : Int32} {n d F : Nat} {N j o L i i' c c' : Nat}
theorem sp_e0 (hX : Cx s m n d) (ih : ∀ {g j o L i i' c c' : Nat}, PX (rw4 s) (Qf s d) N g j o L i i' c c' → i' ≤ 300 → c' ≤ n → L ≤ 8 → Sp s m x y F g j L i i' c c') (h : PX (rw4 s) (Qf s d) (N + 1) 0 j o L i i' c c') (hi : i' ≤ 300) (hc : c' ≤ n) (hL : L ≤ 8) (hj : 1 ≤ j) (hj7 : j ≤ 7) (hl : lvN s i' < j) : XE s m x y F L j i i' c c' := by
  have h : PF (rw4 s) (Qf s d) (PX (rw4 s) (Qf s d) N) 0 j o L i i' c c' := h
  unfold PF at h
  rw [if_pos rfl] at h
  rcases h with ⟨q, i1, c1, h1, h2⟩ | ⟨q, h1⟩
  · have l2 := PX.le N h2
    have E1 := (ih h1 (by omega) (by omega) (by omega)).1 rfl (by omega) (by omega) (h2.m1 q hl)
    have M1 := (ih h2 hi hc (by omega)).2.1 rfl hj q hl
    intro f t O C V bW bM vs w k r hf ho hk hT hh hw hr G
    refine E1 f t O C V bW bM vs w k r hf ho hk (by omega) (by omega) (by omega) hr (fun f' t' O' C' V' v hf' ho' => ?_)
    exact M1 f' t' O' C' V' bW bM vs w k (r - (2 * (8 - L) + 1)) v (by omega) ho' hk hT hh hw (by omega) (fun f2 t2 O2 C2 V2 v2 hf2 ho2 => G f2 t2 O2 C2 V2 v2 (by omega) ho2)
  · subst q
    have O1 := (ih h1 hi hc (by omega)).2.2.1 rfl hl
    intro f t O C V bW bM vs w k r hf ho hk hT hh hw hr G
    exact O1 f t O C V bW bM vs w k r hf ho hk hh hw hr G
theorem sp_m1 (hX : Cx s m n d) (ih : ∀ {g j o L i i' c c' : Nat}, PX (rw4 s) (Qf s d) N g j o L i i' c c' → i' ≤ 300 → c' ≤ n → L ≤ 8 → Sp s m x y F g j L i i' c c') (h : PX (rw4 s) (Qf s d) (N + 1) 1 j o L i i' c c') (hi : i' ≤ 300) (hc : c' ≤ n) (hL : L ≤ 8) (hj : 1 ≤ j) (hj7 : j < 7) (hl : lvN s i' < j) : XM s m x y F L j i i' c c' := by
  have h : PF (rw4 s) (Qf s d) (PX (rw4 s) (Qf s d) N) 1 j o L i i' c c' := h
  unfold PF at h
  rw [if_neg (by decide), if_pos rfl] at h
  rcases h with ⟨q1, q2⟩ | ⟨q1, q2, i1, c1, h1, q3, q4, q5, h2⟩ | ⟨q1, q2, q3, i1, c1, h1, q4, q5, h2⟩
  · subst q1; subst q2
    intro f t O C V bW bM vs w k r v hf ho hk hT hh hw hr G
    exact G f t O C V v (Nat.le_refl _) ho
  · have l1 := PX.le N h1
    have l2 := PX.le N h2
    have lj := lvN_j (s := s) (by omega) q1
    have E1 := (ih h1 (by omega) (by omega) (by omega)).1 rfl (by omega) (by omega) (h2.m1 hj7 hl)
    have M1 := (ih h2 hi hc (by omega)).2.1 rfl hj hj7 hl
    have t1 := h2.m1 hj7 hl
    intro f t O C V bW bM vs w k r v hf ho hk hT hh hw hr G
    have hD := ho.2.2.2.2.2.2
    refine g_dec (kd := (s.1 0).getD i 0) hX ho (by omega) (by omega) (by omega) (by omega) rfl (lvN_st (by omega)) q2 q4 (q := c1 + 1) (j := i1) q5 (by omega) (by omega) (fun g v' hg => ?_) (fun g hg => ?_)
    · exact M1 g t O C V bW bM vs w k (r + 179) v' (by omega) (ho.f (by omega)) hk hT hh hw (by omega) (fun f2 t2 O2 C2 V2 v2 hf2 ho2 => (G f2 t2 O2 C2 V2 v2 (by omega) ho2).mono (by omega))
    · refine E1 g t O C V bW bM vs (w ++ [nI k]) i (r + 179) (by omega) (ho.f (by omega)) (by omega) (by omega) (by omega) (by rw [len1]; omega) (by omega) (fun f2 t2 O2 C2 V2 v2 hf2 ho2 => ?_)
      rw [show r + 179 - (2 * (8 - L) + 1) = r + 178 - (2 * (8 - L) + 1) + 1 by omega]
      refine g_tr (mk := (s.1 0).getD i 0) hX (by omega) (by omega) (by omega) (by rw [len1]; omega) rfl rfl (by rcases q2 with q | q <;> simp only [show (s.1 0).getD i 0 = _ from q.1] <;> decide) (lvN_le (by omega)) q3 (by omega) (fun v3 => ?_)
      exact M1 f2 t2 O2 C2 V2 bW bM vs w k _ v3 (by omega) ho2 hk hT hh hw (by omega) (fun f3 t3 O3 C3 V3 v3 hf3 ho3 => (G f3 t3 O3 C3 V3 v3 (by omega) ho3).mono (by omega))
  · have l1 := PX.le N h1
    have l2 := PX.le N h2
    have lj := lvN_j (s := s) (by omega) q1
    have E1 := (ih h1 (by omega) (by omega) (by omega)).1 rfl (by omega) (by omega) (h2.m1 hj7 hl)
    have M1 := (ih h2 hi hc (by omega)).2.1 rfl hj hj7 hl
    have t1 := h2.m1 hj7 hl
    have b2 : isO2 ((s.1 0).getD i 0) := by
      have e : lvK ((s.1 0).getD i 0) = nI j := q1
      refine lv_O2 (by rw [e, nI_T (by omega)]; omega) (by rw [e, nI_T (by omega)]; omega) q2 q3
    intro f t O C V bW bM vs w k r v hf ho hk hT hh hw hr G
    have hD := ho.2.2.2.2.2.2
    rw [show r = r - 1 + 1 by omega]
    refine g_bin (by omega) (by omega) (by omega) rfl (lvN_st (by omega)) b2.lv.1 q2 q3 ?_
    refine E1 f t O C V bW bM (vs ++ [v]) (w ++ [nI k]) i (r - 1) (by omega) ho (by omega) (by omega) (by rw [len1]; omega) (by rw [len1]; omega) (by rw [len1]; omega) (fun f2 t2 O2 C2 V2 v2 hf2 ho2 => ?_)
    refine g_bi (mk := (s.1 0).getD i 0) hX ho2 (by omega) (by omega) (by omega) (by rw [len1]; omega) rfl rfl b2 (lvN_le (by omega)) q4 q5 (by omega) (by omega) (fun g v3 hg => ?_)
    exact M1 g t2 O2 C2 V2 bW bM vs w k _ v3 (by omega) (ho2.f (by omega)) hk hT hh hw (by omega) (fun f3 t3 O3 C3 V3 v3 hf3 ho3 => (G f3 t3 O3 C3 V3 v3 (by omega) ho3).mono (by omega))
theorem sp_o2 (hX : Cx s m n d) (ih : ∀ {g j o L i i' c c' : Nat}, PX (rw4 s) (Qf s d) N g j o L i i' c c' → i' ≤ 300 → c' ≤ n → L ≤ 8 → Sp s m x y F g j L i i' c c') (h : PX (rw4 s) (Qf s d) (N + 1) 2 j o L i i' c c') (hi : i' ≤ 300) (hc : c' ≤ n) (hL : L ≤ 8) (hl : lvN s i' < 7) : XO s m x y F L i i' c c' := by
  have h : PF (rw4 s) (Qf s d) (PX (rw4 s) (Qf s d) N) 2 j o L i i' c c' := h
  unfold PF at h
  rw [if_neg (by decide), if_neg (by decide), if_pos rfl] at h
  rcases h with ⟨q1, q2, q3, q4, q5⟩ | ⟨q1, q2, q3, q4⟩ | ⟨q1, q2, q3, q4, q5, v, q6, q7⟩ | ⟨q1, q2, i1, h1, q3, q4⟩ | ⟨q1, q2, c1, h1, q3, q4, q5⟩ | h1
  · subst q2; subst q3
    intro f t O C V bW bM vs w k r hf ho hk hh hw hr G
    have hD := ho.2.2.2.2.2.2
    rw [show r = r - 1 + 1 by omega]
    exact g_num hX (by omega) (by omega) q1 rfl q4 q5 (by omega) ((G f t O C V _ (Nat.le_refl _) ho).mono (by omega))
  · subst q2; subst q3
    intro f t O C V bW bM vs w k r hf ho hk hh hw hr G
    have hD := ho.2.2.2.2.2.2
    exact g_in hX ho (by omega) (by omega) q1 q4 (by omega) (by omega) (fun g v hg ht => (G g (t + 1) O C V v (by omega) (ho.up (by omega) (by omega) ho.2.2.1 ho.2.2.2.1 ho.2.2.2.2.1)).mono (by omega))
  · subst q2; subst q3
    intro f t O C V bW bM vs w k r hf ho hk hh hw hr G
    have hD := ho.2.2.2.2.2.2
    rw [show r = r - 1 + 1 by omega]
    exact g_var hX ho (by omega) (by omega) q1 q7 q6 q4 (q5.trans q7) (by omega) (fun v => (G f t O C V _ (Nat.le_refl _) ho).mono (by omega))
  · subst q4
    have l1 := PX.le N h1
    have l29 : lvN s i1 = 0 := (lvN_k q3).trans (by decide)
    have E1 := (ih h1 (by omega) (by omega) (by omega)).1 rfl (by omega) (by omega) (by omega)
    have l28 : lvN s i = 0 := (lvN_k q1).trans (by decide)
    intro f t O C V bW bM vs w k r hf ho hk hh hw hr G
    have hD := ho.2.2.2.2.2.2
    rw [show r = r - 1 + 1 by omega]
    refine g_op (by omega) q1 (by simp) (by rw [len1]; omega) ?_
    refine E1 f t O C V bW bM vs (w ++ [nI k]) i (r - 1) hf ho (by omega) (by omega) (by omega) (by rw [len1]; omega) (by omega) (fun f2 t2 O2 C2 V2 v2 hf2 ho2 => ?_)
    rw [show r - 1 - (2 * (8 - (L + 1)) + 1) = r - (2 * (8 - L) + 1) + 1 by omega]
    exact g_clo (by omega) (by omega) (by rw [len1]; omega) q3 q1 (G f2 t2 O2 C2 V2 v2 hf2 ho2)
  · subst q5
    have l1 := PX.le N h1
    have O1 := (ih h1 hi (by omega) (by omega)).2.2.1 rfl hl
    have q1' : (s.1 0).getD i 0 = 25 ∨ (s.1 0).getD i 0 = 26 ∨ (s.1 0).getD i 0 = 36 := q1
    have lk : lvK ((s.1 0).getD i' 0) ≤ 7 := by
      have := lvK_b ((s.1 0).getD i' 0)
      unfold in07 at this
      rw [i_le, show (7 : Int32).toInt = 7 by decide]
      exact this.2
    intro f t O C V bW bM vs w k r hf ho hk hh hw hr G
    have hD := ho.2.2.2.2.2.2
    rw [show r = r - 1 + 1 by omega]
    refine g_op (q := (s.1 0).getD i 0) (by omega) rfl (by rcases q1' with q | q | q <;> simp only [q] <;> decide) (by rw [len1]; omega) ?_
    refine O1 f t O C V bW bM vs (w ++ [nI k]) i (r - 1) hf ho (by omega) (by omega) (by rw [len1]; omega) (by omega) (fun f2 t2 O2 C2 V2 v2 hf2 ho2 => ?_)
    exact g_un (mk := (s.1 0).getD i 0) hX ho2 (by omega) (by omega) (by omega) (by rw [len1]; omega) rfl rfl q1' lk q3 q4 (by omega) (by omega) (fun g v3 hg => (G g t2 O2 C2 V2 v3 (by omega) (ho2.f (by omega))).mono (by omega))
  · exact (ih h1 hi hc (by omega)).2.2.2.1 rfl hl
theorem sp_a5 (ih : ∀ {g j o L i i' c c' : Nat}, PX (rw4 s) (Qf s d) N g j o L i i' c c' → i' ≤ 300 → c' ≤ n → L ≤ 8 → Sp s m x y F g j L i i' c c') (h : PX (rw4 s) (Qf s d) (N + 1) 5 j o L i i' c c') (hi : i' ≤ 300) (hc : c' ≤ n) (hL : L ≤ 8) (hl : lvN s i' < 1) : XA s m x y F L j i i' c c' := by
  have h : PF (rw4 s) (Qf s d) (PX (rw4 s) (Qf s d) N) 5 j o L i i' c c' := h
  unfold PF at h
  rw [if_neg (by decide), if_neg (by decide), if_neg (by decide), if_neg (by decide), if_pos rfl] at h
  rcases h with ⟨q0, q1, q2⟩ | ⟨a, i1, c1, q1, q2, h1, h2⟩
  · subst q0; subst q1; subst q2
    intro f t O C V bW bM vs w k r hf ho hk hT hh hw hr G
    have := G f t O C V [] (Nat.le_refl _) rfl ho
    rw [List.append_nil] at this
    exact this
  · subst q1
    have l1 := PX.le N h1
    have l2 := PX.le N h2
    have A1 := (ih h2 hi hc (by omega)).2.2.2.2.1 rfl hl
    have z1 : lvN s i1 = 0 := by
      cases N with
      | zero => exact h2.elim
      | succ N =>
        have h : PF (rw4 s) (Qf s d) (PX (rw4 s) (Qf s d) N) 5 a 0 L i1 i' c1 c' := h2
        unfold PF at h
        rw [if_neg (by decide), if_neg (by decide), if_neg (by decide), if_neg (by decide), if_pos rfl] at h
        rcases h with ⟨w0, w1, w2⟩ | ⟨a', i2, c2, w1, w2, h3, h4⟩
        · rw [← w1]; omega
        · exact (lvN_k w2).trans (by decide)
    have E1 := (ih h1 (by omega) (by omega) (by omega)).1 rfl (by omega) (by omega) (by omega)
    intro f t O C V bW bM vs w k r hf ho hk hT hh hw hr G
    have hD := ho.2.2.2.2.2.2
    rw [show r = r - 1 + 1 by omega]
    refine g_com (kd := 32) (by omega) (by omega) (by omega) q2 (lvN_0 hT) (Or.inl rfl) ?_
    refine E1 f t O C V bW bM vs w k (r - 1) hf ho hk (by omega) (by omega) hw (by omega) (fun f2 t2 O2 C2 V2 v2 hf2 ho2 => ?_)
    refine A1 f2 t2 O2 C2 V2 bW bM (vs ++ [v2]) w k _ (by omega) ho2 hk hT (by rw [len1]; omega) hw (by rw [len1]; omega) (fun f3 t3 O3 C3 V3 us hf3 hus ho3 => ?_)
    rw [List.append_assoc]
    exact (G f3 t3 O3 C3 V3 ([v2] ++ us) (by omega) (by rw [List.length_append, hus]; exact Nat.add_comm 1 a) ho3).mono (by omega)
end SEX
