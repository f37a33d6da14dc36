/-! the pass over calls and operands -/
section PXC
variable {s s1 s' : Sx} {a a1 a' c c1 c' k k1 k' e L : Nat}
/-- further arguments -/
theorem d21_loop {n : Nat} (h18 : D18 n) {l1 : Int32} : ∀ (m : Nat) (r : Nat) (l3 : Int32) (a c k : Nat) (s s' : Sx), PI a e L c k s → f_5021_L102 (f_rd n) m l1 (nI r) l3 s = some s' → Cap s' →
    ∃ z a' c' k' w N, f_5021_J142 (f_rd n) l1 (nI (r + w)) z = some s' ∧ Lv a' e L z ∧ a ≤ a' ∧ Nl z ∧ z.2 5 = s.2 5 ∧ Sg s z a a' c c' k k' ∧ PX (rw4 z) (Qs z k k') N 5 w 0 L a a' c c' := by
  intro m
  induction m with
  | zero => intro r l3 a c k s s' _ h; cases h
  | succ m ihm =>
    intro r l3 a c k s s' ⟨hL, hl, hN, hv⟩ h hC
    have he := hL.2.2.2.2.1
    have hle := hL.2.2.2.1
    have hc0 : c < 600 := by
      have := hC.bk h (fun p h => JM.L102 (JM.rd n) _ _ _ _ _ h)
      have := this.2.1
      rw [hl.1] at this
      exact this
    have stop : f_5021_J142 (f_rd n) l1 (nI r) s = some s' → ∃ z a' c' k' w N, f_5021_J142 (f_rd n) l1 (nI (r + w)) z = some s' ∧ Lv a' e L z ∧ a ≤ a' ∧ Nl z ∧ z.2 5 = s.2 5 ∧ Sg s z a a' c c' k k' ∧ PX (rw4 z) (Qs z k k') N 5 w 0 L a a' c c' := fun q =>
      ⟨s, a, c, k, 0, 1, q, hL, Nat.le_refl _, hN, rfl, Sg.i rfl hl (Nat.le_refl _) (by omega) (by omega), PX1 (by unfold PF; rw [if_neg (by decide), if_neg (by decide), if_neg (by decide), if_neg (by decide), if_pos rfl]; exact Or.inl ⟨rfl, rfl, rfl⟩)⟩
    rw [f_5021_L102] at h
    by_cases h3 : 300 ≤ l3
    · rw [if_pos h3] at h
      exact stop h
    rw [if_neg h3, show f_5003 s = au_ko s from rfl] at h
    by_cases hq : au_ko s = 32
    case neg =>
      rw [if_neg hq] at h
      exact stop h
    rw [if_pos hq] at h
    have hae := hL.lt (by rw [hq]; decide)
    have h : bOv (f_rd n 5018 (nI 1) (au_nx s)) (fun s10 => f_5021_L102 (f_rd n) m l1 (nI r + 1) (l3 + 1) s10) = some s' := h
    obtain ⟨s2, e2⟩ := bOv_ex h
    have h := bOv_go h e2
    rw [nI_1] at h
    have c2 : Cap s2 := hC.bk h (fun p h => JM.L102 (JM.rd n) _ _ _ _ _ h)
    have sg1 : Sg s (au_nx s) a (a + 1) c c k k := Sg.i rfl hl (by omega) (by omega) (by omega)
    obtain ⟨a2, cq, kq, N1, g1, g2, g3, g4, g5, g6⟩ := h18 1 (by omega) (by omega) (a + 1) e L c k _ s2 ⟨hL.nx hae, hl, hN, hv⟩ e2 c2
    have b2 := g5.1
    obtain ⟨z, a3, c3, k3, w, N2, w0, w1, w2, w3, w4, w5, w6⟩ := ihm (r + 1) _ a2 cq kq s2 s' ⟨g1, g5.ln, g3, g5.l1.trans hv⟩ h hC
    have b3 := w5.1
    have sgB := g5.tr w5
    have kA : (rw4 z).1 a = 32 := by
      rw [sgB.K (by omega), ← hq, hL.ka]
      rfl
    have p1 := PX.sg (k0 := k) (k3 := k3) g6 w5.F (Nat.le_refl _) (Nat.le_refl _) (Nat.le_refl _) (Nat.le_refl _) (by omega)
    have w6' := PX.ag (R' := rw4 z) (Q' := Qs z k k3) (fun i c n q => q.w (by omega) (Nat.le_refl _)) N2 w6 ⟨fun _ _ _ => ⟨rfl, fun _ => rfl⟩, fun q => q, fun _ _ _ => ⟨rfl, fun _ => rfl⟩⟩
    refine ⟨z, a3, c3, k3, w + 1, (N1 + N2) + 1, by rw [show r + (w + 1) = r + 1 + w by omega]; exact w0, w1, by omega, w3, w4.trans g4, sg1.tr sgB, PX1 ?_⟩
    unfold PF
    rw [if_neg (by decide), if_neg (by decide), if_neg (by decide), if_neg (by decide), if_pos rfl]
    exact Or.inr ⟨w, a2, cq, rfl, kA, p1.up (by omega), w6'.up (by omega)⟩
/-- the ) of a call -/
theorem d21_end {n r : Nat} {s18 z : Sx} (hF : Fx s s18 a c k) (hl : Ln s c k) (h15 : (s18.1 15).getD k 0 = nI a) (hS : Sg s18 z (a + 2) a1 c c1 (k + 1) k1) (hk : k < 100000) (h : f_5021_J142 (f_rd n) (nI k) (nI r) z = some s') (hC : Cap s') (hL : Lv a1 e (L + 1) z) (hK : (rw4 s18).1 a = 35) :
    au_ko z = 29 ∧ Sg s s' a (a1 + 1) c (c1 + 1) k k1 ∧ Lv (a1 + 1) e L s' ∧ (rw4 s').2.2.1 c1 = 15 ∧ Qs s' k k1 a c1 r ∧ (rw4 s').1 = (rw4 z).1 ∧ s'.2 5 = z.2 5 ∧ (∀ j, j ≠ 7 → j ≠ 8 → j ≠ 16 → j ≠ 17 → s'.1 j = z.1 j) ∧ Ag (rw4 z) (rw4 s') (a + 2) a1 c c1 ∧ ∀ i x m, Qs z (k + 1) k1 i x m → Qs s' k k1 i x m := by
  have hb := hS.1
  have he := hL.2.2.2.2.1
  have hx : au_ko z = 29 := by
    have h0 := hC.1
    have e0 : s'.2 0 = (f_5006 29 z).2 0 := by
      unfold f_5021_J142 at h
      have h : some (au_rs 17 (nI k) (au_cn (au_cd 15 0 (au_rs 16 (nI k) (nI r) (au_dn (f_5006 29 z))))) (au_cd 15 0 (au_rs 16 (nI k) (nI r) (au_dn (f_5006 29 z))))) = some s' := h
      cases h
      rfl
    rw [e0] at h0
    exact (ex_ok h0).1
  rw [clz_142 hx] at h
  cases h
  have hae := hL.lt (by rw [hx]; decide)
  obtain ⟨z1, z2, z3, z4, z5⟩ := hS.ln
  have e16 : (au_rs 16 (nI k) (nI r) (au_dn (au_nx z))).1 16 = (z.1 16).set k (nI r) := by
    show xset (z.1 16) (nI k) (nI r) = _
    rw [xset_n hk]
  have hlz : Ln (au_rs 16 (nI k) (nI r) (au_dn (au_nx z))) c1 k1 := by
    refine ⟨z1, z2, z3, ?_, z5⟩
    rw [e16, List.length_set, z4]
  have hc1 : c1 < 600 := by
    have h7 : (xadd (ev_cap 7) (z.1 7) 15).length < 600 := hC.2.1
    have := xadd_ge (ev_cap 7) (z.1 7) 15
    omega
  have hcn : au_cn (au_cd 15 0 (au_rs 16 (nI k) (nI r) (au_dn (au_nx z)))) = nI c1 := cn_cd hlz hc1
  have e17 : (au_clz (nI k) (nI r) z).1 17 = (z.1 17).set k (nI c1) := by
    show xset (z.1 17) (nI k) (au_cn (au_cd 15 0 (au_rs 16 (nI k) (nI r) (au_dn (au_nx z))))) = _
    rw [hcn, xset_n hk]
  have e16' : (au_clz (nI k) (nI r) z).1 16 = (z.1 16).set k (nI r) := e16
  have e7 : (au_clz (nI k) (nI r) z).1 7 = z.1 7 ++ [15] := xadd_e (show (z.1 7).length < 600 by omega)
  have e8 : (au_clz (nI k) (nI r) z).1 8 = z.1 8 ++ [0] := xadd_e (show (z.1 8).length < 600 by omega)
  have ej : ∀ j, j ≠ 7 → j ≠ 8 → j ≠ 16 → j ≠ 17 → (au_clz (nI k) (nI r) z).1 j = z.1 j := fun j h1 h2 h3 h4 => by
    show (if j = 17 then _ else if j = 8 then _ else if j = 7 then _ else if j = 16 then _ else z.1 j) = _
    rw [if_neg h4, if_neg h2, if_neg h1, if_neg h3]
  have e15 := ej 15 (by decide) (by decide) (by decide) (by decide)
  have e0 := ej 0 (by decide) (by decide) (by decide) (by decide)
  have e1 := ej 1 (by decide) (by decide) (by decide) (by decide)
  obtain ⟨f1, f2, f3, f4, f5, f6⟩ := hF.tr hS.F (by omega) (Nat.le_refl _) (by omega)
  have k15 : (z.1 15).getD k 0 = nI a := by rw [(hS.F.2.2.2.2.1 k (by omega)).1, h15]
  have hKz : (z.1 0).getD a 0 = 35 := by
    have : (rw4 z).1 a = (rw4 s18).1 a := hS.K (by omega)
    exact this.trans hK
  refine ⟨hx, ⟨⟨by omega, by omega, by omega, by omega, by omega⟩, hl, ⟨?_, ?_, ?_, ?_, ?_⟩, ⟨?_, fun x hx => ?_, fun x hx => ?_, fun x hx => ?_, fun q hq => ?_, fun j h1 h2 => ?_⟩, ?_⟩, ?_, ?_, ?_, ?_, rfl, ej, ?_, ?_⟩
  · rw [e7, List.length_append, z1]; rfl
  · rw [e8, List.length_append, z2]; rfl
  · rw [e15]; exact z3
  · rw [e16', List.length_set]; exact z4
  · rw [e17, List.length_set]; exact z5
  · rw [e1]; exact f1
  · rw [e0, e1]; exact f2 x hx
  · rw [e0]; exact f3 x hx
  · rw [e7, e8, gD_app_l (by omega), gD_app_l (by omega)]; exact f4 x hx
  · rw [e15, e16', e17, gD_set_n (by omega), gD_set_n (by omega)]; exact f5 q hq
  · rw [ej j (by omega) (by omega) (by omega) (by omega)]; exact f6 j h1 h2
  · intro q h1 h2
    by_cases hqk : q = k
    · subst hqk
      refine ⟨a, c1, by rw [e15]; exact k15, Nat.le_refl _, by omega, by rw [e17, gD_set_s (by omega)], by omega, by omega, ?_, by rw [e0]; exact hKz, fun p h3 h4 => by omega⟩
      rw [e7, ← z1, gD_app_r]
    · obtain ⟨t, x, w1, w2, w3, w4, w5, w6, w7, w8, w9⟩ := hS.2.2.2.2 q (by omega) h2
      refine ⟨t, x, by rw [e15]; exact w1, by omega, by omega, by rw [e17, gD_set_n (by omega)]; exact w4, w5, by omega, by rw [e7, gD_app_l (by omega)]; exact w7, by rw [e0]; exact w8, fun p h3 h4 => ?_⟩
      by_cases hp : p = k
      · subst hp
        rw [e15, k15, e17, gD_set_s (by omega)]
        exact ⟨nI_ne (by omega) (by omega) (by omega), nI_ne (by omega) (by omega) (by omega)⟩
      · rw [e15, e17, gD_set_n (by omega)]
        exact w9 p (by omega) h4
  · exact ((hL.nx hae).dn).co (((Co_sB (k := 16) (by decide)).tr Co_cd).tr (Co_sB (k := 17) (by decide)))
  · show ((au_clz (nI k) (nI r) z).1 7).getD c1 0 = 15
    rw [e7, ← z1, gD_app_r]
  · refine ⟨k, by omega, by omega, by rw [e15]; exact k15, by rw [e16', gD_set_s (by omega)], by rw [e17, gD_set_s (by omega)]⟩
  · show (fun x => ((au_clz (nI k) (nI r) z).1 0).getD x 0) = _
    rw [e0]
    rfl
  · refine ⟨fun x _ _ => ⟨?_, fun _ => ?_⟩, fun q => ?_, fun x h1 h2 => ⟨?_, fun _ => ?_⟩⟩
    · show ((au_clz (nI k) (nI r) z).1 0).getD x 0 = _
      rw [e0]; rfl
    · show ((au_clz (nI k) (nI r) z).1 1).getD x 0 = _
      rw [e1]; rfl
    · show ((au_clz (nI k) (nI r) z).1 0).getD _ 0 ≠ 6
      rw [e0]; exact q
    · show ((au_clz (nI k) (nI r) z).1 7).getD x 0 = _
      rw [e7, gD_app_l (by omega)]; rfl
    · show ((au_clz (nI k) (nI r) z).1 8).getD x 0 = _
      rw [e8, gD_app_l (by omega)]; rfl
  · intro i x m ⟨q, w1, w2, w3, w4, w5⟩
    exact ⟨q, by omega, w2, by rw [e15]; exact w3, by rw [e16', gD_set_n (by omega)]; exact w4, by rw [e17, gD_set_n (by omega)]; exact w5⟩
end PXC
