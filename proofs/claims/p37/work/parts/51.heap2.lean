/-! rows on the plain heap -/
theorem gW_self (G : ab_G) : gW G (gI G) = G := rfl
section UH
variable {F : Nat → Prop} {G : ab_G} {T : Tx} {d : Nat} {Γ : ab_Gm} {o : Nat} {I : ab_Info} {scL : Nat} {scX : Nat → Int32} {P : ab_Pq} {X : ab_Xq} {R : ab_K} {pc : Nat} {L : List (Option Value)} {S r : List Value} {bc bs : Nat}
theorem uh_getI {i ci f a : Nat} (h2 : Rep2 F G T) (hk : tK T a = ci + 1) (hob : H_obj (ci + 1) ∧ f < ab_nf ci) (hR : ab_Cl d Γ o I scL scX P X R) (hd : decode (mCd I) pc = .ok (.getfield i, 3)) (hf : ab_fR o i = some (ci, f)) (ht : ab_isR (ab_ty ci f) = false) (h : R (pc + 3) L (.int (tV T a f) :: r) G bc bs) : R pc L (.ref a :: r) G bc bs := by
  have h0 := (h2.2.2.2.1 a).1 (by rw [hk]; exact hob.1)
  exact us_getI hR hd hf (by have := h0.1; omega) ht (by rw [h0.2.1 f (by rw [hk]; exact ⟨hob.2, ht⟩)]; exact h)
theorem uh_getR {i ci f a b : Nat} (h2 : Rep2 F G T) (hk : tK T a = ci + 1) (hob : H_obj (ci + 1)) (hb : tW T a f = some b) (hR : ab_Cl d Γ o I scL scX P X R) (hd : decode (mCd I) pc = .ok (.getfield i, 3)) (hf : ab_fR o i = some (ci, f)) (ht : ab_isR (ab_ty ci f) = true) (h : R (pc + 3) L (.ref b :: r) G bc bs) : R pc L (.ref a :: r) G bc bs := by
  have h0 := (h2.2.2.2.1 a).1 (by rw [hk]; exact hob)
  exact us_getR hR hd hf (by have := h0.1; omega) ht (by rw [h0.2.2 f]; exact hb) h
theorem uh_putI {i ci f a : Nat} {x : Int32} (h2 : Rep2 F G T) (hk : tK T a = ci + 1) (hob : H_obj (ci + 1)) (hR : ab_Cl d Γ o I scL scX P X R) (hd : decode (mCd I) pc = .ok (.putfield i, 3)) (hf : ab_fR o i = some (ci, f)) (hfin : (ab_T ci f).2.2.2 = false ∨ (ab_ini I = true ∧ ci = o)) (ht : ab_isR (ab_ty ci f) = false) (hn : narrow (ab_ty ci f) (.int x) = .int x) (h : ∀ G1 T1, T1 = tsV T a f x → Rep2 F G1 T1 → SameF F G G1 → R (pc + 3) L r G1 bc bs) : R pc L (.int x :: .ref a :: r) G bc bs := by
  have h0 := (h2.2.2.2.1 a).1 (by rw [hk]; exact hob)
  have hp := H_putI h2 f x (a := a) (by rw [hk]; exact hob)
  exact us_putI hR hd hf hfin (by have := h0.1; omega) ht hn (h _ _ rfl hp.1 hp.2)
theorem uh_putR {i ci f a x : Nat} (h2 : Rep2 F G T) (hk : tK T a = ci + 1) (hob : H_obj (ci + 1)) (hR : ab_Cl d Γ o I scL scX P X R) (hd : decode (mCd I) pc = .ok (.putfield i, 3)) (hf : ab_fR o i = some (ci, f)) (hfin : (ab_T ci f).2.2.2 = false ∨ (ab_ini I = true ∧ ci = o)) (ht : ab_isR (ab_ty ci f) = true) (h : ∀ G1 T1, T1 = tsW T a f (some x) → Rep2 F G1 T1 → SameF F G G1 → R (pc + 3) L r G1 bc bs) : R pc L (.ref x :: .ref a :: r) G bc bs := by
  have h0 := (h2.2.2.2.1 a).1 (by rw [hk]; exact hob)
  have hp := H_putR h2 f (some x) (a := a) (by rw [hk]; exact hob)
  exact us_putR hR hd hf hfin (by have := h0.1; omega) ht (h _ _ rfl hp.1 hp.2)
theorem uh_new {i ci : Nat} (k : Nat) (h2 : Rep2 F G T) (hk : k = ci + 1 ∧ H_obj k ∨ k = 107 ∧ ci = 6 ∨ k = 101 ∧ ci = 0) (hR : ab_Cl d Γ o I scL scX P X R) (hd : decode (mCd I) pc = .ok (.new i, 3)) (hc : ab_cR o i = some ci) (hci : ci < 13) (h1 : 1 ≤ bc) (hs : ab_nf ci ≤ bs) (h : ∀ G1 T1, T1 = tNew T k → Rep2 F G1 T1 → SameF F G G1 → R (pc + 3) L (.ref (tZ T) :: S) G1 (bc - 1) (bs - ab_nf ci)) : R pc L S G bc bs := by
  have hp := H_new h2 k ci hk
  refine us_new hR hd hc hci h1 hs ?_
  rw [h2.1]
  exact h _ _ rfl hp.1 hp.2
end UH
section HR
variable {F : Nat → Prop} {G : ab_G} {T : Tx} {d : Nat} {P : ab_Pq} {X : ab_Xq} {a : Nat}
theorem hr_size (h2 : Rep2 F G T) (hk : tK T a = 7) (h : P G (some (.int (nI (tB T a).length)))) : ab_Gam (d + 1) 6001 [.ref a] G P X := by
  obtain ⟨b, hb, hi⟩ := H_rowEx h2 hk
  exact sp_Row_size (G := G) (I := gI G) hb hi h
theorem hr_get (h2 : Rep2 F G T) (hk : tK T a = 7) {x : Int32} (h : P G (some (.int (xg (tB T a) x)))) : ab_Gam (d + 1) 6002 [.ref a, .int x] G P X := by
  obtain ⟨b, hb, hi⟩ := H_rowEx h2 hk
  exact sp_Row_get (G := G) (I := gI G) hb hi h
theorem hr_last (h2 : Rep2 F G T) (hk : tK T a = 7) (h : P G (some (.int (xlast (tB T a))))) : ab_Gam (d + 1) 6005 [.ref a] G P X := by
  obtain ⟨b, hb, hi⟩ := H_rowEx h2 hk
  exact sp_Row_last (G := G) (I := gI G) hb hi h
theorem hr_placeOf (h2 : Rep2 F G T) (hk : tK T a = 7) {v : Int32} (h : P G (some (.int (xpos (tB T a) v)))) : ab_Gam (d + 1) 6010 [.ref a, .int v] G P X := by
  obtain ⟨b, hb, hi⟩ := H_rowEx h2 hk
  exact sp_Row_placeOf (G := G) (I := gI G) hb hi h
theorem hr_set (h2 : Rep2 F G T) (hk : tK T a = 7) {x v : Int32} (h : ∀ G1 T1, T1 = tsB T a (xset (tB T a) x v) → Rep2 F G1 T1 → SameF F G G1 → P G1 none) : ab_Gam (d + 1) 6003 [.ref a, .int x, .int v] G P X := by
  obtain ⟨b, hb, hi⟩ := H_rowEx h2 hk
  exact sp_Row_set (G := G) (I := gI G) hb hi (fun I' q1 q2 => h _ _ rfl (H_row h2 hk hb q1 q2).1 (H_row h2 hk hb q1 q2).2)
theorem hr_add (h2 : Rep2 F G T) (hk : tK T a = 7) {v : Int32} (h : ∀ G1 T1, T1 = tsB T a (xadd (tC T a) (tB T a) v) → Rep2 F G1 T1 → SameF F G G1 → P G1 none) : ab_Gam (d + 1) 6004 [.ref a, .int v] G P X := by
  obtain ⟨b, hb, hi⟩ := H_rowEx h2 hk
  exact sp_Row_add (G := G) (I := gI G) hb hi (fun I' q1 q2 => h _ _ rfl (H_row h2 hk hb q1 q2).1 (H_row h2 hk hb q1 q2).2)
theorem hr_cut (h2 : Rep2 F G T) (hk : tK T a = 7) {x : Int32} (h : ∀ G1 T1, T1 = tsB T a (xcut (tB T a) x) → Rep2 F G1 T1 → SameF F G G1 → P G1 none) : ab_Gam (d + 1) 6007 [.ref a, .int x] G P X := by
  obtain ⟨b, hb, hi⟩ := H_rowEx h2 hk
  exact sp_Row_cut (G := G) (I := gI G) hb hi (fun I' q1 q2 => h _ _ rfl (H_row h2 hk hb q1 q2).1 (H_row h2 hk hb q1 q2).2)
theorem hr_empty (h2 : Rep2 F G T) (hk : tK T a = 7) (h : ∀ G1 T1, T1 = tsB T a [] → Rep2 F G1 T1 → SameF F G G1 → P G1 none) : ab_Gam (d + 1) 6008 [.ref a] G P X := by
  obtain ⟨b, hb, hi⟩ := H_rowEx h2 hk
  exact sp_Row_empty (G := G) (I := gI G) hb hi (fun I' q1 q2 => h _ _ rfl (H_row h2 hk hb q1 q2).1 (H_row h2 hk hb q1 q2).2)
theorem hr_fillWithZeros (h2 : Rep2 F G T) (hk : tK T a = 7) (h : ∀ G1 T1, T1 = tsB T a (List.replicate (tC T a) 0) → Rep2 F G1 T1 → SameF F G G1 → P G1 none) : ab_Gam (d + 1) 6009 [.ref a] G P X := by
  obtain ⟨b, hb, hi⟩ := H_rowEx h2 hk
  exact sp_Row_fillWithZeros (G := G) (I := gI G) hb hi (fun I' q1 q2 => h _ _ rfl (H_row h2 hk hb q1 q2).1 (H_row h2 hk hb q1 q2).2)
theorem hr_takeLast (h2 : Rep2 F G T) (hk : tK T a = 7) (h : ∀ G1 q, q = (tsB T a (tB T a).dropLast, xlast (tB T a)) → Rep2 F G1 q.1 → SameF F G G1 → P G1 (some (.int q.2))) : ab_Gam (d + 1) 6006 [.ref a] G P X := by
  obtain ⟨b, hb, hi⟩ := H_rowEx h2 hk
  exact sp_Row_takeLast (G := G) (I := gI G) hb hi (fun I' q1 q2 => h _ _ rfl (H_row h2 hk hb q1 q2).1 (H_row h2 hk hb q1 q2).2)
theorem hr_init (h2 : Rep2 F G T) (hk : tK T a = 107) {x : Int32} (hx : 0 ≤ x.toInt ∧ x.toInt < 60000) (h : ∀ G1 T1, T1 = tRow T a x.toNatClampNeg → Rep2 F G1 T1 → SameF F G G1 → P G1 none) : ab_Gam (d + 1) 6000 [.ref a, .int x] G P X := by
  have hg := ((h2.2.2.2.1 a).2.2.2.1 hk).1
  have hn : x.toNatClampNeg < 60000 := by rw [i_cl]; omega
  have hp := H_rowNew h2 hk (n := x.toNatClampNeg) (by omega)
  have ha := h2.2.2.1 a (by rw [hk]; decide)
  refine ab_enter (I := i6000) rfl (Nat.le_of_ble_eq_true rfl) (fun R hR => ?_)
  refine us_aload_n hR dX5_init_0 rfl ?_
  refine us_objInit hR dX5_init_1 (by decide +kernel) (Nat.le_of_ble_eq_true rfl) ?_
  refine us_aload_n hR dX5_init_4 rfl ?_
  refine us_iload_n hR dX5_init_5 rfl ?_
  refine us_if_ge hR dX5_init_6 13 (by decide) (fun c => ?_) (fun c => ?_)
  · skip
    refine us_iload_n hR dX5_init_13 rfl ?_
    refine us_newa14 hR dX5_init_14 (by rw [i_lt, i_0]; omega) (by omega) (Nat.le_refl 1) (Nat.le_refl _) ?_
    refine us_putR hR dX5_init_16 fR_6_9 (Or.inr ⟨rfl, rfl⟩) (by show u1 (gK G) (gZ G) 14 a = 6; rw [show u1 (gK G) (gZ G) 14 a = gK G a from if_neg (by rw [h2.1]; omega)]; exact hg) rfl ?_
    refine us_vret hR dX5_init_19 rfl ?_
    rw [h2.1]
    exact h _ _ rfl hp.1 hp.2
  · skip
    exfalso
    first | (rw [i_lt, i_0] at c; omega) | (rw [i_le, i_0] at c; omega)
/-- the count of changes of a list that is not made yet may be set -/
theorem H_raw0 (h : Rep2 F G T) {a : Nat} (hk : tK T a = 101) : Rep2 F (sI G a 0 0) T ∧ SameF F G (sI G a 0 0) := by
  obtain ⟨h1, h2, h3, h4, h5, h6⟩ := h
  have ha := h3 a (by rw [hk]; decide)
  have hka := ((h4 a).2.2.2.2 hk).1
  have o : ∀ b, b ≠ a → cSame G (sI G a 0 0) b := fun b hb => cSame_u hb rfl rfl (u2_n _ _ _ hb) rfl
  refine ⟨⟨h1, h2, h3, fun b => ?_, h5, h6⟩, fun b hb => ?_⟩
  · by_cases e : b = a
    · subst e
      have hh := (h4 b).2.2.2.2 hk
      refine ⟨fun q => ?_, fun q => ?_, fun q => ?_, fun q => ?_, fun _ => ⟨hh.1, ?_⟩⟩
      · rw [hk] at q; exact absurd q.2.1 (by decide)
      · rw [hk] at q; exact absurd q (by decide)
      · rw [hk] at q; exact absurd q (by decide)
      · rw [hk] at q; exact absurd q (by decide)
      · show u2 (gI G) b 0 0 b 2 = 0
        rw [u2_s]
        exact hh.2
    · exact H_fr (h4 b) (Nat.le_refl _) h1 h1 rfl rfl rfl rfl rfl rfl (fun _ => o b e) (fun c _ _ h14 _ => o c (fun q => by rw [q, hka] at h14; exact absurd h14 (by decide))) (fun c _ _ h16 _ _ => o c (fun q => by rw [q, hka] at h16; exact absurd h16 (by decide)))
  · have hn : b ≠ a := fun q => ha.2.1 (q ▸ hb)
    exact ⟨rfl, rfl, u2_n _ _ _ hn, rfl, rfl⟩
theorem hl_init (h2 : Rep2 F G T) (hk : tK T a = 101) (h : ∀ G1 T1, T1 = tLst T a → Rep2 F G1 T1 → SameF F G G1 → P G1 none) : ab_Gam (d + 41) 4 [.ref a] G P X := by
  have hg := (h2.2.2.2.1 a).2.2.2.2 hk
  have h3 := H_raw0 h2 hk
  have hp := H_lstNew h3.1 hk
  exact ⟨by omega, hg.1, hg.2, h _ _ rfl hp.1 (h3.2.tr hp.2)⟩
theorem hl_size (h2 : Rep2 F G T) (hk : tK T a = 1) (h : P G (some (.int (nI (tA T a).length)))) : ab_Gam (d + 41) 5 [.ref a] G P X := by
  have hL := ((h2.2.2.2.1 a).2.2.1 hk).1
  refine ⟨by omega, hL.1, ?_⟩
  rw [hL.2.1]
  exact h
theorem hl_len (h2 : Rep2 F G T) (hk : tK T a = 1) : (tA T a).length ≤ 33 := by
  have hL := ((h2.2.2.2.1 a).2.2.1 hk).1
  rcases hL.2.2 with ⟨q, _, _⟩ | ⟨e, _, _, _, q1, _, q2, _⟩
  · rw [q]; exact Nat.zero_le _
  · omega
theorem hl_get (h2 : Rep2 F G T) (hk : tK T a = 1) {x : Int32} (hx : vi x (tA T a).length) (h : P G (some (.ref ((tA T a).getD x.toNatClampNeg 0)))) : ab_Gam (d + 41) 6 [.ref a, .int x] G P X := by
  have hL := ((h2.2.2.2.1 a).2.2.1 hk).1
  have hl := hl_len h2 hk
  have hn : x.toNatClampNeg < (tA T a).length := by rw [i_cl]; have := hx.1; have := hx.2; omega
  refine ⟨by omega, tA T a, tC T a, hL, by omega, x.toNatClampNeg, ?_, (tA T a).getD x.toNatClampNeg 0, ?_, h⟩
  · rw [i_eq]
    rw [show (Int32.ofNat x.toNatClampNeg) = nI x.toNatClampNeg from rfl, nI_T (by omega), i_cl]
    have := hx.1
    omega
  · rw [List.getD_eq_getElem?_getD, List.getElem?_eq_getElem hn]
    rfl
theorem hl_add (h2 : Rep2 F G T) (hk : tK T a = 1) {x : Nat} (hl : (tA T a).length ≤ 32) (hx : tK T x ≠ 0) (h : ∀ G1 T1, T1 = tAdd T a x → Rep2 F G1 T1 → SameF F G G1 → P G1 (some (.int 1))) : ab_Gam (d + 41) 7 [.ref a, .ref x] G P X := by
  have hL := ((h2.2.2.2.1 a).2.2.1 hk).1
  have h0 := h2.2.2.1 x hx
  refine ⟨by omega, tA T a, tC T a, hL, hl, by rw [h2.1]; exact h0.1, H_kind h2 h0.2.2, fun G' q1 q2 q3 q4 => ?_⟩
  have hp := H_lstAdd h2 hk q1 q2 q3 q4
  exact h _ _ rfl hp.1 hp.2
end HR
