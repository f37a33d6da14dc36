/-! calls find their defs: in both alike -/
section LKS
variable {tx : List Int32} {s0 s : Sx} {m0 m : Mx} {i c k d : Nat}
/-- what both hold before -/
def LPr (tx : List Int32) (s0 : Sx) (m0 : Mx) (i c k d : Nat) : Prop :=
  MT tx m0 ∧ s0.2 0 = 0 ∧ m0 0 9 = 0 ∧ Ln s0 (c + 1) k ∧ c + 1 ≤ 600 ∧ k ≤ 100 ∧ d ≤ 40 ∧ i ≤ 300 ∧ (s0.1 1).length = i + 1 ∧ (s0.1 9).length = d ∧ CI s0 0 i 0 c 0 k ∧ Qc (m0 0 11) (m0 4) (m0 5) (s0.1 7) (s0.1 8) ∧
    Qd (tks tx) (m0 0 22) (m0 12) (m0 13) (m0 14) (m0 15) (s0.1 9) (s0.1 10) (s0.1 12) 0 ∧ Qk (tks tx) (m0 0 27) (m0 16) (m0 17) (m0 18) (m0 19) i (s0.1 0) (s0.1 1) (s0.1 15) (s0.1 16) (s0.1 17) (fun _ => False)
/-- some calls are told -/
def LK (s0 : Sx) (m0 : Mx) (k d l : Nat) (s : Sx) (m : Mx) : Prop :=
  (∀ j, j ≠ 1 → j ≠ 8 → s.1 j = s0.1 j) ∧ s.2 = s0.2 ∧ (s.1 1).length = (s0.1 1).length ∧ (s.1 8).length = (s0.1 8).length ∧
    (∀ x, (∀ q, q < l → (s0.1 15).getD q 0 ≠ nI x) → (s.1 1).getD x 0 = (s0.1 1).getD x 0) ∧ (∀ x, (∀ q, q < l → (s0.1 17).getD q 0 ≠ nI x) → (s.1 8).getD x 0 = (s0.1 8).getD x 0) ∧
    (∀ q, q < l → ∃ e t x, (e < d ∧ t < 1000 ∧ x < 1000) ∧ (s0.1 15).getD q 0 = nI t ∧ (s0.1 17).getD q 0 = nI x ∧ (s.1 1).getD t 0 = nI e ∧ (s.1 8).getD x 0 = nI e ∧ (s0.1 10).getD e 0 = (s0.1 16).getD q 0) ∧
    (∀ j, j ≠ 5 → m j = m0 j) ∧ ∀ x, x < (s0.1 7).length → m 5 x = cdm ((s0.1 7).getD x 0) ((s.1 8).getD x 0)
theorem LK.ini (h : LPr tx s0 m0 i c k d) : LK s0 m0 k d 0 s0 m0 := by
  obtain ⟨_, _, _, _, _, _, _, _, _, _, _, hq, _⟩ := h
  exact ⟨fun _ _ _ => rfl, rfl, rfl, rfl, fun _ _ => rfl, fun _ _ => rfl, fun q hq => absurd hq (Nat.not_lt_zero q), fun _ _ => rfl, fun x hx => (hq.2.2 x hx).2⟩
theorem L2_dead {n : Nat} {l : Int32} {s : Sx} (h : s.2 0 ≠ 0) : f_5023_L2 (n + 1) l s = some s := by
  rw [f_5023_L2]
  by_cases q : nI (s.1 15).length ≤ l
  · rw [if_pos q]
  · rw [if_neg q, if_neg h]
theorem L99_dead {n : Nat} {l1 l2 : Int32} {m : Mx} (h : m 0 9 ≠ 0) : f_12055_L99 (n + 1) l1 l2 m = some m := by
  rw [f_12055_L99]
  by_cases q : mf m 27 ≤ l2
  · rw [if_pos q]
  · rw [if_neg q, if_neg (show ¬ mf m 9 = 0 from h)]
/-- both tell the same fault, or all is told -/
def LQ (tx : List Int32) (s0 : Sx) (m0 : Mx) (k d : Nat) (x : Option Sx) (y : Option Mx) : Prop :=
  (∃ s' m' f t, x = some s' ∧ y = some m' ∧ FrR m0 m' ∧ FC s0 s' ∧ f ≠ 0 ∧ s'.2 0 = f ∧ s'.2 1 = nI t ∧ t < (tks tx).length ∧ m' 0 9 = f ∧ m' 0 10 = nI (tpl (tks tx) t)) ∨
  ∃ s' m', x = some s' ∧ y = some m' ∧ LK s0 m0 k d k s' m'
theorem gset_cases {l : List Int32} {n x : Nat} {v : Int32} (h : n < l.length) : (l.set n v).getD x 0 = if x = n then v else l.getD x 0 := by
  by_cases e : x = n
  · rw [if_pos e, e, gD_set_s h]
  · rw [if_neg e, gD_set_n (fun q => e q.symm)]
theorem LK.go (hP : LPr tx s0 m0 i c k d) : ∀ (r n N l : Nat) (s : Sx) (m : Mx), LK s0 m0 k d l s m → l + r = k → r < n → r < N → LQ tx s0 m0 k d (f_5023_L2 n (nI l) s) (f_12055_L99 N 0 (nI l) m) := by
  obtain ⟨hM, h0, h9, hl, hc, hk, hd, hi, hv, h9l, hCI, hQc, hQd, hQk⟩ := hP
  intro r
  induction r with
  | zero =>
    intro n N l s m hK hlr hn hN
    have hlk : l = k := by omega
    subst hlk
    obtain ⟨n, rfl⟩ : ∃ n', n = n' + 1 := ⟨n - 1, by omega⟩
    obtain ⟨N, rfl⟩ : ∃ n', N = n' + 1 := ⟨N - 1, by omega⟩
    refine Or.inr ⟨s, m, ?_, ?_, hK⟩
    · rw [f_5023_L2, if_pos]
      rw [hK.1 15 (by decide) (by decide), hl.2.2.1]
      exact Int32.le_refl _
    · rw [f_12055_L99, if_pos]
      show m 0 27 ≤ _
      rw [hK.2.2.2.2.2.2.2.1 0 (by decide), hQk.1, hl.2.2.1]
      exact Int32.le_refl _
  | succ r ih =>
    intro n N l s m hK hlr hn hN
    obtain ⟨n, rfl⟩ : ∃ n', n = n' + 1 := ⟨n - 1, by omega⟩
    obtain ⟨N, rfl⟩ : ∃ n', N = n' + 1 := ⟨N - 1, by omega⟩
    have hK' := hK
    obtain ⟨k1, k2, k3, k4, k5, k6, k7, k8, k9⟩ := hK
    obtain ⟨t, x, t1, t2, t3, t4, t5, t6, t7, t8, t9⟩ := hCI l (Nat.zero_le _) (by omega)
    obtain ⟨l7, l8, l15, l16, l17⟩ := hl
    obtain ⟨kn, kn16, kn17, kt, kc⟩ := hQk
    obtain ⟨t', u1, u2, u3, u4, u5, u6, u7, u8⟩ := kt l (by omega)
    have ett : t' = t := by
      rw [t1, nI_eq (by omega) (by omega)] at u3
      omega
    subst ett
    obtain ⟨v1, v2⟩ := kc l (by omega) (fun q => q)
    have e15 : s.1 15 = s0.1 15 := k1 15 (by decide) (by decide)
    have e16 : s.1 16 = s0.1 16 := k1 16 (by decide) (by decide)
    have e17 : s.1 17 = s0.1 17 := k1 17 (by decide) (by decide)
    have e9 : s.1 9 = s0.1 9 := k1 9 (by decide) (by decide)
    have e10 : s.1 10 = s0.1 10 := k1 10 (by decide) (by decide)
    have hV : (s.1 1).getD t' 0 = tvl (tks tx) t' := by
      rw [k5 t' (fun q hq => (t9 q (Nat.zero_le _) hq).1)]
      exact u6
    have hMm : MT tx m := ⟨hM.1, by rw [k8 0 (by decide)]; exact hM.2.1, fun j hj => by rw [k8 3 (by decide)]; exact hM.2.2 j hj⟩
    obtain ⟨dn, dl10, dl12, dnd, dN, dC⟩ := hQd
    have hdef := def_12030 hMm (r := s0.1 9) (by omega) dnd (fun q hq => by rw [k8 12 (by decide), k8 13 (by decide)]; exact dN q hq) (by show m 0 22 = _; rw [k8 0 (by decide)]; exact dn) u2 u4
    have g16 : mg m 16 (nI l) = nI (tpl (tks tx) t') := by
      unfold mg
      rw [nI_C (by omega), k8 16 (by decide)]
      exact u7
    have g17 : mg m 17 (nI l) = nI (ten (tks tx) t' - tpl (tks tx) t') := by
      unfold mg
      rw [nI_C (by omega), k8 17 (by decide)]
      exact u8
    have g18 : mg m 18 (nI l) = (s0.1 16).getD l 0 := by
      unfold mg
      rw [nI_C (by omega), k8 18 (by decide)]
      exact v1
    have g19 : mg m 19 (nI l) = nI x := by
      unfold mg
      rw [nI_C (by omega), k8 19 (by decide), v2]
      exact t4
    have hvi : vi (nI l) 110 := vi_n (by omega) (by omega)
    have hvx : vi (nI x) 1200 := vi_n (by omega) (by omega)
    -- the class's step
    have sC : f_5023_L2 (n + 1) (nI l) s = if xpos (s0.1 9) (tvl (tks tx) t') = -1 then f_5023_L2 n (nI (l + 1)) (f_5005 7 (nI t') s)
        else if xg (s0.1 10) (xpos (s0.1 9) (tvl (tks tx) t')) = (s0.1 16).getD l 0 then f_5023_L2 n (nI (l + 1)) (f_4009 (nI x) (xpos (s0.1 9) (tvl (tks tx) t')) (sB s 1 (xset (s.1 1) (nI t') (xpos (s0.1 9) (tvl (tks tx) t')))))
        else f_5023_L2 n (nI (l + 1)) (f_5005 8 (nI t') s) := by
      have hx15 : xg (s.1 15) (nI l) = nI t' := by rw [xg_n (by omega), e15]; exact t1
      have hx16 : xg (s.1 16) (nI l) = (s0.1 16).getD l 0 := by rw [xg_n (by omega), e16]
      have hx17 : xg (s.1 17) (nI l) = nI x := by rw [xg_n (by omega), e17]; exact t4
      have hx1 : xg (s.1 1) (nI t') = tvl (tks tx) t' := by rw [xg_n (by omega)]; exact hV
      have h12 : f_4012 (tvl (tks tx) t') s = xpos (s0.1 9) (tvl (tks tx) t') := by unfold f_4012; rw [e9]
      have h13 : ∀ z, f_4013 z s = xg (s0.1 10) z := fun z => by unfold f_4013; rw [e10]
      rw [f_5023_L2, if_neg (by rw [e15, l15]; exact fun q => by rw [i_le, nI_T (by omega), nI_T (by omega)] at q; omega), if_pos (by rw [k2]; exact h0), hx15, hx16, hx1, h12, h13, nI_1]
      simp only [bS_eq]
      rw [show xg ((sB s 1 (xset (s.1 1) (nI t') (xpos (s0.1 9) (tvl (tks tx) t')))).1 17) (nI l) = nI x from hx17]
    have sM : f_12055_L99 (N + 1) 0 (nI l) m = if xpos (s0.1 9) (tvl (tks tx) t') = -1 then f_12055_J151 (f_12055_L99 N) 0 (nI l) (xpos (s0.1 9) (tvl (tks tx) t')) m
        else gd (vi (xpos (s0.1 9) (tvl (tks tx) t')) 40) <| if mg m 14 (xpos (s0.1 9) (tvl (tks tx) t')) = (s0.1 16).getD l 0 then f_12055_J179 (f_12055_L99 N) 0 (nI l) (xpos (s0.1 9) (tvl (tks tx) t')) m else f_12055_J151 (f_12055_L99 N) 0 (nI l) (xpos (s0.1 9) (tvl (tks tx) t')) m := by
      rw [f_12055_L99, if_neg (by show ¬ m 0 27 ≤ nI l; rw [k8 0 (by decide), kn, l15]; exact fun q => by rw [i_le, nI_T (by omega), nI_T (by omega)] at q; omega), if_pos (by show m 0 9 = 0; rw [k8 0 (by decide)]; exact h9), gd_e hvi, gd_e hvi, g16, g17, hdef, bP_some, gd_e hvi, g18]
    have hFr : FrR m0 m := ⟨fun j a b => k8 j (by omega), fun f _ => by rw [k8 0 (by decide)]⟩
    have hFC : FC s0 s := ⟨fun j hj => k1 j (by omega) (by omega), fun v _ => by rw [k2]⟩
    have ht : t' < (tks tx).length := by omega
    -- a fault, told by both
    have bad : ∀ (f : Int32) (y : Int32), f ≠ 0 → (f = 7 ∧ y = -1 ∨ f = 8 ∧ y ≠ -1) → LQ tx s0 m0 k d (f_5023_L2 n (nI (l + 1)) (f_5005 f (nI t') s)) (f_12055_J151 (f_12055_L99 N) 0 (nI l) y m) := by
      intro f y hf hy
      have hs : f_5005 f (nI t') s = sV (sV (sV s 0 f) 1 (nI t')) 2 (s.2 3) := by
        unfold f_5005
        rw [if_pos (by rw [k2]; exact h0)]
        rfl
      have h00 : (f_5005 f (nI t') s).2 0 ≠ 0 := by rw [hs]; exact hf
      obtain ⟨n', rfl⟩ : ∃ n', n = n' + 1 := ⟨n - 1, by omega⟩
      obtain ⟨N', rfl⟩ : ∃ n', N = n' + 1 := ⟨N - 1, by omega⟩
      have e1 : f_12055_J151 (f_12055_L99 (N' + 1)) 0 (nI l) y m = f_12055_L99 (N' + 1) 0 (nI l + 1) (ms (mp (mp (mp m 6 (nI (tpl (tks tx) t'))) 9 f) 10 (nI (tpl (tks tx) t'))) 5 (nI x) y) := by
        have hJ : ∀ f', f_12055_J174 (f_12055_L99 (N' + 1)) 0 (nI l) y f' (mp m 6 (nI (tpl (tks tx) t'))) = f_12055_L99 (N' + 1) 0 (nI l + 1) (ms (mp (mp (mp m 6 (nI (tpl (tks tx) t'))) 9 f') 10 (nI (tpl (tks tx) t'))) 5 (nI x) y) := by
          intro f'
          unfold f_12055_J174
          rw [fails_e, bT_eq]
          have g6 : mf (mp m 6 (nI (tpl (tks tx) t'))) 6 = nI (tpl (tks tx) t') := mp_s
          rw [g6]
          unfold f_12055_J179
          have g19' : mg (mp (mp (mp m 6 (nI (tpl (tks tx) t'))) 9 f') 10 (nI (tpl (tks tx) t'))) 19 (nI l) = nI x := g19
          rw [gd_e hvi, g19', gd_e hvx]
          rfl
        unfold f_12055_J151
        rw [gd_e hvi, bS_eq, g16]
        rcases hy with ⟨y1, y2⟩ | ⟨y1, y2⟩
        · rw [if_pos y2, hJ, y1]
        · rw [if_neg y2, hJ, y1]
      have q9 : (ms (mp (mp (mp m 6 (nI (tpl (tks tx) t'))) 9 f) 10 (nI (tpl (tks tx) t'))) 5 (nI x) y) 0 9 = f := by
        rw [ms_j (by decide), mp_n (by decide), mp_s]
      have q10 : (ms (mp (mp (mp m 6 (nI (tpl (tks tx) t'))) 9 f) 10 (nI (tpl (tks tx) t'))) 5 (nI x) y) 0 10 = nI (tpl (tks tx) t') := by
        rw [ms_j (by decide), mp_s]
      refine Or.inl ⟨_, _, f, t', L2_dead h00, ?_, (((hFr.mp (f := 6) (by decide)).mp (f := 9) (by decide)).mp (f := 10) (by decide)).ms (j := 5) (by decide), hFC.ref, hf, by rw [hs]; rfl, by rw [hs]; rfl, ht, q9, q10⟩
      rw [e1]
      exact L99_dead (by rw [q9]; exact hf)
    rw [sC, sM]
    by_cases hx : xpos (s0.1 9) (tvl (tks tx) t') = -1
    · rw [if_pos hx, if_pos hx]
      exact bad 7 _ (by decide) (Or.inl ⟨rfl, hx⟩)
    rw [if_neg hx, if_neg hx]
    obtain ⟨e, he, hxe⟩ := xpos_v hx
    rw [hxe] at hx ⊢
    have hdC := dC e (by omega)
    have g14 : mg m 14 (nI e) = (s0.1 10).getD e 0 := by
      unfold mg
      rw [nI_C (by omega), k8 14 (by decide)]
      exact hdC.1
    rw [gd_e (vi_n (by omega) (by omega)), g14, xg_n (by omega)]
    by_cases hn2 : (s0.1 10).getD e 0 = (s0.1 16).getD l 0
    case neg =>
      rw [if_neg hn2, if_neg hn2]
      exact bad 8 _ (by decide) (Or.inr ⟨rfl, hx⟩)
    rw [if_pos hn2, if_pos hn2]
    have eM : f_12055_J179 (f_12055_L99 N) 0 (nI l) (nI e) m = f_12055_L99 N 0 (nI (l + 1)) (ms m 5 (nI x) (nI e)) := by
      unfold f_12055_J179
      rw [gd_e hvi, g19, gd_e hvx, bS_eq, nI_1]
    rw [eM]
    have f1 : (f_4009 (nI x) (nI e) (sB s 1 (xset (s.1 1) (nI t') (nI e)))).1 1 = (s.1 1).set t' (nI e) := by
      show xset (s.1 1) (nI t') (nI e) = _
      rw [xset_n (by omega)]
    have f8 : (f_4009 (nI x) (nI e) (sB s 1 (xset (s.1 1) (nI t') (nI e)))).1 8 = (s.1 8).set x (nI e) := by
      show xset (s.1 8) (nI x) (nI e) = _
      rw [xset_n (by omega)]
    have fj : ∀ j, j ≠ 1 → j ≠ 8 → (f_4009 (nI x) (nI e) (sB s 1 (xset (s.1 1) (nI t') (nI e)))).1 j = s.1 j := fun j h1 h8 => by
      show (if j = 8 then _ else if j = 1 then _ else s.1 j) = _
      rw [if_neg h8, if_neg h1]
    refine ih n N (l + 1) _ _ ⟨fun j h1 h8 => (fj j h1 h8).trans (k1 j h1 h8), k2, ?_, ?_, fun y hy => ?_, fun y hy => ?_, fun q hq => ?_, fun j hj => ?_, fun y hy => ?_⟩ (by omega) (by omega) (by omega)
    · rw [f1, List.length_set]; exact k3
    · rw [f8, List.length_set]; exact k4
    · have hne : t' ≠ y := fun q => hy l (by omega) (by rw [← q]; exact t1)
      rw [f1, gD_set_n hne]
      exact k5 y (fun q hq => hy q (by omega))
    · have hne : x ≠ y := fun q => hy l (by omega) (by rw [← q]; exact t4)
      rw [f8, gD_set_n hne]
      exact k6 y (fun q hq => hy q (by omega))
    · by_cases hql : q = l
      · subst hql
        exact ⟨e, t', x, by omega, t1, t4, by rw [f1, gD_set_s (by omega)], by rw [f8, gD_set_s (by omega)], hn2⟩
      · obtain ⟨e', t'', x', w1, w2, w3, w4, w5, w6⟩ := k7 q (by omega)
        have n1 := t9 q (Nat.zero_le _) (by omega)
        refine ⟨e', t'', x', w1, w2, w3, ?_, ?_, w6⟩
        · rw [f1, gD_set_n (fun z => n1.1 (by rw [z]; exact w2))]; exact w4
        · rw [f8, gD_set_n (fun z => n1.2 (by rw [z]; exact w3))]; exact w5
    · rw [ms_j hj]; exact k8 j hj
    · rw [ms_s (by omega), f8]
      show (if y = x then nI e else m 5 y) = _
      by_cases hyx : y = x
      · rw [if_pos hyx, hyx, gD_set_s (by omega), t7]
        rfl
      · rw [if_neg hyx, gD_set_n (fun z => hyx z.symm)]
        exact k9 y hy
end LKS
