/-! the school: trials, by machine and by tree -/
section TRJ
variable {x : Nat} {T T' : Tx} {m m' : Mx} {tx : List Int32} {es : List Nat} {ts : Nat → List Nat} {as : List Nat} {ps : Nat → Nat} {txs : Nat → List Int32} {ss : Nat → Sx} {pd : Nat} {own : Nat → Nat} {s : Sx} {i c d f : Nat} {a b v : Int32}
theorem tri_ref (hf : f ≤ 5000) (hC : PgC s i c d) (hM : PgM s i c d m) : ∃ (O C : List Int32) (f' : Nat) (e : Int32) (m'' : Mx), e ≠ -1 ∧ O.length ≤ 8 ∧ C.length = 32 ∧ f' ≤ 5000 ∧ f_12076_J26 (nI f) a b 1 1 m = some (m'', e) ∧ m'' 0 82 = 0 ∧ m'' 0 60 = nI O.length ∧ (∀ k, k < O.length → m'' 35 k = O.getD k 0) ∧ m'' 0 63 = nI f' ∧ (∀ k, k < 32 → m'' 36 k = C.getD k 0) ∧
    (∀ j, j ≠ 0 → j < 3 ∨ 36 < j → m'' j = m j) ∧ (∀ g, g = 0 ∨ g = 64 ∨ g = 65 ∨ g = 74 → m'' 0 g = m 0 g) ∧ ∀ s' : Sx, (∀ k, k < 13 → s'.1 k = s.1 k) → ∃ rW rM, f_10001 (nI f) a b s' = some rW ∧ f_3001 (nI f) a b s' = some rM ∧ RunX s' O C f' e rW ∧ RunX s' O C f' e rM := by
  obtain ⟨O, C, f', e, rR, g1, g2, g3, g4, g5, ⟨r1, r2, r3, r4, r5, r6, r7⟩, g7⟩ := run3 (x := a) (y := b) hf hC (hM.setf (g := 82) (v := 0) (by decide) (by decide))
  obtain ⟨m3, hm3⟩ : ∃ m3, m3 = mp (mp rR 60 (mf rR 57)) 63 (mf (mp rR 60 (mf rR 57)) 49) := ⟨_, rfl⟩
  obtain ⟨m4, k1, k2, k3⟩ := cp_61 (m := m3) (l1 := nI f) (l2 := a) (l3 := b) 8 1000 0 m3 (by omega) (by omega) (fun _ _ => rfl) (fun i hi => absurd hi (by omega))
  obtain ⟨m5, p1, p2, p3⟩ := cp_91 (m := m4) (l1 := nI f) (l2 := a) (l3 := b) 32 1000 0 m4 (by omega) (by omega) (fun _ _ => rfl) (fun i hi => absurd hi (by omega))
  have j3 : ∀ j, j ≠ 0 → m3 j = rR j := fun j hj => by rw [hm3, mp_j hj, mp_j hj]
  have o3 : ∀ g, g ≠ 60 → g ≠ 63 → m3 0 g = rR 0 g := fun g h1 h2 => by rw [hm3, mp_n h2, mp_n h1]
  have o5 : ∀ g, m5 0 g = m3 0 g := fun g => by rw [p1 0 (by decide), k1 0 (by decide)]
  refine ⟨O, C, f', e, m5, g1, g2, g3, g4, ?_, ?_, ?_, fun k hk => ?_, ?_, fun k hk => ?_, fun j h0 hj => ?_, fun g hg => ?_, g7⟩
  · unfold f_12076_J26
    rw [goes2 i_01 i_01, if_pos rfl, if_pos rfl, bT_eq, if_neg (by decide), g5, bOv_some, bS_eq, bS_eq, ← hm3]
    show f_12076_L61 1000 (nI f) a b (nI 0) m3 = _
    rw [k3]
    show f_12076_L91 1000 (nI f) a b (nI 0) m4 = _
    rw [p3]
    show some (m5, m4 0 50) = _
    rw [k1 0 (by decide), o3 50 (by decide) (by decide), r1]
  · rw [o5, o3 82 (by decide) (by decide), r7 82 (by decide) (by decide) (by decide) (by decide) (by decide) (by decide), mp_s]
  · rw [o5, hm3, mp_n (by decide), mp_s]; exact r2
  · rw [p1 35 (by decide), k2 k (by omega), j3 33 (by decide)]; exact r4 k hk
  · rw [o5, hm3, mp_s]
    show mp rR 60 (mf rR 57) 0 49 = _
    rw [mp_n (by decide)]; exact r3
  · rw [p2 k hk, k1 34 (by decide), j3 34 (by decide)]; exact r5 k hk
  · rw [p1 j (by omega), k1 j (by omega), j3 j h0, r6 j h0 (by omega), mp_j h0]
  · rw [o5, o3 g (by omega) (by omega), r7 g (by omega) (by omega) (by omega) (by omega) (by omega) (by omega), mp_n (by omega)]
/-- after a trial -/
theorem SInv.tri {O C : List Int32} {f' : Nat} {e : Int32} (h : SInv x T m tx es ts as ps txs ss pd own) (hR : RunT T T' x true O C f' e) (h1 : O.length ≤ 8) (h2 : C.length = 32) (h60 : m' 0 60 = nI O.length) (h35 : ∀ k, k < O.length → m' 35 k = O.getD k 0) (h63 : m' 0 63 = nI f') (h36 : ∀ k, k < 32 → m' 36 k = C.getD k 0) (hj : ∀ j, j ≠ 0 → j < 3 ∨ 36 < j → m' j = m j) (hg : ∀ g, g = 0 ∨ g = 64 ∨ g = 65 ∨ g = 74 → m' 0 g = m 0 g) : SInv x T' m' tx es ts as ps txs ss pd own := by
  obtain ⟨r1, r2, r3, r4, r5, r6, r7, r8⟩ := hR
  have q2 : tB T' (x + 43) = O := r2
  have q3 : tB T' (x + 45) = C := r3
  have q4 : tV T' (x + 42) 4 = nI f' := r4
  have gx : Agr T T' x := r7 x (by show ¬ (x + 42 ≤ x ∧ _); omega) (by omega)
  refine h.eng r1 r6 (fun a ha => r7 a (by show ¬ (x + 42 ≤ a ∧ a < x + 42 + 9); omega) (by omega)) ?_ hj (fun f hf => hg f (by omega))
  have := h.2.2.1
  unfold TrI
  rw [q2, q3, q4, gx.2.2.2.2.2]
  exact ⟨h1, h60, h35, h63, h2, h36, (hg 64 (by omega)).trans this.2.2.2.2.2.2.1, this.2.2.2.2.2.2.2⟩
theorem b5000 : f_12002 v.toInt64 0 5000 m = if 0 ≤ v.toInt ∧ v.toInt ≤ 5000 then 1 else 0 := by
  rw [in_e, s0, show (5000 : Int64).toInt = 5000 by decide, Int32.toInt_toInt64]
theorem h36_n (hv : ¬ (0 ≤ v.toInt ∧ v.toInt ≤ 5000)) : h_11036 v T = some (.inl 1) := by
  unfold h_11036
  by_cases c1 : v < 0
  · rw [if_pos c1]
  · rw [if_neg c1, if_neg (fun w => by
      rw [i_le, show (5000 : Int32).toInt = 5000 by decide] at w
      rw [lt_00] at c1
      omega)]
theorem h36_y (hv : 0 ≤ v.toInt ∧ v.toInt ≤ 5000) : h_11036 v T = some (.inr ()) := by
  unfold h_11036
  rw [if_neg (by rw [lt_00]; omega), if_pos (by rw [i_le, show (5000 : Int32).toInt = 5000 by decide]; omega)]
theorem of_nI (h0 : 0 ≤ v.toInt) (h1 : v.toInt < 90000) : v = nI v.toInt.toNat := by
  rw [i_eq, nI_T (by omega)]
  omega
theorem tri_n (h : SInv x T m tx es ts as ps txs ss pd own) (hv : ¬ (0 ≤ v.toInt ∧ v.toInt ≤ 5000)) : ∃ m', f_12076 v a b m = some (mp m' 82 1, 0) ∧ MSm m m' := by
  obtain ⟨T', pd', own', m', s1, g1, g2, g3, g4, g5, g6, g7, g8⟩ := rdB h
  refine ⟨m', ?_, g3⟩
  unfold f_12076 f_12076_J26
  rw [g2, bOv_some, b5000, if_neg hv]
  by_cases c : mf m' 9 = 0
  · rw [if_pos c, goes2 (Or.inl rfl) i_01, if_neg (by decide), bT_eq, if_pos rfl]
  · rw [if_neg c, goes2 (Or.inl rfl) (Or.inl rfl), if_neg (by decide), bT_eq, if_pos rfl]
theorem c_trial (h : SInv x T m tx es ts as ps txs ss pd own) : SameT (h_11009 x v a b T) (f_12076 v a b m) cA (SINV x) := by
  by_cases hv : 0 ≤ v.toInt ∧ v.toInt ≤ 5000
  · obtain ⟨T', pd', own', m', s1, g1, g2, g3, g4, g5, g6, g7, g8⟩ := rdB h
    have hP := g4.2.1.2.2.1
    rcases g8 with ⟨w1, _⟩ | ⟨w1, w2, w3, i, c, d, w4, w5, w6, w7⟩
    · have hh : h_11009 x v a b T = some (T', .inl 3) := by
        unfold h_11009
        rw [h36_y hv, bXp_some, gd_e h.1.1, g1, bOv_some, gd_e g4.1.1, g43 (hS := g4.1.1) g4.2.1.2.1 hP.1, if_neg (by rw [g6.2.1]; exact w1)]
        rfl
      have hf : f_12076 v a b m = some (mp m' 82 2, 0) := by
        unfold f_12076 f_12076_J26
        rw [g2, bOv_some, b5000, if_pos hv, if_neg (by rw [show mf m' 9 = s1.2 0 from g7]; exact w1), goes2 i_01 (Or.inl rfl), if_pos rfl, if_neg (by decide), bT_eq, if_pos rfl]
      exact ⟨_, _, _, _, hh, hf, ⟨_, _, _, _, _, _, _, _, _, g4.mm m82⟩, Or.inr ⟨3, rfl, by decide, mp_s⟩⟩
    · have ev : v = nI v.toInt.toNat := of_nI hv.1 (by omega)
      obtain ⟨O, C, f', e, m'', k1, k2, k3, k4, k5, k6, k7, k8, k9, l1, l2, l3, l4⟩ := tri_ref (f := v.toInt.toNat) (a := a) (b := b) (by omega) w5 w6
      obtain ⟨rW, rM, p1, p2, p3, p4⟩ := l4 (pj T' x pd' true) g6.pj
      obtain ⟨T'', q1, q2⟩ := en_m g4.1 hP g4.2.1.2.2.2.1 p2 p4
      have r2 := q2
      obtain ⟨y1, y2, y3, y4, y5, y6, y7, y8⟩ := r2
      have hh : h_11009 x v a b T = some (T'', .inr e) := by
        unfold h_11009
        rw [h36_y hv, bXp_some, gd_e h.1.1, g1, bOv_some, gd_e g4.1.1, g43 (hS := g4.1.1) g4.2.1.2.1 hP.1, if_pos (by rw [g6.2.1]; exact w1), bXp_some, gd_e g4.1.1, g4.1.2.2.2.2.2.1.1, bP_some, gd_e g4.1.1, g4.2.1.2.1, bP_some, gd_e g4.1.1, g4.1.2.2.2.1.1, bP_some, gd_e g4.1.2.2.2.2.2.1.2.1]
        rw [← ev] at q1
        rw [show h_3001 x (x + 60) pd' (x + 42) v a b T' = some T'' from q1, bOv_some, gd_e y1.1, y1.2.2.2.1.1, bP_some, gd_e y1.2.2.2.1.2.1]
        unfold h_7003
        rw [gd_e y1.2.2.2.1.2.1, bP_some]
        exact congrArg (fun z => some (T'', Sum.inr z)) y5
      have hf : f_12076 v a b m = some (m'', e) := by
        unfold f_12076
        rw [g2, bOv_some, b5000, if_pos hv, if_pos (by rw [show mf m' 9 = s1.2 0 from g7]; exact w1)]
        rw [← ev] at k5
        exact k5
      exact ⟨_, _, _, _, hh, hf, ⟨_, _, _, _, _, _, _, _, _, g4.tri q2 k2 k3 k7 k8 k9 l1 l2 l3⟩, Or.inl ⟨_, rfl, k6, rfl⟩⟩
  · obtain ⟨m', g1, g2⟩ := tri_n (a := a) (b := b) h hv
    have hh : h_11009 x v a b T = some (T, .inl 1) := by
      unfold h_11009
      rw [h36_n hv]
      rfl
    exact ⟨_, _, _, _, hh, g1, ⟨_, _, _, _, _, _, _, _, _, (h.mm g2).mm m82⟩, Or.inr ⟨1, rfl, by decide, mp_s⟩⟩
theorem c_tree (h : SInv x T m tx es ts as ps txs ss pd own) : SameT (h_11010 x v a b T) (f_12077 v a b m) cA (SINV x) := by
  by_cases hv : 0 ≤ v.toInt ∧ v.toInt ≤ 5000
  · obtain ⟨T', pd', own', m', s1, g1, g2, g3, g4, g5, g6, g7, g8⟩ := rdB h
    have hP := g4.2.1.2.2.1
    rcases g8 with ⟨w1, _⟩ | ⟨w1, w2, w3, i, c, d, w4, w5, w6, w7⟩
    · have hh : h_11010 x v a b T = some (T', .inl 3) := by
        unfold h_11010
        rw [h36_y hv, bXp_some, gd_e h.1.1, g1, bOv_some, gd_e g4.1.1, g43 (hS := g4.1.1) g4.2.1.2.1 hP.1, if_neg (by rw [g6.2.1]; exact w1)]
        rfl
      have hf : f_12077 v a b m = some (mp m' 82 2, 0) := by
        unfold f_12077 f_12076 f_12076_J26
        rw [g2, bOv_some, b5000, if_pos hv, if_neg (by rw [show mf m' 9 = s1.2 0 from g7]; exact w1), goes2 i_01 (Or.inl rfl), if_pos rfl, if_neg (by decide), bT_eq, if_pos rfl, bO_some]
      exact ⟨_, _, _, _, hh, hf, ⟨_, _, _, _, _, _, _, _, _, g4.mm m82⟩, Or.inr ⟨3, rfl, by decide, mp_s⟩⟩
    · have ev : v = nI v.toInt.toNat := of_nI hv.1 (by omega)
      obtain ⟨O, C, f', e, m'', k1, k2, k3, k4, k5, k6, k7, k8, k9, l1, l2, l3, l4⟩ := tri_ref (f := v.toInt.toNat) (a := a) (b := b) (by omega) w5 w6
      obtain ⟨rW, rM, p1, p2, p3, p4⟩ := l4 (pj T' x pd' true) g6.pj
      obtain ⟨T'', q1, q2⟩ := en_w g4.1 hP g4.2.1.2.2.2.1 p1 p3
      have r2 := q2
      obtain ⟨y1, y2, y3, y4, y5, y6, y7, y8⟩ := r2
      have hh : h_11010 x v a b T = some (T'', .inr e) := by
        unfold h_11010
        rw [h36_y hv, bXp_some, gd_e h.1.1, g1, bOv_some, gd_e g4.1.1, g43 (hS := g4.1.1) g4.2.1.2.1 hP.1, if_pos (by rw [g6.2.1]; exact w1), bXp_some, gd_e g4.1.1, g4.1.2.2.2.2.2.2.1.1, bP_some, gd_e g4.1.1, g4.2.1.2.1, bP_some, gd_e g4.1.1, g4.1.2.2.2.1.1, bP_some, gd_e g4.1.2.2.2.2.2.2.1.2.1]
        rw [← ev] at q1
        rw [show h_10001 x (x + 63) pd' (x + 42) v a b T' = some T'' from q1, bOv_some, gd_e y1.1, y1.2.2.2.1.1, bP_some, gd_e y1.2.2.2.1.2.1]
        unfold h_7003
        rw [gd_e y1.2.2.2.1.2.1, bP_some]
        exact congrArg (fun z => some (T'', Sum.inr z)) y5
      have hf : f_12077 v a b m = some (m'', e) := by
        unfold f_12077 f_12076
        rw [g2, bOv_some, b5000, if_pos hv, if_pos (by rw [show mf m' 9 = s1.2 0 from g7]; exact w1)]
        rw [← ev] at k5
        rw [k5, bO_some]
      exact ⟨_, _, _, _, hh, hf, ⟨_, _, _, _, _, _, _, _, _, g4.tri q2 k2 k3 k7 k8 k9 l1 l2 l3⟩, Or.inl ⟨_, rfl, k6, rfl⟩⟩
  · obtain ⟨m', g1, g2⟩ := tri_n (a := a) (b := b) h hv
    have hh : h_11010 x v a b T = some (T, .inl 1) := by
      unfold h_11010
      rw [h36_n hv]
      rfl
    have hf : f_12077 v a b m = some (mp m' 82 1, 0) := by
      unfold f_12077
      rw [g1, bO_some]
    exact ⟨_, _, _, _, hh, hf, ⟨_, _, _, _, _, _, _, _, _, (h.mm g2).mm m82⟩, Or.inr ⟨1, rfl, by decide, mp_s⟩⟩
end TRJ
