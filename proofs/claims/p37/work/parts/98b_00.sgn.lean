/-! the law: it writes signs, and drawn statements -/
section SGN
variable {x : Nat} {T T' : Tx} {m m0 m' : Mx} {tx : List Int32} {v : Int64}
/-- the school, with its text -/
def Dk (x : Nat) (T : Tx) (m : Mx) (tx : List Int32) : Prop := ∃ es ts as ps txs ss pd own, SInv x T m tx es ts as ps txs ss pd own ∧ x + 80 ≤ tZ T
def mtx (m : Mx) (l : List Int32) : Mx := fun j => if j = 0 then (fun f => if f = 0 then nI l.length else m 0 f) else if j = 1 then (fun k => l.getD k 0) else m j
/-- nothing of the school but the draft and what a trial told has changed -/
def Mw (m m' : Mx) : Prop := (∀ j, j = 2 ∨ 37 ≤ j → m' j = m j) ∧ ∀ f, f = 64 ∨ f = 65 ∨ f = 74 → m' 0 f = m 0 f
theorem Mw.r : Mw m m := ⟨fun _ _ => rfl, fun _ _ => rfl⟩
theorem Mw.tr {m'' : Mx} (h : Mw m m') (h' : Mw m' m'') : Mw m m'' := ⟨fun j hj => (h'.1 j hj).trans (h.1 j hj), fun f hf => (h'.2 f hf).trans (h.2 f hf)⟩
theorem mtx_j {l : List Int32} {j : Nat} (hj : 2 ≤ j) : mtx m l j = m j := by
  unfold mtx
  rw [if_neg (by omega), if_neg (by omega)]
theorem mtx_f {l : List Int32} {f : Nat} (hf : f ≠ 0) : mtx m l 0 f = m 0 f := by
  unfold mtx
  rw [if_pos rfl, if_neg hf]
theorem mtx_w {l : List Int32} : Mw m (mtx m l) := ⟨fun _ hj => mtx_j (by omega), fun _ hf => mtx_f (by omega)⟩
theorem Dk.w (h : Dk x T m tx) {l : List Int32} (hl : l.length ≤ 300) (hok : ∀ c, c ∈ l → okS c) : Dk x (tsV (tsB T (x + 1) l) x 2 0) (mtx m l) l := by
  obtain ⟨es, ts, as, ps, txs, ss, pd, own, h, hzz⟩ := h
  refine ⟨es, ts, as, ps, txs, ss, pd, own, h.txt hl hok ?_ (fun k _ => ?_) (fun j hj => mtx_j (by omega)) (fun f hf => mtx_f (by omega)), hzz⟩
  · unfold mtx
    rw [if_pos rfl, if_pos rfl]
  · unfold mtx
    rw [if_neg (by decide), if_pos rfl]
theorem Dk.ok (h : Dk x T m tx) : tx.length ≤ 300 ∧ (∀ c, c ∈ tx → okS c) ∧ tK T x = 12 := by
  obtain ⟨es, ts, as, ps, txs, ss, pd, own, h, hzz⟩ := h
  exact ⟨h.2.1.1.2.1, h.2.1.1.2.2.1, h.1.1⟩
theorem Dk.len (h : Dk x T m tx) : h_11004 x T = some (nI tx.length) := by
  obtain ⟨es, ts, as, ps, txs, ss, pd, own, h, hzz⟩ := h
  exact (c_length h).1
theorem Dk.sat (h : Dk x T m tx) {k : Nat} (hk : k < tx.length) : h_13004 x (nI k) T = some (tx.getD k 0) := by
  obtain ⟨es, ts, as, ps, txs, ss, pd, own, h, hzz⟩ := h
  obtain ⟨t1, t2, t3, t4, t5, t6, t7⟩ := h.text
  have hc : okS (tx.getD k 0) := h.2.1.1.2.2.1 _ (gD_mem hk)
  have e : (nI k).toInt = k := nI_T (by omega)
  have hh : h_11005 x (nI k) T = some (.inr (tx.getD k 0)) := by
    unfold h_11005
    rw [if_neg (nI_nn (by omega)), gd_e t7, t1, bP_some, gd_e t2, t4, if_pos ((lt_n (by omega)).2 (by omega)), gd_e t7, bP_some, gd_e t2, t4, xg_at (by omega), e, Int.toNat_natCast, hc.ch.1, gd_e hc.ch.2]
  unfold h_13004
  rw [hh]
  rfl
theorem Dk.sat_o (h : Dk x T m tx) {i : Int32} (hi : ¬ (0 ≤ i.toInt ∧ i.toInt < tx.length)) : h_13004 x i T = some (-1000001) := by
  obtain ⟨es, ts, as, ps, txs, ss, pd, own, h, hzz⟩ := h
  obtain ⟨t1, t2, t3, t4, t5, t6, t7⟩ := h.text
  have hh : h_11005 x i T = some (.inl 2) := by
    unfold h_11005
    by_cases c0 : i < 0
    · rw [if_pos c0]
    · rw [if_neg c0, gd_e t7, t1, bP_some, gd_e t2, t4, if_neg (fun w => by
        rw [lt_n (by omega)] at w
        rw [lt_00] at c0
        omega)]
  unfold h_13004
  rw [hh]
  rfl
theorem tsB_id (h : tB T (x + 1) = tx) : tsB T (x + 1) tx = T := by
  unfold tsB
  have : u1 (tB T) (x + 1) tx = tB T := by
    funext b
    by_cases e : b = x + 1
    · rw [e, u1_s]; exact h.symm
    · exact u1_n _ _ e
  rw [this]
  rfl
/-- the school where nothing but the text has changed -/
def Wt (x : Nat) (m0 : Mx) (T : Tx) (tx : List Int32) : Prop := ∃ m, Dk x T m tx ∧ Mw m0 m
theorem Wt.len (h : Wt x m0 T tx) : tx.length ≤ 300 := by
  obtain ⟨m, h, _⟩ := h
  exact h.ok.1
theorem wr_64 {w : List Int32} (h : Wt x m0 T tx) (hv : wsg (bt v) 8 0 = w) (hz : ∀ i, i < 8 → okz (bt v i)) (hl : tx.length + w.length ≤ 300) : ∃ T', h_13002 x v T = some (T', nI (tx.length + w.length)) ∧ Wt x m0 T' (tx ++ w) := by
  obtain ⟨m, h, hM⟩ := h
  obtain ⟨o1, o2, t7⟩ := h.ok
  have hw := h.w (l := tx ++ w) (by rw [List.length_append]; exact hl) (fun c hc => by
    rcases List.mem_append.1 hc with z | z
    · exact o2 c z
    · rw [← hv] at z
      exact wsg_ok 8 0 (fun i h1 h2 => hz i (by omega)) c z)
  refine ⟨_, ?_, _, hw, hM.tr mtx_w⟩
  obtain ⟨es, ts, as, ps, txs, ss, pd, own, h, hzz⟩ := h
  obtain ⟨t1, t2, t3, t4, t5, t6, _⟩ := h.text
  have p := (w_L5 (v := v) t7 t1 t2 t4 (show 1 ≤ 1 ∧ 6 ≤ 6 by omega) 8 100 0 0 (by omega) (by omega) (Nat.le_refl _)).1 (fun i h1 h2 => hz i h2)
  have l8 := wsg_l (b := bt v) 8 0
  have ec : nI tx.length + nI (wsg (bt v) 8 0).length ≤ 300 := by
    rw [hv] at l8 ⊢
    rw [nI_pl (by omega) (by omega), i_le, nI_T (by omega), show (300 : Int32).toInt = 300 by decide]
    omega
  rw [Nat.zero_add, if_pos ec] at p
  have k := w_L95 (v := v) (u := nI (wsg (bt v) 8 0).length) (bc := 1) (bs := 6) t7 t1 t2 t3 8 100 0 tx (by omega) (by omega) (by rw [hv]; exact hl)
  rw [tsB_id t4] at k
  rw [hv] at k
  have hh : h_11001 x v T = some (tsV (tsB T (x + 1) (tx ++ w)) x 2 0, .inr (nI (tx ++ w).length)) := by
    refine Eq.trans ?_ k
    rw [← hv]
    exact p
  unfold h_13002
  rw [hh, List.length_append]
  rfl
theorem bt_1 : ∀ k, k < 127 → bt (nI k).toInt64 0 = nI k ∧ ∀ i, i < 8 → 1 ≤ i → bt (nI k).toInt64 i = 0 := by decide +kernel
theorem wsg_0 {b : Nat → Int32} : ∀ (q l : Nat), (∀ i, l ≤ i → i < l + q → b i = 0) → wsg b q l = [] := by
  intro q
  induction q with
  | zero => intro l _; rfl
  | succ q ih =>
    intro l h
    rw [wsg, if_pos (h l (Nat.le_refl _) (by omega))]
    exact ih (l + 1) (fun i h1 h2 => h i (by omega) (by omega))
theorem one_0 : ¬ (1 : Int32) = 0 := by decide
theorem bnd_n {c : Int32} {a b : Nat} (h : bnd c a b) : ∃ k, a ≤ k ∧ k ≤ b ∧ c = nI k := by
  have h1 := h.1
  have h2 := h.2
  refine ⟨c.toInt.toNat, by omega, by omega, ?_⟩
  have hr : c.toInt < 2 ^ 31 := Int32.toInt_lt c
  rw [i_eq]
  by_cases q : c.toInt.toNat < 2 ^ 31
  · rw [show (nI c.toInt.toNat).toInt = (c.toInt.toNat : Int) from Int32.toInt_ofNat_of_lt (by omega)]
    omega
  · omega
/-- one sign -/
theorem sg (h : Wt x m0 T tx) (c : Int32) (hc : bnd c 32 126) (hl : tx.length < 300) : ∃ T', h_13028 x c T = some (T', 1) ∧ Wt x m0 T' (tx ++ [c]) := by
  obtain ⟨k, k1, k2, rfl⟩ : ∃ k, 32 ≤ k ∧ k ≤ 126 ∧ c = nI k := bnd_n hc
  obtain ⟨g1, g2⟩ := bt_1 k (by omega)
  have k0 : ¬ nI k = 0 := fun e => by
    have := congrArg Int32.toInt e
    rw [nI_T (by omega), i_0] at this
    omega
  have hv : wsg (bt (nI k).toInt64) 8 0 = [nI k] := by
    rw [wsg, g1, if_neg k0, wsg_0 7 1 (fun i h1 h2 => g2 i (by omega) h1)]
  obtain ⟨T', e1, h1⟩ := wr_64 (v := (nI k).toInt64) h hv (fun i hi => by
    by_cases z : i = 0
    · rw [z, g1]
      exact Or.inr (Or.inr hc)
    · rw [g2 i hi (by omega)]
      exact Or.inl rfl) hl
  obtain ⟨m, hD, _⟩ := h
  obtain ⟨m1, hD1, hM1⟩ := h1
  have hs := hD1.sat (k := tx.length) (by rw [List.length_append]; exact Nat.lt_succ_self _)
  have es : (tx ++ [nI k]).getD tx.length 0 = nI k := gD_e
  refine ⟨T', ?_, m1, hD1, hM1⟩
  unfold h_13028
  rw [gd_e hD.ok.2.2, hD.len, bP_some, if_neg (fun e => by
    have := congrArg Int32.toInt e
    rw [nI_T (by omega), show (300 : Int32).toInt = 300 by decide] at this
    omega), gd_e hD.ok.2.2, e1, bO_some, if_pos (show nI (tx.length + [nI k].length) = nI tx.length + 1 from (nI_p1 (by omega)).symm), gd_e hD1.ok.2.2, hs, bP_some, es, if_pos rfl]
end SGN
