/-! the school: simple calls -/
section SIM
variable {x : Nat} {T T' : Tx} {m m' : Mx} {tx : List Int32} {es : List Nat} {ts : Nat → List Nat} {as : List Nat} {ps : Nat → Nat} {txs : Nat → List Int32} {ss : Nat → Sx} {pd : Nat} {own : Nat → Nat}
/-- the invariant, whatever lies where -/
def SINV (x : Nat) (T : Tx) (m : Mx) : Prop := ∃ tx es ts as ps txs ss pd own, SInv x T m tx es ts as ps txs ss pd own
theorem SINV.mm (h : SINV x T m) (hM : MSm m m') : SINV x T m' := by
  obtain ⟨tx, es, ts, as, ps, txs, ss, pd, own, h⟩ := h
  exact ⟨tx, es, ts, as, ps, txs, ss, pd, own, h.mm hM⟩
theorem m82 {v : Int32} : MSm m (mp m 82 v) := MSm.mp (by decide)
/-- both answer alike, and nothing of the heap has changed -/
def SameR (hr : Option (Nat ⊕ Int32)) (fr : Option (Mx × Int32)) (code : Nat → Int32) (P : Mx → Prop) : Prop :=
  ∃ m' r w, hr = some w ∧ fr = some (m', r) ∧ P m' ∧ ((∃ v, w = .inr v ∧ m' 0 82 = 0 ∧ r = v) ∨ ∃ e, w = .inl e ∧ code e ≠ 0 ∧ m' 0 82 = code e)
/-- both answer alike -/
def SameT (hr : Option (Tx × (Nat ⊕ Int32))) (fr : Option (Mx × Int32)) (code : Nat → Int32) (P : Tx → Mx → Prop) : Prop :=
  ∃ T' m' r w, hr = some (T', w) ∧ fr = some (m', r) ∧ P T' m' ∧ ((∃ v, w = .inr v ∧ m' 0 82 = 0 ∧ r = v) ∨ ∃ e, w = .inl e ∧ code e ≠ 0 ∧ m' 0 82 = code e)
def cA (e : Nat) : Int32 := if e = 1 then 1 else if e = 3 then 2 else 0
def cB (e : Nat) : Int32 := if e = 2 then 1 else if e = 3 then 2 else 0
def cC (e : Nat) : Int32 := if e = 2 then 1 else if e = 1 then 2 else if e = 3 then 3 else 0
def cD (e : Nat) : Int32 := if e = 2 then 1 else 0
def cE (e : Nat) : Int32 := if e = 1 then 1 else 0
def cF (e : Nat) : Int32 := if e = 3 then 1 else 0
theorem in_e {a b c : Int64} : f_12002 a b c m = if b.toInt ≤ a.toInt ∧ a.toInt ≤ c.toInt then 1 else 0 := by
  unfold f_12002
  by_cases h1 : lg_cmp a b < 0
  · rw [if_pos h1]
    rw [lg_lt] at h1
    rw [if_neg (by omega)]
  rw [if_neg h1]
  rw [lg_lt] at h1
  by_cases h2 : 0 < lg_cmp a c
  · rw [if_pos h2]
    rw [lg_gt] at h2
    rw [if_neg (by omega)]
  · rw [if_neg h2]
    rw [lg_gt] at h2
    rw [if_pos (by omega)]
theorem in_01 {a b c : Int64} : f_12002 a b c m = 0 ∨ f_12002 a b c m = 1 := by
  rw [in_e]
  split
  · exact Or.inr rfl
  · exact Or.inl rfl
theorem i_01 : (1 : Int32) = 0 ∨ (1 : Int32) = 1 := Or.inr rfl
theorem goes1 {a : Int32} (ha : a = 0 ∨ a = 1) : f_12003 a 1 1 m = if a = 1 then (mp m 82 0, 1) else (mp m 82 1, 0) := by
  rw [thr3 ha i_01 i_01]
  rcases ha with e | e <;> subst e <;> rfl
theorem goes2 {a b : Int32} (ha : a = 0 ∨ a = 1) (hb : b = 0 ∨ b = 1) : f_12003 a b 1 m = if a = 1 then (if b = 1 then (mp m 82 0, 1) else (mp m 82 2, 0)) else (mp m 82 1, 0) := by
  rw [thr3 ha hb i_01]
  rcases ha with e | e <;> rcases hb with e' | e' <;> subst e <;> subst e' <;> rfl
theorem s0 : (0 : Int64).toInt = 0 := by decide
theorem nm1 {k : Nat} (hk : k < 1000) : ((nI k - 1).toInt64).toInt = (k : Int) - 1 := by
  rw [Int32.toInt_toInt64, Int32.toInt_sub, nI_T (by omega), i_1, Int.bmod_eq_of_le (by omega) (by omega)]
theorem lt_n {v : Int32} {k : Nat} (hk : k < 1000) : v < nI k ↔ v.toInt < k := by rw [i_lt, nI_T (by omega)]
theorem lt_00 {v : Int32} : v < 0 ↔ v.toInt < 0 := by rw [i_lt, i_0]
theorem xg_at {l : List Int32} {v : Int32} (h0 : 0 ≤ v.toInt) : xg l v = l.getD v.toInt.toNat 0 := xg_in (by rw [lt_00]; omega)
theorem mg_at {j : Nat} {v : Int32} : mg m j v = m j v.toInt.toNat := rfl
theorem ch_all : ∀ k, k < 127 → ((nI k).toUInt32 % 65536).toInt32 = nI k ∧ nch (nI k) := by decide +kernel
theorem okS.ch {c : Int32} (h : okS c) : (c.toUInt32 % 65536).toInt32 = c ∧ nch c := by
  have hk : ∃ k, k < 127 ∧ c = nI k := by
    rcases h with h | h
    · exact ⟨10, by decide, by rw [h]; decide⟩
    · refine ⟨c.toInt.toNat, by have := h.1; have := h.2; omega, ?_⟩
      have := h.1
      have := h.2
      rw [i_eq, nI_T (by omega)]
      omega
  obtain ⟨k, h1, h2⟩ := hk
  rw [h2]
  exact ch_all k h1
theorem SInv.text (h : SInv x T m tx es ts as ps txs ss pd own) : tW T x 0 = some (x + 1) ∧ tK T (x + 1) = 7 ∧ tC T (x + 1) = 300 ∧ tB T (x + 1) = tx ∧ tx.length ≤ 300 ∧ m 0 0 = nI tx.length ∧ tK T x = 12 :=
  ⟨h.1.2.1.1, h.1.2.1.2.1, h.1.2.1.2.2, h.2.1.1.1, h.2.1.1.2.1, h.2.1.1.2.2.2.1, h.1.1⟩
theorem c_length (h : SInv x T m tx es ts as ps txs ss pd own) : h_11004 x T = some (nI tx.length) ∧ f_12009 m = (mp m 82 0, nI tx.length) := by
  obtain ⟨t1, t2, t3, t4, t5, t6, t7⟩ := h.text
  refine ⟨?_, ?_⟩
  · unfold h_11004
    rw [gd_e t7, t1, bP_some, gd_e t2, t4]
  · unfold f_12009
    rw [told_e, bT_eq, show mf m 0 = nI tx.length from t6]
theorem c_signAt {v : Int32} (h : SInv x T m tx es ts as ps txs ss pd own) : SameR (h_11005 x v T) (f_12010 v m) cD (SINV x T) := by
  obtain ⟨t1, t2, t3, t4, t5, t6, t7⟩ := h.text
  have hI : SINV x T m := ⟨_, _, _, _, _, _, _, _, _, h⟩
  have e0 : f_12002 v.toInt64 0 (((mf m 0) - 1).toInt64) m = if 0 ≤ v.toInt ∧ v.toInt < tx.length then 1 else 0 := by
    rw [in_e, s0, show mf m 0 = nI tx.length from t6, nm1 (by omega), Int32.toInt_toInt64]
    by_cases c : 0 ≤ v.toInt ∧ v.toInt < tx.length
    · rw [if_pos c, if_pos (by omega)]
    · rw [if_neg c, if_neg (by omega)]
  by_cases c : 0 ≤ v.toInt ∧ v.toInt < tx.length
  · have hc : okS (tx.getD v.toInt.toNat 0) := h.2.1.1.2.2.1 _ (gD_mem (by omega))
    have e1 : mg (mp m 82 0) 1 v = tx.getD v.toInt.toNat 0 := by
      rw [mg_at, mp_j (by decide)]
      exact h.2.1.1.2.2.2.2 _ (by omega)
    have hf : f_12010 v m = some (mp m 82 0, tx.getD v.toInt.toNat 0) := by
      unfold f_12010
      rw [goes1 in_01, e0, if_pos c, if_pos rfl, bT_eq, if_neg (by decide), gd_e ⟨c.1, by omega⟩, e1, gd_e hc.ch.2]
    have hh : h_11005 x v T = some (.inr (tx.getD v.toInt.toNat 0)) := by
      unfold h_11005
      rw [if_neg (by rw [lt_00]; omega), gd_e t7, t1, bP_some, gd_e t2, t4, if_pos ((lt_n (by omega)).2 c.2), gd_e t7, bP_some, gd_e t2, t4, xg_at c.1, hc.ch.1, gd_e hc.ch.2]
    exact ⟨_, _, _, hh, hf, hI.mm m82, Or.inl ⟨_, rfl, mp_s, rfl⟩⟩
  · have hf : f_12010 v m = some (mp m 82 1, 32) := by
      unfold f_12010
      rw [goes1 in_01, e0, if_neg c, if_neg (by decide), bT_eq, if_pos rfl, gd_e (by decide)]
    have hh : h_11005 x v T = some (.inl 2) := by
      unfold h_11005
      by_cases c0 : v < 0
      · rw [if_pos c0]
      · rw [if_neg c0, gd_e t7, t1, bP_some, gd_e t2, t4, if_neg (fun w => by
          rw [lt_n (by omega)] at w
          rw [lt_00] at c0
          omega)]
    exact ⟨_, _, _, hh, hf, hI.mm m82, Or.inr ⟨2, rfl, by decide, mp_s⟩⟩
theorem c_today (h : SInv x T m tx es ts as ps txs ss pd own) : ∃ v, h_11019 x T = some v ∧ f_12089 m = (mp m 82 0, v) := by
  refine ⟨tV T x 13, ?_, ?_⟩
  · unfold h_11019
    rw [gd_e h.1.1]
  · unfold f_12089
    rw [told_e, bT_eq, show mf m 64 = _ from h.2.2.1.2.2.2.2.2.2.1]
theorem c_answers (h : SInv x T m tx es ts as ps txs ss pd own) : ∃ v, h_11021 x T = some v ∧ f_12093 m = (mp m 82 0, v) := by
  refine ⟨nI as.length, ?_, ?_⟩
  · unfold h_11021
    rw [gd_e h.1.1, h.1.2.2.2.2.2.2.2.2.1.1, bP_some, gd_e h.1.2.2.2.2.2.2.2.2.1.2, h.2.2.2.2.1.2.2.1]
  · unfold f_12093
    rw [told_e, bT_eq, show mf m 74 = _ from h.2.2.2.2.1.1]
theorem SInv.run (h : SInv x T m tx es ts as ps txs ss pd own) : tW T x 5 = some (x + 42) ∧ tK T (x + 42) = 8 ∧ tW T (x + 42) 0 = some (x + 43) ∧ tK T (x + 43) = 7 ∧ tW T (x + 42) 1 = some (x + 45) ∧ tK T (x + 45) = 7 := by
  have hr := h.1.2.2.2.1
  exact ⟨hr.1, hr.2.1, (hr.2.2 0 (by decide)).1, (hr.2.2 0 (by decide)).2.1, (hr.2.2 1 (by decide)).1, (hr.2.2 1 (by decide)).2.1⟩
theorem c_outputs (h : SInv x T m tx es ts as ps txs ss pd own) : ∃ v, h_11011 x T = some v ∧ f_12078 m = (mp m 82 0, v) := by
  obtain ⟨r1, r2, r3, r4, r5, r6⟩ := h.run
  refine ⟨nI (tB T (x + 43)).length, ?_, ?_⟩
  · unfold h_11011 h_7005
    rw [gd_e h.1.1, r1, bP_some, gd_e r2, gd_e r2, r3, bP_some, gd_e r4, bP_some]
  · unfold f_12078
    rw [told_e, bT_eq, show mf m 60 = _ from h.2.2.1.2.1]
theorem c_fuelLeft (h : SInv x T m tx es ts as ps txs ss pd own) : ∃ v, h_11013 x T = some v ∧ f_12080 m = (mp m 82 0, v) := by
  obtain ⟨r1, r2, r3, r4, r5, r6⟩ := h.run
  refine ⟨tV T (x + 42) 4, ?_, ?_⟩
  · unfold h_11013 h_7004
    rw [gd_e h.1.1, r1, bP_some, gd_e r2, gd_e r2, bP_some]
  · unfold f_12080
    rw [told_e, bT_eq, show mf m 63 = _ from h.2.2.1.2.2.2.1]
theorem c_outputAt {v : Int32} (h : SInv x T m tx es ts as ps txs ss pd own) : SameR (h_11012 x v T) (f_12079 v m) cD (SINV x T) := by
  obtain ⟨r1, r2, r3, r4, r5, r6⟩ := h.run
  have hI : SINV x T m := ⟨_, _, _, _, _, _, _, _, _, h⟩
  have hl := h.2.2.1.1
  have e0 : f_12002 v.toInt64 0 (((mf m 60) - 1).toInt64) m = if 0 ≤ v.toInt ∧ v.toInt < (tB T (x + 43)).length then 1 else 0 := by
    rw [in_e, s0, show mf m 60 = _ from h.2.2.1.2.1, nm1 (by omega), Int32.toInt_toInt64]
    by_cases c : 0 ≤ v.toInt ∧ v.toInt < (tB T (x + 43)).length
    · rw [if_pos c, if_pos (by omega)]
    · rw [if_neg c, if_neg (by omega)]
  have e5 : h_7005 (x + 42) T = some (nI (tB T (x + 43)).length) := by
    unfold h_7005
    rw [gd_e r2, r3, bP_some, gd_e r4]
  by_cases c : 0 ≤ v.toInt ∧ v.toInt < (tB T (x + 43)).length
  · have hf : f_12079 v m = some (mp m 82 0, (tB T (x + 43)).getD v.toInt.toNat 0) := by
      unfold f_12079
      rw [goes1 in_01, e0, if_pos c, if_pos rfl, bT_eq, if_neg (by decide), gd_e ⟨c.1, by omega⟩, mg_at, mp_j (by decide), h.2.2.1.2.2.1 _ (by omega)]
    have hh : h_11012 x v T = some (.inr ((tB T (x + 43)).getD v.toInt.toNat 0)) := by
      unfold h_11012 h_7006
      rw [if_neg (by rw [lt_00]; omega), gd_e h.1.1, r1, bP_some, gd_e r2, e5, bP_some, if_pos ((lt_n (by omega)).2 c.2), gd_e h.1.1, bP_some, gd_e r2, gd_e r2, r3, bP_some, gd_e r4, bP_some, xg_at c.1]
    exact ⟨_, _, _, hh, hf, hI.mm m82, Or.inl ⟨_, rfl, mp_s, rfl⟩⟩
  · have hf : f_12079 v m = some (mp m 82 1, 0) := by
      unfold f_12079
      rw [goes1 in_01, e0, if_neg c, if_neg (by decide), bT_eq, if_pos rfl]
    have hh : h_11012 x v T = some (.inl 2) := by
      unfold h_11012
      by_cases c0 : v < 0
      · rw [if_pos c0]
      · rw [if_neg c0, gd_e h.1.1, r1, bP_some, gd_e r2, e5, bP_some, if_neg (fun w => by
          rw [lt_n (by omega)] at w
          rw [lt_00] at c0
          omega)]
    exact ⟨_, _, _, hh, hf, hI.mm m82, Or.inr ⟨2, rfl, by decide, mp_s⟩⟩
theorem c_cellAt {v : Int32} (h : SInv x T m tx es ts as ps txs ss pd own) : SameR (h_11014 x v T) (f_12081 v m) cD (SINV x T) := by
  obtain ⟨r1, r2, r3, r4, r5, r6⟩ := h.run
  have hI : SINV x T m := ⟨_, _, _, _, _, _, _, _, _, h⟩
  have e0 : f_12060 v m = if 0 ≤ v.toInt ∧ v.toInt < 32 then 1 else 0 := by
    unfold f_12060
    rw [in_e, s0, Int32.toInt_toInt64, show (31 : Int64).toInt = 31 by decide]
    by_cases c : 0 ≤ v.toInt ∧ v.toInt < 32
    · rw [if_pos c, if_pos (by omega)]
    · rw [if_neg c, if_neg (by omega)]
  have h01 : f_12060 v m = 0 ∨ f_12060 v m = 1 := in_01
  have l32 : v < 32 ↔ v.toInt < 32 := by rw [i_lt, show (32 : Int32).toInt = 32 by decide]
  by_cases c : 0 ≤ v.toInt ∧ v.toInt < 32
  · have hf : f_12081 v m = some (mp m 82 0, (tB T (x + 45)).getD v.toInt.toNat 0) := by
      unfold f_12081
      rw [goes1 h01, e0, if_pos c, if_pos rfl, bT_eq, if_neg (by decide), gd_e ⟨c.1, by omega⟩, mg_at, mp_j (by decide), h.2.2.1.2.2.2.2.2.1 _ (by omega)]
    have hh : h_11014 x v T = some (.inr ((tB T (x + 45)).getD v.toInt.toNat 0)) := by
      unfold h_11014 h_7007
      rw [if_neg (by rw [lt_00]; omega), if_pos (l32.2 c.2), gd_e h.1.1, r1, bP_some, gd_e r2, gd_e r2, r5, bP_some, gd_e r6, bP_some, xg_at c.1]
    exact ⟨_, _, _, hh, hf, hI.mm m82, Or.inl ⟨_, rfl, mp_s, rfl⟩⟩
  · have hf : f_12081 v m = some (mp m 82 1, 0) := by
      unfold f_12081
      rw [goes1 h01, e0, if_neg c, if_neg (by decide), bT_eq, if_pos rfl]
    have hh : h_11014 x v T = some (.inl 2) := by
      unfold h_11014
      by_cases c0 : v < 0
      · rw [if_pos c0]
      · rw [if_neg c0, if_neg (fun w => by
          rw [l32] at w
          rw [lt_00] at c0
          omega)]
    exact ⟨_, _, _, hh, hf, hI.mm m82, Or.inr ⟨2, rfl, by decide, mp_s⟩⟩
end SIM
