/-! the reference reads a token -/
theorem sgl {tx : List Int32} {m : Mx} {q : Nat} {c k : Int32} {b : Int32} (h7 : m 0 7 = nI (q + 1)) (h2 : lx_2 c b = 1) (hk : km (lx_1 c) = k) (he : f_12018 c m = some (m, k)) :
    ∃ m', f_12018 c m = some (m', km (if lx_2 c b = 1 then lx_1 c else lx_2 c b)) ∧ Ff [7] m m' ∧ m' 0 7 = nI (if lx_2 c b = 1 then q + 1 else q + 2) := by
  rw [if_pos h2, if_pos h2, hk]
  exact ⟨m, he, Ff.rfl', h7⟩
theorem dbl {tx : List Int32} {m : Mx} {q : Nat} {c x0 x1 x2 : Int32} (h : MT tx m) (h7 : m 0 7 = nI (q + 1)) (hq : q + 1 ≤ tx.length) (hx : x0 ≠ 0)
    (h1 : tg tx (q + 1) = x0 → lx_2 c (tg tx (q + 1)) ≠ 1 ∧ km (lx_2 c (tg tx (q + 1))) = x1) (h2 : tg tx (q + 1) ≠ x0 → lx_2 c (tg tx (q + 1)) = 1) (h3 : km (lx_1 c) = x2)
    (he : f_12018 c m = bO (f_12017 x0 x1 x2 m) fun s r => some (s, r)) :
    ∃ m', f_12018 c m = some (m', km (if lx_2 c (tg tx (q + 1)) = 1 then lx_1 c else lx_2 c (tg tx (q + 1)))) ∧ Ff [7] m m' ∧ m' 0 7 = nI (if lx_2 c (tg tx (q + 1)) = 1 then q + 1 else q + 2) := by
  obtain ⟨m', e1, e2, e3⟩ := e_12017 (x1 := x1) (x2 := x2) h h7 hq hx
  rw [he, e1, bO_some]
  by_cases e : tg tx (q + 1) = x0
  · rw [if_pos e] at e3 ⊢
    rw [if_neg (h1 e).1, if_neg (h1 e).1, (h1 e).2]
    exact ⟨m', rfl, e2, e3⟩
  · rw [if_neg e] at e3 ⊢
    rw [if_pos (h2 e), if_pos (h2 e), h3]
    exact ⟨m', rfl, e2, e3⟩
theorem lx_2_s {c b : Int32} (h1 : c ≠ 60) (h2 : c ≠ 62) (h3 : c ≠ 61) (h4 : c ≠ 33) (h5 : c ≠ 38) (h6 : c ≠ 124) : lx_2 c b = 1 := by
  unfold lx_2 f_9012
  rw [if_neg h1, if_neg h2, if_neg h3, if_neg h4, if_neg h5, if_neg h6]
  split
  · rfl
  · split <;> rfl
theorem lx_2_e {c b : Int32} (h : c = 60 ∨ c = 62 ∨ c = 61 ∨ c = 33) (hb : b ≠ 61) : lx_2 c b = 1 := by
  unfold lx_2 f_9012
  rw [if_neg hb]
  split
  · rename_i e
    rw [if_neg (fun q => by subst q; revert h; decide), if_neg (fun q => by subst q; revert h; decide)]
  · rfl
theorem lx_2_d {c b : Int32} (h : c = 38 ∨ c = 124) (hb : b ≠ c) : lx_2 c b = 1 := by
  unfold lx_2 f_9012
  split
  · rw [if_neg (fun q => by subst q; revert h; decide), if_neg (fun q => by subst q; revert h; decide), if_neg (fun q => by subst q; revert h; decide), if_neg (fun q => by subst q; revert h; decide)]
  · rw [if_neg (fun e => hb e.symm)]
theorem mark_12018 {tx : List Int32} {m : Mx} {q : Nat} (c : Int32) (h : MT tx m) (h7 : m 0 7 = nI (q + 1)) (hq : q + 1 ≤ tx.length) :
    ∃ m', f_12018 c m = some (m', km (if lx_2 c (tg tx (q + 1)) = 1 then lx_1 c else lx_2 c (tg tx (q + 1)))) ∧ Ff [7] m m' ∧ m' 0 7 = nI (if lx_2 c (tg tx (q + 1)) = 1 then q + 1 else q + 2) := by
  by_cases c33 : c = 33
  · subst c33
    exact dbl (x0 := 61) h h7 hq (by decide) (fun e => by rw [e]; decide) (fun e => lx_2_e (by decide) e) rfl rfl
  by_cases c60 : c = 60
  · subst c60
    exact dbl (x0 := 61) h h7 hq (by decide) (fun e => by rw [e]; decide) (fun e => lx_2_e (by decide) e) rfl rfl
  by_cases c61 : c = 61
  · subst c61
    exact dbl (x0 := 61) h h7 hq (by decide) (fun e => by rw [e]; decide) (fun e => lx_2_e (by decide) e) rfl rfl
  by_cases c62 : c = 62
  · subst c62
    exact dbl (x0 := 61) h h7 hq (by decide) (fun e => by rw [e]; decide) (fun e => lx_2_e (by decide) e) rfl rfl
  by_cases c38 : c = 38
  · subst c38
    exact dbl (x0 := 38) h h7 hq (by decide) (fun e => by rw [e]; decide) (fun e => lx_2_d (by decide) e) rfl rfl
  by_cases c124 : c = 124
  · subst c124
    exact dbl (x0 := 124) h h7 hq (by decide) (fun e => by rw [e]; decide) (fun e => lx_2_d (by decide) e) rfl rfl
  have h2 : lx_2 c (tg tx (q + 1)) = 1 := lx_2_s c60 c62 c61 c33 c38 c124
  by_cases c35 : c = 35
  · subst c35; exact sgl (tx := tx) h7 h2 rfl rfl
  by_cases c37 : c = 37
  · subst c37; exact sgl (tx := tx) h7 h2 rfl rfl
  by_cases c40 : c = 40
  · subst c40; exact sgl (tx := tx) h7 h2 rfl rfl
  by_cases c41 : c = 41
  · subst c41; exact sgl (tx := tx) h7 h2 rfl rfl
  by_cases c42 : c = 42
  · subst c42; exact sgl (tx := tx) h7 h2 rfl rfl
  by_cases c43 : c = 43
  · subst c43; exact sgl (tx := tx) h7 h2 rfl rfl
  by_cases c44 : c = 44
  · subst c44; exact sgl (tx := tx) h7 h2 rfl rfl
  by_cases c45 : c = 45
  · subst c45; exact sgl (tx := tx) h7 h2 rfl rfl
  by_cases c47 : c = 47
  · subst c47; exact sgl (tx := tx) h7 h2 rfl rfl
  by_cases c59 : c = 59
  · subst c59; exact sgl (tx := tx) h7 h2 rfl rfl
  by_cases c123 : c = 123
  · subst c123; exact sgl (tx := tx) h7 h2 rfl rfl
  by_cases c125 : c = 125
  · subst c125; exact sgl (tx := tx) h7 h2 rfl rfl
  refine sgl (tx := tx) h7 h2 (k := -1) ?_ ?_
  · unfold lx_1 f_9013
    rw [if_neg c33, if_neg c35, if_neg c37, if_neg c40, if_neg c41, if_neg c42, if_neg c43, if_neg c44, if_neg c45, if_neg c47, if_neg c59, if_neg c60, if_neg c61, if_neg c62, if_neg c123, if_neg c125]
    rfl
  · unfold f_12018
    rw [if_neg c33, if_neg c35, if_neg c37, if_neg c38, if_neg c40, if_neg c41, if_neg c42, if_neg c43, if_neg c44, if_neg c45, if_neg c47, if_neg c59, if_neg c60, if_neg c61, if_neg c62, if_neg c123, if_neg c124, if_neg c125]
/-- the token from p on: (kind, value, place, end); the end of the text is one -/
def lx_nx (tx : List Int32) (p : Nat) : Tk :=
  if tx.length ≤ lx_sk tx (tx.length - p) p then (0, 0, tx.length, tx.length)
  else ((lx_tk tx (lx_sk tx (tx.length - p) p)).1, (lx_tk tx (lx_sk tx (tx.length - p) p)).2.1, lx_sk tx (tx.length - p) p, (lx_tk tx (lx_sk tx (tx.length - p) p)).2.2)
theorem rd_12019 {tx : List Int32} {m : Mx} {p : Nat} (h : MT tx m) (h7 : m 0 7 = nI p) (hp : p ≤ tx.length) :
    ∃ m', f_12019 m = some m' ∧ Ff [5, 6, 7, 8] m m' ∧ m' 0 5 = km (lx_nx tx p).1 ∧ m' 0 6 = nI (lx_nx tx p).2.2.1 ∧ m' 0 7 = nI (lx_nx tx p).2.2.2 ∧ ((lx_nx tx p).1 = 3 → m' 0 8 = (lx_nx tx p).2.1) := by
  have hn := h.1
  have hb := lx_sk_b tx (tx.length - p) p
  unfold f_12019 f_12013
  rw [show mf m 7 = nI p from h7, sk_12013 h (nI p) (tx.length - p) 1000 p (by omega) (by omega), bP_some, bS_eq, bS_eq]
  unfold lx_nx
  generalize hq : lx_sk tx (tx.length - p) p = q at *
  generalize hm1 : mp (mp m 6 (nI q)) 7 (mf (mp m 6 (nI q)) 6) = m1
  have F1 : Ff [5, 6, 7, 8] m m1 := by
    rw [← hm1]
    exact (Ff_mp (by decide)).tr (Ff_mp (by decide))
  have g6 : mf m1 6 = nI q := by
    rw [← hm1]
    show mp _ 7 _ 0 6 = _
    rw [mp_n (by decide), mp_s]
  have g7 : mf m1 7 = nI q := by
    rw [← hm1]
    show mp _ 7 _ 0 7 = _
    rw [mp_s]
    exact mp_s
  have hT1 : MT tx m1 := h.ff F1 (by decide)
  rw [g6, hT1.f4]
  by_cases hqe : tx.length ≤ q
  · have hqq : q = tx.length := by omega
    rw [if_pos (by rw [hqq]), if_pos hqe]
    refine ⟨mp m1 5 0, rfl, F1.tr (Ff_mp (by decide)), mp_s, ?_, ?_, fun e => absurd (show (0 : Int32) = 3 from e) (by decide)⟩
    · rw [mp_n (by decide), ← hqq]
      exact g6
    · rw [mp_n (by decide), ← hqq]
      exact g7
  · have hql : q < tx.length := by omega
    rw [if_neg (by rw [nI_eq (by omega) (by omega)]; omega), if_neg hqe, gd_e (vi_n (by omega) (by omega)), hT1.g hql]
    unfold lx_tk
    by_cases hd : isD (tg tx q)
    · rw [if_neg (fun r => (f12011_0 _ _).1 r hd), if_pos hd]
      obtain ⟨s', w', e1, e2, e3, e4⟩ := nm_12015 (tx.length - q) 1000 q 0 0 m1 hT1 g7 ⟨by decide, by decide, Or.inl rfl⟩ (by omega) (by omega)
      unfold f_12015
      rw [e1]
      generalize hv : (lx_nm tx (tx.length - q) 0 q).1 = v at *
      have em : (2147483647 : Int64).toInt = 2147483647 := rfl
      unfold f_12015_J77 f_12015_J92
      obtain ⟨i1, i2, i3⟩ := e2
      by_cases hle : lg_cmp v 2147483647 ≤ 0
      · have hle' := lg_le.1 hle
        rw [em] at hle'
        have hw : w' = v := by
          rcases i3 with i3 | i3
          · exact Int64.toInt_inj.1 i3
          · omega
        rw [hw, if_pos hle, bS_eq, if_pos hle, if_pos hle]
        refine ⟨mp (mp s' 8 v.toInt32) 5 1, rfl, ?_, mp_s, ?_, ?_, ?_⟩
        · exact F1.tr ((Ff.tr ⟨e3.1, fun f hf => e3.2 f (fun r => hf (by revert r; simp; omega))⟩ (Ff_mp (by decide))).tr (Ff_mp (by decide)))
        · rw [mp_n (by decide), mp_n (by decide), e3.2 6 (by decide)]
          exact g6
        · rw [mp_n (by decide), mp_n (by decide)]
          exact e4
        · intro _
          rw [mp_n (by decide), mp_s]
      · have hle' : ¬ v.toInt ≤ 2147483647 := fun r => hle (lg_le.2 (by rw [em]; exact r))
        have hwn : ¬ lg_cmp w' 2147483647 ≤ 0 := fun r => by
          have := lg_le.1 r
          rw [em] at this
          omega
        rw [if_neg hwn, bS_eq, if_neg hwn, if_neg hle]
        refine ⟨mp (mp s' 8 0) 5 (-2), rfl, ?_, mp_s, ?_, ?_, fun e => absurd (show (2 : Int32) = 3 from e) (by decide)⟩
        · exact F1.tr ((Ff.tr ⟨e3.1, fun f hf => e3.2 f (fun r => hf (by revert r; simp; omega))⟩ (Ff_mp (by decide))).tr (Ff_mp (by decide)))
        · rw [mp_n (by decide), mp_n (by decide), e3.2 6 (by decide)]
          exact g6
        · rw [mp_n (by decide), mp_n (by decide)]
          exact e4
    · rw [if_pos ((f12011_0 _ _).2 hd), if_neg hd, gd_e (vi_n (by omega) (by omega))]
      by_cases hl : isL (tg tx q)
      · rw [if_neg (fun r => (f12012_0 _ _).1 r hl), if_pos hl]
        have z0 : lx_w tx q (q - q) = [] := by
          rw [Nat.sub_self]
          simp [lx_w]
        obtain ⟨s', l', e1, e2, e3, e4, e5⟩ := wd_12016 q (tx.length - q) 1000 q 0 m1 hT1 g6 g7 (Nat.le_refl _) (by rw [z0]; intro c hc; cases hc) (by rw [z0]; rfl) (by omega) (by omega)
        unfold f_12016
        rw [e1, kw_83 e4 e5, bO_some, bS_eq]
        refine ⟨mp s' 5 _, rfl, ?_, mp_s, ?_, ?_, ?_⟩
        · exact F1.tr (Ff.tr ⟨e2.1, fun f hf => e2.2 f (fun r => hf (by revert r; simp; omega))⟩ (Ff_mp (by decide)))
        · rw [mp_n (by decide), e2.2 6 (by decide)]
          exact g6
        · rw [mp_n (by decide)]
          exact e3
        · intro e
          exfalso
          revert e
          unfold lx_kw
          refine ite_P (P := fun x => x = 3 → False) (by decide) ?_
          repeat (refine ite_P (P := fun x => x = 3 → False) (by decide) ?_)
          decide
      · rw [if_pos ((f12012_0 _ _).2 hl), if_neg hl, bS_eq]
        generalize hm2 : mp m1 7 (mf m1 7 + 1) = m2
        have F2 : Ff [5, 6, 7, 8] m1 m2 := by
          rw [← hm2]
          exact Ff_mp (by decide)
        have k6 : mf m2 6 = nI q := by
          rw [← hm2]
          show mp _ 7 _ 0 6 = _
          rw [mp_n (by decide)]
          exact g6
        have k7 : m2 0 7 = nI (q + 1) := by
          rw [← hm2, mp_s, g7, nI_1]
        have hT2 := hT1.ff F2 (by decide)
        obtain ⟨m', e1, e2, e3⟩ := mark_12018 (tg tx q) hT2 k7 (by omega)
        rw [k6, gd_e (vi_n (by omega) (by omega)), hT2.g hql, e1, bO_some, bS_eq]
        refine ⟨mp m' 5 _, rfl, ?_, ?_, ?_, ?_, ?_⟩
        · exact (F1.tr F2).tr (Ff.tr ⟨e2.1, fun f hf => e2.2 f (fun r => hf (by revert r; simp; omega))⟩ (Ff_mp (by decide)))
        · rw [mp_s]
          by_cases h21 : lx_2 (tg tx q) (tg tx (q + 1)) = 1
          · rw [if_pos h21, if_pos h21]
          · rw [if_neg h21, if_neg h21]
        · rw [mp_n (by decide), e2.2 6 (by decide)]
          by_cases h21 : lx_2 (tg tx q) (tg tx (q + 1)) = 1
          · rw [if_pos h21]; exact k6
          · rw [if_neg h21]; exact k6
        · rw [mp_n (by decide), e3]
          by_cases h21 : lx_2 (tg tx q) (tg tx (q + 1)) = 1
          · rw [if_pos h21, if_pos h21]
          · rw [if_neg h21, if_neg h21]
        · intro e
          exfalso
          by_cases h21 : lx_2 (tg tx q) (tg tx (q + 1)) = 1
          · rw [if_pos h21] at e
            have e' : lx_1 (tg tx q) = 3 := e
            revert e'
            unfold lx_1 f_9013
            repeat (refine ite_P (P := fun x => x = 3 → False) (by decide) ?_)
            decide
          · rw [if_neg h21] at e
            have e' : lx_2 (tg tx q) (tg tx (q + 1)) = 3 := e
            revert e'
            unfold lx_2 f_9012
            refine ite_P (P := fun x => x = 3 → False) ?_ ?_
            · repeat (refine ite_P (P := fun x => x = 3 → False) (by decide) ?_)
              decide
            · refine ite_P (P := fun x => x = 3 → False) ?_ (by decide)
              repeat (refine ite_P (P := fun x => x = 3 → False) (by decide) ?_)
              decide
