/-! acts: a block closes; behind an if -/
section CLB
variable {tx : List Int32} {s : Sx} {op bl : List Ae} {a L : Nat} {m : Mx} {b : Ae}
def TB (x : Int32) (a : Nat) : Prop := ∃ i, x = nI i ∧ i < a
/-- tokens that are noted lie before -/
def Tb (op bl : List Ae) (a : Nat) : Prop := (∀ x, x ∈ op → (x.1 = 23 ∨ x.1 = 24 → TB x.2.1 a) ∧ (x.1 = 53 → TB x.2.2.1 a)) ∧ ∀ b, b ∈ bl → TB b.2.2.2.2.2 a ∧ (b.1 = 10 → TB b.2.2.2.2.1 a)
theorem mf_s {m : Mx} {g : Nat} {x : Int32} : mf (mp m g x) g = x := mp_s
theorem sV_1 {k : Nat} {x : Int32} : (sV s k x).1 = s.1 := rfl
theorem RwS.v {k : Nat} {x : Int32} : RwS s (sV s k x) := RwS.of rfl rfl rfl
theorem cd7 {c x : Int32} (h : (s.1 7).length < 600) : (au_cd c x s).1 7 = s.1 7 ++ [c] := xadd_e (l := s.1 7) h
theorem pt_r {x : Int32} {j : Nat} (h : j ≠ 8) : (au_pt x s).1 j = s.1 j := if_neg h
theorem sv_r {t x : Int32} {j : Nat} (h : j ≠ 1) : (au_sv t x s).1 j = s.1 j := if_neg h
theorem cd_r {c x : Int32} {j : Nat} (h7 : j ≠ 7) (h8 : j ≠ 8) : (au_cd c x s).1 j = s.1 j := (if_neg h8).trans (if_neg h7)
theorem ep_r {x : Int32} {j : Nat} (h : j ≠ 6) : (au_ep x s).1 j = s.1 j := if_neg h
theorem Raw.eq {s' : Sx} (h : Raw tx s a) (h0 : s'.1 0 = s.1 0) (h1 : s'.1 1 = s.1 1) : Raw tx s' a := by
  unfold Raw
  rw [h0, h1]
  exact h
theorem RwS.pt {x : Int32} : RwS s (au_pt x s) := RwS.of (pt_r (by decide)) (by rw [pt_r (by decide)]) (pt_r (by decide))
theorem RwS.sv {t x : Int32} : RwS s (au_sv t x s) := RwS.of (sv_r (by decide)) (by rw [sv_r (by decide)]) (sv_r (by decide))
theorem RwS.ep {x : Int32} : RwS s (au_ep x s) := RwS.of (ep_r (by decide)) (by rw [ep_r (by decide)]) (ep_r (by decide))
theorem Raw.pt {x : Int32} (h : Raw tx s a) : Raw tx (au_pt x s) a := h.eq (pt_r (by decide)) (pt_r (by decide))
theorem Raw.cd {c x : Int32} (h : Raw tx s a) : Raw tx (au_cd c x s) a := h.eq (cd_r (by decide) (by decide)) (cd_r (by decide) (by decide))
theorem svg {i j : Nat} {x : Int32} (hi : i < 100000) (h : i ≠ j) : ((au_sv (nI i) x s).1 1).getD j 0 = (s.1 1).getD j 0 := by
  show (xset (s.1 1) (nI i) x).getD j 0 = _
  rw [xset_n hi, gD_set_n h]
def M5 (nb p a : Nat) (m : Mx) : Mx := ms (mp (mp (MK 29 0 m) 38 (nI nb)) 33 (nI nb)) 8 (nI p) (nI a)
theorem M5_0 {nb p : Nat} {f : Nat} (h : f ≠ 14 ∧ f ≠ 32 ∧ f ≠ 33 ∧ f ≠ 38) : M5 nb p a m 0 f = m 0 f := by
  unfold M5
  rw [ms_j (by decide), mp_n h.2.2.1, mp_n h.2.2.2, MK_0 ⟨h.1, h.2.1⟩]
theorem mf_M5 {nb p : Nat} {f : Nat} (h : f ≠ 14 ∧ f ≠ 32 ∧ f ≠ 33 ∧ f ≠ 38) : mf (M5 nb p a m) f = mf m f := by
  unfold M5
  rw [mf_ms (by decide), mf_mp h.2.2.1, mf_mp h.2.2.2, mf_MK ⟨h.1, h.2.1⟩]
theorem M5_n {nb p : Nat} {j : Nat} (h : j ≠ 0 ∧ j ≠ 6 ∧ j ≠ 8) : M5 nb p a m j = m j := by
  unfold M5
  rw [ms_j h.2.2, mp_j h.1, mp_j h.1, MK_n h.1 h.2.1]
theorem M5_38 {nb p : Nat} : mf (M5 nb p a m) 38 = nI nb := by
  unfold M5
  rw [mf_ms (by decide), mf_mp (by decide), mf_s]
theorem M5_33 {nb p : Nat} : M5 nb p a m 0 33 = nI nb := by
  unfold M5
  rw [ms_j (by decide), mp_s]
theorem M5_32 {nb p : Nat} : M5 nb p a m 0 32 = 0 := by
  unfold M5
  rw [ms_j (by decide), mp_n (by decide), mp_n (by decide), MK_32]
theorem M5_8 {nb p : Nat} (hp : p < 1000) : M5 nb p a m 8 p = nI a := by
  unfold M5
  rw [ms_s (by omega)]
  exact if_pos rfl
/-- } : what the class and the reference hold then -/
theorem S0.cl (h : S0 tx s (b :: bl) a L m) (ha : a + 1 < (tks tx).length) (hk : tkd (tks tx) a = 31) (hT : TB b.2.2.2.2.2 a) : ∃ p, b.2.1 = nI p ∧ p < 100 ∧ p < (s.1 5).length ∧
    Lv (a + 1) ((tks tx).length - 1) bl.length (au_clb b s) ∧ Raw tx (au_clb b s) (a + 1) ∧ RR (tks tx) tx (au_clb b s) (a + 1) [] bl (oeP [] (b :: bl)) (fun _ => False) 0 (M5 bl.length p a m) ∧ RwS s (au_clb b s) ∧ m 22 bl.length = bkm b.1 ∧ m 24 bl.length = b.2.2.1 ∧ (b.1 = 7 → m 25 bl.length = b.2.2.2.1) ∧
    f_12038 m = (if bkm b.1 = 4 then some (mp (M5 bl.length p a m) 32 1, 1) else if bkm b.1 = 6 then bO (f_12021 14 (m 25 bl.length) (M5 bl.length p a m)) fun s12 _ => f_12038_J121 1 (bkm b.1) s12 else if bkm b.1 = 9 then bO (f_12021 1 0 (M5 bl.length p a m)) fun s9 _ => bO (f_12021 15 0 s9) fun s10 _ => f_12038_J121 1 (bkm b.1) (mp s10 34 0) else f_12038_J121 1 (bkm b.1) (M5 bl.length p a m)) := by
  obtain ⟨ha3, hc, hnb, h5'⟩ := h.b ha
  obtain ⟨⟨hL, hR, hM⟩, ⟨h7, h33, h34⟩, hB, hp, q1, q2, q3, q4, q5⟩ := h
  have hae : a < (tks tx).length - 1 := by omega
  have hl1 : (b :: bl).length = bl.length + 1 := rfl
  have hL' : L = bl.length + 1 := q4.trans hl1
  subst hL'
  obtain ⟨hb1, ⟨p, hp1, hp2⟩, hb3, ⟨i, hi1, hi2, hi3⟩, hb5⟩ := hB b (List.mem_cons_self ..)
  obtain ⟨i', hi1', hi4⟩ := hT
  have hii : i = i' := (nI_eq (by omega) (by omega)).1 (hi1.symm.trans hi1')
  subst hii
  have hr0 : (s.1 0).getD a 0 = 31 := ((hR.2 a (Nat.le_refl _) (by omega)).1).trans hk
  have f14 : mf m 14 = nI a := hM.2.2.1.1
  have f38 : mf m 38 = nI (bl.length + 1) := hM.2.2.2.2.2.2.2.2.1
  have f33 : mf m 33 = nI (bl.length + 1) := h33.trans hL.2.2.2.2.2.2.1
  obtain ⟨w22, w23, w24, w25, _⟩ := hM.2.2.2.2.2.2.2.2.2
  refine ⟨p, hp1, by omega, hp2, hL.clb hae, ?_, ?_, RwS.of rfl rfl rfl, w22, w24, w25, ?_⟩
  · refine hR.nx (fun _ _ => rfl) (fun j hj => ?_) ?_
    · show ((au_sv (s.2 2) b.2.2.2.2.1 (au_sv b.2.2.2.2.2 (s.2 2 + 1) s)).1 1).getD j 0 = _
      rw [hL.2.1, svg (by omega) (by omega), hi1, svg (by omega) (by omega)]
    · show (xset (xset (s.1 1) b.2.2.2.2.2 (s.2 2 + 1)) (s.2 2) b.2.2.2.2.1).length = _
      rw [xset_len, xset_len]
  · have h1 := hM.sv (t := b.2.2.2.2.2) (x := s.2 2 + 1) hi1 hi2 hi3.1
    have h2 := h1.sv (i := a) (t := s.2 2) (x := b.2.2.2.2.1) hL.2.1 (by omega) (by show (s.1 0).getD a 0 ≠ 35; rw [hr0]; decide)
    have h3 := h2.nx (w := 29) (st := 0) ha3 (by show (29 : Int32) = wm ((s.1 0).getD a 0); rw [hr0]; rfl)
    have h4 := h3.bpop
    have e38 : mf (MK 29 0 m) 38 - 1 = nI bl.length := by rw [mf_MK (by decide), f38, nI_pred]
    rw [e38] at h4
    have h5 := ((h4.f (f := 33) (x := nI bl.length) (by decide)).i (s' := au_clb b s) rfl).m8 (k := p) (x := nI a) (by omega) ⟨by omega, Or.inr ⟨b, List.mem_cons_self .., hp1⟩⟩
    exact h5
  · have e38 : mf (MK 29 0 m) 38 - 1 = nI bl.length := by rw [mf_MK (by decide), f38, nI_pred]
    have e33 : mf (mp (MK 29 0 m) 38 (nI bl.length)) 33 - 1 = nI bl.length := by rw [mf_mp (by decide), mf_MK (by decide), f33, nI_pred]
    have g38 : mf (mp (mp (MK 29 0 m) 38 (nI bl.length)) 33 (nI bl.length)) 38 = nI bl.length := by rw [mf_mp (by decide), mf_s]
    have g14 : mf (mp (mp (MK 29 0 m) 38 (nI bl.length)) 33 (nI bl.length)) 14 - 1 = nI a := by
      rw [mf_mp (by decide), mf_mp (by decide)]
      unfold MK
      rw [mf_mp (by decide), mf_s, f14, nI_1, nI_pred]
    have g23 : mg (mp (mp (MK 29 0 m) 38 (nI bl.length)) 33 (nI bl.length)) 23 (nI bl.length) = nI p := by
      rw [mg_n (by omega), mp_j (by decide), mp_j (by decide), MK_n (by decide) (by decide), w23, hp1]
    have v : vi (nI bl.length) 10 := vi_n (by have := hl1; omega) (by omega)
    have v2 : vi (nI p) 100 := vi_n (by omega) (by omega)
    unfold f_12038
    rw [MK_e f14 (by omega), bO_some, bS_eq, e38, bS_eq, e33, g38, gd_e v, g23, gd_e v2, g14, bS_eq]
    show gd (vi (mf (M5 bl.length p a m) 38) 10) (if mg (M5 bl.length p a m) 22 (mf (M5 bl.length p a m) 38) = 4 then _ else if mg (M5 bl.length p a m) 22 (mf (M5 bl.length p a m) 38) = 6 then gd (vi (mf (M5 bl.length p a m) 38) 10) (bO (f_12021 14 (mg (M5 bl.length p a m) 25 (mf (M5 bl.length p a m) 38)) (M5 bl.length p a m)) fun s12 r12 => f_12038_J121 1 (mg (M5 bl.length p a m) 22 (mf (M5 bl.length p a m) 38)) s12) else if mg (M5 bl.length p a m) 22 (mf (M5 bl.length p a m) 38) = 9 then (bO (f_12021 1 0 (M5 bl.length p a m)) fun s9 r9 => bO (f_12021 15 0 s9) fun s10 r10 => bS (mp s10 34 0) fun s11 => f_12038_J121 1 (mg (M5 bl.length p a m) 22 (mf (M5 bl.length p a m) 38)) s11) else f_12038_J121 1 (mg (M5 bl.length p a m) 22 (mf (M5 bl.length p a m) 38)) (M5 bl.length p a m)) = _
    rw [M5_38, gd_e v, gd_e v, mg_n (by omega), mg_n (by omega), M5_n (by decide), M5_n (by decide), w22]
    rfl
theorem J121_e {l1 l2 : Int32} {nb k : Nat} (h38 : mf m 38 = nI nb) (hnb : nb < 10) (h24 : m 24 nb = nI k) (hk : k < 1200) : f_12038_J121 l1 l2 m = some (ms m 5 (nI k) (mf m 11), 1) := by
  unfold f_12038_J121
  rw [h38, gd_e (vi_n hnb (by omega)), mg_n (by omega), h24, gd_e (vi_n hk (by omega)), bS_eq]
/-- the end of a statement with a block -/
theorem clEnd {s1 : Sx} {m1 : Mx} {p nb : Nat} (hb1 : b.2.1 = nI p) (hp : p < 1000) (hL : Lv (a + 1) ((tks tx).length - 1) nb s1) (hR : Raw tx s1 (a + 1)) (hM : RR (tks tx) tx s1 (a + 1) [] bl (oeP [] (b :: bl)) (fun _ => False) 0 m1) (h7 : m1 0 7 = nI (bend (tks tx) (a + 1))) (h32 : m1 0 32 = 0) (h33 : m1 0 33 = s1.2 4) (h34 : m1 0 34 = s1.2 5) (h8 : m1 8 p = nI a) :
    Rel tx (au_ep b.2.1 s1, 0, [], bl) (a + 1) nb m1 0 := by
  refine Rel.end0 (f := (43, b.2.1, 0, 0, 0, 0)) hb1 hp hL hR (hM.oew fun k hk => ?_) h7 h32 h33 h34 h8
  obtain ⟨k1, ⟨z, hz, _⟩ | ⟨c, hc1, hc2⟩⟩ := hk
  · cases hz
  · rcases List.mem_cons.1 hc1 with e | e
    · exact ⟨k1, Or.inl ⟨_, List.mem_singleton.2 rfl, by show (43 : Int32) ≤ 43; decide, by rw [← hc2, e]⟩⟩
    · exact ⟨k1, Or.inr ⟨c, e, hc2⟩⟩
theorem clInv {s1 : Sx} (h : S0 tx s (b :: bl) a L m) (ha : a + 1 < (tks tx).length) (hr : RwS s s1) (h7 : (s1.1 7).length ≤ (s.1 7).length + 2) (h15 : (s1.1 15).length = (s.1 15).length) (h9 : (s1.1 9).length = (s.1 9).length) : Inv tx (au_ep b.2.1 s1, 0, [], bl) (a + 1) bl.length := by
  obtain ⟨⟨hL, hR, hM⟩, _, hB, hp, q1, q2, q3, q4, q5⟩ := h
  have hr2 : RwS s (au_ep b.2.1 s1) := hr.tr (RwS.of rfl rfl rfl)
  have hl1 : (b :: bl).length = bl.length + 1 := rfl
  refine Inv.mk IvO.nil (fun c hc => (hB c (List.mem_cons_of_mem _ hc)).up hr2) (Or.inl ⟨rfl, rfl, ?_⟩) ?_
  · show 3 * (s1.1 5).length ≤ a + 1
    rw [hr.2.1]
    omega
  · have hb := (bend_s ha).1
    refine ⟨?_, fun _ hbl => Or.inr ?_, ?_, rfl, ?_⟩
    · show (s1.1 7).length + 0 + 2 * bl.length ≤ 2 * (a + 1) + 0
      omega
    · show (s1.1 7).length + 0 + 2 ≤ 2 * (a + 1)
      omega
    · show 3 * (s1.1 15).length ≤ a + 1 + 0 + 0
      omega
    · rw [dsB_n (by decide) (fun x hx => by cases hx)]
      show 8 * (s1.1 9).length + 0 ≤ _
      rw [List.any_cons] at q5
      split
      · split at q5 <;> omega
      · split at q5 <;> omega
theorem sClose (h : S0 tx s (b :: bl) a L m) (ht : Tok tx a m) (ha : a + 1 < (tks tx).length) (hk : tkd (tks tx) a = 31) (hT : TB b.2.2.2.2.2 a) (hT2 : b.1 = 10 → TB b.2.2.2.2.1 a) : Go (f_12042 m) tx (au_cls s b bl) a := by
  have h5 := ht.k hk
  obtain ⟨ha3, hc, hnb, h5'⟩ := h.b ha
  obtain ⟨p, hp1, hp2, hp3, z1, z2, z3, z4, w22, w24, w25, hacc⟩ := h.cl ha hk hT
  have hS := h
  obtain ⟨⟨hL, hR, hM⟩, ⟨h7, h33, h34⟩, hB, hp, q1, q2, q3, q4, q5⟩ := h
  obtain ⟨hb1, _, ⟨k, hk1, hk2, hk3⟩, ⟨i, hi1, hi2, hi3⟩, hb5⟩ := hB b (List.mem_cons_self ..)
  have hl1 : (b :: bl).length = bl.length + 1 := rfl
  have f38 : mf m 38 = nI (bl.length + 1) := hM.2.2.2.2.2.2.2.2.1
  have f11 : mf m 11 = nI (s.1 7).length := hM.2.1.1
  have hf : f_12042 m = f_12038 m := by
    unfold f_12042
    rw [if_neg (by rw [h5]; decide), if_neg (by rw [h5]; decide), if_neg (by rw [h5]; decide), if_neg (by rw [h5]; decide), if_neg (by rw [h5]; decide), if_neg (by rw [h5]; decide), if_neg (by rw [h5]; decide), if_neg (by rw [h5]; decide), if_neg (by rw [h5]; decide), if_neg (by rw [h5]; decide), if_neg (by rw [h5]; decide), if_neg (by rw [h5]; decide), if_neg (by rw [h5]; decide), if_neg (by rw [h5]; decide), if_neg (by rw [h5]; decide), if_neg (by rw [h5]; decide), if_neg (by rw [h5]; decide), if_neg (by rw [h5]; decide), if_neg (by rw [h5]; decide), if_neg (by rw [h5]; decide), if_neg (by rw [h5]; decide), if_neg (by rw [h5]; decide), if_neg (by rw [h5]; decide), if_neg (by rw [h5]; decide), if_neg (by rw [h5]; decide), if_neg (by rw [h5]; decide), if_neg (by rw [h5]; decide), if_neg (by rw [h5]; decide), if_neg (by rw [h5]; decide), if_pos (by rw [h5]; rfl)]
    rw [if_neg (by
      rw [f38]
      intro e
      have := nI_lt (a := 0) (b := bl.length + 1) (by omega) (by omega)
      rw [i_lt] at this
      rw [i_le] at e
      have e0 : (nI 0).toInt = (0 : Int32).toInt := rfl
      omega), bO_id]
  have r7 : (au_clb b s).1 7 = s.1 7 := rfl
  have i5 : (au_clb b s).2 5 = s.2 5 := rfl
  have g11 : mf (M5 bl.length p a m) 11 = nI (s.1 7).length := (mf_M5 (by decide)).trans f11
  have g7 : M5 bl.length p a m 0 7 = nI (bend (tks tx) (a + 1)) := (M5_0 (by decide)).trans h7
  have g34 : M5 bl.length p a m 0 34 = s.2 5 := (M5_0 (by decide)).trans h34
  have g24 : M5 bl.length p a m 24 bl.length = nI k := by rw [M5_n (by decide), w24, hk1]
  have g4 : (au_clb b s).2 4 = nI bl.length := z1.2.2.2.2.2.2.1
  have cdp : ∀ (c x : Int32), (au_cd c x (au_clb b s)).1 7 = s.1 7 ++ [c] := fun c x => xadd_e (l := s.1 7) hc
  unfold au_cls
  rcases hb1 with e | e | e | e
  · rw [if_pos e]
    rw [e, if_pos (by decide)] at hacc
    refine ⟨_, bl.length, hf.trans hacc, ?_, ?_⟩
    · refine Rel.mk z1 z2 ?_ ?_ (by rw [mp_s]) ?_ ?_ ?_
      · refine ((z3.f (f := 32) (x := 1) (by decide)).oew (fun j hj => ?_)).ocw (fun _ q => q.elim)
        obtain ⟨k1, ⟨z, hz, _⟩ | ⟨c, hc1, hc2⟩⟩ := hj
        · cases hz
        · rcases List.mem_cons.1 hc1 with e | e
          · exact ⟨k1, Or.inl ⟨_, List.mem_singleton.2 rfl, by show (43 : Int32) ≤ 51; decide, by rw [← hc2, e]⟩⟩
          · exact ⟨k1, Or.inr ⟨c, e, hc2⟩⟩
      · rw [mp_n (by decide)]; exact g7
      · rw [mp_n (by decide), M5_33, g4]
      · rw [mp_n (by decide)]; exact g34
      · refine ⟨fun q f eq h1 _ => ?_, fun q f eq h1 => ?_, fun x eq _ => ?_, fun x eq h1 => ?_, fun x eq h1 => ?_, fun q => absurd q (by decide)⟩
        · have : f = (51, b.2.1, b.2.2.1, 0, 0, 0) := app1' eq.symm
          rw [this] at h1
          exact absurd rfl h1
        · have : f = (51, b.2.1, b.2.2.1, 0, 0, 0) := app1' eq.symm
          rw [this] at h1
          exact absurd (show (51 : Int32) = 47 from h1) (by decide)
        · have : (51, b.2.1, b.2.2.1, 0, 0, 0) = x := (List.cons.inj eq).1
          rw [← this, mp_j (by decide), mp_j (by decide), mp_j (by decide), M5_n (by decide), M5_n (by decide)]
          refine ⟨hM.2.2.2.2.2.2.2.2.2.2.1, w24, fun j hj hj2 => ?_⟩
          have hj' : b.2.1 = nI j := hj
          have : p = j := (nI_eq (by omega) (by omega)).1 (hp1.symm.trans hj')
          rw [← this, M5_8 (by omega)]
          exact (nI_pred a).symm
        · have : (51, b.2.1, b.2.2.1, 0, 0, 0) = x := (List.cons.inj eq).1
          rw [← this] at h1
          exact absurd (show (51 : Int32) = 52 from h1) (by decide)
        · have : (51, b.2.1, b.2.2.1, 0, 0, 0) = x := (List.cons.inj eq).1
          rw [← this] at h1
          exact absurd (show (51 : Int32) = 53 from h1) (by decide)
    · refine Inv.mk IvO.nil (fun c hc => (hB c (List.mem_cons_of_mem _ hc)).up z4) (Or.inr (Or.inl ⟨rfl, ⟨b.2.1, b.2.2.1, rfl, ⟨p, hp1, hp3⟩, ⟨k, hk1, hk2, hk3⟩⟩, ?_⟩)) ?_
      · show 3 * (s.1 5).length ≤ a + 1
        omega
      · have hb := (bend_s ha).1
        refine ⟨?_, fun _ hbl => Or.inr ?_, ?_, rfl, ?_⟩
        · show (s.1 7).length + 1 + 2 * bl.length ≤ 2 * (a + 1) + 0
          omega
        · show (s.1 7).length + 1 + 2 ≤ 2 * (a + 1)
          omega
        · show 3 * (s.1 15).length ≤ a + 1 + 0 + 0
          omega
        · rw [dsB_n (by decide) (fun x hx => by rw [List.mem_singleton.1 hx]; show (51 : Int32) ≠ 53; decide)]
          show 8 * (s.1 9).length + 0 ≤ _
          rw [List.any_cons] at q5
          split
          · split at q5 <;> omega
          · split at q5 <;> omega
  · rw [if_neg (by rw [e]; decide), if_pos e]
    rw [e, if_neg (by decide), if_neg (by decide), if_neg (by decide), J121_e M5_38 (by omega) g24 (by omega)] at hacc
    refine ⟨_, bl.length, hf.trans hacc, ?_, ?_⟩
    · refine clEnd (s1 := au_pt b.2.2.1 (au_clb b s)) hp1 (by omega) (z1.co Co_pt) z2.pt (z3.pt hk1 hk2 (by show (s.1 7).length < 1000; omega) hk3) ?_ ?_ ?_ ?_ ?_
      · rw [ms_j (by decide)]; exact g7
      · rw [ms_j (by decide)]; exact M5_32
      · rw [ms_j (by decide), M5_33]; exact g4.symm
      · rw [ms_j (by decide)]; exact g34
      · rw [ms_j (by decide)]; exact M5_8 (by omega)
    · exact clInv (s1 := au_pt b.2.2.1 (au_clb b s)) hS ha (z4.tr RwS.pt) (by rw [pt_r (by decide), r7]; omega) (by rw [pt_r (by decide)]; rfl) (by rw [pt_r (by decide)]; rfl)
  · rw [if_neg (by rw [e]; decide), if_neg (by rw [e]; decide), if_pos e]
    rw [e, if_neg (by decide), if_pos (by decide), w25 e, MA_e g11 (by omega), bO_some, J121_e ((mf_MA (by decide)).trans M5_38) (by omega) (by rw [MA_n (by decide) (by decide) (by decide)]; exact g24) (by omega)] at hacc
    refine ⟨_, bl.length, hf.trans hacc, ?_, ?_⟩
    · have z5 := z3.cd (c := 13) (x := b.2.2.2.1) (w := 14) (y := b.2.2.2.1) hc rfl rfl
      refine clEnd (s1 := au_pt b.2.2.1 (au_cd 13 b.2.2.2.1 (au_clb b s))) hp1 (by omega) (z1.co (Co_cd.tr Co_pt)) z2.cd.pt (z5.pt hk1 (by rw [cdp, List.length_append]; omega) (by rw [cdp, List.length_append]; show _ + 1 < 1000; omega) (by rw [cdp, gD_app_l hk2]; exact hk3)) ?_ ?_ ?_ ?_ ?_
      · rw [ms_j (by decide), MA_0 (by decide)]; exact g7
      · rw [ms_j (by decide), MA_0 (by decide)]; exact M5_32
      · rw [ms_j (by decide), MA_0 (by decide), M5_33]; exact g4.symm
      · rw [ms_j (by decide), MA_0 (by decide)]; exact g34
      · rw [ms_j (by decide), MA_n (by decide) (by decide) (by decide)]; exact M5_8 (by omega)
    · refine clInv (s1 := au_pt b.2.2.1 (au_cd 13 b.2.2.2.1 (au_clb b s))) hS ha (z4.tr ((RwS.cd (s := au_clb b s) (c := 13) (y := b.2.2.2.1) hc).tr RwS.pt)) ?_ (by rw [pt_r (by decide), cd_r (by decide) (by decide)]; rfl) (by rw [pt_r (by decide), cd_r (by decide) (by decide)]; rfl)
      rw [pt_r (by decide), cdp, List.length_append]
      show _ + 1 ≤ _
      omega
  · rw [if_neg (by rw [e]; decide), if_neg (by rw [e]; decide), if_neg (by rw [e]; decide)]
    obtain ⟨t, ht1, ht2, ht3⟩ := hb5 e
    obtain ⟨t', ht1', ht4⟩ := hT2 e
    have htt : t = t' := (nI_eq (by omega) (by omega)).1 (ht1.symm.trans ht1')
    subst htt
    have hcV : ((sV (au_clb b s) 5 0).1 7).length < 600 := by
      rw [sV_1, r7]
      exact hc
    have l71 : (au_cd 1 0 (sV (au_clb b s) 5 0)).1 7 = s.1 7 ++ [1] := by rw [cd7 hcV, sV_1, r7]
    have hc2 : ((au_cd 1 0 (sV (au_clb b s) 5 0)).1 7).length < 600 := by
      rw [l71, List.length_append]
      show _ + 1 < 600
      omega
    have l7 : (au_cd 16 0 (au_cd 1 0 (sV (au_clb b s) 5 0))).1 7 = (s.1 7 ++ [1]) ++ [16] := by
      rw [cd7 hc2, l71]
    have k7 : k < (s.1 7 ++ [(1 : Int32)]).length := by rw [List.length_append]; omega
    have z5 := ((z3.i (s' := sV (au_clb b s) 5 0) sV_1).cd (c := 1) (x := 0) (w := 1) (y := 0) hcV rfl rfl).cd (c := 16) (x := 0) (w := 15) (y := 0) hc2 rfl rfl
    have g11b : mf (MA 1 0 (M5 bl.length p a m)) 11 = nI ((s.1 7).length + 1) := by
      unfold MA
      rw [mf_s, g11, nI_1]
    rw [e, if_neg (by decide), if_neg (by decide), if_pos (by decide), MA_e g11 (by omega), bO_some, MA_e g11b (by omega), bO_some,
      J121_e ((mf_mp (by decide)).trans ((mf_MA (by decide)).trans ((mf_MA (by decide)).trans M5_38))) (by omega) (by rw [mp_j (by decide), MA_n (by decide) (by decide) (by decide), MA_n (by decide) (by decide) (by decide)]; exact g24) (by omega)] at hacc
    refine ⟨_, bl.length, hf.trans hacc, ?_, ?_⟩
    · have z6 := (z5.f (f := 34) (x := 0) (by decide)).pt hk1 (by rw [l7, List.length_append]; omega) (by rw [l7, List.length_append, List.length_append]; show _ + 1 + 1 < 1000; omega) (by rw [l7, gD_app_l k7, gD_app_l hk2]; exact hk3)
      have z7 := z6.sv (t := b.2.2.2.2.1) (x := s.2 2 + 1) ht1 ht2 ht3.1
      refine clEnd (s1 := au_sv b.2.2.2.2.1 (s.2 2 + 1) (au_pt b.2.2.1 (au_cd 16 0 (au_cd 1 0 (sV (au_clb b s) 5 0))))) hp1 (by omega) ((z1.s5 (Or.inl rfl)).co (((Co_cd.tr Co_cd).tr Co_pt).tr Co_sv)) ?_ z7 ?_ ?_ ?_ ?_ ?_
      · have z8 : Raw tx (sV (au_clb b s) 5 0) (a + 1) := z2.eq (by rw [sV_1]) (by rw [sV_1])
        have z9 := z8.cd (c := 1) (x := 0)
        have z10 := (z9.cd (c := 16) (x := 0)).pt (x := b.2.2.1)
        refine ⟨?_, fun j hj hj2 => ⟨?_, ?_⟩⟩
        · show (xset _ b.2.2.2.2.1 _).length = _
          rw [xset_len]
          exact z10.1
        · rw [sv_r (by decide)]
          exact (z10.2 j hj hj2).1
        · rw [ht1, svg (by omega) (by omega)]
          exact (z10.2 j hj hj2).2
      · rw [ms_j (by decide), mp_n (by decide), MA_0 (by decide), MA_0 (by decide)]; exact g7
      · rw [ms_j (by decide), mp_n (by decide), MA_0 (by decide), MA_0 (by decide)]; exact M5_32
      · rw [ms_j (by decide), mp_n (by decide), MA_0 (by decide), MA_0 (by decide), M5_33]; exact g4.symm
      · rw [ms_j (by decide), mp_s]; rfl
      · rw [ms_j (by decide), mp_j (by decide), MA_n (by decide) (by decide) (by decide), MA_n (by decide) (by decide) (by decide)]; exact M5_8 (by omega)
    · refine clInv (s1 := au_sv b.2.2.2.2.1 (s.2 2 + 1) (au_pt b.2.2.1 (au_cd 16 0 (au_cd 1 0 (sV (au_clb b s) 5 0))))) hS ha (z4.tr ((RwS.v (s := au_clb b s)).tr ((RwS.cd (s := sV (au_clb b s) 5 0) (c := 1) (y := 0) hcV).tr ((RwS.cd (s := au_cd 1 0 (sV (au_clb b s) 5 0)) (c := 16) (y := 0) hc2).tr (RwS.pt.tr RwS.sv))))) ?_ (by rw [sv_r (by decide), pt_r (by decide), cd_r (by decide) (by decide), cd_r (by decide) (by decide), sV_1]; rfl) (by rw [sv_r (by decide), pt_r (by decide), cd_r (by decide) (by decide), cd_r (by decide) (by decide), sV_1]; rfl)
      rw [sv_r (by decide), pt_r (by decide), l7, List.length_append, List.length_append]
      show _ + 1 + 1 ≤ _
      omega
/-- behind a block of an if: what there is without else -/
theorem S1.set (h : Rel tx (s, 1, op, bl) a L m 1) (hI : Inv tx (s, 1, op, bl) a L) (hk : mf m 5 ≠ 5) : ∃ p k m', op = [(51, p, k, 0, 0, 0)] ∧ S0 tx (au_ep p (au_pt k s)) bl a L m' ∧ f_12039 m = f_12042 m' ∧ (∀ f, f ≠ 32 → m' 0 f = m 0 f) := by
  obtain ⟨hO, hB, hS, hN⟩ := hI
  have hS2 : Sh tx s 1 op bl a := hS
  obtain ⟨⟨p, k, rfl, ⟨pn, hp1, hp2⟩, ⟨kn, hk1, hk2, hk3⟩⟩, h3a⟩ := Sh.s1 hS2
  obtain ⟨hL, hR, hM, h7, ⟨h32, h33, h34⟩, hE⟩ := h
  have hL' : Lv a ((tks tx).length - 1) L s := hL
  have hM' : RR (tks tx) tx s a [] bl (oeP [(51, p, k, 0, 0, 0)] bl) (ocP [(51, p, k, 0, 0, 0)]) 0 m := hM
  have hN' : Nm tx s 1 [(51, p, k, 0, 0, 0)] bl a L := hN
  obtain ⟨q1, q2, q3, q4, q5⟩ := hN'
  obtain ⟨y1, y2, y3⟩ := hE.2.2.1 _ rfl rfl
  have q1' : (s.1 7).length + 1 + 2 * bl.length ≤ 2 * a + 0 := q1
  have q4' : L + 0 = bl.length + 0 + 0 := q4
  have hL8 := hL'.L8
  have h300 := hL'.2.2.2.2.1
  have h301 := hL'.2.2.2.1
  have f38 : mf m 38 = nI bl.length := hM'.2.2.2.2.2.2.2.2.1
  have hocF : ∀ j, ocP [((51 : Int32), p, k, (0 : Int32), (0 : Int32), (0 : Int32))] j → False := by
    rintro j ⟨_, x, hx, q, _⟩
    rw [List.mem_singleton.1 hx] at q
    exact absurd (show (51 : Int32) = 42 from q) (by decide)
  refine ⟨p, k, mp (ms m 5 (nI kn) (mf m 11)) 32 0, rfl, ?_, ?_, fun f hf => ?_⟩
  · refine ⟨⟨hL'.co (Co_pt.tr Co_ep), hR, ?_⟩, ⟨h7, h33, h34⟩, fun b hb => (hB b hb).up (RwS.of rfl rfl rfl), h3a, ?_, ?_, ?_, ?_, ?_⟩
    · have z := ((hM'.ocw (oc' := fun _ => False) (fun j q => (hocF j q).elim)).pt hk1 hk2 (by omega) hk3).f (f := 32) (x := 0) (by decide)
      refine z.ep (k := pn) hp1 (by omega) ?_ (fun j hj => ?_)
      · show m 8 pn = s.2 2 - 1
        rw [y3 pn hp1 (by omega), hL'.2.1]
      · by_cases e : j = pn
        · exact Or.inl e
        · right
          rintro ⟨hjl, ⟨x, hx, _, hx2⟩ | q⟩
          · rw [List.mem_singleton.1 hx] at hx2
            have hx3 : p = nI j := hx2
            rw [hp1] at hx3
            exact e ((nI_eq (by omega) (by omega)).1 hx3).symm
          · exact hj ⟨hjl, Or.inr q⟩
    · show (s.1 7).length + 2 * bl.length ≤ 2 * a
      omega
    · intro hbl
      have : a = 0 ∨ (s.1 7).length + 1 + 2 ≤ 2 * a := q2 (Or.inr rfl) hbl
      show a = 0 ∨ (s.1 7).length + 2 ≤ 2 * a
      omega
    · show 3 * (s.1 15).length ≤ a
      have q3' : 3 * (s.1 15).length ≤ a + 0 + 0 := q3
      omega
    · omega
    · rw [dsB_n (by decide) (fun x hx => by rw [List.mem_singleton.1 hx]; show (51 : Int32) ≠ 53; decide)] at q5
      show 8 * (s.1 9).length ≤ _
      have q5' : 8 * (s.1 9).length + 0 ≤ _ := q5
      omega
  · unfold f_12039
    have hnb : bl.length < 10 := by omega
    have y2' : m 24 bl.length = k := y2
    rw [if_neg hk, f38, gd_e (vi_n hnb (by omega)), mg_n (by omega), y2', hk1, gd_e (vi_n (by omega) (by omega)), bS_eq, bS_eq, bO_id]
  · rw [mp_n hf, ms_j (by decide)]
/-- else -/
theorem go1e (h : Rel tx (s, 1, op, bl) a L m 1) (hI : Inv tx (s, 1, op, bl) a L) (ht : Tok tx a m) (ha : a + 1 < (tks tx).length) (hk : tkd (tks tx) a = 6) : ∃ e, op = [e] ∧ Good tx 1 (au_pt e.2.2.1 (au_cd 13 0 (au_nx s)), 7, [(52, e.2.1, s.2 2, au_cn (au_cd 13 0 (au_nx s)), 0, 0)], bl) a m := by
  have h5 := ht.k hk
  have ha3 := h.a3 ha
  have hr0 := h.r0 ha
  obtain ⟨hO, hB, hS, hN⟩ := hI
  have hS2 : Sh tx s 1 op bl a := hS
  obtain ⟨⟨p, k, rfl, ⟨pn, hp1, hp2⟩, ⟨kn, hk1, hk2, hk3⟩⟩, h3a⟩ := Sh.s1 hS2
  obtain ⟨hL, hR, hM, h7, ⟨h32, h33, h34⟩, hE⟩ := h
  have hL' : Lv a ((tks tx).length - 1) L s := hL
  have hR' : Raw tx s a := hR
  have hM' : RR (tks tx) tx s a [] bl (oeP [(51, p, k, 0, 0, 0)] bl) (ocP [(51, p, k, 0, 0, 0)]) 0 m := hM
  have hN' : Nm tx s 1 [(51, p, k, 0, 0, 0)] bl a L := hN
  obtain ⟨q1, q2, q3, q4, q5⟩ := hN'
  obtain ⟨y1, y2, y3⟩ := hE.2.2.1 _ rfl rfl
  have y2' : m 24 bl.length = k := y2
  have q1' : (s.1 7).length + 1 + 2 * bl.length ≤ 2 * a + 0 := q1
  have q4' : L + 0 = bl.length + 0 + 0 := q4
  have hL8 := hL'.L8
  have hae : a < (tks tx).length - 1 := by omega
  have hc : (s.1 7).length < 600 := by omega
  have hnb : bl.length < 10 := by omega
  have f38 : mf m 38 = nI bl.length := hM'.2.2.2.2.2.2.2.2.1
  have f11 : mf m 11 = nI (s.1 7).length := hM'.2.1.1
  have f14 : mf m 14 = nI a := hM'.2.2.1.1
  have hcn : au_cn (au_cd 13 0 (au_nx s)) = nI (s.1 7).length := cn_e (s := au_nx s) hc
  have c7 : (au_cd 13 0 s).1 7 = s.1 7 ++ [13] := xadd_e (l := s.1 7) hc
  have hocF : ∀ j, ocP [((51 : Int32), p, k, (0 : Int32), (0 : Int32), (0 : Int32))] j → False := by
    rintro j ⟨_, x, hx, q, _⟩
    rw [List.mem_singleton.1 hx] at q
    exact absurd (show (51 : Int32) = 42 from q) (by decide)
  refine ⟨_, rfl, ?_⟩
  dsimp only
  rw [hcn]
  have v : vi (nI bl.length) 10 := vi_n hnb (by omega)
  have mf38 : ∀ (M : Mx) (j : Nat) (i x : Int32), j ≠ 0 → mf (ms M j i x) 38 = mf M 38 := fun M j i x hj => mf_ms hj
  have z1 := ((hM'.ocw (oc' := fun _ => False) (fun j q => (hocF j q).elim)).cd (c := 13) (x := 0) (w := 14) (y := 0) hc rfl rfl).pt hk1 (by rw [c7, List.length_append]; omega) (by rw [c7, List.length_append]; show _ + 1 < 1000; omega) (by rw [c7, gD_app_l hk2]; exact hk3)
  have z2 := (z1.bw (j := 24) (x := nI (s.1 7).length) (by decide) (by omega)).bw (j := 22) (x := 5) (by decide) (by omega)
  have z3 := z2.nx (w := 5) (st := 7) ha3 (by
    show (5 : Int32) = wm ((s.1 0).getD a 0)
    rw [show (s.1 0).getD a 0 = _ from hr0, hk]
    rfl)
  generalize hMM : ms (ms (ms (MA 14 0 m) 5 (nI kn) (mf (MA 14 0 m) 11)) 24 (nI bl.length) (nI (s.1 7).length)) 22 (nI bl.length) 5 = MM at z3
  have g14 : mf MM 14 = nI a := by rw [← hMM, mf_ms (by decide), mf_ms (by decide), mf_ms (by decide), mf_MA (by decide)]; exact f14
  have g0 : ∀ f, f ≠ 11 → MM 0 f = m 0 f := fun f hf => by rw [← hMM, ms_j (by decide), ms_j (by decide), ms_j (by decide), MA_0 hf]
  have g23 : MM 23 = m 23 := by rw [← hMM, ms_j (by decide), ms_j (by decide), ms_j (by decide), MA_n (by decide) (by decide) (by decide)]
  have g24 : MM 24 bl.length = nI (s.1 7).length := by
    rw [← hMM, ms_j (by decide), ms_s (by omega)]
    exact if_pos rfl
  refine ⟨MK 5 7 MM, L, ?_, ?_, ?_⟩
  · unfold mAcc
    rw [if_neg (by decide), if_pos rfl]
    unfold f_12039
    rw [if_pos (by rw [h5]; rfl), MA_e f11 (by omega), bO_some, mf_MA (by decide), f38, gd_e v, mg_n (by omega), MA_n (by decide) (by decide) (by decide), y2', hk1, gd_e (vi_n (by omega) (by omega)), bS_eq]
    rw [mf_ms (by decide), mf_MA (by decide), f38, gd_e v, bS_eq, mf_ms (by decide), mf_ms (by decide), mf_MA (by decide), f38, gd_e v, bS_eq, hMM, MK_e g14 (by omega), bO_some]
  · refine Rel.mk (((hL'.nx hae).co Co_cd).co Co_pt) (hR'.nx (fun _ _ => rfl) (fun _ _ => rfl) rfl) ?_ ?_ MK_32 ?_ ?_ ?_
    · have z4 : RR (tks tx) tx (au_pt k (au_cd 13 0 (au_nx s))) (a + 1) [] bl (oeP [(51, p, k, 0, 0, 0)] bl) (fun _ => False) 0 (MK 5 7 MM) := z3.cs rfl rfl rfl rfl rfl rfl rfl rfl rfl rfl rfl rfl rfl rfl
      refine (z4.oew (fun j hj => ?_)).ocw (fun _ q => q.elim)
      obtain ⟨k1, ⟨x, hx, _, hx2⟩ | q⟩ := hj
      · rw [List.mem_singleton.1 hx] at hx2
        exact ⟨k1, Or.inl ⟨_, List.mem_singleton.2 rfl, by show (43 : Int32) ≤ 52; decide, hx2⟩⟩
      · exact ⟨k1, Or.inr q⟩
    · rw [MK_0 (by decide), g0 7 (by decide)]; exact h7
    · rw [MK_0 (by decide), g0 33 (by decide)]; exact h33
    · rw [MK_0 (by decide), g0 34 (by decide)]; exact h34
    · refine ⟨fun q f eq h1 h2 => ?_, fun q f eq h1 => ?_, fun x eq h1 => ?_, fun x eq h1 => ?_, fun x eq h1 => ?_, fun q => absurd q (by decide)⟩
      · have : f = (52, p, s.2 2, nI (s.1 7).length, 0, 0) := app1' eq.symm
        rw [this] at h2
        exact absurd rfl h2
      · have : f = (52, p, s.2 2, nI (s.1 7).length, 0, 0) := app1' eq.symm
        rw [this] at h1
        exact absurd (show (52 : Int32) = 47 from h1) (by decide)
      · have : (52, p, s.2 2, nI (s.1 7).length, 0, 0) = x := (List.cons.inj eq).1
        rw [← this] at h1
        exact absurd (show (52 : Int32) = 51 from h1) (by decide)
      · have : (52, p, s.2 2, nI (s.1 7).length, 0, 0) = x := (List.cons.inj eq).1
        rw [← this, MK_n (by decide) (by decide), MK_n (by decide) (by decide), g23]
        refine ⟨y1, g24, by omega, ?_⟩
        show (s.1 0).getD (a + 1 - 1) 0 = 6
        rw [Nat.add_sub_cancel, show (s.1 0).getD a 0 = _ from hr0, hk]
      · have : (52, p, s.2 2, nI (s.1 7).length, 0, 0) = x := (List.cons.inj eq).1
        rw [← this] at h1
        exact absurd (show (52 : Int32) = 53 from h1) (by decide)
  · have hr : RwS s (au_pt k (au_cd 13 0 (au_nx s))) := (RwS.cd (s := s) (c := 13) (y := 0) hc).tr (RwS.of rfl rfl rfl)
    have l7 : ((au_pt k (au_cd 13 0 (au_nx s))).1 7) = s.1 7 ++ [13] := c7
    refine Inv.mk IvO.nil (fun b hb => (hB b hb).up hr) (Or.inr (Or.inr (Or.inr (Or.inr (Or.inr (Or.inl ⟨rfl, p, s.2 2, nI (s.1 7).length, rfl, ⟨pn, hp1, hp2⟩, ⟨(s.1 7).length, rfl, ?_, ?_⟩, ?_⟩)))))) ?_
    · rw [l7, List.length_append]
      exact Nat.lt_succ_self _
    · rw [l7, gD_app_r]
      decide
    · show 3 * (s.1 5).length ≤ a + 1
      omega
    · have hb := (bend_s ha).1
      refine ⟨?_, fun q => absurd q (by decide), ?_, ?_, ?_⟩
      · rw [l7, List.length_append]
        show (s.1 7).length + 1 + 1 + 2 * bl.length ≤ 2 * (a + 1) + 0
        omega
      · show 3 * (s.1 15).length ≤ a + 1 + 0 + 0
        have q3' : 3 * (s.1 15).length ≤ a + 0 + 0 := q3
        omega
      · show L + 0 = bl.length + 0 + 0
        omega
      · rw [dsB_n (by decide) (fun x hx => by rw [List.mem_singleton.1 hx]; show (51 : Int32) ≠ 53; decide)] at q5
        rw [dsB_n (by decide) (fun x hx => by rw [List.mem_singleton.1 hx]; show (52 : Int32) ≠ 53; decide)]
        show 8 * (s.1 9).length + 0 ≤ _
        have q5' : 8 * (s.1 9).length + 0 ≤ _ := q5
        omega
end CLB
