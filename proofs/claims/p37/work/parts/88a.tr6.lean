/-! acts: a block opens; the name of a def -/
section BO
variable {tx : List Int32} {s : Sx} {op bl : List Ae} {a L : Nat} {m : Mx}
def MW (k p c f : Int32) (L nb : Nat) (m : Mx) : Mx := MK 28 0 (mp (ms (ms (ms (ms (mp m 33 (nI (L + 1))) 22 (nI nb) k) 23 (nI nb) p) 24 (nI nb) c) 25 (nI nb) f) 38 (nI (nb + 1)))
theorem MW_e {k p c f : Int32} {nb : Nat} (h33 : mf m 33 = nI L) (hl : L < 8) (h38 : mf m 38 = nI nb) (hnb : nb < 10) (h14 : mf m 14 = nI a) (ha : a < 301) : f_12037 k p c f m = some (MW k p c f L nb m, 1) := by
  unfold f_12037
  rw [lv_12026 h33 hl, bT_eq, if_neg (by decide)]
  have v : vi (nI nb) 10 := vi_n (by omega) (by omega)
  show gd (vi (mf m 38) 10) (gd (vi (mf m 38) 10) (gd (vi (mf m 38) 10) (gd (vi (mf m 38) 10) (bO (f_12022 28 0 (mp (ms (ms (ms (ms (mp m 33 (nI (L + 1))) 22 (mf m 38) k) 23 (mf m 38) p) 24 (mf m 38) c) 25 (mf m 38) f) 38 (mf m 38 + 1))) fun s8 r8 => some (s8, r8))))) = _
  rw [h38, gd_e v, gd_e v, gd_e v, gd_e v, nI_1, bO_id]
  exact MK_e (m := mp (ms (ms (ms (ms (mp m 33 (nI (L + 1))) 22 (nI nb) k) 23 (nI nb) p) 24 (nI nb) c) 25 (nI nb) f) 38 (nI (nb + 1))) h14 ha
/-- a block opens: the rows -/
theorem RR.opn {T : List Tk} {mo : List Ae} {oe oc : Nat → Prop} {pd nb : Nat} {b : Ae} {k : Int32} {f : Int32} (h : RR T tx s a mo bl oe oc pd m) (hnb : bl.length = nb) (hn : nb < 10) (hk : k = bkm b.1) (hf : b.1 = 7 → f = b.2.2.2.1) (ha : a < 300) (h0 : (s.1 0).getD a 0 = 30) :
    RR T tx (au_up s) (a + 1) mo (b :: bl) oe oc pd (MW k b.2.1 b.2.2.1 f L nb m) := by
  have h1 := h.f (f := 33) (x := nI (L + 1)) (by decide)
  have h2 := h1.bw (j := 22) (x := k) (Or.inl rfl) (by omega)
  have h3 := h2.bw (j := 23) (x := b.2.1) (Or.inr (Or.inl rfl)) (by omega)
  have h4 := h3.bw (j := 24) (x := b.2.2.1) (Or.inr (Or.inr (Or.inl rfl))) (by omega)
  have h5 := h4.bw (j := 25) (x := f) (Or.inr (Or.inr (Or.inr rfl))) (by omega)
  rw [hnb] at h2 h3 h4 h5
  have w : ∀ (m2 : Mx) (j : Nat) (x : Int32), ms m2 j (nI nb) x j nb = x := fun m2 j x => by
    rw [ms_s (by omega)]
    exact if_pos rfl
  have h6 := h5.bpsh (b := b) (by omega) (by
    rw [hnb]
    show ms _ 22 (nI nb) k 22 nb = _
    rw [w, hk]) (by
    rw [hnb]
    show ms _ 23 (nI nb) b.2.1 23 nb = _
    rw [w]) (by
    rw [hnb]
    show ms _ 24 (nI nb) b.2.2.1 24 nb = _
    rw [w]) (fun e => by
    rw [hnb, w]
    exact hf e)
  have f38 : mf (ms (ms (ms (ms (mp m 33 (nI (L + 1))) 22 (nI nb) k) 23 (nI nb) b.2.1) 24 (nI nb) b.2.2.1) 25 (nI nb) f) 38 = nI nb := by
    have := h5.2.2.2.2.2.2.2.2.1
    rw [hnb] at this
    exact this
  rw [f38, nI_1] at h6
  have h7 := (h6.i (s' := sV s 4 (s.2 4 + 1)) rfl).nx (w := 28) (st := 0) ha (by
    show (28 : Int32) = wm ((s.1 0).getD a 0)
    rw [h0]
    rfl)
  exact h7
/-- behind a { -/
theorem blk0 {b : Ae} {k f : Int32} {nb : Nat} {m1 : Mx} {s1 : Sx} {oe : Nat → Prop} (hL : Lv a ((tks tx).length - 1) L s1) (hR : Raw tx s1 a) (hM : RR (tks tx) tx s1 a [] bl oe (fun _ => False) 0 m1) (ha : a + 1 < (tks tx).length) (hl : L < 8) (hnb : bl.length = nb) (hn : nb < 10) (hk : k = bkm b.1) (hf : b.1 = 7 → f = b.2.2.2.1) (h0 : (s1.1 0).getD a 0 = 30)
    (hoe : ∀ j, oe j → oeP [] (b :: bl) j) (h7 : m1 0 7 = nI (bend (tks tx) (a + 1))) (h34 : m1 0 34 = s1.2 5) : Rel tx (au_up s1, 0, [], b :: bl) (a + 1) (L + 1) (MW k b.2.1 b.2.2.1 f L nb m1) 0 := by
  have hae : a < (tks tx).length - 1 := by omega
  have h3 := hL.2.2.2.2.1
  refine Rel.mk (hL.up hae hl) (hR.nx (fun _ _ => rfl) (fun _ _ => rfl) rfl) ?_ h7 (by unfold MW MK; rw [mp_s]) ?_ h34 ?_
  · exact ((hM.opn (L := L) (b := b) hnb hn hk hf (by omega) h0).oew hoe).ocw (fun _ q => q.elim)
  · unfold MW MK
    rw [mp_n (by decide)]
    show mp m1 33 (nI (L + 1)) 0 33 = s1.2 4 + 1
    rw [mp_s, hL.2.2.2.2.2.2.1, nI_1]
  · refine ⟨fun q g e => ?_, fun q g e => ?_, fun x e => ?_, fun x e => ?_, fun x e => ?_, fun e => absurd e (by decide)⟩
    all_goals (first | cases e | (have := congrArg List.length e; simp at this))
theorem mAcc_7 : mAcc 7 m = f_12052 m := by
  unfold mAcc
  rw [if_neg (by decide), if_neg (by decide), if_neg (by decide), if_neg (by decide), if_neg (by decide), if_neg (by decide), if_neg (by decide), if_pos rfl]
theorem mAcc_8 : mAcc 8 m = f_12049 m := by
  unfold mAcc
  rw [if_neg (by decide), if_neg (by decide), if_neg (by decide), if_neg (by decide), if_neg (by decide), if_neg (by decide), if_neg (by decide), if_neg (by decide), if_pos rfl]
/-- the block of an else, or of a def -/
theorem go7 (h : Rel tx (s, 7, op, bl) a L m 1) (hI : Inv tx (s, 7, op, bl) a L) (ht : Tok tx a m) (ha : a + 1 < (tks tx).length) (hk : tkd (tks tx) a = 30) (hl : L < 8) : ∃ e, op = [e] ∧ Good tx 7 (au_up s, 0, [], (if e.1 = 52 then 6 else 10, e.2.1, e.2.2.2.1, 0, e.2.2.1, s.2 2) :: bl) a m := by
  obtain ⟨hO, hB, hS, hN⟩ := hI
  have hS2 : Sh tx s 7 op bl a := hS
  have h5 := ht.k hk
  have h14 := h.q14
  have h33 := h.q33
  have ha3 := h.a3 ha
  have hr0' := h.r0 ha
  have hr0 : (s.1 0).getD a 0 = 30 := hr0'.trans hk
  have hL' : Lv a ((tks tx).length - 1) L s := h.1
  have hR' : Raw tx s a := h.2.1
  obtain ⟨hL, hR, hM, h7, ⟨_, _, h34⟩, hE⟩ := h
  have hM' : RR (tks tx) tx s a (mop 7 op) bl (oeP op bl) (ocP op) 0 m := hM
  have hE' : Ex 7 op bl a s m := hE
  have hN' : Nm tx s 7 op bl a L := hN
  have hae : a < (tks tx).length - 1 := by omega
  obtain ⟨q1, q2, q3, q4, q5⟩ := hN'
  have hB' : ∀ b, b ∈ bl → BlV s b := hB
  have hnb : bl.length < 10 := by
    rw [show s13 7 = 0 from rfl, show sPr 7 = 0 from rfl] at q4
    omega
  have h38 : mf m 38 = nI bl.length := hM'.2.2.2.2.2.2.2.2.1
  have hbnd := (bend_s ha).1
  have hr : RwS s (au_up s) := RwS.of rfl rfl rfl
  have hTk : TkV s (s.2 2) := ⟨a, hL'.2.1, by omega, by rw [hr0]; decide⟩
  have hpre : ∀ X : Option (Mx × Int32), f_12052 m = X → mAcc 7 m = X := fun X q => by rw [mAcc_7]; exact q
  have key : ∀ (e : Ae) (k : Int32), op = [e] → e.1 = 52 ∨ e.1 = 53 → k = bkm (if e.1 = 52 then 6 else 10) → PtV s e.2.1 → CdV s e.2.2.2.1 → (e.1 = 53 → TkV s e.2.2.1) → 3 * (s.1 5).length ≤ a + 1 → f_12052 m = f_12037 k e.2.1 e.2.2.2.1 0 m → 8 * (s.1 9).length ≤ bend (tks tx) a + dsB 7 op bl → dsB 7 op bl ≤ dsB 0 [] ((if e.1 = 52 then 6 else 10, e.2.1, e.2.2.2.1, 0, e.2.2.1, s.2 2) :: bl) + 1 →
      Good tx 7 (au_up s, 0, [], (if e.1 = 52 then 6 else 10, e.2.1, e.2.2.2.1, 0, e.2.2.1, s.2 2) :: bl) a m := by
    intro e k hop he hkk hpt hcd htk h3a hacc h9 hds
    subst hop
    have hmo : RR (tks tx) tx s a [] bl (oeP [e] bl) (ocP [e]) 0 m := hM'
    have hoc : RR (tks tx) tx s a [] bl (oeP [e] bl) (fun _ => False) 0 m := hmo.ocw (fun j q => by
      obtain ⟨_, x, hx, q42, _⟩ := q
      rw [List.mem_singleton.1 hx] at q42
      rcases he with r | r <;> rw [r] at q42 <;> exact absurd q42 (by decide))
    have hcl : cc [e] = 0 ∧ lc [e] = 0 := by
      unfold cc lc ccF lcF
      rw [List.countP_singleton, List.countP_singleton]
      rcases he with r | r <;> rw [r] <;> exact ⟨rfl, rfl⟩
    refine ⟨MW k e.2.1 e.2.2.2.1 0 L bl.length m, L + 1, ?_, ?_, ?_⟩
    · exact hpre _ (hacc.trans (MW_e h33 hl h38 hnb h14 (by omega)))
    · refine blk0 (b := (if e.1 = 52 then 6 else 10, e.2.1, e.2.2.2.1, 0, e.2.2.1, s.2 2)) hL' hR' hoc ha hl rfl hnb hkk (fun q => ?_) hr0 (fun j hj => ?_) h7 h34
      · rfl
      · obtain ⟨j1, ⟨x, hx, _, hx2⟩ | ⟨b, hb1, hb2⟩⟩ := hj
        · rw [List.mem_singleton.1 hx] at hx2
          exact ⟨j1, Or.inr ⟨_, List.mem_cons_self .., hx2⟩⟩
        · exact ⟨j1, Or.inr ⟨b, List.mem_cons_of_mem _ hb1, hb2⟩⟩
    · refine Inv.mk IvO.nil (fun b hb => ?_) (Or.inl ⟨rfl, rfl, h3a⟩) ?_
      · rcases List.mem_cons.1 hb with r | r
        · rw [r]
          refine ⟨?_, hpt.up hr, hcd.up hr, hTk.up hr, fun q => ?_⟩
          · rcases he with w | w
            · rw [w]; exact Or.inr (Or.inl rfl)
            · rw [w]; exact Or.inr (Or.inr (Or.inr rfl))
          · refine (htk ?_).up hr
            rcases he with w | w
            · rw [w] at q; exact absurd q (by show ¬ (if (52 : Int32) = 52 then (6 : Int32) else 10) = 10; decide)
            · exact w
        · exact (hB' b r).up hr
      · rw [show s13 7 = 0 from rfl] at q1 q3 q4
        rw [show sPr 7 = 0 from rfl, hcl.2] at q4
        rw [hcl.1] at q3
        have c0 : cc [] = 0 := rfl
        have c1 : lc [] = 0 := rfl
        refine ⟨?_, (fun _ q => by cases q), ?_, ?_, ?_⟩
        · show (s.1 7).length + 0 + 2 * (bl.length + 1) ≤ 2 * (a + 1) + 0
          have q1' : (s.1 7).length + 1 + 2 * bl.length ≤ 2 * a + 0 := q1
          omega
        · show 3 * (s.1 15).length ≤ a + 1 + cc [] + 0
          omega
        · show L + 1 + 0 = bl.length + 1 + lc [] + 0
          omega
        · show 8 * (s.1 9).length + 0 ≤ bend (tks tx) (a + 1) + dsB 0 [] _
          omega
  have h14' : mf m 14 - 1 = nI (a - 1) := by
    have : 1 ≤ a := by
      rcases Sh.s7 hS2 with ⟨p, o, k, hop, _⟩ | ⟨_, f, hop, f1, ⟨_, t, _, f2, _⟩, _⟩
      · exact (hE'.2.2.2.1 _ hop rfl).2.2.1
      · omega
    rw [h14]
    have : nI a = nI ((a - 1) + 1) := by congr 1; omega
    rw [this, nI_pred]
  have hw6 : ∀ i, i < a → mg m 6 (nI i) = wm ((s.1 0).getD i 0) := fun i hi => by
    rw [mg_n (by omega)]
    exact hM'.2.2.1.2 i hi
  rcases Sh.s7 hS2 with ⟨p, o, k, hop, hpt, hcd, h3a⟩ | ⟨hbl, f, hop, f1, ⟨hpt, t, ft1, ft2, ft3⟩, f3, f4⟩
  · obtain ⟨y1, y2, y3, y4⟩ := hE'.2.2.2.1 _ hop rfl
    refine ⟨_, hop, key _ 5 hop (Or.inl rfl) rfl hpt hcd (fun q => absurd (show (52 : Int32) = 53 from q) (by decide)) (by omega) ?_ q5 ?_⟩
    · unfold f_12052
      rw [if_pos (by rw [h5]; rfl), h14', gd_e (vi_n (by omega) (by omega)), hw6 (a - 1) (by omega), y4, if_pos (by decide)]
      unfold f_12052_J35
      rw [if_neg (by decide)]
      unfold f_12052_J47
      rw [if_neg (by decide), h38, gd_e (vi_n (by omega) (by omega)), mg_n (by omega), y1]
      unfold f_12052_J67
      rw [h38, gd_e (vi_n (by omega) (by omega)), mg_n (by omega), y2, bO_id]
    · rw [dsB_n (by decide) (fun x hx => by rw [hop] at hx; rw [List.mem_singleton.1 hx]; show (52 : Int32) ≠ 53; decide), dsB_n (by decide) (fun x hx => by cases hx)]
      rw [List.any_cons]
      split
      · split <;> omega
      · omega
  · obtain ⟨_, y2, y3, y4⟩ := hE'.2.2.2.2.1 f hop f1 (by decide)
    have h43 := hE'.1 [] f hop (by rw [f1]; decide) (by rw [f1]; decide)
    refine ⟨f, hop, key f 9 hop (Or.inr f1) (by rw [f1]; rfl) hpt f4 (fun _ => f3) (by omega) ?_ q5 ?_⟩
    · unfold f_12052
      rw [if_pos (by rw [h5]; rfl), h14', gd_e (vi_n (by omega) (by omega)), hw6 (a - 1) (by omega), y4 rfl, if_neg (by decide)]
      unfold f_12052_J35
      rw [if_pos rfl]
      unfold f_12052_J47
      rw [if_pos rfl]
      unfold f_12052_J67
      have hb0 : bl.length = 0 := by rw [hbl]; rfl
      rw [h38, gd_e (vi_n (by omega) (by omega)), hb0, mg_n (by omega), y2, show mf m 43 = f.2.1 from h43, bO_id]
    · have : dsB 7 op bl = 2 := by
        unfold dsB
        rw [if_neg (by decide), if_neg (by decide), if_neg (by decide), hop, if_pos (any53 f1)]
      rw [this, f1]
      unfold dsB
      rw [if_neg (by decide), if_neg (by decide), if_neg (by decide), if_neg (by decide), if_pos (by rfl)]
      exact Nat.le_refl _
end BO
