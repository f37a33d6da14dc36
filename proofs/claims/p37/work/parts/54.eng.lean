/-! the engine (one program p, one run u, what the school x has) out of the plain heap -/
def eg (T : Tx) (x p u : Nat) : Nat → Nat
  | 0 => p
  | 1 => ((tW T p 0).getD 0)
  | 2 => ((tW T x 4).getD 0)
  | 3 => u
  | 4 => ((tW T x 7).getD 0)
  | 5 => ((tW T x 8).getD 0)
  | 6 => (tW T ((tW T p 0).getD 0) 0).getD 0
  | 7 => (tW T ((tW T p 0).getD 0) 1).getD 0
  | 8 => (tW T ((tW T p 0).getD 0) 2).getD 0
  | 9 => (tW T ((tW T p 0).getD 0) 3).getD 0
  | 10 => (tW T ((tW T p 0).getD 0) 4).getD 0
  | 11 => (tW T p 1).getD 0
  | 12 => (tW T p 2).getD 0
  | 13 => (tW T p 3).getD 0
  | 14 => (tW T p 4).getD 0
  | 15 => (tW T p 5).getD 0
  | 16 => (tW T p 6).getD 0
  | 17 => (tW T p 7).getD 0
  | 18 => (tW T p 8).getD 0
  | 19 => (tW T ((tW T x 4).getD 0) 6).getD 0
  | 20 => (tW T ((tW T x 4).getD 0) 7).getD 0
  | 21 => (tW T ((tW T x 4).getD 0) 8).getD 0
  | 22 => (tW T ((tW T x 4).getD 0) 9).getD 0
  | 23 => (tW T ((tW T x 4).getD 0) 10).getD 0
  | 24 => (tW T u 0).getD 0
  | 25 => (tW T u 1).getD 0
  | 26 => (tW T u 2).getD 0
  | 27 => (tW T u 3).getD 0
  | 28 => (tW T ((tW T x 7).getD 0) 0).getD 0
  | 29 => (tW T ((tW T x 8).getD 0) 0).getD 0
  | 30 => (tW T ((tW T x 8).getD 0) 1).getD 0
  | 31 => (tW T x 0).getD 0
  | _ => 0
def EngOK (T : Tx) (x p u : Nat) : Prop := (∀ q, q ∈ ev_tk → tK T (eg T x p u q.1) = q.2 + 1) ∧ (∀ k, k < 26 → tK T (eg T x p u (6 + k)) = 7 ∧ tC T (eg T x p u (6 + k)) = ev_cap k) ∧ (∀ q, q ∈ ev_tr → tW T (eg T x p u q.1) q.2.1 = some (eg T x p u q.2.2)) ∧ (∀ i, i < 32 → ∀ j, j < 32 → eg T x p u i = eg T x p u j → i = j)
def proj (T : Tx) (x p u : Nat) : Sx := (fun k => tB T (eg T x p u (6 + k)), fun v => tV T (eg T x p u (ev_ob v)) (ev_fl v))
def emb (T : Tx) (x p u : Nat) (s : Sx) : Tx := (tK T, tC T,
  (fun a => match (List.range 26).find? (fun k => eg T x p u (6 + k) == a) with
    | some k => s.1 k
    | none => tB T a),
  (fun a f => match (List.range 14).find? (fun v => eg T x p u (ev_ob v) == a && ev_fl v == f) with
    | some v => s.2 v
    | none => tV T a f), tW T, tA T, tZ T)
def adr (G : ab_G) (T : Tx) (x p u : Nat) (i : Nat) : Nat := if i < 32 then eg T x p u i else (gR G (eg T x p u (i - 26)) 0).getD 0
theorem emb_row {T : Tx} {x p u : Nat} {s : Sx} (h : EngOK T x p u) {k : Nat} (hk : k < 26) : tB (emb T x p u s) (eg T x p u (6 + k)) = s.1 k := by
  show (match (List.range 26).find? (fun j => eg T x p u (6 + j) == eg T x p u (6 + k)) with | some j => s.1 j | none => _) = _
  have : (List.range 26).find? (fun j => eg T x p u (6 + j) == eg T x p u (6 + k)) = some k := by
    rw [List.find?_eq_some_iff_getElem]
    refine ⟨by simp, k, by simpa using hk, by simp, fun j hj => ?_⟩
    simp only [List.getElem_range]
    rw [Bool.not_eq_true', beq_eq_false_iff_ne]
    intro q
    have := h.2.2.2 _ (by omega) _ (by omega) q
    omega
  rw [this]
theorem emb_row_n {T : Tx} {x p u : Nat} {s : Sx} {a : Nat} (ha : ∀ k, k < 26 → a ≠ eg T x p u (6 + k)) : tB (emb T x p u s) a = tB T a := by
  show (match (List.range 26).find? (fun j => eg T x p u (6 + j) == a) with | some j => s.1 j | none => _) = _
  have : (List.range 26).find? (fun j => eg T x p u (6 + j) == a) = none := by
    rw [List.find?_eq_none]
    intro j hj
    simp only [List.mem_range] at hj
    simp only [beq_iff_eq]
    exact fun q => ha j hj q.symm
  rw [this]
theorem emb_int {T : Tx} {x p u : Nat} {s : Sx} (h : EngOK T x p u) {v : Nat} (hv : v < 14) : tV (emb T x p u s) (eg T x p u (ev_ob v)) (ev_fl v) = s.2 v := by
  show (match (List.range 14).find? (fun j => eg T x p u (ev_ob j) == eg T x p u (ev_ob v) && ev_fl j == ev_fl v) with | some j => s.2 j | none => _) = _
  have : (List.range 14).find? (fun j => eg T x p u (ev_ob j) == eg T x p u (ev_ob v) && ev_fl j == ev_fl v) = some v := by
    rw [List.find?_eq_some_iff_getElem]
    refine ⟨by simp, v, by simpa using hv, by simp, fun j hj => ?_⟩
    simp only [List.getElem_range]
    rw [Bool.not_eq_true', Bool.and_eq_false_iff, beq_eq_false_iff_ne, beq_eq_false_iff_ne]
    by_cases q : ev_fl j = ev_fl v
    · left
      intro q2
      have q3 := h.2.2.2 _ (by have := ev_ob_lt j; omega) _ (by have := ev_ob_lt v; omega) q2
      have := ev_inj_v j v (by omega) hv q3 q
      omega
    · exact Or.inr q
  rw [this]
theorem emb_int_n {T : Tx} {x p u : Nat} {s : Sx} {a f : Nat} (ha : ∀ v, v < 14 → ¬ (a = eg T x p u (ev_ob v) ∧ f = ev_fl v)) : tV (emb T x p u s) a f = tV T a f := by
  show (match (List.range 14).find? (fun j => eg T x p u (ev_ob j) == a && ev_fl j == f) with | some j => s.2 j | none => _) = _
  have : (List.range 14).find? (fun j => eg T x p u (ev_ob j) == a && ev_fl j == f) = none := by
    rw [List.find?_eq_none]
    intro j hj
    simp only [List.mem_range] at hj
    simp only [Bool.and_eq_true, beq_iff_eq]
    exact fun q => ha j hj ⟨q.1.symm, q.2.symm⟩
  rw [this]
theorem ev_tk_all (i : Nat) (hi : i < 6) : ∃ c, (i, c) ∈ ev_tk ∧ H_obj (c + 1) := by
  have : ∀ i, i < 6 → (ev_tk.any fun q => q.1 == i && decide (H_obj (q.2 + 1))) = true := by decide
  obtain ⟨q, hq, h⟩ := List.any_eq_true.1 (this i hi)
  simp only [Bool.and_eq_true, beq_iff_eq, decide_eq_true_eq] at h
  exact ⟨q.2, by rw [← h.1]; exact hq, h.2⟩
theorem ev_all_int : ∀ q, q ∈ ev_tk → ∀ f, f < ab_nf q.2 → ab_isR (ab_ty q.2 f) = false → ∃ v, v < 14 ∧ ev_ob v = q.1 ∧ ev_fl v = f := by
  have : ∀ q, q ∈ ev_tk → ∀ f, f < ab_nf q.2 → ab_isR (ab_ty q.2 f) = false → ((List.range 14).any fun v => ev_ob v == q.1 && ev_fl v == f) = true := by decide
  intro q hq f hf ht
  obtain ⟨v, hv, h⟩ := List.any_eq_true.1 (this q hq f hf ht)
  simp only [Bool.and_eq_true, beq_iff_eq] at h
  exact ⟨v, by simpa using hv, h.1, h.2⟩
/-- asked, however hard to decide -/
noncomputable def gdc {α : Type} (c : Prop) (x : Option α) : Option α := @ite _ c (Classical.propDecidable c) x none
theorem gdc_e {α : Type} {c : Prop} {x : Option α} (h : c) : gdc c x = x := if_pos h
theorem gdc_c {α : Type} {c : Prop} {x : Option α} {r : α} (h : gdc c x = some r) : c := by
  by_cases hc : c
  · exact hc
  · rw [show gdc c x = none from if_neg hc] at h; cases h
theorem H_row6' {F : Nat → Prop} {G : ab_G} {T : Tx} {a : Nat} (h : Rep2 F G T) (hk : tK T a = 7) : gK G a = 6 := by
  obtain ⟨b, hb, _⟩ := (h.2.2.2.1 a).2.1 hk
  exact hb.1
section ENG
variable {F : Nat → Prop} {G : ab_G} {T : Tx} {x p u : Nat}
theorem adr_o (G : ab_G) (T : Tx) (x p u : Nat) {i : Nat} (h : i < 32) : adr G T x p u i = eg T x p u i := if_pos h
theorem adr_a (h : Rep2 F G T) (hE : EngOK T x p u) {k : Nat} (hk : k < 26) : KRow G (eg T x p u (6 + k)) (adr G T x p u (32 + k)) (ev_cap k) ∧ adr G T x p u (32 + k) < tZ T ∧ ¬ F (adr G T x p u (32 + k)) ∧ IRow (gI G) (eg T x p u (6 + k)) (adr G T x p u (32 + k)) (ev_cap k) (tB T (eg T x p u (6 + k))) := by
  obtain ⟨b, h1, h2, h3, h4⟩ := (h.2.2.2.1 _).2.1 (hE.2.1 k hk).1
  rw [(hE.2.1 k hk).2] at h1 h4
  have e : adr G T x p u (32 + k) = b := by
    unfold adr
    rw [if_neg (by omega), show 32 + k - 26 = 6 + k by omega, h1.2.1]
    rfl
  rw [e]
  exact ⟨h1, h2, h3, h4⟩
theorem eng_kind (h : Rep2 F G T) (hE : EngOK T x p u) {i : Nat} (hi : i < 32) : gK G (eg T x p u i) < 13 ∧ tK T (eg T x p u i) ≠ 0 := by
  by_cases h6 : i < 6
  · have : ∀ i, i < 6 → ∃ c, (i, c) ∈ ev_tk := fun i hi => (ev_tk_all i hi).imp fun c hc => hc.1
    obtain ⟨c, hc⟩ := this i h6
    have h0 := hE.1 _ hc
    have : tK T (eg T x p u i) ≠ 0 := by have := h0; dsimp only at this; omega
    exact ⟨H_kind h (h.2.2.1 _ this).2.2, this⟩
  · have h0 := (hE.2.1 (i - 6) (by omega)).1
    rw [show 6 + (i - 6) = i by omega] at h0
    exact ⟨by rw [H_row6' h h0]; decide, by rw [h0]; decide⟩
theorem eng_in (h : Rep2 F G T) (hE : EngOK T x p u) : EV G (adr G T x p u) ∧ Rep (gI G) (adr G T x p u) (proj T x p u) := by
  have harr : ∀ k, k < 26 → gK G (adr G T x p u (32 + k)) = 14 := fun k hk => (adr_a h hE hk).1.2.2.1
  refine ⟨⟨fun i j hi hj e => ?_, fun q hq => ?_, fun q hq => ?_, fun k hk => ?_⟩, fun k hk => ?_, fun v hv => ?_⟩
  · by_cases c1 : i < 32
    · by_cases c2 : j < 32
      · rw [adr_o _ _ _ _ _ c1, adr_o _ _ _ _ _ c2] at e
        exact hE.2.2.2 _ c1 _ c2 e
      · have := harr (j - 32) (by omega)
        rw [show 32 + (j - 32) = j by omega, ← e, adr_o _ _ _ _ _ c1] at this
        have := (eng_kind h hE c1).1
        omega
    · by_cases c2 : j < 32
      · have := harr (i - 32) (by omega)
        rw [show 32 + (i - 32) = i by omega, e, adr_o _ _ _ _ _ c2] at this
        have := (eng_kind h hE c2).1
        omega
      · have h1 := (adr_a h hE (show i - 32 < 26 by omega)).1.2.1
        have h2 := (adr_a h hE (show j - 32 < 26 by omega)).1.2.1
        rw [show 32 + (i - 32) = i by omega, e] at h1
        rw [show 32 + (j - 32) = j by omega] at h2
        have := h.2.2.2.2.1 _ _ _ (hE.2.1 _ (show i - 32 < 26 by omega)).1 (hE.2.1 _ (show j - 32 < 26 by omega)).1 h1 h2
        have := hE.2.2.2 _ (by omega) _ (by omega) this
        omega
  · have hl : ∀ q, q ∈ ev_tk → q.1 < 32 ∧ H_obj (q.2 + 1) := by decide
    rw [adr_o _ _ _ _ _ (hl q hq).1]
    have h0 := hE.1 q hq
    have := ((h.2.2.2.1 _).1 (by rw [h0]; exact (hl q hq).2)).1
    omega
  · have hl : ∀ q, q ∈ ev_tr → q.1 < 6 ∧ q.2.2 < 32 := by decide
    have hk := ev_tk_all
    rw [adr_o _ _ _ _ _ (by have := (hl q hq).1; omega), adr_o _ _ _ _ _ (hl q hq).2]
    obtain ⟨c, hc, ho⟩ := hk q.1 (hl q hq).1
    rw [((h.2.2.2.1 _).1 (by rw [hE.1 _ hc]; exact ho)).2.2]
    exact hE.2.2.1 q hq
  · have := (adr_a h hE hk).1
    rw [adr_o _ _ _ _ _ (show 6 + k < 32 by omega)]
    exact ⟨this.1, this.2.1, this.2.2.1, this.2.2.2.1⟩
  · have := (adr_a h hE hk).2.2.2
    rw [adr_o _ _ _ _ _ (show 6 + k < 32 by omega)]
    exact this
  · have hk := ev_tk_all
    have hl := ev_ob_lt v
    rw [adr_o _ _ _ _ _ (by omega)]
    obtain ⟨c, hc, ho⟩ := hk _ hl
    have hif : ∀ v, v < 14 → ∀ q, q ∈ ev_tk → q.1 = ev_ob v → H_if (q.2 + 1) (ev_fl v) := by decide
    exact ((h.2.2.2.1 _).1 (by rw [hE.1 _ hc]; exact ho)).2.1 _ (by rw [hE.1 _ hc]; exact hif v hv _ hc rfl)
theorem eng_out (h : Rep2 F G T) (hE : EngOK T x p u) {s : Sx} {I1 : Nat → Nat → Int32} (hP : Rep I1 (adr G T x p u) s) (hF : FrE (adr G T x p u) (gI G) I1) : Rep2 F (gW G I1) (emb T x p u s) ∧ SameF F G (gW G I1) := by
  have harr : ∀ k, k < 26 → gK G (adr G T x p u (32 + k)) = 14 := fun k hk => (adr_a h hE hk).1.2.2.1
  -- which cells may change
  have hcl : ∀ c, (∀ i, i < 32 → c ≠ eg T x p u i) → (∀ k, k < 26 → c ≠ adr G T x p u (32 + k)) → I1 c = gI G c := fun c q1 q2 => hF c (fun i hi => by
    by_cases c1 : i < 32
    · rw [adr_o _ _ _ _ _ c1]; exact q1 i c1
    · have := q2 (i - 32) (by omega)
      rwa [show 32 + (i - 32) = i by omega] at this)
  have hSF : SameF F G (gW G I1) := fun c hc => ⟨rfl, rfl, hcl c (fun i hi q => (h.2.2.1 _ (eng_kind h hE hi).2).2.1 (q ▸ hc)) (fun k hk q => (adr_a h hE hk).2.2.1 (q ▸ hc)), rfl, rfl⟩
  refine ⟨⟨h.1, h.2.1, h.2.2.1, fun a => ?_, h.2.2.2.2.1, h.2.2.2.2.2⟩, hSF⟩
  by_cases hobj : ∃ i, i < 6 ∧ a = eg T x p u i
  · obtain ⟨i, hi, rfl⟩ := hobj
    obtain ⟨c, hc, ho⟩ := ev_tk_all i hi
    have hk := hE.1 _ hc
    dsimp only at hk
    have h0 := (h.2.2.2.1 _).1 (show H_obj (tK T (eg T x p u i)) by rw [hk]; exact ho)
    have hkk : tK (emb T x p u s) (eg T x p u i) = c + 1 := hk
    unfold H_cell
    rw [hkk]
    refine ⟨fun _ => ⟨by rw [← hk]; exact h0.1, fun f hf => ?_, h0.2.2⟩, fun q => absurd q ho.2.2, fun q => absurd q (by have := ho.1; omega), fun q => absurd q (by have := ho.2.1; omega), fun q => absurd q (by have := ho.2.1; omega)⟩
    obtain ⟨v, hv, e1, e2⟩ := ev_all_int _ hc f hf.1 hf.2
    dsimp only at e1
    subst e1 e2
    rw [emb_int hE hv]
    have := hP.2 v hv
    rw [adr_o _ _ _ _ _ (by omega)] at this
    exact this
  · by_cases hrow : ∃ k, k < 26 ∧ a = eg T x p u (6 + k)
    · obtain ⟨k, hk, rfl⟩ := hrow
      have hk7 := (hE.2.1 k hk).1
      have hkk : tK (emb T x p u s) (eg T x p u (6 + k)) = 7 := hk7
      have hcc : tC (emb T x p u s) (eg T x p u (6 + k)) = ev_cap k := (hE.2.1 k hk).2
      have ha := adr_a h hE hk
      unfold H_cell
      rw [hkk, hcc, emb_row hE hk]
      refine ⟨fun q => absurd rfl q.2.2, fun _ => ⟨_, ha.1, ha.2.1, ha.2.2.1, ?_⟩, fun q => absurd q (by decide), fun q => absurd q (by decide), fun q => absurd q (by decide)⟩
      have := hP.1 k hk
      rw [adr_o _ _ _ _ _ (show 6 + k < 32 by omega)] at this
      exact this
    · have hne : ∀ i, i < 32 → a ≠ eg T x p u i := fun i hi q => by
        by_cases c : i < 6
        · exact hobj ⟨i, c, q⟩
        · exact hrow ⟨i - 6, by omega, by rw [show 6 + (i - 6) = i by omega]; exact q⟩
      have hB : tB (emb T x p u s) a = tB T a := emb_row_n (fun k hk => hne _ (by omega))
      have hV : tV (emb T x p u s) a = tV T a := by
        funext f
        exact emb_int_n (fun v hv q => hne _ (by have := ev_ob_lt v; omega) q.1)
      refine H_fr (h.2.2.2.1 a) (Nat.le_refl _) h.1 h.1 rfl rfl hB hV rfl rfl (fun q => ⟨rfl, rfl, hcl a hne (fun k hk e => ?_), rfl⟩) (fun b q1 q2 q3 q4 => ⟨rfl, rfl, hcl b (fun i hi e => ?_) (fun k hk e => ?_), rfl⟩) (fun b q1 q2 q3 q4 q5 => ⟨rfl, rfl, hcl b (fun i hi e => ?_) (fun k hk e => ?_), rfl⟩)
      · have g1 := H_kind h (h.2.2.1 a q).2.2
        have g2 := (adr_a h hE hk).1.2.2.1
        rw [← e] at g2
        omega
      · have := (eng_kind h hE hi).1
        rw [← e] at this
        omega
      · have g1 := (adr_a h hE hk).1.2.1
        rw [← e] at g1
        exact hne _ (by omega) (h.2.2.2.2.1 _ _ _ q1 (hE.2.1 k hk).1 q2 g1)
      · have := (eng_kind h hE hi).1
        rw [← e] at this
        omega
      · have g2 := (adr_a h hE hk).1.2.2.1
        rw [← e] at g2
        omega
theorem EV_un {ad : Nat → Nat} {i f : Nat} {v : Option Nat} (hi : i < 6) (hn : ∀ q ∈ ev_tr, ¬ (q.1 = i ∧ q.2.1 = f) ∧ q.1 < 58) (hE : EV (sR G (ad i) f v) ad) : EV G ad := by
  have := EV_sR (v := gR G (ad i) f) hE hi hn
  have e : sR (sR G (ad i) f v) (ad i) f (gR G (ad i) f) = G := by
    show (gK G, gN G, gI G, u2 (u2 (gR G) (ad i) f v) (ad i) f (gR G (ad i) f), gJ G, gZ G) = G
    have : u2 (u2 (gR G) (ad i) f v) (ad i) f (gR G (ad i) f) = gR G := by
      funext a j
      by_cases ha : a = ad i
      · subst ha
        rw [u2_s, u2_s]
        dsimp only
        by_cases hj : j = f
        · rw [if_pos hj, hj]
        · rw [if_neg hj, if_neg hj]
      · rw [u2_n _ _ _ ha, u2_n _ _ _ ha]
    rw [this]
    rfl
  rw [e] at this
  exact this
/-- the calls into the engine -/
noncomputable def h_9001 (x t r : Nat) (T : Tx) : Option Tx := bP (tW T x 1) fun p => bP (tW T x 5) fun u => gdc (EngOK T x p u ∧ tW T p 0 = some t ∧ tW T x 0 = some r) (bOv (f_9001 (proj T x p u)) fun s1 => some (emb T x p u s1))
noncomputable def h_5001 (x rd p : Nat) (T : Tx) : Option Tx := bP (tW T x 5) fun u => bP (tW T p 0) fun t => bS (tsW (tsW T rd 0 (some p)) rd 1 (some t)) fun T1 => gdc (EngOK T1 x p u ∧ tW T1 x 4 = some rd ∧ tW T1 p 0 = some t ∧ tK T rd = 6) (bOv (f_5001 (proj T1 x p u)) fun s1 => some (emb T1 x p u s1))
noncomputable def h_3001 (x mc p u : Nat) (a b c : Int32) (T : Tx) : Option Tx := bS (tsW (tsW T mc 1 (some p)) mc 2 (some u)) fun T1 => gdc (EngOK T1 x p u ∧ tW T1 x 7 = some mc ∧ tK T mc = 4) (bOv (f_3001 a b c (proj T1 x p u)) fun s1 => some (emb T1 x p u s1))
noncomputable def h_10001 (x wk p u : Nat) (a b c : Int32) (T : Tx) : Option Tx := bP (tW T p 0) fun t => bS (tsW (tsW (tsW T wk 2 (some p)) wk 3 (some t)) wk 4 (some u)) fun T1 => gdc (EngOK T1 x p u ∧ tW T1 x 8 = some wk ∧ tW T1 p 0 = some t ∧ tK T wk = 11) (bOv (f_10001 a b c (proj T1 x p u)) fun s1 => some (emb T1 x p u s1))
variable {d : Nat} {P : ab_Pq} {X : ab_Xq}
theorem sh_9001 (h2 : Rep2 F G T) (x : Nat) {t r : Nat} {o : Tx} (ho : h_9001 x t r T = some o) (h : ∀ G1, Rep2 F G1 o → SameF F G G1 → P G1 none) : ab_Gam (d + 5) 9001 [.ref t, .ref r] G P X := by
  unfold h_9001 at ho
  obtain ⟨p, hp⟩ := bP_ex ho
  replace ho := bP_go ho hp
  obtain ⟨u, hu⟩ := bP_ex ho
  replace ho := bP_go ho hu
  have hg := gdc_c ho
  rw [gdc_e hg] at ho
  obtain ⟨s1, hs1⟩ := bOv_ex ho
  replace ho := bOv_go ho hs1
  cases ho
  have hi := eng_in h2 hg.1
  have := sp_9001 (d := d) (X := X) hi.1 hi.2 hs1 (P := P) (fun I1 q1 q2 => h _ (eng_out h2 hg.1 q1 q2).1 (eng_out h2 hg.1 q1 q2).2)
  have e1 : adr G T x p u 1 = t := by rw [adr_o _ _ _ _ _ (by decide)]; show (tW T p 0).getD 0 = t; rw [hg.2.1]; rfl
  have e2 : adr G T x p u (6 + 25) = r := by rw [adr_o _ _ _ _ _ (by decide)]; show (tW T x 0).getD 0 = r; rw [hg.2.2]; rfl
  rw [e1, e2] at this
  exact this
theorem sh_5001 (h2 : Rep2 F G T) (x : Nat) {rd p : Nat} {o : Tx} (ho : h_5001 x rd p T = some o) (h : ∀ G1, Rep2 F G1 o → SameF F G G1 → P G1 none) : ab_Gam (d + 913) 5001 [.ref rd, .ref p] G P X := by
  unfold h_5001 at ho
  obtain ⟨u, hu⟩ := bP_ex ho
  replace ho := bP_go ho hu
  obtain ⟨t, ht⟩ := bP_ex ho
  replace ho := bP_go ho ht
  rw [bS_eq] at ho
  have hg := gdc_c ho
  rw [gdc_e hg] at ho
  obtain ⟨s1, hs1⟩ := bOv_ex ho
  replace ho := bOv_go ho hs1
  cases ho
  have r1 := H_putR h2 0 (some p) (a := rd) (by rw [hg.2.2.2]; decide)
  have r2 := H_putR r1.1 1 (some t) (a := rd) (by show H_obj (tK T rd); rw [hg.2.2.2]; decide)
  generalize hT1 : tsW (tsW T rd 0 (some p)) rd 1 (some t) = T1 at *
  have e1 : adr (sR (sR G rd 0 (some p)) rd 1 (some t)) T1 x p u 1 = t := by rw [adr_o _ _ _ _ _ (by decide)]; show (tW T1 p 0).getD 0 = t; rw [hg.2.2.1]; rfl
  have e2 : adr (sR (sR G rd 0 (some p)) rd 1 (some t)) T1 x p u 2 = rd := by rw [adr_o _ _ _ _ _ (by decide)]; show (tW T1 x 4).getD 0 = rd; rw [hg.2.1]; rfl
  have e0 : adr (sR (sR G rd 0 (some p)) rd 1 (some t)) T1 x p u 0 = p := by rw [adr_o _ _ _ _ _ (by decide)]; rfl
  have hi := eng_in r2.1 hg.1
  have ho := fun I1 => @eng_out F _ T1 x p u r2.1 hg.1 s1 I1
  generalize hA : adr (sR (sR G rd 0 (some p)) rd 1 (some t)) T1 x p u = A at *
  subst e0 e1 e2
  have hE0 : EV G A := EV_un (by decide) (by decide) (EV_un (by decide) (by decide) hi.1)
  exact sp_5001 (d := d) (X := X) hE0 hi.2 hs1 (P := P) (fun I1 q1 q2 => h _ (ho I1 q1 q2).1 ((r1.2.tr r2.2).tr (ho I1 q1 q2).2))
theorem sh_3001 (h2 : Rep2 F G T) (x : Nat) {mc p u : Nat} {a b c : Int32} {o : Tx} (ho : h_3001 x mc p u a b c T = some o) (h : ∀ G1, Rep2 F G1 o → SameF F G G1 → P G1 none) : ab_Gam (d + 6) 3001 [.ref mc, .ref p, .ref u, .int a, .int b, .int c] G P X := by
  unfold h_3001 at ho
  rw [bS_eq] at ho
  have hg := gdc_c ho
  rw [gdc_e hg] at ho
  obtain ⟨s1, hs1⟩ := bOv_ex ho
  replace ho := bOv_go ho hs1
  cases ho
  have r1 := H_putR h2 1 (some p) (a := mc) (by rw [hg.2.2]; decide)
  have r2 := H_putR r1.1 2 (some u) (a := mc) (by show H_obj (tK T mc); rw [hg.2.2]; decide)
  generalize hT1 : tsW (tsW T mc 1 (some p)) mc 2 (some u) = T1 at *
  have e3 : adr (sR (sR G mc 1 (some p)) mc 2 (some u)) T1 x p u 3 = u := by rw [adr_o _ _ _ _ _ (by decide)]; rfl
  have e4 : adr (sR (sR G mc 1 (some p)) mc 2 (some u)) T1 x p u 4 = mc := by rw [adr_o _ _ _ _ _ (by decide)]; show (tW T1 x 7).getD 0 = mc; rw [hg.2.1]; rfl
  have e0 : adr (sR (sR G mc 1 (some p)) mc 2 (some u)) T1 x p u 0 = p := by rw [adr_o _ _ _ _ _ (by decide)]; rfl
  have hi := eng_in r2.1 hg.1
  have ho := fun I1 => @eng_out F _ T1 x p u r2.1 hg.1 s1 I1
  generalize hA : adr (sR (sR G mc 1 (some p)) mc 2 (some u)) T1 x p u = A at *
  subst e0 e3 e4
  have hE0 : EV G A := EV_un (by decide) (by decide) (EV_un (by decide) (by decide) hi.1)
  exact sp_3001 (d := d) (X := X) hE0 hi.2 hs1 (P := P) (fun I1 q1 q2 => h _ (ho I1 q1 q2).1 ((r1.2.tr r2.2).tr (ho I1 q1 q2).2))
theorem sh_10001 (h2 : Rep2 F G T) (x : Nat) {wk p u : Nat} {a b c : Int32} {o : Tx} (ho : h_10001 x wk p u a b c T = some o) (h : ∀ G1, Rep2 F G1 o → SameF F G G1 → P G1 none) : ab_Gam (d + 7) 10001 [.ref wk, .ref p, .ref u, .int a, .int b, .int c] G P X := by
  unfold h_10001 at ho
  obtain ⟨t, ht⟩ := bP_ex ho
  replace ho := bP_go ho ht
  rw [bS_eq] at ho
  have hg := gdc_c ho
  rw [gdc_e hg] at ho
  obtain ⟨s1, hs1⟩ := bOv_ex ho
  replace ho := bOv_go ho hs1
  cases ho
  have r1 := H_putR h2 2 (some p) (a := wk) (by rw [hg.2.2.2]; decide)
  have r2 := H_putR r1.1 3 (some t) (a := wk) (by show H_obj (tK T wk); rw [hg.2.2.2]; decide)
  have r3 := H_putR r2.1 4 (some u) (a := wk) (by show H_obj (tK T wk); rw [hg.2.2.2]; decide)
  generalize hT1 : tsW (tsW (tsW T wk 2 (some p)) wk 3 (some t)) wk 4 (some u) = T1 at *
  have e1 : adr (sR (sR (sR G wk 2 (some p)) wk 3 (some t)) wk 4 (some u)) T1 x p u 1 = t := by rw [adr_o _ _ _ _ _ (by decide)]; show (tW T1 p 0).getD 0 = t; rw [hg.2.2.1]; rfl
  have e3 : adr (sR (sR (sR G wk 2 (some p)) wk 3 (some t)) wk 4 (some u)) T1 x p u 3 = u := by rw [adr_o _ _ _ _ _ (by decide)]; rfl
  have e5 : adr (sR (sR (sR G wk 2 (some p)) wk 3 (some t)) wk 4 (some u)) T1 x p u 5 = wk := by rw [adr_o _ _ _ _ _ (by decide)]; show (tW T1 x 8).getD 0 = wk; rw [hg.2.1]; rfl
  have e0 : adr (sR (sR (sR G wk 2 (some p)) wk 3 (some t)) wk 4 (some u)) T1 x p u 0 = p := by rw [adr_o _ _ _ _ _ (by decide)]; rfl
  have hi := eng_in r3.1 hg.1
  have ho := fun I1 => @eng_out F _ T1 x p u r3.1 hg.1 s1 I1
  generalize hA : adr (sR (sR (sR G wk 2 (some p)) wk 3 (some t)) wk 4 (some u)) T1 x p u = A at *
  subst e0 e1 e3 e5
  have hE0 : EV G A := EV_un (by decide) (by decide) (EV_un (by decide) (by decide) (EV_un (by decide) (by decide) hi.1))
  exact sp_10001 (d := d) (X := X) hE0 hi.2 hs1 (P := P) (fun I1 q1 q2 => h _ (ho I1 q1 q2).1 (((r1.2.tr r2.2).tr r3.2).tr (ho I1 q1 q2).2))
end ENG
