/-! the class's heap made plain: kinds (kind + 1, 0: nothing there, 101/107: a list/row not yet made), capacities, rows, ints, refs, lists, count -/
abbrev Tx : Type := (Nat → Nat) × (Nat → Nat) × (Nat → List Int32) × (Nat → Nat → Int32) × (Nat → Nat → Option Nat) × (Nat → List Nat) × Nat
def tK (T : Tx) : Nat → Nat := T.1
def tC (T : Tx) : Nat → Nat := T.2.1
def tB (T : Tx) : Nat → List Int32 := T.2.2.1
def tV (T : Tx) : Nat → Nat → Int32 := T.2.2.2.1
def tW (T : Tx) : Nat → Nat → Option Nat := T.2.2.2.2.1
def tA (T : Tx) : Nat → List Nat := T.2.2.2.2.2.1
def tZ (T : Tx) : Nat := T.2.2.2.2.2.2
def tsB (T : Tx) (a : Nat) (xs : List Int32) : Tx := (tK T, tC T, u1 (tB T) a xs, tV T, tW T, tA T, tZ T)
def tsV (T : Tx) (a f : Nat) (x : Int32) : Tx := (tK T, tC T, tB T, u2 (tV T) a f x, tW T, tA T, tZ T)
def tsW (T : Tx) (a f : Nat) (v : Option Nat) : Tx := (tK T, tC T, tB T, tV T, u2 (tW T) a f v, tA T, tZ T)
def tNew (T : Tx) (k : Nat) : Tx := (u1 (tK T) (tZ T) k, tC T, u1 (tB T) (tZ T) [], u1 (tV T) (tZ T) (fun _ => 0), u1 (tW T) (tZ T) (fun _ => none), u1 (tA T) (tZ T) [], tZ T + 1)
def tRow (T : Tx) (a n : Nat) : Tx := (u1 (tK T) a 7, u1 (tC T) a n, u1 (tB T) a [], tV T, tW T, tA T, tZ T + 1)
def tLst (T : Tx) (a : Nat) : Tx := (u1 (tK T) a 1, u1 (tC T) a 0, tB T, tV T, tW T, u1 (tA T) a [], tZ T)
def tAdd (T : Tx) (a x : Nat) : Tx := (tK T, u1 (tC T) a (if (tA T a).length < tC T a then tC T a else if tC T a = 0 then 10 else tC T a + tC T a / 2), tB T, tV T, tW T, u1 (tA T) a (tA T a ++ [x]), if (tA T a).length < tC T a then tZ T else tZ T + 1)
abbrev H_obj (k : Nat) : Prop := 2 ≤ k ∧ k ≤ 12 ∧ k ≠ 7
abbrev H_ok (k : Nat) : Prop := H_obj k ∨ k = 7 ∨ k = 1 ∨ k = 107 ∨ k = 101
abbrev H_if (k f : Nat) : Prop := f < ab_nf (k - 1) ∧ ab_isR (ab_ty (k - 1) f) = false
def H_cell (F : Nat → Prop) (G : ab_G) (T : Tx) (a : Nat) : Prop :=
  (H_obj (tK T a) → gK G a + 1 = tK T a ∧ (∀ f, H_if (tK T a) f → gI G a f = tV T a f) ∧ ∀ f, gR G a f = tW T a f) ∧
  (tK T a = 7 → ∃ b, KRow G a b (tC T a) ∧ b < tZ T ∧ ¬ F b ∧ IRow (gI G) a b (tC T a) (tB T a)) ∧
  (tK T a = 1 → ab_LST G a (tA T a) (tC T a) ∧ (tC T a ≠ 0 → ∀ e, gR G a 1 = some e → ¬ F e)) ∧
  (tK T a = 107 → gK G a = 6 ∧ gI G a 1 = 0) ∧
  (tK T a = 101 → gK G a = 0 ∧ gI G a 2 = 0)
def Rep2 (F : Nat → Prop) (G : ab_G) (T : Tx) : Prop := gZ G = tZ T ∧ (∀ a, F a → a < tZ T) ∧ (∀ a, tK T a ≠ 0 → a < tZ T ∧ ¬ F a ∧ H_ok (tK T a)) ∧ (∀ a, H_cell F G T a) ∧
  (∀ a a' b, tK T a = 7 → tK T a' = 7 → gR G a 0 = some b → gR G a' 0 = some b → a = a') ∧
  (∀ a a' e, tK T a = 1 → tK T a' = 1 → tC T a ≠ 0 → tC T a' ≠ 0 → gR G a 1 = some e → gR G a' 1 = some e → a = a')
def SameF (F : Nat → Prop) (G G' : ab_G) : Prop := ∀ a, F a → gK G' a = gK G a ∧ gN G' a = gN G a ∧ gI G' a = gI G a ∧ gR G' a = gR G a ∧ gJ G' a = gJ G a
theorem SameF_rfl {F : Nat → Prop} {G : ab_G} : SameF F G G := fun _ _ => ⟨rfl, rfl, rfl, rfl, rfl⟩
theorem SameF.tr {F : Nat → Prop} {G G' G'' : ab_G} (h : SameF F G G') (h' : SameF F G' G'') : SameF F G G'' := fun a ha => by
  have h1 := h a ha
  have h2 := h' a ha
  exact ⟨h2.1.trans h1.1, h2.2.1.trans h1.2.1, h2.2.2.1.trans h1.2.2.1, h2.2.2.2.1.trans h1.2.2.2.1, h2.2.2.2.2.trans h1.2.2.2.2⟩
def cSame (G G' : ab_G) (c : Nat) : Prop := gK G' c = gK G c ∧ gN G' c = gN G c ∧ gI G' c = gI G c ∧ gR G' c = gR G c
section H2
variable {F : Nat → Prop} {G : ab_G} {T : Tx}
theorem H_kind (h : Rep2 F G T) {a : Nat} (hk : H_ok (tK T a)) : gK G a < 13 := by
  have hc := h.2.2.2.1 a
  rcases hk with hk | hk | hk | hk | hk
  · have := (hc.1 hk).1
    have := hk.2.1
    omega
  · obtain ⟨b, hb, _⟩ := hc.2.1 hk
    rw [hb.1]; decide
  · rw [(hc.2.2.1 hk).1.1]; decide
  · rw [(hc.2.2.2.1 hk).1]; decide
  · rw [(hc.2.2.2.2 hk).1]; decide
/-- a cell of another object stays -/
theorem H_fr {G' : ab_G} {T' : Tx} {a : Nat} (h : H_cell F G T a) (hz : tZ T ≤ tZ T') (hz0 : gZ G = tZ T) (hz1 : gZ G' = tZ T') (e1 : tK T' a = tK T a) (e2 : tC T' a = tC T a) (e3 : tB T' a = tB T a) (e4 : tV T' a = tV T a) (e5 : tW T' a = tW T a) (e6 : tA T' a = tA T a)
    (hs : tK T a ≠ 0 → cSame G G' a) (hb : ∀ b, tK T a = 7 → gR G a 0 = some b → gK G b = 14 → b < tZ T → cSame G G' b) (hl : ∀ e, tK T a = 1 → gR G a 1 = some e → gK G e = 16 → e < tZ T → tC T a ≠ 0 → cSame G G' e) : H_cell F G' T' a := by
  unfold H_cell
  rw [e1, e2, e3, e4, e5, e6]
  refine ⟨fun hk => ?_, fun hk => ?_, fun hk => ?_, fun hk => ?_, fun hk => ?_⟩
  · have hs := hs (by have := hk.1; omega)
    rw [hs.1, hs.2.2.1, hs.2.2.2]
    exact h.1 hk
  · have hs := hs (by rw [hk]; decide)
    obtain ⟨b, h1, h2, h3, h4⟩ := h.2.1 hk
    have hb := hb b hk h1.2.1 h1.2.2.1 h2
    refine ⟨b, ⟨by rw [hs.1]; exact h1.1, by rw [hs.2.2.2]; exact h1.2.1, by rw [hb.1]; exact h1.2.2.1, by rw [hb.2.1]; exact h1.2.2.2.1, h1.2.2.2.2⟩, by omega, h3, ?_⟩
    exact ⟨by rw [hs.2.2.1]; exact h4.1, h4.2.1, fun i hi => by rw [hb.2.2.1]; exact h4.2.2 i hi⟩
  · have hs := hs (by rw [hk]; decide)
    obtain ⟨h1, h2⟩ := h.2.2.1 hk
    refine ⟨⟨by rw [hs.1]; exact h1.1, by rw [hs.2.2.1]; exact h1.2.1, ?_⟩, by rw [hs.2.2.2]; exact h2⟩
    rcases h1.2.2 with h3 | ⟨e, g1, g2, g3, g4, g5, g6, g7⟩
    · left
      rw [hs.2.2.2]
      exact h3
    · right
      have hl := hl e hk g1 g3 (by omega) (by omega)
      exact ⟨e, by rw [hs.2.2.2]; exact g1, by omega, by rw [hl.1]; exact g3, g4, by rw [hl.2.1]; exact g5, g6, by rw [hl.2.2.2]; exact g7⟩
  · have hs := hs (by rw [hk]; decide)
    rw [hs.1, hs.2.2.1]
    exact h.2.2.2.1 hk
  · have hs := hs (by rw [hk]; decide)
    rw [hs.1, hs.2.2.1]
    exact h.2.2.2.2 hk
theorem cSame_u {G G' : ab_G} {a c : Nat} (hc : c ≠ a) (h1 : gK G' = gK G) (h2 : gN G' = gN G) (h3 : gI G' c = gI G c) (h4 : gR G' c = gR G c) : cSame G G' c := ⟨by rw [h1], by rw [h2], h3, h4⟩
theorem H_putI (h : Rep2 F G T) {a : Nat} (f : Nat) (x : Int32) (hk : H_obj (tK T a)) : Rep2 F (sI G a f x) (tsV T a f x) ∧ SameF F G (sI G a f x) := by
  have hg : gK G a < 12 := by have := (h.2.2.2.1 a).1 hk; have := hk.2.1; omega
  have hs : ∀ c, c ≠ a → cSame G (sI G a f x) c := fun c hc => ⟨rfl, rfl, u2_n _ _ _ hc, rfl⟩
  have hF : ¬ F a := (h.2.2.1 a (by have := hk.1; omega)).2.1
  refine ⟨⟨h.1, h.2.1, h.2.2.1, fun c => ?_, h.2.2.2.2.1, h.2.2.2.2.2⟩, fun c hc => ?_⟩
  · by_cases e : c = a
    · subst e
      have h0 := (h.2.2.2.1 c).1 hk
      refine ⟨fun _ => ⟨h0.1, fun j hj => ?_, h0.2.2⟩, fun q => absurd q hk.2.2, fun q => absurd q (fun q => ?_), fun q => absurd q (fun q => ?_), fun q => absurd q (fun q => ?_)⟩
      · show u2 (gI G) c f x c j = u2 (tV T) c f x c j
        rw [u2_s, u2_s]
        dsimp only
        split
        · rfl
        · exact h0.2.1 j hj
      · have := hk.1; change tK T c = 1 at q; omega
      · have := hk.2.1; change tK T c = 107 at q; omega
      · have := hk.2.1; change tK T c = 101 at q; omega
    · exact H_fr (h.2.2.2.1 c) (Nat.le_refl _) h.1 h.1 rfl rfl rfl (u2_n _ _ _ e) rfl rfl (fun _ => hs c e) (fun b _ _ hb _ => hs b (fun q => by subst q; omega)) (fun b _ _ hb _ _ => hs b (fun q => by subst q; omega))
  · have : c ≠ a := fun q => hF (q ▸ hc)
    exact ⟨rfl, rfl, u2_n _ _ _ this, rfl, rfl⟩
theorem H_putR (h : Rep2 F G T) {a : Nat} (f : Nat) (x : Option Nat) (hk : H_obj (tK T a)) : Rep2 F (sR G a f x) (tsW T a f x) ∧ SameF F G (sR G a f x) := by
  have hg : gK G a < 12 := by have := (h.2.2.2.1 a).1 hk; have := hk.2.1; omega
  have hs : ∀ c, c ≠ a → cSame G (sR G a f x) c := fun c hc => ⟨rfl, rfl, rfl, u2_n _ _ _ hc⟩
  have hF : ¬ F a := (h.2.2.1 a (by have := hk.1; omega)).2.1
  have h7 : ∀ c, tK T c = 7 → gR (sR G a f x) c = gR G c := fun c hc => u2_n _ _ _ (fun q => by subst q; exact hk.2.2 hc)
  have h1 : ∀ c, tK T c = 1 → gR (sR G a f x) c = gR G c := fun c hc => u2_n _ _ _ (fun q => by subst q; have := hk.1; omega)
  refine ⟨⟨h.1, h.2.1, h.2.2.1, fun c => ?_, fun c c' b q1 q2 q3 q4 => ?_, fun c c' b q1 q2 p1 p2 q3 q4 => ?_⟩, fun c hc => ?_⟩
  · by_cases e : c = a
    · subst e
      have h0 := (h.2.2.2.1 c).1 hk
      refine ⟨fun _ => ⟨h0.1, h0.2.1, fun j => ?_⟩, fun q => absurd q hk.2.2, fun q => absurd q (fun q => ?_), fun q => absurd q (fun q => ?_), fun q => absurd q (fun q => ?_)⟩
      · show u2 (gR G) c f x c j = u2 (tW T) c f x c j
        rw [u2_s, u2_s]
        dsimp only
        split
        · rfl
        · exact h0.2.2 j
      · have := hk.1; change tK T c = 1 at q; omega
      · have := hk.2.1; change tK T c = 107 at q; omega
      · have := hk.2.1; change tK T c = 101 at q; omega
    · exact H_fr (h.2.2.2.1 c) (Nat.le_refl _) h.1 h.1 rfl rfl rfl rfl (u2_n _ _ _ e) rfl (fun _ => hs c e) (fun b _ _ hb _ => hs b (fun q => by subst q; omega)) (fun b _ _ hb _ _ => hs b (fun q => by subst q; omega))
  · rw [h7 c q1] at q3
    rw [h7 c' q2] at q4
    exact h.2.2.2.2.1 c c' b q1 q2 q3 q4
  · rw [h1 c q1] at q3
    rw [h1 c' q2] at q4
    exact h.2.2.2.2.2 c c' b q1 q2 p1 p2 q3 q4
  · have : c ≠ a := fun q => hF (q ▸ hc)
    exact ⟨rfl, rfl, rfl, u2_n _ _ _ this, rfl⟩
theorem H_row (h : Rep2 F G T) {a b : Nat} {xs : List Int32} {I' : Nat → Nat → Int32} (hk : tK T a = 7) (hb : KRow G a b (tC T a)) (hi : IRow I' a b (tC T a) xs) (hf : Fr2 (gI G) I' a b) : Rep2 F (gW G I') (tsB T a xs) ∧ SameF F G (gW G I') := by
  obtain ⟨b', h1, h2, h3, h4⟩ := (h.2.2.2.1 a).2.1 hk
  have hbb : b' = b := by have := h1.2.1.symm.trans hb.2.1; exact Option.some.inj this
  subst hbb
  have hs : ∀ c, c ≠ a → c ≠ b' → cSame G (gW G I') c := fun c q1 q2 => ⟨rfl, rfl, hf c q1 q2, rfl⟩
  have hg : gK G a < 13 := H_kind h (Or.inr (Or.inl hk))
  refine ⟨⟨h.1, h.2.1, h.2.2.1, fun c => ?_, h.2.2.2.2.1, h.2.2.2.2.2⟩, fun c hc => ⟨rfl, rfl, hf c (fun q => ?_) (fun q => ?_), rfl, rfl⟩⟩
  · by_cases e : c = a
    · subst e
      refine ⟨fun q => absurd hk q.2.2, fun _ => ⟨b', h1, h2, h3, ?_⟩, fun q => ?_, fun q => ?_, fun q => ?_⟩
      · show IRow I' c b' (tC T c) (u1 (tB T) c xs c)
        rw [show u1 (tB T) c xs c = xs from if_pos rfl]
        exact hi
      · change tK T c = 1 at q; omega
      · change tK T c = 107 at q; omega
      · change tK T c = 101 at q; omega
    · refine H_fr (h.2.2.2.1 c) (Nat.le_refl _) h.1 h.1 rfl rfl (if_neg e) rfl rfl rfl (fun hc => ?_) (fun c' k1 k2 k3 _ => hs c' (fun q => by subst q; omega) (fun q => by subst q; exact e (h.2.2.2.2.1 _ _ _ k1 hk k2 h1.2.1))) (fun c' _ _ k3 _ _ => hs c' (fun q => by subst q; omega) (fun q => by subst q; have := h1.2.2.1; omega))
      exact hs c e (fun q => by subst q; have := H_kind h (h.2.2.1 c hc).2.2; have := h1.2.2.1; omega)
  · exact (h.2.2.1 a (by omega)).2.1 (q ▸ hc)
  · exact h3 (q ▸ hc)
theorem H_rowEx (h : Rep2 F G T) {a : Nat} (hk : tK T a = 7) : ∃ b, KRow G a b (tC T a) ∧ IRow (gI G) a b (tC T a) (tB T a) := by
  obtain ⟨b, h1, _, _, h4⟩ := (h.2.2.2.1 a).2.1 hk
  exact ⟨b, h1, h4⟩
theorem H_new (h : Rep2 F G T) (k ci : Nat) (hk : k = ci + 1 ∧ H_obj k ∨ k = 107 ∧ ci = 6 ∨ k = 101 ∧ ci = 0) : Rep2 F (gNew G ci 0) (tNew T k) ∧ SameF F G (gNew G ci 0) := by
  have hz := h.1
  have hs : ∀ c, c < tZ T → cSame G (gNew G ci 0) c := fun c hc => by
    have hne : ¬ c = gZ G := by omega
    exact ⟨if_neg hne, if_neg hne, if_neg hne, if_neg hne⟩
  have hK : ∀ c, c ≠ tZ T → tK (tNew T k) c = tK T c := fun c hc => if_neg hc
  have hdead : tK T (tZ T) = 0 := by
    by_cases q : tK T (tZ T) = 0
    · exact q
    · have := (h.2.2.1 _ q).1; omega
  refine ⟨⟨by show gZ G + 1 = tZ T + 1; rw [hz], fun a ha => Nat.lt_succ_of_lt (h.2.1 a ha), fun a ha => ?_, fun a => ?_, fun a a' b q1 q2 q3 q4 => ?_, fun a a' b q1 q2 p1 p2 q3 q4 => ?_⟩, fun c hc => ?_⟩
  · by_cases e : a = tZ T
    · subst e
      refine ⟨Nat.lt_succ_self _, fun q => Nat.lt_irrefl _ (h.2.1 _ q), ?_⟩
      rw [show tK (tNew T k) (tZ T) = k from if_pos rfl]
      rcases hk with ⟨_, q⟩ | ⟨q, _⟩ | ⟨q, _⟩
      · exact Or.inl q
      · exact Or.inr (Or.inr (Or.inr (Or.inl q)))
      · exact Or.inr (Or.inr (Or.inr (Or.inr q)))
    · rw [hK a e] at ha ⊢
      have := h.2.2.1 a ha
      exact ⟨Nat.lt_succ_of_lt this.1, this.2⟩
  · by_cases e : a = tZ T
    · subst e
      have e1 : tK (tNew T k) (tZ T) = k := if_pos rfl
      have g1 : gK (gNew G ci 0) (tZ T) = ci := by rw [← hz]; exact if_pos rfl
      have g2 : gI (gNew G ci 0) (tZ T) = fun _ => 0 := by rw [← hz]; exact if_pos rfl
      have g3 : gR (gNew G ci 0) (tZ T) = fun _ => none := by rw [← hz]; exact if_pos rfl
      have g4 : tV (tNew T k) (tZ T) = fun _ => 0 := if_pos rfl
      have g5 : tW (tNew T k) (tZ T) = fun _ => none := if_pos rfl
      unfold H_cell
      rw [e1, g1, g2, g3, g4, g5]
      refine ⟨fun q => ⟨?_, fun _ _ => rfl, fun _ => rfl⟩, fun q => ?_, fun q => ?_, fun q => ⟨?_, rfl⟩, fun q => ⟨?_, rfl⟩⟩
      · rcases hk with ⟨q1, _⟩ | ⟨q1, _⟩ | ⟨q1, _⟩
        · exact q1.symm
        · have := q.2.1; omega
        · have := q.2.1; omega
      · exfalso
        rcases hk with ⟨_, q1⟩ | ⟨q1, _⟩ | ⟨q1, _⟩
        · exact q1.2.2 q
        · omega
        · omega
      · exfalso
        rcases hk with ⟨_, q1⟩ | ⟨q1, _⟩ | ⟨q1, _⟩
        · have := q1.1; omega
        · omega
        · omega
      · rcases hk with ⟨_, q1⟩ | ⟨_, q1⟩ | ⟨q1, _⟩
        · have := q1.2.1; omega
        · exact q1
        · omega
      · rcases hk with ⟨_, q1⟩ | ⟨q1, _⟩ | ⟨_, q1⟩
        · have := q1.2.1; omega
        · omega
        · exact q1
    · exact H_fr (h.2.2.2.1 a) (Nat.le_succ _) hz (by show gZ G + 1 = tZ T + 1; rw [hz]) (if_neg e) rfl (if_neg e) (if_neg e) (if_neg e) (if_neg e) (fun q => hs a (h.2.2.1 a q).1) (fun b _ _ _ hb => hs b hb) (fun b _ _ _ hb _ => hs b hb)
  · have n1 : a ≠ tZ T := fun e => by
      subst e
      rw [show tK (tNew T k) (tZ T) = k from if_pos rfl] at q1
      rcases hk with ⟨_, q⟩ | ⟨q, _⟩ | ⟨q, _⟩
      · exact q.2.2 q1
      · omega
      · omega
    have n2 : a' ≠ tZ T := fun e => by
      subst e
      rw [show tK (tNew T k) (tZ T) = k from if_pos rfl] at q2
      rcases hk with ⟨_, q⟩ | ⟨q, _⟩ | ⟨q, _⟩
      · exact q.2.2 q2
      · omega
      · omega
    rw [hK _ n1] at q1
    rw [hK _ n2] at q2
    rw [(hs a (h.2.2.1 a (by omega)).1).2.2.2] at q3
    rw [(hs a' (h.2.2.1 a' (by omega)).1).2.2.2] at q4
    exact h.2.2.2.2.1 _ _ _ q1 q2 q3 q4
  · have n1 : a ≠ tZ T := fun e => by
      subst e
      rw [show tK (tNew T k) (tZ T) = k from if_pos rfl] at q1
      rcases hk with ⟨_, q⟩ | ⟨q, _⟩ | ⟨q, _⟩
      · have := q.1; omega
      · omega
      · omega
    have n2 : a' ≠ tZ T := fun e => by
      subst e
      rw [show tK (tNew T k) (tZ T) = k from if_pos rfl] at q2
      rcases hk with ⟨_, q⟩ | ⟨q, _⟩ | ⟨q, _⟩
      · have := q.1; omega
      · omega
      · omega
    rw [hK _ n1] at q1
    rw [hK _ n2] at q2
    rw [(hs a (h.2.2.1 a (by omega)).1).2.2.2] at q3
    rw [(hs a' (h.2.2.1 a' (by omega)).1).2.2.2] at q4
    exact h.2.2.2.2.2 _ _ _ q1 q2 p1 p2 q3 q4
  · have := hs c (h.2.1 c hc)
    have hne : ¬ c = gZ G := by have := h.2.1 c hc; omega
    exact ⟨this.1, this.2.1, this.2.2.1, this.2.2.2, if_neg hne⟩
/-- a row is made: its array is the new cell -/
theorem H_rowNew (h : Rep2 F G T) {a n : Nat} (hk : tK T a = 107) (hn : n < 100000) : Rep2 F (sR (gNew G 14 n) a 0 (some (tZ T))) (tRow T a n) ∧ SameF F G (sR (gNew G 14 n) a 0 (some (tZ T))) := by
  have hz := h.1
  have ha := h.2.2.1 a (by rw [hk]; decide)
  have hg := (h.2.2.2.1 a).2.2.2.1 hk
  have haz : a ≠ tZ T := by omega
  have hK : ∀ c, c ≠ a → tK (tRow T a n) c = tK T c := fun c hc => if_neg hc
  have hs : ∀ c, c < tZ T → c ≠ a → cSame G (sR (gNew G 14 n) a 0 (some (tZ T))) c := fun c hc h1 => by
    have hne : ¬ c = gZ G := by omega
    refine ⟨if_neg hne, if_neg hne, if_neg hne, ?_⟩
    show u2 (gR (gNew G 14 n)) a 0 (some (tZ T)) c = gR G c
    rw [u2_n _ _ _ h1]
    exact if_neg hne
  have hane : ¬ a = gZ G := by omega
  have gRa : gR (sR (gNew G 14 n) a 0 (some (tZ T))) a 0 = some (tZ T) := by
    show u2 (gR (gNew G 14 n)) a 0 (some (tZ T)) a 0 = some (tZ T)
    rw [u2_s]; exact if_pos rfl
  have hlt : ∀ c b, tK T c = 7 → gR G c 0 = some b → b < tZ T := fun c b q1 q2 => by
    obtain ⟨b', h1, h2, _, _⟩ := (h.2.2.2.1 c).2.1 q1
    have := Option.some.inj (h1.2.1.symm.trans q2)
    omega
  refine ⟨⟨by show gZ G + 1 = tZ T + 1; rw [hz], fun a ha => Nat.lt_succ_of_lt (h.2.1 a ha), fun c hc => ?_, fun c => ?_, fun c c' b q1 q2 q3 q4 => ?_, fun c c' b q1 q2 p1 p2 q3 q4 => ?_⟩, fun c hc => ?_⟩
  · by_cases e : c = a
    · subst e
      refine ⟨Nat.lt_succ_of_lt ha.1, ha.2.1, ?_⟩
      rw [show tK (tRow T c n) c = 7 from if_pos rfl]
      exact Or.inr (Or.inl rfl)
    · rw [hK c e] at hc ⊢
      have := h.2.2.1 c hc
      exact ⟨Nat.lt_succ_of_lt this.1, this.2⟩
  · by_cases e : c = a
    · subst e
      have e1 : tK (tRow T c n) c = 7 := if_pos rfl
      have e2 : tC (tRow T c n) c = n := if_pos rfl
      have e3 : tB (tRow T c n) c = [] := if_pos rfl
      unfold H_cell
      rw [e1, e2, e3]
      refine ⟨fun q => absurd rfl q.2.2, fun _ => ⟨tZ T, ⟨?_, gRa, ?_, ?_, haz, hn⟩, Nat.lt_succ_self _, fun q => Nat.lt_irrefl _ (h.2.1 _ q), ?_, Nat.zero_le _, fun i hi => absurd hi (Nat.not_lt_zero _)⟩, fun q => by omega, fun q => by omega, fun q => by omega⟩
      · show u1 (gK G) (gZ G) 14 c = 6
        rw [show u1 (gK G) (gZ G) 14 c = gK G c from if_neg hane]
        exact hg.1
      · show u1 (gK G) (gZ G) 14 (tZ T) = 14
        rw [← hz]; exact if_pos rfl
      · show u1 (gN G) (gZ G) n (tZ T) = n
        rw [← hz]; exact if_pos rfl
      · show u1 (gI G) (gZ G) (fun _ => 0) c 1 = _
        rw [show u1 (gI G) (gZ G) (fun _ => 0) c = gI G c from if_neg hane]
        exact hg.2
    · exact H_fr (h.2.2.2.1 c) (Nat.le_succ _) hz (by show gZ G + 1 = tZ T + 1; rw [hz]) (if_neg e) (if_neg e) (if_neg e) rfl rfl rfl (fun q => hs c (h.2.2.1 c q).1 e) (fun b _ _ hb hl => hs b hl (fun q => by subst q; have := hg.1; omega)) (fun b _ _ hb hl _ => hs b hl (fun q => by subst q; have := hg.1; omega))
  · by_cases e : c = a
    · by_cases e' : c' = a
      · rw [e, e']
      · subst e
        rw [gRa] at q3
        rw [hK c' e'] at q2
        rw [(hs c' (h.2.2.1 c' (by omega)).1 e').2.2.2] at q4
        have := hlt c' b q2 q4
        have := Option.some.inj q3
        omega
    · rw [hK c e] at q1
      rw [(hs c (h.2.2.1 c (by omega)).1 e).2.2.2] at q3
      by_cases e' : c' = a
      · subst e'
        rw [gRa] at q4
        have := hlt c b q1 q3
        have := Option.some.inj q4
        omega
      · rw [hK c' e'] at q2
        rw [(hs c' (h.2.2.1 c' (by omega)).1 e').2.2.2] at q4
        exact h.2.2.2.2.1 _ _ _ q1 q2 q3 q4
  · have n1 : c ≠ a := fun e => by subst e; rw [show tK (tRow T c n) c = 7 from if_pos rfl] at q1; omega
    have n2 : c' ≠ a := fun e => by subst e; rw [show tK (tRow T c' n) c' = 7 from if_pos rfl] at q2; omega
    rw [hK c n1] at q1
    rw [hK c' n2] at q2
    rw [(hs c (h.2.2.1 c (by omega)).1 n1).2.2.2] at q3
    rw [(hs c' (h.2.2.1 c' (by omega)).1 n2).2.2.2] at q4
    rw [show tC (tRow T a n) c = tC T c from if_neg n1] at p1
    rw [show tC (tRow T a n) c' = tC T c' from if_neg n2] at p2
    exact h.2.2.2.2.2 _ _ _ q1 q2 p1 p2 q3 q4
  · have hlt := h.2.1 c hc
    have hca : c ≠ a := fun q => ha.2.1 (q ▸ hc)
    have := hs c hlt hca
    have hne : ¬ c = gZ G := by omega
    exact ⟨this.1, this.2.1, this.2.2.1, this.2.2.2, if_neg hne⟩
theorem H_lstNew (h : Rep2 F G T) {a : Nat} (hk : tK T a = 101) : Rep2 F (sR G a 1 (some 1000000000)) (tLst T a) ∧ SameF F G (sR G a 1 (some 1000000000)) := by
  have hz := h.1
  have ha := h.2.2.1 a (by rw [hk]; decide)
  have hg := (h.2.2.2.1 a).2.2.2.2 hk
  have hK : ∀ c, c ≠ a → tK (tLst T a) c = tK T c := fun c hc => if_neg hc
  have hs : ∀ c, c ≠ a → cSame G (sR G a 1 (some 1000000000)) c := fun c h1 => ⟨rfl, rfl, rfl, u2_n _ _ _ h1⟩
  have gRa : gR (sR G a 1 (some 1000000000)) a 1 = some 1000000000 := by
    show u2 (gR G) a 1 (some 1000000000) a 1 = _
    rw [u2_s]; exact if_pos rfl
  refine ⟨⟨hz, h.2.1, fun c hc => ?_, fun c => ?_, fun c c' b q1 q2 q3 q4 => ?_, fun c c' b q1 q2 p1 p2 q3 q4 => ?_⟩, fun c hc => ?_⟩
  · by_cases e : c = a
    · subst e
      refine ⟨ha.1, ha.2.1, ?_⟩
      rw [show tK (tLst T c) c = 1 from if_pos rfl]
      exact Or.inr (Or.inr (Or.inl rfl))
    · rw [hK c e] at hc ⊢
      exact h.2.2.1 c hc
  · by_cases e : c = a
    · subst e
      have e1 : tK (tLst T c) c = 1 := if_pos rfl
      have e2 : tC (tLst T c) c = 0 := if_pos rfl
      have e3 : tA (tLst T c) c = [] := if_pos rfl
      unfold H_cell
      rw [e1, e2, e3]
      refine ⟨fun q => absurd q.1 (by omega), fun q => by omega, fun _ => ⟨⟨hg.1, hg.2, Or.inl ⟨rfl, rfl, gRa⟩⟩, fun e => absurd rfl e⟩, fun q => by omega, fun q => by omega⟩
    · exact H_fr (h.2.2.2.1 c) (Nat.le_refl _) hz hz (if_neg e) (if_neg e) rfl rfl rfl (if_neg e) (fun _ => hs c e) (fun b _ _ hb hl => hs b (fun q => by subst q; have := hg.1; omega)) (fun b _ _ hb hl _ => hs b (fun q => by subst q; have := hg.1; omega))
  · have n1 : c ≠ a := fun e => by subst e; rw [show tK (tLst T c) c = 1 from if_pos rfl] at q1; omega
    have n2 : c' ≠ a := fun e => by subst e; rw [show tK (tLst T c') c' = 1 from if_pos rfl] at q2; omega
    rw [hK c n1] at q1
    rw [hK c' n2] at q2
    rw [(hs c n1).2.2.2] at q3
    rw [(hs c' n2).2.2.2] at q4
    exact h.2.2.2.2.1 _ _ _ q1 q2 q3 q4
  · have n1 : c ≠ a := fun e => by subst e; exact p1 (if_pos rfl)
    have n2 : c' ≠ a := fun e => by subst e; exact p2 (if_pos rfl)
    rw [hK c n1] at q1
    rw [hK c' n2] at q2
    rw [show tC (tLst T a) c = tC T c from if_neg n1] at p1
    rw [show tC (tLst T a) c' = tC T c' from if_neg n2] at p2
    rw [(hs c n1).2.2.2] at q3
    rw [(hs c' n2).2.2.2] at q4
    exact h.2.2.2.2.2 _ _ _ q1 q2 p1 p2 q3 q4
  · have hca : c ≠ a := fun q => ha.2.1 (q ▸ hc)
    have := hs c hca
    exact ⟨this.1, this.2.1, this.2.2.1, this.2.2.2, rfl⟩
theorem H_lstAdd (h : Rep2 F G T) {a x : Nat} {G' : ab_G} (hk : tK T a = 1) (h1 : ab_LST G' a (tA T a ++ [x]) (if (tA T a).length < tC T a then tC T a else if tC T a = 0 then 10 else tC T a + tC T a / 2)) (h2 : ab_same G G' (fun b => b = a ∨ ((tA T a).length < tC T a ∧ gR G a 1 = some b))) (h3 : gZ G' = (if (tA T a).length < tC T a then gZ G else gZ G + 1)) (h4 : gR G' a 1 = (if (tA T a).length < tC T a then gR G a 1 else some (gZ G))) : Rep2 F G' (tAdd T a x) ∧ SameF F G G' := by
  have hz := h.1
  have ha := h.2.2.1 a (by rw [hk]; decide)
  obtain ⟨hL, hF0⟩ := (h.2.2.2.1 a).2.2.1 hk
  have hz1 : gZ G' = tZ (tAdd T a x) := by rw [h3, hz]; rfl
  have hzl : tZ T ≤ tZ (tAdd T a x) := by rw [← hz1, ← hz]; exact h2.1
  have hreal : ∀ e, tC T a ≠ 0 → gR G a 1 = some e → gK G e = 16 ∧ e < tZ T ∧ ¬ F e := fun e q1 q2 => by
    rcases hL.2.2 with ⟨_, q3, _⟩ | ⟨e', g1, g2, g3, _⟩
    · exact absurd q3 q1
    · have := Option.some.inj (g1.symm.trans q2)
      subst this
      exact ⟨g3, by omega, hF0 q1 _ q2⟩
  have hs : ∀ c, c < tZ T → c ≠ a → (tC T a ≠ 0 → gK G c = 16 → ¬ gR G a 1 = some c) → cSame G G' c ∧ gJ G' c = gJ G c := fun c q1 q2 q3 => by
    have := h2.2 c (by omega) (fun q => by
      rcases q with q | ⟨q4, q5⟩
      · exact q2 q
      · exact q3 (by omega) (hreal c (by omega) q5).1 q5)
    exact ⟨⟨this.1, this.2.1, this.2.2.1, this.2.2.2.1⟩, this.2.2.2.2⟩
  have hgk : ∀ c, tK T c ≠ 0 → gK G c < 13 := fun c hc => H_kind h (h.2.2.1 c hc).2.2
  have hs' : ∀ c, tK T c ≠ 0 → c ≠ a → cSame G G' c := fun c q1 q2 => (hs c (h.2.2.1 c q1).1 q2 (fun _ q => by have := hgk c q1; omega)).1
  have hnew : ∀ e, gR G' a 1 = some e → tC (tAdd T a x) a ≠ 0 ∧ (e = tZ T ∨ tC T a ≠ 0 ∧ gR G a 1 = some e) := fun e q => by
    rw [h4] at q
    have e1 : tC (tAdd T a x) a = (if (tA T a).length < tC T a then tC T a else if tC T a = 0 then 10 else tC T a + tC T a / 2) := if_pos rfl
    rw [e1]
    by_cases c : (tA T a).length < tC T a
    · rw [if_pos c] at q ⊢
      exact ⟨by omega, Or.inr ⟨by omega, q⟩⟩
    · rw [if_neg c] at q ⊢
      refine ⟨by split <;> omega, Or.inl ?_⟩
      rw [← hz]
      exact (Option.some.inj q).symm
  refine ⟨⟨hz1, fun c hc => by have := h.2.1 c hc; omega, fun c hc => ⟨by have := (h.2.2.1 c hc).1; omega, (h.2.2.1 c hc).2⟩, fun c => ?_, fun c c' b q1 q2 q3 q4 => ?_, fun c c' b q1 q2 p1 p2 q3 q4 => ?_⟩, fun c hc => ?_⟩
  · by_cases e : c = a
    · subst e
      have e2 : tC (tAdd T c x) c = (if (tA T c).length < tC T c then tC T c else if tC T c = 0 then 10 else tC T c + tC T c / 2) := if_pos rfl
      have e3 : tA (tAdd T c x) c = tA T c ++ [x] := if_pos rfl
      have e4 : tK (tAdd T c x) c = 1 := hk
      refine ⟨fun q => absurd q.1 (by rw [e4]; decide), fun q => absurd (e4.symm.trans q) (by decide), fun _ => ⟨by rw [e2, e3]; exact h1, fun _ e he => ?_⟩, fun q => absurd (e4.symm.trans q) (by decide), fun q => absurd (e4.symm.trans q) (by decide)⟩
      rcases (hnew e he).2 with q | ⟨q1, q2⟩
      · intro hfe
        have := h.2.1 e hfe
        omega
      · exact hF0 q1 e q2
    · exact H_fr (h.2.2.2.1 c) hzl hz hz1 rfl (if_neg e) rfl rfl rfl (if_neg e) (fun q => hs' c q e) (fun b q1 q2 q3 q4 => (hs b q4 (fun q => by subst q; have := hgk _ (show tK T b ≠ 0 by omega); omega) (fun _ q => by omega)).1) (fun b q1 q2 q3 q4 q5 => (hs b q4 (fun q => by subst q; have := hgk _ (show tK T b ≠ 0 by omega); omega) (fun q6 _ q => e (h.2.2.2.2.2 _ _ _ q1 hk q5 q6 q2 q))).1)
  · have n1 : c ≠ a := fun e => by subst e; change tK T c = 7 at q1; omega
    have n2 : c' ≠ a := fun e => by subst e; change tK T c' = 7 at q2; omega
    change tK T c = 7 at q1
    change tK T c' = 7 at q2
    rw [(hs' c (by omega) n1).2.2.2] at q3
    rw [(hs' c' (by omega) n2).2.2.2] at q4
    exact h.2.2.2.2.1 _ _ _ q1 q2 q3 q4
  · change tK T c = 1 at q1
    change tK T c' = 1 at q2
    have hlt : ∀ c b, tK T c = 1 → tC T c ≠ 0 → gR G c 1 = some b → b < tZ T := fun c b r1 r2 r3 => by
      rcases ((h.2.2.2.1 c).2.2.1 r1).1.2.2 with ⟨_, r4, _⟩ | ⟨e', g1, g2, g3, _⟩
      · exact absurd r4 r2
      · have := Option.some.inj (g1.symm.trans r3)
        omega
    by_cases e : c = a
    · by_cases e' : c' = a
      · rw [e, e']
      · rw [show tC (tAdd T a x) c' = tC T c' from if_neg e'] at p2
        rw [(hs' c' (by omega) e').2.2.2] at q4
        have r1 := hlt c' b q2 p2 q4
        subst e
        rcases (hnew b q3).2 with q | ⟨q5, q6⟩
        · omega
        · exact h.2.2.2.2.2 _ _ _ q1 q2 q5 p2 q6 q4
    · rw [show tC (tAdd T a x) c = tC T c from if_neg e] at p1
      rw [(hs' c (by omega) e).2.2.2] at q3
      have r1 := hlt c b q1 p1 q3
      by_cases e' : c' = a
      · subst e'
        rcases (hnew b q4).2 with q | ⟨q5, q6⟩
        · omega
        · exact h.2.2.2.2.2 _ _ _ q1 q2 p1 q5 q3 q6
      · rw [show tC (tAdd T a x) c' = tC T c' from if_neg e'] at p2
        rw [(hs' c' (by omega) e').2.2.2] at q4
        exact h.2.2.2.2.2 _ _ _ q1 q2 p1 p2 q3 q4
  · have hca : c ≠ a := fun q => ha.2.1 (q ▸ hc)
    have := hs c (h.2.1 c hc) hca (fun q1 q2 q3 => (hreal c q1 q3).2.2 hc)
    exact ⟨this.1.1, this.1.2.1, this.1.2.2.1, this.1.2.2.2, this.2⟩
end H2
