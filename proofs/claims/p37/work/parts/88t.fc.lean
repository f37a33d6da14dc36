/-! what the class's reader leaves as it was -/
section FCS
variable {s0 s : Sx}
def FC (s0 s : Sx) : Prop := (∀ k, k = 2 ∨ k = 3 ∨ k = 4 ∨ 18 ≤ k → s.1 k = s0.1 k) ∧ ∀ v, 6 ≤ v → s.2 v = s0.2 v
theorem FC.r : FC s s := ⟨fun _ _ => rfl, fun _ _ => rfl⟩
theorem FC.co {s' : Sx} (h : FC s0 s) (e : ∀ k, k = 2 ∨ k = 3 ∨ k = 4 ∨ 18 ≤ k → s'.1 k = s.1 k) (e2 : ∀ v, 6 ≤ v → s'.2 v = s.2 v) : FC s0 s' := ⟨fun k hk => (e k hk).trans (h.1 k hk), fun v hv => (e2 v hv).trans (h.2 v hv)⟩
theorem FC.B {k : Nat} {xs : List Int32} (h : FC s0 s) (hk : k ≠ 2 ∧ k ≠ 3 ∧ k ≠ 4 ∧ k < 18) : FC s0 (sB s k xs) := h.co (fun j hj => if_neg (by omega)) (fun _ _ => rfl)
theorem FC.v {k : Nat} {x : Int32} (h : FC s0 s) (hk : k < 6) : FC s0 (sV s k x) := h.co (fun _ _ => rfl) (fun v hv => if_neg (by omega))
theorem FC.cd {c x : Int32} (h : FC s0 s) : FC s0 (f_4005 c x s).1 := (h.B (k := 7) (by decide)).B (k := 8) (by decide)
theorem FC.pt {c x : Int32} (h : FC s0 s) : FC s0 (f_4009 c x s) := h.B (k := 8) (by decide)
theorem FC.ep {c x : Int32} (h : FC s0 s) : FC s0 (f_4003 c x s) := h.B (k := 6) (by decide)
theorem FC.bp {x : Int32} (h : FC s0 s) : FC s0 (f_4002 x s).1 := (h.B (k := 5) (by decide)).B (k := 6) (by decide)
theorem FC.f4010 {x : Int32} (h : FC s0 s) : FC s0 (f_4010 x s).1 := (((h.B (k := 9) (by decide)).B (k := 10) (by decide)).B (k := 11) (by decide)).B (k := 12) (by decide)
theorem FC.f4011 {x y z w : Int32} (h : FC s0 s) : FC s0 (f_4011 x y z w s) := ((h.B (k := 10) (by decide)).B (k := 11) (by decide)).B (k := 12) (by decide)
theorem FC.ref {f t : Int32} (h : FC s0 s) : FC s0 (f_5005 f t s) := by
  unfold f_5005
  split
  · exact ((h.v (k := 0) (by decide)).v (k := 1) (by decide)).v (k := 2) (by decide)
  · exact h.v (k := 2) (by decide)
theorem FC.ex {x : Int32} (h : FC s0 s) : FC s0 (f_5006 x s) := by
  unfold f_5006
  split
  · exact h.v (k := 2) (by decide)
  · exact h.ref
theorem FC.op (h : FC s0 s) : FC s0 (f_5007 s) := by
  unfold f_5007
  split
  · exact (h.v (k := 4) (by decide)).v (k := 2) (by decide)
  · exact h.ref
theorem names_lt2 (s : Sx) : f_5004 s = 13 ∨ f_5004 s = 14 := n5004 s
theorem FC.var {x : Nat} (h : FC s0 s) (hx : x = 13 ∨ x = 14) : FC s0 (f_5022 x s).1 := by
  have hJ : ∀ (s' : Sx) (v : Int32), FC s0 s' → FC s0 (f_5022_J67 x v s').1 := fun s' v h' => ((h'.B (k := 0) (by decide)).B (k := 1) (by decide)).v (k := 2) (by decide)
  unfold f_5022
  split
  · split
    · exact hJ _ _ (h.B (by rcases hx with e | e <;> rw [e] <;> decide))
    · exact h.ref
  · exact hJ _ _ h
theorem FC.f16 (h : FC s0 s) : FC s0 (f_5016 s) := by
  unfold f_5016
  by_cases q : f_5003 s = 4
  · rw [if_pos q]
    split
    · exact h.var (by decide)
    · exact h.ref
  · rw [if_neg q]
    exact h.ref
theorem FC.J81 (h : FC s0 s) : HS (FC s0) (f_5015_J81 s) := by
  unfold f_5015_J81
  exact HS.bS (HS.bS (HS.some (h.ex.v (by decide))))
theorem FC.L45 : ∀ (n : Nat) (l : Int32) (s : Sx), FC s0 s → HS (FC s0) (f_5015_L45 n l s) := by
  intro n
  induction n with
  | zero => intro l s h s' e; cases e
  | succ n ih =>
    intro l s h
    rw [f_5015_L45]
    exact HS.ite (fun _ => h.J81) (fun _ => HS.ite (fun _ => HS.bS (HS.bS (ih _ _ (FC.f16 (h.v (by decide)))))) (fun _ => h.J81))
theorem FC.f15 (h : FC s0 s) : HS (FC s0) (f_5015 s) := by
  unfold f_5015
  have h8 : FC s0 (sB s 14 []) := h.B (by decide)
  exact HS.bS (HS.ite (fun _ => HS.bS (HS.ite (fun _ => h8.op.J81) (fun _ => HS.bS (FC.L45 _ _ _ h8.op.f16)))) (fun _ => HS.bS (HS.some h8.ref)))
def KFc (s0 : Sx) (rec : Nat → Int32 → Sx → Option Sx) : Prop := ∀ y a s, FC s0 s → HS (FC s0) (rec y a s)
variable {rec : Nat → Int32 → Sx → Option Sx}
theorem KFc.go (hr : KFc s0 rec) {y : Nat} {a : Int32} (h : FC s0 s) (hy : y ≠ 5009 ∧ y ≠ 5010 ∧ y ≠ 5021) : HS (FC s0) (rec y a s) := hr y a s h
theorem FC.J39 (hr : KFc s0 rec) {l1 l2 : Int32} (h : FC s0 s) : HS (FC s0) (f_5008_J39 rec l1 l2 s) := by
  rw [j39]
  refine HS.ite (fun q => HS.bOv (hr 5009 0 s h) (fun s4 h4 => HS.some (h4.ep))) (fun _ => ?_)
  refine HS.ite (fun q => HS.bOv (hr.go h (by decide)) (fun s4 h4 => HS.some (h4.ep))) (fun _ => ?_)
  refine HS.ite (fun q => HS.bOv (hr.go h (by decide)) (fun s4 h4 => HS.some (h4.ep))) (fun _ => ?_)
  refine HS.ite (fun q => HS.bOv (hr.go (s := au_nx s) (h.v (by decide)) (by decide)) (fun s4 h4 => HS.some ((h4.cd (c := 6) (x := 0)).ex (x := 33) |>.ep))) (fun _ => ?_)
  refine HS.ite (fun q => HS.bOv (hr.go h (by decide)) (fun s4 h4 => HS.some (h4.ep))) (fun _ => ?_)
  refine HS.ite (fun q => HS.bOv (hr.go h (by decide)) (fun s4 h4 => HS.some (h4.ep))) (fun _ => ?_)
  refine HS.ite (fun q => HS.bOv (hr 5010 0 s h) (fun s4 h4 => HS.some (h4.ep))) (fun _ => ?_)
  exact HS.some (h.ref.ep)
theorem FC.f08 (hr : KFc s0 rec) (h : FC s0 s) : HS (FC s0) (f_5008 rec s) := by
  unfold f_5008
  have h14 : FC s0 (f_4002 (s.2 2) s).1 := h.bp
  refine HS.bT (HS.ite (fun _ => FC.J39 hr h14) (fun _ => HS.ite (fun _ => FC.J39 hr h14) (fun _ => HS.bT (FC.J39 hr h14.cd))))
theorem FC.f09 (hr : KFc s0 rec) (h : FC s0 s) : HS (FC s0) (f_5009 rec s) := by
  unfold f_5009
  refine HS.ite (fun q => HS.bOv (hr 5021 0 s h) (fun s9 h9 => HS.bT (HS.bS (HS.some h9.cd.ex)))) (fun _ => ?_)
  exact HS.bT (HS.bS (HS.bOv (hr.go ((h.var (names_lt2 s)).ex) (by decide)) (fun s6 h6 => HS.bT (HS.bS (HS.some h6.cd.ex)))))
theorem FC.f10 (hr : KFc s0 rec) (h : FC s0 s) : HS (FC s0) (f_5010 rec s) := by
  unfold f_5010
  have h1 := (h.B (k := 0) (xs := xset (s.1 0) (s.2 2) 37) (by decide)).op
  exact HS.bS (HS.bS (HS.bOv (hr.go h1 (by decide)) (fun s3 h3 => HS.bS (HS.bS (HS.bOv (hr.go (FC.ex (FC.v h3 (by decide))) (by decide)) (fun s6 h6 => HS.bT (HS.bS (HS.some h6.cd.ex))))))))
theorem FC.f11 (hr : KFc s0 rec) (h : FC s0 s) : HS (FC s0) (f_5011 rec s) := by
  unfold f_5011
  refine HS.bS (HS.bOv (hr.go (FC.v h (by decide)) (by decide)) (fun s2 h2 => HS.bT (HS.bOv (hr.go h2.cd (by decide)) (fun s4 h4 => HS.ite (fun _ => ?_) (fun _ => HS.bS (HS.some h4.pt))))))
  exact HS.bS (HS.bT (HS.bS (HS.bOv (hr.go (FC.pt (FC.cd (FC.v h4 (by decide)))) (by decide)) (fun s13 h13 => HS.bS (HS.some h13.pt)))))
theorem FC.f12 (hr : KFc s0 rec) (h : FC s0 s) : HS (FC s0) (f_5012 rec s) := by
  unfold f_5012
  exact HS.bS (HS.bT (HS.bOv (hr.go (FC.cd (FC.v h (by decide))) (by decide)) (fun s3 h3 => HS.bT (HS.bOv (hr.go h3.cd (by decide)) (fun s5 h5 => HS.bT (HS.bS (HS.some h5.cd.pt)))))))
theorem FC.f13 (hr : KFc s0 rec) (h : FC s0 s) : HS (FC s0) (f_5013 rec s) := by
  unfold f_5013
  exact HS.ite (fun _ => HS.bS (HS.some h.ref)) (fun _ => HS.bS (HS.bOv (hr.go (FC.v h (by decide)) (by decide)) (fun s3 h3 => HS.bT (HS.bS (HS.some h3.cd.ex)))))
theorem FC.f14 (hr : KFc s0 rec) (h : FC s0 s) : HS (FC s0) (f_5014 rec s) := by
  unfold f_5014
  refine HS.ite (fun _ => HS.bS (HS.ite (fun q => HS.ite (fun _ => HS.bT (HS.bS (HS.bS (HS.bT (HS.bOv (Q := FC s0) ?_ (fun s13 h13 => HS.bS (HS.bS (HS.bOv (hr.go (FC.v h13.f4011 (by decide)) (by decide)) (fun s18 h18 => HS.bS (HS.bT (HS.bT (HS.bS (HS.bS (HS.some ?_)))))))))))))) (fun _ => HS.bS (HS.some (FC.ref (FC.v h (by decide)))))) (fun _ => HS.bS (HS.some (FC.ref (FC.v h (by decide))))))) (fun _ => HS.bS (HS.some h.ref))
  · have hk' : xg (s.1 0) ((sV s 2 (s.2 2 + 1)).2 2) = 4 := q
    have h9 : FC s0 (f_4010 (xg ((sV s 2 (s.2 2 + 1)).1 1) ((sV s 2 (s.2 2 + 1)).2 2)) (sV s 2 (s.2 2 + 1))).1 := FC.f4010 (FC.v h (by decide))
    have h10 := h9.B (k := 0) (xs := xset ((f_4010 (xg ((sV s 2 (s.2 2 + 1)).1 1) ((sV s 2 (s.2 2 + 1)).2 2)) (sV s 2 (s.2 2 + 1))).1.1 0) ((sV s 2 (s.2 2 + 1)).2 2) 35) (by decide)
    exact FC.f15 (FC.cd (FC.v h10 (by decide)))
  · exact FC.B (FC.pt (FC.cd (FC.cd (FC.v h18 (by decide))))) (by decide)
theorem FC.f19 (hr : KFc s0 rec) (h : FC s0 s) : HS (FC s0) (f_5019 rec s) := by
  unfold f_5019
  refine HS.ite (fun _ => HS.bT (HS.bS (HS.some (FC.v h.cd (by decide))))) (fun _ => ?_)
  refine HS.ite (fun q => HS.ite (fun w => HS.bOv (hr 5021 0 s h) (fun s11 h11 => HS.some h11)) (fun _ => HS.bT (HS.bT (HS.some (FC.cd (h.var (names_lt2 s))))))) (fun _ => ?_)
  refine HS.ite (fun _ => HS.bT (HS.bS (HS.some (FC.v h.cd (by decide))))) (fun _ => ?_)
  refine HS.ite (fun q => HS.bS (HS.bOv (hr.go (h.B (k := 0) (xs := xset (s.1 0) (s.2 2) 36) (by decide)) (by decide)) (fun s15 h15 => HS.some h15))) (fun _ => ?_)
  refine HS.ite (fun _ => HS.bOv (hr.go h (by decide)) (fun s15 h15 => HS.some h15)) (fun _ => ?_)
  refine HS.ite (fun _ => HS.bOv (hr.go h (by decide)) (fun s15 h15 => HS.some h15)) (fun _ => ?_)
  refine HS.ite (fun _ => HS.bS (HS.bOv (hr.go h.op (by decide)) (fun s19 h19 => HS.bS (HS.bS (HS.some (FC.v h19.ex (by decide))))))) (fun _ => ?_)
  exact HS.bS (HS.some h.ref)
theorem FC.f20 (hr : KFc s0 rec) (h : FC s0 s) : HS (FC s0) (f_5020 rec s) := by
  unfold f_5020
  exact HS.bS (HS.bOv (hr.go h.op (by decide)) (fun s3 h3 => HS.bS (HS.bT (HS.some (FC.cd (FC.v h3 (by decide)))))))
theorem FC.J142 {l1 l2 : Int32} (h : FC s0 s) : HS (FC s0) (f_5021_J142 rec l1 l2 s) := by
  unfold f_5021_J142
  exact HS.bS (HS.bS (HS.bS (HS.bT (HS.bS (HS.some (FC.B (FC.cd (FC.B (FC.v h.ex (by decide)) (by decide))) (by decide)))))))
theorem FC.L102 (hr : KFc s0 rec) : ∀ (n : Nat) (l1 l2 l3 : Int32) (s : Sx), FC s0 s → HS (FC s0) (f_5021_L102 rec n l1 l2 l3 s) := by
  intro n
  induction n with
  | zero => intro l1 l2 l3 s h s' e; cases e
  | succ n ih =>
    intro l1 l2 l3 s h
    rw [f_5021_L102]
    exact HS.ite (fun _ => h.J142) (fun _ => HS.ite (fun _ => HS.bS (HS.bOv (hr.go (FC.v h (by decide)) (by decide)) (fun s10 h10 => ih _ _ _ _ h10))) (fun _ => h.J142))
theorem FC.f21 (hr : KFc s0 rec) (h : FC s0 s) : HS (FC s0) (f_5021 rec s) := by
  unfold f_5021
  have h14 : FC s0 (au_ca 17 0 (au_ca 16 0 (au_ca 15 (s.2 2) s))) := ((h.B (k := 15) (by decide)).B (k := 16) (by decide)).B (k := 17) (by decide)
  have h15 := h14.B (k := 0) (xs := xset ((au_ca 17 0 (au_ca 16 0 (au_ca 15 (s.2 2) s))).1 0) (s.2 2) 35) (by decide)
  have h16 := FC.v (k := 2) (x := s.2 2 + 1) h15 (by decide)
  have h18 := (h16.B (k := 0) (xs := xset ((sV (sB (au_ca 17 0 (au_ca 16 0 (au_ca 15 (s.2 2) s))) 0 (xset ((au_ca 17 0 (au_ca 16 0 (au_ca 15 (s.2 2) s))).1 0) (s.2 2) 35)) 2 (s.2 2 + 1)).1 0) (s.2 2 + 1) 38) (by decide)).op
  exact HS.bS (HS.bS (HS.bS (HS.bS (HS.bS (HS.bS (HS.bS (HS.ite (fun _ => FC.J142 h18) (fun _ => HS.bOv (hr.go h18 (by decide)) (fun s21 h21 => FC.L102 hr _ _ _ _ _ h21)))))))))
theorem FC.J63 {l1 l2 l3 : Int32} (h : FC s0 s) : HS (FC s0) (f_5017_J63 rec l1 l2 l3 s) := by
  unfold f_5017_J63
  exact HS.bS (HS.bS (HS.bS (HS.bS (HS.some (FC.v (FC.ex (FC.B (FC.B h (by decide)) (by decide))) (by decide))))))
theorem FC.L30 (hr : KFc s0 rec) : ∀ (n : Nat) (l1 l2 l3 : Int32) (s : Sx), FC s0 s → HS (FC s0) (f_5017_L30 rec n l1 l2 l3 s) := by
  intro n
  induction n with
  | zero => intro l1 l2 l3 s h s' e; cases e
  | succ n ih =>
    intro l1 l2 l3 s h
    rw [f_5017_L30]
    exact HS.ite (fun _ => h.J63) (fun _ => HS.ite (fun _ => h.J63) (fun _ => HS.ite (fun _ => h.J63) (fun _ => HS.bOv (hr.go h (by decide)) (fun s10 h10 => ih _ _ _ _ h10))))
theorem FC.f17 (hr : KFc s0 rec) {x : Int32} (h : FC s0 s) : HS (FC s0) (f_5017 rec x s) := by
  unfold f_5017
  exact HS.ite (fun _ => HS.bS (FC.L30 hr _ _ _ _ _ h.op)) (fun _ => HS.bS (HS.some h.ref))
theorem FC.L20 (hr : KFc s0 rec) : ∀ (n : Nat) (l1 l2 : Int32) (s : Sx), FC s0 s → HS (FC s0) (f_5018_L20 rec n l1 l2 s) := by
  intro n
  induction n with
  | zero => intro l1 l2 s h s' e; cases e
  | succ n ih =>
    intro l1 l2 s h
    have hJ91 : ∀ {a b c d k : Int32} {s : Sx}, FC s0 s → HS (FC s0) (f_5018_J91 rec (f_5018_L20 rec n) a b c d k s) := fun h => by
      unfold f_5018_J91
      exact HS.bT (HS.bOv (hr.go h.cd (by decide)) (fun s2 h2 => HS.bT (HS.bS (HS.bS (ih _ _ _ (FC.B (FC.pt (FC.cd h2)) (by decide)))))))
    have hJ73 : ∀ {a b c d : Int32} {s : Sx}, FC s0 s → HS (FC s0) (f_5018_J73 rec (f_5018_L20 rec n) a b c d s) := fun h => by
      unfold f_5018_J73
      exact HS.ite (fun _ => hJ91 h) (fun _ => hJ91 h)
    rw [f_5018_L20]
    exact HS.ite (fun _ => HS.some h) (fun _ => HS.ite (fun _ => HS.bS (HS.ite (fun _ => hJ73 (FC.v h (by decide))) (fun _ => HS.ite (fun _ => hJ73 (FC.v h (by decide))) (fun _ => HS.bOv (hr.go (FC.v h (by decide)) (by decide)) (fun s16 h16 => HS.bT (ih _ _ _ h16.cd)))))) (fun _ => HS.some h))
theorem FC.f18 (hr : KFc s0 rec) {x : Int32} (h : FC s0 s) : HS (FC s0) (f_5018 rec x s) := by
  unfold f_5018
  exact HS.ite (fun _ => HS.bOv (hr.go h (by decide)) (fun s19 h19 => FC.L20 hr _ _ _ _ h19)) (fun _ => HS.bOv (hr.go h (by decide)) (fun s20 h20 => HS.some h20))
theorem FC.rd (n : Nat) : KFc s0 (f_rd n) := by
  induction n with
  | zero => intro y a s h s' e; cases e
  | succ n ih =>
    intro y a s h
    rw [f_rd]
    refine HS.ite (fun _ => FC.f08 ih h) (fun _ => ?_)
    refine HS.ite (fun _ => FC.f09 ih h) (fun _ => ?_)
    refine HS.ite (fun _ => FC.f10 ih h) (fun _ => ?_)
    refine HS.ite (fun _ => FC.f11 ih h) (fun _ => ?_)
    refine HS.ite (fun _ => FC.f12 ih h) (fun _ => ?_)
    refine HS.ite (fun _ => FC.f13 ih h) (fun _ => ?_)
    refine HS.ite (fun _ => FC.f14 ih h) (fun _ => ?_)
    refine HS.ite (fun _ => FC.f19 ih h) (fun _ => ?_)
    refine HS.ite (fun _ => FC.f20 ih h) (fun _ => ?_)
    refine HS.ite (fun _ => FC.f21 ih h) (fun _ => ?_)
    refine HS.ite (fun _ => FC.f17 ih h) (fun _ => ?_)
    refine HS.ite (fun _ => FC.f18 ih h) (fun _ => ?_)
    intro s' e
    cases e
end FCS
