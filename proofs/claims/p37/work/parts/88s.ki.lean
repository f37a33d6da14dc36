/-! tokens that are none stay so, whatever the class reads -/
section KI
variable {r0 : List Int32} {s : Sx}
def KI (r0 : List Int32) (s : Sx) : Prop := ∀ i : Nat, ((s.1 0).getD i 0 = 1 ↔ r0.getD i 0 = 1) ∧ ((s.1 0).getD i 0 = 2 ↔ r0.getD i 0 = 2)
def HS (P : Sx → Prop) (x : Option Sx) : Prop := ∀ s', x = some s' → P s'
theorem HS.some {P : Sx → Prop} {s : Sx} (h : P s) : HS P (some s) := fun s' e => by cases e; exact h
theorem HS.ite {P : Sx → Prop} {c : Prop} [Decidable c] {x y : Option Sx} (h : c → HS P x) (h' : ¬ c → HS P y) : HS P (if c then x else y) := by
  by_cases q : c
  · rw [if_pos q]; exact h q
  · rw [if_neg q]; exact h' q
theorem HS.bOv {P Q : Sx → Prop} {x : Option Sx} {k : Sx → Option Sx} (h : HS Q x) (h' : ∀ s, Q s → HS P (k s)) : HS P (bOv x k) := by
  cases x with
  | none => intro s' e; cases e
  | some a => exact h' a (h a rfl)
theorem HS.bS {P : Sx → Prop} {x : Sx} {k : Sx → Option Sx} (h : HS P (k x)) : HS P (bS x k) := h
theorem HS.bT {P : Sx → Prop} {x : Sx × Int32} {k : Sx → Int32 → Option Sx} (h : HS P (k x.1 x.2)) : HS P (bT x k) := h
theorem KI.co {s' : Sx} (h : KI r0 s) (e : s'.1 0 = s.1 0) : KI r0 s' := by
  unfold KI
  rw [e]
  exact h
theorem KI.set {x v : Int32} (h : KI r0 s) (hv : v ≠ 1 ∧ v ≠ 2) (hk : xg (s.1 0) x ≠ 1 ∧ xg (s.1 0) x ≠ 2) : KI r0 (sB s 0 (xset (s.1 0) x v)) := by
  intro i
  show ((xset (s.1 0) x v).getD i 0 = 1 ↔ _) ∧ ((xset (s.1 0) x v).getD i 0 = 2 ↔ _)
  unfold xset
  by_cases hx : x < 0
  · rw [if_pos hx]
    exact h i
  · rw [if_neg hx]
    have hg : xg (s.1 0) x = (s.1 0).getD x.toNatClampNeg 0 := xg_in hx
    rw [hg] at hk
    by_cases e : x.toNatClampNeg = i
    · rw [e] at hk ⊢
      rcases Nat.lt_or_ge i (s.1 0).length with w | w
      · rw [gD_set_s w]
        have := h i
        exact ⟨⟨fun q => absurd q hv.1, fun q => absurd (this.1.2 q) hk.1⟩, ⟨fun q => absurd q hv.2, fun q => absurd (this.2.2 q) hk.2⟩⟩
      · rw [List.set_eq_of_length_le w]
        exact h i
    · rw [gD_set_n e]
      exact h i
theorem ref0 {f t : Int32} : (f_5005 f t s).1 = s.1 := by
  unfold f_5005
  split <;> rfl
theorem ex0 {x : Int32} : (f_5006 x s).1 = s.1 := by
  unfold f_5006
  split
  · rfl
  · exact ref0
theorem op0 : (f_5007 s).1 = s.1 := by
  unfold f_5007
  split
  · rfl
  · exact ref0
theorem KI.ref {f t : Int32} (h : KI r0 s) : KI r0 (f_5005 f t s) := h.co (by rw [ref0])
theorem KI.ex {x : Int32} (h : KI r0 s) : KI r0 (f_5006 x s) := h.co (by rw [ex0])
theorem KI.op (h : KI r0 s) : KI r0 (f_5007 s) := h.co (by rw [op0])
theorem KI.v {k : Nat} {x : Int32} (h : KI r0 s) : KI r0 (sV s k x) := h
theorem KI.B {k : Nat} {xs : List Int32} (h : KI r0 s) (hk : k ≠ 0) : KI r0 (sB s k xs) := h.co (if_neg (fun e => hk e.symm))
theorem KI.cd {c x : Int32} (h : KI r0 s) : KI r0 (f_4005 c x s).1 := h.co rfl
theorem KI.pt {c x : Int32} (h : KI r0 s) : KI r0 (f_4009 c x s) := h.co rfl
theorem KI.ep {c x : Int32} (h : KI r0 s) : KI r0 (f_4003 c x s) := h.co rfl
theorem KI.var {x : Nat} (h : KI r0 s) (hx : x ≠ 0) (hk : f_5003 s = 4) : KI r0 (f_5022 x s).1 := by
  have hk' : xg (s.1 0) (s.2 2) = 4 := hk
  have hJ : ∀ (s' : Sx) (v : Int32), s'.1 0 = s.1 0 → s'.2 2 = s.2 2 → KI r0 (f_5022_J67 x v s').1 := fun s' v e1 e2 => by
    have h' : KI r0 s' := h.co e1
    have := h'.set (x := s'.2 2) (v := 34) (by decide) (by rw [e1, e2, hk']; decide)
    exact this.co rfl
  unfold f_5022
  split
  · split
    · exact hJ _ _ (if_neg (fun e => hx e.symm)) rfl
    · exact h.ref
  · exact hJ _ _ rfl rfl
theorem KI.f16 (h : KI r0 s) : KI r0 (f_5016 s) := by
  unfold f_5016
  by_cases q : f_5003 s = 4
  · rw [if_pos q]
    split
    · exact h.var (by decide) q
    · exact h.ref
  · rw [if_neg q]
    exact h.ref
theorem KI.J81 (h : KI r0 s) : HS (KI r0) (f_5015_J81 s) := by
  unfold f_5015_J81
  exact HS.bS (HS.bS (HS.some h.ex.v))
theorem KI.L45 : ∀ (n : Nat) (l : Int32) (s : Sx), KI r0 s → HS (KI r0) (f_5015_L45 n l s) := by
  intro n
  induction n with
  | zero => intro l s h s' e; cases e
  | succ n ih =>
    intro l s h
    rw [f_5015_L45]
    exact HS.ite (fun _ => h.J81) (fun _ => HS.ite (fun _ => HS.bS (HS.bS (ih _ _ (KI.f16 (h.v))))) (fun _ => h.J81))
theorem KI.f15 (h : KI r0 s) : HS (KI r0) (f_5015 s) := by
  unfold f_5015
  have h8 : KI r0 (sB s 14 []) := h.B (by decide)
  exact HS.bS (HS.ite (fun _ => HS.bS (HS.ite (fun _ => h8.op.J81) (fun _ => HS.bS (KI.L45 _ _ _ h8.op.f16)))) (fun _ => HS.bS (HS.some h8.ref)))
/-- what a method asks of the token at hand -/
def PreY (y : Nat) (s : Sx) : Prop := (y = 5009 → f_5003 s = 4) ∧ (y = 5010 → f_5003 s = 26) ∧ (y = 5021 → f_5003 s = 4 ∧ xg (s.1 0) (s.2 2 + 1) = 28)
def KRc (r0 : List Int32) (rec : Nat → Int32 → Sx → Option Sx) : Prop := ∀ y a s, KI r0 s → PreY y s → HS (KI r0) (rec y a s)
theorem PreY.n {y : Nat} (h : y ≠ 5009 ∧ y ≠ 5010 ∧ y ≠ 5021) : PreY y s := ⟨fun e => absurd e h.1, fun e => absurd e h.2.1, fun e => absurd e h.2.2⟩
variable {rec : Nat → Int32 → Sx → Option Sx}
theorem KRc.go (hr : KRc r0 rec) {y : Nat} {a : Int32} (h : KI r0 s) (hy : y ≠ 5009 ∧ y ≠ 5010 ∧ y ≠ 5021) : HS (KI r0) (rec y a s) := hr y a s h (PreY.n hy)
theorem KI.J39 (hr : KRc r0 rec) {l1 l2 : Int32} (h : KI r0 s) (hl : l2 = f_5003 s) : HS (KI r0) (f_5008_J39 rec l1 l2 s) := by
  rw [j39]
  refine HS.ite (fun q => HS.bOv (hr 5009 0 s h ⟨fun _ => by rw [← hl]; exact q, (fun e => by cases e), (fun e => by cases e)⟩) (fun s4 h4 => HS.some (h4.co rfl))) (fun _ => ?_)
  refine HS.ite (fun q => HS.bOv (hr.go h (by decide)) (fun s4 h4 => HS.some (h4.co rfl))) (fun _ => ?_)
  refine HS.ite (fun q => HS.bOv (hr.go h (by decide)) (fun s4 h4 => HS.some (h4.co rfl))) (fun _ => ?_)
  refine HS.ite (fun q => HS.bOv (hr.go (s := au_nx s) h.v (by decide)) (fun s4 h4 => HS.some ((h4.cd (c := 6) (x := 0)).ex (x := 33) |>.co rfl))) (fun _ => ?_)
  refine HS.ite (fun q => HS.bOv (hr.go h (by decide)) (fun s4 h4 => HS.some (h4.co rfl))) (fun _ => ?_)
  refine HS.ite (fun q => HS.bOv (hr.go h (by decide)) (fun s4 h4 => HS.some (h4.co rfl))) (fun _ => ?_)
  refine HS.ite (fun q => HS.bOv (hr 5010 0 s h ⟨(fun e => by cases e), fun _ => by rw [← hl]; exact q, (fun e => by cases e)⟩) (fun s4 h4 => HS.some (h4.co rfl))) (fun _ => ?_)
  exact HS.some (h.ref.co rfl)
theorem KI.f08 (hr : KRc r0 rec) (h : KI r0 s) : HS (KI r0) (f_5008 rec s) := by
  unfold f_5008
  have h14 : KI r0 (f_4002 (s.2 2) s).1 := h.co rfl
  refine HS.bT (HS.ite (fun _ => KI.J39 hr h14 rfl) (fun _ => HS.ite (fun _ => KI.J39 hr h14 rfl) (fun _ => HS.bT (KI.J39 hr h14.cd rfl))))
theorem KI.f09 (hr : KRc r0 rec) (h : KI r0 s) (hk : f_5003 s = 4) : HS (KI r0) (f_5009 rec s) := by
  unfold f_5009
  refine HS.ite (fun q => HS.bOv (hr 5021 0 s h ⟨(fun e => by cases e), (fun e => by cases e), fun _ => ⟨hk, q⟩⟩) (fun s9 h9 => HS.bT (HS.bS (HS.some h9.cd.ex)))) (fun _ => ?_)
  exact HS.bT (HS.bS (HS.bOv (hr.go ((h.var (names_ne s) hk).ex) (by decide)) (fun s6 h6 => HS.bT (HS.bS (HS.some h6.cd.ex)))))
theorem KI.f10 (hr : KRc r0 rec) (h : KI r0 s) (hk : f_5003 s = 26) : HS (KI r0) (f_5010 rec s) := by
  unfold f_5010
  have hk' : xg (s.1 0) (s.2 2) = 26 := hk
  have h1 := (h.set (x := s.2 2) (v := 37) (by decide) (by rw [hk']; decide)).op
  exact HS.bS (HS.bS (HS.bOv (hr.go h1 (by decide)) (fun s3 h3 => HS.bS (HS.bS (HS.bOv (hr.go (KI.ex (KI.v h3)) (by decide)) (fun s6 h6 => HS.bT (HS.bS (HS.some h6.cd.ex))))))))
theorem KI.f11 (hr : KRc r0 rec) (h : KI r0 s) : HS (KI r0) (f_5011 rec s) := by
  unfold f_5011
  refine HS.bS (HS.bOv (hr.go (KI.v h) (by decide)) (fun s2 h2 => HS.bT (HS.bOv (hr.go h2.cd (by decide)) (fun s4 h4 => HS.ite (fun _ => ?_) (fun _ => HS.bS (HS.some h4.pt))))))
  exact HS.bS (HS.bT (HS.bS (HS.bOv (hr.go (KI.pt (KI.cd (KI.v h4))) (by decide)) (fun s13 h13 => HS.bS (HS.some h13.pt)))))
theorem KI.f12 (hr : KRc r0 rec) (h : KI r0 s) : HS (KI r0) (f_5012 rec s) := by
  unfold f_5012
  exact HS.bS (HS.bT (HS.bOv (hr.go (KI.cd (KI.v h)) (by decide)) (fun s3 h3 => HS.bT (HS.bOv (hr.go h3.cd (by decide)) (fun s5 h5 => HS.bT (HS.bS (HS.some h5.cd.pt)))))))
theorem KI.f13 (hr : KRc r0 rec) (h : KI r0 s) : HS (KI r0) (f_5013 rec s) := by
  unfold f_5013
  exact HS.ite (fun _ => HS.bS (HS.some h.ref)) (fun _ => HS.bS (HS.bOv (hr.go (KI.v h) (by decide)) (fun s3 h3 => HS.bT (HS.bS (HS.some h3.cd.ex)))))
theorem KI.f14 (hr : KRc r0 rec) (h : KI r0 s) : HS (KI r0) (f_5014 rec s) := by
  unfold f_5014
  refine HS.ite (fun _ => HS.bS (HS.ite (fun q => HS.ite (fun _ => HS.bT (HS.bS (HS.bS (HS.bT (HS.bOv (Q := KI r0) ?_ (fun s13 h13 => HS.bS (HS.bS (HS.bOv (hr.go (KI.v (h13.co rfl)) (by decide)) (fun s18 h18 => HS.bS (HS.bT (HS.bT (HS.bS (HS.bS (HS.some ?_)))))))))))))) (fun _ => HS.bS (HS.some (KI.ref (KI.v h))))) (fun _ => HS.bS (HS.some (KI.ref (KI.v h)))))) (fun _ => HS.bS (HS.some h.ref))
  · have hk' : xg (s.1 0) ((sV s 2 (s.2 2 + 1)).2 2) = 4 := q
    have h9 : KI r0 (f_4010 (xg ((sV s 2 (s.2 2 + 1)).1 1) ((sV s 2 (s.2 2 + 1)).2 2)) (sV s 2 (s.2 2 + 1))).1 := h.co rfl
    have h10 := h9.set (x := (sV s 2 (s.2 2 + 1)).2 2) (v := 35) (by decide) (by
      show xg (s.1 0) _ ≠ 1 ∧ xg (s.1 0) _ ≠ 2
      rw [hk']
      decide)
    exact KI.f15 (KI.cd (KI.v h10))
  · exact KI.B (KI.pt (KI.cd (KI.cd (KI.v h18)))) (by decide)
theorem KI.f19 (hr : KRc r0 rec) (h : KI r0 s) : HS (KI r0) (f_5019 rec s) := by
  unfold f_5019
  refine HS.ite (fun _ => HS.bT (HS.bS (HS.some (KI.v h.cd)))) (fun _ => ?_)
  refine HS.ite (fun q => HS.ite (fun w => HS.bOv (hr 5021 0 s h ⟨(fun e => by cases e), (fun e => by cases e), fun _ => ⟨q, w⟩⟩) (fun s11 h11 => HS.some h11)) (fun _ => HS.bT (HS.bT (HS.some (KI.cd (h.var (names_ne s) q)))))) (fun _ => ?_)
  refine HS.ite (fun _ => HS.bT (HS.bS (HS.some (KI.v h.cd)))) (fun _ => ?_)
  refine HS.ite (fun q => HS.bS (HS.bOv (hr.go (h.set (x := s.2 2) (v := 36) (by decide) (by
    have hk' : xg (s.1 0) (s.2 2) = 13 := q
    rw [hk']
    decide)) (by decide)) (fun s15 h15 => HS.some h15))) (fun _ => ?_)
  refine HS.ite (fun _ => HS.bOv (hr.go h (by decide)) (fun s15 h15 => HS.some h15)) (fun _ => ?_)
  refine HS.ite (fun _ => HS.bOv (hr.go h (by decide)) (fun s15 h15 => HS.some h15)) (fun _ => ?_)
  refine HS.ite (fun _ => HS.bS (HS.bOv (hr.go h.op (by decide)) (fun s19 h19 => HS.bS (HS.bS (HS.some (KI.v h19.ex)))))) (fun _ => ?_)
  exact HS.bS (HS.some h.ref)
theorem KI.f20 (hr : KRc r0 rec) (h : KI r0 s) : HS (KI r0) (f_5020 rec s) := by
  unfold f_5020
  exact HS.bS (HS.bOv (hr.go h.op (by decide)) (fun s3 h3 => HS.bS (HS.bT (HS.some (KI.cd (KI.v h3))))))
theorem KI.J142 {l1 l2 : Int32} (h : KI r0 s) : HS (KI r0) (f_5021_J142 rec l1 l2 s) := by
  unfold f_5021_J142
  exact HS.bS (HS.bS (HS.bS (HS.bT (HS.bS (HS.some (KI.B (KI.cd (KI.B (KI.v h.ex) (by decide))) (by decide)))))))
theorem KI.L102 (hr : KRc r0 rec) : ∀ (n : Nat) (l1 l2 l3 : Int32) (s : Sx), KI r0 s → HS (KI r0) (f_5021_L102 rec n l1 l2 l3 s) := by
  intro n
  induction n with
  | zero => intro l1 l2 l3 s h s' e; cases e
  | succ n ih =>
    intro l1 l2 l3 s h
    rw [f_5021_L102]
    exact HS.ite (fun _ => h.J142) (fun _ => HS.ite (fun _ => HS.bS (HS.bOv (hr.go (KI.v h) (by decide)) (fun s10 h10 => ih _ _ _ _ h10))) (fun _ => h.J142))
theorem KI.f21 (hr : KRc r0 rec) (h : KI r0 s) (hk : f_5003 s = 4 ∧ xg (s.1 0) (s.2 2 + 1) = 28) : HS (KI r0) (f_5021 rec s) := by
  unfold f_5021
  have hk' : xg (s.1 0) (s.2 2) = 4 := hk.1
  have h14 : KI r0 (au_ca 17 0 (au_ca 16 0 (au_ca 15 (s.2 2) s))) := ((h.B (k := 15) (by decide)).B (k := 16) (by decide)).B (k := 17) (by decide)
  have e0 : (au_ca 17 0 (au_ca 16 0 (au_ca 15 (s.2 2) s))).1 0 = s.1 0 := rfl
  have h15 := h14.set (x := s.2 2) (v := 35) (by decide) (by rw [e0, hk']; decide)
  have h18 : KI r0 (f_5007 (sB (sV (sB (au_ca 17 0 (au_ca 16 0 (au_ca 15 (s.2 2) s))) 0 (xset ((au_ca 17 0 (au_ca 16 0 (au_ca 15 (s.2 2) s))).1 0) (s.2 2) 35)) 2 (s.2 2 + 1)) 0 (xset ((sV (sB (au_ca 17 0 (au_ca 16 0 (au_ca 15 (s.2 2) s))) 0 (xset ((au_ca 17 0 (au_ca 16 0 (au_ca 15 (s.2 2) s))).1 0) (s.2 2) 35)) 2 (s.2 2 + 1)).1 0) (s.2 2 + 1) 38))) := by
    refine KI.op (KI.set (KI.v h15) (by decide) ?_)
    show xg (xset (s.1 0) (s.2 2) 35) (s.2 2 + 1) ≠ 1 ∧ xg (xset (s.1 0) (s.2 2) 35) (s.2 2 + 1) ≠ 2
    have h28 := hk.2
    by_cases hx : s.2 2 + 1 < 0
    · rw [xg_neg hx] at h28
      exact absurd h28 (by decide)
    · rw [xg_in hx] at h28 ⊢
      unfold xset
      by_cases hy : s.2 2 < 0
      · rw [if_pos hy, h28]
        decide
      · rw [if_neg hy]
        by_cases e : (s.2 2).toNatClampNeg = (s.2 2 + 1).toNatClampNeg
        · rcases Nat.lt_or_ge (s.2 2 + 1).toNatClampNeg (s.1 0).length with w | w
          · rw [e, gD_set_s w]
            decide
          · rw [e, List.set_eq_of_length_le w, h28]
            decide
        · rw [gD_set_n e, h28]
          decide
  exact HS.bS (HS.bS (HS.bS (HS.bS (HS.bS (HS.bS (HS.bS (HS.ite (fun _ => KI.J142 h18) (fun _ => HS.bOv (hr.go h18 (by decide)) (fun s21 h21 => KI.L102 hr _ _ _ _ _ h21)))))))))
theorem KI.J63 {l1 l2 l3 : Int32} (h : KI r0 s) : HS (KI r0) (f_5017_J63 rec l1 l2 l3 s) := by
  unfold f_5017_J63
  exact HS.bS (HS.bS (HS.bS (HS.bS (HS.some (KI.v (KI.ex (KI.B (KI.B h (by decide)) (by decide))))))))
theorem KI.L30 (hr : KRc r0 rec) : ∀ (n : Nat) (l1 l2 l3 : Int32) (s : Sx), KI r0 s → HS (KI r0) (f_5017_L30 rec n l1 l2 l3 s) := by
  intro n
  induction n with
  | zero => intro l1 l2 l3 s h s' e; cases e
  | succ n ih =>
    intro l1 l2 l3 s h
    rw [f_5017_L30]
    exact HS.ite (fun _ => h.J63) (fun _ => HS.ite (fun _ => h.J63) (fun _ => HS.ite (fun _ => h.J63) (fun _ => HS.bOv (hr.go h (by decide)) (fun s10 h10 => ih _ _ _ _ h10))))
theorem KI.f17 (hr : KRc r0 rec) {x : Int32} (h : KI r0 s) : HS (KI r0) (f_5017 rec x s) := by
  unfold f_5017
  exact HS.ite (fun _ => HS.bS (KI.L30 hr _ _ _ _ _ h.op)) (fun _ => HS.bS (HS.some h.ref))
theorem KI.L20 (hr : KRc r0 rec) : ∀ (n : Nat) (l1 l2 : Int32) (s : Sx), KI r0 s → HS (KI r0) (f_5018_L20 rec n l1 l2 s) := by
  intro n
  induction n with
  | zero => intro l1 l2 s h s' e; cases e
  | succ n ih =>
    intro l1 l2 s h
    have hJ91 : ∀ {a b c d k : Int32} {s : Sx}, KI r0 s → HS (KI r0) (f_5018_J91 rec (f_5018_L20 rec n) a b c d k s) := fun h => by
      unfold f_5018_J91
      exact HS.bT (HS.bOv (hr.go h.cd (by decide)) (fun s2 h2 => HS.bT (HS.bS (HS.bS (ih _ _ _ (KI.B (KI.pt (KI.cd h2)) (by decide)))))))
    have hJ73 : ∀ {a b c d : Int32} {s : Sx}, KI r0 s → HS (KI r0) (f_5018_J73 rec (f_5018_L20 rec n) a b c d s) := fun h => by
      unfold f_5018_J73
      exact HS.ite (fun _ => hJ91 h) (fun _ => hJ91 h)
    rw [f_5018_L20]
    exact HS.ite (fun _ => HS.some h) (fun _ => HS.ite (fun _ => HS.bS (HS.ite (fun _ => hJ73 (KI.v h)) (fun _ => HS.ite (fun _ => hJ73 (KI.v h)) (fun _ => HS.bOv (hr.go (KI.v h) (by decide)) (fun s16 h16 => HS.bT (ih _ _ _ h16.cd)))))) (fun _ => HS.some h))
theorem KI.f18 (hr : KRc r0 rec) {x : Int32} (h : KI r0 s) : HS (KI r0) (f_5018 rec x s) := by
  unfold f_5018
  exact HS.ite (fun _ => HS.bOv (hr.go h (by decide)) (fun s19 h19 => KI.L20 hr _ _ _ _ h19)) (fun _ => HS.bOv (hr.go h (by decide)) (fun s20 h20 => HS.some h20))
theorem KI.rd (n : Nat) : KRc r0 (f_rd n) := by
  induction n with
  | zero => intro y a s h p s' e; cases e
  | succ n ih =>
    intro y a s h p
    rw [f_rd]
    refine HS.ite (fun _ => KI.f08 ih h) (fun _ => ?_)
    refine HS.ite (fun e => KI.f09 ih h (p.1 e)) (fun _ => ?_)
    refine HS.ite (fun e => KI.f10 ih h (p.2.1 e)) (fun _ => ?_)
    refine HS.ite (fun _ => KI.f11 ih h) (fun _ => ?_)
    refine HS.ite (fun _ => KI.f12 ih h) (fun _ => ?_)
    refine HS.ite (fun _ => KI.f13 ih h) (fun _ => ?_)
    refine HS.ite (fun _ => KI.f14 ih h) (fun _ => ?_)
    refine HS.ite (fun _ => KI.f19 ih h) (fun _ => ?_)
    refine HS.ite (fun _ => KI.f20 ih h) (fun _ => ?_)
    refine HS.ite (fun e => KI.f21 ih h (p.2.2 e)) (fun _ => ?_)
    refine HS.ite (fun _ => KI.f17 ih h) (fun _ => ?_)
    refine HS.ite (fun _ => KI.f18 ih h) (fun _ => ?_)
    intro s' e
    cases e
end KI
