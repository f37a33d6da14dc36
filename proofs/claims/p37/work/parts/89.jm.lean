/-! lengths grow, a fault stays: whatever the class reads -/
section JMS
variable {p : Nat × Nat × Nat × Prop} {s : Sx}
def JM (p : Nat × Nat × Nat × Prop) (s : Sx) : Prop := p.1 ≤ (s.1 7).length ∧ p.2.1 ≤ (s.1 15).length ∧ p.2.2.1 ≤ (s.1 9).length ∧ (p.2.2.2 → s.2 0 ≠ 0)
theorem xadd_ge (n : Nat) (l : List Int32) (x : Int32) : l.length ≤ (xadd n l x).length := by
  unfold xadd
  split
  · rw [List.length_append]; omega
  · exact Nat.le_refl _
theorem JM.B {k : Nat} {xs : List Int32} (h : JM p s) (hk : k ≠ 7 ∧ k ≠ 9 ∧ k ≠ 15) : JM p (sB s k xs) := by
  have e : ∀ j, j ≠ k → (sB s k xs).1 j = s.1 j := fun j hj => if_neg hj
  unfold JM
  rw [e 7 (fun q => hk.1 q.symm), e 9 (fun q => hk.2.1 q.symm), e 15 (fun q => hk.2.2 q.symm)]
  exact h
theorem JM.A {k n : Nat} {x : Int32} (h : JM p s) : JM p (sB s k (xadd n (s.1 k) x)) := by
  have e : ∀ j, (s.1 j).length ≤ ((sB s k (xadd n (s.1 k) x)).1 j).length := fun j => by
    by_cases q : j = k
    · rw [show (sB s k (xadd n (s.1 k) x)).1 j = xadd n (s.1 k) x from if_pos q, q]
      exact xadd_ge _ _ _
    · rw [show (sB s k (xadd n (s.1 k) x)).1 j = s.1 j from if_neg q]
      exact Nat.le_refl _
  exact ⟨Nat.le_trans h.1 (e 7), Nat.le_trans h.2.1 (e 15), Nat.le_trans h.2.2.1 (e 9), h.2.2.2⟩
theorem JM.v {k : Nat} {x : Int32} (h : JM p s) (hk : k ≠ 0) : JM p (sV s k x) := by
  refine ⟨h.1, h.2.1, h.2.2.1, fun q => ?_⟩
  rw [show (sV s k x).2 0 = s.2 0 from if_neg (fun e => hk e.symm)]
  exact h.2.2.2 q
theorem JM.ca {x : Int32} (h : JM p s) : JM p (au_ca 15 x s) := h.A
theorem JM.cd {c x : Int32} (h : JM p s) : JM p (f_4005 c x s).1 := (h.A (k := 7) (n := ev_cap 7) (x := c)).B (k := 8) (by decide)
theorem JM.pt {c x : Int32} (h : JM p s) : JM p (f_4009 c x s) := h.B (k := 8) (by decide)
theorem JM.ep {c x : Int32} (h : JM p s) : JM p (f_4003 c x s) := h.B (k := 6) (by decide)
theorem JM.bp {x : Int32} (h : JM p s) : JM p (f_4002 x s).1 := (h.B (k := 5) (by decide)).B (k := 6) (by decide)
theorem JM.f4010 {x : Int32} (h : JM p s) : JM p (f_4010 x s).1 := (((h.A (k := 9) (n := ev_cap 9) (x := x)).B (k := 10) (by decide)).B (k := 11) (by decide)).B (k := 12) (by decide)
theorem JM.f4011 {x y z w : Int32} (h : JM p s) : JM p (f_4011 x y z w s) := ((h.B (k := 10) (by decide)).B (k := 11) (by decide)).B (k := 12) (by decide)
theorem JM.ref {f t : Int32} (h : JM p s) : JM p (f_5005 f t s) := by
  unfold f_5005
  split
  · rename_i e
    exact ⟨h.1, h.2.1, h.2.2.1, fun q => absurd e (h.2.2.2 q)⟩
  · exact h.v (k := 2) (by decide)
theorem JM.ex {x : Int32} (h : JM p s) : JM p (f_5006 x s) := by
  unfold f_5006
  split
  · exact h.v (k := 2) (by decide)
  · exact h.ref
theorem JM.op (h : JM p s) : JM p (f_5007 s) := by
  unfold f_5007
  split
  · exact (h.v (k := 4) (by decide)).v (k := 2) (by decide)
  · exact h.ref
theorem JM.var {x : Nat} (h : JM p s) (hx : x = 13 ∨ x = 14) : JM p (f_5022 x s).1 := by
  have hJ : ∀ (s' : Sx) (v : Int32), JM p s' → JM p (f_5022_J67 x v s').1 := fun s' v h' => ((h'.B (k := 0) (by decide)).B (k := 1) (by decide)).v (k := 2) (by decide)
  unfold f_5022
  split
  · split
    · exact hJ _ _ (h.B (by rcases hx with e | e <;> rw [e] <;> decide))
    · exact h.ref
  · exact hJ _ _ h
theorem JM.f16 (h : JM p s) : JM p (f_5016 s) := by
  unfold f_5016
  by_cases q : f_5003 s = 4
  · rw [if_pos q]
    split
    · exact h.var (by decide)
    · exact h.ref
  · rw [if_neg q]
    exact h.ref
theorem JM.J81 (h : JM p s) : HS (JM p) (f_5015_J81 s) := by
  unfold f_5015_J81
  exact HS.bS (HS.bS (HS.some (h.ex.v (by decide))))
theorem JM.L45 : ∀ (n : Nat) (l : Int32) (s : Sx), JM p s → HS (JM p) (f_5015_L45 n l s) := by
  intro n
  induction n with
  | zero => intro l s h s' e; cases e
  | succ n ih =>
    intro l s h
    rw [f_5015_L45]
    exact HS.ite (fun _ => h.J81) (fun _ => HS.ite (fun _ => HS.bS (HS.bS (ih _ _ (JM.f16 (h.v (by decide)))))) (fun _ => h.J81))
theorem JM.f15 (h : JM p s) : HS (JM p) (f_5015 s) := by
  unfold f_5015
  have h8 : JM p (sB s 14 []) := h.B (by decide)
  exact HS.bS (HS.ite (fun _ => HS.bS (HS.ite (fun _ => h8.op.J81) (fun _ => HS.bS (JM.L45 _ _ _ h8.op.f16)))) (fun _ => HS.bS (HS.some h8.ref)))
def KJc (p : Nat × Nat × Nat × Prop) (rec : Nat → Int32 → Sx → Option Sx) : Prop := ∀ y a s, JM p s → HS (JM p) (rec y a s)
variable {rec : Nat → Int32 → Sx → Option Sx}
theorem KJc.go (hr : KJc p rec) {y : Nat} {a : Int32} (h : JM p s) (hy : y ≠ 5009 ∧ y ≠ 5010 ∧ y ≠ 5021) : HS (JM p) (rec y a s) := hr y a s h
theorem JM.J39 (hr : KJc p rec) {l1 l2 : Int32} (h : JM p s) : HS (JM p) (f_5008_J39 rec l1 l2 s) := by
  rw [j39]
  refine HS.ite (fun q => HS.bOv (hr 5009 0 s h) (fun s4 h4 => HS.some (h4.ep))) (fun _ => ?_)
  refine HS.ite (fun q => HS.bOv (hr.go h (by decide)) (fun s4 h4 => HS.some (h4.ep))) (fun _ => ?_)
  refine HS.ite (fun q => HS.bOv (hr.go h (by decide)) (fun s4 h4 => HS.some (h4.ep))) (fun _ => ?_)
  refine HS.ite (fun q => HS.bOv (hr.go (s := au_nx s) (h.v (by decide)) (by decide)) (fun s4 h4 => HS.some ((h4.cd (c := 6) (x := 0)).ex (x := 33) |>.ep))) (fun _ => ?_)
  refine HS.ite (fun q => HS.bOv (hr.go h (by decide)) (fun s4 h4 => HS.some (h4.ep))) (fun _ => ?_)
  refine HS.ite (fun q => HS.bOv (hr.go h (by decide)) (fun s4 h4 => HS.some (h4.ep))) (fun _ => ?_)
  refine HS.ite (fun q => HS.bOv (hr 5010 0 s h) (fun s4 h4 => HS.some (h4.ep))) (fun _ => ?_)
  exact HS.some (h.ref.ep)
theorem JM.f08 (hr : KJc p rec) (h : JM p s) : HS (JM p) (f_5008 rec s) := by
  unfold f_5008
  have h14 : JM p (f_4002 (s.2 2) s).1 := h.bp
  refine HS.bT (HS.ite (fun _ => JM.J39 hr h14) (fun _ => HS.ite (fun _ => JM.J39 hr h14) (fun _ => HS.bT (JM.J39 hr h14.cd))))
theorem JM.f09 (hr : KJc p rec) (h : JM p s) : HS (JM p) (f_5009 rec s) := by
  unfold f_5009
  refine HS.ite (fun q => HS.bOv (hr 5021 0 s h) (fun s9 h9 => HS.bT (HS.bS (HS.some h9.cd.ex)))) (fun _ => ?_)
  exact HS.bT (HS.bS (HS.bOv (hr.go ((h.var (names_lt2 s)).ex) (by decide)) (fun s6 h6 => HS.bT (HS.bS (HS.some h6.cd.ex)))))
theorem JM.f10 (hr : KJc p rec) (h : JM p s) : HS (JM p) (f_5010 rec s) := by
  unfold f_5010
  have h1 := (h.B (k := 0) (xs := xset (s.1 0) (s.2 2) 37) (by decide)).op
  exact HS.bS (HS.bS (HS.bOv (hr.go h1 (by decide)) (fun s3 h3 => HS.bS (HS.bS (HS.bOv (hr.go (JM.ex (JM.v h3 (by decide))) (by decide)) (fun s6 h6 => HS.bT (HS.bS (HS.some h6.cd.ex))))))))
theorem JM.f11 (hr : KJc p rec) (h : JM p s) : HS (JM p) (f_5011 rec s) := by
  unfold f_5011
  refine HS.bS (HS.bOv (hr.go (JM.v h (by decide)) (by decide)) (fun s2 h2 => HS.bT (HS.bOv (hr.go h2.cd (by decide)) (fun s4 h4 => HS.ite (fun _ => ?_) (fun _ => HS.bS (HS.some h4.pt))))))
  exact HS.bS (HS.bT (HS.bS (HS.bOv (hr.go (JM.pt (JM.cd (JM.v h4 (by decide)))) (by decide)) (fun s13 h13 => HS.bS (HS.some h13.pt)))))
theorem JM.f12 (hr : KJc p rec) (h : JM p s) : HS (JM p) (f_5012 rec s) := by
  unfold f_5012
  exact HS.bS (HS.bT (HS.bOv (hr.go (JM.cd (JM.v h (by decide))) (by decide)) (fun s3 h3 => HS.bT (HS.bOv (hr.go h3.cd (by decide)) (fun s5 h5 => HS.bT (HS.bS (HS.some h5.cd.pt)))))))
theorem JM.f13 (hr : KJc p rec) (h : JM p s) : HS (JM p) (f_5013 rec s) := by
  unfold f_5013
  exact HS.ite (fun _ => HS.bS (HS.some h.ref)) (fun _ => HS.bS (HS.bOv (hr.go (JM.v h (by decide)) (by decide)) (fun s3 h3 => HS.bT (HS.bS (HS.some h3.cd.ex)))))
theorem JM.f14 (hr : KJc p rec) (h : JM p s) : HS (JM p) (f_5014 rec s) := by
  unfold f_5014
  refine HS.ite (fun _ => HS.bS (HS.ite (fun q => HS.ite (fun _ => HS.bT (HS.bS (HS.bS (HS.bT (HS.bOv (Q := JM p) ?_ (fun s13 h13 => HS.bS (HS.bS (HS.bOv (hr.go (JM.v h13.f4011 (by decide)) (by decide)) (fun s18 h18 => HS.bS (HS.bT (HS.bT (HS.bS (HS.bS (HS.some ?_)))))))))))))) (fun _ => HS.bS (HS.some (JM.ref (JM.v h (by decide)))))) (fun _ => HS.bS (HS.some (JM.ref (JM.v h (by decide))))))) (fun _ => HS.bS (HS.some h.ref))
  · have hk' : xg (s.1 0) ((sV s 2 (s.2 2 + 1)).2 2) = 4 := q
    have h9 : JM p (f_4010 (xg ((sV s 2 (s.2 2 + 1)).1 1) ((sV s 2 (s.2 2 + 1)).2 2)) (sV s 2 (s.2 2 + 1))).1 := JM.f4010 (JM.v h (by decide))
    have h10 := h9.B (k := 0) (xs := xset ((f_4010 (xg ((sV s 2 (s.2 2 + 1)).1 1) ((sV s 2 (s.2 2 + 1)).2 2)) (sV s 2 (s.2 2 + 1))).1.1 0) ((sV s 2 (s.2 2 + 1)).2 2) 35) (by decide)
    exact JM.f15 (JM.cd (JM.v h10 (by decide)))
  · exact JM.B (JM.pt (JM.cd (JM.cd (JM.v h18 (by decide))))) (by decide)
theorem JM.f19 (hr : KJc p rec) (h : JM p s) : HS (JM p) (f_5019 rec s) := by
  unfold f_5019
  refine HS.ite (fun _ => HS.bT (HS.bS (HS.some (JM.v h.cd (by decide))))) (fun _ => ?_)
  refine HS.ite (fun q => HS.ite (fun w => HS.bOv (hr 5021 0 s h) (fun s11 h11 => HS.some h11)) (fun _ => HS.bT (HS.bT (HS.some (JM.cd (h.var (names_lt2 s))))))) (fun _ => ?_)
  refine HS.ite (fun _ => HS.bT (HS.bS (HS.some (JM.v h.cd (by decide))))) (fun _ => ?_)
  refine HS.ite (fun q => HS.bS (HS.bOv (hr.go (h.B (k := 0) (xs := xset (s.1 0) (s.2 2) 36) (by decide)) (by decide)) (fun s15 h15 => HS.some h15))) (fun _ => ?_)
  refine HS.ite (fun _ => HS.bOv (hr.go h (by decide)) (fun s15 h15 => HS.some h15)) (fun _ => ?_)
  refine HS.ite (fun _ => HS.bOv (hr.go h (by decide)) (fun s15 h15 => HS.some h15)) (fun _ => ?_)
  refine HS.ite (fun _ => HS.bS (HS.bOv (hr.go h.op (by decide)) (fun s19 h19 => HS.bS (HS.bS (HS.some (JM.v h19.ex (by decide))))))) (fun _ => ?_)
  exact HS.bS (HS.some h.ref)
theorem JM.f20 (hr : KJc p rec) (h : JM p s) : HS (JM p) (f_5020 rec s) := by
  unfold f_5020
  exact HS.bS (HS.bOv (hr.go h.op (by decide)) (fun s3 h3 => HS.bS (HS.bT (HS.some (JM.cd (JM.v h3 (by decide)))))))
theorem JM.J142 {l1 l2 : Int32} (h : JM p s) : HS (JM p) (f_5021_J142 rec l1 l2 s) := by
  unfold f_5021_J142
  exact HS.bS (HS.bS (HS.bS (HS.bT (HS.bS (HS.some (JM.B (JM.cd (JM.B (JM.v h.ex (by decide)) (by decide))) (by decide)))))))
theorem JM.L102 (hr : KJc p rec) : ∀ (n : Nat) (l1 l2 l3 : Int32) (s : Sx), JM p s → HS (JM p) (f_5021_L102 rec n l1 l2 l3 s) := by
  intro n
  induction n with
  | zero => intro l1 l2 l3 s h s' e; cases e
  | succ n ih =>
    intro l1 l2 l3 s h
    rw [f_5021_L102]
    exact HS.ite (fun _ => h.J142) (fun _ => HS.ite (fun _ => HS.bS (HS.bOv (hr.go (JM.v h (by decide)) (by decide)) (fun s10 h10 => ih _ _ _ _ h10))) (fun _ => h.J142))
theorem JM.f21 (hr : KJc p rec) (h : JM p s) : HS (JM p) (f_5021 rec s) := by
  unfold f_5021
  have h14 : JM p (au_ca 17 0 (au_ca 16 0 (au_ca 15 (s.2 2) s))) := (h.ca.B (k := 16) (by decide)).B (k := 17) (by decide)
  have h15 := h14.B (k := 0) (xs := xset ((au_ca 17 0 (au_ca 16 0 (au_ca 15 (s.2 2) s))).1 0) (s.2 2) 35) (by decide)
  have h16 := JM.v (k := 2) (x := s.2 2 + 1) h15 (by decide)
  have h18 := (h16.B (k := 0) (xs := xset ((sV (sB (au_ca 17 0 (au_ca 16 0 (au_ca 15 (s.2 2) s))) 0 (xset ((au_ca 17 0 (au_ca 16 0 (au_ca 15 (s.2 2) s))).1 0) (s.2 2) 35)) 2 (s.2 2 + 1)).1 0) (s.2 2 + 1) 38) (by decide)).op
  exact HS.bS (HS.bS (HS.bS (HS.bS (HS.bS (HS.bS (HS.bS (HS.ite (fun _ => JM.J142 h18) (fun _ => HS.bOv (hr.go h18 (by decide)) (fun s21 h21 => JM.L102 hr _ _ _ _ _ h21)))))))))
theorem JM.J63 {l1 l2 l3 : Int32} (h : JM p s) : HS (JM p) (f_5017_J63 rec l1 l2 l3 s) := by
  unfold f_5017_J63
  exact HS.bS (HS.bS (HS.bS (HS.bS (HS.some (JM.v (JM.ex (JM.B (JM.B h (by decide)) (by decide))) (by decide))))))
theorem JM.L30 (hr : KJc p rec) : ∀ (n : Nat) (l1 l2 l3 : Int32) (s : Sx), JM p s → HS (JM p) (f_5017_L30 rec n l1 l2 l3 s) := by
  intro n
  induction n with
  | zero => intro l1 l2 l3 s h s' e; cases e
  | succ n ih =>
    intro l1 l2 l3 s h
    rw [f_5017_L30]
    exact HS.ite (fun _ => h.J63) (fun _ => HS.ite (fun _ => h.J63) (fun _ => HS.ite (fun _ => h.J63) (fun _ => HS.bOv (hr.go h (by decide)) (fun s10 h10 => ih _ _ _ _ h10))))
theorem JM.f17 (hr : KJc p rec) {x : Int32} (h : JM p s) : HS (JM p) (f_5017 rec x s) := by
  unfold f_5017
  exact HS.ite (fun _ => HS.bS (JM.L30 hr _ _ _ _ _ h.op)) (fun _ => HS.bS (HS.some h.ref))
theorem JM.L20 (hr : KJc p rec) : ∀ (n : Nat) (l1 l2 : Int32) (s : Sx), JM p s → HS (JM p) (f_5018_L20 rec n l1 l2 s) := by
  intro n
  induction n with
  | zero => intro l1 l2 s h s' e; cases e
  | succ n ih =>
    intro l1 l2 s h
    have hJ91 : ∀ {a b c d k : Int32} {s : Sx}, JM p s → HS (JM p) (f_5018_J91 rec (f_5018_L20 rec n) a b c d k s) := fun h => by
      unfold f_5018_J91
      exact HS.bT (HS.bOv (hr.go h.cd (by decide)) (fun s2 h2 => HS.bT (HS.bS (HS.bS (ih _ _ _ (JM.B (JM.pt (JM.cd h2)) (by decide)))))))
    have hJ73 : ∀ {a b c d : Int32} {s : Sx}, JM p s → HS (JM p) (f_5018_J73 rec (f_5018_L20 rec n) a b c d s) := fun h => by
      unfold f_5018_J73
      exact HS.ite (fun _ => hJ91 h) (fun _ => hJ91 h)
    rw [f_5018_L20]
    exact HS.ite (fun _ => HS.some h) (fun _ => HS.ite (fun _ => HS.bS (HS.ite (fun _ => hJ73 (JM.v h (by decide))) (fun _ => HS.ite (fun _ => hJ73 (JM.v h (by decide))) (fun _ => HS.bOv (hr.go (JM.v h (by decide)) (by decide)) (fun s16 h16 => HS.bT (ih _ _ _ h16.cd)))))) (fun _ => HS.some h))
theorem JM.f18 (hr : KJc p rec) {x : Int32} (h : JM p s) : HS (JM p) (f_5018 rec x s) := by
  unfold f_5018
  exact HS.ite (fun _ => HS.bOv (hr.go h (by decide)) (fun s19 h19 => JM.L20 hr _ _ _ _ h19)) (fun _ => HS.bOv (hr.go h (by decide)) (fun s20 h20 => HS.some h20))
theorem JM.rd (n : Nat) : KJc p (f_rd n) := by
  induction n with
  | zero => intro y a s h s' e; cases e
  | succ n ih =>
    intro y a s h
    rw [f_rd]
    refine HS.ite (fun _ => JM.f08 ih h) (fun _ => ?_)
    refine HS.ite (fun _ => JM.f09 ih h) (fun _ => ?_)
    refine HS.ite (fun _ => JM.f10 ih h) (fun _ => ?_)
    refine HS.ite (fun _ => JM.f11 ih h) (fun _ => ?_)
    refine HS.ite (fun _ => JM.f12 ih h) (fun _ => ?_)
    refine HS.ite (fun _ => JM.f13 ih h) (fun _ => ?_)
    refine HS.ite (fun _ => JM.f14 ih h) (fun _ => ?_)
    refine HS.ite (fun _ => JM.f19 ih h) (fun _ => ?_)
    refine HS.ite (fun _ => JM.f20 ih h) (fun _ => ?_)
    refine HS.ite (fun _ => JM.f21 ih h) (fun _ => ?_)
    refine HS.ite (fun _ => JM.f17 ih h) (fun _ => ?_)
    refine HS.ite (fun _ => JM.f18 ih h) (fun _ => ?_)
    intro s' e
    cases e
end JMS
