/-! the row of a def's names stays short -/
section JNS
variable {s : Sx}
def JN (s : Sx) : Prop := (s.1 14).length ≤ 8
theorem JN.B {k : Nat} {xs : List Int32} (h : JN s) (hk : k ≠ 14) : JN (sB s k xs) := by
  unfold JN
  rw [show (sB s k xs).1 14 = s.1 14 from if_neg (fun e => hk e.symm)]
  exact h
theorem JN.v {k : Nat} {x : Int32} (h : JN s) (_ : k < 6) : JN (sV s k x) := h
theorem JN.cd {c x : Int32} (h : JN s) : JN (f_4005 c x s).1 := (h.B (k := 7) (by decide)).B (k := 8) (by decide)
theorem JN.pt {c x : Int32} (h : JN s) : JN (f_4009 c x s) := h.B (k := 8) (by decide)
theorem JN.ep {c x : Int32} (h : JN s) : JN (f_4003 c x s) := h.B (k := 6) (by decide)
theorem JN.bp {x : Int32} (h : JN s) : JN (f_4002 x s).1 := (h.B (k := 5) (by decide)).B (k := 6) (by decide)
theorem JN.f4010 {x : Int32} (h : JN s) : JN (f_4010 x s).1 := (((h.B (k := 9) (by decide)).B (k := 10) (by decide)).B (k := 11) (by decide)).B (k := 12) (by decide)
theorem JN.f4011 {x y z w : Int32} (h : JN s) : JN (f_4011 x y z w s) := ((h.B (k := 10) (by decide)).B (k := 11) (by decide)).B (k := 12) (by decide)
theorem JN.ref {f t : Int32} (h : JN s) : JN (f_5005 f t s) := by
  unfold f_5005
  split
  · exact h
  · exact h
theorem JN.ex {x : Int32} (h : JN s) : JN (f_5006 x s) := by
  unfold f_5006
  split
  · exact h
  · exact h.ref
theorem JN.op (h : JN s) : JN (f_5007 s) := by
  unfold f_5007
  split
  · exact h
  · exact h.ref
theorem xadd_le8 {l : List Int32} {x : Int32} (h : l.length ≤ 8) : (xadd 8 l x).length ≤ 8 := by
  unfold xadd
  split
  · rw [List.length_append]
    have : [x].length = 1 := rfl
    omega
  · exact h
theorem JN.var {x : Nat} (h : JN s) (hx : x = 13 ∨ x = 14) : JN (f_5022 x s).1 := by
  have hJ : ∀ (s' : Sx) (v : Int32), JN s' → JN (f_5022_J67 x v s').1 := fun s' v h' => ((h'.B (k := 0) (by decide)).B (k := 1) (by decide)).v (k := 2) (by decide)
  unfold f_5022
  split
  · split
    · refine hJ _ _ ?_
      rcases hx with e | e
      · rw [e]; exact h.B (by decide)
      · rw [e]; exact xadd_le8 h
    · exact h.ref
  · exact hJ _ _ h
theorem JN.f16 (h : JN s) : JN (f_5016 s) := by
  unfold f_5016
  by_cases q : f_5003 s = 4
  · rw [if_pos q]
    split
    · exact h.var (by decide)
    · exact h.ref
  · rw [if_neg q]
    exact h.ref
theorem JN.J81 (h : JN s) : HS (JN) (f_5015_J81 s) := by
  unfold f_5015_J81
  exact HS.bS (HS.bS (HS.some (h.ex.v (by decide))))
theorem JN.L45 : ∀ (n : Nat) (l : Int32) (s : Sx), JN s → HS (JN) (f_5015_L45 n l s) := by
  intro n
  induction n with
  | zero => intro l s h s' e; cases e
  | succ n ih =>
    intro l s h
    rw [f_5015_L45]
    exact HS.ite (fun _ => h.J81) (fun _ => HS.ite (fun _ => HS.bS (HS.bS (ih _ _ (JN.f16 (h.v (by decide)))))) (fun _ => h.J81))
theorem JN.f15 (h : JN s) : HS (JN) (f_5015 s) := by
  unfold f_5015
  have h8 : JN (sB s 14 []) := Nat.zero_le _
  exact HS.bS (HS.ite (fun _ => HS.bS (HS.ite (fun _ => h8.op.J81) (fun _ => HS.bS (JN.L45 _ _ _ h8.op.f16)))) (fun _ => HS.bS (HS.some h8.ref)))
def KJn (rec : Nat → Int32 → Sx → Option Sx) : Prop := ∀ y a s, JN s → HS (JN) (rec y a s)
variable {rec : Nat → Int32 → Sx → Option Sx}
theorem KJn.go (hr : KJn rec) {y : Nat} {a : Int32} (h : JN s) (hy : y ≠ 5009 ∧ y ≠ 5010 ∧ y ≠ 5021) : HS (JN) (rec y a s) := hr y a s h
theorem JN.J39 (hr : KJn rec) {l1 l2 : Int32} (h : JN s) : HS (JN) (f_5008_J39 rec l1 l2 s) := by
  rw [j39]
  refine HS.ite (fun q => HS.bOv (hr 5009 0 s h) (fun s4 h4 => HS.some (h4.ep))) (fun _ => ?_)
  refine HS.ite (fun q => HS.bOv (hr.go h (by decide)) (fun s4 h4 => HS.some (h4.ep))) (fun _ => ?_)
  refine HS.ite (fun q => HS.bOv (hr.go h (by decide)) (fun s4 h4 => HS.some (h4.ep))) (fun _ => ?_)
  refine HS.ite (fun q => HS.bOv (hr.go (s := au_nx s) (h.v (by decide)) (by decide)) (fun s4 h4 => HS.some ((h4.cd (c := 6) (x := 0)).ex (x := 33) |>.ep))) (fun _ => ?_)
  refine HS.ite (fun q => HS.bOv (hr.go h (by decide)) (fun s4 h4 => HS.some (h4.ep))) (fun _ => ?_)
  refine HS.ite (fun q => HS.bOv (hr.go h (by decide)) (fun s4 h4 => HS.some (h4.ep))) (fun _ => ?_)
  refine HS.ite (fun q => HS.bOv (hr 5010 0 s h) (fun s4 h4 => HS.some (h4.ep))) (fun _ => ?_)
  exact HS.some (h.ref.ep)
theorem JN.f08 (hr : KJn rec) (h : JN s) : HS (JN) (f_5008 rec s) := by
  unfold f_5008
  have h14 : JN (f_4002 (s.2 2) s).1 := h.bp
  refine HS.bT (HS.ite (fun _ => JN.J39 hr h14) (fun _ => HS.ite (fun _ => JN.J39 hr h14) (fun _ => HS.bT (JN.J39 hr h14.cd))))
theorem JN.f09 (hr : KJn rec) (h : JN s) : HS (JN) (f_5009 rec s) := by
  unfold f_5009
  refine HS.ite (fun q => HS.bOv (hr 5021 0 s h) (fun s9 h9 => HS.bT (HS.bS (HS.some h9.cd.ex)))) (fun _ => ?_)
  exact HS.bT (HS.bS (HS.bOv (hr.go ((h.var (names_lt2 s)).ex) (by decide)) (fun s6 h6 => HS.bT (HS.bS (HS.some h6.cd.ex)))))
theorem JN.f10 (hr : KJn rec) (h : JN s) : HS (JN) (f_5010 rec s) := by
  unfold f_5010
  have h1 := (h.B (k := 0) (xs := xset (s.1 0) (s.2 2) 37) (by decide)).op
  exact HS.bS (HS.bS (HS.bOv (hr.go h1 (by decide)) (fun s3 h3 => HS.bS (HS.bS (HS.bOv (hr.go (JN.ex (JN.v h3 (by decide))) (by decide)) (fun s6 h6 => HS.bT (HS.bS (HS.some h6.cd.ex))))))))
theorem JN.f11 (hr : KJn rec) (h : JN s) : HS (JN) (f_5011 rec s) := by
  unfold f_5011
  refine HS.bS (HS.bOv (hr.go (JN.v h (by decide)) (by decide)) (fun s2 h2 => HS.bT (HS.bOv (hr.go h2.cd (by decide)) (fun s4 h4 => HS.ite (fun _ => ?_) (fun _ => HS.bS (HS.some h4.pt))))))
  exact HS.bS (HS.bT (HS.bS (HS.bOv (hr.go (JN.pt (JN.cd (JN.v h4 (by decide)))) (by decide)) (fun s13 h13 => HS.bS (HS.some h13.pt)))))
theorem JN.f12 (hr : KJn rec) (h : JN s) : HS (JN) (f_5012 rec s) := by
  unfold f_5012
  exact HS.bS (HS.bT (HS.bOv (hr.go (JN.cd (JN.v h (by decide))) (by decide)) (fun s3 h3 => HS.bT (HS.bOv (hr.go h3.cd (by decide)) (fun s5 h5 => HS.bT (HS.bS (HS.some h5.cd.pt)))))))
theorem JN.f13 (hr : KJn rec) (h : JN s) : HS (JN) (f_5013 rec s) := by
  unfold f_5013
  exact HS.ite (fun _ => HS.bS (HS.some h.ref)) (fun _ => HS.bS (HS.bOv (hr.go (JN.v h (by decide)) (by decide)) (fun s3 h3 => HS.bT (HS.bS (HS.some h3.cd.ex)))))
theorem JN.f14 (hr : KJn rec) (h : JN s) : HS (JN) (f_5014 rec s) := by
  unfold f_5014
  refine HS.ite (fun _ => HS.bS (HS.ite (fun q => HS.ite (fun _ => HS.bT (HS.bS (HS.bS (HS.bT (HS.bOv (Q := JN) ?_ (fun s13 h13 => HS.bS (HS.bS (HS.bOv (hr.go (JN.v h13.f4011 (by decide)) (by decide)) (fun s18 h18 => HS.bS (HS.bT (HS.bT (HS.bS (HS.bS (HS.some ?_)))))))))))))) (fun _ => HS.bS (HS.some (JN.ref (JN.v h (by decide)))))) (fun _ => HS.bS (HS.some (JN.ref (JN.v h (by decide))))))) (fun _ => HS.bS (HS.some h.ref))
  · have hk' : xg (s.1 0) ((sV s 2 (s.2 2 + 1)).2 2) = 4 := q
    have h9 : JN (f_4010 (xg ((sV s 2 (s.2 2 + 1)).1 1) ((sV s 2 (s.2 2 + 1)).2 2)) (sV s 2 (s.2 2 + 1))).1 := JN.f4010 (JN.v h (by decide))
    have h10 := h9.B (k := 0) (xs := xset ((f_4010 (xg ((sV s 2 (s.2 2 + 1)).1 1) ((sV s 2 (s.2 2 + 1)).2 2)) (sV s 2 (s.2 2 + 1))).1.1 0) ((sV s 2 (s.2 2 + 1)).2 2) 35) (by decide)
    exact JN.f15 (JN.cd (JN.v h10 (by decide)))
  · exact JN.B (JN.pt (JN.cd (JN.cd (JN.v h18 (by decide))))) (by decide)
theorem JN.f19 (hr : KJn rec) (h : JN s) : HS (JN) (f_5019 rec s) := by
  unfold f_5019
  refine HS.ite (fun _ => HS.bT (HS.bS (HS.some (JN.v h.cd (by decide))))) (fun _ => ?_)
  refine HS.ite (fun q => HS.ite (fun w => HS.bOv (hr 5021 0 s h) (fun s11 h11 => HS.some h11)) (fun _ => HS.bT (HS.bT (HS.some (JN.cd (h.var (names_lt2 s))))))) (fun _ => ?_)
  refine HS.ite (fun _ => HS.bT (HS.bS (HS.some (JN.v h.cd (by decide))))) (fun _ => ?_)
  refine HS.ite (fun q => HS.bS (HS.bOv (hr.go (h.B (k := 0) (xs := xset (s.1 0) (s.2 2) 36) (by decide)) (by decide)) (fun s15 h15 => HS.some h15))) (fun _ => ?_)
  refine HS.ite (fun _ => HS.bOv (hr.go h (by decide)) (fun s15 h15 => HS.some h15)) (fun _ => ?_)
  refine HS.ite (fun _ => HS.bOv (hr.go h (by decide)) (fun s15 h15 => HS.some h15)) (fun _ => ?_)
  refine HS.ite (fun _ => HS.bS (HS.bOv (hr.go h.op (by decide)) (fun s19 h19 => HS.bS (HS.bS (HS.some (JN.v h19.ex (by decide))))))) (fun _ => ?_)
  exact HS.bS (HS.some h.ref)
theorem JN.f20 (hr : KJn rec) (h : JN s) : HS (JN) (f_5020 rec s) := by
  unfold f_5020
  exact HS.bS (HS.bOv (hr.go h.op (by decide)) (fun s3 h3 => HS.bS (HS.bT (HS.some (JN.cd (JN.v h3 (by decide)))))))
theorem JN.J142 {l1 l2 : Int32} (h : JN s) : HS (JN) (f_5021_J142 rec l1 l2 s) := by
  unfold f_5021_J142
  exact HS.bS (HS.bS (HS.bS (HS.bT (HS.bS (HS.some (JN.B (JN.cd (JN.B (JN.v h.ex (by decide)) (by decide))) (by decide)))))))
theorem JN.L102 (hr : KJn rec) : ∀ (n : Nat) (l1 l2 l3 : Int32) (s : Sx), JN s → HS (JN) (f_5021_L102 rec n l1 l2 l3 s) := by
  intro n
  induction n with
  | zero => intro l1 l2 l3 s h s' e; cases e
  | succ n ih =>
    intro l1 l2 l3 s h
    rw [f_5021_L102]
    exact HS.ite (fun _ => h.J142) (fun _ => HS.ite (fun _ => HS.bS (HS.bOv (hr.go (JN.v h (by decide)) (by decide)) (fun s10 h10 => ih _ _ _ _ h10))) (fun _ => h.J142))
theorem JN.f21 (hr : KJn rec) (h : JN s) : HS (JN) (f_5021 rec s) := by
  unfold f_5021
  have h14 : JN (au_ca 17 0 (au_ca 16 0 (au_ca 15 (s.2 2) s))) := ((h.B (k := 15) (by decide)).B (k := 16) (by decide)).B (k := 17) (by decide)
  have h15 := h14.B (k := 0) (xs := xset ((au_ca 17 0 (au_ca 16 0 (au_ca 15 (s.2 2) s))).1 0) (s.2 2) 35) (by decide)
  have h16 := JN.v (k := 2) (x := s.2 2 + 1) h15 (by decide)
  have h18 := (h16.B (k := 0) (xs := xset ((sV (sB (au_ca 17 0 (au_ca 16 0 (au_ca 15 (s.2 2) s))) 0 (xset ((au_ca 17 0 (au_ca 16 0 (au_ca 15 (s.2 2) s))).1 0) (s.2 2) 35)) 2 (s.2 2 + 1)).1 0) (s.2 2 + 1) 38) (by decide)).op
  exact HS.bS (HS.bS (HS.bS (HS.bS (HS.bS (HS.bS (HS.bS (HS.ite (fun _ => JN.J142 h18) (fun _ => HS.bOv (hr.go h18 (by decide)) (fun s21 h21 => JN.L102 hr _ _ _ _ _ h21)))))))))
theorem JN.J63 {l1 l2 l3 : Int32} (h : JN s) : HS (JN) (f_5017_J63 rec l1 l2 l3 s) := by
  unfold f_5017_J63
  exact HS.bS (HS.bS (HS.bS (HS.bS (HS.some (JN.v (JN.ex (JN.B (JN.B h (by decide)) (by decide))) (by decide))))))
theorem JN.L30 (hr : KJn rec) : ∀ (n : Nat) (l1 l2 l3 : Int32) (s : Sx), JN s → HS (JN) (f_5017_L30 rec n l1 l2 l3 s) := by
  intro n
  induction n with
  | zero => intro l1 l2 l3 s h s' e; cases e
  | succ n ih =>
    intro l1 l2 l3 s h
    rw [f_5017_L30]
    exact HS.ite (fun _ => h.J63) (fun _ => HS.ite (fun _ => h.J63) (fun _ => HS.ite (fun _ => h.J63) (fun _ => HS.bOv (hr.go h (by decide)) (fun s10 h10 => ih _ _ _ _ h10))))
theorem JN.f17 (hr : KJn rec) {x : Int32} (h : JN s) : HS (JN) (f_5017 rec x s) := by
  unfold f_5017
  exact HS.ite (fun _ => HS.bS (JN.L30 hr _ _ _ _ _ h.op)) (fun _ => HS.bS (HS.some h.ref))
theorem JN.L20 (hr : KJn rec) : ∀ (n : Nat) (l1 l2 : Int32) (s : Sx), JN s → HS (JN) (f_5018_L20 rec n l1 l2 s) := by
  intro n
  induction n with
  | zero => intro l1 l2 s h s' e; cases e
  | succ n ih =>
    intro l1 l2 s h
    have hJ91 : ∀ {a b c d k : Int32} {s : Sx}, JN s → HS (JN) (f_5018_J91 rec (f_5018_L20 rec n) a b c d k s) := fun h => by
      unfold f_5018_J91
      exact HS.bT (HS.bOv (hr.go h.cd (by decide)) (fun s2 h2 => HS.bT (HS.bS (HS.bS (ih _ _ _ (JN.B (JN.pt (JN.cd h2)) (by decide)))))))
    have hJ73 : ∀ {a b c d : Int32} {s : Sx}, JN s → HS (JN) (f_5018_J73 rec (f_5018_L20 rec n) a b c d s) := fun h => by
      unfold f_5018_J73
      exact HS.ite (fun _ => hJ91 h) (fun _ => hJ91 h)
    rw [f_5018_L20]
    exact HS.ite (fun _ => HS.some h) (fun _ => HS.ite (fun _ => HS.bS (HS.ite (fun _ => hJ73 (JN.v h (by decide))) (fun _ => HS.ite (fun _ => hJ73 (JN.v h (by decide))) (fun _ => HS.bOv (hr.go (JN.v h (by decide)) (by decide)) (fun s16 h16 => HS.bT (ih _ _ _ h16.cd)))))) (fun _ => HS.some h))
theorem JN.f18 (hr : KJn rec) {x : Int32} (h : JN s) : HS (JN) (f_5018 rec x s) := by
  unfold f_5018
  exact HS.ite (fun _ => HS.bOv (hr.go h (by decide)) (fun s19 h19 => JN.L20 hr _ _ _ _ h19)) (fun _ => HS.bOv (hr.go h (by decide)) (fun s20 h20 => HS.some h20))
theorem JN.rd (n : Nat) : KJn (f_rd n) := by
  induction n with
  | zero => intro y a s h s' e; cases e
  | succ n ih =>
    intro y a s h
    rw [f_rd]
    refine HS.ite (fun _ => JN.f08 ih h) (fun _ => ?_)
    refine HS.ite (fun _ => JN.f09 ih h) (fun _ => ?_)
    refine HS.ite (fun _ => JN.f10 ih h) (fun _ => ?_)
    refine HS.ite (fun _ => JN.f11 ih h) (fun _ => ?_)
    refine HS.ite (fun _ => JN.f12 ih h) (fun _ => ?_)
    refine HS.ite (fun _ => JN.f13 ih h) (fun _ => ?_)
    refine HS.ite (fun _ => JN.f14 ih h) (fun _ => ?_)
    refine HS.ite (fun _ => JN.f19 ih h) (fun _ => ?_)
    refine HS.ite (fun _ => JN.f20 ih h) (fun _ => ?_)
    refine HS.ite (fun _ => JN.f21 ih h) (fun _ => ?_)
    refine HS.ite (fun _ => JN.f17 ih h) (fun _ => ?_)
    refine HS.ite (fun _ => JN.f18 ih h) (fun _ => ?_)
    intro s' e
    cases e
theorem JN.L2 : ∀ (n : Nat) (l : Int32) (s : Sx), JN s → HS JN (f_5023_L2 n l s) := by
  intro n
  induction n with
  | zero => intro l s h s' e; cases e
  | succ n ih =>
    intro l s h
    rw [f_5023_L2]
    exact HS.ite (fun _ => HS.some h) (fun _ => HS.ite (fun _ => HS.ite (fun _ => HS.bS (ih _ _ h.ref)) (fun _ => HS.ite (fun _ => HS.bS (HS.bS (ih _ _ (JN.pt (h.B (by decide)))))) (fun _ => HS.bS (ih _ _ h.ref)))) (fun _ => HS.some h))
theorem JN.f02 (h : JN s) : JN (f_5002 s) := by
  unfold f_5002
  split
  · split
    · exact h
    · split
      · exact h
      · exact h
  · exact h
theorem JN.J100 {l : Int32} (h : JN s) : HS JN (f_5001_J100 l s) := by
  unfold f_5001_J100
  exact HS.bT (HS.bS (HS.bOv (JN.L2 _ _ _ h.cd.f02) (fun s h => HS.some h)))
theorem JN.L76 : ∀ (n : Nat) (l : Int32) (s : Sx), JN s → HS JN (f_5001_L76 n l s) := by
  intro n
  induction n with
  | zero => intro l s h s' e; cases e
  | succ n ih =>
    intro l s h
    rw [f_5001_L76]
    exact HS.ite (fun _ => h.J100) (fun _ => HS.ite (fun _ => h.J100) (fun _ => HS.bOv (JN.rd 900 _ _ _ h) (fun s h => ih _ _ h)))
theorem JN.f01 (h : JN s) : HS JN (f_5001 s) := by
  rw [rdA_e]
  refine JN.L76 _ _ _ ?_
  unfold JN
  rw [rdA_r s (j := 14) (by omega)]
  exact h
end JNS
