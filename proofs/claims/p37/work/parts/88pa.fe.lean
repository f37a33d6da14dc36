/-! a fault's place is told by faults alone -/
section FE
variable {m0 m : Mx}
def E10 (m0 m : Mx) : Prop := m 0 10 = m0 0 10
theorem E10.r : E10 m m := rfl
theorem E10.mp {f : Nat} {x : Int32} (h : E10 m0 m) (hf : f ≠ 10) : E10 m0 (mp m f x) := by
  unfold E10
  rw [mp_n (fun e => hf e.symm)]
  exact h
theorem E10.ms {j : Nat} {i x : Int32} (h : E10 m0 m) (hj : j ≠ 0) : E10 m0 (ms m j i x) := by
  unfold E10
  rw [ms_j (fun e => hj e.symm)]
  exact h
theorem fe_12021 {x0 : Int32} {x1 : Int32} {s : Mx}  (h : E10 m0 s) : HP (E10 m0) (f_12021 x0 x1 s) := by
  unfold f_12021
  exact HP.gd (HP.bS (HP.gd (HP.bS (HP.bS (HP.some ((((h).ms (by decide)).ms (by decide)).mp (by decide)))))))
theorem fe_12022 {x0 : Int32} {x1 : Int32} {s : Mx}  (h : E10 m0 s) : HP (E10 m0) (f_12022 x0 x1 s) := by
  unfold f_12022
  exact HP.gd (HP.bS (HP.bS (HP.bS (HP.some ((((h).ms (by decide)).mp (by decide)).mp (by decide))))))
theorem fe_12023  {s : Mx}  (h : E10 m0 s) : HV (E10 m0) (f_12023  s) := by
  unfold f_12023
  exact HV.bS (HV.gd (HV.bS (HV.bS (HV.some ((((h).mp (by decide)).ms (by decide)).mp (by decide))))))
theorem fe_12024 {x0 : Int32} {x1 : Int32} {s : Mx}  (h : E10 m0 s) : HV (E10 m0) (f_12024 x0 x1 s) := by
  unfold f_12024
  exact HV.gd (HV.bS (HV.gd (HV.bS (HV.bS (HV.some ((((h).ms (by decide)).ms (by decide)).mp (by decide)))))))
theorem fe_12029  {s : Mx}  (h : E10 m0 s) : HP (E10 m0) (f_12029  s) := by
  unfold f_12029
  exact HP.bP (fun _ => HP.ite (HP.gd (HP.ite (HP.some (h)) (HP.gd (HP.gd (HP.bS (HP.gd (HP.gd (HP.bS (HP.gd (HP.gd (HP.bS (HP.gd (HP.some ((((h).ms (by decide)).ms (by decide)).ms (by decide))))))))))))))) (HP.some (h)))
theorem fe_12032_L (n : Nat) : ∀ (l : Int32) (m : Mx), E10 m0 m → HV (E10 m0) (f_12032_L0 n l m) := by
  induction n with
  | zero => intro l m h m' e; cases e
  | succ n ih =>
    intro l m h
    have hJ : ∀ m, E10 m0 m → HV (E10 m0) (f_12032_J66 (f_12032_L0 n) l m) := by
      intro m h
      unfold f_12032_J66
      refine HV.bO (Q := E10 m0) (fe_12021 h) (fun m1 _ h1 => ?_)
      exact HV.gd (HV.gd (HV.bS (ih l _ (h1.ms (by decide)))))
    rw [f_12032_L0]
    have h35 : E10 m0 (mp m 35 (mf m 35 - 1)) := h.mp (by decide)
    refine HV.bP fun _ => HV.ite (HV.some h) (HV.bP fun _ => HV.ite (HV.some h) (HV.bP fun _ => HV.ite (HV.some h) (HV.bS (HV.gd (HV.ite (hJ _ h35) (HV.gd (HV.ite (hJ _ h35) (HV.gd ?_))))))))
    exact HV.bO (Q := E10 m0) (fe_12021 h35) (fun m1 _ h1 => ih l m1 h1)
theorem fe_12032 {x : Int32} (h : E10 m0 m) : HV (E10 m0) (f_12032 x m) := fe_12032_L 1000 x m h
theorem fe_12034_L (n : Nat) : ∀ (m : Mx), E10 m0 m → HP (E10 m0) (f_12034_L0 n m) := by
  induction n with
  | zero => intro m h m' r e; cases e
  | succ n ih =>
    intro m h
    rw [f_12034_L0]
    refine HP.bP fun _ => HP.ite (HP.bS (HP.bS (HP.gd ?_))) (HP.bS (HP.bP fun _ => HP.ite (HP.bS (HP.bS (HP.bS (HP.some ?_)))) (HP.bP fun _ => HP.ite (HP.bS ?_) (HP.some ?_))))
    · exact HP.bO (Q := E10 m0) (fe_12021 ((h.mp (by decide)).mp (by decide))) (fun m1 _ h1 => ih m1 h1)
    · exact (((h.mp (by decide)).mp (by decide)).mp (by decide)).mp (by decide)
    · exact HP.bO (Q := E10 m0) (fe_12021 ((h.mp (by decide)).mp (by decide))) (fun m1 _ h1 => HP.bS (HP.some (h1.mp (by decide))))
    · exact h.mp (by decide)
theorem fe_12034 (h : E10 m0 m) : HP (E10 m0) (f_12034 m) := fe_12034_L 1000 m h
theorem fe_12035  {s : Mx}  (h : E10 m0 s) : HP (E10 m0) (f_12035  s) := by
  unfold f_12035
  exact HP.gd (HP.bS (HP.gd (HP.bS (HP.gd (HP.bS (HP.bOv (Q := E10 m0) (fe_12024 ((((h).ms (by decide)).ms (by decide)).ms (by decide))) (fun _ h_s4 => HP.bS (HP.bO (Q := E10 m0) (fe_12022 ((h_s4).mp (by decide))) (fun _ _ h_s6 => HP.some (h_s6))))))))))
theorem fe_12036  {s : Mx}  (h : E10 m0 s) : HP (E10 m0) (f_12036  s) := by
  unfold f_12036
  exact HP.bO (Q := E10 m0) (fe_12022 (h)) (fun _ _ h_s1 => HP.bS (HP.bS (HP.gd (HP.bO (Q := E10 m0) (fe_12021 (((h_s1).mp (by decide)).mp (by decide))) (fun _ _ h_s4 => HP.gd (HP.bS (HP.bO (Q := E10 m0) (fe_12034 ((h_s4).ms (by decide))) (fun _ _ h_s6 => HP.some (h_s6)))))))))
theorem fe_12038_J121 {l1 : Int32} {l2 : Int32} {s : Mx}  (h : E10 m0 s) : HP (E10 m0) (f_12038_J121 l1 l2 s) := by
  unfold f_12038_J121
  exact HP.gd (HP.gd (HP.bS (HP.some ((h).ms (by decide)))))
theorem fe_12038  {s : Mx}  (h : E10 m0 s) : HP (E10 m0) (f_12038  s) := by
  unfold f_12038
  exact HP.bO (Q := E10 m0) (fe_12022 (h)) (fun _ _ h_s2 => HP.bS (HP.bS (HP.gd (HP.gd (HP.bS (HP.gd (HP.ite (HP.bS (HP.some (((((h_s2).mp (by decide)).mp (by decide)).ms (by decide)).mp (by decide)))) (HP.ite (HP.gd (HP.bO (Q := E10 m0) (fe_12021 ((((h_s2).mp (by decide)).mp (by decide)).ms (by decide))) (fun _ _ h_s12 => fe_12038_J121 (h_s12)))) (HP.ite (HP.bO (Q := E10 m0) (fe_12021 ((((h_s2).mp (by decide)).mp (by decide)).ms (by decide))) (fun _ _ h_s9 => HP.bO (Q := E10 m0) (fe_12021 (h_s9)) (fun _ _ h_s10 => HP.bS (fe_12038_J121 ((h_s10).mp (by decide)))))) (fe_12038_J121 ((((h_s2).mp (by decide)).mp (by decide)).ms (by decide))))))))))))
theorem fe_12040 {x0 : Int32} {x1 : Int32} {s : Mx}  (h : E10 m0 s) : HP (E10 m0) (f_12040 x0 x1 s) := by
  unfold f_12040
  exact HP.bOv (Q := E10 m0) (fe_12023 (h)) (fun _ h_s1 => HP.bO (Q := E10 m0) (fe_12021 (h_s1)) (fun _ _ h_s2 => HP.gd (HP.bS (HP.bOv (Q := E10 m0) (fe_12024 ((h_s2).ms (by decide))) (fun _ h_s4 => HP.some (h_s4))))))
theorem fe_12046 {x0 : Int32} {s : Mx}  (h : E10 m0 s) : HP (E10 m0) (f_12046 x0 s) := by
  unfold f_12046
  exact HP.bOv (Q := E10 m0) (fe_12032 (h)) (fun _ h_s1 => HP.ite (HP.gd (HP.gd (HP.gd (HP.bS (HP.bO (Q := E10 m0) (fe_12036 ((h_s1).ms (by decide))) (fun _ _ h_s10 => HP.some (h_s10))))))) (HP.bS (HP.bS (HP.bO (Q := E10 m0) (fe_12022 (((h_s1).mp (by decide)).mp (by decide))) (fun _ _ h_s5 => HP.ite (HP.some (h_s5)) (HP.bO (Q := E10 m0) (fe_12034 (h_s5)) (fun _ _ h_s7 => HP.ite (HP.some (h_s7)) (HP.some (h_s7)))))))))
theorem fe_12047_J60 {l1 : Int32} {k0 : Int32} {s : Mx}  (h : E10 m0 s) : HP (E10 m0) (f_12047_J60 l1 k0 s) := by
  unfold f_12047_J60
  exact HP.gd (HP.bO (Q := E10 m0) (fe_12021 (h)) (fun _ _ h_s1 => HP.gd (HP.bS (HP.bO (Q := E10 m0) (fe_12022 ((h_s1).ms (by decide))) (fun _ _ h_s3 => HP.some (h_s3))))))
theorem fe_12047  {s : Mx}  (h : E10 m0 s) : HP (E10 m0) (f_12047  s) := by
  unfold f_12047
  exact HP.bOv (Q := E10 m0) (fe_12032 (h)) (fun _ h_s4 => HP.bS (HP.gd (HP.ite (fe_12047_J60 ((h_s4).mp (by decide))) (HP.ite (fe_12047_J60 ((h_s4).mp (by decide))) (HP.ite (fe_12047_J60 ((h_s4).mp (by decide))) (fe_12047_J60 ((h_s4).mp (by decide))))))))
theorem fe_12015_J92 {l1 : Int64} {k0 : Int32} {s : Mx}  (h : E10 m0 s) : HP (E10 m0) (f_12015_J92 l1 k0 s) := by
  unfold f_12015_J92
  exact HP.bS (HP.ite (HP.some ((h).mp (by decide))) (HP.some ((h).mp (by decide))))
theorem fe_12015_J77 {l1 : Int64} {s : Mx}  (h : E10 m0 s) : HP (E10 m0) (f_12015_J77 l1 s) := by
  unfold f_12015_J77
  exact HP.ite (fe_12015_J92 (h)) (fe_12015_J92 (h))
theorem fe_12015_J63 {k2 : Int64 → Mx → Option (Mx × Int32)} {l1 : Int64} {k0 : Int64} {s : Mx} (hk2 : ∀ x0 m, E10 m0 m → HP (E10 m0) (k2 x0 m)) (h : E10 m0 s) : HP (E10 m0) (f_12015_J63 k2 l1 k0 s) := by
  unfold f_12015_J63
  exact HP.bS (hk2 _ _ ((h).mp (by decide)))
theorem fe_12015_L2   : ∀ (n : Nat) (l1 : Int64) (s : Mx), E10 m0 s → HP (E10 m0) (f_12015_L2  n l1 s) := by
  intro n
  induction n with
  | zero => intro l1 s h m' r e; cases e
  | succ n ih =>
    intro l1 s h
    rw [f_12015_L2]
    exact HP.ite (fe_12015_J77 (h)) (HP.gd (HP.ite (fe_12015_J77 (h)) (HP.gd (HP.ite (fe_12015_J63 ih (h)) (fe_12015_J63 ih (h))))))
theorem fe_12015  {s : Mx}  (h : E10 m0 s) : HP (E10 m0) (f_12015  s) := by
  unfold f_12015
  exact fe_12015_L2   _ _ _ (h)
theorem fe_12016_J83 {l1 : Int64} {s : Mx}  (h : E10 m0 s) : HP (E10 m0) (f_12016_J83 l1 s) := by
  unfold f_12016_J83
  exact HP.ite (HP.some (h)) (HP.ite (HP.some (h)) (HP.ite (HP.some (h)) (HP.ite (HP.some (h)) (HP.ite (HP.some (h)) (HP.ite (HP.some (h)) (HP.ite (HP.some (h)) (HP.some (h))))))))
theorem fe_12016_J68 {k2 : Int64 → Mx → Option (Mx × Int32)} {l1 : Int64} {l3 : Int32} {k0 : Int64} {k1 : Int64} {s : Mx} (hk2 : ∀ x0 m, E10 m0 m → HP (E10 m0) (k2 x0 m)) (h : E10 m0 s) : HP (E10 m0) (f_12016_J68 k2 l1 l3 k0 k1 s) := by
  unfold f_12016_J68
  exact HP.bS (hk2 _ _ ((h).mp (by decide)))
theorem fe_12016_L2   : ∀ (n : Nat) (l1 : Int64) (s : Mx), E10 m0 s → HP (E10 m0) (f_12016_L2  n l1 s) := by
  intro n
  induction n with
  | zero => intro l1 s h m' r e; cases e
  | succ n ih =>
    intro l1 s h
    rw [f_12016_L2]
    exact HP.ite (fe_12016_J83 (h)) (HP.gd (HP.ite (fe_12016_J83 (h)) (HP.ite (fe_12016_J68 ih (h)) (HP.gd (fe_12016_J68 ih (h))))))
theorem fe_12016  {s : Mx}  (h : E10 m0 s) : HP (E10 m0) (f_12016  s) := by
  unfold f_12016
  exact fe_12016_L2   _ _ _ (h)
theorem fe_12017_J46 {l1 : Int32} {l2 : Int32} {l3 : Int32} {l4 : Int32} {k0 : Int32} {k1 : Int32} {s : Mx}  (h : E10 m0 s) : HP (E10 m0) (f_12017_J46 l1 l2 l3 l4 k0 k1 s) := by
  unfold f_12017_J46
  exact HP.bS (HP.ite (HP.some ((h).mp (by decide))) (HP.some ((h).mp (by decide))))
theorem fe_12017_J29 {l1 : Int32} {l2 : Int32} {l3 : Int32} {k0 : Int32} {s : Mx}  (h : E10 m0 s) : HP (E10 m0) (f_12017_J29 l1 l2 l3 k0 s) := by
  unfold f_12017_J29
  exact HP.ite (fe_12017_J46 (h)) (fe_12017_J46 (h))
theorem fe_12017_J28 {l1 : Int32} {l2 : Int32} {l3 : Int32} {s : Mx}  (h : E10 m0 s) : HP (E10 m0) (f_12017_J28 l1 l2 l3 s) := by
  unfold f_12017_J28
  exact fe_12017_J29 (h)
theorem fe_12017 {x0 : Int32} {x1 : Int32} {x2 : Int32} {s : Mx}  (h : E10 m0 s) : HP (E10 m0) (f_12017 x0 x1 x2 s) := by
  unfold f_12017
  exact HP.ite (fe_12017_J28 (h)) (HP.gd (HP.ite (fe_12017_J29 (h)) (fe_12017_J28 (h))))
theorem fe_12018 {x0 : Int32} {s : Mx}  (h : E10 m0 s) : HP (E10 m0) (f_12018 x0 s) := by
  unfold f_12018
  exact HP.ite (HP.bO (Q := E10 m0) (fe_12017 (h)) (fun _ _ h_s2 => HP.some (h_s2))) (HP.ite (HP.some (h)) (HP.ite (HP.some (h)) (HP.ite (HP.bO (Q := E10 m0) (fe_12017 (h)) (fun _ _ h_s3 => HP.some (h_s3))) (HP.ite (HP.some (h)) (HP.ite (HP.some (h)) (HP.ite (HP.some (h)) (HP.ite (HP.some (h)) (HP.ite (HP.some (h)) (HP.ite (HP.some (h)) (HP.ite (HP.some (h)) (HP.ite (HP.some (h)) (HP.ite (HP.bO (Q := E10 m0) (fe_12017 (h)) (fun _ _ h_s4 => HP.some (h_s4))) (HP.ite (HP.bO (Q := E10 m0) (fe_12017 (h)) (fun _ _ h_s5 => HP.some (h_s5))) (HP.ite (HP.bO (Q := E10 m0) (fe_12017 (h)) (fun _ _ h_s6 => HP.some (h_s6))) (HP.ite (HP.some (h)) (HP.ite (HP.bO (Q := E10 m0) (fe_12017 (h)) (fun _ _ h_s7 => HP.some (h_s7))) (HP.ite (HP.some (h)) (HP.some (h)))))))))))))))))))
theorem fe_12019  {s : Mx}  (h : E10 m0 s) : HV (E10 m0) (f_12019  s) := by
  unfold f_12019
  exact HV.bP (fun _ => HV.bS (HV.bS (HV.ite (HV.bS (HV.some ((((h).mp (by decide)).mp (by decide)).mp (by decide)))) (HV.gd (HV.ite (HV.gd (HV.ite (HV.bS (HV.gd (HV.bO (Q := E10 m0) (fe_12018 ((((h).mp (by decide)).mp (by decide)).mp (by decide))) (fun _ _ h_s10 => HV.bS (HV.some ((h_s10).mp (by decide))))))) (HV.bO (Q := E10 m0) (fe_12016 (((h).mp (by decide)).mp (by decide))) (fun _ _ h_s12 => HV.bS (HV.some ((h_s12).mp (by decide))))))) (HV.bO (Q := E10 m0) (fe_12015 (((h).mp (by decide)).mp (by decide))) (fun _ _ h_s14 => HV.bS (HV.some ((h_s14).mp (by decide))))))))))
/-- what goes on tells no fault -/
def HQ (m0 : Mx) (x : Option (Mx × Int32)) : Prop := ∀ m r, x = some (m, r) → r ≠ 0 → E10 m0 m
theorem HQ.gd {c : Prop} [Decidable c] {x : Option (Mx × Int32)} (h : HQ m0 x) : HQ m0 (gd c x) := fun m r e => h m r (gd_v e)
theorem HQ.ite {c : Prop} [Decidable c] {x y : Option (Mx × Int32)} (h : c → HQ m0 x) (h' : ¬ c → HQ m0 y) : HQ m0 (if c then x else y) := by
  by_cases q : c
  · rw [if_pos q]; exact h q
  · rw [if_neg q]; exact h' q
theorem HQ.bP {α : Type} {x : Option α} {k : α → Option (Mx × Int32)} (h : ∀ a, HQ m0 (k a)) : HQ m0 (bP x k) := by
  cases x with
  | none => intro m r e; cases e
  | some a => exact h a
theorem HQ.bOu {x : Option (Mx × Int32)} {k : Mx → Int32 → Option (Mx × Int32)} (h : HP (E10 m0) x) (h' : ∀ m r, E10 m0 m → HQ m0 (k m r)) : HQ m0 (bO x k) := by
  cases x with
  | none => intro m r e; cases e
  | some a => exact h' a.1 a.2 (h a.1 a.2 rfl)
theorem HQ.bO {x : Option (Mx × Int32)} {k : Mx → Int32 → Option (Mx × Int32)} (h : HQ m0 x) (h' : ∀ m r, (r ≠ 0 → E10 m0 m) → HQ m0 (k m r)) : HQ m0 (bO x k) := by
  cases x with
  | none => intro m r e; cases e
  | some a => exact h' a.1 a.2 (h a.1 a.2 rfl)
theorem HQ.bOv {x : Option Mx} {k : Mx → Option (Mx × Int32)} (h : HV (E10 m0) x) (h' : ∀ m, E10 m0 m → HQ m0 (k m)) : HQ m0 (bOv x k) := by
  cases x with
  | none => intro m r e; cases e
  | some a => exact h' a (h a rfl)
theorem HQ.bS {x : Mx} {k : Mx → Option (Mx × Int32)} (h : HQ m0 (k x)) : HQ m0 (bS x k) := h
theorem HQ.bT {x : Mx × Int32} {k : Mx → Int32 → Option (Mx × Int32)} (h : HQ m0 (k x.1 x.2)) : HQ m0 (bT x k) := h
theorem HQ.c {m : Mx} {r : Int32} (h : r ≠ 0 → E10 m0 m) : HQ m0 (some (m, r)) := fun m' r' e hr => by cases e; exact h hr
theorem HQ.z {m : Mx} : HQ m0 (some (m, 0)) := fun m' r' e hr => by cases e; exact absurd rfl hr
theorem HQ.some {m : Mx} {r : Int32} (h : E10 m0 m) : HQ m0 (some (m, r)) := fun m' r' e _ => by cases e; exact h
theorem HQ.u {x : Option (Mx × Int32)} (h : HP (E10 m0) x) : HQ m0 x := fun m r e _ => h m r e
theorem fc_12026 (h : E10 m0 m) : (f_12026 m).2 ≠ 0 → E10 m0 (f_12026 m).1 := by
  unfold f_12026
  split
  · intro q; exact absurd rfl q
  · intro _; exact h.mp (by decide)
theorem fc_12037 {x0 : Int32} {x1 : Int32} {x2 : Int32} {x3 : Int32} {s : Mx} (h : E10 m0 s) : HQ m0 (f_12037 x0 x1 x2 x3 s) := by
  unfold f_12037
  exact HQ.bT (HQ.ite (fun _ => HQ.z) (fun hqr1 => HQ.gd (HQ.bS (HQ.gd (HQ.bS (HQ.gd (HQ.bS (HQ.gd (HQ.bS (HQ.bS (HQ.bOu (fe_12022 (((((((fc_12026 (h) hqr1)).ms (by decide)).ms (by decide)).ms (by decide)).ms (by decide)).mp (by decide))) (fun _ _ h_s8 => HQ.some (h_s8)))))))))))))
theorem fc_12041  {s : Mx} (h : E10 m0 s) : HQ m0 (f_12041  s) := by
  unfold f_12041
  exact HQ.bP (fun _ => HQ.ite (fun _ => HQ.bOu (fe_12029 (h)) (fun _ _ h_s3 => HQ.ite (fun _ => HQ.bT HQ.z) (fun _ => HQ.bOu (fe_12040 (h_s3)) (fun _ _ h_s5 => HQ.bOu (fe_12022 (h_s5)) (fun _ _ h_s6 => HQ.some (h_s6)))))) (fun _ => HQ.bOu (fe_12040 (h)) (fun _ _ h_s8 => HQ.bOu (fe_12035 (h_s8)) (fun _ _ h_s9 => HQ.some (h_s9)))))
theorem fc_12042  {s : Mx} (h : E10 m0 s) : HQ m0 (f_12042  s) := by
  unfold f_12042
  exact HQ.ite (fun _ => HQ.ite (fun _ => HQ.bOu (fe_12021 (h)) (fun _ _ h_s5 => HQ.ite (fun _ => HQ.z) (fun _ => HQ.some (h_s5)))) (fun _ => HQ.bT HQ.z)) (fun _ => HQ.ite (fun _ => HQ.bT HQ.z) (fun _ => HQ.ite (fun _ => HQ.bO (fc_12041 (h)) (fun _ _ hcr8 => HQ.c hcr8)) (fun _ => HQ.ite (fun _ => HQ.bT HQ.z) (fun _ => HQ.ite (fun _ => HQ.bOu (fe_12040 (h)) (fun _ _ h_s10 => HQ.ite (fun _ => HQ.z) (fun _ => HQ.bOu (fe_12022 (h_s10)) (fun _ _ h_s12 => HQ.ite (fun _ => HQ.z) (fun _ => HQ.some (h_s12)))))) (fun _ => HQ.ite (fun _ => HQ.bT HQ.z) (fun _ => HQ.ite (fun _ => HQ.bOu (fe_12040 (h)) (fun _ _ h_s15 => HQ.ite (fun _ => HQ.z) (fun _ => HQ.bOu (fe_12022 (h_s15)) (fun _ _ h_s17 => HQ.ite (fun _ => HQ.z) (fun _ => HQ.some (h_s17)))))) (fun _ => HQ.ite (fun _ => HQ.bOu (fe_12040 (h)) (fun _ _ h_s19 => HQ.ite (fun _ => HQ.z) (fun _ => HQ.bOu (fe_12022 (h_s19)) (fun _ _ h_s21 => HQ.ite (fun _ => HQ.z) (fun _ => HQ.some (h_s21)))))) (fun _ => HQ.ite (fun _ => HQ.bT HQ.z) (fun _ => HQ.ite (fun _ => HQ.ite (fun _ => HQ.bOv (fe_12023 (h)) (fun _ h_s25 => HQ.bOu (fe_12022 (h_s25)) (fun _ _ h_s26 => HQ.some (h_s26)))) (fun _ => HQ.bT HQ.z)) (fun _ => HQ.ite (fun _ => HQ.ite (fun _ => HQ.bT HQ.z) (fun _ => HQ.bOu (fe_12040 (h)) (fun _ _ h_s29 => HQ.ite (fun _ => HQ.z) (fun _ => HQ.bOu (fe_12022 (h_s29)) (fun _ _ h_s31 => HQ.ite (fun _ => HQ.z) (fun _ => HQ.some (h_s31))))))) (fun _ => HQ.ite (fun _ => HQ.bT HQ.z) (fun _ => HQ.ite (fun _ => HQ.bT HQ.z) (fun _ => HQ.ite (fun _ => HQ.bT HQ.z) (fun _ => HQ.ite (fun _ => HQ.bT HQ.z) (fun _ => HQ.ite (fun _ => HQ.bT HQ.z) (fun _ => HQ.ite (fun _ => HQ.bT HQ.z) (fun _ => HQ.ite (fun _ => HQ.bT HQ.z) (fun _ => HQ.ite (fun _ => HQ.bT HQ.z) (fun _ => HQ.ite (fun _ => HQ.bT HQ.z) (fun _ => HQ.ite (fun _ => HQ.bT HQ.z) (fun _ => HQ.ite (fun _ => HQ.bT HQ.z) (fun _ => HQ.ite (fun _ => HQ.bT HQ.z) (fun _ => HQ.ite (fun _ => HQ.bT HQ.z) (fun _ => HQ.ite (fun _ => HQ.bT HQ.z) (fun _ => HQ.ite (fun _ => HQ.bT HQ.z) (fun _ => HQ.ite (fun _ => HQ.bT HQ.z) (fun _ => HQ.ite (fun _ => HQ.bT HQ.z) (fun _ => HQ.ite (fun _ => HQ.bT HQ.z) (fun _ => HQ.ite (fun _ => HQ.ite (fun _ => HQ.bT HQ.z) (fun _ => HQ.bOu (fe_12038 (h)) (fun _ _ h_s54 => HQ.some (h_s54)))) (fun _ => HQ.ite (fun _ => HQ.bT HQ.z) (fun _ => HQ.ite (fun _ => HQ.bT HQ.z) (fun _ => HQ.ite (fun _ => HQ.bT (HQ.ite (fun _ => HQ.z) (fun hqr57 => HQ.bOu (fe_12040 ((fc_12026 (h) hqr57))) (fun _ _ h_s59 => HQ.ite (fun _ => HQ.z) (fun _ => HQ.bOu (fe_12022 (h_s59)) (fun _ _ h_s61 => HQ.ite (fun _ => HQ.z) (fun _ => HQ.some (h_s61)))))))) (fun _ => HQ.bT HQ.z)))))))))))))))))))))))))))))))))
theorem fc_12039  {s : Mx} (h : E10 m0 s) : HQ m0 (f_12039  s) := by
  unfold f_12039
  exact HQ.ite (fun _ => HQ.bOu (fe_12021 (h)) (fun _ _ h_s5 => HQ.gd (HQ.gd (HQ.bS (HQ.gd (HQ.bS (HQ.gd (HQ.bS (HQ.bOu (fe_12022 ((((h_s5).ms (by decide)).ms (by decide)).ms (by decide))) (fun _ _ h_s9 => HQ.some (h_s9))))))))))) (fun _ => HQ.gd (HQ.gd (HQ.bS (HQ.bS (HQ.bO (fc_12042 (((h).ms (by decide)).mp (by decide))) (fun _ _ hcr4 => HQ.c hcr4))))))
theorem fc_12044  {s : Mx} (h : E10 m0 s) : HQ m0 (f_12044  s) := by
  unfold f_12044
  exact HQ.bOu (fe_12029 (h)) (fun _ _ h_s1 => HQ.ite (fun _ => HQ.bT HQ.z) (fun _ => HQ.bOu (fe_12021 (h_s1)) (fun _ _ h_s3 => HQ.bOu (fe_12022 (h_s3)) (fun _ _ h_s4 => HQ.ite (fun _ => HQ.z) (fun _ => HQ.bOu (fe_12034 (h_s4)) (fun _ _ h_s6 => HQ.ite (fun _ => HQ.z) (fun _ => HQ.some (h_s6))))))))
theorem fc_12043_J171  {s : Mx} (h : E10 m0 s) : HQ m0 (f_12043_J171  s) := by
  unfold f_12043_J171
  exact HQ.bT (HQ.ite (fun _ => HQ.z) (fun hqr1 => HQ.bOv (fe_12024 ((fc_12026 (h) hqr1))) (fun _ h_s3 => HQ.bOu (fe_12022 (h_s3)) (fun _ _ h_s4 => HQ.some (h_s4)))))
theorem fc_12043  {s : Mx} (h : E10 m0 s) : HQ m0 (f_12043  s) := by
  unfold f_12043
  exact HQ.ite (fun _ => HQ.bOu (fe_12021 (h)) (fun _ _ h_s6 => HQ.ite (fun _ => HQ.z) (fun _ => HQ.bOu (fe_12022 (h_s6)) (fun _ _ h_s8 => HQ.ite (fun _ => HQ.z) (fun _ => HQ.bOu (fe_12034 (h_s8)) (fun _ _ h_s10 => HQ.ite (fun _ => HQ.z) (fun _ => HQ.some (h_s10)))))))) (fun _ => HQ.ite (fun _ => HQ.bP (fun _ => HQ.ite (fun _ => HQ.bO (fc_12044 (h)) (fun _ _ hcr14 => HQ.c hcr14)) (fun _ => HQ.bOu (fe_12035 (h)) (fun _ _ h_s15 => HQ.some (h_s15))))) (fun _ => HQ.ite (fun _ => HQ.bOu (fe_12021 (h)) (fun _ _ h_s16 => HQ.ite (fun _ => HQ.z) (fun _ => HQ.bOu (fe_12022 (h_s16)) (fun _ _ h_s18 => HQ.ite (fun _ => HQ.z) (fun _ => HQ.bOu (fe_12034 (h_s18)) (fun _ _ h_s20 => HQ.ite (fun _ => HQ.z) (fun _ => HQ.some (h_s20)))))))) (fun _ => HQ.ite (fun _ => fc_12043_J171 (h)) (fun _ => HQ.ite (fun _ => fc_12043_J171 (h)) (fun _ => HQ.ite (fun _ => HQ.bT (HQ.ite (fun _ => HQ.z) (fun hqr22 => HQ.bOv (fe_12024 ((fc_12026 (h) hqr22))) (fun _ h_s24 => HQ.bOu (fe_12022 (h_s24)) (fun _ _ h_s25 => HQ.some (h_s25)))))) (fun _ => HQ.ite (fun _ => HQ.ite (fun _ => HQ.bOu (fe_12036 (h)) (fun _ _ h_s28 => HQ.some (h_s28))) (fun _ => HQ.bT HQ.z)) (fun _ => HQ.ite (fun _ => fc_12043_J171 (h)) (fun _ => HQ.bT HQ.z))))))))
theorem fc_12048_J59 {l1 : Int32} {k0 : Int32} {s : Mx} (h : E10 m0 s) : HQ m0 (f_12048_J59 l1 k0 s) := by
  unfold f_12048_J59
  exact HQ.gd (HQ.bO (fc_12037 (h)) (fun _ _ hcr1 => HQ.c hcr1))
theorem fc_12048  {s : Mx} (h : E10 m0 s) : HQ m0 (f_12048  s) := by
  unfold f_12048
  exact HQ.ite (fun _ => HQ.bT HQ.z) (fun _ => HQ.bOv (fe_12032 (h)) (fun _ h_s3 => HQ.bS (HQ.bOu (fe_12021 ((h_s3).mp (by decide))) (fun _ _ h_s5 => HQ.gd (HQ.ite (fun _ => fc_12048_J59 (h_s5)) (fun _ => fc_12048_J59 (h_s5)))))))
theorem fc_12045_J132 {l1 : Int32} {l2 : Int32} {s : Mx} (h : E10 m0 s) : HQ m0 (f_12045_J132 l1 l2 s) := by
  unfold f_12045_J132
  exact HQ.bOu (fe_12046 (h)) (fun _ _ h_s1 => HQ.some (h_s1))
theorem fc_12045_J56 {l1 : Int32} {k0 : Int32} {s : Mx} (h : E10 m0 s) : HQ m0 (f_12045_J56 l1 k0 s) := by
  unfold f_12045_J56
  exact HQ.bOv (fe_12024 (h)) (fun _ h_s2 => HQ.bOu (fe_12022 (h_s2)) (fun _ _ h_s3 => HQ.some (h_s3)))
theorem fc_12045  {s : Mx} (h : E10 m0 s) : HQ m0 (f_12045  s) := by
  unfold f_12045
  exact HQ.ite (fun _ => HQ.bP (fun _ => HQ.ite (fun _ => HQ.ite (fun _ => fc_12045_J132 (h)) (fun _ => HQ.ite (fun _ => fc_12045_J132 (h)) (fun _ => HQ.bT HQ.z))) (fun _ => HQ.ite (fun _ => HQ.ite (fun _ => HQ.bO (fc_12048 (h)) (fun _ _ hcr13 => HQ.c hcr13)) (fun _ => HQ.ite (fun _ => HQ.bO (fc_12048 (h)) (fun _ _ hcr16 => HQ.c hcr16)) (fun _ => HQ.bT HQ.z))) (fun _ => HQ.ite (fun _ => HQ.bT HQ.z) (fun _ => HQ.ite (fun _ => HQ.ite (fun _ => HQ.bOv (fe_12032 (h)) (fun _ h_s19 => HQ.gd (HQ.gd (HQ.gd (HQ.bS (HQ.bOu (fe_12022 ((h_s19).ms (by decide))) (fun _ _ h_s21 => HQ.some (h_s21)))))))) (fun _ => HQ.bT HQ.z)) (fun _ => HQ.ite (fun _ => HQ.ite (fun _ => HQ.bOu (fe_12047 (h)) (fun _ _ h_s24 => HQ.some (h_s24))) (fun _ => HQ.ite (fun _ => HQ.bOu (fe_12047 (h)) (fun _ _ h_s26 => HQ.some (h_s26))) (fun _ => HQ.ite (fun _ => HQ.bOu (fe_12047 (h)) (fun _ _ h_s28 => HQ.some (h_s28))) (fun _ => HQ.ite (fun _ => HQ.bOu (fe_12047 (h)) (fun _ _ h_s31 => HQ.some (h_s31))) (fun _ => HQ.bT HQ.z))))) (fun _ => HQ.bT HQ.z))))))) (fun _ => HQ.bOv (fe_12032 (h)) (fun _ h_s32 => HQ.ite (fun _ => HQ.bOu (fe_12021 (h_s32)) (fun _ _ h_s36 => fc_12045_J56 (h_s36))) (fun _ => HQ.ite (fun _ => HQ.bOu (fe_12021 (h_s32)) (fun _ _ h_s35 => fc_12045_J56 (h_s35))) (fun _ => fc_12045_J56 (h_s32)))))
theorem fc_12049  {s : Mx} (h : E10 m0 s) : HQ m0 (f_12049  s) := by
  unfold f_12049
  exact HQ.ite (fun _ => HQ.bP (fun _ => HQ.ite (fun _ => HQ.gd (HQ.bS (HQ.gd (HQ.bS (HQ.gd (HQ.bS (HQ.bOu (fe_12021 ((((h).ms (by decide)).ms (by decide)).ms (by decide))) (fun _ _ h_s7 => HQ.gd (HQ.bS (HQ.gd (HQ.bS (HQ.bS (HQ.bS (HQ.gd (HQ.bS (HQ.bOu (fe_12022 ((((((h_s7).ms (by decide)).ms (by decide)).mp (by decide)).mp (by decide)).ms (by decide))) (fun _ _ h_s13 => HQ.some (h_s13)))))))))))))))))) (fun _ => HQ.bT HQ.z))) (fun _ => HQ.bT HQ.z)
theorem fc_12050_J37  {s : Mx} (h : E10 m0 s) : HQ m0 (f_12050_J37  s) := by
  unfold f_12050_J37
  exact HQ.ite (fun _ => HQ.bP (fun _ => HQ.ite (fun _ => HQ.bOu (fe_12029 (h)) (fun _ _ h_s4 => HQ.ite (fun _ => HQ.bT HQ.z) (fun _ => HQ.gd (HQ.gd (HQ.bS (HQ.bOu (fe_12022 ((h_s4).ms (by decide))) (fun _ _ h_s7 => HQ.some (h_s7)))))))) (fun _ => HQ.bT HQ.z))) (fun _ => HQ.bT HQ.z)
theorem fc_12050  {s : Mx} (h : E10 m0 s) : HQ m0 (f_12050  s) := by
  unfold f_12050
  exact HQ.ite (fun _ => HQ.ite (fun _ => HQ.bS (HQ.bOu (fe_12022 ((h).mp (by decide))) (fun _ _ h_s14 => HQ.some (h_s14)))) (fun _ => fc_12050_J37 (h))) (fun _ => fc_12050_J37 (h))
theorem fc_12051_J37 {k0 : Int32} {k1 : Int32} {s : Mx} (h : E10 m0 s) : HQ m0 (f_12051_J37 k0 k1 s) := by
  unfold f_12051_J37
  exact HQ.bS (HQ.ite (fun _ => HQ.bOu (fe_12022 ((h).mp (by decide))) (fun _ _ h_s4 => HQ.some (h_s4))) (fun _ => HQ.bT HQ.z))
theorem fc_12051  {s : Mx} (h : E10 m0 s) : HQ m0 (f_12051  s) := by
  unfold f_12051
  exact HQ.ite (fun _ => HQ.bOu (fe_12022 (h)) (fun _ _ h_s7 => HQ.some (h_s7))) (fun _ => HQ.ite (fun _ => fc_12051_J37 (h)) (fun _ => fc_12051_J37 (h)))
theorem fc_12052_J67 {l1 : Int32} {k0 : Int32} {k1 : Int32} {s : Mx} (h : E10 m0 s) : HQ m0 (f_12052_J67 l1 k0 k1 s) := by
  unfold f_12052_J67
  exact HQ.gd (HQ.bO (fc_12037 (h)) (fun _ _ hcr1 => HQ.c hcr1))
theorem fc_12052_J47 {l1 : Int32} {k0 : Int32} {s : Mx} (h : E10 m0 s) : HQ m0 (f_12052_J47 l1 k0 s) := by
  unfold f_12052_J47
  exact HQ.ite (fun _ => fc_12052_J67 (h)) (fun _ => HQ.gd (fc_12052_J67 (h)))
theorem fc_12052_J35 {k0 : Int32} {s : Mx} (h : E10 m0 s) : HQ m0 (f_12052_J35 k0 s) := by
  unfold f_12052_J35
  exact HQ.ite (fun _ => fc_12052_J47 (h)) (fun _ => fc_12052_J47 (h))
theorem fc_12052  {s : Mx} (h : E10 m0 s) : HQ m0 (f_12052  s) := by
  unfold f_12052
  exact HQ.ite (fun _ => HQ.gd (HQ.ite (fun _ => fc_12052_J35 (h)) (fun _ => fc_12052_J35 (h)))) (fun _ => HQ.bT HQ.z)
theorem fc_12053 {x0 : Int32} {x1 : Int32} {s : Mx} (h : E10 m0 s) : HQ m0 (f_12053 x0 x1 s) := by
  unfold f_12053
  exact HQ.ite (fun _ => HQ.bOu (fe_12022 (h)) (fun _ _ h_s3 => HQ.some (h_s3))) (fun _ => HQ.bT HQ.z)
theorem fc_12054  {s : Mx} (h : E10 m0 s) : HQ m0 (f_12054  s) := by
  unfold f_12054
  exact HQ.ite (fun _ => HQ.ite (fun _ => HQ.bO (fc_12042 (h)) (fun _ _ hcr5 => HQ.c hcr5)) (fun _ => HQ.ite (fun _ => HQ.bO (fc_12039 (h)) (fun _ _ hcr6 => HQ.c hcr6)) (fun _ => HQ.ite (fun _ => HQ.bO (fc_12043 (h)) (fun _ _ hcr7 => HQ.c hcr7)) (fun _ => HQ.ite (fun _ => HQ.bO (fc_12043 (h)) (fun _ _ hcr8 => HQ.c hcr8)) (fun _ => HQ.ite (fun _ => HQ.bO (fc_12045 (h)) (fun _ _ hcr9 => HQ.c hcr9)) (fun _ => HQ.ite (fun _ => HQ.bO (fc_12053 (h)) (fun _ _ hcr10 => HQ.c hcr10)) (fun _ => HQ.ite (fun _ => HQ.bOv (fe_12024 (h)) (fun _ h_s11 => HQ.bO (fc_12053 (h_s11)) (fun _ _ hcr12 => HQ.c hcr12))) (fun _ => HQ.ite (fun _ => HQ.bO (fc_12052 (h)) (fun _ _ hcr13 => HQ.c hcr13)) (fun _ => HQ.ite (fun _ => HQ.bO (fc_12049 (h)) (fun _ _ hcr14 => HQ.c hcr14)) (fun _ => HQ.ite (fun _ => HQ.ite (fun _ => HQ.bT (HQ.ite (fun _ => HQ.z) (fun hqr17 => HQ.bOu (fe_12022 ((fc_12026 (h) hqr17))) (fun _ _ h_s19 => HQ.ite (fun _ => HQ.z) (fun _ => HQ.some (h_s19)))))) (fun _ => HQ.bT HQ.z)) (fun _ => HQ.ite (fun _ => HQ.bO (fc_12050 (h)) (fun _ _ hcr21 => HQ.c hcr21)) (fun _ => HQ.ite (fun _ => HQ.bO (fc_12050 (h)) (fun _ _ hcr22 => HQ.c hcr22)) (fun _ => HQ.ite (fun _ => HQ.bO (fc_12051 (h)) (fun _ _ hcr23 => HQ.c hcr23)) (fun _ => HQ.ite (fun _ => HQ.bT (HQ.ite (fun _ => HQ.z) (fun hqr24 => HQ.bOu (fe_12022 ((fc_12026 (h) hqr24))) (fun _ _ h_s26 => HQ.ite (fun _ => HQ.z) (fun _ => HQ.some (h_s26)))))) (fun _ => HQ.gd (HQ.bS (HQ.bO (fc_12053 ((h).ms (by decide))) (fun _ _ hcr4 => HQ.c hcr4)))))))))))))))))) (fun _ => HQ.bT HQ.z)
end FE
