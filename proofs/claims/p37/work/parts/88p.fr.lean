/-! what the reference's reader leaves as it was -/
section FRR
variable {m0 m : Mx}
def RFs : List Nat := [5, 6, 7, 8, 9, 10, 11, 14, 16, 22, 27, 32, 33, 34, 35, 38, 43]
def FrR (m m' : Mx) : Prop := (∀ j, j ≠ 0 → (j < 4 ∨ 25 < j) → m' j = m j) ∧ ∀ f, f ∉ RFs → m' 0 f = m 0 f
theorem FrR.r : FrR m m := ⟨fun _ _ _ => rfl, fun _ _ => rfl⟩
theorem FrR.tr {m1 m2 : Mx} (h : FrR m0 m1) (h' : FrR m1 m2) : FrR m0 m2 := ⟨fun j a b => (h'.1 j a b).trans (h.1 j a b), fun f a => (h'.2 f a).trans (h.2 f a)⟩
theorem FrR.mp {f : Nat} {x : Int32} (h : FrR m0 m) (hf : f ∈ RFs) : FrR m0 (mp m f x) :=
  ⟨fun j a b => by rw [mp_j a]; exact h.1 j a b, fun g hg => by rw [mp_n (fun e => hg (by rw [e]; exact hf))]; exact h.2 g hg⟩
theorem FrR.ms {j : Nat} {i x : Int32} (h : FrR m0 m) (hj : j ≠ 0 ∧ 4 ≤ j ∧ j ≤ 25) : FrR m0 (ms m j i x) :=
  ⟨fun k a b => by rw [ms_j (by omega)]; exact h.1 k a b, fun g hg => by rw [ms_j (fun e => hj.1 e.symm)]; exact h.2 g hg⟩
theorem HP.w {P Q : Mx → Prop} {x : Option (Mx × Int32)} (h : HP P x) (w : ∀ m, P m → Q m) : HP Q x := fun m r e => w m (h m r e)
theorem HP.bOv {P Q : Mx → Prop} {x : Option Mx} {k : Mx → Option (Mx × Int32)} (h : HV Q x) (h' : ∀ m, Q m → HP P (k m)) : HP P (bOv x k) := by
  cases x with
  | none => intro m r e; cases e
  | some a => exact h' a (h a rfl)
theorem HV.bOv {P Q : Mx → Prop} {x : Option Mx} {k : Mx → Option Mx} (h : HV Q x) (h' : ∀ m, Q m → HV P (k m)) : HV P (bOv x k) := by
  cases x with
  | none => intro m e; cases e
  | some a => exact h' a (h a rfl)
theorem HP.bT {P : Mx → Prop} {x : Mx × Int32} {k : Mx → Int32 → Option (Mx × Int32)} (h : HP P (k x.1 x.2)) : HP P (bT x k) := h
theorem HP.bS {P : Mx → Prop} {x : Mx} {k : Mx → Option (Mx × Int32)} (h : HP P (k x)) : HP P (bS x k) := h
theorem HV.bS {P : Mx → Prop} {x : Mx} {k : Mx → Option Mx} (h : HV P (k x)) : HV P (bS x k) := h
theorem HV.bT {P : Mx → Prop} {x : Mx × Int32} {k : Mx → Int32 → Option Mx} (h : HV P (k x.1 x.2)) : HV P (bT x k) := h
theorem fr_12020 {k : Int32} (h : FrR m0 m) : FrR m0 (f_12020 k m).1 := (h.mp (f := 9) (by decide)).mp (f := 10) (by decide)
theorem fr_12026 (h : FrR m0 m) : FrR m0 (f_12026 m).1 := by
  unfold f_12026
  split
  · exact fr_12020 h
  · exact h.mp (f := 33) (by decide)
theorem fr_12021 {x0 : Int32} {x1 : Int32} {s : Mx}  (h : FrR m0 s) : HP (FrR m0) (f_12021 x0 x1 s) := by
  unfold f_12021
  exact HP.gd (HP.bS (HP.gd (HP.bS (HP.bS (HP.some ((((h).ms (by decide)).ms (by decide)).mp (by decide)))))))
theorem fr_12022 {x0 : Int32} {x1 : Int32} {s : Mx}  (h : FrR m0 s) : HP (FrR m0) (f_12022 x0 x1 s) := by
  unfold f_12022
  exact HP.gd (HP.bS (HP.bS (HP.bS (HP.some ((((h).ms (by decide)).mp (by decide)).mp (by decide))))))
theorem fr_12023  {s : Mx}  (h : FrR m0 s) : HV (FrR m0) (f_12023  s) := by
  unfold f_12023
  exact HV.bS (HV.gd (HV.bS (HV.bS (HV.some ((((h).mp (by decide)).ms (by decide)).mp (by decide))))))
theorem fr_12024 {x0 : Int32} {x1 : Int32} {s : Mx}  (h : FrR m0 s) : HV (FrR m0) (f_12024 x0 x1 s) := by
  unfold f_12024
  exact HV.gd (HV.bS (HV.gd (HV.bS (HV.bS (HV.some ((((h).ms (by decide)).ms (by decide)).mp (by decide)))))))
theorem fr_12029  {s : Mx}  (h : FrR m0 s) : HP (FrR m0) (f_12029  s) := by
  unfold f_12029
  exact HP.bP (fun _ => HP.ite (HP.gd (HP.ite (HP.some (h)) (HP.gd (HP.gd (HP.bS (HP.gd (HP.gd (HP.bS (HP.gd (HP.gd (HP.bS (HP.gd (HP.some ((((h).ms (by decide)).ms (by decide)).ms (by decide))))))))))))))) (HP.some (h)))
theorem fr_12032_L (n : Nat) : ∀ (l : Int32) (m : Mx), FrR m0 m → HV (FrR m0) (f_12032_L0 n l m) := by
  induction n with
  | zero => intro l m h m' e; cases e
  | succ n ih =>
    intro l m h
    have hJ : ∀ m, FrR m0 m → HV (FrR m0) (f_12032_J66 (f_12032_L0 n) l m) := by
      intro m h
      unfold f_12032_J66
      refine HV.bO (Q := FrR m0) (fr_12021 h) (fun m1 _ h1 => ?_)
      exact HV.gd (HV.gd (HV.bS (ih l _ (h1.ms (by decide)))))
    rw [f_12032_L0]
    have h35 : FrR m0 (mp m 35 (mf m 35 - 1)) := h.mp (by decide)
    refine HV.bP fun _ => HV.ite (HV.some h) (HV.bP fun _ => HV.ite (HV.some h) (HV.bP fun _ => HV.ite (HV.some h) (HV.bS (HV.gd (HV.ite (hJ _ h35) (HV.gd (HV.ite (hJ _ h35) (HV.gd ?_))))))))
    exact HV.bO (Q := FrR m0) (fr_12021 h35) (fun m1 _ h1 => ih l m1 h1)
theorem fr_12032 {x : Int32} (h : FrR m0 m) : HV (FrR m0) (f_12032 x m) := fr_12032_L 1000 x m h
theorem fr_12034_L (n : Nat) : ∀ (m : Mx), FrR m0 m → HP (FrR m0) (f_12034_L0 n m) := by
  induction n with
  | zero => intro m h m' r e; cases e
  | succ n ih =>
    intro m h
    rw [f_12034_L0]
    refine HP.bP fun _ => HP.ite (HP.bS (HP.bS (HP.gd ?_))) (HP.bS (HP.bP fun _ => HP.ite (HP.bS (HP.bS (HP.bS (HP.some ?_)))) (HP.bP fun _ => HP.ite (HP.bS ?_) (HP.some ?_))))
    · exact HP.bO (Q := FrR m0) (fr_12021 ((h.mp (by decide)).mp (by decide))) (fun m1 _ h1 => ih m1 h1)
    · exact (((h.mp (by decide)).mp (by decide)).mp (by decide)).mp (by decide)
    · exact HP.bO (Q := FrR m0) (fr_12021 ((h.mp (by decide)).mp (by decide))) (fun m1 _ h1 => HP.bS (HP.some (h1.mp (by decide))))
    · exact h.mp (by decide)
theorem fr_12034 (h : FrR m0 m) : HP (FrR m0) (f_12034 m) := fr_12034_L 1000 m h
theorem fr_12035  {s : Mx}  (h : FrR m0 s) : HP (FrR m0) (f_12035  s) := by
  unfold f_12035
  exact HP.gd (HP.bS (HP.gd (HP.bS (HP.gd (HP.bS (HP.bOv (Q := FrR m0) (fr_12024 ((((h).ms (by decide)).ms (by decide)).ms (by decide))) (fun _ h_s4 => HP.bS (HP.bO (Q := FrR m0) (fr_12022 ((h_s4).mp (by decide))) (fun _ _ h_s6 => HP.some (h_s6))))))))))
theorem fr_12036  {s : Mx}  (h : FrR m0 s) : HP (FrR m0) (f_12036  s) := by
  unfold f_12036
  exact HP.bO (Q := FrR m0) (fr_12022 (h)) (fun _ _ h_s1 => HP.bS (HP.bS (HP.gd (HP.bO (Q := FrR m0) (fr_12021 (((h_s1).mp (by decide)).mp (by decide))) (fun _ _ h_s4 => HP.gd (HP.bS (HP.bO (Q := FrR m0) (fr_12034 ((h_s4).ms (by decide))) (fun _ _ h_s6 => HP.some (h_s6)))))))))
theorem fr_12037 {x0 : Int32} {x1 : Int32} {x2 : Int32} {x3 : Int32} {s : Mx}  (h : FrR m0 s) : HP (FrR m0) (f_12037 x0 x1 x2 x3 s) := by
  unfold f_12037
  exact HP.bT (HP.ite (HP.some (fr_12026 (h))) (HP.gd (HP.bS (HP.gd (HP.bS (HP.gd (HP.bS (HP.gd (HP.bS (HP.bS (HP.bO (Q := FrR m0) (fr_12022 ((((((fr_12026 (h)).ms (by decide)).ms (by decide)).ms (by decide)).ms (by decide)).mp (by decide))) (fun _ _ h_s8 => HP.some (h_s8)))))))))))))
theorem fr_12038_J121 {l1 : Int32} {l2 : Int32} {s : Mx}  (h : FrR m0 s) : HP (FrR m0) (f_12038_J121 l1 l2 s) := by
  unfold f_12038_J121
  exact HP.gd (HP.gd (HP.bS (HP.some ((h).ms (by decide)))))
theorem fr_12038  {s : Mx}  (h : FrR m0 s) : HP (FrR m0) (f_12038  s) := by
  unfold f_12038
  exact HP.bO (Q := FrR m0) (fr_12022 (h)) (fun _ _ h_s2 => HP.bS (HP.bS (HP.gd (HP.gd (HP.bS (HP.gd (HP.ite (HP.bS (HP.some (((((h_s2).mp (by decide)).mp (by decide)).ms (by decide)).mp (by decide)))) (HP.ite (HP.gd (HP.bO (Q := FrR m0) (fr_12021 ((((h_s2).mp (by decide)).mp (by decide)).ms (by decide))) (fun _ _ h_s12 => fr_12038_J121 (h_s12)))) (HP.ite (HP.bO (Q := FrR m0) (fr_12021 ((((h_s2).mp (by decide)).mp (by decide)).ms (by decide))) (fun _ _ h_s9 => HP.bO (Q := FrR m0) (fr_12021 (h_s9)) (fun _ _ h_s10 => HP.bS (fr_12038_J121 ((h_s10).mp (by decide)))))) (fr_12038_J121 ((((h_s2).mp (by decide)).mp (by decide)).ms (by decide))))))))))))
theorem fr_12040 {x0 : Int32} {x1 : Int32} {s : Mx}  (h : FrR m0 s) : HP (FrR m0) (f_12040 x0 x1 s) := by
  unfold f_12040
  exact HP.bOv (Q := FrR m0) (fr_12023 (h)) (fun _ h_s1 => HP.bO (Q := FrR m0) (fr_12021 (h_s1)) (fun _ _ h_s2 => HP.gd (HP.bS (HP.bOv (Q := FrR m0) (fr_12024 ((h_s2).ms (by decide))) (fun _ h_s4 => HP.some (h_s4))))))
theorem fr_12041  {s : Mx}  (h : FrR m0 s) : HP (FrR m0) (f_12041  s) := by
  unfold f_12041
  exact HP.bP (fun _ => HP.ite (HP.bO (Q := FrR m0) (fr_12029 (h)) (fun _ _ h_s3 => HP.ite (HP.bT (HP.some (fr_12020 (h_s3)))) (HP.bO (Q := FrR m0) (fr_12040 (h_s3)) (fun _ _ h_s5 => HP.bO (Q := FrR m0) (fr_12022 (h_s5)) (fun _ _ h_s6 => HP.some (h_s6)))))) (HP.bO (Q := FrR m0) (fr_12040 (h)) (fun _ _ h_s8 => HP.bO (Q := FrR m0) (fr_12035 (h_s8)) (fun _ _ h_s9 => HP.some (h_s9)))))
theorem fr_12042  {s : Mx}  (h : FrR m0 s) : HP (FrR m0) (f_12042  s) := by
  unfold f_12042
  exact HP.ite (HP.ite (HP.bO (Q := FrR m0) (fr_12021 (h)) (fun _ _ h_s5 => HP.ite (HP.some (h_s5)) (HP.some (h_s5)))) (HP.bT (HP.some (fr_12020 (h))))) (HP.ite (HP.bT (HP.some (fr_12020 (h)))) (HP.ite (HP.bO (Q := FrR m0) (fr_12041 (h)) (fun _ _ h_s8 => HP.some (h_s8))) (HP.ite (HP.bT (HP.some (fr_12020 (h)))) (HP.ite (HP.bO (Q := FrR m0) (fr_12040 (h)) (fun _ _ h_s10 => HP.ite (HP.some (h_s10)) (HP.bO (Q := FrR m0) (fr_12022 (h_s10)) (fun _ _ h_s12 => HP.ite (HP.some (h_s12)) (HP.some (h_s12)))))) (HP.ite (HP.bT (HP.some (fr_12020 (h)))) (HP.ite (HP.bO (Q := FrR m0) (fr_12040 (h)) (fun _ _ h_s15 => HP.ite (HP.some (h_s15)) (HP.bO (Q := FrR m0) (fr_12022 (h_s15)) (fun _ _ h_s17 => HP.ite (HP.some (h_s17)) (HP.some (h_s17)))))) (HP.ite (HP.bO (Q := FrR m0) (fr_12040 (h)) (fun _ _ h_s19 => HP.ite (HP.some (h_s19)) (HP.bO (Q := FrR m0) (fr_12022 (h_s19)) (fun _ _ h_s21 => HP.ite (HP.some (h_s21)) (HP.some (h_s21)))))) (HP.ite (HP.bT (HP.some (fr_12020 (h)))) (HP.ite (HP.ite (HP.bOv (Q := FrR m0) (fr_12023 (h)) (fun _ h_s25 => HP.bO (Q := FrR m0) (fr_12022 (h_s25)) (fun _ _ h_s26 => HP.some (h_s26)))) (HP.bT (HP.some (fr_12020 (h))))) (HP.ite (HP.ite (HP.bT (HP.some (fr_12020 (h)))) (HP.bO (Q := FrR m0) (fr_12040 (h)) (fun _ _ h_s29 => HP.ite (HP.some (h_s29)) (HP.bO (Q := FrR m0) (fr_12022 (h_s29)) (fun _ _ h_s31 => HP.ite (HP.some (h_s31)) (HP.some (h_s31))))))) (HP.ite (HP.bT (HP.some (fr_12020 (h)))) (HP.ite (HP.bT (HP.some (fr_12020 (h)))) (HP.ite (HP.bT (HP.some (fr_12020 (h)))) (HP.ite (HP.bT (HP.some (fr_12020 (h)))) (HP.ite (HP.bT (HP.some (fr_12020 (h)))) (HP.ite (HP.bT (HP.some (fr_12020 (h)))) (HP.ite (HP.bT (HP.some (fr_12020 (h)))) (HP.ite (HP.bT (HP.some (fr_12020 (h)))) (HP.ite (HP.bT (HP.some (fr_12020 (h)))) (HP.ite (HP.bT (HP.some (fr_12020 (h)))) (HP.ite (HP.bT (HP.some (fr_12020 (h)))) (HP.ite (HP.bT (HP.some (fr_12020 (h)))) (HP.ite (HP.bT (HP.some (fr_12020 (h)))) (HP.ite (HP.bT (HP.some (fr_12020 (h)))) (HP.ite (HP.bT (HP.some (fr_12020 (h)))) (HP.ite (HP.bT (HP.some (fr_12020 (h)))) (HP.ite (HP.bT (HP.some (fr_12020 (h)))) (HP.ite (HP.bT (HP.some (fr_12020 (h)))) (HP.ite (HP.ite (HP.bT (HP.some (fr_12020 (h)))) (HP.bO (Q := FrR m0) (fr_12038 (h)) (fun _ _ h_s54 => HP.some (h_s54)))) (HP.ite (HP.bT (HP.some (fr_12020 (h)))) (HP.ite (HP.bT (HP.some (fr_12020 (h)))) (HP.ite (HP.bT (HP.ite (HP.some (fr_12026 (h))) (HP.bO (Q := FrR m0) (fr_12040 (fr_12026 (h))) (fun _ _ h_s59 => HP.ite (HP.some (h_s59)) (HP.bO (Q := FrR m0) (fr_12022 (h_s59)) (fun _ _ h_s61 => HP.ite (HP.some (h_s61)) (HP.some (h_s61)))))))) (HP.bT (HP.some (fr_12020 (h))))))))))))))))))))))))))))))))))))
theorem fr_12039  {s : Mx}  (h : FrR m0 s) : HP (FrR m0) (f_12039  s) := by
  unfold f_12039
  exact HP.ite (HP.bO (Q := FrR m0) (fr_12021 (h)) (fun _ _ h_s5 => HP.gd (HP.gd (HP.bS (HP.gd (HP.bS (HP.gd (HP.bS (HP.bO (Q := FrR m0) (fr_12022 ((((h_s5).ms (by decide)).ms (by decide)).ms (by decide))) (fun _ _ h_s9 => HP.some (h_s9))))))))))) (HP.gd (HP.gd (HP.bS (HP.bS (HP.bO (Q := FrR m0) (fr_12042 (((h).ms (by decide)).mp (by decide))) (fun _ _ h_s4 => HP.some (h_s4)))))))
theorem fr_12044  {s : Mx}  (h : FrR m0 s) : HP (FrR m0) (f_12044  s) := by
  unfold f_12044
  exact HP.bO (Q := FrR m0) (fr_12029 (h)) (fun _ _ h_s1 => HP.ite (HP.bT (HP.some (fr_12020 (h_s1)))) (HP.bO (Q := FrR m0) (fr_12021 (h_s1)) (fun _ _ h_s3 => HP.bO (Q := FrR m0) (fr_12022 (h_s3)) (fun _ _ h_s4 => HP.ite (HP.some (h_s4)) (HP.bO (Q := FrR m0) (fr_12034 (h_s4)) (fun _ _ h_s6 => HP.ite (HP.some (h_s6)) (HP.some (h_s6))))))))
theorem fr_12043_J171  {s : Mx}  (h : FrR m0 s) : HP (FrR m0) (f_12043_J171  s) := by
  unfold f_12043_J171
  exact HP.bT (HP.ite (HP.some (fr_12026 (h))) (HP.bOv (Q := FrR m0) (fr_12024 (fr_12026 (h))) (fun _ h_s3 => HP.bO (Q := FrR m0) (fr_12022 (h_s3)) (fun _ _ h_s4 => HP.some (h_s4)))))
theorem fr_12043  {s : Mx}  (h : FrR m0 s) : HP (FrR m0) (f_12043  s) := by
  unfold f_12043
  exact HP.ite (HP.bO (Q := FrR m0) (fr_12021 (h)) (fun _ _ h_s6 => HP.ite (HP.some (h_s6)) (HP.bO (Q := FrR m0) (fr_12022 (h_s6)) (fun _ _ h_s8 => HP.ite (HP.some (h_s8)) (HP.bO (Q := FrR m0) (fr_12034 (h_s8)) (fun _ _ h_s10 => HP.ite (HP.some (h_s10)) (HP.some (h_s10)))))))) (HP.ite (HP.bP (fun _ => HP.ite (HP.bO (Q := FrR m0) (fr_12044 (h)) (fun _ _ h_s14 => HP.some (h_s14))) (HP.bO (Q := FrR m0) (fr_12035 (h)) (fun _ _ h_s15 => HP.some (h_s15))))) (HP.ite (HP.bO (Q := FrR m0) (fr_12021 (h)) (fun _ _ h_s16 => HP.ite (HP.some (h_s16)) (HP.bO (Q := FrR m0) (fr_12022 (h_s16)) (fun _ _ h_s18 => HP.ite (HP.some (h_s18)) (HP.bO (Q := FrR m0) (fr_12034 (h_s18)) (fun _ _ h_s20 => HP.ite (HP.some (h_s20)) (HP.some (h_s20)))))))) (HP.ite (fr_12043_J171 (h)) (HP.ite (fr_12043_J171 (h)) (HP.ite (HP.bT (HP.ite (HP.some (fr_12026 (h))) (HP.bOv (Q := FrR m0) (fr_12024 (fr_12026 (h))) (fun _ h_s24 => HP.bO (Q := FrR m0) (fr_12022 (h_s24)) (fun _ _ h_s25 => HP.some (h_s25)))))) (HP.ite (HP.ite (HP.bO (Q := FrR m0) (fr_12036 (h)) (fun _ _ h_s28 => HP.some (h_s28))) (HP.bT (HP.some (fr_12020 (h))))) (HP.ite (fr_12043_J171 (h)) (HP.bT (HP.some (fr_12020 (h)))))))))))
theorem fr_12046 {x0 : Int32} {s : Mx}  (h : FrR m0 s) : HP (FrR m0) (f_12046 x0 s) := by
  unfold f_12046
  exact HP.bOv (Q := FrR m0) (fr_12032 (h)) (fun _ h_s1 => HP.ite (HP.gd (HP.gd (HP.gd (HP.bS (HP.bO (Q := FrR m0) (fr_12036 ((h_s1).ms (by decide))) (fun _ _ h_s10 => HP.some (h_s10))))))) (HP.bS (HP.bS (HP.bO (Q := FrR m0) (fr_12022 (((h_s1).mp (by decide)).mp (by decide))) (fun _ _ h_s5 => HP.ite (HP.some (h_s5)) (HP.bO (Q := FrR m0) (fr_12034 (h_s5)) (fun _ _ h_s7 => HP.ite (HP.some (h_s7)) (HP.some (h_s7)))))))))
theorem fr_12047_J60 {l1 : Int32} {k0 : Int32} {s : Mx}  (h : FrR m0 s) : HP (FrR m0) (f_12047_J60 l1 k0 s) := by
  unfold f_12047_J60
  exact HP.gd (HP.bO (Q := FrR m0) (fr_12021 (h)) (fun _ _ h_s1 => HP.gd (HP.bS (HP.bO (Q := FrR m0) (fr_12022 ((h_s1).ms (by decide))) (fun _ _ h_s3 => HP.some (h_s3))))))
theorem fr_12047  {s : Mx}  (h : FrR m0 s) : HP (FrR m0) (f_12047  s) := by
  unfold f_12047
  exact HP.bOv (Q := FrR m0) (fr_12032 (h)) (fun _ h_s4 => HP.bS (HP.gd (HP.ite (fr_12047_J60 ((h_s4).mp (by decide))) (HP.ite (fr_12047_J60 ((h_s4).mp (by decide))) (HP.ite (fr_12047_J60 ((h_s4).mp (by decide))) (fr_12047_J60 ((h_s4).mp (by decide))))))))
theorem fr_12048_J59 {l1 : Int32} {k0 : Int32} {s : Mx}  (h : FrR m0 s) : HP (FrR m0) (f_12048_J59 l1 k0 s) := by
  unfold f_12048_J59
  exact HP.gd (HP.bO (Q := FrR m0) (fr_12037 (h)) (fun _ _ h_s1 => HP.some (h_s1)))
theorem fr_12048  {s : Mx}  (h : FrR m0 s) : HP (FrR m0) (f_12048  s) := by
  unfold f_12048
  exact HP.ite (HP.bT (HP.some (fr_12020 (h)))) (HP.bOv (Q := FrR m0) (fr_12032 (h)) (fun _ h_s3 => HP.bS (HP.bO (Q := FrR m0) (fr_12021 ((h_s3).mp (by decide))) (fun _ _ h_s5 => HP.gd (HP.ite (fr_12048_J59 (h_s5)) (fr_12048_J59 (h_s5)))))))
theorem fr_12045_J132 {l1 : Int32} {l2 : Int32} {s : Mx}  (h : FrR m0 s) : HP (FrR m0) (f_12045_J132 l1 l2 s) := by
  unfold f_12045_J132
  exact HP.bO (Q := FrR m0) (fr_12046 (h)) (fun _ _ h_s1 => HP.some (h_s1))
theorem fr_12045_J56 {l1 : Int32} {k0 : Int32} {s : Mx}  (h : FrR m0 s) : HP (FrR m0) (f_12045_J56 l1 k0 s) := by
  unfold f_12045_J56
  exact HP.bOv (Q := FrR m0) (fr_12024 (h)) (fun _ h_s2 => HP.bO (Q := FrR m0) (fr_12022 (h_s2)) (fun _ _ h_s3 => HP.some (h_s3)))
theorem fr_12045  {s : Mx}  (h : FrR m0 s) : HP (FrR m0) (f_12045  s) := by
  unfold f_12045
  exact HP.ite (HP.bP (fun _ => HP.ite (HP.ite (fr_12045_J132 (h)) (HP.ite (fr_12045_J132 (h)) (HP.bT (HP.some (fr_12020 (h)))))) (HP.ite (HP.ite (HP.bO (Q := FrR m0) (fr_12048 (h)) (fun _ _ h_s13 => HP.some (h_s13))) (HP.ite (HP.bO (Q := FrR m0) (fr_12048 (h)) (fun _ _ h_s16 => HP.some (h_s16))) (HP.bT (HP.some (fr_12020 (h)))))) (HP.ite (HP.bT (HP.some (fr_12020 (h)))) (HP.ite (HP.ite (HP.bOv (Q := FrR m0) (fr_12032 (h)) (fun _ h_s19 => HP.gd (HP.gd (HP.gd (HP.bS (HP.bO (Q := FrR m0) (fr_12022 ((h_s19).ms (by decide))) (fun _ _ h_s21 => HP.some (h_s21)))))))) (HP.bT (HP.some (fr_12020 (h))))) (HP.ite (HP.ite (HP.bO (Q := FrR m0) (fr_12047 (h)) (fun _ _ h_s24 => HP.some (h_s24))) (HP.ite (HP.bO (Q := FrR m0) (fr_12047 (h)) (fun _ _ h_s26 => HP.some (h_s26))) (HP.ite (HP.bO (Q := FrR m0) (fr_12047 (h)) (fun _ _ h_s28 => HP.some (h_s28))) (HP.ite (HP.bO (Q := FrR m0) (fr_12047 (h)) (fun _ _ h_s31 => HP.some (h_s31))) (HP.bT (HP.some (fr_12020 (h)))))))) (HP.bT (HP.some (fr_12020 (h)))))))))) (HP.bOv (Q := FrR m0) (fr_12032 (h)) (fun _ h_s32 => HP.ite (HP.bO (Q := FrR m0) (fr_12021 (h_s32)) (fun _ _ h_s36 => fr_12045_J56 (h_s36))) (HP.ite (HP.bO (Q := FrR m0) (fr_12021 (h_s32)) (fun _ _ h_s35 => fr_12045_J56 (h_s35))) (fr_12045_J56 (h_s32)))))
theorem fr_12049  {s : Mx}  (h : FrR m0 s) : HP (FrR m0) (f_12049  s) := by
  unfold f_12049
  exact HP.ite (HP.bP (fun _ => HP.ite (HP.gd (HP.bS (HP.gd (HP.bS (HP.gd (HP.bS (HP.bO (Q := FrR m0) (fr_12021 ((((h).ms (by decide)).ms (by decide)).ms (by decide))) (fun _ _ h_s7 => HP.gd (HP.bS (HP.gd (HP.bS (HP.bS (HP.bS (HP.gd (HP.bS (HP.bO (Q := FrR m0) (fr_12022 ((((((h_s7).ms (by decide)).ms (by decide)).mp (by decide)).mp (by decide)).ms (by decide))) (fun _ _ h_s13 => HP.some (h_s13)))))))))))))))))) (HP.bT (HP.some (fr_12020 (h)))))) (HP.bT (HP.some (fr_12020 (h))))
theorem fr_12050_J37  {s : Mx}  (h : FrR m0 s) : HP (FrR m0) (f_12050_J37  s) := by
  unfold f_12050_J37
  exact HP.ite (HP.bP (fun _ => HP.ite (HP.bO (Q := FrR m0) (fr_12029 (h)) (fun _ _ h_s4 => HP.ite (HP.bT (HP.some (fr_12020 (h_s4)))) (HP.gd (HP.gd (HP.bS (HP.bO (Q := FrR m0) (fr_12022 ((h_s4).ms (by decide))) (fun _ _ h_s7 => HP.some (h_s7)))))))) (HP.bT (HP.some (fr_12020 (h)))))) (HP.bT (HP.some (fr_12020 (h))))
theorem fr_12050  {s : Mx}  (h : FrR m0 s) : HP (FrR m0) (f_12050  s) := by
  unfold f_12050
  exact HP.ite (HP.ite (HP.bS (HP.bO (Q := FrR m0) (fr_12022 ((h).mp (by decide))) (fun _ _ h_s14 => HP.some (h_s14)))) (fr_12050_J37 (h))) (fr_12050_J37 (h))
theorem fr_12051_J37 {k0 : Int32} {k1 : Int32} {s : Mx}  (h : FrR m0 s) : HP (FrR m0) (f_12051_J37 k0 k1 s) := by
  unfold f_12051_J37
  exact HP.bS (HP.ite (HP.bO (Q := FrR m0) (fr_12022 ((h).mp (by decide))) (fun _ _ h_s4 => HP.some (h_s4))) (HP.bT (HP.some (fr_12020 ((h).mp (by decide))))))
theorem fr_12051  {s : Mx}  (h : FrR m0 s) : HP (FrR m0) (f_12051  s) := by
  unfold f_12051
  exact HP.ite (HP.bO (Q := FrR m0) (fr_12022 (h)) (fun _ _ h_s7 => HP.some (h_s7))) (HP.ite (fr_12051_J37 (h)) (fr_12051_J37 (h)))
theorem fr_12052_J67 {l1 : Int32} {k0 : Int32} {k1 : Int32} {s : Mx}  (h : FrR m0 s) : HP (FrR m0) (f_12052_J67 l1 k0 k1 s) := by
  unfold f_12052_J67
  exact HP.gd (HP.bO (Q := FrR m0) (fr_12037 (h)) (fun _ _ h_s1 => HP.some (h_s1)))
theorem fr_12052_J47 {l1 : Int32} {k0 : Int32} {s : Mx}  (h : FrR m0 s) : HP (FrR m0) (f_12052_J47 l1 k0 s) := by
  unfold f_12052_J47
  exact HP.ite (fr_12052_J67 (h)) (HP.gd (fr_12052_J67 (h)))
theorem fr_12052_J35 {k0 : Int32} {s : Mx}  (h : FrR m0 s) : HP (FrR m0) (f_12052_J35 k0 s) := by
  unfold f_12052_J35
  exact HP.ite (fr_12052_J47 (h)) (fr_12052_J47 (h))
theorem fr_12052  {s : Mx}  (h : FrR m0 s) : HP (FrR m0) (f_12052  s) := by
  unfold f_12052
  exact HP.ite (HP.gd (HP.ite (fr_12052_J35 (h)) (fr_12052_J35 (h)))) (HP.bT (HP.some (fr_12020 (h))))
theorem fr_12053 {x0 : Int32} {x1 : Int32} {s : Mx}  (h : FrR m0 s) : HP (FrR m0) (f_12053 x0 x1 s) := by
  unfold f_12053
  exact HP.ite (HP.bO (Q := FrR m0) (fr_12022 (h)) (fun _ _ h_s3 => HP.some (h_s3))) (HP.bT (HP.some (fr_12020 (h))))
theorem fr_12054  {s : Mx}  (h : FrR m0 s) : HP (FrR m0) (f_12054  s) := by
  unfold f_12054
  exact HP.ite (HP.ite (HP.bO (Q := FrR m0) (fr_12042 (h)) (fun _ _ h_s5 => HP.some (h_s5))) (HP.ite (HP.bO (Q := FrR m0) (fr_12039 (h)) (fun _ _ h_s6 => HP.some (h_s6))) (HP.ite (HP.bO (Q := FrR m0) (fr_12043 (h)) (fun _ _ h_s7 => HP.some (h_s7))) (HP.ite (HP.bO (Q := FrR m0) (fr_12043 (h)) (fun _ _ h_s8 => HP.some (h_s8))) (HP.ite (HP.bO (Q := FrR m0) (fr_12045 (h)) (fun _ _ h_s9 => HP.some (h_s9))) (HP.ite (HP.bO (Q := FrR m0) (fr_12053 (h)) (fun _ _ h_s10 => HP.some (h_s10))) (HP.ite (HP.bOv (Q := FrR m0) (fr_12024 (h)) (fun _ h_s11 => HP.bO (Q := FrR m0) (fr_12053 (h_s11)) (fun _ _ h_s12 => HP.some (h_s12)))) (HP.ite (HP.bO (Q := FrR m0) (fr_12052 (h)) (fun _ _ h_s13 => HP.some (h_s13))) (HP.ite (HP.bO (Q := FrR m0) (fr_12049 (h)) (fun _ _ h_s14 => HP.some (h_s14))) (HP.ite (HP.ite (HP.bT (HP.ite (HP.some (fr_12026 (h))) (HP.bO (Q := FrR m0) (fr_12022 (fr_12026 (h))) (fun _ _ h_s19 => HP.ite (HP.some (h_s19)) (HP.some (h_s19)))))) (HP.bT (HP.some (fr_12020 (h))))) (HP.ite (HP.bO (Q := FrR m0) (fr_12050 (h)) (fun _ _ h_s21 => HP.some (h_s21))) (HP.ite (HP.bO (Q := FrR m0) (fr_12050 (h)) (fun _ _ h_s22 => HP.some (h_s22))) (HP.ite (HP.bO (Q := FrR m0) (fr_12051 (h)) (fun _ _ h_s23 => HP.some (h_s23))) (HP.ite (HP.bT (HP.ite (HP.some (fr_12026 (h))) (HP.bO (Q := FrR m0) (fr_12022 (fr_12026 (h))) (fun _ _ h_s26 => HP.ite (HP.some (h_s26)) (HP.some (h_s26)))))) (HP.gd (HP.bS (HP.bO (Q := FrR m0) (fr_12053 ((h).ms (by decide))) (fun _ _ h_s4 => HP.some (h_s4))))))))))))))))))) (HP.bT (HP.some (fr_12020 (h))))
theorem fr_12015_J92 {l1 : Int64} {k0 : Int32} {s : Mx}  (h : FrR m0 s) : HP (FrR m0) (f_12015_J92 l1 k0 s) := by
  unfold f_12015_J92
  exact HP.bS (HP.ite (HP.some ((h).mp (by decide))) (HP.some ((h).mp (by decide))))
theorem fr_12015_J77 {l1 : Int64} {s : Mx}  (h : FrR m0 s) : HP (FrR m0) (f_12015_J77 l1 s) := by
  unfold f_12015_J77
  exact HP.ite (fr_12015_J92 (h)) (fr_12015_J92 (h))
theorem fr_12015_J63 {k2 : Int64 → Mx → Option (Mx × Int32)} {l1 : Int64} {k0 : Int64} {s : Mx} (hk2 : ∀ x0 m, FrR m0 m → HP (FrR m0) (k2 x0 m)) (h : FrR m0 s) : HP (FrR m0) (f_12015_J63 k2 l1 k0 s) := by
  unfold f_12015_J63
  exact HP.bS (hk2 _ _ ((h).mp (by decide)))
theorem fr_12015_L2   : ∀ (n : Nat) (l1 : Int64) (s : Mx), FrR m0 s → HP (FrR m0) (f_12015_L2  n l1 s) := by
  intro n
  induction n with
  | zero => intro l1 s h m' r e; cases e
  | succ n ih =>
    intro l1 s h
    rw [f_12015_L2]
    exact HP.ite (fr_12015_J77 (h)) (HP.gd (HP.ite (fr_12015_J77 (h)) (HP.gd (HP.ite (fr_12015_J63 ih (h)) (fr_12015_J63 ih (h))))))
theorem fr_12015  {s : Mx}  (h : FrR m0 s) : HP (FrR m0) (f_12015  s) := by
  unfold f_12015
  exact fr_12015_L2   _ _ _ (h)
theorem fr_12016_J83 {l1 : Int64} {s : Mx}  (h : FrR m0 s) : HP (FrR m0) (f_12016_J83 l1 s) := by
  unfold f_12016_J83
  exact HP.ite (HP.some (h)) (HP.ite (HP.some (h)) (HP.ite (HP.some (h)) (HP.ite (HP.some (h)) (HP.ite (HP.some (h)) (HP.ite (HP.some (h)) (HP.ite (HP.some (h)) (HP.some (h))))))))
theorem fr_12016_J68 {k2 : Int64 → Mx → Option (Mx × Int32)} {l1 : Int64} {l3 : Int32} {k0 : Int64} {k1 : Int64} {s : Mx} (hk2 : ∀ x0 m, FrR m0 m → HP (FrR m0) (k2 x0 m)) (h : FrR m0 s) : HP (FrR m0) (f_12016_J68 k2 l1 l3 k0 k1 s) := by
  unfold f_12016_J68
  exact HP.bS (hk2 _ _ ((h).mp (by decide)))
theorem fr_12016_L2   : ∀ (n : Nat) (l1 : Int64) (s : Mx), FrR m0 s → HP (FrR m0) (f_12016_L2  n l1 s) := by
  intro n
  induction n with
  | zero => intro l1 s h m' r e; cases e
  | succ n ih =>
    intro l1 s h
    rw [f_12016_L2]
    exact HP.ite (fr_12016_J83 (h)) (HP.gd (HP.ite (fr_12016_J83 (h)) (HP.ite (fr_12016_J68 ih (h)) (HP.gd (fr_12016_J68 ih (h))))))
theorem fr_12016  {s : Mx}  (h : FrR m0 s) : HP (FrR m0) (f_12016  s) := by
  unfold f_12016
  exact fr_12016_L2   _ _ _ (h)
theorem fr_12017_J46 {l1 : Int32} {l2 : Int32} {l3 : Int32} {l4 : Int32} {k0 : Int32} {k1 : Int32} {s : Mx}  (h : FrR m0 s) : HP (FrR m0) (f_12017_J46 l1 l2 l3 l4 k0 k1 s) := by
  unfold f_12017_J46
  exact HP.bS (HP.ite (HP.some ((h).mp (by decide))) (HP.some ((h).mp (by decide))))
theorem fr_12017_J29 {l1 : Int32} {l2 : Int32} {l3 : Int32} {k0 : Int32} {s : Mx}  (h : FrR m0 s) : HP (FrR m0) (f_12017_J29 l1 l2 l3 k0 s) := by
  unfold f_12017_J29
  exact HP.ite (fr_12017_J46 (h)) (fr_12017_J46 (h))
theorem fr_12017_J28 {l1 : Int32} {l2 : Int32} {l3 : Int32} {s : Mx}  (h : FrR m0 s) : HP (FrR m0) (f_12017_J28 l1 l2 l3 s) := by
  unfold f_12017_J28
  exact fr_12017_J29 (h)
theorem fr_12017 {x0 : Int32} {x1 : Int32} {x2 : Int32} {s : Mx}  (h : FrR m0 s) : HP (FrR m0) (f_12017 x0 x1 x2 s) := by
  unfold f_12017
  exact HP.ite (fr_12017_J28 (h)) (HP.gd (HP.ite (fr_12017_J29 (h)) (fr_12017_J28 (h))))
theorem fr_12018 {x0 : Int32} {s : Mx}  (h : FrR m0 s) : HP (FrR m0) (f_12018 x0 s) := by
  unfold f_12018
  exact HP.ite (HP.bO (Q := FrR m0) (fr_12017 (h)) (fun _ _ h_s2 => HP.some (h_s2))) (HP.ite (HP.some (h)) (HP.ite (HP.some (h)) (HP.ite (HP.bO (Q := FrR m0) (fr_12017 (h)) (fun _ _ h_s3 => HP.some (h_s3))) (HP.ite (HP.some (h)) (HP.ite (HP.some (h)) (HP.ite (HP.some (h)) (HP.ite (HP.some (h)) (HP.ite (HP.some (h)) (HP.ite (HP.some (h)) (HP.ite (HP.some (h)) (HP.ite (HP.some (h)) (HP.ite (HP.bO (Q := FrR m0) (fr_12017 (h)) (fun _ _ h_s4 => HP.some (h_s4))) (HP.ite (HP.bO (Q := FrR m0) (fr_12017 (h)) (fun _ _ h_s5 => HP.some (h_s5))) (HP.ite (HP.bO (Q := FrR m0) (fr_12017 (h)) (fun _ _ h_s6 => HP.some (h_s6))) (HP.ite (HP.some (h)) (HP.ite (HP.bO (Q := FrR m0) (fr_12017 (h)) (fun _ _ h_s7 => HP.some (h_s7))) (HP.ite (HP.some (h)) (HP.some (h)))))))))))))))))))
theorem fr_12019  {s : Mx}  (h : FrR m0 s) : HV (FrR m0) (f_12019  s) := by
  unfold f_12019
  exact HV.bP (fun _ => HV.bS (HV.bS (HV.ite (HV.bS (HV.some ((((h).mp (by decide)).mp (by decide)).mp (by decide)))) (HV.gd (HV.ite (HV.gd (HV.ite (HV.bS (HV.gd (HV.bO (Q := FrR m0) (fr_12018 ((((h).mp (by decide)).mp (by decide)).mp (by decide))) (fun _ _ h_s10 => HV.bS (HV.some ((h_s10).mp (by decide))))))) (HV.bO (Q := FrR m0) (fr_12016 (((h).mp (by decide)).mp (by decide))) (fun _ _ h_s12 => HV.bS (HV.some ((h_s12).mp (by decide))))))) (HV.bO (Q := FrR m0) (fr_12015 (((h).mp (by decide)).mp (by decide))) (fun _ _ h_s14 => HV.bS (HV.some ((h_s14).mp (by decide))))))))))
end FRR
