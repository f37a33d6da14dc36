/-! parts in common: the class's kinds, the reference's tokens, both orders -/
section ALK
variable {sa sb : Sx} {m : Mx} {ia ib : Nat}
def wd (s : Sx) (k : Nat) : List Int32 := nI (ptE s k + 1000 - ptS s k) :: (List.range (ptE s k - ptS s k)).map (fun t => (s.1 0).getD (ptS s k + t) 0)
theorem AL.wd_i {i j : Nat} (ha : ptS sa i ≤ 300 ∧ ptE sa i ≤ 300) (hb : ptS sb j ≤ 300 ∧ ptE sb j ≤ 300) : AL (fun v => v) (sa.1 0) (sb.1 0) (ptS sa i) (ptE sa i) (ptS sb j) (ptE sb j) ↔ wd sa i = wd sb j := by
  unfold wd
  rw [List.cons.injEq, nI_eq (by omega) (by omega)]
  constructor
  · rintro ⟨h1, h2⟩
    refine ⟨by omega, ?_⟩
    have e : ptE sb j - ptS sb j = ptE sa i - ptS sa i := by omega
    rw [e]
    exact List.map_congr_left (fun t ht => h2 t (by have := List.mem_range.1 ht; omega))
  · rintro ⟨h1, h2⟩
    refine ⟨by omega, fun t ht => ?_⟩
    have e : ptE sb j - ptS sb j = ptE sa i - ptS sa i := by omega
    rw [e] at h2
    exact List.map_inj_left.1 h2 t (List.mem_range.2 (by omega))
theorem cmn_self : ∀ (xs : List (List Int32)), cmn xs xs = xs.length := by
  intro xs
  induction xs with
  | nil => rfl
  | cons x xs ih => rw [cmn, if_pos (List.mem_cons_self ..), List.erase_cons_head, ih, List.length_cons]
theorem ofW_l {U : Nat → List Int32} : ∀ (k i : Nat), (ofW U k i).length = k := by
  intro k
  induction k with
  | zero => intro i; rfl
  | succ k ih => intro i; rw [ofW, List.length_cons, ih]
noncomputable def gi (sa sb : Sx) : Nat := gr (alw (fun v => v) sa sb) (sb.1 5).length (sa.1 5).length 0 (fun _ => false)
def Pb (s : Sx) : Prop := ∀ k, k < (s.1 5).length → ptS s k ≤ 300 ∧ ptE s k ≤ 300
theorem gi_w (ha : Pb sa) (hb : Pb sb) : gi sa sb = gr (fun x y => decide (wd sa x = wd sb y)) (sb.1 5).length (sa.1 5).length 0 (fun _ => false) := by
  refine gr_al _ _ _ (fun x y _ h2 h3 => ?_)
  rw [Bool.eq_iff_iff, alw_t, decide_eq_true_iff]
  exact AL.wd_i (ha x (by omega)) (hb y h3)
theorem gi_comm (ha : Pb sa) (hb : Pb sb) : gi sa sb = gi sb sa := by
  rw [gi_w ha hb, gi_w hb ha]
  exact gr_comm
theorem gi_self (ha : Pb sa) : gi sa sa = (sa.1 5).length := by
  rw [gi_w ha ha, gr_cmn, fw_0, cmn_self, ofW_l]
/-- what is read keeps its parts in the text -/
theorem Pb.of {i c d : Nat} (hC : PgC sa i c d) (hM : PgM sa i c d m) (ht : TkO sa i) : Pb sa := fun k hk => by
  have h1 := ht.s hk hC.1
  have h2 := ht.e (k := k) (by rw [hM.2.2.2.2.1]; exact hk) hC.1
  have := hC.1
  omega
theorem gi_wm {ca da cb db : Nat} {m1 m2 : Mx} (hC : PgC sa ia ca da) (hM : PgM sa ia ca da m1) (ht : TkO sa ia) (hC' : PgC sb ib cb db) (hM' : PgM sb ib cb db m2) (ht' : TkO sb ib) : gr (alw wm sa sb) (sb.1 5).length (sa.1 5).length 0 (fun _ => false) = gi sa sb := by
  refine gr_al _ _ _ (fun x y _ h2 h3 => ?_)
  rw [Bool.eq_iff_iff, alw_t, alw_t]
  obtain ⟨p1, p2, p3⟩ := ht.s (k := x) (by omega) hC.1
  obtain ⟨p4, p5⟩ := ht.e (k := x) (by rw [hM.2.2.2.2.1]; omega) hC.1
  obtain ⟨q1, q2, q3⟩ := ht'.s (k := y) h3 hC'.1
  obtain ⟨q4, q5⟩ := ht'.e (k := y) (by rw [hM'.2.2.2.2.1]; exact h3) hC'.1
  exact AL.wm_id ht ht' p3 q3 p5 q5
end ALK
