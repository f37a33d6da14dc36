/-! how a drawn program is read: statements -/
section STMD
variable {s s' : Sx} {a e L np : Nat} {op bl : List Ae} {rest r : List KV} {st : Int32}
/-- the calls so far -/
def OC (s : Sx) (a : Nat) : Prop := ∃ J : List Nat, s.1 15 = J.map nI ∧ s.1 16 = J.map (fun _ => 1) ∧ (s.1 17).length = J.length ∧ 3 * J.length ≤ a ∧ ∀ j, j ∈ J → j < a ∧ (s.1 0).getD j 0 = 35
theorem OC.ow {a' : Nat} (h : OC s a) (ho : Ow s s') (hz : Z0 s s' a) (ha : a ≤ a') : OC s' a' := by
  obtain ⟨J, h1, h2, h3, h4, h5⟩ := h
  refine ⟨J, (ho.1 15 (by decide)).trans h1, (ho.1 16 (by decide)).trans h2, by rw [ho.1 17 (by decide)]; exact h3, by omega, fun j hj => ?_⟩
  obtain ⟨g1, g2⟩ := h5 j hj
  exact ⟨by omega, (hz j g1).trans g2⟩
def SB (s : Sx) (a np : Nat) : Prop := OC s a ∧ N8 (s.1 13) ∧ N8 (s.1 14) ∧ (s.1 5).length = np ∧ s.1 9 = [0] ∧ s.1 10 = [1]
theorem SB.ow {a' : Nat} (h : SB s a np) (ho : Ow s s') (hz : Z0 s s' a) (ha : a ≤ a') : SB s' a' np := by
  obtain ⟨h1, h2, h3, h4, h5, h6⟩ := h
  exact ⟨h1.ow ho hz ha, ho.2.1 h2, ho.2.2.1 h3, by rw [ho.1 5 (by decide)]; exact h4, (ho.1 9 (by decide)).trans h5, (ho.1 10 (by decide)).trans h6⟩
/-- a part begins -/
theorem bp5 (hnp : (s.1 5).length < 150) : ((au_bp s).1 5).length = (s.1 5).length + 1 := by
  have : (au_bp s).1 5 = xadd 150 (s.1 5) (s.2 2) := rfl
  rw [this]
  unfold xadd
  rw [if_pos hnp, List.length_append]
  rfl
theorem bp_k {k : Nat} (hk : k ≠ 5 ∧ k ≠ 6) : (au_bp s).1 k = s.1 k := by
  show (if k = 6 then _ else if k = 5 then _ else s.1 k) = s.1 k
  rw [if_neg hk.2, if_neg hk.1]
theorem SB.bp (h : SB s a np) (hnp : np < 150) : SB (au_bp s) a (np + 1) := by
  obtain ⟨⟨J, j1, j2, j3, j4, j5⟩, h2, h3, h4, h5, h6⟩ := h
  have e : ∀ k, k ≠ 5 ∧ k ≠ 6 → (au_bp s).1 k = s.1 k := fun k hk => bp_k hk
  refine ⟨⟨J, by rw [e 15 (by decide)]; exact j1, by rw [e 16 (by decide)]; exact j2, by rw [e 17 (by decide)]; exact j3, j4, by rw [e 0 (by decide)]; exact j5⟩, by rw [e 13 (by decide)]; exact h2, by rw [e 14 (by decide)]; exact h3, ?_, by rw [e 9 (by decide)]; exact h5, by rw [e 10 (by decide)]; exact h6⟩
  rw [bp5 (by rw [h4]; exact hnp), h4]
theorem acc_0 : au_acc (s, 0, op, bl) = au_s0 s bl := by
  rw [au_acc_n (by decide)]
  unfold au_acc0
  rw [if_pos rfl]
theorem acc_st {k v : Int32} (h : Q1 s a e L ((k, v) :: r)) (hk : k ≠ 31) : au_acc (s, 0, op, bl) = au_st s bl := by
  rw [acc_0]
  unfold au_s0
  rw [h.hd.1, if_neg hk]
theorem acc_56 (hst : st = 5 ∨ st = 6) (hk : au_ko s = 27) : au_acc (s, st, op, bl) = .inl (au_nx s, 2, op, bl) := by
  have n : ∀ k : Int32, k = 0 ∨ k = 1 ∨ k = 2 ∨ k = 3 ∨ k = 4 → st ≠ k := by
    rintro k (rfl | rfl | rfl | rfl | rfl) <;> rcases hst with z | z <;> rw [z] <;> decide
  rw [au_acc_n (n 1 (by decide))]
  unfold au_acc0
  rw [if_neg (n 0 (by decide)), if_neg (n 1 (by decide)), if_neg (fun z => z.elim (n 2 (by decide)) (n 3 (by decide))), if_neg (n 4 (by decide)), if_pos hst, if_pos hk]
theorem lv33 : ¬ (0 < lvK 33 ∧ lvK 33 < 7) := by decide +kernel
theorem lv29 : ¬ (0 < lvK 29 ∧ lvK 29 < 7) := by decide +kernel
theorem lv30 : ¬ (0 < lvK 30 ∧ lvK 30 < 7) := by decide +kernel
theorem bt_k {b : Ae} (h : b.1 = 42 ∨ b.1 = 43 ∨ b.1 = 44 ∨ b.1 = 46 ∨ b.1 = 47 ∨ b.1 = 49) : Bt b := by
  unfold Bt
  rcases h with h | h | h | h | h | h <;> rw [h] <;> exact ⟨by decide +kernel, by decide, by decide, by decide⟩
theorem bt_3 {b : Ae} (h : b.1 = 43 ∨ b.1 = 44 ∨ b.1 = 49) : Bt b := bt_k (h.elim (fun z => Or.inr (Or.inl z)) (fun h => h.elim (fun z => Or.inr (Or.inr (Or.inl z))) (fun z => Or.inr (Or.inr (Or.inr (Or.inr (Or.inr z)))))))
/-- the ; of a statement -/
theorem semi_go {ms : List Ae} {b : Ae} {v : Int32} (h : Q1 s a e L ((33, v) :: r)) (hM : Ms s a ms) (hb : b.1 = 43 ∨ b.1 = 44 ∨ b.1 = 49) : ∃ s', GoA (s, 4, ms ++ [b], bl) (s', 0, [], bl) ∧ Q1 s' (a + 1) e L r ∧ Ow s s' ∧ Z0 s s' a := by
  obtain ⟨ms', s', g1, g2, g3, g4, g5, g6⟩ := fl_go (lv := 1) (by decide) (bt_3 hb) (B := []) ms s hM h
  have hm := g6 rfl
  subst hm
  have hko := h.hd.1
  have acc : au_acc (s, 4, ms ++ [b], bl) = au_opr s (ms ++ [b]) bl := acc_opr
  unfold au_opr at acc
  rw [hko, if_neg lv33, g1] at acc
  dsimp only [List.nil_append] at acc
  rw [if_neg (fun z => absurd z.1 (by decide)), if_neg (fun z => absurd z.1 (by decide)), if_neg (fun z => absurd z.1 (by decide))] at acc
  have fin : ∀ c x : Int32, Q1 (au_ep b.2.1 (au_nx (au_cd c x s'))) (a + 1) e L r ∧ Ow s (au_ep b.2.1 (au_nx (au_cd c x s'))) ∧ Z0 s (au_ep b.2.1 (au_nx (au_cd c x s'))) a := fun c x =>
    ⟨(g3.cd.nx (by decide) (fun z => absurd z (by decide))).ep, ((g4.tr Ow.cd).tr Ow.nx).tr Ow.ep, g5⟩
  rcases hb with z | z | z
  · rw [if_pos ⟨rfl, z⟩] at acc
    obtain ⟨f1, f2, f3⟩ := fin 3 b.2.2.2.1
    exact ⟨_, GoA.one acc, f1, f2, f3⟩
  · rw [if_neg (fun w => absurd w.2 (by rw [z]; decide)), if_pos ⟨rfl, z⟩] at acc
    obtain ⟨f1, f2, f3⟩ := fin 6 0
    exact ⟨_, GoA.one acc, f1, f2, f3⟩
  · rw [if_neg (fun w => absurd w.2 (by rw [z]; decide)), if_neg (fun w => absurd w.2 (by rw [z]; decide)), if_neg (fun w => absurd w.2 (by rw [z]; decide)), if_pos ⟨rfl, z⟩] at acc
    obtain ⟨f1, f2, f3⟩ := fin 4 0
    exact ⟨_, GoA.one acc, f1, f2, f3⟩
end STMD
