/-! the reference's object and its arrays at the places 'ad': 0 the object, j its j-th array -/
abbrev Mx : Type := Nat → Nat → Int32
def mf (s : Mx) (f : Nat) : Int32 := s 0 f
def mp (s : Mx) (f : Nat) (x : Int32) : Mx := u2 s 0 f x
def mg (s : Mx) (j : Nat) (i : Int32) : Int32 := s j i.toNatClampNeg
def ms (s : Mx) (j : Nat) (i x : Int32) : Mx := u2 s j i.toNatClampNeg x
def em_tr : List (Nat × Nat × Nat × Nat) := [(1, 1, 13, 300), (2, 2, 13, 9000), (3, 3, 13, 300), (4, 12, 14, 1200), (5, 13, 14, 1200), (6, 15, 14, 301), (7, 17, 14, 100), (8, 18, 14, 100), (9, 19, 14, 2), (10, 20, 14, 16), (11, 21, 14, 16), (12, 23, 14, 40), (13, 24, 14, 40), (14, 25, 14, 40), (15, 26, 14, 40), (16, 28, 14, 110), (17, 29, 14, 110), (18, 30, 14, 110), (19, 31, 14, 110), (20, 36, 14, 100), (21, 37, 14, 100), (22, 39, 14, 10), (23, 40, 14, 10), (24, 41, 14, 10), (25, 42, 14, 10), (26, 45, 14, 301), (27, 46, 14, 100), (28, 47, 14, 100), (29, 48, 15, 100), (30, 54, 14, 1300), (31, 55, 14, 88), (32, 56, 14, 12), (33, 58, 14, 9), (34, 59, 14, 32), (35, 61, 14, 9), (36, 62, 14, 32), (37, 66, 14, 4), (38, 67, 14, 4), (39, 68, 14, 4), (40, 69, 14, 32), (41, 70, 14, 64), (42, 71, 14, 32), (43, 72, 14, 64), (44, 73, 15, 32), (45, 75, 14, 30), (46, 76, 14, 30), (47, 77, 14, 30), (48, 78, 14, 30), (49, 79, 15, 30), (50, 80, 14, 240), (51, 81, 15, 240)]
def EM (G : ab_G) (ad : Nat → Nat) : Prop := (∀ i j, i < 52 → j < 52 → ad i = ad j → i = j) ∧ gK G (ad 0) = 12 ∧ (∀ q, q ∈ em_tr → gR G (ad 0) q.2.1 = some (ad q.1) ∧ gK G (ad q.1) = q.2.2.1 ∧ gN G (ad q.1) = q.2.2.2 ∧ q.1 < 52)
def RepM (I : Nat → Nat → Int32) (ad : Nat → Nat) (s : Mx) : Prop := ∀ k, k < 52 → I (ad k) = s k
def FrM (ad : Nat → Nat) (I I' : Nat → Nat → Int32) : Prop := ∀ c, (∀ i, i < 52 → c ≠ ad i) → I' c = I c
theorem FrM_rfl {ad : Nat → Nat} {I : Nat → Nat → Int32} : FrM ad I I := fun _ _ => rfl
theorem FrM.tr {ad : Nat → Nat} {I I' I'' : Nat → Nat → Int32} (h : FrM ad I I') (h' : FrM ad I' I'') : FrM ad I I'' := fun c hc => (h' c hc).trans (h c hc)
theorem RepM_f {I : Nat → Nat → Int32} {ad : Nat → Nat} {s : Mx} (h : RepM I ad s) (f : Nat) : I (ad 0) f = mf s f := by rw [h 0 (by decide)]; rfl
theorem RepM_put {G : ab_G} {ad : Nat → Nat} {I : Nat → Nat → Int32} {s : Mx} (hE : EM G ad) (hP : RepM I ad s) {k : Nat} (hk : k < 52) (i : Nat) (x : Int32) : RepM (u2 I (ad k) i x) ad (u2 s k i x) ∧ FrM ad I (u2 I (ad k) i x) := by
  refine ⟨fun j hj => ?_, fun c hc => u2_n _ _ _ (hc _ hk)⟩
  by_cases e : j = k
  · subst e
    rw [u2_s, u2_s, hP j hj]
  · rw [u2_n _ _ _ (fun q => e (hE.1 _ _ hj hk q)), u2_n _ _ _ e, hP j hj]
abbrev nch (x : Int32) : Prop := x.toUInt32.toUInt16.toUInt32.toInt32 = x
theorem nar_ch {x : Int32} (h : nch x) : narrow .char (.int x) = .int x := congrArg Value.int h
section UM
variable {d : Nat} {Γ : ab_Gm} {o : Nat} {I : ab_Info} {scL : Nat} {scX : Nat → Int32} {P : ab_Pq} {X : ab_Xq} {R : ab_K} {pc : Nat} {L : List (Option Value)} {S r : List Value} {G : ab_G} {bc bs : Nat} {ad : Nat → Nat} {J : Nat → Nat → Int32} {s : Mx}
theorem us_putIM (hE : EM G ad) (hP : RepM J ad s) (f : Nat) {i : Nat} {x : Int32} (hR : ab_Cl d Γ o I scL scX P X R) (hd : decode (mCd I) pc = .ok (.putfield i, 3)) (hf : ab_fR o i = some (12, f)) (hfin : (ab_T 12 f).2.2.2 = false ∨ (ab_ini I = true ∧ 12 = o)) (ht : ab_isR (ab_ty 12 f) = false) (hn : narrow (ab_ty 12 f) (.int x) = .int x) (h : ∀ I1 s1, s1 = mp s f x → RepM I1 ad s1 → FrM ad J I1 → R (pc + 3) L r (gW G I1) bc bs) : R pc L (.int x :: .ref (ad 0) :: r) (gW G J) bc bs :=
  us_putI hR hd hf hfin hE.2.1 ht hn (h _ _ rfl (RepM_put hE hP (by decide) f x).1 (RepM_put hE hP (by decide) f x).2)
theorem us_ialoadM (hE : EM G ad) (hP : RepM J ad s) {j n : Nat} (hq : j < 52 ∧ gK G (ad j) = 14 ∧ gN G (ad j) = n) {i : Int32} (hR : ab_Cl d Γ o I scL scX P X R) (hd : decode (mCd I) pc = .ok (.iaload, 1)) (hv : vi i n) (h : R (pc + 1) L (.int (mg s j i) :: r) (gW G J) bc bs) : R pc L (.int i :: .ref (ad j) :: r) (gW G J) bc bs :=
  us_iaload hR hd hq.2.1 (by rw [show gN (gW G J) (ad j) = n from hq.2.2]; exact vi_in hv) (by rw [show gI (gW G J) (ad j) = s j from hP j hq.1]; exact h)
theorem us_caloadM (hE : EM G ad) (hP : RepM J ad s) {j n : Nat} (hq : j < 52 ∧ gK G (ad j) = 13 ∧ gN G (ad j) = n) {i : Int32} (hR : ab_Cl d Γ o I scL scX P X R) (hd : decode (mCd I) pc = .ok (.caload, 1)) (hv : vi i n) (h : R (pc + 1) L (.int (mg s j i) :: r) (gW G J) bc bs) : R pc L (.int i :: .ref (ad j) :: r) (gW G J) bc bs :=
  us_caload hR hd hq.2.1 (by rw [show gN (gW G J) (ad j) = n from hq.2.2]; exact vi_in hv) (by rw [show gI (gW G J) (ad j) = s j from hP j hq.1]; exact h)
theorem us_baloadM (hE : EM G ad) (hP : RepM J ad s) {j n : Nat} (hq : j < 52 ∧ gK G (ad j) = 15 ∧ gN G (ad j) = n) {i : Int32} (hR : ab_Cl d Γ o I scL scX P X R) (hd : decode (mCd I) pc = .ok (.baload, 1)) (hv : vi i n) (h : R (pc + 1) L (.int (mg s j i) :: r) (gW G J) bc bs) : R pc L (.int i :: .ref (ad j) :: r) (gW G J) bc bs :=
  us_baload hR hd hq.2.1 (by rw [show gN (gW G J) (ad j) = n from hq.2.2]; exact vi_in hv) (by rw [show gI (gW G J) (ad j) = s j from hP j hq.1]; exact h)
theorem us_iastoreM (hE : EM G ad) (hP : RepM J ad s) {j n : Nat} (hq : j < 52 ∧ gK G (ad j) = 14 ∧ gN G (ad j) = n) {i x : Int32} (hR : ab_Cl d Γ o I scL scX P X R) (hd : decode (mCd I) pc = .ok (.iastore, 1)) (hv : vi i n) (h : ∀ I1 s1, s1 = ms s j i x → RepM I1 ad s1 → FrM ad J I1 → R (pc + 1) L r (gW G I1) bc bs) : R pc L (.int x :: .int i :: .ref (ad j) :: r) (gW G J) bc bs :=
  us_iastore hR hd hq.2.1 (by rw [show gN (gW G J) (ad j) = n from hq.2.2]; exact vi_in hv) (h _ _ rfl (RepM_put hE hP hq.1 _ _).1 (RepM_put hE hP hq.1 _ _).2)
theorem us_castoreM (hE : EM G ad) (hP : RepM J ad s) {j n : Nat} (hq : j < 52 ∧ gK G (ad j) = 13 ∧ gN G (ad j) = n) {i x : Int32} (hR : ab_Cl d Γ o I scL scX P X R) (hd : decode (mCd I) pc = .ok (.castore, 1)) (hv : vi i n) (h : ∀ I1 s1, s1 = ms s j i (vp_nar .char x) → RepM I1 ad s1 → FrM ad J I1 → R (pc + 1) L r (gW G I1) bc bs) : R pc L (.int x :: .int i :: .ref (ad j) :: r) (gW G J) bc bs :=
  us_castore hR hd hq.2.1 (by rw [show gN (gW G J) (ad j) = n from hq.2.2]; exact vi_in hv) (h _ _ rfl (RepM_put hE hP hq.1 _ _).1 (RepM_put hE hP hq.1 _ _).2)
theorem us_bastoreM (hE : EM G ad) (hP : RepM J ad s) {j n : Nat} (hq : j < 52 ∧ gK G (ad j) = 15 ∧ gN G (ad j) = n) {i x : Int32} (hR : ab_Cl d Γ o I scL scX P X R) (hd : decode (mCd I) pc = .ok (.bastore, 1)) (hv : vi i n) (h : ∀ I1 s1, s1 = ms s j i (vp_nar .boolean x) → RepM I1 ad s1 → FrM ad J I1 → R (pc + 1) L r (gW G I1) bc bs) : R pc L (.int x :: .int i :: .ref (ad j) :: r) (gW G J) bc bs :=
  us_bastore hR hd hq.2.1 (by rw [show gN (gW G J) (ad j) = n from hq.2.2]; exact vi_in hv) (h _ _ rfl (RepM_put hE hP hq.1 _ _).1 (RepM_put hE hP hq.1 _ _).2)
end UM
theorem em_r_1 {G : ab_G} {ad : Nat → Nat} (h : EM G ad) : gR G (ad 0) 1 = some (ad 1) := (h.2.2 (1, 1, 13, 300) (by decide)).1
theorem em_q_1 {G : ab_G} {ad : Nat → Nat} (h : EM G ad) : 1 < 52 ∧ gK G (ad 1) = 13 ∧ gN G (ad 1) = 300 := ⟨by decide, (h.2.2 (1, 1, 13, 300) (by decide)).2.1, (h.2.2 (1, 1, 13, 300) (by decide)).2.2.1⟩
theorem em_r_2 {G : ab_G} {ad : Nat → Nat} (h : EM G ad) : gR G (ad 0) 2 = some (ad 2) := (h.2.2 (2, 2, 13, 9000) (by decide)).1
theorem em_q_2 {G : ab_G} {ad : Nat → Nat} (h : EM G ad) : 2 < 52 ∧ gK G (ad 2) = 13 ∧ gN G (ad 2) = 9000 := ⟨by decide, (h.2.2 (2, 2, 13, 9000) (by decide)).2.1, (h.2.2 (2, 2, 13, 9000) (by decide)).2.2.1⟩
theorem em_r_3 {G : ab_G} {ad : Nat → Nat} (h : EM G ad) : gR G (ad 0) 3 = some (ad 3) := (h.2.2 (3, 3, 13, 300) (by decide)).1
theorem em_q_3 {G : ab_G} {ad : Nat → Nat} (h : EM G ad) : 3 < 52 ∧ gK G (ad 3) = 13 ∧ gN G (ad 3) = 300 := ⟨by decide, (h.2.2 (3, 3, 13, 300) (by decide)).2.1, (h.2.2 (3, 3, 13, 300) (by decide)).2.2.1⟩
theorem em_r_12 {G : ab_G} {ad : Nat → Nat} (h : EM G ad) : gR G (ad 0) 12 = some (ad 4) := (h.2.2 (4, 12, 14, 1200) (by decide)).1
theorem em_q_12 {G : ab_G} {ad : Nat → Nat} (h : EM G ad) : 4 < 52 ∧ gK G (ad 4) = 14 ∧ gN G (ad 4) = 1200 := ⟨by decide, (h.2.2 (4, 12, 14, 1200) (by decide)).2.1, (h.2.2 (4, 12, 14, 1200) (by decide)).2.2.1⟩
theorem em_r_13 {G : ab_G} {ad : Nat → Nat} (h : EM G ad) : gR G (ad 0) 13 = some (ad 5) := (h.2.2 (5, 13, 14, 1200) (by decide)).1
theorem em_q_13 {G : ab_G} {ad : Nat → Nat} (h : EM G ad) : 5 < 52 ∧ gK G (ad 5) = 14 ∧ gN G (ad 5) = 1200 := ⟨by decide, (h.2.2 (5, 13, 14, 1200) (by decide)).2.1, (h.2.2 (5, 13, 14, 1200) (by decide)).2.2.1⟩
theorem em_r_15 {G : ab_G} {ad : Nat → Nat} (h : EM G ad) : gR G (ad 0) 15 = some (ad 6) := (h.2.2 (6, 15, 14, 301) (by decide)).1
theorem em_q_15 {G : ab_G} {ad : Nat → Nat} (h : EM G ad) : 6 < 52 ∧ gK G (ad 6) = 14 ∧ gN G (ad 6) = 301 := ⟨by decide, (h.2.2 (6, 15, 14, 301) (by decide)).2.1, (h.2.2 (6, 15, 14, 301) (by decide)).2.2.1⟩
theorem em_r_17 {G : ab_G} {ad : Nat → Nat} (h : EM G ad) : gR G (ad 0) 17 = some (ad 7) := (h.2.2 (7, 17, 14, 100) (by decide)).1
theorem em_q_17 {G : ab_G} {ad : Nat → Nat} (h : EM G ad) : 7 < 52 ∧ gK G (ad 7) = 14 ∧ gN G (ad 7) = 100 := ⟨by decide, (h.2.2 (7, 17, 14, 100) (by decide)).2.1, (h.2.2 (7, 17, 14, 100) (by decide)).2.2.1⟩
theorem em_r_18 {G : ab_G} {ad : Nat → Nat} (h : EM G ad) : gR G (ad 0) 18 = some (ad 8) := (h.2.2 (8, 18, 14, 100) (by decide)).1
theorem em_q_18 {G : ab_G} {ad : Nat → Nat} (h : EM G ad) : 8 < 52 ∧ gK G (ad 8) = 14 ∧ gN G (ad 8) = 100 := ⟨by decide, (h.2.2 (8, 18, 14, 100) (by decide)).2.1, (h.2.2 (8, 18, 14, 100) (by decide)).2.2.1⟩
theorem em_r_19 {G : ab_G} {ad : Nat → Nat} (h : EM G ad) : gR G (ad 0) 19 = some (ad 9) := (h.2.2 (9, 19, 14, 2) (by decide)).1
theorem em_q_19 {G : ab_G} {ad : Nat → Nat} (h : EM G ad) : 9 < 52 ∧ gK G (ad 9) = 14 ∧ gN G (ad 9) = 2 := ⟨by decide, (h.2.2 (9, 19, 14, 2) (by decide)).2.1, (h.2.2 (9, 19, 14, 2) (by decide)).2.2.1⟩
theorem em_r_20 {G : ab_G} {ad : Nat → Nat} (h : EM G ad) : gR G (ad 0) 20 = some (ad 10) := (h.2.2 (10, 20, 14, 16) (by decide)).1
theorem em_q_20 {G : ab_G} {ad : Nat → Nat} (h : EM G ad) : 10 < 52 ∧ gK G (ad 10) = 14 ∧ gN G (ad 10) = 16 := ⟨by decide, (h.2.2 (10, 20, 14, 16) (by decide)).2.1, (h.2.2 (10, 20, 14, 16) (by decide)).2.2.1⟩
theorem em_r_21 {G : ab_G} {ad : Nat → Nat} (h : EM G ad) : gR G (ad 0) 21 = some (ad 11) := (h.2.2 (11, 21, 14, 16) (by decide)).1
theorem em_q_21 {G : ab_G} {ad : Nat → Nat} (h : EM G ad) : 11 < 52 ∧ gK G (ad 11) = 14 ∧ gN G (ad 11) = 16 := ⟨by decide, (h.2.2 (11, 21, 14, 16) (by decide)).2.1, (h.2.2 (11, 21, 14, 16) (by decide)).2.2.1⟩
theorem em_r_23 {G : ab_G} {ad : Nat → Nat} (h : EM G ad) : gR G (ad 0) 23 = some (ad 12) := (h.2.2 (12, 23, 14, 40) (by decide)).1
theorem em_q_23 {G : ab_G} {ad : Nat → Nat} (h : EM G ad) : 12 < 52 ∧ gK G (ad 12) = 14 ∧ gN G (ad 12) = 40 := ⟨by decide, (h.2.2 (12, 23, 14, 40) (by decide)).2.1, (h.2.2 (12, 23, 14, 40) (by decide)).2.2.1⟩
theorem em_r_24 {G : ab_G} {ad : Nat → Nat} (h : EM G ad) : gR G (ad 0) 24 = some (ad 13) := (h.2.2 (13, 24, 14, 40) (by decide)).1
theorem em_q_24 {G : ab_G} {ad : Nat → Nat} (h : EM G ad) : 13 < 52 ∧ gK G (ad 13) = 14 ∧ gN G (ad 13) = 40 := ⟨by decide, (h.2.2 (13, 24, 14, 40) (by decide)).2.1, (h.2.2 (13, 24, 14, 40) (by decide)).2.2.1⟩
theorem em_r_25 {G : ab_G} {ad : Nat → Nat} (h : EM G ad) : gR G (ad 0) 25 = some (ad 14) := (h.2.2 (14, 25, 14, 40) (by decide)).1
theorem em_q_25 {G : ab_G} {ad : Nat → Nat} (h : EM G ad) : 14 < 52 ∧ gK G (ad 14) = 14 ∧ gN G (ad 14) = 40 := ⟨by decide, (h.2.2 (14, 25, 14, 40) (by decide)).2.1, (h.2.2 (14, 25, 14, 40) (by decide)).2.2.1⟩
theorem em_r_26 {G : ab_G} {ad : Nat → Nat} (h : EM G ad) : gR G (ad 0) 26 = some (ad 15) := (h.2.2 (15, 26, 14, 40) (by decide)).1
theorem em_q_26 {G : ab_G} {ad : Nat → Nat} (h : EM G ad) : 15 < 52 ∧ gK G (ad 15) = 14 ∧ gN G (ad 15) = 40 := ⟨by decide, (h.2.2 (15, 26, 14, 40) (by decide)).2.1, (h.2.2 (15, 26, 14, 40) (by decide)).2.2.1⟩
theorem em_r_28 {G : ab_G} {ad : Nat → Nat} (h : EM G ad) : gR G (ad 0) 28 = some (ad 16) := (h.2.2 (16, 28, 14, 110) (by decide)).1
theorem em_q_28 {G : ab_G} {ad : Nat → Nat} (h : EM G ad) : 16 < 52 ∧ gK G (ad 16) = 14 ∧ gN G (ad 16) = 110 := ⟨by decide, (h.2.2 (16, 28, 14, 110) (by decide)).2.1, (h.2.2 (16, 28, 14, 110) (by decide)).2.2.1⟩
theorem em_r_29 {G : ab_G} {ad : Nat → Nat} (h : EM G ad) : gR G (ad 0) 29 = some (ad 17) := (h.2.2 (17, 29, 14, 110) (by decide)).1
theorem em_q_29 {G : ab_G} {ad : Nat → Nat} (h : EM G ad) : 17 < 52 ∧ gK G (ad 17) = 14 ∧ gN G (ad 17) = 110 := ⟨by decide, (h.2.2 (17, 29, 14, 110) (by decide)).2.1, (h.2.2 (17, 29, 14, 110) (by decide)).2.2.1⟩
theorem em_r_30 {G : ab_G} {ad : Nat → Nat} (h : EM G ad) : gR G (ad 0) 30 = some (ad 18) := (h.2.2 (18, 30, 14, 110) (by decide)).1
theorem em_q_30 {G : ab_G} {ad : Nat → Nat} (h : EM G ad) : 18 < 52 ∧ gK G (ad 18) = 14 ∧ gN G (ad 18) = 110 := ⟨by decide, (h.2.2 (18, 30, 14, 110) (by decide)).2.1, (h.2.2 (18, 30, 14, 110) (by decide)).2.2.1⟩
theorem em_r_31 {G : ab_G} {ad : Nat → Nat} (h : EM G ad) : gR G (ad 0) 31 = some (ad 19) := (h.2.2 (19, 31, 14, 110) (by decide)).1
theorem em_q_31 {G : ab_G} {ad : Nat → Nat} (h : EM G ad) : 19 < 52 ∧ gK G (ad 19) = 14 ∧ gN G (ad 19) = 110 := ⟨by decide, (h.2.2 (19, 31, 14, 110) (by decide)).2.1, (h.2.2 (19, 31, 14, 110) (by decide)).2.2.1⟩
theorem em_r_36 {G : ab_G} {ad : Nat → Nat} (h : EM G ad) : gR G (ad 0) 36 = some (ad 20) := (h.2.2 (20, 36, 14, 100) (by decide)).1
theorem em_q_36 {G : ab_G} {ad : Nat → Nat} (h : EM G ad) : 20 < 52 ∧ gK G (ad 20) = 14 ∧ gN G (ad 20) = 100 := ⟨by decide, (h.2.2 (20, 36, 14, 100) (by decide)).2.1, (h.2.2 (20, 36, 14, 100) (by decide)).2.2.1⟩
theorem em_r_37 {G : ab_G} {ad : Nat → Nat} (h : EM G ad) : gR G (ad 0) 37 = some (ad 21) := (h.2.2 (21, 37, 14, 100) (by decide)).1
theorem em_q_37 {G : ab_G} {ad : Nat → Nat} (h : EM G ad) : 21 < 52 ∧ gK G (ad 21) = 14 ∧ gN G (ad 21) = 100 := ⟨by decide, (h.2.2 (21, 37, 14, 100) (by decide)).2.1, (h.2.2 (21, 37, 14, 100) (by decide)).2.2.1⟩
theorem em_r_39 {G : ab_G} {ad : Nat → Nat} (h : EM G ad) : gR G (ad 0) 39 = some (ad 22) := (h.2.2 (22, 39, 14, 10) (by decide)).1
theorem em_q_39 {G : ab_G} {ad : Nat → Nat} (h : EM G ad) : 22 < 52 ∧ gK G (ad 22) = 14 ∧ gN G (ad 22) = 10 := ⟨by decide, (h.2.2 (22, 39, 14, 10) (by decide)).2.1, (h.2.2 (22, 39, 14, 10) (by decide)).2.2.1⟩
theorem em_r_40 {G : ab_G} {ad : Nat → Nat} (h : EM G ad) : gR G (ad 0) 40 = some (ad 23) := (h.2.2 (23, 40, 14, 10) (by decide)).1
theorem em_q_40 {G : ab_G} {ad : Nat → Nat} (h : EM G ad) : 23 < 52 ∧ gK G (ad 23) = 14 ∧ gN G (ad 23) = 10 := ⟨by decide, (h.2.2 (23, 40, 14, 10) (by decide)).2.1, (h.2.2 (23, 40, 14, 10) (by decide)).2.2.1⟩
theorem em_r_41 {G : ab_G} {ad : Nat → Nat} (h : EM G ad) : gR G (ad 0) 41 = some (ad 24) := (h.2.2 (24, 41, 14, 10) (by decide)).1
theorem em_q_41 {G : ab_G} {ad : Nat → Nat} (h : EM G ad) : 24 < 52 ∧ gK G (ad 24) = 14 ∧ gN G (ad 24) = 10 := ⟨by decide, (h.2.2 (24, 41, 14, 10) (by decide)).2.1, (h.2.2 (24, 41, 14, 10) (by decide)).2.2.1⟩
theorem em_r_42 {G : ab_G} {ad : Nat → Nat} (h : EM G ad) : gR G (ad 0) 42 = some (ad 25) := (h.2.2 (25, 42, 14, 10) (by decide)).1
theorem em_q_42 {G : ab_G} {ad : Nat → Nat} (h : EM G ad) : 25 < 52 ∧ gK G (ad 25) = 14 ∧ gN G (ad 25) = 10 := ⟨by decide, (h.2.2 (25, 42, 14, 10) (by decide)).2.1, (h.2.2 (25, 42, 14, 10) (by decide)).2.2.1⟩
theorem em_r_45 {G : ab_G} {ad : Nat → Nat} (h : EM G ad) : gR G (ad 0) 45 = some (ad 26) := (h.2.2 (26, 45, 14, 301) (by decide)).1
theorem em_q_45 {G : ab_G} {ad : Nat → Nat} (h : EM G ad) : 26 < 52 ∧ gK G (ad 26) = 14 ∧ gN G (ad 26) = 301 := ⟨by decide, (h.2.2 (26, 45, 14, 301) (by decide)).2.1, (h.2.2 (26, 45, 14, 301) (by decide)).2.2.1⟩
theorem em_r_46 {G : ab_G} {ad : Nat → Nat} (h : EM G ad) : gR G (ad 0) 46 = some (ad 27) := (h.2.2 (27, 46, 14, 100) (by decide)).1
theorem em_q_46 {G : ab_G} {ad : Nat → Nat} (h : EM G ad) : 27 < 52 ∧ gK G (ad 27) = 14 ∧ gN G (ad 27) = 100 := ⟨by decide, (h.2.2 (27, 46, 14, 100) (by decide)).2.1, (h.2.2 (27, 46, 14, 100) (by decide)).2.2.1⟩
theorem em_r_47 {G : ab_G} {ad : Nat → Nat} (h : EM G ad) : gR G (ad 0) 47 = some (ad 28) := (h.2.2 (28, 47, 14, 100) (by decide)).1
theorem em_q_47 {G : ab_G} {ad : Nat → Nat} (h : EM G ad) : 28 < 52 ∧ gK G (ad 28) = 14 ∧ gN G (ad 28) = 100 := ⟨by decide, (h.2.2 (28, 47, 14, 100) (by decide)).2.1, (h.2.2 (28, 47, 14, 100) (by decide)).2.2.1⟩
theorem em_r_48 {G : ab_G} {ad : Nat → Nat} (h : EM G ad) : gR G (ad 0) 48 = some (ad 29) := (h.2.2 (29, 48, 15, 100) (by decide)).1
theorem em_q_48 {G : ab_G} {ad : Nat → Nat} (h : EM G ad) : 29 < 52 ∧ gK G (ad 29) = 15 ∧ gN G (ad 29) = 100 := ⟨by decide, (h.2.2 (29, 48, 15, 100) (by decide)).2.1, (h.2.2 (29, 48, 15, 100) (by decide)).2.2.1⟩
theorem em_r_54 {G : ab_G} {ad : Nat → Nat} (h : EM G ad) : gR G (ad 0) 54 = some (ad 30) := (h.2.2 (30, 54, 14, 1300) (by decide)).1
theorem em_q_54 {G : ab_G} {ad : Nat → Nat} (h : EM G ad) : 30 < 52 ∧ gK G (ad 30) = 14 ∧ gN G (ad 30) = 1300 := ⟨by decide, (h.2.2 (30, 54, 14, 1300) (by decide)).2.1, (h.2.2 (30, 54, 14, 1300) (by decide)).2.2.1⟩
theorem em_r_55 {G : ab_G} {ad : Nat → Nat} (h : EM G ad) : gR G (ad 0) 55 = some (ad 31) := (h.2.2 (31, 55, 14, 88) (by decide)).1
theorem em_q_55 {G : ab_G} {ad : Nat → Nat} (h : EM G ad) : 31 < 52 ∧ gK G (ad 31) = 14 ∧ gN G (ad 31) = 88 := ⟨by decide, (h.2.2 (31, 55, 14, 88) (by decide)).2.1, (h.2.2 (31, 55, 14, 88) (by decide)).2.2.1⟩
theorem em_r_56 {G : ab_G} {ad : Nat → Nat} (h : EM G ad) : gR G (ad 0) 56 = some (ad 32) := (h.2.2 (32, 56, 14, 12) (by decide)).1
theorem em_q_56 {G : ab_G} {ad : Nat → Nat} (h : EM G ad) : 32 < 52 ∧ gK G (ad 32) = 14 ∧ gN G (ad 32) = 12 := ⟨by decide, (h.2.2 (32, 56, 14, 12) (by decide)).2.1, (h.2.2 (32, 56, 14, 12) (by decide)).2.2.1⟩
theorem em_r_58 {G : ab_G} {ad : Nat → Nat} (h : EM G ad) : gR G (ad 0) 58 = some (ad 33) := (h.2.2 (33, 58, 14, 9) (by decide)).1
theorem em_q_58 {G : ab_G} {ad : Nat → Nat} (h : EM G ad) : 33 < 52 ∧ gK G (ad 33) = 14 ∧ gN G (ad 33) = 9 := ⟨by decide, (h.2.2 (33, 58, 14, 9) (by decide)).2.1, (h.2.2 (33, 58, 14, 9) (by decide)).2.2.1⟩
theorem em_r_59 {G : ab_G} {ad : Nat → Nat} (h : EM G ad) : gR G (ad 0) 59 = some (ad 34) := (h.2.2 (34, 59, 14, 32) (by decide)).1
theorem em_q_59 {G : ab_G} {ad : Nat → Nat} (h : EM G ad) : 34 < 52 ∧ gK G (ad 34) = 14 ∧ gN G (ad 34) = 32 := ⟨by decide, (h.2.2 (34, 59, 14, 32) (by decide)).2.1, (h.2.2 (34, 59, 14, 32) (by decide)).2.2.1⟩
theorem em_r_61 {G : ab_G} {ad : Nat → Nat} (h : EM G ad) : gR G (ad 0) 61 = some (ad 35) := (h.2.2 (35, 61, 14, 9) (by decide)).1
theorem em_q_61 {G : ab_G} {ad : Nat → Nat} (h : EM G ad) : 35 < 52 ∧ gK G (ad 35) = 14 ∧ gN G (ad 35) = 9 := ⟨by decide, (h.2.2 (35, 61, 14, 9) (by decide)).2.1, (h.2.2 (35, 61, 14, 9) (by decide)).2.2.1⟩
theorem em_r_62 {G : ab_G} {ad : Nat → Nat} (h : EM G ad) : gR G (ad 0) 62 = some (ad 36) := (h.2.2 (36, 62, 14, 32) (by decide)).1
theorem em_q_62 {G : ab_G} {ad : Nat → Nat} (h : EM G ad) : 36 < 52 ∧ gK G (ad 36) = 14 ∧ gN G (ad 36) = 32 := ⟨by decide, (h.2.2 (36, 62, 14, 32) (by decide)).2.1, (h.2.2 (36, 62, 14, 32) (by decide)).2.2.1⟩
theorem em_r_66 {G : ab_G} {ad : Nat → Nat} (h : EM G ad) : gR G (ad 0) 66 = some (ad 37) := (h.2.2 (37, 66, 14, 4) (by decide)).1
theorem em_q_66 {G : ab_G} {ad : Nat → Nat} (h : EM G ad) : 37 < 52 ∧ gK G (ad 37) = 14 ∧ gN G (ad 37) = 4 := ⟨by decide, (h.2.2 (37, 66, 14, 4) (by decide)).2.1, (h.2.2 (37, 66, 14, 4) (by decide)).2.2.1⟩
theorem em_r_67 {G : ab_G} {ad : Nat → Nat} (h : EM G ad) : gR G (ad 0) 67 = some (ad 38) := (h.2.2 (38, 67, 14, 4) (by decide)).1
theorem em_q_67 {G : ab_G} {ad : Nat → Nat} (h : EM G ad) : 38 < 52 ∧ gK G (ad 38) = 14 ∧ gN G (ad 38) = 4 := ⟨by decide, (h.2.2 (38, 67, 14, 4) (by decide)).2.1, (h.2.2 (38, 67, 14, 4) (by decide)).2.2.1⟩
theorem em_r_68 {G : ab_G} {ad : Nat → Nat} (h : EM G ad) : gR G (ad 0) 68 = some (ad 39) := (h.2.2 (39, 68, 14, 4) (by decide)).1
theorem em_q_68 {G : ab_G} {ad : Nat → Nat} (h : EM G ad) : 39 < 52 ∧ gK G (ad 39) = 14 ∧ gN G (ad 39) = 4 := ⟨by decide, (h.2.2 (39, 68, 14, 4) (by decide)).2.1, (h.2.2 (39, 68, 14, 4) (by decide)).2.2.1⟩
theorem em_r_69 {G : ab_G} {ad : Nat → Nat} (h : EM G ad) : gR G (ad 0) 69 = some (ad 40) := (h.2.2 (40, 69, 14, 32) (by decide)).1
theorem em_q_69 {G : ab_G} {ad : Nat → Nat} (h : EM G ad) : 40 < 52 ∧ gK G (ad 40) = 14 ∧ gN G (ad 40) = 32 := ⟨by decide, (h.2.2 (40, 69, 14, 32) (by decide)).2.1, (h.2.2 (40, 69, 14, 32) (by decide)).2.2.1⟩
theorem em_r_70 {G : ab_G} {ad : Nat → Nat} (h : EM G ad) : gR G (ad 0) 70 = some (ad 41) := (h.2.2 (41, 70, 14, 64) (by decide)).1
theorem em_q_70 {G : ab_G} {ad : Nat → Nat} (h : EM G ad) : 41 < 52 ∧ gK G (ad 41) = 14 ∧ gN G (ad 41) = 64 := ⟨by decide, (h.2.2 (41, 70, 14, 64) (by decide)).2.1, (h.2.2 (41, 70, 14, 64) (by decide)).2.2.1⟩
theorem em_r_71 {G : ab_G} {ad : Nat → Nat} (h : EM G ad) : gR G (ad 0) 71 = some (ad 42) := (h.2.2 (42, 71, 14, 32) (by decide)).1
theorem em_q_71 {G : ab_G} {ad : Nat → Nat} (h : EM G ad) : 42 < 52 ∧ gK G (ad 42) = 14 ∧ gN G (ad 42) = 32 := ⟨by decide, (h.2.2 (42, 71, 14, 32) (by decide)).2.1, (h.2.2 (42, 71, 14, 32) (by decide)).2.2.1⟩
theorem em_r_72 {G : ab_G} {ad : Nat → Nat} (h : EM G ad) : gR G (ad 0) 72 = some (ad 43) := (h.2.2 (43, 72, 14, 64) (by decide)).1
theorem em_q_72 {G : ab_G} {ad : Nat → Nat} (h : EM G ad) : 43 < 52 ∧ gK G (ad 43) = 14 ∧ gN G (ad 43) = 64 := ⟨by decide, (h.2.2 (43, 72, 14, 64) (by decide)).2.1, (h.2.2 (43, 72, 14, 64) (by decide)).2.2.1⟩
theorem em_r_73 {G : ab_G} {ad : Nat → Nat} (h : EM G ad) : gR G (ad 0) 73 = some (ad 44) := (h.2.2 (44, 73, 15, 32) (by decide)).1
theorem em_q_73 {G : ab_G} {ad : Nat → Nat} (h : EM G ad) : 44 < 52 ∧ gK G (ad 44) = 15 ∧ gN G (ad 44) = 32 := ⟨by decide, (h.2.2 (44, 73, 15, 32) (by decide)).2.1, (h.2.2 (44, 73, 15, 32) (by decide)).2.2.1⟩
theorem em_r_75 {G : ab_G} {ad : Nat → Nat} (h : EM G ad) : gR G (ad 0) 75 = some (ad 45) := (h.2.2 (45, 75, 14, 30) (by decide)).1
theorem em_q_75 {G : ab_G} {ad : Nat → Nat} (h : EM G ad) : 45 < 52 ∧ gK G (ad 45) = 14 ∧ gN G (ad 45) = 30 := ⟨by decide, (h.2.2 (45, 75, 14, 30) (by decide)).2.1, (h.2.2 (45, 75, 14, 30) (by decide)).2.2.1⟩
theorem em_r_76 {G : ab_G} {ad : Nat → Nat} (h : EM G ad) : gR G (ad 0) 76 = some (ad 46) := (h.2.2 (46, 76, 14, 30) (by decide)).1
theorem em_q_76 {G : ab_G} {ad : Nat → Nat} (h : EM G ad) : 46 < 52 ∧ gK G (ad 46) = 14 ∧ gN G (ad 46) = 30 := ⟨by decide, (h.2.2 (46, 76, 14, 30) (by decide)).2.1, (h.2.2 (46, 76, 14, 30) (by decide)).2.2.1⟩
theorem em_r_77 {G : ab_G} {ad : Nat → Nat} (h : EM G ad) : gR G (ad 0) 77 = some (ad 47) := (h.2.2 (47, 77, 14, 30) (by decide)).1
theorem em_q_77 {G : ab_G} {ad : Nat → Nat} (h : EM G ad) : 47 < 52 ∧ gK G (ad 47) = 14 ∧ gN G (ad 47) = 30 := ⟨by decide, (h.2.2 (47, 77, 14, 30) (by decide)).2.1, (h.2.2 (47, 77, 14, 30) (by decide)).2.2.1⟩
theorem em_r_78 {G : ab_G} {ad : Nat → Nat} (h : EM G ad) : gR G (ad 0) 78 = some (ad 48) := (h.2.2 (48, 78, 14, 30) (by decide)).1
theorem em_q_78 {G : ab_G} {ad : Nat → Nat} (h : EM G ad) : 48 < 52 ∧ gK G (ad 48) = 14 ∧ gN G (ad 48) = 30 := ⟨by decide, (h.2.2 (48, 78, 14, 30) (by decide)).2.1, (h.2.2 (48, 78, 14, 30) (by decide)).2.2.1⟩
theorem em_r_79 {G : ab_G} {ad : Nat → Nat} (h : EM G ad) : gR G (ad 0) 79 = some (ad 49) := (h.2.2 (49, 79, 15, 30) (by decide)).1
theorem em_q_79 {G : ab_G} {ad : Nat → Nat} (h : EM G ad) : 49 < 52 ∧ gK G (ad 49) = 15 ∧ gN G (ad 49) = 30 := ⟨by decide, (h.2.2 (49, 79, 15, 30) (by decide)).2.1, (h.2.2 (49, 79, 15, 30) (by decide)).2.2.1⟩
theorem em_r_80 {G : ab_G} {ad : Nat → Nat} (h : EM G ad) : gR G (ad 0) 80 = some (ad 50) := (h.2.2 (50, 80, 14, 240) (by decide)).1
theorem em_q_80 {G : ab_G} {ad : Nat → Nat} (h : EM G ad) : 50 < 52 ∧ gK G (ad 50) = 14 ∧ gN G (ad 50) = 240 := ⟨by decide, (h.2.2 (50, 80, 14, 240) (by decide)).2.1, (h.2.2 (50, 80, 14, 240) (by decide)).2.2.1⟩
theorem em_r_81 {G : ab_G} {ad : Nat → Nat} (h : EM G ad) : gR G (ad 0) 81 = some (ad 51) := (h.2.2 (51, 81, 15, 240) (by decide)).1
theorem em_q_81 {G : ab_G} {ad : Nat → Nat} (h : EM G ad) : 51 < 52 ∧ gK G (ad 51) = 15 ∧ gN G (ad 51) = 240 := ⟨by decide, (h.2.2 (51, 81, 15, 240) (by decide)).2.1, (h.2.2 (51, 81, 15, 240) (by decide)).2.2.1⟩
