/-! rows for walks on the abstract machine: 'hR : ab_Cl ..' closes R under steps -/
def ab_Cl (d : Nat) (Γ : ab_Gm) (o : Nat) (I : ab_Info) (scL : Nat) (scX : Nat → Int32) (P : ab_Pq) (X : ab_Xq) (R : ab_K) : Prop := ∀ pc L S G bc bs, ab_stp d Γ o I scL scX P X R pc L S G bc bs → R pc L S G bc bs
theorem ab_enter {d y : Nat} {vs : List Value} {G : ab_G} {P : ab_Pq} {X : ab_Xq} {I : ab_Info} (hM : ab_M y = some I) (hl : (ab_loc vs).length ≤ mML I) (h : ∀ R : ab_K, ab_Cl d (ab_Gam d) (mCi I) I 0 (fun _ => 0) P X R → R 0 (ab_ent (mML I) vs) [] G (mMc I vs) (mMs I vs)) : ab_Gam (d + 1) y vs G P X := by
  have hy : ¬ y < 10 := by have := ab_M_ge hM; omega
  unfold ab_Gam
  rw [if_neg hy, hM]
  exact ⟨hl, fun R hR => h R hR⟩
section USR
variable {d : Nat} {Γ : ab_Gm} {o : Nat} {I : ab_Info} {scL : Nat} {scX : Nat → Int32} {P : ab_Pq} {X : ab_Xq} {R : ab_K} {pc : Nat} {L : List (Option Value)} {S r : List Value} {G : ab_G} {bc bs : Nat}
theorem us_null  (hR : ab_Cl d Γ o I scL scX P X R) (hd : decode (mCd I) pc = .ok (.aconst_null, 1)) (h : R (pc + 1) L (.null :: S) G bc bs) : R pc L (S) G bc bs :=
  hR _ _ _ _ _ _ (by unfold ab_stp; rw [hd]; exact ⟨rfl, h⟩)
theorem us_aload {i : Nat} {a : Nat} (hR : ab_Cl d Γ o I scL scX P X R) (hd : decode (mCd I) pc = .ok (.aload i, 2)) (hl : L.getD i none = some (.ref a)) (h : R (pc + 2) L (.ref a :: S) G bc bs) : R pc L (S) G bc bs :=
  hR _ _ _ _ _ _ (by unfold ab_stp; rw [hd]; exact ⟨rfl, by rw [hl]; exact h⟩)
theorem us_aloadN {i : Nat}  (hR : ab_Cl d Γ o I scL scX P X R) (hd : decode (mCd I) pc = .ok (.aload i, 2)) (hl : L.getD i none = some (.null)) (h : R (pc + 2) L (.null :: S) G bc bs) : R pc L (S) G bc bs :=
  hR _ _ _ _ _ _ (by unfold ab_stp; rw [hd]; exact ⟨rfl, by rw [hl]; exact h⟩)
theorem us_aloadF {i : Nat} {u : UInt32} (hR : ab_Cl d Γ o I scL scX P X R) (hd : decode (mCd I) pc = .ok (.aload i, 2)) (hl : L.getD i none = some (.float u)) (h : R (pc + 2) L (.float u :: S) G bc bs) : R pc L (S) G bc bs :=
  hR _ _ _ _ _ _ (by unfold ab_stp; rw [hd]; exact ⟨rfl, by rw [hl]; exact h⟩)
theorem us_aload_n {i : Fin 4} {a : Nat} (hR : ab_Cl d Γ o I scL scX P X R) (hd : decode (mCd I) pc = .ok (.aload_n i, 1)) (hl : L.getD (i : Nat) none = some (.ref a)) (h : R (pc + 1) L (.ref a :: S) G bc bs) : R pc L (S) G bc bs :=
  hR _ _ _ _ _ _ (by unfold ab_stp; rw [hd]; exact ⟨rfl, by rw [hl]; exact h⟩)
theorem us_aload_nN {i : Fin 4}  (hR : ab_Cl d Γ o I scL scX P X R) (hd : decode (mCd I) pc = .ok (.aload_n i, 1)) (hl : L.getD (i : Nat) none = some (.null)) (h : R (pc + 1) L (.null :: S) G bc bs) : R pc L (S) G bc bs :=
  hR _ _ _ _ _ _ (by unfold ab_stp; rw [hd]; exact ⟨rfl, by rw [hl]; exact h⟩)
theorem us_aload_nF {i : Fin 4} {u : UInt32} (hR : ab_Cl d Γ o I scL scX P X R) (hd : decode (mCd I) pc = .ok (.aload_n i, 1)) (hl : L.getD (i : Nat) none = some (.float u)) (h : R (pc + 1) L (.float u :: S) G bc bs) : R pc L (S) G bc bs :=
  hR _ _ _ _ _ _ (by unfold ab_stp; rw [hd]; exact ⟨rfl, by rw [hl]; exact h⟩)
theorem us_iload {i : Nat} {x : Int32} (hR : ab_Cl d Γ o I scL scX P X R) (hd : decode (mCd I) pc = .ok (.iload i, 2)) (hl : L.getD i none = some (.int x)) (h : R (pc + 2) L (.int x :: S) G bc bs) : R pc L (S) G bc bs :=
  hR _ _ _ _ _ _ (by unfold ab_stp; rw [hd]; exact ⟨rfl, by rw [hl]; exact h⟩)
theorem us_iload_n {i : Fin 4} {x : Int32} (hR : ab_Cl d Γ o I scL scX P X R) (hd : decode (mCd I) pc = .ok (.iload_n i, 1)) (hl : L.getD (i : Nat) none = some (.int x)) (h : R (pc + 1) L (.int x :: S) G bc bs) : R pc L (S) G bc bs :=
  hR _ _ _ _ _ _ (by unfold ab_stp; rw [hd]; exact ⟨rfl, by rw [hl]; exact h⟩)
theorem us_lload {i : Nat} {x : Int64} (hR : ab_Cl d Γ o I scL scX P X R) (hd : decode (mCd I) pc = .ok (.lload i, 2)) (hl : L.getD i none = some (.long x)) (h : R (pc + 2) L (.long x :: S) G bc bs) : R pc L (S) G bc bs :=
  hR _ _ _ _ _ _ (by unfold ab_stp; rw [hd]; exact ⟨rfl, by rw [hl]; exact h⟩)
theorem us_lload_n {i : Fin 4} {x : Int64} (hR : ab_Cl d Γ o I scL scX P X R) (hd : decode (mCd I) pc = .ok (.lload_n i, 1)) (hl : L.getD (i : Nat) none = some (.long x)) (h : R (pc + 1) L (.long x :: S) G bc bs) : R pc L (S) G bc bs :=
  hR _ _ _ _ _ _ (by unfold ab_stp; rw [hd]; exact ⟨rfl, by rw [hl]; exact h⟩)
theorem us_istore {i : Nat} {x : Int32} (hR : ab_Cl d Γ o I scL scX P X R) (hd : decode (mCd I) pc = .ok (.istore i, 2)) (hi : i < L.length) (h : R (pc + 2) (ab_st1 L i (.int x)) r G bc bs) : R pc L (.int x :: r) G bc bs :=
  hR _ _ _ _ _ _ (by unfold ab_stp; rw [hd]; exact ⟨rfl, hi, h⟩)
theorem us_istore_n {i : Fin 4} {x : Int32} (hR : ab_Cl d Γ o I scL scX P X R) (hd : decode (mCd I) pc = .ok (.istore_n i, 1)) (hi : (i : Nat) < L.length) (h : R (pc + 1) (ab_st1 L (i : Nat) (.int x)) r G bc bs) : R pc L (.int x :: r) G bc bs :=
  hR _ _ _ _ _ _ (by unfold ab_stp; rw [hd]; exact ⟨rfl, hi, h⟩)
theorem us_astore {i : Nat} {x : Nat} (hR : ab_Cl d Γ o I scL scX P X R) (hd : decode (mCd I) pc = .ok (.astore i, 2)) (hi : i < L.length) (h : R (pc + 2) (ab_st1 L i (.ref x)) r G bc bs) : R pc L (.ref x :: r) G bc bs :=
  hR _ _ _ _ _ _ (by unfold ab_stp; rw [hd]; exact ⟨rfl, hi, h⟩)
theorem us_astore_n {i : Fin 4} {x : Nat} (hR : ab_Cl d Γ o I scL scX P X R) (hd : decode (mCd I) pc = .ok (.astore_n i, 1)) (hi : (i : Nat) < L.length) (h : R (pc + 1) (ab_st1 L (i : Nat) (.ref x)) r G bc bs) : R pc L (.ref x :: r) G bc bs :=
  hR _ _ _ _ _ _ (by unfold ab_stp; rw [hd]; exact ⟨rfl, hi, h⟩)
theorem us_lstore {i : Nat} {x : Int64} (hR : ab_Cl d Γ o I scL scX P X R) (hd : decode (mCd I) pc = .ok (.lstore i, 2)) (hi : i + 1 < L.length) (h : R (pc + 2) (ab_st2 L i (.long x)) r G bc bs) : R pc L (.long x :: r) G bc bs :=
  hR _ _ _ _ _ _ (by unfold ab_stp; rw [hd]; exact ⟨rfl, hi, h⟩)
theorem us_lstore_n {i : Fin 4} {x : Int64} (hR : ab_Cl d Γ o I scL scX P X R) (hd : decode (mCd I) pc = .ok (.lstore_n i, 1)) (hi : (i : Nat) + 1 < L.length) (h : R (pc + 1) (ab_st2 L (i : Nat) (.long x)) r G bc bs) : R pc L (.long x :: r) G bc bs :=
  hR _ _ _ _ _ _ (by unfold ab_stp; rw [hd]; exact ⟨rfl, hi, h⟩)
theorem us_astoreN {i : Nat} (hR : ab_Cl d Γ o I scL scX P X R) (hd : decode (mCd I) pc = .ok (.astore i, 2)) (hi : i < L.length) (h : R (pc + 2) (ab_st1 L i .null) r G bc bs) : R pc L (.null :: r) G bc bs :=
  hR _ _ _ _ _ _ (by unfold ab_stp; rw [hd]; exact ⟨rfl, hi, h⟩)
theorem us_astore_nN {i : Fin 4} (hR : ab_Cl d Γ o I scL scX P X R) (hd : decode (mCd I) pc = .ok (.astore_n i, 1)) (hi : (i : Nat) < L.length) (h : R (pc + 1) (ab_st1 L (i : Nat) .null) r G bc bs) : R pc L (.null :: r) G bc bs :=
  hR _ _ _ _ _ _ (by unfold ab_stp; rw [hd]; exact ⟨rfl, hi, h⟩)
theorem us_iconst {n : Int} (hR : ab_Cl d Γ o I scL scX P X R) (hd : decode (mCd I) pc = .ok (.iconst n, 1)) (h : R (pc + 1) L (.int (Int32.ofInt n) :: S) G bc bs) : R pc L (S) G bc bs :=
  hR _ _ _ _ _ _ (by unfold ab_stp; rw [hd]; exact ⟨rfl, h⟩)
theorem us_bipush {n : Int} (hR : ab_Cl d Γ o I scL scX P X R) (hd : decode (mCd I) pc = .ok (.bipush n, 2)) (h : R (pc + 2) L (.int (Int8.ofInt n).toInt32 :: S) G bc bs) : R pc L (S) G bc bs :=
  hR _ _ _ _ _ _ (by unfold ab_stp; rw [hd]; exact ⟨rfl, h⟩)
theorem us_sipush {n : Int} (hR : ab_Cl d Γ o I scL scX P X R) (hd : decode (mCd I) pc = .ok (.sipush n, 3)) (h : R (pc + 3) L (.int (Int16.ofInt n).toInt32 :: S) G bc bs) : R pc L (S) G bc bs :=
  hR _ _ _ _ _ _ (by unfold ab_stp; rw [hd]; exact ⟨rfl, h⟩)
theorem us_lconst {n : Fin 2} (hR : ab_Cl d Γ o I scL scX P X R) (hd : decode (mCd I) pc = .ok (.lconst n, 1)) (h : R (pc + 1) L (.long (Int64.ofNat (n : Nat)) :: S) G bc bs) : R pc L (S) G bc bs :=
  hR _ _ _ _ _ _ (by unfold ab_stp; rw [hd]; exact ⟨rfl, h⟩)
theorem us_ldc {i : Nat} {v : Int32} (hR : ab_Cl d Γ o I scL scX P X R) (hd : decode (mCd I) pc = .ok (.ldc i, 2)) (hk : ab_kR o i = some v) (h : R (pc + 2) L (.int v :: S) G bc bs) : R pc L (S) G bc bs :=
  hR _ _ _ _ _ _ (by unfold ab_stp; rw [hd]; exact ⟨rfl, by rw [hk]; exact h⟩)
theorem us_ldcS {i j : Nat} (hR : ab_Cl d Γ o I scL scX P X R) (hd : decode (mCd I) pc = .ok (.ldc i, 2)) (hk : ab_kR o i = none) (hk2 : ab_sR o i = some j) (h : R (pc + 2) L (.float (UInt32.ofNat (j + 1)) :: S) G bc bs) : R pc L (S) G bc bs :=
  hR _ _ _ _ _ _ (by unfold ab_stp; rw [hd]; exact ⟨rfl, by rw [hk, hk2]; exact h⟩)
theorem us_ldc2_w {i : Nat} {v : Int64} (hR : ab_Cl d Γ o I scL scX P X R) (hd : decode (mCd I) pc = .ok (.ldc2_w i, 3)) (hk : ab_jR o i = some v) (h : R (pc + 3) L (.long v :: S) G bc bs) : R pc L (S) G bc bs :=
  hR _ _ _ _ _ _ (by unfold ab_stp; rw [hd]; exact ⟨rfl, by rw [hk]; exact h⟩)
theorem us_iinc {i : Nat} {n : Int} {x : Int32} (hR : ab_Cl d Γ o I scL scX P X R) (hd : decode (mCd I) pc = .ok (.iinc i n, 3)) (hl : L.getD i none = some (.int x)) (hi : i < L.length) (h : R (pc + 3) (ab_st1 L i (.int (x + Int32.ofInt n))) S G bc bs) : R pc L (S) G bc bs :=
  hR _ _ _ _ _ _ (by unfold ab_stp; rw [hd]; exact ⟨rfl, hi, by rw [hl]; exact h⟩)
theorem us_iadd {x y : Int32} (hR : ab_Cl d Γ o I scL scX P X R) (hd : decode (mCd I) pc = .ok (.iadd, 1)) (h : R (pc + 1) L (.int (x + y) :: r) G bc bs) : R pc L (.int y :: .int x :: r) G bc bs :=
  hR _ _ _ _ _ _ (by unfold ab_stp; rw [hd]; exact ⟨rfl, h⟩)
theorem us_isub {x y : Int32} (hR : ab_Cl d Γ o I scL scX P X R) (hd : decode (mCd I) pc = .ok (.isub, 1)) (h : R (pc + 1) L (.int (x - y) :: r) G bc bs) : R pc L (.int y :: .int x :: r) G bc bs :=
  hR _ _ _ _ _ _ (by unfold ab_stp; rw [hd]; exact ⟨rfl, h⟩)
theorem us_imul {x y : Int32} (hR : ab_Cl d Γ o I scL scX P X R) (hd : decode (mCd I) pc = .ok (.imul, 1)) (h : R (pc + 1) L (.int (x * y) :: r) G bc bs) : R pc L (.int y :: .int x :: r) G bc bs :=
  hR _ _ _ _ _ _ (by unfold ab_stp; rw [hd]; exact ⟨rfl, h⟩)
theorem us_iand {x y : Int32} (hR : ab_Cl d Γ o I scL scX P X R) (hd : decode (mCd I) pc = .ok (.iand, 1)) (h : R (pc + 1) L (.int (x &&& y) :: r) G bc bs) : R pc L (.int y :: .int x :: r) G bc bs :=
  hR _ _ _ _ _ _ (by unfold ab_stp; rw [hd]; exact ⟨rfl, h⟩)
theorem us_idiv {x y : Int32} (hR : ab_Cl d Γ o I scL scX P X R) (hd : decode (mCd I) pc = .ok (.idiv, 1)) (hne : ¬ y = 0) (h : R (pc + 1) L (.int (x / y) :: r) G bc bs) : R pc L (.int y :: .int x :: r) G bc bs :=
  hR _ _ _ _ _ _ (by unfold ab_stp; rw [hd]; exact ⟨rfl, hne, h⟩)
theorem us_irem {x y : Int32} (hR : ab_Cl d Γ o I scL scX P X R) (hd : decode (mCd I) pc = .ok (.irem, 1)) (hne : ¬ y = 0) (h : R (pc + 1) L (.int (x % y) :: r) G bc bs) : R pc L (.int y :: .int x :: r) G bc bs :=
  hR _ _ _ _ _ _ (by unfold ab_stp; rw [hd]; exact ⟨rfl, hne, h⟩)
theorem us_ishr {x y : Int32} (hR : ab_Cl d Γ o I scL scX P X R) (hd : decode (mCd I) pc = .ok (.ishr, 1)) (h : R (pc + 1) L (.int (x >>> (y &&& 31)) :: r) G bc bs) : R pc L (.int y :: .int x :: r) G bc bs :=
  hR _ _ _ _ _ _ (by unfold ab_stp; rw [hd]; exact ⟨rfl, h⟩)
theorem us_ladd {x y : Int64} (hR : ab_Cl d Γ o I scL scX P X R) (hd : decode (mCd I) pc = .ok (.ladd, 1)) (h : R (pc + 1) L (.long (x + y) :: r) G bc bs) : R pc L (.long y :: .long x :: r) G bc bs :=
  hR _ _ _ _ _ _ (by unfold ab_stp; rw [hd]; exact ⟨rfl, h⟩)
theorem us_lsub {x y : Int64} (hR : ab_Cl d Γ o I scL scX P X R) (hd : decode (mCd I) pc = .ok (.lsub, 1)) (h : R (pc + 1) L (.long (x - y) :: r) G bc bs) : R pc L (.long y :: .long x :: r) G bc bs :=
  hR _ _ _ _ _ _ (by unfold ab_stp; rw [hd]; exact ⟨rfl, h⟩)
theorem us_lmul {x y : Int64} (hR : ab_Cl d Γ o I scL scX P X R) (hd : decode (mCd I) pc = .ok (.lmul, 1)) (h : R (pc + 1) L (.long (x * y) :: r) G bc bs) : R pc L (.long y :: .long x :: r) G bc bs :=
  hR _ _ _ _ _ _ (by unfold ab_stp; rw [hd]; exact ⟨rfl, h⟩)
theorem us_land {x y : Int64} (hR : ab_Cl d Γ o I scL scX P X R) (hd : decode (mCd I) pc = .ok (.land, 1)) (h : R (pc + 1) L (.long (x &&& y) :: r) G bc bs) : R pc L (.long y :: .long x :: r) G bc bs :=
  hR _ _ _ _ _ _ (by unfold ab_stp; rw [hd]; exact ⟨rfl, h⟩)
theorem us_lor {x y : Int64} (hR : ab_Cl d Γ o I scL scX P X R) (hd : decode (mCd I) pc = .ok (.lor, 1)) (h : R (pc + 1) L (.long (x ||| y) :: r) G bc bs) : R pc L (.long y :: .long x :: r) G bc bs :=
  hR _ _ _ _ _ _ (by unfold ab_stp; rw [hd]; exact ⟨rfl, h⟩)
theorem us_ldiv {x y : Int64} (hR : ab_Cl d Γ o I scL scX P X R) (hd : decode (mCd I) pc = .ok (.ldiv, 1)) (hne : ¬ y = 0) (h : R (pc + 1) L (.long (x / y) :: r) G bc bs) : R pc L (.long y :: .long x :: r) G bc bs :=
  hR _ _ _ _ _ _ (by unfold ab_stp; rw [hd]; exact ⟨rfl, hne, h⟩)
theorem us_lrem {x y : Int64} (hR : ab_Cl d Γ o I scL scX P X R) (hd : decode (mCd I) pc = .ok (.lrem, 1)) (hne : ¬ y = 0) (h : R (pc + 1) L (.long (x - x / y * y) :: r) G bc bs) : R pc L (.long y :: .long x :: r) G bc bs :=
  hR _ _ _ _ _ _ (by unfold ab_stp; rw [hd]; exact ⟨rfl, hne, h⟩)
theorem us_ineg {x : Int32} (hR : ab_Cl d Γ o I scL scX P X R) (hd : decode (mCd I) pc = .ok (.ineg, 1)) (h : R (pc + 1) L (.int (-x) :: r) G bc bs) : R pc L (.int x :: r) G bc bs :=
  hR _ _ _ _ _ _ (by unfold ab_stp; rw [hd]; exact ⟨rfl, h⟩)
theorem us_lneg {x : Int64} (hR : ab_Cl d Γ o I scL scX P X R) (hd : decode (mCd I) pc = .ok (.lneg, 1)) (h : R (pc + 1) L (.long (-x) :: r) G bc bs) : R pc L (.long x :: r) G bc bs :=
  hR _ _ _ _ _ _ (by unfold ab_stp; rw [hd]; exact ⟨rfl, h⟩)
theorem us_i2l {x : Int32} (hR : ab_Cl d Γ o I scL scX P X R) (hd : decode (mCd I) pc = .ok (.i2l, 1)) (h : R (pc + 1) L (.long (x.toInt64) :: r) G bc bs) : R pc L (.int x :: r) G bc bs :=
  hR _ _ _ _ _ _ (by unfold ab_stp; rw [hd]; exact ⟨rfl, h⟩)
theorem us_l2i {x : Int64} (hR : ab_Cl d Γ o I scL scX P X R) (hd : decode (mCd I) pc = .ok (.l2i, 1)) (h : R (pc + 1) L (.int (x.toInt32) :: r) G bc bs) : R pc L (.long x :: r) G bc bs :=
  hR _ _ _ _ _ _ (by unfold ab_stp; rw [hd]; exact ⟨rfl, h⟩)
theorem us_i2c {x : Int32} (hR : ab_Cl d Γ o I scL scX P X R) (hd : decode (mCd I) pc = .ok (.i2c, 1)) (h : R (pc + 1) L (.int ((x.toUInt32 % 65536).toInt32) :: r) G bc bs) : R pc L (.int x :: r) G bc bs :=
  hR _ _ _ _ _ _ (by unfold ab_stp; rw [hd]; exact ⟨rfl, h⟩)
theorem us_lshl {x : Int64} {y : Int32} (hR : ab_Cl d Γ o I scL scX P X R) (hd : decode (mCd I) pc = .ok (.lshl, 1)) (h : R (pc + 1) L (.long (x <<< (y.toInt64 &&& 63)) :: r) G bc bs) : R pc L (.int y :: .long x :: r) G bc bs :=
  hR _ _ _ _ _ _ (by unfold ab_stp; rw [hd]; exact ⟨rfl, h⟩)
theorem us_lushr {x : Int64} {y : Int32} (hR : ab_Cl d Γ o I scL scX P X R) (hd : decode (mCd I) pc = .ok (.lushr, 1)) (h : R (pc + 1) L (.long ((x.toUInt64 >>> (y.toInt64.toUInt64 &&& Int64.toUInt64 63)).toInt64) :: r) G bc bs) : R pc L (.int y :: .long x :: r) G bc bs :=
  hR _ _ _ _ _ _ (by unfold ab_stp; rw [hd]; exact ⟨rfl, h⟩)
theorem us_lcmp {x y : Int64} (hR : ab_Cl d Γ o I scL scX P X R) (hd : decode (mCd I) pc = .ok (.lcmp, 1)) (h : R (pc + 1) L (.int (lg_cmp x y) :: r) G bc bs) : R pc L (.long y :: .long x :: r) G bc bs :=
  hR _ _ _ _ _ _ (by unfold ab_stp; rw [hd]; exact ⟨rfl, h⟩)
theorem us_dup {v : Value} (hR : ab_Cl d Γ o I scL scX P X R) (hd : decode (mCd I) pc = .ok (.dup, 1)) (hv : v.category = 1) (h : R (pc + 1) L (v :: v :: r) G bc bs) : R pc L (v :: r) G bc bs :=
  hR _ _ _ _ _ _ (by unfold ab_stp; rw [hd]; exact ⟨rfl, hv, h⟩)
theorem us_pop {v : Value} (hR : ab_Cl d Γ o I scL scX P X R) (hd : decode (mCd I) pc = .ok (.pop, 1)) (hv : v.category = 1) (h : R (pc + 1) L r G bc bs) : R pc L (v :: r) G bc bs :=
  hR _ _ _ _ _ _ (by unfold ab_stp; rw [hd]; exact ⟨rfl, hv, h⟩)
theorem us_dup2 {v w : Value} (hR : ab_Cl d Γ o I scL scX P X R) (hd : decode (mCd I) pc = .ok (.dup2, 1)) (hv : v.category = 1) (hw : w.category = 1) (h : R (pc + 1) L (v :: w :: v :: w :: r) G bc bs) : R pc L (v :: w :: r) G bc bs :=
  hR _ _ _ _ _ _ (by unfold ab_stp; rw [hd]; exact ⟨rfl, hv, hw, h⟩)
theorem us_goto {off : Int} (hR : ab_Cl d Γ o I scL scX P X R) (hd : decode (mCd I) pc = .ok (.goto off, 3)) (t : Nat) (ht : (pc : Int) + off = (t : Int)) (h : R t L S G bc bs) : R pc L (S) G bc bs :=
  hR _ _ _ _ _ _ (by unfold ab_stp; rw [hd]; exact ⟨rfl, by rw [ht]; omega, by rw [ht]; exact h⟩)
theorem us_if_eq {off : Int} {x : Int32} (hR : ab_Cl d Γ o I scL scX P X R) (hd : decode (mCd I) pc = .ok (.ifCond .eq off, 3)) (t : Nat) (ht : (pc : Int) + off = (t : Int)) (h1 : x = 0 → R t L r G bc bs) (h2 : ¬ x = 0 → R (pc + 3) L r G bc bs) : R pc L (.int x :: r) G bc bs :=
  hR _ _ _ _ _ _ (by unfold ab_stp; rw [hd]; exact ⟨rfl, by rw [ht]; omega, (fun q => by rw [ht]; exact h1 q), h2⟩)
theorem us_icmp_eq {off : Int} {x y : Int32} (hR : ab_Cl d Γ o I scL scX P X R) (hd : decode (mCd I) pc = .ok (.if_icmp .eq off, 3)) (t : Nat) (ht : (pc : Int) + off = (t : Int)) (h1 : x = y → R t L r G bc bs) (h2 : ¬ x = y → R (pc + 3) L r G bc bs) : R pc L (.int y :: .int x :: r) G bc bs :=
  hR _ _ _ _ _ _ (by unfold ab_stp; rw [hd]; exact ⟨rfl, by rw [ht]; omega, (fun q => by rw [ht]; exact h1 q), h2⟩)
theorem us_if_ne {off : Int} {x : Int32} (hR : ab_Cl d Γ o I scL scX P X R) (hd : decode (mCd I) pc = .ok (.ifCond .ne off, 3)) (t : Nat) (ht : (pc : Int) + off = (t : Int)) (h1 : ¬ x = 0 → R t L r G bc bs) (h2 : x = 0 → R (pc + 3) L r G bc bs) : R pc L (.int x :: r) G bc bs :=
  hR _ _ _ _ _ _ (by unfold ab_stp; rw [hd]; exact ⟨rfl, by rw [ht]; omega, (fun q => by rw [ht]; exact h1 q), h2⟩)
theorem us_icmp_ne {off : Int} {x y : Int32} (hR : ab_Cl d Γ o I scL scX P X R) (hd : decode (mCd I) pc = .ok (.if_icmp .ne off, 3)) (t : Nat) (ht : (pc : Int) + off = (t : Int)) (h1 : ¬ x = y → R t L r G bc bs) (h2 : x = y → R (pc + 3) L r G bc bs) : R pc L (.int y :: .int x :: r) G bc bs :=
  hR _ _ _ _ _ _ (by unfold ab_stp; rw [hd]; exact ⟨rfl, by rw [ht]; omega, (fun q => by rw [ht]; exact h1 q), h2⟩)
theorem us_if_lt {off : Int} {x : Int32} (hR : ab_Cl d Γ o I scL scX P X R) (hd : decode (mCd I) pc = .ok (.ifCond .lt off, 3)) (t : Nat) (ht : (pc : Int) + off = (t : Int)) (h1 : x < 0 → R t L r G bc bs) (h2 : ¬ x < 0 → R (pc + 3) L r G bc bs) : R pc L (.int x :: r) G bc bs :=
  hR _ _ _ _ _ _ (by unfold ab_stp; rw [hd]; exact ⟨rfl, by rw [ht]; omega, (fun q => by rw [ht]; exact h1 q), h2⟩)
theorem us_icmp_lt {off : Int} {x y : Int32} (hR : ab_Cl d Γ o I scL scX P X R) (hd : decode (mCd I) pc = .ok (.if_icmp .lt off, 3)) (t : Nat) (ht : (pc : Int) + off = (t : Int)) (h1 : x < y → R t L r G bc bs) (h2 : ¬ x < y → R (pc + 3) L r G bc bs) : R pc L (.int y :: .int x :: r) G bc bs :=
  hR _ _ _ _ _ _ (by unfold ab_stp; rw [hd]; exact ⟨rfl, by rw [ht]; omega, (fun q => by rw [ht]; exact h1 q), h2⟩)
theorem us_if_ge {off : Int} {x : Int32} (hR : ab_Cl d Γ o I scL scX P X R) (hd : decode (mCd I) pc = .ok (.ifCond .ge off, 3)) (t : Nat) (ht : (pc : Int) + off = (t : Int)) (h1 : 0 ≤ x → R t L r G bc bs) (h2 : ¬ 0 ≤ x → R (pc + 3) L r G bc bs) : R pc L (.int x :: r) G bc bs :=
  hR _ _ _ _ _ _ (by unfold ab_stp; rw [hd]; exact ⟨rfl, by rw [ht]; omega, (fun q => by rw [ht]; exact h1 q), h2⟩)
theorem us_icmp_ge {off : Int} {x y : Int32} (hR : ab_Cl d Γ o I scL scX P X R) (hd : decode (mCd I) pc = .ok (.if_icmp .ge off, 3)) (t : Nat) (ht : (pc : Int) + off = (t : Int)) (h1 : y ≤ x → R t L r G bc bs) (h2 : ¬ y ≤ x → R (pc + 3) L r G bc bs) : R pc L (.int y :: .int x :: r) G bc bs :=
  hR _ _ _ _ _ _ (by unfold ab_stp; rw [hd]; exact ⟨rfl, by rw [ht]; omega, (fun q => by rw [ht]; exact h1 q), h2⟩)
theorem us_if_gt {off : Int} {x : Int32} (hR : ab_Cl d Γ o I scL scX P X R) (hd : decode (mCd I) pc = .ok (.ifCond .gt off, 3)) (t : Nat) (ht : (pc : Int) + off = (t : Int)) (h1 : 0 < x → R t L r G bc bs) (h2 : ¬ 0 < x → R (pc + 3) L r G bc bs) : R pc L (.int x :: r) G bc bs :=
  hR _ _ _ _ _ _ (by unfold ab_stp; rw [hd]; exact ⟨rfl, by rw [ht]; omega, (fun q => by rw [ht]; exact h1 q), h2⟩)
theorem us_icmp_gt {off : Int} {x y : Int32} (hR : ab_Cl d Γ o I scL scX P X R) (hd : decode (mCd I) pc = .ok (.if_icmp .gt off, 3)) (t : Nat) (ht : (pc : Int) + off = (t : Int)) (h1 : y < x → R t L r G bc bs) (h2 : ¬ y < x → R (pc + 3) L r G bc bs) : R pc L (.int y :: .int x :: r) G bc bs :=
  hR _ _ _ _ _ _ (by unfold ab_stp; rw [hd]; exact ⟨rfl, by rw [ht]; omega, (fun q => by rw [ht]; exact h1 q), h2⟩)
theorem us_if_le {off : Int} {x : Int32} (hR : ab_Cl d Γ o I scL scX P X R) (hd : decode (mCd I) pc = .ok (.ifCond .le off, 3)) (t : Nat) (ht : (pc : Int) + off = (t : Int)) (h1 : x ≤ 0 → R t L r G bc bs) (h2 : ¬ x ≤ 0 → R (pc + 3) L r G bc bs) : R pc L (.int x :: r) G bc bs :=
  hR _ _ _ _ _ _ (by unfold ab_stp; rw [hd]; exact ⟨rfl, by rw [ht]; omega, (fun q => by rw [ht]; exact h1 q), h2⟩)
theorem us_icmp_le {off : Int} {x y : Int32} (hR : ab_Cl d Γ o I scL scX P X R) (hd : decode (mCd I) pc = .ok (.if_icmp .le off, 3)) (t : Nat) (ht : (pc : Int) + off = (t : Int)) (h1 : x ≤ y → R t L r G bc bs) (h2 : ¬ x ≤ y → R (pc + 3) L r G bc bs) : R pc L (.int y :: .int x :: r) G bc bs :=
  hR _ _ _ _ _ _ (by unfold ab_stp; rw [hd]; exact ⟨rfl, by rw [ht]; omega, (fun q => by rw [ht]; exact h1 q), h2⟩)
theorem us_ifnonnull {off : Int} {a : Nat} (hR : ab_Cl d Γ o I scL scX P X R) (hd : decode (mCd I) pc = .ok (.ifnonnull off, 3)) (t : Nat) (ht : (pc : Int) + off = (t : Int)) (h : R t L r G bc bs) : R pc L (.ref a :: r) G bc bs :=
  hR _ _ _ _ _ _ (by unfold ab_stp; rw [hd]; exact ⟨rfl, by rw [ht]; omega, by rw [ht]; exact h⟩)
theorem us_ifnonnullN {off : Int} (hR : ab_Cl d Γ o I scL scX P X R) (hd : decode (mCd I) pc = .ok (.ifnonnull off, 3)) (h : R (pc + 3) L r G bc bs) : R pc L (.null :: r) G bc bs :=
  hR _ _ _ _ _ _ (by unfold ab_stp; rw [hd]; exact ⟨rfl, h⟩)
theorem us_tsw {df lo hi : Int} {offs : Array Int} {len : Nat} {x : Int32} (hR : ab_Cl d Γ o I scL scX P X R) (hd : decode (mCd I) pc = .ok (.tableswitch df lo hi offs, len)) (h0 : x.toInt < lo ∨ hi < x.toInt → ab_jmp pc df (fun t => R t L r G bc bs)) (h1 : hi < lo + (offs.toList.length : Int)) (h2 : ab_tsw pc x (fun t => R t L r G bc bs) lo offs.toList) : R pc L (.int x :: r) G bc bs :=
  hR _ _ _ _ _ _ (by unfold ab_stp; rw [hd]; exact ⟨h0, h1, h2⟩)
theorem us_lsw {df : Int} {ps : Array (Int × Int)} {len : Nat} {x : Int32} (hR : ab_Cl d Γ o I scL scX P X R) (hd : decode (mCd I) pc = .ok (.lookupswitch df ps, len)) (h0 : (ps.toList.zip (ps.toList.drop 1)).all (fun (a, next) => a.1 < next.1) = true) (h : ab_lsw pc x (fun t => R t L r G bc bs) df ps.toList) : R pc L (.int x :: r) G bc bs :=
  hR _ _ _ _ _ _ (by unfold ab_stp; rw [hd]; exact ⟨h0, h⟩)
theorem us_getI {i ci f a : Nat} (hR : ab_Cl d Γ o I scL scX P X R) (hd : decode (mCd I) pc = .ok (.getfield i, 3)) (hf : ab_fR o i = some (ci, f)) (hk : gK G a = ci) (ht : ab_isR (ab_ty ci f) = false) (h : R (pc + 3) L (.int (gI G a f) :: r) G bc bs) : R pc L (.ref a :: r) G bc bs :=
  hR _ _ _ _ _ _ (by unfold ab_stp; rw [hd]; exact ⟨rfl, by rw [hf]; exact ⟨hk, by unfold ab_gv; rw [ht]; exact h⟩⟩)
theorem us_getR {i ci f a b : Nat} (hR : ab_Cl d Γ o I scL scX P X R) (hd : decode (mCd I) pc = .ok (.getfield i, 3)) (hf : ab_fR o i = some (ci, f)) (hk : gK G a = ci) (ht : ab_isR (ab_ty ci f) = true) (hb : gR G a f = some b) (h : R (pc + 3) L (.ref b :: r) G bc bs) : R pc L (.ref a :: r) G bc bs :=
  hR _ _ _ _ _ _ (by unfold ab_stp; rw [hd]; exact ⟨rfl, by rw [hf]; exact ⟨hk, by unfold ab_gv; rw [ht, hb]; exact h⟩⟩)
theorem us_putI {i ci f a : Nat} {x : Int32} (hR : ab_Cl d Γ o I scL scX P X R) (hd : decode (mCd I) pc = .ok (.putfield i, 3)) (hf : ab_fR o i = some (ci, f)) (hfin : (ab_T ci f).2.2.2 = false ∨ (ab_ini I = true ∧ ci = o)) (hk : gK G a = ci) (ht : ab_isR (ab_ty ci f) = false) (hn : narrow (ab_ty ci f) (.int x) = .int x) (h : R (pc + 3) L r (sI G a f x) bc bs) : R pc L (.int x :: .ref a :: r) G bc bs :=
  hR _ _ _ _ _ _ (by unfold ab_stp; rw [hd]; exact ⟨rfl, by rw [hf]; exact ⟨hfin, hk, ht, hn, h⟩⟩)
theorem us_putR {i ci f a x : Nat} (hR : ab_Cl d Γ o I scL scX P X R) (hd : decode (mCd I) pc = .ok (.putfield i, 3)) (hf : ab_fR o i = some (ci, f)) (hfin : (ab_T ci f).2.2.2 = false ∨ (ab_ini I = true ∧ ci = o)) (hk : gK G a = ci) (ht : ab_isR (ab_ty ci f) = true) (h : R (pc + 3) L r (sR G a f (some x)) bc bs) : R pc L (.ref x :: .ref a :: r) G bc bs :=
  hR _ _ _ _ _ _ (by unfold ab_stp; rw [hd]; exact ⟨rfl, by rw [hf]; exact ⟨hfin, hk, ht, h⟩⟩)
theorem us_iaload {a : Nat} {i : Int32} (hR : ab_Cl d Γ o I scL scX P X R) (hd : decode (mCd I) pc = .ok (.iaload, 1)) (hk : gK G a = 14) (hv : vp_in i (gN G a)) (h : R (pc + 1) L (.int (gI G a i.toNatClampNeg) :: r) G bc bs) : R pc L (.int i :: .ref a :: r) G bc bs :=
  hR _ _ _ _ _ _ (by unfold ab_stp; rw [hd]; exact ⟨rfl, hk, hv, h⟩)
theorem us_iastore {a : Nat} {i x : Int32} (hR : ab_Cl d Γ o I scL scX P X R) (hd : decode (mCd I) pc = .ok (.iastore, 1)) (hk : gK G a = 14) (hv : vp_in i (gN G a)) (h : R (pc + 1) L r (sI G a i.toNatClampNeg x) bc bs) : R pc L (.int x :: .int i :: .ref a :: r) G bc bs :=
  hR _ _ _ _ _ _ (by unfold ab_stp; rw [hd]; exact ⟨rfl, hk, hv, h⟩)
theorem us_scr {u : UInt32} {i : Int32} (hR : ab_Cl d Γ o I scL scX P X R) (hd : decode (mCd I) pc = .ok (.iaload, 1)) (hu : u.toNat = 0) (hv : vp_in i (scL - 1)) (h : R (pc + 1) L (.int (scX i.toNatClampNeg) :: r) G bc bs) : R pc L (.int i :: .float u :: r) G bc bs :=
  hR _ _ _ _ _ _ (by unfold ab_stp; rw [hd]; exact ⟨rfl, hu, hv, h⟩)
theorem us_scrlen {u : UInt32} (hR : ab_Cl d Γ o I scL scX P X R) (hd : decode (mCd I) pc = .ok (.arraylength, 1)) (hu : u.toNat = 0) (hn : scL ≠ 0) (h : R (pc + 1) L (.int (Int32.ofNat (scL - 1)) :: r) G bc bs) : R pc L (.float u :: r) G bc bs :=
  hR _ _ _ _ _ _ (by unfold ab_stp; rw [hd]; exact ⟨rfl, hu, hn, h⟩)
theorem us_alen {a : Nat} (hR : ab_Cl d Γ o I scL scX P X R) (hd : decode (mCd I) pc = .ok (.arraylength, 1)) (hk : gK G a = 14) (h : R (pc + 1) L (.int (Int32.ofNat (gN G a)) :: r) G bc bs) : R pc L (.ref a :: r) G bc bs :=
  hR _ _ _ _ _ _ (by unfold ab_stp; rw [hd]; exact ⟨rfl, hk, h⟩)
theorem us_newa14 {x : Int32} (hR : ab_Cl d Γ o I scL scX P X R) (hd : decode (mCd I) pc = .ok (.newarray .int, 2)) (hn : ¬ x < 0) (hN : x.toNatClampNeg ≤ 60000) (h1 : 1 ≤ bc) (h2 : x.toNatClampNeg ≤ bs) (h : R (pc + 2) L (.ref (gZ G) :: r) (gNew G 14 x.toNatClampNeg) (bc - 1) (bs - x.toNatClampNeg)) : R pc L (.int x :: r) G bc bs :=
  hR _ _ _ _ _ _ (by unfold ab_stp; rw [hd]; exact ⟨rfl, hn, hN, h1, h2, h⟩)
theorem us_cast {i ci a : Nat} (hR : ab_Cl d Γ o I scL scX P X R) (hd : decode (mCd I) pc = .ok (.checkcast i, 3)) (hc : ab_cR o i = some ci) (hk : gK G a = ci) (hci : ci < 13) (h : R (pc + 3) L (.ref a :: r) G bc bs) : R pc L (.ref a :: r) G bc bs :=
  hR _ _ _ _ _ _ (by unfold ab_stp; rw [hd]; exact ⟨rfl, by rw [hc]; exact ⟨hk, hci, h⟩⟩)
theorem us_new {i ci : Nat} (hR : ab_Cl d Γ o I scL scX P X R) (hd : decode (mCd I) pc = .ok (.new i, 3)) (hc : ab_cR o i = some ci) (hci : ci < 13) (h1 : 1 ≤ bc) (h2 : ab_nf ci ≤ bs) (h : R (pc + 3) L (.ref (gZ G) :: S) (gNew G ci 0) (bc - 1) (bs - ab_nf ci)) : R pc L (S) G bc bs :=
  hR _ _ _ _ _ _ (by unfold ab_stp; rw [hd]; exact ⟨rfl, by rw [hc]; exact ⟨hci, h1, h2, h⟩⟩)
theorem us_throw {i ic j : Nat} {E t : String} (hR : ab_Cl d Γ o I scL scX P X R) (hd : decode (mCd I) pc = .ok (.new i, 3)) (hc : ab_cR o i = none) (he : ab_eR o i = some (ic, E)) (d3 : decode (mCd I) (pc + 3) = .ok (.dup, 1)) (hx : mXt I = []) (d4 : decode (mCd I) (pc + 4) = .ok (.ldc j, 2)) (ht : ab_xR o j = some t) (d6 : decode (mCd I) (pc + 6) = .ok (.invokespecial ic, 3)) (d9 : decode (mCd I) (pc + 9) = .ok (.athrow, 1)) (h8 : 8 ≤ d) (h1 : 1 ≤ bc) (h2 : 6 ≤ bs) (hS : ab_cat S ≤ 8) (h : X G E) : R pc L (S) G bc bs :=
  hR _ _ _ _ _ _ (by unfold ab_stp; rw [hd]; exact ⟨rfl, by rw [hc, he]; exact ⟨d3, h8, h1, h2, hS, hx, Or.inl ⟨j, t, d4, ht, d6, d9⟩, h⟩⟩)
theorem us_throwW {i ic j : Nat} {E t : String} (hR : ab_Cl d Γ o I scL scX P X R) (hd : decode (mCd I) pc = .ok (.new i, 3)) (hc : ab_cR o i = none) (he : ab_eR o i = some (ic, E)) (d3 : decode (mCd I) (pc + 3) = .ok (.dup, 1)) (hx : mXt I = []) (d4 : decode (mCd I) (pc + 4) = .ok (.ldc_w j, 3)) (ht : ab_xR o j = some t) (d7 : decode (mCd I) (pc + 7) = .ok (.invokespecial ic, 3)) (d10 : decode (mCd I) (pc + 10) = .ok (.athrow, 1)) (h8 : 8 ≤ d) (h1 : 1 ≤ bc) (h2 : 6 ≤ bs) (hS : ab_cat S ≤ 8) (h : X G E) : R pc L (S) G bc bs :=
  hR _ _ _ _ _ _ (by unfold ab_stp; rw [hd]; exact ⟨rfl, by rw [hc, he]; exact ⟨d3, h8, h1, h2, hS, hx, Or.inr ⟨j, t, d4, ht, d7, d10⟩, h⟩⟩)
theorem us_callV {i y a : Nat} {J : ab_Info} {rest : List Value} (hR : ab_Cl d Γ o I scL scX P X R) (hd : decode (mCd I) pc = .ok (.invokevirtual i, 3)) (hm : ab_mR o i = some y) (hy : 10 ≤ y) (hJ : ab_M y = some J) (hst : mSt J = false) (hni : ab_ini J = false) (hS : S.drop (mNa J) = .ref a :: rest) (hk : gK G a = mCi J) (hn : (S.take (mNa J)).length = mNa J) (hc : ab_cat rest ≤ 8) (h1 : mMc J (.ref a :: (S.take (mNa J)).reverse) ≤ bc) (h2 : mMs J (.ref a :: (S.take (mNa J)).reverse) ≤ bs) (h : Γ y (.ref a :: (S.take (mNa J)).reverse) G (fun G' v => R (pc + 3) L (v.toList ++ rest) G' (bc - mMc J (.ref a :: (S.take (mNa J)).reverse)) (bs - mMs J (.ref a :: (S.take (mNa J)).reverse))) (ab_exc I R X pc L (bc - mMc J (.ref a :: (S.take (mNa J)).reverse)) (bs - mMs J (.ref a :: (S.take (mNa J)).reverse)))) : R pc L (S) G bc bs := by
  refine hR _ _ _ _ _ _ ?_
  unfold ab_stp
  rw [hd]
  refine ⟨rfl, ?_⟩
  rw [hm]
  split
  · rename_i hq
    exact absurd (Option.some.inj hq) (by omega)
  · rename_i hq
    exact absurd (Option.some.inj hq) (by omega)
  · rename_i hq
    exact absurd (Option.some.inj hq) (by omega)
  · rename_i hq
    exact absurd (Option.some.inj hq) (by omega)
  · rename_i hq
    exact absurd (Option.some.inj hq) (by omega)
  · rename_i hq
    exact absurd (Option.some.inj hq) (by omega)
  · rename_i y9 n4 n5 n6 n7 n8 n9 hq
    obtain rfl := Option.some.inj hq
    rw [hJ]
    exact ⟨hst, hni, by unfold ab_callV; rw [hS]; exact ⟨hk, hn, hc, h1, h2, h⟩⟩
  · rename_i hq
    cases hq
theorem us_callI {i y a : Nat} {J : ab_Info} {rest : List Value} (hR : ab_Cl d Γ o I scL scX P X R) (hd : decode (mCd I) pc = .ok (.invokespecial i, 3)) (hm : ab_mR o i = some y) (hy : 10 ≤ y) (hJ : ab_M y = some J) (hst : mSt J = false) (hni : ab_ini J = true) (hS : S.drop (mNa J) = .ref a :: rest) (hk : gK G a = mCi J) (hn : (S.take (mNa J)).length = mNa J) (hc : ab_cat rest ≤ 8) (h1 : mMc J (.ref a :: (S.take (mNa J)).reverse) ≤ bc) (h2 : mMs J (.ref a :: (S.take (mNa J)).reverse) ≤ bs) (h : Γ y (.ref a :: (S.take (mNa J)).reverse) G (fun G' v => R (pc + 3) L (v.toList ++ rest) G' (bc - mMc J (.ref a :: (S.take (mNa J)).reverse)) (bs - mMs J (.ref a :: (S.take (mNa J)).reverse))) (ab_exc I R X pc L (bc - mMc J (.ref a :: (S.take (mNa J)).reverse)) (bs - mMs J (.ref a :: (S.take (mNa J)).reverse)))) : R pc L (S) G bc bs := by
  refine hR _ _ _ _ _ _ ?_
  unfold ab_stp
  rw [hd]
  refine ⟨rfl, ?_⟩
  rw [hm]
  split
  · rename_i hq
    exact absurd (Option.some.inj hq) (by omega)
  · rename_i hq
    exact absurd (Option.some.inj hq) (by omega)
  · rename_i y9 n0 n4 hq
    obtain rfl := Option.some.inj hq
    rw [hJ]
    exact ⟨hst, hni, by unfold ab_callV; rw [hS]; exact ⟨hk, hn, hc, h1, h2, h⟩⟩
  · rename_i hq
    cases hq
theorem us_callN {i y a : Nat} {J : ab_Info} {rest : List Value} (hR : ab_Cl d Γ o I scL scX P X R) (hd : decode (mCd I) pc = .ok (.invokespecial i, 3)) (hm0 : ab_mR o i = none) (hm : ab_nR o i = some y) (hJ : ab_M y = some J) (hst : mSt J = false) (hni : ab_ini J = true) (hS : S.drop (mNa J) = .ref a :: rest) (hk : gK G a = mCi J) (hn : (S.take (mNa J)).length = mNa J) (hc : ab_cat rest ≤ 8) (h1 : mMc J (.ref a :: (S.take (mNa J)).reverse) ≤ bc) (h2 : mMs J (.ref a :: (S.take (mNa J)).reverse) ≤ bs) (h : Γ y (.ref a :: (S.take (mNa J)).reverse) G (fun G' v => R (pc + 3) L (v.toList ++ rest) G' (bc - mMc J (.ref a :: (S.take (mNa J)).reverse)) (bs - mMs J (.ref a :: (S.take (mNa J)).reverse))) (ab_exc I R X pc L (bc - mMc J (.ref a :: (S.take (mNa J)).reverse)) (bs - mMs J (.ref a :: (S.take (mNa J)).reverse)))) : R pc L (S) G bc bs := by
  refine hR _ _ _ _ _ _ ?_
  unfold ab_stp
  rw [hd]
  refine ⟨rfl, ?_⟩
  rw [hm0]
  dsimp only
  rw [hm]
  dsimp only
  rw [hJ]
  exact ⟨hst, hni, by unfold ab_callV; rw [hS]; exact ⟨hk, hn, hc, h1, h2, h⟩⟩
theorem us_callS {i y : Nat} {J : ab_Info} {rest : List Value} (hR : ab_Cl d Γ o I scL scX P X R) (hd : decode (mCd I) pc = .ok (.invokestatic i, 3)) (hm : ab_mR o i = some y) (hy : 10 ≤ y ∧ y ≠ 13000) (hJ : ab_M y = some J) (hst : mSt J = true) (hn : (S.take (mNa J)).length = mNa J) (hS : S.drop (mNa J) = rest) (hc : ab_cat rest ≤ 8) (h1 : mMc J ((S.take (mNa J)).reverse) ≤ bc) (h2 : mMs J ((S.take (mNa J)).reverse) ≤ bs) (h : Γ y ((S.take (mNa J)).reverse) G (fun G' v => R (pc + 3) L (v.toList ++ rest) G' (bc - mMc J ((S.take (mNa J)).reverse)) (bs - mMs J ((S.take (mNa J)).reverse))) (ab_exc I R X pc L (bc - mMc J ((S.take (mNa J)).reverse)) (bs - mMs J ((S.take (mNa J)).reverse)))) : R pc L (S) G bc bs := by
  refine hR _ _ _ _ _ _ ?_
  unfold ab_stp
  rw [hd]
  refine ⟨rfl, ?_⟩
  rw [hm]
  split
  · rename_i hq
    exact absurd (Option.some.inj hq) (by have := hy.1; omega)
  · rename_i hq
    exact absurd (Option.some.inj hq) (by have := hy.1; omega)
  · rename_i hq
    exact absurd (Option.some.inj hq) (by have := hy.1; omega)
  · rename_i y9 n1 n2 n3 hq
    obtain rfl := Option.some.inj hq
    rw [if_neg hy.2, hJ]
    exact ⟨hst, hn, by rw [hS]; exact ⟨hc, h1, h2, h⟩⟩
  · rename_i hq
    cases hq
theorem us_at {i : Nat} {y : Int32} {u : UInt32} {r : List Value} (hR : ab_Cl d Γ o I scL scX P X R) (hd : decode (mCd I) pc = .ok (.invokestatic i, 3)) (hm : ab_mR o i = some 13000) (hu : u.toNat = 0) (hn : scL ≠ 0 ∧ scL ≤ 100000) (h1 : 1 ≤ d) (hc : ab_cat r ≤ 8) (hk : 0 ≤ y.toInt) (h : R (pc + 3) L (.int (ab_at scL scX y) :: r) G bc bs) : R pc L (.int y :: .float u :: r) G bc bs := by
  refine hR _ _ _ _ _ _ ?_
  unfold ab_stp
  rw [hd]
  refine ⟨rfl, ?_⟩
  rw [hm]
  exact ⟨hu, hn, h1, hc, hk, h⟩
theorem us_pri5 {i a : Nat} {rest : List Value} (hR : ab_Cl d Γ o I scL scX P X R) (hd : decode (mCd I) pc = .ok (.invokevirtual i, 3)) (hm : ab_mR o i = some 5) (hS : S.drop 0 = .ref a :: rest) (hk : gK G a = 0) (hn : (S.take 0).length = 0) (hc : ab_cat rest ≤ 8) (h1 : 0 ≤ bc) (h2 : 0 ≤ bs) (h : Γ 5 (.ref a :: (S.take 0).reverse) G (fun G' v => R (pc + 3) L (v.toList ++ rest) G' (bc - 0) (bs - 0)) (ab_exc I R X pc L (bc - 0) (bs - 0))) : R pc L (S) G bc bs :=
  hR _ _ _ _ _ _ (by unfold ab_stp; rw [hd]; exact ⟨rfl, by rw [hm]; show ab_callV Γ I R X pc L S 5 (ab_pri 5) 0 0 G bc bs; unfold ab_callV; rw [hS]; exact ⟨hk, hn, hc, h1, h2, h⟩⟩)
theorem us_pri6 {i a : Nat} {rest : List Value} (hR : ab_Cl d Γ o I scL scX P X R) (hd : decode (mCd I) pc = .ok (.invokevirtual i, 3)) (hm : ab_mR o i = some 6) (hS : S.drop 1 = .ref a :: rest) (hk : gK G a = 0) (hn : (S.take 1).length = 1) (hc : ab_cat rest ≤ 8) (h1 : 0 ≤ bc) (h2 : 0 ≤ bs) (h : Γ 6 (.ref a :: (S.take 1).reverse) G (fun G' v => R (pc + 3) L (v.toList ++ rest) G' (bc - 0) (bs - 0)) (ab_exc I R X pc L (bc - 0) (bs - 0))) : R pc L (S) G bc bs :=
  hR _ _ _ _ _ _ (by unfold ab_stp; rw [hd]; exact ⟨rfl, by rw [hm]; show ab_callV Γ I R X pc L S 6 (ab_pri 6) 0 1 G bc bs; unfold ab_callV; rw [hS]; exact ⟨hk, hn, hc, h1, h2, h⟩⟩)
theorem us_pri7 {i a : Nat} {rest : List Value} (hR : ab_Cl d Γ o I scL scX P X R) (hd : decode (mCd I) pc = .ok (.invokevirtual i, 3)) (hm : ab_mR o i = some 7) (hS : S.drop 1 = .ref a :: rest) (hk : gK G a = 0) (hn : (S.take 1).length = 1) (hc : ab_cat rest ≤ 8) (h1 : 1 ≤ bc) (h2 : 40 ≤ bs) (h : Γ 7 (.ref a :: (S.take 1).reverse) G (fun G' v => R (pc + 3) L (v.toList ++ rest) G' (bc - 1) (bs - 40)) (ab_exc I R X pc L (bc - 1) (bs - 40))) : R pc L (S) G bc bs :=
  hR _ _ _ _ _ _ (by unfold ab_stp; rw [hd]; exact ⟨rfl, by rw [hm]; show ab_callV Γ I R X pc L S 7 (ab_pri 7) 0 1 G bc bs; unfold ab_callV; rw [hS]; exact ⟨hk, hn, hc, h1, h2, h⟩⟩)
theorem us_pri4 {i a : Nat} {rest : List Value} (hR : ab_Cl d Γ o I scL scX P X R) (hd : decode (mCd I) pc = .ok (.invokespecial i, 3)) (hm : ab_mR o i = some 4) (hk : gK G a = 0) (hc : ab_cat rest ≤ 8) (h : Γ 4 [.ref a] G (fun G' v => R (pc + 3) L (v.toList ++ rest) G' (bc - 0) (bs - 0)) (ab_exc I R X pc L (bc - 0) (bs - 0))) : R pc L (.ref a :: rest) G bc bs :=
  hR _ _ _ _ _ _ (by unfold ab_stp; rw [hd]; exact ⟨rfl, by rw [hm]; show ab_callV Γ I R X pc L _ 4 (ab_pri 4) 0 0 G bc bs; exact ⟨hk, rfl, hc, Nat.zero_le _, Nat.zero_le _, h⟩⟩)
theorem us_objInit {i a : Nat} (hR : ab_Cl d Γ o I scL scX P X R) (hd : decode (mCd I) pc = .ok (.invokespecial i, 3)) (hm : ab_mR o i = some 0) (hc : ab_cat r ≤ 8) (h : R (pc + 3) L r G bc bs) : R pc L (.ref a :: r) G bc bs :=
  hR _ _ _ _ _ _ (by unfold ab_stp; rw [hd]; exact ⟨rfl, by rw [hm]; exact ⟨hc, h⟩⟩)
theorem us_math1 {i : Nat} {x y : Int32} (hR : ab_Cl d Γ o I scL scX P X R) (hd : decode (mCd I) pc = .ok (.invokestatic i, 3)) (hm : ab_mR o i = some 1) (hc : ab_cat r ≤ 8) (h : R (pc + 3) L (.int (if x < y then y else x) :: r) G bc bs) : R pc L (.int y :: .int x :: r) G bc bs :=
  hR _ _ _ _ _ _ (by unfold ab_stp; rw [hd]; exact ⟨rfl, by rw [hm]; exact ⟨hc, h⟩⟩)
theorem us_math2 {i : Nat} {x y : Int32} (hR : ab_Cl d Γ o I scL scX P X R) (hd : decode (mCd I) pc = .ok (.invokestatic i, 3)) (hm : ab_mR o i = some 2) (hc : ab_cat r ≤ 8) (h : R (pc + 3) L (.int (if y < x then y else x) :: r) G bc bs) : R pc L (.int y :: .int x :: r) G bc bs :=
  hR _ _ _ _ _ _ (by unfold ab_stp; rw [hd]; exact ⟨rfl, by rw [hm]; exact ⟨hc, h⟩⟩)
theorem us_math3 {i : Nat} {x y : Int64} (hR : ab_Cl d Γ o I scL scX P X R) (hd : decode (mCd I) pc = .ok (.invokestatic i, 3)) (hm : ab_mR o i = some 3) (hc : ab_cat r ≤ 8) (h : R (pc + 3) L (.long (if y < x then y else x) :: r) G bc bs) : R pc L (.long y :: .long x :: r) G bc bs :=
  hR _ _ _ _ _ _ (by unfold ab_stp; rw [hd]; exact ⟨rfl, by rw [hm]; exact ⟨hc, h⟩⟩)
theorem us_strlen {i : Nat} {u : UInt32} (hR : ab_Cl d Γ o I scL scX P X R) (hd : decode (mCd I) pc = .ok (.invokevirtual i, 3)) (hm : ab_mR o i = some 8) (h1 : 1 ≤ u.toNat) (h2 : u.toNat ≤ 7) (hc : ab_cat r ≤ 8) (h : R (pc + 3) L (.int (Int32.ofNat (ab_tx (u.toNat - 1)).length) :: r) G bc bs) : R pc L (.float u :: r) G bc bs :=
  hR _ _ _ _ _ _ (by unfold ab_stp; rw [hd]; exact ⟨rfl, by rw [hm]; exact ⟨h1, h2, hc, h⟩⟩)
theorem us_strchar {i : Nat} {u : UInt32} {x : Int32} (hR : ab_Cl d Γ o I scL scX P X R) (hd : decode (mCd I) pc = .ok (.invokevirtual i, 3)) (hm : ab_mR o i = some 9) (h1 : 1 ≤ u.toNat) (h2 : u.toNat ≤ 7) (hc : ab_cat r ≤ 8) (hv : vp_in x (ab_tx (u.toNat - 1)).length) (h : R (pc + 3) L (.int ((ab_tx (u.toNat - 1)).getD x.toNatClampNeg 0) :: r) G bc bs) : R pc L (.int x :: .float u :: r) G bc bs :=
  hR _ _ _ _ _ _ (by unfold ab_stp; rw [hd]; exact ⟨rfl, by rw [hm]; exact ⟨h1, h2, hc, hv, h⟩⟩)
theorem us_iret {x : Int32} {t : FieldType} (hR : ab_Cl d Γ o I scL scX P X R) (hd : decode (mCd I) pc = .ok (.ireturn, 1)) (hr : mRt I = some t) (hn : narrow t (.int x) = .int x) (h : P G (some (.int x))) : R pc L ([.int x]) G bc bs :=
  hR _ _ _ _ _ _ (by unfold ab_stp; rw [hd]; exact ⟨rfl, by rw [hr]; exact ⟨hn, h⟩⟩)
theorem us_aret {a : Nat} {t : FieldType} (hR : ab_Cl d Γ o I scL scX P X R) (hd : decode (mCd I) pc = .ok (.areturn, 1)) (hr : mRt I = some t) (hn : ab_isR t = true) (h : P G (some (.ref a))) : R pc L ([.ref a]) G bc bs :=
  hR _ _ _ _ _ _ (by unfold ab_stp; rw [hd]; exact ⟨rfl, by rw [hr]; exact ⟨hn, h⟩⟩)
theorem us_aretN {t : FieldType} (hR : ab_Cl d Γ o I scL scX P X R) (hd : decode (mCd I) pc = .ok (.areturn, 1)) (hr : mRt I = some t) (hn : ab_isR t = true) (h : P G (some .null)) : R pc L ([.null]) G bc bs :=
  hR _ _ _ _ _ _ (by unfold ab_stp; rw [hd]; exact ⟨rfl, by rw [hr]; exact ⟨hn, h⟩⟩)
theorem us_vret  (hR : ab_Cl d Γ o I scL scX P X R) (hd : decode (mCd I) pc = .ok (.return_, 1)) (hr : mRt I = none) (h : P G none) : R pc L ([]) G bc bs :=
  hR _ _ _ _ _ _ (by unfold ab_stp; rw [hd]; exact ⟨rfl, rfl, hr, h⟩)
end USR
/-- the law's own way into the script, walked -/
theorem at_wp {d : Nat} {Γ : ab_Gm} {scL : Nat} {scX : Nat → Int32} {u : UInt32} {k : Int32} {G : ab_G} {P : ab_Pq} {X : ab_Xq} (hn : scL ≠ 0 ∧ scL ≤ 100000) (hu : u.toNat = 0) (hk : 0 ≤ k.toInt) (hP : P G (some (.int (ab_at scL scX k)))) : ab_Wp d Γ 13 i13000 scL scX P X 0 (ab_ent 2 [.float u, .int k]) [] G 0 0 := by
  intro R hR0
  have hR : ab_Cl d Γ 13 i13000 scL scX P X R := hR0
  change R 0 [some (.float u), some (.int k)] [] G 0 0
  have hl : (Int32.ofNat (scL - 1)).toInt = ((scL - 1 : Nat) : Int) := Int32.toInt_ofNat_of_lt (by have := hn.2; omega)
  refine us_iload_n hR dL_at_0 rfl ?_
  refine us_aload_nF hR dL_at_1 rfl ?_
  refine us_scrlen hR dL_at_2 hu hn.1 ?_
  refine us_icmp_ge hR dL_at_3 12 (by decide) (fun c => ?_) (fun c => ?_)
  · have c' : ¬ k < Int32.ofNat (scL - 1) := fun z => by
      have h1 := Int32.le_iff_toInt_le.mp c
      have h2 := Int32.lt_iff_toInt_lt.mp z
      omega
    unfold ab_at at hP
    rw [if_neg c'] at hP
    refine us_ldc hR dL_at_12 (v := 1139406805) (by decide +kernel) ?_
    refine us_iload_n hR dL_at_14 rfl ?_
    refine us_iconst hR dL_at_15 ?_
    refine us_iadd hR dL_at_16 ?_
    refine us_imul hR dL_at_17 ?_
    refine us_ldc hR dL_at_18 (v := 1555146979) (by decide +kernel) ?_
    refine us_iadd hR dL_at_20 ?_
    exact us_iret hR dL_at_21 rfl rfl hP
  · have c' : k < Int32.ofNat (scL - 1) := Int32.lt_iff_toInt_lt.mpr (by
      have h1 : ¬ (Int32.ofNat (scL - 1)).toInt ≤ k.toInt := fun z => c (Int32.le_iff_toInt_le.mpr z)
      omega)
    unfold ab_at at hP
    rw [if_pos c'] at hP
    have h2 := Int32.lt_iff_toInt_lt.mp c'
    refine us_aload_nF hR dL_at_6 rfl ?_
    refine us_iload_n hR dL_at_7 rfl ?_
    refine us_scr hR dL_at_8 hu (vp_in_iff.mpr (by omega)) ?_
    refine us_goto hR dL_at_9 21 (by decide) ?_
    exact us_iret hR dL_at_21 rfl rfl hP
