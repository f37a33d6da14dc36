/-! the law: calls that are caught, by their shadows -/
noncomputable section
def h_13002 (me : Nat) (x0 : Int64) (T : Tx) : Option (Tx × Int32) := bW (h_11001 me x0 T) (wc true false false)
theorem sh_13002 {F : Nat → Prop} {d : Nat} {G : ab_G} {T : Tx} {P : ab_Pq} {X : ab_Xq} (h2 : Rep2 F G T) {me : Nat} (hme : tK T me = 12) {x0 : Int64} {o : Tx × Int32} (ho : h_13002 me x0 T = some o) (h : ∀ G1, Rep2 F G1 o.1 → SameF F G G1 → P G1 (some (.int o.2))) : ab_Gam (d + 11) 13002 [.ref me, .long x0] G P X := by
  unfold h_13002 at ho
  refine ab_enter (I := i13002) rfl (Nat.le_of_ble_eq_true rfl) (fun R hR => ?_)
  change R _ _ _ _ 1 6
  refine us_aload_n hR dL_write_0 rfl ?_
  refine us_lload_n hR dL_write_1 rfl ?_
  refine us_callV hR dL_write_2 (y := 11001) (by decide +kernel) (by decide) (J := i11001) rfl rfl rfl rfl (H_sch h2 hme) rfl (Nat.le_of_ble_eq_true rfl) (Nat.le_of_ble_eq_true rfl) (Nat.le_of_ble_eq_true rfl) ?_
  rcases bW_ex ho with ⟨T1, v1, hq, rfl⟩ | ⟨T1, e1, c1, hq, hk, rfl⟩
  · refine sh_11001 h2 hq (fun G1 v hv r1 f1 => ?_) (fun G1 e he r1 f1 => ?_)
    · cases hv
      exact us_iret hR dL_write_5 rfl rfl (h G1 r1 f1)
    · cases he
  · refine sh_11001 h2 hq (fun G1 v hv r1 f1 => ?_) (fun G1 e he r1 f1 => ?_)
    · cases hv
    · cases he
      rcases wc_of hk with ⟨rfl, ha, rfl⟩ | ⟨rfl, ha, rfl⟩ | ⟨rfl, ha, rfl⟩
      · refine ex_nn 6 (by decide +kernel) dL_write_6 (Nat.le_of_ble_eq_true rfl) ?_
        refine us_ldc hR dL_write_7 (v := (-1000002)) (by decide +kernel) ?_
        exact us_iret hR dL_write_9 rfl rfl (h G1 r1 f1)
      · cases ha
      · cases ha
def h_13003 (me : Nat) (x0 : Int32) (T : Tx) : Option (Tx × Int32) := bW (h_11003 me x0 T) (wc true false false)
theorem sh_13003 {F : Nat → Prop} {d : Nat} {G : ab_G} {T : Tx} {P : ab_Pq} {X : ab_Xq} (h2 : Rep2 F G T) {me : Nat} (hme : tK T me = 12) {x0 : Int32} {o : Tx × Int32} (ho : h_13003 me x0 T = some o) (h : ∀ G1, Rep2 F G1 o.1 → SameF F G G1 → P G1 (some (.int o.2))) : ab_Gam (d + 11) 13003 [.ref me, .int x0] G P X := by
  unfold h_13003 at ho
  refine ab_enter (I := i13003) rfl (Nat.le_of_ble_eq_true rfl) (fun R hR => ?_)
  change R _ _ _ _ 1 6
  refine us_aload_n hR dL_erase_0 rfl ?_
  refine us_iload_n hR dL_erase_1 rfl ?_
  refine us_callV hR dL_erase_2 (y := 11003) (by decide +kernel) (by decide) (J := i11003) rfl rfl rfl rfl (H_sch h2 hme) rfl (Nat.le_of_ble_eq_true rfl) (Nat.le_of_ble_eq_true rfl) (Nat.le_of_ble_eq_true rfl) ?_
  rcases bW_ex ho with ⟨T1, v1, hq, rfl⟩ | ⟨T1, e1, c1, hq, hk, rfl⟩
  · refine sh_11003 h2 hq (fun G1 v hv r1 f1 => ?_) (fun G1 e he r1 f1 => ?_)
    · cases hv
      exact us_iret hR dL_erase_5 rfl rfl (h G1 r1 f1)
    · cases he
  · refine sh_11003 h2 hq (fun G1 v hv r1 f1 => ?_) (fun G1 e he r1 f1 => ?_)
    · cases hv
    · cases he
      rcases wc_of hk with ⟨rfl, ha, rfl⟩ | ⟨rfl, ha, rfl⟩ | ⟨rfl, ha, rfl⟩
      · refine ex_nn 6 (by decide +kernel) dL_erase_6 (Nat.le_of_ble_eq_true rfl) ?_
        refine us_ldc hR dL_erase_7 (v := (-1000002)) (by decide +kernel) ?_
        exact us_iret hR dL_erase_9 rfl rfl (h G1 r1 f1)
      · cases ha
      · cases ha
def h_13004 (me : Nat) (x0 : Int32) (T : Tx) : Option (Int32) := bWn (h_11005 me x0 T) (wc false true false)
theorem sh_13004 {F : Nat → Prop} {d : Nat} {G : ab_G} {T : Tx} {P : ab_Pq} {X : ab_Xq} (h2 : Rep2 F G T) {me : Nat} (hme : tK T me = 12) {x0 : Int32} {o : Int32} (ho : h_13004 me x0 T = some o) (h : P G (some (.int o))) : ab_Gam (d + 11) 13004 [.ref me, .int x0] G P X := by
  unfold h_13004 at ho
  refine ab_enter (I := i13004) rfl (Nat.le_of_ble_eq_true rfl) (fun R hR => ?_)
  change R _ _ _ _ 1 6
  refine us_aload_n hR dL_signAt_0 rfl ?_
  refine us_iload_n hR dL_signAt_1 rfl ?_
  refine us_callV hR dL_signAt_2 (y := 11005) (by decide +kernel) (by decide) (J := i11005) rfl rfl rfl rfl (H_sch h2 hme) rfl (Nat.le_of_ble_eq_true rfl) (Nat.le_of_ble_eq_true rfl) (Nat.le_of_ble_eq_true rfl) ?_
  rcases bWn_ex ho with ⟨v1, hq, rfl⟩ | ⟨e1, c1, hq, hk, rfl⟩
  · refine sh_11005 h2 hq (fun v hv => ?_) (fun e he => ?_)
    · cases hv
      exact us_iret hR dL_signAt_5 rfl rfl h
    · cases he
  · refine sh_11005 h2 hq (fun v hv => ?_) (fun e he => ?_)
    · cases hv
    · cases he
      rcases wc_of hk with ⟨rfl, ha, rfl⟩ | ⟨rfl, ha, rfl⟩ | ⟨rfl, ha, rfl⟩
      · cases ha
      · refine ex_nn 6 (by decide +kernel) dL_signAt_6 (Nat.le_of_ble_eq_true rfl) ?_
        refine us_ldc hR dL_signAt_7 (v := (-1000001)) (by decide +kernel) ?_
        exact us_iret hR dL_signAt_9 rfl rfl h
      · cases ha
def h_13005 (me : Nat)  (T : Tx) : Option (Tx × Int32) := bW (h_11008 me  T) (wc false false true)
theorem sh_13005 {F : Nat → Prop} {d : Nat} {G : ab_G} {T : Tx} {P : ab_Pq} {X : ab_Xq} (h2 : Rep2 F G T) {me : Nat} (hme : tK T me = 12)  {o : Tx × Int32} (ho : h_13005 me  T = some o) (h : ∀ G1, Rep2 F G1 o.1 → SameF F G G1 → P G1 (some (.int o.2))) : ab_Gam (d + 916) 13005 [.ref me] G P X := by
  unfold h_13005 at ho
  refine ab_enter (I := i13005) rfl (Nat.le_of_ble_eq_true rfl) (fun R hR => ?_)
  change R _ _ _ _ 41 3706
  refine us_aload_n hR dL_draftParts_0 rfl ?_
  refine us_callV hR dL_draftParts_1 (y := 11008) (by decide +kernel) (by decide) (J := i11008) rfl rfl rfl rfl (H_sch h2 hme) rfl (Nat.le_of_ble_eq_true rfl) (Nat.le_of_ble_eq_true rfl) (Nat.le_of_ble_eq_true rfl) ?_
  rcases bW_ex ho with ⟨T1, v1, hq, rfl⟩ | ⟨T1, e1, c1, hq, hk, rfl⟩
  · refine sh_11008 h2 hq (fun G1 v hv r1 f1 => ?_) (fun G1 e he r1 f1 => ?_)
    · cases hv
      exact us_iret hR dL_draftParts_4 rfl rfl (h G1 r1 f1)
    · cases he
  · refine sh_11008 h2 hq (fun G1 v hv r1 f1 => ?_) (fun G1 e he r1 f1 => ?_)
    · cases hv
    · cases he
      rcases wc_of hk with ⟨rfl, ha, rfl⟩ | ⟨rfl, ha, rfl⟩ | ⟨rfl, ha, rfl⟩
      · cases ha
      · cases ha
      · refine ex_nn 5 (by decide +kernel) dL_draftParts_5 (Nat.le_of_ble_eq_true rfl) ?_
        refine us_ldc hR dL_draftParts_6 (v := (-1000003)) (by decide +kernel) ?_
        exact us_iret hR dL_draftParts_8 rfl rfl (h G1 r1 f1)
def h_13006 (me : Nat) (x0 : Int32) (x1 : Int32) (x2 : Int32) (T : Tx) : Option (Tx × Int32) := bW (h_11009 me x0 x1 x2 T) (wc true false true)
theorem sh_13006 {F : Nat → Prop} {d : Nat} {G : ab_G} {T : Tx} {P : ab_Pq} {X : ab_Xq} (h2 : Rep2 F G T) {me : Nat} (hme : tK T me = 12) {x0 : Int32} {x1 : Int32} {x2 : Int32} {o : Tx × Int32} (ho : h_13006 me x0 x1 x2 T = some o) (h : ∀ G1, Rep2 F G1 o.1 → SameF F G G1 → P G1 (some (.int o.2))) : ab_Gam (d + 916) 13006 [.ref me, .int x0, .int x1, .int x2] G P X := by
  unfold h_13006 at ho
  refine ab_enter (I := i13006) rfl (Nat.le_of_ble_eq_true rfl) (fun R hR => ?_)
  change R _ _ _ _ 42 3712
  refine us_aload_n hR dL_trial_0 rfl ?_
  refine us_iload_n hR dL_trial_1 rfl ?_
  refine us_iload_n hR dL_trial_2 rfl ?_
  refine us_iload_n hR dL_trial_3 rfl ?_
  refine us_callV hR dL_trial_4 (y := 11009) (by decide +kernel) (by decide) (J := i11009) rfl rfl rfl rfl (H_sch h2 hme) rfl (Nat.le_of_ble_eq_true rfl) (Nat.le_of_ble_eq_true rfl) (Nat.le_of_ble_eq_true rfl) ?_
  rcases bW_ex ho with ⟨T1, v1, hq, rfl⟩ | ⟨T1, e1, c1, hq, hk, rfl⟩
  · refine sh_11009 h2 hq (fun G1 v hv r1 f1 => ?_) (fun G1 e he r1 f1 => ?_)
    · cases hv
      exact us_iret hR dL_trial_7 rfl rfl (h G1 r1 f1)
    · cases he
  · refine sh_11009 h2 hq (fun G1 v hv r1 f1 => ?_) (fun G1 e he r1 f1 => ?_)
    · cases hv
    · cases he
      rcases wc_of hk with ⟨rfl, ha, rfl⟩ | ⟨rfl, ha, rfl⟩ | ⟨rfl, ha, rfl⟩
      · refine ex_w 8 (by decide +kernel) dL_trial_8 (Nat.le_of_ble_eq_true rfl) ?_
        refine us_ldc hR dL_trial_10 (v := (-1000002)) (by decide +kernel) ?_
        exact us_iret hR dL_trial_12 rfl rfl (h G1 r1 f1)
      · cases ha
      · refine ex_w 13 (by decide +kernel) dL_trial_13 (Nat.le_of_ble_eq_true rfl) ?_
        refine us_ldc hR dL_trial_15 (v := (-1000003)) (by decide +kernel) ?_
        exact us_iret hR dL_trial_17 rfl rfl (h G1 r1 f1)
def h_13007 (me : Nat) (x0 : Int32) (x1 : Int32) (x2 : Int32) (T : Tx) : Option (Tx × Int32) := bW (h_11010 me x0 x1 x2 T) (wc true false true)
theorem sh_13007 {F : Nat → Prop} {d : Nat} {G : ab_G} {T : Tx} {P : ab_Pq} {X : ab_Xq} (h2 : Rep2 F G T) {me : Nat} (hme : tK T me = 12) {x0 : Int32} {x1 : Int32} {x2 : Int32} {o : Tx × Int32} (ho : h_13007 me x0 x1 x2 T = some o) (h : ∀ G1, Rep2 F G1 o.1 → SameF F G G1 → P G1 (some (.int o.2))) : ab_Gam (d + 916) 13007 [.ref me, .int x0, .int x1, .int x2] G P X := by
  unfold h_13007 at ho
  refine ab_enter (I := i13007) rfl (Nat.le_of_ble_eq_true rfl) (fun R hR => ?_)
  change R _ _ _ _ 42 3712
  refine us_aload_n hR dL_trialByTree_0 rfl ?_
  refine us_iload_n hR dL_trialByTree_1 rfl ?_
  refine us_iload_n hR dL_trialByTree_2 rfl ?_
  refine us_iload_n hR dL_trialByTree_3 rfl ?_
  refine us_callV hR dL_trialByTree_4 (y := 11010) (by decide +kernel) (by decide) (J := i11010) rfl rfl rfl rfl (H_sch h2 hme) rfl (Nat.le_of_ble_eq_true rfl) (Nat.le_of_ble_eq_true rfl) (Nat.le_of_ble_eq_true rfl) ?_
  rcases bW_ex ho with ⟨T1, v1, hq, rfl⟩ | ⟨T1, e1, c1, hq, hk, rfl⟩
  · refine sh_11010 h2 hq (fun G1 v hv r1 f1 => ?_) (fun G1 e he r1 f1 => ?_)
    · cases hv
      exact us_iret hR dL_trialByTree_7 rfl rfl (h G1 r1 f1)
    · cases he
  · refine sh_11010 h2 hq (fun G1 v hv r1 f1 => ?_) (fun G1 e he r1 f1 => ?_)
    · cases hv
    · cases he
      rcases wc_of hk with ⟨rfl, ha, rfl⟩ | ⟨rfl, ha, rfl⟩ | ⟨rfl, ha, rfl⟩
      · refine ex_w 8 (by decide +kernel) dL_trialByTree_8 (Nat.le_of_ble_eq_true rfl) ?_
        refine us_ldc hR dL_trialByTree_10 (v := (-1000002)) (by decide +kernel) ?_
        exact us_iret hR dL_trialByTree_12 rfl rfl (h G1 r1 f1)
      · cases ha
      · refine ex_w 13 (by decide +kernel) dL_trialByTree_13 (Nat.le_of_ble_eq_true rfl) ?_
        refine us_ldc hR dL_trialByTree_15 (v := (-1000003)) (by decide +kernel) ?_
        exact us_iret hR dL_trialByTree_17 rfl rfl (h G1 r1 f1)
def h_13008 (me : Nat) (x0 : Int32) (T : Tx) : Option (Int32) := bWn (h_11012 me x0 T) (wc false true false)
theorem sh_13008 {F : Nat → Prop} {d : Nat} {G : ab_G} {T : Tx} {P : ab_Pq} {X : ab_Xq} (h2 : Rep2 F G T) {me : Nat} (hme : tK T me = 12) {x0 : Int32} {o : Int32} (ho : h_13008 me x0 T = some o) (h : P G (some (.int o))) : ab_Gam (d + 11) 13008 [.ref me, .int x0] G P X := by
  unfold h_13008 at ho
  refine ab_enter (I := i13008) rfl (Nat.le_of_ble_eq_true rfl) (fun R hR => ?_)
  change R _ _ _ _ 1 6
  refine us_aload_n hR dL_outputAt_0 rfl ?_
  refine us_iload_n hR dL_outputAt_1 rfl ?_
  refine us_callV hR dL_outputAt_2 (y := 11012) (by decide +kernel) (by decide) (J := i11012) rfl rfl rfl rfl (H_sch h2 hme) rfl (Nat.le_of_ble_eq_true rfl) (Nat.le_of_ble_eq_true rfl) (Nat.le_of_ble_eq_true rfl) ?_
  rcases bWn_ex ho with ⟨v1, hq, rfl⟩ | ⟨e1, c1, hq, hk, rfl⟩
  · refine sh_11012 h2 hq (fun v hv => ?_) (fun e he => ?_)
    · cases hv
      exact us_iret hR dL_outputAt_5 rfl rfl h
    · cases he
  · refine sh_11012 h2 hq (fun v hv => ?_) (fun e he => ?_)
    · cases hv
    · cases he
      rcases wc_of hk with ⟨rfl, ha, rfl⟩ | ⟨rfl, ha, rfl⟩ | ⟨rfl, ha, rfl⟩
      · cases ha
      · refine ex_nn 6 (by decide +kernel) dL_outputAt_6 (Nat.le_of_ble_eq_true rfl) ?_
        refine us_ldc hR dL_outputAt_7 (v := (-1000001)) (by decide +kernel) ?_
        exact us_iret hR dL_outputAt_9 rfl rfl h
      · cases ha
def h_13009 (me : Nat) (x0 : Int32) (T : Tx) : Option (Int32) := bWn (h_11014 me x0 T) (wc false true false)
theorem sh_13009 {F : Nat → Prop} {d : Nat} {G : ab_G} {T : Tx} {P : ab_Pq} {X : ab_Xq} (h2 : Rep2 F G T) {me : Nat} (hme : tK T me = 12) {x0 : Int32} {o : Int32} (ho : h_13009 me x0 T = some o) (h : P G (some (.int o))) : ab_Gam (d + 11) 13009 [.ref me, .int x0] G P X := by
  unfold h_13009 at ho
  refine ab_enter (I := i13009) rfl (Nat.le_of_ble_eq_true rfl) (fun R hR => ?_)
  change R _ _ _ _ 1 6
  refine us_aload_n hR dL_cellAt_0 rfl ?_
  refine us_iload_n hR dL_cellAt_1 rfl ?_
  refine us_callV hR dL_cellAt_2 (y := 11014) (by decide +kernel) (by decide) (J := i11014) rfl rfl rfl rfl (H_sch h2 hme) rfl (Nat.le_of_ble_eq_true rfl) (Nat.le_of_ble_eq_true rfl) (Nat.le_of_ble_eq_true rfl) ?_
  rcases bWn_ex ho with ⟨v1, hq, rfl⟩ | ⟨e1, c1, hq, hk, rfl⟩
  · refine sh_11014 h2 hq (fun v hv => ?_) (fun e he => ?_)
    · cases hv
      exact us_iret hR dL_cellAt_5 rfl rfl h
    · cases he
  · refine sh_11014 h2 hq (fun v hv => ?_) (fun e he => ?_)
    · cases hv
    · cases he
      rcases wc_of hk with ⟨rfl, ha, rfl⟩ | ⟨rfl, ha, rfl⟩ | ⟨rfl, ha, rfl⟩
      · cases ha
      · refine ex_nn 6 (by decide +kernel) dL_cellAt_6 (Nat.le_of_ble_eq_true rfl) ?_
        refine us_ldc hR dL_cellAt_7 (v := (-1000001)) (by decide +kernel) ?_
        exact us_iret hR dL_cellAt_9 rfl rfl h
      · cases ha
def h_13010 (me : Nat) (x0 : Int32) (x1 : Int32) (T : Tx) : Option (Tx × Int32) := bW (h_11015 me x0 x1 T) (wc true false true)
theorem sh_13010 {F : Nat → Prop} {d : Nat} {G : ab_G} {T : Tx} {P : ab_Pq} {X : ab_Xq} (h2 : Rep2 F G T) {me : Nat} (hme : tK T me = 12) {x0 : Int32} {x1 : Int32} {o : Tx × Int32} (ho : h_13010 me x0 x1 T = some o) (h : ∀ G1, Rep2 F G1 o.1 → SameF F G G1 → P G1 (some (.int o.2))) : ab_Gam (d + 44) 13010 [.ref me, .int x0, .int x1] G P X := by
  unfold h_13010 at ho
  refine ab_enter (I := i13010) rfl (Nat.le_of_ble_eq_true rfl) (fun R hR => ?_)
  change R _ _ _ _ 6 80
  refine us_aload_n hR dL_addExercise_0 rfl ?_
  refine us_iload_n hR dL_addExercise_1 rfl ?_
  refine us_iload_n hR dL_addExercise_2 rfl ?_
  refine us_callV hR dL_addExercise_3 (y := 11015) (by decide +kernel) (by decide) (J := i11015) rfl rfl rfl rfl (H_sch h2 hme) rfl (Nat.le_of_ble_eq_true rfl) (Nat.le_of_ble_eq_true rfl) (Nat.le_of_ble_eq_true rfl) ?_
  rcases bW_ex ho with ⟨T1, v1, hq, rfl⟩ | ⟨T1, e1, c1, hq, hk, rfl⟩
  · refine sh_11015 h2 hq (fun G1 v hv r1 f1 => ?_) (fun G1 e he r1 f1 => ?_)
    · cases hv
      exact us_iret hR dL_addExercise_6 rfl rfl (h G1 r1 f1)
    · cases he
  · refine sh_11015 h2 hq (fun G1 v hv r1 f1 => ?_) (fun G1 e he r1 f1 => ?_)
    · cases hv
    · cases he
      rcases wc_of hk with ⟨rfl, ha, rfl⟩ | ⟨rfl, ha, rfl⟩ | ⟨rfl, ha, rfl⟩
      · refine ex_nn 7 (by decide +kernel) dL_addExercise_7 (Nat.le_of_ble_eq_true rfl) ?_
        refine us_ldc hR dL_addExercise_8 (v := (-1000002)) (by decide +kernel) ?_
        exact us_iret hR dL_addExercise_10 rfl rfl (h G1 r1 f1)
      · cases ha
      · refine ex_nn 11 (by decide +kernel) dL_addExercise_11 (Nat.le_of_ble_eq_true rfl) ?_
        refine us_ldc hR dL_addExercise_12 (v := (-1000003)) (by decide +kernel) ?_
        exact us_iret hR dL_addExercise_14 rfl rfl (h G1 r1 f1)
def h_13011 (me : Nat) (x0 : Int32) (x1 : Int32) (x2 : Int32) (x3 : Int32) (x4 : Int32) (x5 : Int32) (x6 : Int32) (T : Tx) : Option (Tx × Int32) := bW (h_11016 me x0 x1 x2 x3 x4 x5 x6 T) (wc true true true)
theorem sh_13011 {F : Nat → Prop} {d : Nat} {G : ab_G} {T : Tx} {P : ab_Pq} {X : ab_Xq} (h2 : Rep2 F G T) {me : Nat} (hme : tK T me = 12) {x0 : Int32} {x1 : Int32} {x2 : Int32} {x3 : Int32} {x4 : Int32} {x5 : Int32} {x6 : Int32} {o : Tx × Int32} (ho : h_13011 me x0 x1 x2 x3 x4 x5 x6 T = some o) (h : ∀ G1, Rep2 F G1 o.1 → SameF F G G1 → P G1 (some (.int o.2))) : ab_Gam (d + 44) 13011 [.ref me, .int x0, .int x1, .int x2, .int x3, .int x4, .int x5, .int x6] G P X := by
  unfold h_13011 at ho
  refine ab_enter (I := i13011) rfl (Nat.le_of_ble_eq_true rfl) (fun R hR => ?_)
  change R _ _ _ _ 8 120
  refine us_aload_n hR dL_addTest_0 rfl ?_
  refine us_iload_n hR dL_addTest_1 rfl ?_
  refine us_iload_n hR dL_addTest_2 rfl ?_
  refine us_iload_n hR dL_addTest_3 rfl ?_
  refine us_iload hR dL_addTest_4 rfl ?_
  refine us_iload hR dL_addTest_6 rfl ?_
  refine us_iload hR dL_addTest_8 rfl ?_
  refine us_iload hR dL_addTest_10 rfl ?_
  refine us_callV hR dL_addTest_12 (y := 11016) (by decide +kernel) (by decide) (J := i11016) rfl rfl rfl rfl (H_sch h2 hme) rfl (Nat.le_of_ble_eq_true rfl) (Nat.le_of_ble_eq_true rfl) (Nat.le_of_ble_eq_true rfl) ?_
  rcases bW_ex ho with ⟨T1, v1, hq, rfl⟩ | ⟨T1, e1, c1, hq, hk, rfl⟩
  · refine sh_11016 h2 hq (fun G1 v hv r1 f1 => ?_) (fun G1 e he r1 f1 => ?_)
    · cases hv
      exact us_iret hR dL_addTest_15 rfl rfl (h G1 r1 f1)
    · cases he
  · refine sh_11016 h2 hq (fun G1 v hv r1 f1 => ?_) (fun G1 e he r1 f1 => ?_)
    · cases hv
    · cases he
      rcases wc_of hk with ⟨rfl, ha, rfl⟩ | ⟨rfl, ha, rfl⟩ | ⟨rfl, ha, rfl⟩
      · refine ex_w 21 (by decide +kernel) dL_addTest_21 (Nat.le_of_ble_eq_true rfl) ?_
        refine us_ldc hR dL_addTest_23 (v := (-1000002)) (by decide +kernel) ?_
        exact us_iret hR dL_addTest_25 rfl rfl (h G1 r1 f1)
      · refine ex_w 16 (by decide +kernel) dL_addTest_16 (Nat.le_of_ble_eq_true rfl) ?_
        refine us_ldc hR dL_addTest_18 (v := (-1000001)) (by decide +kernel) ?_
        exact us_iret hR dL_addTest_20 rfl rfl (h G1 r1 f1)
      · refine ex_w 26 (by decide +kernel) dL_addTest_26 (Nat.le_of_ble_eq_true rfl) ?_
        refine us_ldc hR dL_addTest_28 (v := (-1000003)) (by decide +kernel) ?_
        exact us_iret hR dL_addTest_30 rfl rfl (h G1 r1 f1)
def h_13012 (me : Nat) (x0 : Int32) (x1 : Int32) (T : Tx) : Option (Tx × Int32) := bW (h_11017 me x0 x1 T) (wc false true true)
theorem sh_13012 {F : Nat → Prop} {d : Nat} {G : ab_G} {T : Tx} {P : ab_Pq} {X : ab_Xq} (h2 : Rep2 F G T) {me : Nat} (hme : tK T me = 12) {x0 : Int32} {x1 : Int32} {o : Tx × Int32} (ho : h_13012 me x0 x1 T = some o) (h : ∀ G1, Rep2 F G1 o.1 → SameF F G G1 → P G1 (some (.int o.2))) : ab_Gam (d + 46) 13012 [.ref me, .int x0, .int x1] G P X := by
  unfold h_13012 at ho
  refine ab_enter (I := i13012) rfl (Nat.le_of_ble_eq_true rfl) (fun R hR => ?_)
  change R _ _ _ _ 4 40
  refine us_aload_n hR dL_withdraw_0 rfl ?_
  refine us_iload_n hR dL_withdraw_1 rfl ?_
  refine us_iload_n hR dL_withdraw_2 rfl ?_
  refine us_callV hR dL_withdraw_3 (y := 11017) (by decide +kernel) (by decide) (J := i11017) rfl rfl rfl rfl (H_sch h2 hme) rfl (Nat.le_of_ble_eq_true rfl) (Nat.le_of_ble_eq_true rfl) (Nat.le_of_ble_eq_true rfl) ?_
  rcases bW_ex ho with ⟨T1, v1, hq, rfl⟩ | ⟨T1, e1, c1, hq, hk, rfl⟩
  · refine sh_11017 h2 hq (fun G1 v hv r1 f1 => ?_) (fun G1 e he r1 f1 => ?_)
    · cases hv
      exact us_iret hR dL_withdraw_6 rfl rfl (h G1 r1 f1)
    · cases he
  · refine sh_11017 h2 hq (fun G1 v hv r1 f1 => ?_) (fun G1 e he r1 f1 => ?_)
    · cases hv
    · cases he
      rcases wc_of hk with ⟨rfl, ha, rfl⟩ | ⟨rfl, ha, rfl⟩ | ⟨rfl, ha, rfl⟩
      · cases ha
      · refine ex_nn 7 (by decide +kernel) dL_withdraw_7 (Nat.le_of_ble_eq_true rfl) ?_
        refine us_ldc hR dL_withdraw_8 (v := (-1000001)) (by decide +kernel) ?_
        exact us_iret hR dL_withdraw_10 rfl rfl (h G1 r1 f1)
      · refine ex_nn 11 (by decide +kernel) dL_withdraw_11 (Nat.le_of_ble_eq_true rfl) ?_
        refine us_ldc hR dL_withdraw_12 (v := (-1000003)) (by decide +kernel) ?_
        exact us_iret hR dL_withdraw_14 rfl rfl (h G1 r1 f1)
def h_13013 (me : Nat) (x0 : Int32) (T : Tx) : Option (Tx × Int32) := bW (h_11018 me x0 T) (wc true false true)
theorem sh_13013 {F : Nat → Prop} {d : Nat} {G : ab_G} {T : Tx} {P : ab_Pq} {X : ab_Xq} (h2 : Rep2 F G T) {me : Nat} (hme : tK T me = 12) {x0 : Int32} {o : Tx × Int32} (ho : h_13013 me x0 T = some o) (h : ∀ G1, Rep2 F G1 o.1 → SameF F G G1 → P G1 (some (.int o.2))) : ab_Gam (d + 11) 13013 [.ref me, .int x0] G P X := by
  unfold h_13013 at ho
  refine ab_enter (I := i13013) rfl (Nat.le_of_ble_eq_true rfl) (fun R hR => ?_)
  change R _ _ _ _ 2 20
  refine us_aload_n hR dL_pass_0 rfl ?_
  refine us_iload_n hR dL_pass_1 rfl ?_
  refine us_callV hR dL_pass_2 (y := 11018) (by decide +kernel) (by decide) (J := i11018) rfl rfl rfl rfl (H_sch h2 hme) rfl (Nat.le_of_ble_eq_true rfl) (Nat.le_of_ble_eq_true rfl) (Nat.le_of_ble_eq_true rfl) ?_
  rcases bW_ex ho with ⟨T1, v1, hq, rfl⟩ | ⟨T1, e1, c1, hq, hk, rfl⟩
  · refine sh_11018 h2 hq (fun G1 v hv r1 f1 => ?_) (fun G1 e he r1 f1 => ?_)
    · cases hv
      exact us_iret hR dL_pass_5 rfl rfl (h G1 r1 f1)
    · cases he
  · refine sh_11018 h2 hq (fun G1 v hv r1 f1 => ?_) (fun G1 e he r1 f1 => ?_)
    · cases hv
    · cases he
      rcases wc_of hk with ⟨rfl, ha, rfl⟩ | ⟨rfl, ha, rfl⟩ | ⟨rfl, ha, rfl⟩
      · refine ex_nn 6 (by decide +kernel) dL_pass_6 (Nat.le_of_ble_eq_true rfl) ?_
        refine us_ldc hR dL_pass_7 (v := (-1000002)) (by decide +kernel) ?_
        exact us_iret hR dL_pass_9 rfl rfl (h G1 r1 f1)
      · cases ha
      · refine ex_nn 10 (by decide +kernel) dL_pass_10 (Nat.le_of_ble_eq_true rfl) ?_
        refine us_ldc hR dL_pass_11 (v := (-1000003)) (by decide +kernel) ?_
        exact us_iret hR dL_pass_13 rfl rfl (h G1 r1 f1)
def h_13014 (me : Nat) (x0 : Int32) (x1 : Int32) (T : Tx) : Option (Tx × Int32) := bW (h_11020 me x0 x1 T) (wc false true true)
theorem sh_13014 {F : Nat → Prop} {d : Nat} {G : ab_G} {T : Tx} {P : ab_Pq} {X : ab_Xq} (h2 : Rep2 F G T) {me : Nat} (hme : tK T me = 12) {x0 : Int32} {x1 : Int32} {o : Tx × Int32} (ho : h_13014 me x0 x1 T = some o) (h : ∀ G1, Rep2 F G1 o.1 → SameF F G G1 → P G1 (some (.int o.2))) : ab_Gam (d + 916) 13014 [.ref me, .int x0, .int x1] G P X := by
  unfold h_13014 at ho
  refine ab_enter (I := i13014) rfl (Nat.le_of_ble_eq_true rfl) (fun R hR => ?_)
  change R _ _ _ _ 130 9200
  refine us_aload_n hR dL_hand_0 rfl ?_
  refine us_iload_n hR dL_hand_1 rfl ?_
  refine us_iload_n hR dL_hand_2 rfl ?_
  refine us_callV hR dL_hand_3 (y := 11020) (by decide +kernel) (by decide) (J := i11020) rfl rfl rfl rfl (H_sch h2 hme) rfl (Nat.le_of_ble_eq_true rfl) (Nat.le_of_ble_eq_true rfl) (Nat.le_of_ble_eq_true rfl) ?_
  rcases bW_ex ho with ⟨T1, v1, hq, rfl⟩ | ⟨T1, e1, c1, hq, hk, rfl⟩
  · refine sh_11020 h2 hq (fun G1 v hv r1 f1 => ?_) (fun G1 e he r1 f1 => ?_)
    · cases hv
      exact us_iret hR dL_hand_6 rfl rfl (h G1 r1 f1)
    · cases he
  · refine sh_11020 h2 hq (fun G1 v hv r1 f1 => ?_) (fun G1 e he r1 f1 => ?_)
    · cases hv
    · cases he
      rcases wc_of hk with ⟨rfl, ha, rfl⟩ | ⟨rfl, ha, rfl⟩ | ⟨rfl, ha, rfl⟩
      · cases ha
      · refine ex_nn 7 (by decide +kernel) dL_hand_7 (Nat.le_of_ble_eq_true rfl) ?_
        refine us_ldc hR dL_hand_8 (v := (-1000001)) (by decide +kernel) ?_
        exact us_iret hR dL_hand_10 rfl rfl (h G1 r1 f1)
      · refine ex_nn 11 (by decide +kernel) dL_hand_11 (Nat.le_of_ble_eq_true rfl) ?_
        refine us_ldc hR dL_hand_12 (v := (-1000003)) (by decide +kernel) ?_
        exact us_iret hR dL_hand_14 rfl rfl (h G1 r1 f1)
def h_13015 (me : Nat) (x0 : Int32) (x1 : Int32) (T : Tx) : Option (Int32) := bWn (match h_11022 me x0 x1 T with | some (.inr v) => some (.inr (if v = 0 then 0 else 1)) | z => z) (wc false true false)
theorem sh_13015 {F : Nat → Prop} {d : Nat} {G : ab_G} {T : Tx} {P : ab_Pq} {X : ab_Xq} (h2 : Rep2 F G T) {me : Nat} (hme : tK T me = 12) {x0 : Int32} {x1 : Int32} {o : Int32} (ho : h_13015 me x0 x1 T = some o) (h : P G (some (.int o))) : ab_Gam (d + 45) 13015 [.ref me, .int x0, .int x1] G P X := by
  unfold h_13015 at ho
  refine ab_enter (I := i13015) rfl (Nat.le_of_ble_eq_true rfl) (fun R hR => ?_)
  change R _ _ _ _ 2 12
  refine us_aload_n hR dL_passes_0 rfl ?_
  refine us_iload_n hR dL_passes_1 rfl ?_
  refine us_iload_n hR dL_passes_2 rfl ?_
  refine us_callV hR dL_passes_3 (y := 11022) (by decide +kernel) (by decide) (J := i11022) rfl rfl rfl rfl (H_sch h2 hme) rfl (Nat.le_of_ble_eq_true rfl) (Nat.le_of_ble_eq_true rfl) (Nat.le_of_ble_eq_true rfl) ?_
  obtain ⟨w, hw⟩ : ∃ w, h_11022 me x0 x1 T = some w := by
    cases hq : h_11022 me x0 x1 T with
    | none => rw [hq] at ho; cases ho
    | some w => exact ⟨w, rfl⟩
  rw [hw] at ho
  refine sh_11022 h2 hw (fun v hv => ?_) (fun e he => ?_)
  · subst hv
    refine us_if_eq hR dL_passes_6 13 (by decide) (fun c => ?_) (fun c => ?_)
    · have ho2 : some (if v = 0 then (0 : Int32) else 1) = some o := ho
      rw [if_pos c] at ho2
      cases ho2
      refine us_iconstC hR dL_passes_13 (c := 0) (by decide) ?_
      exact us_iret hR dL_passes_14 rfl rfl h
    · have ho2 : some (if v = 0 then (0 : Int32) else 1) = some o := ho
      rw [if_neg c] at ho2
      cases ho2
      refine us_iconstC hR dL_passes_9 (c := 1) (by decide) ?_
      refine us_goto hR dL_passes_10 14 (by decide) ?_
      exact us_iret hR dL_passes_14 rfl rfl h
  · subst he
    have hk : wc false true false e = some o := ho
    rcases wc_of hk with ⟨rfl, ha, rfl⟩ | ⟨rfl, ha, rfl⟩ | ⟨rfl, ha, rfl⟩
    · cases ha
    · refine ex_nn 15 (by decide +kernel) dL_passes_15 (Nat.le_of_ble_eq_true rfl) ?_
      refine us_ldc hR dL_passes_16 (v := (-1000001)) (by decide +kernel) ?_
      exact us_iret hR dL_passes_18 rfl rfl h
    · cases ha
def h_13016 (me : Nat) (x0 : Int32) (x1 : Int32) (T : Tx) : Option (Int32) := bWn (h_11023 me x0 x1 T) (wc false true false)
theorem sh_13016 {F : Nat → Prop} {d : Nat} {G : ab_G} {T : Tx} {P : ab_Pq} {X : ab_Xq} (h2 : Rep2 F G T) {me : Nat} (hme : tK T me = 12) {x0 : Int32} {x1 : Int32} {o : Int32} (ho : h_13016 me x0 x1 T = some o) (h : P G (some (.int o))) : ab_Gam (d + 45) 13016 [.ref me, .int x0, .int x1] G P X := by
  unfold h_13016 at ho
  refine ab_enter (I := i13016) rfl (Nat.le_of_ble_eq_true rfl) (fun R hR => ?_)
  change R _ _ _ _ 2 12
  refine us_aload_n hR dL_endOf_0 rfl ?_
  refine us_iload_n hR dL_endOf_1 rfl ?_
  refine us_iload_n hR dL_endOf_2 rfl ?_
  refine us_callV hR dL_endOf_3 (y := 11023) (by decide +kernel) (by decide) (J := i11023) rfl rfl rfl rfl (H_sch h2 hme) rfl (Nat.le_of_ble_eq_true rfl) (Nat.le_of_ble_eq_true rfl) (Nat.le_of_ble_eq_true rfl) ?_
  rcases bWn_ex ho with ⟨v1, hq, rfl⟩ | ⟨e1, c1, hq, hk, rfl⟩
  · refine sh_11023 h2 hq (fun v hv => ?_) (fun e he => ?_)
    · cases hv
      exact us_iret hR dL_endOf_6 rfl rfl h
    · cases he
  · refine sh_11023 h2 hq (fun v hv => ?_) (fun e he => ?_)
    · cases hv
    · cases he
      rcases wc_of hk with ⟨rfl, ha, rfl⟩ | ⟨rfl, ha, rfl⟩ | ⟨rfl, ha, rfl⟩
      · cases ha
      · refine ex_nn 7 (by decide +kernel) dL_endOf_7 (Nat.le_of_ble_eq_true rfl) ?_
        refine us_ldc hR dL_endOf_8 (v := (-1000001)) (by decide +kernel) ?_
        exact us_iret hR dL_endOf_10 rfl rfl h
      · cases ha
def h_13017 (me : Nat) (x0 : Int32) (T : Tx) : Option (Int32) := bWn (h_11024 me x0 T) (wc false true false)
theorem sh_13017 {F : Nat → Prop} {d : Nat} {G : ab_G} {T : Tx} {P : ab_Pq} {X : ab_Xq} (h2 : Rep2 F G T) {me : Nat} (hme : tK T me = 12) {x0 : Int32} {o : Int32} (ho : h_13017 me x0 T = some o) (h : P G (some (.int o))) : ab_Gam (d + 44) 13017 [.ref me, .int x0] G P X := by
  unfold h_13017 at ho
  refine ab_enter (I := i13017) rfl (Nat.le_of_ble_eq_true rfl) (fun R hR => ?_)
  change R _ _ _ _ 1 6
  refine us_aload_n hR dL_points_0 rfl ?_
  refine us_iload_n hR dL_points_1 rfl ?_
  refine us_callV hR dL_points_2 (y := 11024) (by decide +kernel) (by decide) (J := i11024) rfl rfl rfl rfl (H_sch h2 hme) rfl (Nat.le_of_ble_eq_true rfl) (Nat.le_of_ble_eq_true rfl) (Nat.le_of_ble_eq_true rfl) ?_
  rcases bWn_ex ho with ⟨v1, hq, rfl⟩ | ⟨e1, c1, hq, hk, rfl⟩
  · refine sh_11024 h2 hq (fun v hv => ?_) (fun e he => ?_)
    · cases hv
      exact us_iret hR dL_points_5 rfl rfl h
    · cases he
  · refine sh_11024 h2 hq (fun v hv => ?_) (fun e he => ?_)
    · cases hv
    · cases he
      rcases wc_of hk with ⟨rfl, ha, rfl⟩ | ⟨rfl, ha, rfl⟩ | ⟨rfl, ha, rfl⟩
      · cases ha
      · refine ex_nn 6 (by decide +kernel) dL_points_6 (Nat.le_of_ble_eq_true rfl) ?_
        refine us_ldc hR dL_points_7 (v := (-1000001)) (by decide +kernel) ?_
        exact us_iret hR dL_points_9 rfl rfl h
      · cases ha
def h_13018 (me : Nat) (x0 : Int32) (T : Tx) : Option (Int32) := bWn (h_11025 me x0 T) (wc false true false)
theorem sh_13018 {F : Nat → Prop} {d : Nat} {G : ab_G} {T : Tx} {P : ab_Pq} {X : ab_Xq} (h2 : Rep2 F G T) {me : Nat} (hme : tK T me = 12) {x0 : Int32} {o : Int32} (ho : h_13018 me x0 T = some o) (h : P G (some (.int o))) : ab_Gam (d + 45) 13018 [.ref me, .int x0] G P X := by
  unfold h_13018 at ho
  refine ab_enter (I := i13018) rfl (Nat.le_of_ble_eq_true rfl) (fun R hR => ?_)
  change R _ _ _ _ 1 6
  refine us_aload_n hR dL_mark_0 rfl ?_
  refine us_iload_n hR dL_mark_1 rfl ?_
  refine us_callV hR dL_mark_2 (y := 11025) (by decide +kernel) (by decide) (J := i11025) rfl rfl rfl rfl (H_sch h2 hme) rfl (Nat.le_of_ble_eq_true rfl) (Nat.le_of_ble_eq_true rfl) (Nat.le_of_ble_eq_true rfl) ?_
  rcases bWn_ex ho with ⟨v1, hq, rfl⟩ | ⟨e1, c1, hq, hk, rfl⟩
  · refine sh_11025 h2 hq (fun v hv => ?_) (fun e he => ?_)
    · cases hv
      exact us_iret hR dL_mark_5 rfl rfl h
    · cases he
  · refine sh_11025 h2 hq (fun v hv => ?_) (fun e he => ?_)
    · cases hv
    · cases he
      rcases wc_of hk with ⟨rfl, ha, rfl⟩ | ⟨rfl, ha, rfl⟩ | ⟨rfl, ha, rfl⟩
      · cases ha
      · refine ex_nn 6 (by decide +kernel) dL_mark_6 (Nat.le_of_ble_eq_true rfl) ?_
        refine us_ldc hR dL_mark_7 (v := (-1000001)) (by decide +kernel) ?_
        exact us_iret hR dL_mark_9 rfl rfl h
      · cases ha
def h_13019 (me : Nat) (x0 : Int32) (T : Tx) : Option (Tx × Int32) := bW (h_11026 me x0 T) (wc false true false)
theorem sh_13019 {F : Nat → Prop} {d : Nat} {G : ab_G} {T : Tx} {P : ab_Pq} {X : ab_Xq} (h2 : Rep2 F G T) {me : Nat} (hme : tK T me = 12) {x0 : Int32} {o : Tx × Int32} (ho : h_13019 me x0 T = some o) (h : ∀ G1, Rep2 F G1 o.1 → SameF F G G1 → P G1 (some (.int o.2))) : ab_Gam (d + 45) 13019 [.ref me, .int x0] G P X := by
  unfold h_13019 at ho
  refine ab_enter (I := i13019) rfl (Nat.le_of_ble_eq_true rfl) (fun R hR => ?_)
  change R _ _ _ _ 9 54
  refine us_aload_n hR dL_markAnew_0 rfl ?_
  refine us_iload_n hR dL_markAnew_1 rfl ?_
  refine us_callV hR dL_markAnew_2 (y := 11026) (by decide +kernel) (by decide) (J := i11026) rfl rfl rfl rfl (H_sch h2 hme) rfl (Nat.le_of_ble_eq_true rfl) (Nat.le_of_ble_eq_true rfl) (Nat.le_of_ble_eq_true rfl) ?_
  rcases bW_ex ho with ⟨T1, v1, hq, rfl⟩ | ⟨T1, e1, c1, hq, hk, rfl⟩
  · refine sh_11026 h2 hq (fun G1 v hv r1 f1 => ?_) (fun G1 e he r1 f1 => ?_)
    · cases hv
      exact us_iret hR dL_markAnew_5 rfl rfl (h G1 r1 f1)
    · cases he
  · refine sh_11026 h2 hq (fun G1 v hv r1 f1 => ?_) (fun G1 e he r1 f1 => ?_)
    · cases hv
    · cases he
      rcases wc_of hk with ⟨rfl, ha, rfl⟩ | ⟨rfl, ha, rfl⟩ | ⟨rfl, ha, rfl⟩
      · cases ha
      · refine ex_nn 6 (by decide +kernel) dL_markAnew_6 (Nat.le_of_ble_eq_true rfl) ?_
        refine us_ldc hR dL_markAnew_7 (v := (-1000001)) (by decide +kernel) ?_
        exact us_iret hR dL_markAnew_9 rfl rfl (h G1 r1 f1)
      · cases ha
def h_13020 (me : Nat) (x0 : Int32) (x1 : Int32) (T : Tx) : Option (Int32) := bWn (h_11027 me x0 x1 T) (wc false true false)
theorem sh_13020 {F : Nat → Prop} {d : Nat} {G : ab_G} {T : Tx} {P : ab_Pq} {X : ab_Xq} (h2 : Rep2 F G T) {me : Nat} (hme : tK T me = 12) {x0 : Int32} {x1 : Int32} {o : Int32} (ho : h_13020 me x0 x1 T = some o) (h : P G (some (.int o))) : ab_Gam (d + 45) 13020 [.ref me, .int x0, .int x1] G P X := by
  unfold h_13020 at ho
  refine ab_enter (I := i13020) rfl (Nat.le_of_ble_eq_true rfl) (fun R hR => ?_)
  change R _ _ _ _ 2 12
  refine us_aload_n hR dL_best_0 rfl ?_
  refine us_iload_n hR dL_best_1 rfl ?_
  refine us_iload_n hR dL_best_2 rfl ?_
  refine us_callV hR dL_best_3 (y := 11027) (by decide +kernel) (by decide) (J := i11027) rfl rfl rfl rfl (H_sch h2 hme) rfl (Nat.le_of_ble_eq_true rfl) (Nat.le_of_ble_eq_true rfl) (Nat.le_of_ble_eq_true rfl) ?_
  rcases bWn_ex ho with ⟨v1, hq, rfl⟩ | ⟨e1, c1, hq, hk, rfl⟩
  · refine sh_11027 h2 hq (fun v hv => ?_) (fun e he => ?_)
    · cases hv
      exact us_iret hR dL_best_6 rfl rfl h
    · cases he
  · refine sh_11027 h2 hq (fun v hv => ?_) (fun e he => ?_)
    · cases hv
    · cases he
      rcases wc_of hk with ⟨rfl, ha, rfl⟩ | ⟨rfl, ha, rfl⟩ | ⟨rfl, ha, rfl⟩
      · cases ha
      · refine ex_nn 7 (by decide +kernel) dL_best_7 (Nat.le_of_ble_eq_true rfl) ?_
        refine us_ldc hR dL_best_8 (v := (-1000001)) (by decide +kernel) ?_
        exact us_iret hR dL_best_10 rfl rfl h
      · cases ha
def h_13021 (me : Nat) (x0 : Int32) (x1 : Int32) (T : Tx) : Option (Int32) := bWn (h_11028 me x0 x1 T) (wc false true false)
theorem sh_13021 {F : Nat → Prop} {d : Nat} {G : ab_G} {T : Tx} {P : ab_Pq} {X : ab_Xq} (h2 : Rep2 F G T) {me : Nat} (hme : tK T me = 12) {x0 : Int32} {x1 : Int32} {o : Int32} (ho : h_13021 me x0 x1 T = some o) (h : P G (some (.int o))) : ab_Gam (d + 45) 13021 [.ref me, .int x0, .int x1] G P X := by
  unfold h_13021 at ho
  refine ab_enter (I := i13021) rfl (Nat.le_of_ble_eq_true rfl) (fun R hR => ?_)
  change R _ _ _ _ 2 12
  refine us_aload_n hR dL_passed_0 rfl ?_
  refine us_iload_n hR dL_passed_1 rfl ?_
  refine us_iload_n hR dL_passed_2 rfl ?_
  refine us_callV hR dL_passed_3 (y := 11028) (by decide +kernel) (by decide) (J := i11028) rfl rfl rfl rfl (H_sch h2 hme) rfl (Nat.le_of_ble_eq_true rfl) (Nat.le_of_ble_eq_true rfl) (Nat.le_of_ble_eq_true rfl) ?_
  rcases bWn_ex ho with ⟨v1, hq, rfl⟩ | ⟨e1, c1, hq, hk, rfl⟩
  · refine sh_11028 h2 hq (fun v hv => ?_) (fun e he => ?_)
    · cases hv
      exact us_iret hR dL_passed_6 rfl rfl h
    · cases he
  · refine sh_11028 h2 hq (fun v hv => ?_) (fun e he => ?_)
    · cases hv
    · cases he
      rcases wc_of hk with ⟨rfl, ha, rfl⟩ | ⟨rfl, ha, rfl⟩ | ⟨rfl, ha, rfl⟩
      · cases ha
      · refine ex_nn 7 (by decide +kernel) dL_passed_7 (Nat.le_of_ble_eq_true rfl) ?_
        refine us_ldc hR dL_passed_8 (v := (-1000001)) (by decide +kernel) ?_
        exact us_iret hR dL_passed_10 rfl rfl h
      · cases ha
def h_13022 (me : Nat) (x0 : Int32) (T : Tx) : Option (Int32) := bWn (h_11029 me x0 T) (wc false true false)
theorem sh_13022 {F : Nat → Prop} {d : Nat} {G : ab_G} {T : Tx} {P : ab_Pq} {X : ab_Xq} (h2 : Rep2 F G T) {me : Nat} (hme : tK T me = 12) {x0 : Int32} {o : Int32} (ho : h_13022 me x0 T = some o) (h : P G (some (.int o))) : ab_Gam (d + 44) 13022 [.ref me, .int x0] G P X := by
  unfold h_13022 at ho
  refine ab_enter (I := i13022) rfl (Nat.le_of_ble_eq_true rfl) (fun R hR => ?_)
  change R _ _ _ _ 1 6
  refine us_aload_n hR dL_parts_0 rfl ?_
  refine us_iload_n hR dL_parts_1 rfl ?_
  refine us_callV hR dL_parts_2 (y := 11029) (by decide +kernel) (by decide) (J := i11029) rfl rfl rfl rfl (H_sch h2 hme) rfl (Nat.le_of_ble_eq_true rfl) (Nat.le_of_ble_eq_true rfl) (Nat.le_of_ble_eq_true rfl) ?_
  rcases bWn_ex ho with ⟨v1, hq, rfl⟩ | ⟨e1, c1, hq, hk, rfl⟩
  · refine sh_11029 h2 hq (fun v hv => ?_) (fun e he => ?_)
    · cases hv
      exact us_iret hR dL_parts_5 rfl rfl h
    · cases he
  · refine sh_11029 h2 hq (fun v hv => ?_) (fun e he => ?_)
    · cases hv
    · cases he
      rcases wc_of hk with ⟨rfl, ha, rfl⟩ | ⟨rfl, ha, rfl⟩ | ⟨rfl, ha, rfl⟩
      · cases ha
      · refine ex_nn 6 (by decide +kernel) dL_parts_6 (Nat.le_of_ble_eq_true rfl) ?_
        refine us_ldc hR dL_parts_7 (v := (-1000001)) (by decide +kernel) ?_
        exact us_iret hR dL_parts_9 rfl rfl h
      · cases ha
def h_13023 (me : Nat) (x0 : Int32) (x1 : Int32) (T : Tx) : Option (Int32) := bWn (h_11030 me x0 x1 T) (wc false true false)
theorem sh_13023 {F : Nat → Prop} {d : Nat} {G : ab_G} {T : Tx} {P : ab_Pq} {X : ab_Xq} (h2 : Rep2 F G T) {me : Nat} (hme : tK T me = 12) {x0 : Int32} {x1 : Int32} {o : Int32} (ho : h_13023 me x0 x1 T = some o) (h : P G (some (.int o))) : ab_Gam (d + 45) 13023 [.ref me, .int x0, .int x1] G P X := by
  unfold h_13023 at ho
  refine ab_enter (I := i13023) rfl (Nat.le_of_ble_eq_true rfl) (fun R hR => ?_)
  change R _ _ _ _ 3 18
  refine us_aload_n hR dL_common_0 rfl ?_
  refine us_iload_n hR dL_common_1 rfl ?_
  refine us_iload_n hR dL_common_2 rfl ?_
  refine us_callV hR dL_common_3 (y := 11030) (by decide +kernel) (by decide) (J := i11030) rfl rfl rfl rfl (H_sch h2 hme) rfl (Nat.le_of_ble_eq_true rfl) (Nat.le_of_ble_eq_true rfl) (Nat.le_of_ble_eq_true rfl) ?_
  rcases bWn_ex ho with ⟨v1, hq, rfl⟩ | ⟨e1, c1, hq, hk, rfl⟩
  · refine sh_11030 h2 hq (fun v hv => ?_) (fun e he => ?_)
    · cases hv
      exact us_iret hR dL_common_6 rfl rfl h
    · cases he
  · refine sh_11030 h2 hq (fun v hv => ?_) (fun e he => ?_)
    · cases hv
    · cases he
      rcases wc_of hk with ⟨rfl, ha, rfl⟩ | ⟨rfl, ha, rfl⟩ | ⟨rfl, ha, rfl⟩
      · cases ha
      · refine ex_nn 7 (by decide +kernel) dL_common_7 (Nat.le_of_ble_eq_true rfl) ?_
        refine us_ldc hR dL_common_8 (v := (-1000001)) (by decide +kernel) ?_
        exact us_iret hR dL_common_10 rfl rfl h
      · cases ha
def h_13024 (me : Nat) (x0 : Int32) (x1 : Int32) (T : Tx) : Option (Int32) := bWn (h_11031 me x0 x1 T) (wc false true false)
theorem sh_13024 {F : Nat → Prop} {d : Nat} {G : ab_G} {T : Tx} {P : ab_Pq} {X : ab_Xq} (h2 : Rep2 F G T) {me : Nat} (hme : tK T me = 12) {x0 : Int32} {x1 : Int32} {o : Int32} (ho : h_13024 me x0 x1 T = some o) (h : P G (some (.int o))) : ab_Gam (d + 46) 13024 [.ref me, .int x0, .int x1] G P X := by
  unfold h_13024 at ho
  refine ab_enter (I := i13024) rfl (Nat.le_of_ble_eq_true rfl) (fun R hR => ?_)
  change R _ _ _ _ 6 36
  refine us_aload_n hR dL_likeness_0 rfl ?_
  refine us_iload_n hR dL_likeness_1 rfl ?_
  refine us_iload_n hR dL_likeness_2 rfl ?_
  refine us_callV hR dL_likeness_3 (y := 11031) (by decide +kernel) (by decide) (J := i11031) rfl rfl rfl rfl (H_sch h2 hme) rfl (Nat.le_of_ble_eq_true rfl) (Nat.le_of_ble_eq_true rfl) (Nat.le_of_ble_eq_true rfl) ?_
  rcases bWn_ex ho with ⟨v1, hq, rfl⟩ | ⟨e1, c1, hq, hk, rfl⟩
  · refine sh_11031 h2 hq (fun v hv => ?_) (fun e he => ?_)
    · cases hv
      exact us_iret hR dL_likeness_6 rfl rfl h
    · cases he
  · refine sh_11031 h2 hq (fun v hv => ?_) (fun e he => ?_)
    · cases hv
    · cases he
      rcases wc_of hk with ⟨rfl, ha, rfl⟩ | ⟨rfl, ha, rfl⟩ | ⟨rfl, ha, rfl⟩
      · cases ha
      · refine ex_nn 7 (by decide +kernel) dL_likeness_7 (Nat.le_of_ble_eq_true rfl) ?_
        refine us_ldc hR dL_likeness_8 (v := (-1000001)) (by decide +kernel) ?_
        exact us_iret hR dL_likeness_10 rfl rfl h
      · cases ha
def h_13025 (me : Nat) (x0 : Int32) (x1 : Int32) (T : Tx) : Option (Tx × Int32) := bW (h_11032 me x0 x1 T) (wc false true true)
theorem sh_13025 {F : Nat → Prop} {d : Nat} {G : ab_G} {T : Tx} {P : ab_Pq} {X : ab_Xq} (h2 : Rep2 F G T) {me : Nat} (hme : tK T me = 12) {x0 : Int32} {x1 : Int32} {o : Tx × Int32} (ho : h_13025 me x0 x1 T = some o) (h : ∀ G1, Rep2 F G1 o.1 → SameF F G G1 → P G1 (some (.int o.2))) : ab_Gam (d + 47) 13025 [.ref me, .int x0, .int x1] G P X := by
  unfold h_13025 at ho
  refine ab_enter (I := i13025) rfl (Nat.le_of_ble_eq_true rfl) (fun R hR => ?_)
  change R _ _ _ _ 18 108
  refine us_aload_n hR dL_accuse_0 rfl ?_
  refine us_iload_n hR dL_accuse_1 rfl ?_
  refine us_iload_n hR dL_accuse_2 rfl ?_
  refine us_callV hR dL_accuse_3 (y := 11032) (by decide +kernel) (by decide) (J := i11032) rfl rfl rfl rfl (H_sch h2 hme) rfl (Nat.le_of_ble_eq_true rfl) (Nat.le_of_ble_eq_true rfl) (Nat.le_of_ble_eq_true rfl) ?_
  rcases bW_ex ho with ⟨T1, v1, hq, rfl⟩ | ⟨T1, e1, c1, hq, hk, rfl⟩
  · refine sh_11032 h2 hq (fun G1 v hv r1 f1 => ?_) (fun G1 e he r1 f1 => ?_)
    · cases hv
      exact us_iret hR dL_accuse_6 rfl rfl (h G1 r1 f1)
    · cases he
  · refine sh_11032 h2 hq (fun G1 v hv r1 f1 => ?_) (fun G1 e he r1 f1 => ?_)
    · cases hv
    · cases he
      rcases wc_of hk with ⟨rfl, ha, rfl⟩ | ⟨rfl, ha, rfl⟩ | ⟨rfl, ha, rfl⟩
      · cases ha
      · refine ex_nn 7 (by decide +kernel) dL_accuse_7 (Nat.le_of_ble_eq_true rfl) ?_
        refine us_ldc hR dL_accuse_8 (v := (-1000001)) (by decide +kernel) ?_
        exact us_iret hR dL_accuse_10 rfl rfl (h G1 r1 f1)
      · refine ex_nn 11 (by decide +kernel) dL_accuse_11 (Nat.le_of_ble_eq_true rfl) ?_
        refine us_ldc hR dL_accuse_12 (v := (-1000003)) (by decide +kernel) ?_
        exact us_iret hR dL_accuse_14 rfl rfl (h G1 r1 f1)
def h_13026 (me : Nat) (x0 : Int32) (T : Tx) : Option (Tx × Int32) := bW (h_11033 me x0 T) (wc false true true)
theorem sh_13026 {F : Nat → Prop} {d : Nat} {G : ab_G} {T : Tx} {P : ab_Pq} {X : ab_Xq} (h2 : Rep2 F G T) {me : Nat} (hme : tK T me = 12) {x0 : Int32} {o : Tx × Int32} (ho : h_13026 me x0 T = some o) (h : ∀ G1, Rep2 F G1 o.1 → SameF F G G1 → P G1 (some (.int o.2))) : ab_Gam (d + 45) 13026 [.ref me, .int x0] G P X := by
  unfold h_13026 at ho
  refine ab_enter (I := i13026) rfl (Nat.le_of_ble_eq_true rfl) (fun R hR => ?_)
  change R _ _ _ _ 2 12
  refine us_aload_n hR dL_clear_0 rfl ?_
  refine us_iload_n hR dL_clear_1 rfl ?_
  refine us_callV hR dL_clear_2 (y := 11033) (by decide +kernel) (by decide) (J := i11033) rfl rfl rfl rfl (H_sch h2 hme) rfl (Nat.le_of_ble_eq_true rfl) (Nat.le_of_ble_eq_true rfl) (Nat.le_of_ble_eq_true rfl) ?_
  rcases bW_ex ho with ⟨T1, v1, hq, rfl⟩ | ⟨T1, e1, c1, hq, hk, rfl⟩
  · refine sh_11033 h2 hq (fun G1 v hv r1 f1 => ?_) (fun G1 e he r1 f1 => ?_)
    · cases hv
      exact us_iret hR dL_clear_5 rfl rfl (h G1 r1 f1)
    · cases he
  · refine sh_11033 h2 hq (fun G1 v hv r1 f1 => ?_) (fun G1 e he r1 f1 => ?_)
    · cases hv
    · cases he
      rcases wc_of hk with ⟨rfl, ha, rfl⟩ | ⟨rfl, ha, rfl⟩ | ⟨rfl, ha, rfl⟩
      · cases ha
      · refine ex_nn 6 (by decide +kernel) dL_clear_6 (Nat.le_of_ble_eq_true rfl) ?_
        refine us_ldc hR dL_clear_7 (v := (-1000001)) (by decide +kernel) ?_
        exact us_iret hR dL_clear_9 rfl rfl (h G1 r1 f1)
      · refine ex_nn 10 (by decide +kernel) dL_clear_10 (Nat.le_of_ble_eq_true rfl) ?_
        refine us_ldc hR dL_clear_11 (v := (-1000003)) (by decide +kernel) ?_
        exact us_iret hR dL_clear_13 rfl rfl (h G1 r1 f1)
def h_13027 (me : Nat) (x0 : Int32) (T : Tx) : Option (Int32) := bWn (h_11034 me x0 T) (wc false true false)
theorem sh_13027 {F : Nat → Prop} {d : Nat} {G : ab_G} {T : Tx} {P : ab_Pq} {X : ab_Xq} (h2 : Rep2 F G T) {me : Nat} (hme : tK T me = 12) {x0 : Int32} {o : Int32} (ho : h_13027 me x0 T = some o) (h : P G (some (.int o))) : ab_Gam (d + 47) 13027 [.ref me, .int x0] G P X := by
  unfold h_13027 at ho
  refine ab_enter (I := i13027) rfl (Nat.le_of_ble_eq_true rfl) (fun R hR => ?_)
  change R _ _ _ _ 360 2200
  refine us_aload_n hR dL_doubt_0 rfl ?_
  refine us_iload_n hR dL_doubt_1 rfl ?_
  refine us_callV hR dL_doubt_2 (y := 11034) (by decide +kernel) (by decide) (J := i11034) rfl rfl rfl rfl (H_sch h2 hme) rfl (Nat.le_of_ble_eq_true rfl) (Nat.le_of_ble_eq_true rfl) (Nat.le_of_ble_eq_true rfl) ?_
  rcases bWn_ex ho with ⟨v1, hq, rfl⟩ | ⟨e1, c1, hq, hk, rfl⟩
  · refine sh_11034 h2 hq (fun v hv => ?_) (fun e he => ?_)
    · cases hv
      exact us_iret hR dL_doubt_5 rfl rfl h
    · cases he
  · refine sh_11034 h2 hq (fun v hv => ?_) (fun e he => ?_)
    · cases hv
    · cases he
      rcases wc_of hk with ⟨rfl, ha, rfl⟩ | ⟨rfl, ha, rfl⟩ | ⟨rfl, ha, rfl⟩
      · cases ha
      · refine ex_nn 6 (by decide +kernel) dL_doubt_6 (Nat.le_of_ble_eq_true rfl) ?_
        refine us_ldc hR dL_doubt_7 (v := (-1000001)) (by decide +kernel) ?_
        exact us_iret hR dL_doubt_9 rfl rfl h
      · cases ha
end
