set_option maxRecDepth 20000 in
theorem ab_M13_ok : ∀ I ∈ ab_M13, ab_ok I := List.forall_mem_cons.mpr ⟨ok13000, List.forall_mem_cons.mpr ⟨ok13001, List.forall_mem_cons.mpr ⟨ok13002, List.forall_mem_cons.mpr ⟨ok13003, List.forall_mem_cons.mpr ⟨ok13004, List.forall_mem_cons.mpr ⟨ok13005, List.forall_mem_cons.mpr ⟨ok13006, List.forall_mem_cons.mpr ⟨ok13007, List.forall_mem_cons.mpr ⟨ok13008, List.forall_mem_cons.mpr ⟨ok13009, List.forall_mem_cons.mpr ⟨ok13010, List.forall_mem_cons.mpr ⟨ok13011, List.forall_mem_cons.mpr ⟨ok13012, List.forall_mem_cons.mpr ⟨ok13013, List.forall_mem_cons.mpr ⟨ok13014, List.forall_mem_cons.mpr ⟨ok13015, List.forall_mem_cons.mpr ⟨ok13016, List.forall_mem_cons.mpr ⟨ok13017, List.forall_mem_cons.mpr ⟨ok13018, List.forall_mem_cons.mpr ⟨ok13019, List.forall_mem_cons.mpr ⟨ok13020, List.forall_mem_cons.mpr ⟨ok13021, List.forall_mem_cons.mpr ⟨ok13022, List.forall_mem_cons.mpr ⟨ok13023, List.forall_mem_cons.mpr ⟨ok13024, List.forall_mem_cons.mpr ⟨ok13025, List.forall_mem_cons.mpr ⟨ok13026, List.forall_mem_cons.mpr ⟨ok13027, List.forall_mem_cons.mpr ⟨ok13028, List.forall_mem_cons.mpr ⟨ok13029, List.forall_mem_cons.mpr ⟨ok13030, List.forall_mem_cons.mpr ⟨ok13031, List.forall_mem_cons.mpr ⟨ok13032, List.forall_mem_cons.mpr ⟨ok13033, List.forall_mem_cons.mpr ⟨ok13034, List.forall_mem_cons.mpr ⟨ok13035, List.forall_mem_cons.mpr ⟨ok13036, List.forall_mem_cons.mpr ⟨ok13037, List.forall_mem_cons.mpr ⟨ok13038, List.forall_mem_cons.mpr ⟨ok13039, List.forall_mem_cons.mpr ⟨ok13040, List.forall_mem_cons.mpr ⟨ok13041, List.forall_mem_cons.mpr ⟨ok13042, fun _ h => absurd h List.not_mem_nil⟩⟩⟩⟩⟩⟩⟩⟩⟩⟩⟩⟩⟩⟩⟩⟩⟩⟩⟩⟩⟩⟩⟩⟩⟩⟩⟩⟩⟩⟩⟩⟩⟩⟩⟩⟩⟩⟩⟩⟩⟩⟩⟩
theorem ab_ML_ok : ∀ K ∈ ab_ML, ∀ I ∈ K, ab_ok I := List.forall_mem_cons.mpr ⟨fun _ h => absurd h List.not_mem_nil, List.forall_mem_cons.mpr ⟨ab_M1_ok, List.forall_mem_cons.mpr ⟨ab_M2_ok, List.forall_mem_cons.mpr ⟨ab_M3_ok, List.forall_mem_cons.mpr ⟨ab_M4_ok, List.forall_mem_cons.mpr ⟨ab_M5_ok, List.forall_mem_cons.mpr ⟨ab_M6_ok, List.forall_mem_cons.mpr ⟨ab_M7_ok, List.forall_mem_cons.mpr ⟨ab_M8_ok, List.forall_mem_cons.mpr ⟨ab_M9_ok, List.forall_mem_cons.mpr ⟨ab_M10_ok, List.forall_mem_cons.mpr ⟨ab_M11_ok, List.forall_mem_cons.mpr ⟨ab_M12_ok, List.forall_mem_cons.mpr ⟨ab_M13_ok, fun _ h => absurd h List.not_mem_nil⟩⟩⟩⟩⟩⟩⟩⟩⟩⟩⟩⟩⟩⟩
theorem ab_M_ok {y : Nat} {I : ab_Info} (h : ab_M y = some I) : ab_ok I := by
  unfold ab_M at h
  cases hq : ab_ML[y / 1000]? with
  | none => rw [hq] at h; simp at h
  | some K =>
    rw [hq] at h
    exact ab_ML_ok K (List.mem_of_getElem? hq) I (List.mem_of_getElem? h)
theorem ab_cl_get : ∀ {ci : Nat}, ci < 13 → vwCl[ci]? = some (ab_own ci, ab_T ci, ab_nf ci)
  | 0, _ => rfl
  | 1, _ => rfl
  | 2, _ => rfl
  | 3, _ => rfl
  | 4, _ => rfl
  | 5, _ => rfl
  | 6, _ => rfl
  | 7, _ => rfl
  | 8, _ => rfl
  | 9, _ => rfl
  | 10, _ => rfl
  | 11, _ => rfl
  | 12, _ => rfl
  | n + 13, h => absurd h (by omega)
theorem ab_in0 : ∀ w ∈ u_ws (ab_own 0) (ab_T 0) (ab_nf 0), w ∈ ab_W := by
  intro w hw
  refine List.mem_filter.mpr ⟨?_, ?_⟩
  · exact (show ∀ w ∈ u_ws RJx4a65c TJx4a65c 3, w ∈ lw_tbl by decide +kernel) w hw
  · exact (show ∀ w ∈ u_ws RJx4a65c TJx4a65c 3, goodWord w = true by decide +kernel) w hw
theorem ab_in1 : ∀ w ∈ u_ws (ab_own 1) (ab_T 1) (ab_nf 1), w ∈ ab_W := by
  intro w hw
  refine List.mem_filter.mpr ⟨?_, ?_⟩
  · exact (show ∀ w ∈ u_ws RX0 TX0 8, w ∈ lw_tbl by decide +kernel) w hw
  · exact (show ∀ w ∈ u_ws RX0 TX0 8, goodWord w = true by decide +kernel) w hw
theorem ab_in2 : ∀ w ∈ u_ws (ab_own 2) (ab_T 2) (ab_nf 2), w ∈ ab_W := by
  intro w hw
  refine List.mem_filter.mpr ⟨?_, ?_⟩
  · exact (show ∀ w ∈ u_ws RX1 TX1 4, w ∈ lw_tbl by decide +kernel) w hw
  · exact (show ∀ w ∈ u_ws RX1 TX1 4, goodWord w = true by decide +kernel) w hw
theorem ab_in3 : ∀ w ∈ u_ws (ab_own 3) (ab_T 3) (ab_nf 3), w ∈ ab_W := by
  intro w hw
  refine List.mem_filter.mpr ⟨?_, ?_⟩
  · exact (show ∀ w ∈ u_ws RX2 TX2 4, w ∈ lw_tbl by decide +kernel) w hw
  · exact (show ∀ w ∈ u_ws RX2 TX2 4, goodWord w = true by decide +kernel) w hw
theorem ab_in4 : ∀ w ∈ u_ws (ab_own 4) (ab_T 4) (ab_nf 4), w ∈ ab_W := by
  intro w hw
  refine List.mem_filter.mpr ⟨?_, ?_⟩
  · exact (show ∀ w ∈ u_ws RX3 TX3 11, w ∈ lw_tbl by decide +kernel) w hw
  · exact (show ∀ w ∈ u_ws RX3 TX3 11, goodWord w = true by decide +kernel) w hw
theorem ab_in5 : ∀ w ∈ u_ws (ab_own 5) (ab_T 5) (ab_nf 5), w ∈ ab_W := by
  intro w hw
  refine List.mem_filter.mpr ⟨?_, ?_⟩
  · exact (show ∀ w ∈ u_ws RX4 TX4 11, w ∈ lw_tbl by decide +kernel) w hw
  · exact (show ∀ w ∈ u_ws RX4 TX4 11, goodWord w = true by decide +kernel) w hw
theorem ab_in6 : ∀ w ∈ u_ws (ab_own 6) (ab_T 6) (ab_nf 6), w ∈ ab_W := by
  intro w hw
  refine List.mem_filter.mpr ⟨?_, ?_⟩
  · exact (show ∀ w ∈ u_ws RX5 TX5 2, w ∈ lw_tbl by decide +kernel) w hw
  · exact (show ∀ w ∈ u_ws RX5 TX5 2, goodWord w = true by decide +kernel) w hw
theorem ab_in7 : ∀ w ∈ u_ws (ab_own 7) (ab_T 7) (ab_nf 7), w ∈ ab_W := by
  intro w hw
  refine List.mem_filter.mpr ⟨?_, ?_⟩
  · exact (show ∀ w ∈ u_ws RX6 TX6 9, w ∈ lw_tbl by decide +kernel) w hw
  · exact (show ∀ w ∈ u_ws RX6 TX6 9, goodWord w = true by decide +kernel) w hw
theorem ab_in8 : ∀ w ∈ u_ws (ab_own 8) (ab_T 8) (ab_nf 8), w ∈ ab_W := by
  intro w hw
  refine List.mem_filter.mpr ⟨?_, ?_⟩
  · exact (show ∀ w ∈ u_ws RX7 TX7 7, w ∈ lw_tbl by decide +kernel) w hw
  · exact (show ∀ w ∈ u_ws RX7 TX7 7, goodWord w = true by decide +kernel) w hw
theorem ab_in9 : ∀ w ∈ u_ws (ab_own 9) (ab_T 9) (ab_nf 9), w ∈ ab_W := by
  intro w hw
  refine List.mem_filter.mpr ⟨?_, ?_⟩
  · exact (show ∀ w ∈ u_ws RX8 TX8 5, w ∈ lw_tbl by decide +kernel) w hw
  · exact (show ∀ w ∈ u_ws RX8 TX8 5, goodWord w = true by decide +kernel) w hw
theorem ab_in10 : ∀ w ∈ u_ws (ab_own 10) (ab_T 10) (ab_nf 10), w ∈ ab_W := by
  intro w hw
  refine List.mem_filter.mpr ⟨?_, ?_⟩
  · exact (show ∀ w ∈ u_ws RX9 TX9 7, w ∈ lw_tbl by decide +kernel) w hw
  · exact (show ∀ w ∈ u_ws RX9 TX9 7, goodWord w = true by decide +kernel) w hw
theorem ab_in11 : ∀ w ∈ u_ws (ab_own 11) (ab_T 11) (ab_nf 11), w ∈ ab_W := by
  intro w hw
  refine List.mem_filter.mpr ⟨?_, ?_⟩
  · exact (show ∀ w ∈ u_ws RX10 TX10 14, w ∈ lw_tbl by decide +kernel) w hw
  · exact (show ∀ w ∈ u_ws RX10 TX10 14, goodWord w = true by decide +kernel) w hw
theorem ab_in12 : ∀ w ∈ u_ws (ab_own 12) (ab_T 12) (ab_nf 12), w ∈ ab_W := by
  intro w hw
  refine List.mem_filter.mpr ⟨?_, ?_⟩
  · exact (show ∀ w ∈ u_ws RX7 TX7 7, w ∈ lw_tbl by decide +kernel) w hw
  · exact (show ∀ w ∈ u_ws RX7 TX7 7, goodWord w = true by decide +kernel) w hw
theorem ab_inW : ∀ {ci : Nat}, ci < 13 → ∀ w ∈ u_ws (ab_own ci) (ab_T ci) (ab_nf ci), w ∈ ab_W
  | 0, _ => ab_in0
  | 1, _ => ab_in1
  | 2, _ => ab_in2
  | 3, _ => ab_in3
  | 4, _ => ab_in4
  | 5, _ => ab_in5
  | 6, _ => ab_in6
  | 7, _ => ab_in7
  | 8, _ => ab_in8
  | 9, _ => ab_in9
  | 10, _ => ab_in10
  | 11, _ => ab_in11
  | 12, _ => ab_in12
  | n + 13, h => absurd h (by omega)
theorem ab_tyok : ∀ {ci : Nat}, ci < 13 → ∀ k, k < ab_nf ci → parseFieldDescriptor (ab_T ci k).2.2.1 = some (ab_ty ci k)
  | 0, _ => tyJx4a65c_ok
  | 1, _ => tyX0_ok
  | 2, _ => tyX1_ok
  | 3, _ => tyX2_ok
  | 4, _ => tyX3_ok
  | 5, _ => tyX4_ok
  | 6, _ => tyX5_ok
  | 7, _ => tyX6_ok
  | 8, _ => tyX7_ok
  | 9, _ => tyX8_ok
  | 10, _ => tyX9_ok
  | 11, _ => tyX10_ok
  | 12, _ => tyX7_ok
  | n + 13, h => absurd h (by omega)
theorem ab_nmok : ∀ {ci : Nat}, ci < 13 → ∀ a, a < ab_nf ci → ∀ b, b < ab_nf ci → a ≠ b → (ab_T ci a).2.1 ≠ (ab_T ci b).2.1
  | 0, _ => nmJx4a65c
  | 1, _ => nmX0
  | 2, _ => nmX1
  | 3, _ => nmX2
  | 4, _ => nmX3
  | 5, _ => nmX4
  | 6, _ => nmX5
  | 7, _ => nmX6
  | 8, _ => nmX7
  | 9, _ => nmX8
  | 10, _ => nmX9
  | 11, _ => nmX10
  | 12, _ => nmX7
  | n + 13, h => absurd h (by omega)
theorem ab_inst : ∀ {ci : Nat}, ci < 13 → Cond.instantiable (ab_own ci) (ab_nf ci) ∈ ab_W
  | 0, _ => ab_W_of (i := 325) (by decide +kernel) rfl
  | 1, _ => ab_W_of (i := 1282) (by decide +kernel) rfl
  | 2, _ => ab_W_of (i := 1421) (by decide +kernel) rfl
  | 3, _ => ab_W_of (i := 274) (by decide +kernel) rfl
  | 4, _ => ab_W_of (i := 114) (by decide +kernel) rfl
  | 5, _ => ab_W_of (i := 192) (by decide +kernel) rfl
  | 6, _ => ab_W_of (i := 100) (by decide +kernel) rfl
  | 7, _ => ab_W_of (i := 234) (by decide +kernel) rfl
  | 8, _ => ab_W_of (i := 1454) (by decide +kernel) rfl
  | 9, _ => ab_W_of (i := 120) (by decide +kernel) rfl
  | 10, _ => ab_W_of (i := 295) (by decide +kernel) rfl
  | 11, _ => ab_W_of (i := 92) (by decide +kernel) rfl
  | 12, _ => ab_W_of (i := 1454) (by decide +kernel) rfl
  | n + 13, h => absurd h (by omega)
theorem ab_init : ∀ {ci : Nat}, ci < 13 → Cond.initialized (ab_own ci) ∈ ab_W
  | 0, _ => ab_W_of (i := 72) (by decide +kernel) rfl
  | 1, _ => ab_W_of (i := 85) (by decide +kernel) rfl
  | 2, _ => ab_W_of (i := 89) (by decide +kernel) rfl
  | 3, _ => ab_W_of (i := 68) (by decide +kernel) rfl
  | 4, _ => ab_W_of (i := 64) (by decide +kernel) rfl
  | 5, _ => ab_W_of (i := 66) (by decide +kernel) rfl
  | 6, _ => ab_W_of (i := 63) (by decide +kernel) rfl
  | 7, _ => ab_W_of (i := 67) (by decide +kernel) rfl
  | 8, _ => ab_W_of (i := 90) (by decide +kernel) rfl
  | 9, _ => ab_W_of (i := 65) (by decide +kernel) rfl
  | 10, _ => ab_W_of (i := 69) (by decide +kernel) rfl
  | 11, _ => ab_W_of (i := 62) (by decide +kernel) rfl
  | 12, _ => ab_W_of (i := 90) (by decide +kernel) rfl
  | n + 13, h => absurd h (by omega)
theorem ab_decl : ∀ {ci : Nat}, ci < 13 → ci ≠ 0 → ∀ k, k < ab_nf ci → (ab_T ci k).1 = ab_own ci
  | 0, _, h => absurd rfl h
  | 1, _, _ => by decide +kernel
  | 2, _, _ => by decide +kernel
  | 3, _, _ => by decide +kernel
  | 4, _, _ => by decide +kernel
  | 5, _, _ => by decide +kernel
  | 6, _, _ => by decide +kernel
  | 7, _, _ => by decide +kernel
  | 8, _, _ => by decide +kernel
  | 9, _, _ => by decide +kernel
  | 10, _, _ => by decide +kernel
  | 11, _, _ => by decide +kernel
  | 12, _, _ => by decide +kernel
  | n + 13, h, _ => absurd h (by omega)
