/-! the abstract machine's steps are the machine's -/
theorem ab_fitb {x : Int32} (h : x &&& 1 = x) : x = 0 ∨ x = 1 := by
  have h1 : (x &&& 1).toBitVec.toNat = x.toBitVec.toNat := by rw [h]
  rw [Int32.toBitVec_and, BitVec.toNat_and] at h1
  have h2 : (1 : Int32).toBitVec.toNat = 1 := by decide
  rw [h2, Nat.and_one_is_mod] at h1
  have h3 : x.toBitVec.toNat = 0 ∨ x.toBitVec.toNat = 1 := by omega
  rcases h3 with h3 | h3
  · exact Or.inl (Int32.toBitVec_inj.mp (BitVec.eq_of_toNat_eq (by rw [h3]; decide)))
  · exact Or.inr (Int32.toBitVec_inj.mp (BitVec.eq_of_toNat_eq (by rw [h3]; decide)))
def ab_okT (t : FieldType) : Bool := match t with
  | .int => true
  | .boolean => true
  | .object _ => true
  | .array _ => true
  | _ => false
theorem ab_okTs : ∀ {ci : Nat}, ci < 13 → ∀ k, k < ab_nf ci → ab_okT (ab_ty ci k) = true
  | 0, _ => by decide +kernel
  | 1, _ => by decide +kernel
  | 2, _ => by decide +kernel
  | 3, _ => by decide +kernel
  | 4, _ => by decide +kernel
  | 5, _ => by decide +kernel
  | 6, _ => by decide +kernel
  | 7, _ => by decide +kernel
  | 8, _ => by decide +kernel
  | 9, _ => by decide +kernel
  | 10, _ => by decide +kernel
  | 11, _ => by decide +kernel
  | 12, _ => by decide +kernel
  | n + 13, h => absurd h (by omega)
theorem ab_fit2 {t : FieldType} (ht : ab_okT t = true) : (∀ x : Int32, ab_isR t = false → narrow t (.int x) = .int x → fits t (.int x) = true) ∧ (ab_isR t = true → ∀ v : Value, (v = .null ∨ ∃ a, v = .ref a) → narrow t v = v ∧ fits t v = true ∧ defaultValue t = .null) ∧ (ab_isR t = false → defaultValue t = .int 0) := by
  cases t with
  | int => exact ⟨fun _ _ _ => rfl, fun h => (by cases h), fun _ => rfl⟩
  | boolean =>
    refine ⟨fun x _ h => ?_, fun h => (by cases h), fun _ => rfl⟩
    have h1 : x &&& 1 = x := by
      have : Value.int (x &&& 1) = Value.int x := h
      injection this
    rcases ab_fitb h1 with h2 | h2 <;> subst h2 <;> decide
  | object C =>
    refine ⟨fun _ h => (by cases h), fun _ v hv => ?_, fun h => (by cases h)⟩
    rcases hv with rfl | ⟨a, rfl⟩ <;> exact ⟨rfl, rfl, rfl⟩
  | array C =>
    refine ⟨fun _ h => (by cases h), fun _ v hv => ?_, fun h => (by cases h)⟩
    rcases hv with rfl | ⟨a, rfl⟩ <;> exact ⟨rfl, rfl, rfl⟩
  | _ => cases ht
def ab_tys (cy : Nat → ClassId) : List (ClassId × FieldType) := [(cy 13, .int), (cy 14, .int), (cy 15, .int), (cy 16, .object "java/lang/Object"), (cy 17, .int)]
def ab_Rel (D : va_G) (cy : Nat → ClassId) (sp : Nat → Nat) (A : Nat → Prop) (H0 : Heap) (n : Nat) (ρ0 : Nat → Nat) (z0 t0 : Nat) (ρ : Nat → Nat) (H : Heap) (locs : List Loc) (ls : Array Slot) (L : List (Option Value)) (S : List Value) (G : ab_G) : Prop :=
  ab_LV (ab_cv ρ sp) ls n L ∧ va_P D vwCl (ab_ws cy ρ G) H ∧ va_D A (ab_ws cy ρ G) ∧ va_S A H0 H locs ∧ ab_cl G ∧ ab_Lo G L ∧ ab_So G S ∧ z0 ≤ gZ G ∧ (∀ a, a < z0 → ρ a = ρ0 a) ∧ ρ 1000000000 = t0
theorem ab_voi {G : ab_G} {x : Int32} : ab_vo G (.int x) := fun _ h => by cases h
theorem ab_vol {G : ab_G} {x : Int64} : ab_vo G (.long x) := fun _ h => by cases h
theorem ab_von {G : ab_G} : ab_vo G .null := fun _ h => by cases h
theorem ab_vof {G : ab_G} {u : UInt32} : ab_vo G (.float u) := fun _ h => by cases h
theorem ab_So_c {G : ab_G} {v : Value} {S : List Value} (h : ab_vo G v) (hS : ab_So G S) : ab_So G (v :: S) := by
  intro w hw
  rcases List.mem_cons.mp hw with rfl | hw
  · exact h
  · exact hS w hw
theorem ab_So_t {G : ab_G} {v : Value} {S : List Value} (h : ab_So G (v :: S)) : ab_So G S := fun w hw => h w (List.mem_cons_of_mem _ hw)
theorem ab_So_h {G : ab_G} {v : Value} {S : List Value} (h : ab_So G (v :: S)) : ab_vo G v := h v List.mem_cons_self
theorem ab_Lo_st {G : ab_G} {L : List (Option Value)} {i : Nat} {v : Value} (hL : ab_Lo G L) (hv : ab_vo G v) : ab_Lo G (ab_st1 L i v) := by
  intro w hw
  rcases ab_st1_mem hw with rfl | h
  · exact hv
  · exact hL w h
theorem ab_Lo_st2 {G : ab_G} {L : List (Option Value)} {i : Nat} {v : Value} (hL : ab_Lo G L) (hv : ab_vo G v) : ab_Lo G (ab_st2 L i v) := fun w hw => ab_Lo_st hL hv w (ab_set_none_mem hw)
theorem ab_Lo_kill {G : ab_G} {L : List (Option Value)} {i : Nat} (hL : ab_Lo G L) : ab_Lo G (ab_kill L i) := fun w hw => ab_Lo_st hL ab_von w (ab_set_none_mem hw)
theorem ab_Rel.S {D cy sp A H0 n ρ0 z0 t0 ρ H locs ls L S S' G} (h : ab_Rel D cy sp A H0 n ρ0 z0 t0 ρ H locs ls L S G) (hS : ab_So G S') : ab_Rel D cy sp A H0 n ρ0 z0 t0 ρ H locs ls L S' G := by
  obtain ⟨h1, h2, h3, h4, h5, h6, h7, h8, h9, h10⟩ := h
  exact ⟨h1, h2, h3, h4, h5, h6, hS, h8, h9, h10⟩
theorem ab_Rel.So {D cy sp A H0 n ρ0 z0 t0 ρ H locs ls L S G} (h : ab_Rel D cy sp A H0 n ρ0 z0 t0 ρ H locs ls L S G) : ab_So G S := h.2.2.2.2.2.2.1
theorem ab_Rel.Lo {D cy sp A H0 n ρ0 z0 t0 ρ H locs ls L S G} (h : ab_Rel D cy sp A H0 n ρ0 z0 t0 ρ H locs ls L S G) : ab_Lo G L := h.2.2.2.2.2.1
theorem ab_Rel.L {D cy sp A H0 n ρ0 z0 t0 ρ H locs ls ls' L L' S S' G} (h : ab_Rel D cy sp A H0 n ρ0 z0 t0 ρ H locs ls L S G) (hl : ab_LV (ab_cv ρ sp) ls' n L') (hL : ab_Lo G L') (hS : ab_So G S') : ab_Rel D cy sp A H0 n ρ0 z0 t0 ρ H locs ls' L' S' G := by
  obtain ⟨h1, h2, h3, h4, h5, h6, h7, h8, h9, h10⟩ := h
  exact ⟨hl, h2, h3, h4, h5, hL, hS, h8, h9, h10⟩
theorem ab_cel_o {cy ρ G a ci} (h : gK G a = ci) (hc : ci < 13) : ab_cel cy ρ G a = .inr (ci, ab_fs ρ G ci a) := by
  subst h
  exact if_pos hc
theorem ab_cel_i {cy ρ G a kd} (h : gK G a = kd) (hk : kd = 13 ∨ kd = 14 ∨ kd = 15) : ab_cel cy ρ G a = .inl (cy kd, gN G a, .inl (gI G a)) := by
  unfold ab_cel
  rw [h]
  rcases hk with rfl | rfl | rfl <;> rfl
theorem ab_cel_l {cy ρ G a} (h : gK G a = 17) : ab_cel cy ρ G a = .inl (cy 17, gN G a, .inr (.inl (gJ G a))) := by
  unfold ab_cel
  rw [h]
  rfl
theorem ab_isR_f {t : FieldType} (h : ab_isR t = false) : ¬ ab_isR t = true := by rw [h]; decide
theorem ab_ws_sIo {cy ρ G a ci k x} (h : gK G a = ci) (hc : ci < 13) (hr : ab_isR (ab_ty ci k) = false) : ab_ws cy ρ (sI G a k x) = (ab_ws cy ρ G).set a (ρ a, .inr (ci, (ab_fs ρ G ci a).set k (.int x))) := by
  rw [ab_ws_upd cy ρ G (sI G a k x) a rfl (fun b hb => ab_cel_sI cy ρ G a k x hb), ab_cel_o (G := sI G a k x) (ci := ci) h hc]
  have hg : gI (sI G a k x) a = fun j => if j = k then x else gI G a j := u2_s _ _ _ _
  rw [ab_fs_set ρ G (sI G a k x) ci a (k := k) (v := .int x) (by
      unfold ab_fv
      rw [if_neg (ab_isR_f hr), hg]
      simp) (fun j hj => by
      unfold ab_fv
      rw [hg]
      split
      · rfl
      · simp [hj])]
theorem ab_ws_sRo {cy ρ G a ci k x} (h : gK G a = ci) (hc : ci < 13) (hr : ab_isR (ab_ty ci k) = true) : ab_ws cy ρ (sR G a k x) = (ab_ws cy ρ G).set a (ρ a, .inr (ci, (ab_fs ρ G ci a).set k (va_rf (x.map ρ)))) := by
  rw [ab_ws_upd cy ρ G (sR G a k x) a rfl (fun b hb => ab_cel_sR cy ρ G a k x hb), ab_cel_o (G := sR G a k x) (ci := ci) h hc]
  have hg : gR (sR G a k x) a = fun j => if j = k then x else gR G a j := u2_s _ _ _ _
  rw [ab_fs_set ρ G (sR G a k x) ci a (k := k) (v := va_rf (x.map ρ)) (by
      unfold ab_fv
      rw [if_pos hr, hg]
      simp) (fun j hj => by
      unfold ab_fv
      rw [hg]
      split
      · simp [hj]
      · rfl)]
theorem ab_ws_sIa {cy ρ G a kd k x} (h : gK G a = kd) (hk : kd = 13 ∨ kd = 14 ∨ kd = 15) : ab_ws cy ρ (sI G a k x) = (ab_ws cy ρ G).set a (ρ a, .inl (cy kd, gN G a, .inl (upd (gI G a) k x))) := by
  rw [ab_ws_upd cy ρ G (sI G a k x) a rfl (fun b hb => ab_cel_sI cy ρ G a k x hb), ab_cel_i (G := sI G a k x) (kd := kd) h hk]
  have hg : gI (sI G a k x) a = upd (gI G a) k x := u2_s _ _ _ _
  rw [hg]
  rfl
theorem ab_ws_sJa {cy ρ G a k x} (h : gK G a = 17) : ab_ws cy ρ (sJ G a k x) = (ab_ws cy ρ G).set a (ρ a, .inl (cy 17, gN G a, .inr (.inl (vp_updL (gJ G a) k x)))) := by
  rw [ab_ws_upd cy ρ G (sJ G a k x) a rfl (fun b hb => ab_cel_sJ cy ρ G a k x hb), ab_cel_l (G := sJ G a k x) h]
  have hg : gJ (sJ G a k x) a = vp_updL (gJ G a) k x := u2_s _ _ _ _
  rw [hg]
  rfl
/-- a new cell at the end -/
theorem ab_ws_new {cy ρ G kd n q} (hcl : ab_cl G) (hz : gZ G < 1000000000) : ab_ws cy (u1 ρ (gZ G) q) (gNew G kd n) = ab_ws cy ρ G ++ [(q, ab_cel cy (u1 ρ (gZ G) q) (gNew G kd n) (gZ G))] := by
  apply List.ext_getElem?
  intro j
  rcases Nat.lt_trichotomy j (gZ G) with hj | hj | hj
  · rw [ab_ws_get cy _ (gNew G kd n) (show j < gZ G + 1 by omega), List.getElem?_append_left (by rw [ab_ws_len]; exact hj), ab_ws_get cy ρ G hj]
    have hne : j ≠ gZ G := by omega
    rw [u1_n ρ q hne, ab_cel_eq cy ρ (u1 ρ (gZ G) q) G (gNew G kd n) j (u1_n _ _ hne) (u1_n _ _ hne) (u1_n _ _ hne) (fun k => ?_) (u1_n _ _ hne)]
    rw [show gR (gNew G kd n) j = gR G j from u1_n _ _ hne]
    cases hr : gR G j k with
    | none => rfl
    | some r =>
      have hrz : r ≠ gZ G := by
        rcases hcl j hj k r hr with ⟨h, -⟩ | ⟨-, h⟩ <;> omega
      simp only [Option.map_some]
      rw [u1_n ρ q hrz]
  · subst hj
    rw [ab_ws_get cy _ (gNew G kd n) (show gZ G < gZ G + 1 by omega), List.getElem?_append_right (by rw [ab_ws_len]; omega), ab_ws_len, Nat.sub_self, u1_s]
    rfl
  · rw [List.getElem?_eq_none (by rw [ab_ws_len]; show gZ G + 1 ≤ j; omega), List.getElem?_eq_none (by rw [List.length_append, ab_ws_len]; simp; omega)]
theorem ab_cl_sI {G a k x} (h : ab_cl G) : ab_cl (sI G a k x) := h
theorem ab_cl_sJ {G a k x} (h : ab_cl G) : ab_cl (sJ G a k x) := h
theorem ab_cl_sR {G a k x} (h : ab_cl G) (hx : ∀ r, x = some r → r < gZ G ∧ (gK G a = 16 → gK G r < 13)) : ab_cl (sR G a k x) := by
  intro b hb j r hr
  by_cases hba : b = a
  · subst hba
    rw [show gR (sR G b k x) b = fun j => if j = k then x else gR G b j from u2_s _ _ _ _] at hr
    dsimp only at hr
    split at hr
    · exact Or.inl (hx r hr)
    · exact h b hb j r hr
  · rw [show gR (sR G a k x) b = gR G b from u2_n _ _ _ hba] at hr
    exact h b hb j r hr
theorem ab_cl_new {G kd n} (h : ab_cl G) : ab_cl (gNew G kd n) := by
  intro b hb j r hr
  by_cases hbz : b = gZ G
  · subst hbz
    rw [show gR (gNew G kd n) (gZ G) = fun _ => none from u1_s _ _ _] at hr
    cases hr
  · rw [show gR (gNew G kd n) b = gR G b from u1_n _ _ hbz] at hr
    have hb' : b < gZ G := by
      have : b < gZ G + 1 := hb
      omega
    rcases h b hb' j r hr with ⟨h1, h3⟩ | ⟨h1, h2⟩
    · refine Or.inl ⟨show r < gZ G + 1 by omega, fun hk => ?_⟩
      rw [show gK (gNew G kd n) r = gK G r from u1_n _ _ (by omega)]
      exact h3 (by rw [show gK (gNew G kd n) b = gK G b from u1_n _ _ hbz] at hk; exact hk)
    · exact Or.inr ⟨by rw [show gK (gNew G kd n) b = gK G b from u1_n _ _ hbz]; exact h1, h2⟩
theorem ab_vo_new {G kd n v} (h : ab_vo G v) : ab_vo (gNew G kd n) v := fun a e => Nat.lt_succ_of_lt (h a e)

