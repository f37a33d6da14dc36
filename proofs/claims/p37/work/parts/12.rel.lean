/-! how the abstract heap, locals and stack stand for the machine's -/
def ab_cv (ρ sp : Nat → Nat) : Value → Value
  | .ref a => .ref (ρ a)
  | .float u => .ref (sp u.toNat)
  | v => v
theorem ab_cv_cat (ρ sp : Nat → Nat) (v : Value) : (ab_cv ρ sp v).category = v.category := by cases v <;> rfl
theorem ab_cat_map (ρ sp : Nat → Nat) (S : List Value) : ((S.map (ab_cv ρ sp)).map fun v => v.category).sum = ab_cat S := by
  rw [ab_cat, List.map_map]
  exact congrArg List.sum (List.map_congr_left (fun v _ => ab_cv_cat ρ sp v))
def ab_fv (ρ : Nat → Nat) (G : ab_G) (ci a k : Nat) : Value := if ab_isR (ab_ty ci k) = true then va_rf ((gR G a k).map ρ) else .int (gI G a k)
theorem ab_cv_gv (ρ sp : Nat → Nat) (G : ab_G) (ci a k : Nat) : ab_cv ρ sp (ab_gv G ci a k) = ab_fv ρ G ci a k := by
  unfold ab_gv ab_fv
  split
  · cases gR G a k <;> rfl
  · rfl
def ab_fs (ρ : Nat → Nat) (G : ab_G) (ci a : Nat) : List Value := (List.range (ab_nf ci)).map (ab_fv ρ G ci a)
theorem ab_fs_get (ρ : Nat → Nat) (G : ab_G) (ci a : Nat) {k : Nat} (h : k < ab_nf ci) : (ab_fs ρ G ci a)[k]? = some (ab_fv ρ G ci a k) := by
  simp [ab_fs, h]
theorem ab_fs_len (ρ : Nat → Nat) (G : ab_G) (ci a : Nat) : (ab_fs ρ G ci a).length = ab_nf ci := by simp [ab_fs]
theorem ab_fs_set (ρ : Nat → Nat) (G G' : ab_G) (ci a : Nat) {k : Nat} {v : Value} (hv : ab_fv ρ G' ci a k = v) (ho : ∀ j, j ≠ k → ab_fv ρ G' ci a j = ab_fv ρ G ci a j) : ab_fs ρ G' ci a = (ab_fs ρ G ci a).set k v := by
  apply List.ext_getElem?
  intro j
  by_cases hj : j < ab_nf ci
  · rw [ab_fs_get _ _ _ _ hj]
    by_cases hk : j = k
    · subst hk
      rw [List.getElem?_set_self (by rw [ab_fs_len]; exact hj), hv]
    · rw [List.getElem?_set_ne (Ne.symm hk), ab_fs_get _ _ _ _ hj, ho j hk]
  · rw [List.getElem?_eq_none (by rw [ab_fs_len]; omega), List.getElem?_eq_none (by rw [List.length_set, ab_fs_len]; omega)]
def ab_cel (cy : Nat → ClassId) (ρ : Nat → Nat) (G : ab_G) (a : Nat) : va_E :=
  if gK G a < 13 then .inr (gK G a, ab_fs ρ G (gK G a) a)
  else if gK G a = 16 then .inl (cy 16, gN G a, .inr (.inr (.inr (.inr (fun j => (gR G a j).map ρ)))))
  else if gK G a = 17 then .inl (cy 17, gN G a, .inr (.inl (gJ G a)))
  else .inl (cy (gK G a), gN G a, .inl (gI G a))
def ab_ws (cy : Nat → ClassId) (ρ : Nat → Nat) (G : ab_G) : va_W := (List.range (gZ G)).map (fun a => (ρ a, ab_cel cy ρ G a))
theorem ab_ws_get (cy : Nat → ClassId) (ρ : Nat → Nat) (G : ab_G) {a : Nat} (h : a < gZ G) : (ab_ws cy ρ G)[a]? = some (ρ a, ab_cel cy ρ G a) := by
  simp [ab_ws, h]
theorem ab_ws_len (cy : Nat → ClassId) (ρ : Nat → Nat) (G : ab_G) : (ab_ws cy ρ G).length = gZ G := by simp [ab_ws]
theorem ab_ws_some (cy : Nat → ClassId) (ρ : Nat → Nat) (G : ab_G) {a : Nat} {q : Nat × va_E} (h : (ab_ws cy ρ G)[a]? = some q) : a < gZ G ∧ q = (ρ a, ab_cel cy ρ G a) := by
  have hl : a < gZ G := by
    have := (List.getElem?_eq_some_iff.mp h).1
    rw [ab_ws_len] at this
    exact this
  rw [ab_ws_get cy ρ G hl] at h
  exact ⟨hl, (Option.some.inj h).symm⟩
theorem ab_ws_upd (cy : Nat → ClassId) (ρ : Nat → Nat) (G G' : ab_G) (a : Nat) (hz : gZ G' = gZ G) (ho : ∀ b, b ≠ a → ab_cel cy ρ G' b = ab_cel cy ρ G b) : ab_ws cy ρ G' = (ab_ws cy ρ G).set a (ρ a, ab_cel cy ρ G' a) := by
  apply List.ext_getElem?
  intro j
  by_cases hj : j < gZ G
  · rw [ab_ws_get cy ρ G' (by rw [hz]; exact hj)]
    by_cases hk : j = a
    · subst hk
      rw [List.getElem?_set_self (by rw [ab_ws_len]; exact hj)]
    · rw [List.getElem?_set_ne (Ne.symm hk), ab_ws_get cy ρ G hj, ho j hk]
  · rw [List.getElem?_eq_none (by rw [ab_ws_len, hz]; omega), List.getElem?_eq_none (by rw [List.length_set, ab_ws_len]; omega)]
theorem u1_s {α : Type} (f : Nat → α) (a : Nat) (v : α) : u1 f a v a = v := if_pos rfl
theorem u1_n {α : Type} (f : Nat → α) {a b : Nat} (v : α) (h : b ≠ a) : u1 f a v b = f b := if_neg h
theorem u2_s {α : Type} (f : Nat → Nat → α) (a k : Nat) (v : α) : u2 f a k v a = fun j => if j = k then v else f a j := if_pos rfl
theorem u2_n {α : Type} (f : Nat → Nat → α) {a b : Nat} (k : Nat) (v : α) (h : b ≠ a) : u2 f a k v b = f b := if_neg h
/-- a row of another heap that holds the same -/
theorem ab_cel_eq (cy : Nat → ClassId) (ρ ρ' : Nat → Nat) (G G' : ab_G) (b : Nat) (h1 : gK G' b = gK G b) (h2 : gN G' b = gN G b) (h3 : gI G' b = gI G b) (h4 : ∀ j, (gR G' b j).map ρ' = (gR G b j).map ρ) (h5 : gJ G' b = gJ G b) : ab_cel cy ρ' G' b = ab_cel cy ρ G b := by
  unfold ab_cel ab_fs ab_fv
  simp only [h1, h2, h3, h4, h5]
theorem ab_cel_sI (cy : Nat → ClassId) (ρ : Nat → Nat) (G : ab_G) (a k : Nat) (x : Int32) {b : Nat} (h : b ≠ a) : ab_cel cy ρ (sI G a k x) b = ab_cel cy ρ G b :=
  ab_cel_eq cy ρ ρ G _ b rfl rfl (u2_n _ _ _ h) (fun _ => rfl) rfl
theorem ab_cel_sR (cy : Nat → ClassId) (ρ : Nat → Nat) (G : ab_G) (a k : Nat) (x : Option Nat) {b : Nat} (h : b ≠ a) : ab_cel cy ρ (sR G a k x) b = ab_cel cy ρ G b :=
  ab_cel_eq cy ρ ρ G _ b rfl rfl rfl (fun j => by rw [show gR (sR G a k x) b = gR G b from u2_n _ _ _ h]) rfl
theorem ab_cel_sJ (cy : Nat → ClassId) (ρ : Nat → Nat) (G : ab_G) (a k : Nat) (x : Int64) {b : Nat} (h : b ≠ a) : ab_cel cy ρ (sJ G a k x) b = ab_cel cy ρ G b :=
  ab_cel_eq cy ρ ρ G _ b rfl rfl rfl (fun _ => rfl) (u2_n _ _ _ h)
/-- references of the heap, and of values, lie in it -/
def ab_cl (G : ab_G) : Prop := ∀ b, b < gZ G → ∀ k r, gR G b k = some r → (r < gZ G ∧ (gK G b = 16 → gK G r < 13)) ∨ (gK G b = 0 ∧ r = 1000000000)
def ab_vo (G : ab_G) (v : Value) : Prop := ∀ a, v = .ref a → a < gZ G
def ab_Lo (G : ab_G) (L : List (Option Value)) : Prop := ∀ v, some v ∈ L → ab_vo G v
def ab_So (G : ab_G) (S : List Value) : Prop := ∀ v ∈ S, ab_vo G v
theorem ab_cv_ext {ρ ρ' sp : Nat → Nat} {G : ab_G} (h : ∀ a, a < gZ G → ρ' a = ρ a) {v : Value} (hv : ab_vo G v) : ab_cv ρ' sp v = ab_cv ρ sp v := by
  cases v <;> first | rfl | exact congrArg Value.ref (h _ (hv _ rfl))
theorem ab_map_ext {ρ ρ' sp : Nat → Nat} {G : ab_G} (h : ∀ a, a < gZ G → ρ' a = ρ a) {S : List Value} (hS : ab_So G S) : S.map (ab_cv ρ' sp) = S.map (ab_cv ρ sp) := List.map_congr_left (fun v hv => ab_cv_ext h (hS v hv))
/-- locals -/
def ab_LV (f : Value → Value) (ls : Array Slot) (n : Nat) (L : List (Option Value)) : Prop := lv_has ls n [] ∧ L.length = n ∧ ∀ (i : Nat) (v : Value), L[i]? = some (some v) → ls[i]? = some (Slot.val (f v))
def ab_prs (f : Value → Value) : Nat → List (Option Value) → List (Nat × Value)
  | _, [] => []
  | i, none :: r => ab_prs f (i + 1) r
  | i, some v :: r => (i, f v) :: ab_prs f (i + 1) r
theorem ab_prs_mem (f : Value → Value) : ∀ (L : List (Option Value)) (i j : Nat) (v : Value), L[j]? = some (some v) → (i + j, f v) ∈ ab_prs f i L
  | [], i, j, v, h => by simp at h
  | none :: r, i, j, v, h => by
    cases j with
    | zero => simp at h
    | succ j =>
      have := ab_prs_mem f r (i + 1) j v (by simpa using h)
      rw [show i + 1 + j = i + (j + 1) by omega] at this
      exact this
  | some w :: r, i, j, v, h => by
    cases j with
    | zero =>
      have : w = v := by simpa using h
      subst this
      exact List.mem_cons_self
    | succ j =>
      have := ab_prs_mem f r (i + 1) j v (by simpa using h)
      rw [show i + 1 + j = i + (j + 1) by omega] at this
      exact List.mem_cons_of_mem _ this
theorem ab_prs_of (f : Value → Value) : ∀ (L : List (Option Value)) (i : Nat) (q : Nat × Value), q ∈ ab_prs f i L → ∃ j v, q = (i + j, f v) ∧ L[j]? = some (some v)
  | [], i, q, h => by cases h
  | none :: r, i, q, h => by
    obtain ⟨j, v, e1, e2⟩ := ab_prs_of f r (i + 1) q h
    exact ⟨j + 1, v, by rw [e1, show i + 1 + j = i + (j + 1) by omega], by simpa using e2⟩
  | some w :: r, i, q, h => by
    rcases List.mem_cons.mp h with h | h
    · exact ⟨0, w, h, rfl⟩
    · obtain ⟨j, v, e1, e2⟩ := ab_prs_of f r (i + 1) q h
      exact ⟨j + 1, v, by rw [e1, show i + 1 + j = i + (j + 1) by omega], by simpa using e2⟩
theorem ab_LV.has {f : Value → Value} {ls : Array Slot} {n : Nat} {L : List (Option Value)} (h : ab_LV f ls n L) : lv_has ls n (ab_prs f 0 L) := by
  obtain ⟨⟨h1, h2, -⟩, -, h4⟩ := h
  refine ⟨h1, h2, fun q hq => ?_⟩
  obtain ⟨j, v, rfl, hj⟩ := ab_prs_of f L 0 q hq
  rw [Nat.zero_add]
  exact h4 j v hj
theorem ab_LV.of {f : Value → Value} {ls : Array Slot} {n : Nat} {L : List (Option Value)} {l : List (Nat × Value)} (h : lv_has ls n l) (hn : L.length = n) (hm : ∀ (i : Nat) (v : Value), L[i]? = some (some v) → (i, f v) ∈ l) : ab_LV f ls n L :=
  ⟨⟨h.1, h.2.1, fun q hq => by cases hq⟩, hn, fun i v hv => h.2.2 _ (hm i v hv)⟩
theorem ab_LV.at {f : Value → Value} {ls : Array Slot} {n : Nat} {L : List (Option Value)} (h : ab_LV f ls n L) {i : Nat} {v : Value} (hi : L.getD i none = some v) : ls[i]? = some (Slot.val (f v)) := by
  refine h.2.2 i v ?_
  rw [List.getD_eq_getElem?_getD] at hi
  cases hq : L[i]? with
  | none => rw [hq] at hi; cases hi
  | some w => rw [hq] at hi; exact congrArg some hi
theorem ab_getD_mem {L : List (Option Value)} {i : Nat} {v : Value} (hi : L.getD i none = some v) : some v ∈ L := by
  rw [List.getD_eq_getElem?_getD] at hi
  cases hq : L[i]? with
  | none => rw [hq] at hi; cases hi
  | some w => rw [hq] at hi; rw [← (show w = some v from hi)]; exact List.mem_of_getElem? hq
theorem ab_LV.ext {f g : Value → Value} {ls : Array Slot} {n : Nat} {L : List (Option Value)} (h : ab_LV f ls n L) (hfg : ∀ v, some v ∈ L → g v = f v) : ab_LV g ls n L :=
  ⟨h.1, h.2.1, fun i v hv => by rw [hfg v (List.mem_of_getElem? hv)]; exact h.2.2 i v hv⟩
/-- what stands in a place behind a store -/
def ab_kl (L : List (Option Value)) (i : Nat) : List (Option Value) := match i with
  | 0 => L
  | j + 1 => match L.getD j none with
    | some (.long _) => L.set j none
    | some (.double _) => L.set j none
    | _ => L
theorem ab_st1_eq (L : List (Option Value)) (i : Nat) (v : Value) : ab_st1 L i v = (ab_kl L i).set i (some v) := by
  unfold ab_st1 ab_kl
  rfl
theorem ab_kl_len (L : List (Option Value)) (i : Nat) : (ab_kl L i).length = L.length := by
  unfold ab_kl
  split
  · rfl
  · split <;> simp
theorem ab_st1_len (L : List (Option Value)) (i : Nat) (v : Value) : (ab_st1 L i v).length = L.length := by
  rw [ab_st1_eq, List.length_set, ab_kl_len]
theorem ab_kl_get {L : List (Option Value)} {i j : Nat} {w : Value} (h : (ab_kl L i)[j]? = some (some w)) : L[j]? = some (some w) ∧ ¬ (j + 1 = i ∧ w.category = 2) := by
  unfold ab_kl at h
  cases i with
  | zero => exact ⟨h, fun z => by omega⟩
  | succ t =>
    have key : ∀ M : List (Option Value), M = L.set t none → M[j]? = some (some w) → L[j]? = some (some w) ∧ ¬ (j + 1 = t + 1 ∧ w.category = 2) := by
      intro M hM hj
      subst hM
      by_cases ht : t = j
      · subst ht
        by_cases hl : t < L.length
        · rw [List.getElem?_set_self hl] at hj
          cases hj
        · rw [List.getElem?_eq_none (by rw [List.length_set]; omega)] at hj
          cases hj
      · rw [List.getElem?_set_ne ht] at hj
        exact ⟨hj, fun z => by omega⟩
    dsimp only at h
    split at h
    · exact key _ rfl h
    · exact key _ rfl h
    · rename_i h1 h2
      refine ⟨h, fun z => ?_⟩
      obtain ⟨z1, z2⟩ := z
      have hjt : j = t := by omega
      subst hjt
      have hg : L.getD j none = some w := by rw [List.getD_eq_getElem?_getD, h]; rfl
      cases w with
      | long x => exact h1 x hg
      | double x => exact h2 x hg
      | _ => cases z2
theorem ab_st1_get {L : List (Option Value)} {i j : Nat} {v w : Value} (h : (ab_st1 L i v)[j]? = some (some w)) : (j = i ∧ w = v) ∨ (j ≠ i ∧ L[j]? = some (some w) ∧ ¬ (j + 1 = i ∧ w.category = 2)) := by
  rw [ab_st1_eq] at h
  by_cases hj : j = i
  · subst hj
    by_cases hl : j < (ab_kl L j).length
    · rw [List.getElem?_set_self hl] at h
      exact Or.inl ⟨rfl, (Option.some.inj (Option.some.inj h)).symm⟩
    · rw [List.getElem?_eq_none (by rw [List.length_set]; omega)] at h
      cases h
  · rw [List.getElem?_set_ne (Ne.symm hj)] at h
    exact Or.inr ⟨hj, ab_kl_get h⟩
theorem ab_st1_mem {L : List (Option Value)} {i : Nat} {v w : Value} (h : some w ∈ ab_st1 L i v) : w = v ∨ some w ∈ L := by
  obtain ⟨j, hj⟩ := List.getElem?_of_mem h
  rcases ab_st1_get hj with ⟨-, h2⟩ | ⟨-, h2, -⟩
  · exact Or.inl h2
  · exact Or.inr (List.mem_of_getElem? h2)
theorem ab_set_none_mem {L : List (Option Value)} {i : Nat} {w : Value} (h : some w ∈ L.set i none) : some w ∈ L := by
  rcases List.mem_or_eq_of_mem_set h with h | h
  · exact h
  · cases h
theorem ab_LV.st1 {f : Value → Value} {ls' : Array Slot} {n i : Nat} {L : List (Option Value)} {v : Value} (hf : ∀ w, (f w).category = w.category) (hn : L.length = n)
    (h' : lv_has ls' n ((i, f v) :: (ab_prs f 0 L).filter (fun q => !(q.1 == i) && !(q.1 + 1 == i && q.2.category == 2)))) : ab_LV f ls' n (ab_st1 L i v) := by
  refine ab_LV.of h' (by rw [ab_st1_len]; exact hn) (fun j w hw => ?_)
  rcases ab_st1_get hw with ⟨rfl, rfl⟩ | ⟨h1, h2, h3⟩
  · exact List.mem_cons_self
  · refine List.mem_cons_of_mem _ (List.mem_filter.mpr ⟨by have := ab_prs_mem f L 0 j w h2; rwa [Nat.zero_add] at this, ?_⟩)
    simp only [hf]
    by_cases h4 : j + 1 = i
    · have h5 : ¬ w.category = 2 := fun z => h3 ⟨h4, z⟩
      simp [h1, h5]
    · simp [h1, h4]
theorem ab_LV.st2 {f : Value → Value} {ls' : Array Slot} {n i : Nat} {L : List (Option Value)} {v : Value} (hf : ∀ w, (f w).category = w.category) (hn : L.length = n)
    (h' : lv_has ls' n ((i, f v) :: (ab_prs f 0 L).filter (fun q => !(q.1 == i) && (!(q.1 == i + 1) && !(q.1 + 1 == i && q.2.category == 2))))) : ab_LV f ls' n (ab_st2 L i v) := by
  refine ab_LV.of h' (by unfold ab_st2; rw [List.length_set, ab_st1_len]; exact hn) (fun j w hw => ?_)
  unfold ab_st2 at hw
  by_cases hj : j = i + 1
  · subst hj
    by_cases hl : i + 1 < (ab_st1 L i v).length
    · rw [List.getElem?_set_self hl] at hw
      cases hw
    · rw [List.getElem?_eq_none (by rw [List.length_set]; omega)] at hw
      cases hw
  rw [List.getElem?_set_ne (Ne.symm hj)] at hw
  rcases ab_st1_get hw with ⟨rfl, rfl⟩ | ⟨h1, h2, h3⟩
  · exact List.mem_cons_self
  · refine List.mem_cons_of_mem _ (List.mem_filter.mpr ⟨by have := ab_prs_mem f L 0 j w h2; rwa [Nat.zero_add] at this, ?_⟩)
    simp only [hf]
    by_cases h4 : j + 1 = i
    · have h5 : ¬ w.category = 2 := fun z => h3 ⟨h4, z⟩
      simp [h1, h5, hj]
    · simp [h1, h4, hj]
theorem ab_LV.kill {f : Value → Value} {ls' : Array Slot} {n i q0 : Nat} {L : List (Option Value)} (hf : ∀ w, (f w).category = w.category) (hn : L.length = n)
    (h' : lv_has ls' n ((i, .ref q0) :: (ab_prs f 0 L).filter (fun q => !(q.1 == i) && !(q.1 + 1 == i && q.2.category == 2)))) : ab_LV f ls' n (ab_kill L i) := by
  refine ab_LV.of h' (by unfold ab_kill; rw [List.length_set, ab_st1_len]; exact hn) (fun j w hw => ?_)
  unfold ab_kill at hw
  by_cases hj : j = i
  · subst hj
    by_cases hl : j < (ab_st1 L j .null).length
    · rw [List.getElem?_set_self hl] at hw
      cases hw
    · rw [List.getElem?_eq_none (by rw [List.length_set]; omega)] at hw
      cases hw
  rw [List.getElem?_set_ne (Ne.symm hj)] at hw
  rcases ab_st1_get hw with ⟨h1, -⟩ | ⟨h1, h2, h3⟩
  · exact absurd h1 hj
  · refine List.mem_cons_of_mem _ (List.mem_filter.mpr ⟨by have := ab_prs_mem f L 0 j w h2; rwa [Nat.zero_add] at this, ?_⟩)
    simp only [hf]
    by_cases h4 : j + 1 = i
    · have h5 : ¬ w.category = 2 := fun z => h3 ⟨h4, z⟩
      simp [h1, h5]
    · simp [h1, h4]
