/-! the law: what it writes, and the tokens of that -/
section WRI
/-- a statement, of k parts -/
def STd (w : List Int32) (k : Nat) : Prop := Pc w (fun _ => True) (fun l => StT k l)
theorem hd_59 {r : List Int32} : Hd (59 :: r) := by
  unfold Hd
  show ¬ isD 59 ∧ ¬ isL 59
  decide
theorem hd_41 {r : List Int32} : Hd (41 :: r) := by
  unfold Hd
  show ¬ isD 41 ∧ ¬ isL 41
  decide
theorem hd_123 {r : List Int32} : Hd (123 :: r) := by
  unfold Hd
  show ¬ isD 123 ∧ ¬ isL 123
  decide
theorem nl_61 {r : List Int32} : ¬ isL (tg (61 :: r) 0) := by show ¬ isL 61; decide
theorem pc_59 : Pc [59] (fun _ => True) (fun l => l = [(33, 0)]) := pc_m1 (by decide) (fun r _ => lx_2_1 (by decide))
theorem pc_41 : Pc [41] (fun _ => True) (fun l => l = [(29, 0)]) := pc_m1 (by decide) (fun r _ => lx_2_1 (by decide))
theorem pc_40 : Pc [40] (fun _ => True) (fun l => l = [(28, 0)]) := pc_m1 (by decide) (fun r _ => lx_2_1 (by decide))
theorem pc_123 : Pc [123] (fun _ => True) (fun l => l = [(30, 0)]) := pc_m1 (by decide) (fun r _ => lx_2_1 (by decide))
theorem pc_125 : Pc [125] (fun _ => True) (fun l => l = [(31, 0)]) := pc_m1 (by decide) (fun r _ => lx_2_1 (by decide))
theorem pc_35 : Pc [35] (fun _ => True) (fun l => l = [(26, 0)]) := pc_m1 (by decide) (fun r _ => lx_2_1 (by decide))
theorem pc_61 : Pc [61] (fun r => tg r 0 ≠ 61) (fun l => l = [(27, 0)]) := pc_m1 (by decide) (fun r hr => lx_2_q (by decide) hr)
theorem rh_n {k v : Int32} {r : List KV} (h : k ≠ 28) : RH ((k, v) :: r) := ⟨k, v, r, rfl, h⟩
/-- a value and its ; -/
def Ve (l : List KV) : Prop := ∃ n w, ∀ R, VlT n (l ++ R) ((33, w) :: R)
theorem ve_p {w : List Int32} (h : VAd w) : Pc (w ++ [59]) (fun _ => True) Ve ∧ H1 (w ++ [59]) := by
  refine ⟨h.1.app pc_59 (fun r _ => hd_59) (fun a b ha hb => ?_), h.2.app⟩
  obtain ⟨n, ha⟩ := ha
  subst hb
  refine ⟨n, 0, fun R => ?_⟩
  rw [List.append_assoc]
  exact ha ((33, 0) :: R) (rh_n (by decide))
theorem as_p {c : Int32} (hc : c ∈ ([97, 98, 99, 100] : List Int32)) {w : List Int32} (h : VAd w) : Pc ([c] ++ ([61] ++ (w ++ [59]))) (fun _ => True) (fun l => (∃ q, q < 6 ∧ ∃ r, l = (4, nI q) :: r) ∧ ∀ R, Sm1 (l ++ R) R) := by
  have hl : isL c := by revert c; decide
  refine (pc_v hc hl).app (pc_61.app (ve_p h).1 (C := fun l => ∃ o, l = (27, 0) :: o ∧ Ve o) (fun r _ => (ve_p h).2 r) (fun a b ha hb => by subst ha; exact ⟨b, rfl, hb⟩)) (fun r _ => nl_61) (fun a b ha hb => ?_)
  obtain ⟨k, hk, rfl⟩ := ha
  obtain ⟨o, rfl, n, w, ho⟩ := hb
  exact ⟨⟨k, hk, _, rfl⟩, fun R => Or.inl ⟨k, 0, o ++ R, n, w, hk, rfl, ho R⟩⟩
theorem st_as {c : Int32} (hc : c ∈ ([97, 98, 99, 100] : List Int32)) {w : List Int32} (h : VAd w) : STd ([c] ++ ([61] ++ (w ++ [59]))) 1 :=
  (as_p hc h).im (fun _ h => h) (fun l hl => by
    obtain ⟨⟨q, hq, r, rfl⟩, h2⟩ := hl
    exact ⟨⟨4, nI q, r, rfl, by decide⟩, fun R => Or.inl ⟨rfl, h2 R⟩⟩)
theorem st_out {w : List Int32} (h : VAd w) : STd ([111, 117, 116] ++ ([32] ++ (w ++ [59]))) 1 := by
  refine (pc_kw (c := 111) (w := [117, 116]) (by decide) (by decide)).app (pc_b.app (ve_p h).1 (C := Ve) (fun r _ => trivial) (fun a b ha hb => by subst ha; exact hb)) (fun r _ => by show ¬ isL 32; decide) (fun a b ha hb => ?_)
  subst ha
  obtain ⟨n, w, hb⟩ := hb
  exact ⟨⟨8, 0, b, rfl, by decide⟩, fun R => Or.inl ⟨rfl, Or.inr (Or.inl ⟨0, b ++ R, n, w, rfl, hb R⟩)⟩⟩
theorem st_cel {i : Nat} (hi : i < 10) {w : List Int32} (h : VAd w) : STd ([35] ++ ([dgt i] ++ ([61] ++ (w ++ [59])))) 1 := by
  refine pc_35.app ((pc_d1 hi).app (pc_61.app (ve_p h).1 (C := fun l => ∃ o, l = (27, 0) :: o ∧ Ve o) (fun r _ => (ve_p h).2 r) (fun a b ha hb => by subst ha; exact ⟨b, rfl, hb⟩)) (C := fun l => ∃ v o, l = (3, v) :: (27, 0) :: o ∧ Ve o) (fun r _ => by show ¬ isD 61; decide) (fun a b ha hb => by
    obtain ⟨v, rfl⟩ := ha
    obtain ⟨o, rfl, ho⟩ := hb
    exact ⟨v, o, rfl, ho⟩)) (fun r _ => trivial) (fun a b ha hb => ?_)
  subst ha
  obtain ⟨v, o, rfl, n, w, ho⟩ := hb
  exact ⟨⟨26, 0, _, rfl, by decide⟩, fun R => Or.inl ⟨rfl, Or.inr (Or.inr (Or.inl ⟨0, v, 0, o ++ R, n, w, rfl, ho R⟩))⟩⟩
theorem st_call {w : List Int32} (h : VAd w) : STd ([102] ++ ([40] ++ (w ++ ([41] ++ [59])))) 1 := by
  refine pc_f.app (pc_40.app (h.1.app (pc_41.app pc_59 (C := fun l => l = [(29, 0), (33, 0)]) (fun r _ => trivial) (fun a b ha hb => by subst ha; subst hb; rfl)) (C := fun l => ∃ n, ∀ R, VlT n (l ++ R) ((29, 0) :: (33, 0) :: R)) (fun r _ => hd_41) (fun a b ha hb => by
    obtain ⟨n, ha⟩ := ha
    subst hb
    exact ⟨n, fun R => by rw [List.append_assoc]; exact ha ((29, 0) :: (33, 0) :: R) (rh_n (by decide))⟩)) (C := fun l => ∃ o, l = (28, 0) :: o ∧ ∃ n, ∀ R, VlT n (o ++ R) ((29, 0) :: (33, 0) :: R)) (fun r _ => trivial) (fun a b ha hb => by subst ha; exact ⟨b, rfl, hb⟩)) (fun r _ => by show ¬ isL 40; decide) (fun a b ha hb => ?_)
  subst ha
  obtain ⟨o, rfl, n, ho⟩ := hb
  exact ⟨⟨4, 0, _, rfl, by decide⟩, fun R => Or.inl ⟨rfl, Or.inr (Or.inr (Or.inr ⟨0, o ++ R, n, 0, 0, rfl, ho R⟩))⟩⟩
end WRI
