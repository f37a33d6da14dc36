/-! a run with less fuel: it is the same run, up to where its fuel is out -/
section FUE
theorem o_7019 {s : Sx} {x : Int64} : (f_7019 x s).1.1 = s.1 := by
  unfold f_7019 f_7019_J16
  split
  · exact o_7008
  · split
    · rfl
    · exact o_7008
/-- a function that takes 1 and then does not touch the fuel -/
def POne (g : Sx → Sx × Int32) (s : Sx) : Prop := ∃ h v, (∀ f, f < 6000 → g (fu s (f + 1)) = (fu h f, v)) ∧ h.1 = s.1 ∧ g (fu s 0) = (fu (sV s 10 1) 0, 0)
theorem p_7017 {s : Sx} {a b : Int32} (h : s.2 10 = -1) : POne (f_7017 a b) s := by
  have e0 : f_7017 a b (fu s 0) = (fu (sV s 10 1) 0, 0) := by
    unfold f_7017
    rw [fu_take0 h, bT_eq, if_pos rfl]
  have go : ∀ f, f < 6000 → f_7017 a b (fu s (f + 1)) = if a = 25 then (if b = 0 then (fu s f, 1) else (fu s f, 0)) else if a = 36 then f_7019 (-b.toInt64) (fu s f) else if b < 0 then f_7017_J64 a b (fu s f) else if b < 32 then f_7017_J69 a b (fu s f) else f_7017_J64 a b (fu s f) := fun f hf => by
    unfold f_7017
    rw [fu_take h hf, bT_eq, if_neg (by decide)]
    rfl
  by_cases c1 : a = 25
  · by_cases c2 : b = 0
    · exact ⟨s, 1, fun f hf => by rw [go f hf, if_pos c1, if_pos c2], rfl, e0⟩
    · exact ⟨s, 0, fun f hf => by rw [go f hf, if_pos c1, if_neg c2], rfl, e0⟩
  · by_cases c2 : a = 36
    · exact ⟨_, _, fun f hf => by rw [go f hf, if_neg c1, if_pos c2, fu_7019], o_7019, e0⟩
    · have j64 : ∀ f, f_7017_J64 a b (fu s f) = (fu (f_7008 4 s) f, xg (s.1 19) b) := fun f => by
        unfold f_7017_J64 f_7017_J69
        rw [bS_eq, fu_7008]
        show (_, xg ((f_7008 4 s).1 19) b) = _
        rw [o_7008]
      by_cases c3 : b < 0
      · exact ⟨_, _, fun f hf => by rw [go f hf, if_neg c1, if_neg c2, if_pos c3, j64], o_7008, e0⟩
      · by_cases c4 : b < 32
        · exact ⟨s, xg (s.1 19) b, fun f hf => by rw [go f hf, if_neg c1, if_neg c2, if_neg c3, if_pos c4]; rfl, rfl, e0⟩
        · exact ⟨_, _, fun f hf => by rw [go f hf, if_neg c1, if_neg c2, if_neg c3, if_neg c4, j64], o_7008, e0⟩
theorem fu_J94 {s : Sx} {f : Nat} {a b c : Int32} : f_7018_J94 a b c (fu s f) = (fu (f_7018_J94 a b c s).1 f, (f_7018_J94 a b c s).2) := by
  unfold f_7018_J94
  by_cases c1 : c = 0
  · rw [if_pos c1, if_pos c1, bS_eq, bS_eq, fu_7008]
  · rw [if_neg c1, if_neg c1]
    by_cases c2 : a = 15
    · rw [if_pos c2, if_pos c2, fu_7019]; rfl
    · rw [if_neg c2, if_neg c2, fu_7019]; rfl
theorem o_J94 {s : Sx} {a b c : Int32} : (f_7018_J94 a b c s).1.1 = s.1 := by
  unfold f_7018_J94
  split
  · exact o_7008
  · split
    · exact o_7019
    · exact o_7019
theorem p_7018 {s : Sx} {a b c : Int32} (h : s.2 10 = -1) : POne (f_7018 a b c) s := by
  have e0 : f_7018 a b c (fu s 0) = (fu (sV s 10 1) 0, 0) := by
    unfold f_7018
    rw [fu_take0 h, bT_eq, if_pos rfl]
  have key : ∀ g : Sx → Sx × Int32, (∀ f, g (fu s f) = (fu (g s).1 f, (g s).2)) → (g s).1.1 = s.1 → (∀ f, f < 6000 → f_7018 a b c (fu s (f + 1)) = g (fu s f)) → POne (f_7018 a b c) s := fun g hg ho hf => ⟨_, _, fun f hf' => by rw [hf f hf', hg f], ho, e0⟩
  have con : ∀ v : Int32, ∀ f, (fun z : Sx => (z, v)) (fu s f) = (fu ((fun z : Sx => (z, v)) s).1 f, ((fun z : Sx => (z, v)) s).2) := fun v f => rfl
  have st : ∀ f, f < 6000 → f_7018 a b c (fu s (f + 1)) = (fun z : Sx => if a = 12 then f_7019 (b.toInt64 + c.toInt64) z else if a = 13 then f_7019 (b.toInt64 - c.toInt64) z else if a = 14 then f_7019 (b.toInt64 * c.toInt64) z else if a = 15 then f_7018_J94 a b c z else if a = 16 then f_7018_J94 a b c z else if a = 17 then (if c ≤ b then (z, 0) else (z, 1)) else if a = 18 then (if c < b then (z, 0) else (z, 1)) else if a = 19 then (if b ≤ c then (z, 0) else (z, 1)) else if a = 20 then (if b < c then (z, 0) else (z, 1)) else if a = 21 then (if b = c then (z, 1) else (z, 0)) else (if b = c then (z, 0) else (z, 1)) : Sx → Sx × Int32) (fu s f) := fun f hf => by
    unfold f_7018
    rw [fu_take h hf, bT_eq, if_neg (by decide)]
    rfl
  by_cases c12 : a = 12
  · exact key _ (fun f => fu_7019) o_7019 (fun f hf => by rw [st f hf]; dsimp only; rw [if_pos c12])
  by_cases c13 : a = 13
  · exact key _ (fun f => fu_7019) o_7019 (fun f hf => by rw [st f hf]; dsimp only; rw [if_neg c12, if_pos c13])
  by_cases c14 : a = 14
  · exact key _ (fun f => fu_7019) o_7019 (fun f hf => by rw [st f hf]; dsimp only; rw [if_neg c12, if_neg c13, if_pos c14])
  by_cases c15 : a = 15
  · exact key _ (fun f => fu_J94) o_J94 (fun f hf => by rw [st f hf]; dsimp only; rw [if_neg c12, if_neg c13, if_neg c14, if_pos c15])
  by_cases c16 : a = 16
  · exact key _ (fun f => fu_J94) o_J94 (fun f hf => by rw [st f hf]; dsimp only; rw [if_neg c12, if_neg c13, if_neg c14, if_neg c15, if_pos c16])
  have cc : ∃ v : Int32, ∀ f, f < 6000 → f_7018 a b c (fu s (f + 1)) = (fu s f, v) := by
    by_cases c17 : a = 17
    · by_cases q : c ≤ b
      · exact ⟨0, fun f hf => by rw [st f hf]; dsimp only; rw [if_neg c12, if_neg c13, if_neg c14, if_neg c15, if_neg c16, if_pos c17, if_pos q]⟩
      · exact ⟨1, fun f hf => by rw [st f hf]; dsimp only; rw [if_neg c12, if_neg c13, if_neg c14, if_neg c15, if_neg c16, if_pos c17, if_neg q]⟩
    by_cases c18 : a = 18
    · by_cases q : c < b
      · exact ⟨0, fun f hf => by rw [st f hf]; dsimp only; rw [if_neg c12, if_neg c13, if_neg c14, if_neg c15, if_neg c16, if_neg c17, if_pos c18, if_pos q]⟩
      · exact ⟨1, fun f hf => by rw [st f hf]; dsimp only; rw [if_neg c12, if_neg c13, if_neg c14, if_neg c15, if_neg c16, if_neg c17, if_pos c18, if_neg q]⟩
    by_cases c19 : a = 19
    · by_cases q : b ≤ c
      · exact ⟨0, fun f hf => by rw [st f hf]; dsimp only; rw [if_neg c12, if_neg c13, if_neg c14, if_neg c15, if_neg c16, if_neg c17, if_neg c18, if_pos c19, if_pos q]⟩
      · exact ⟨1, fun f hf => by rw [st f hf]; dsimp only; rw [if_neg c12, if_neg c13, if_neg c14, if_neg c15, if_neg c16, if_neg c17, if_neg c18, if_pos c19, if_neg q]⟩
    by_cases c20 : a = 20
    · by_cases q : b < c
      · exact ⟨0, fun f hf => by rw [st f hf]; dsimp only; rw [if_neg c12, if_neg c13, if_neg c14, if_neg c15, if_neg c16, if_neg c17, if_neg c18, if_neg c19, if_pos c20, if_pos q]⟩
      · exact ⟨1, fun f hf => by rw [st f hf]; dsimp only; rw [if_neg c12, if_neg c13, if_neg c14, if_neg c15, if_neg c16, if_neg c17, if_neg c18, if_neg c19, if_pos c20, if_neg q]⟩
    by_cases c21 : a = 21
    · by_cases q : b = c
      · exact ⟨1, fun f hf => by rw [st f hf]; dsimp only; rw [if_neg c12, if_neg c13, if_neg c14, if_neg c15, if_neg c16, if_neg c17, if_neg c18, if_neg c19, if_neg c20, if_pos c21, if_pos q]⟩
      · exact ⟨0, fun f hf => by rw [st f hf]; dsimp only; rw [if_neg c12, if_neg c13, if_neg c14, if_neg c15, if_neg c16, if_neg c17, if_neg c18, if_neg c19, if_neg c20, if_pos c21, if_neg q]⟩
    by_cases q : b = c
    · exact ⟨0, fun f hf => by rw [st f hf]; dsimp only; rw [if_neg c12, if_neg c13, if_neg c14, if_neg c15, if_neg c16, if_neg c17, if_neg c18, if_neg c19, if_neg c20, if_neg c21, if_pos q]⟩
    · exact ⟨1, fun f hf => by rw [st f hf]; dsimp only; rw [if_neg c12, if_neg c13, if_neg c14, if_neg c15, if_neg c16, if_neg c17, if_neg c18, if_neg c19, if_neg c20, if_neg c21, if_neg q]⟩
  obtain ⟨v, hv⟩ := cc
  exact ⟨s, v, hv, rfl, e0⟩
end FUE
