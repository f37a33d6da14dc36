/-! a run with less fuel: it is the same run, up to where its fuel is out -/
section FUE
/-- a run, one with just the fuel that it used, and one with 1 less -/
theorem fuel_run {F : Nat} {x y : Int32} {s r : Sx} (hF : F ≤ 5000) (h : f_3001 (nI F) x y s = some r) : ∃ L, L ≤ F ∧ r.2 6 = nI L ∧
    (∃ r1, f_3001 (nI (F - L)) x y s = some r1 ∧ r1.2 10 = r.2 10 ∧ r1.2 6 = 0 ∧ r1.1 18 = r.1 18 ∧ r1.1 19 = r.1 19) ∧
    (L < F → ∃ r2, f_3001 (nI (F - L - 1)) x y s = some r2 ∧ r2.2 10 = 1 ∧ r2.2 6 = 0 ∧ r2.1 18 <+: r.1 18) := by
  obtain ⟨s0, hs0⟩ : ∃ s0 : Sx, ∀ G : Nat, f_3001 (nI G) x y s = f_3001_L37 1000100 (nI G) x y 0 (fu s0 G) := by
    refine ⟨sV (sB (f_7001 0 x y s) 22 []) 11 0, fun G => ?_⟩
    unfold f_3001
    rw [bS_eq, bS_eq, bS_eq]
    congr 1
    refine Prod.ext rfl (funext fun j => ?_)
    show (if j = 11 then 0 else if j = 10 then -1 else if j = 9 then 0 else if j = 8 then y else if j = 7 then x else if j = 6 then nI G else s.2 j) = if j = 6 then nI G else if j = 11 then 0 else if j = 10 then -1 else if j = 9 then 0 else if j = 8 then y else if j = 7 then x else if j = 6 then 0 else s.2 j
    by_cases e : j = 6
    · subst e; rfl
    · rw [if_neg e, if_neg e, if_neg e]
  rw [hs0] at h
  obtain ⟨r0, L, e1, e2, e3, e4⟩ : ∃ r0 L, r = fu r0 L ∧ L ≤ F ∧ True ∧ True := by
    rcases fu_sim x y (nI F) (nI F) 1000100 0 s0 F 0 r (by omega) h with ⟨r0, f', e1, e2, e3, e4⟩ | ⟨r0, g, e1, e2, _⟩
    · exact ⟨r0, f', e1, e2, trivial, trivial⟩
    · omega
  have hr6 : r.2 6 = nI L := by rw [e1]; rfl
  have inj : ∀ g, r.2 6 = nI g → g < 6000 → g = L := fun g hg hl => by
    rw [hr6] at hg
    exact ((nI_eq (by omega) (by omega)).1 hg).symm
  refine ⟨L, e2, hr6, ?_, fun hL => ?_⟩
  · have h' := h
    rw [show F = (F - L) + L by omega] at h'
    rcases fu_sim x y _ (nI (F - L)) 1000100 0 s0 (F - L) L r (by omega) h' with ⟨q0, f', k1, k2, k3, k4⟩ | ⟨q0, g, k1, k2, _⟩
    · have : f' + L = L := inj _ (by rw [k1]; rfl) (by omega)
      have hf0 : f' = 0 := by omega
      subst hf0
      refine ⟨fu q0 0, (hs0 _).trans k3, ?_, rfl, ?_, ?_⟩
      · rw [k1, fu_2 (by decide), fu_2 (by decide)]
      · rw [k1]; rfl
      · rw [k1]; rfl
    · have : g = L := inj _ (by rw [k1]; rfl) (by omega)
      omega
  · have h' := h
    rw [show F = (F - L - 1) + (L + 1) by omega] at h'
    rcases fu_sim x y _ (nI (F - L - 1)) 1000100 0 s0 (F - L - 1) (L + 1) r (by omega) h' with ⟨q0, f', k1, k2, k3, k4⟩ | ⟨q0, g, k1, k2, k3, Z, k4, k5, k6, k7⟩
    · have : f' + (L + 1) = L := inj _ (by rw [k1]; rfl) (by omega)
      omega
    · exact ⟨Z, (hs0 _).trans k4, k5, k6, by rw [k1]; exact k7⟩
end FUE
