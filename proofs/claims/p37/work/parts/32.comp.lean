/-! the engine's objects at the places 'ad': 0 program, 1 tokens, 2 reader, 3 run, 4 machine, 5 walker, 6+k row k, 32+k its array -/
abbrev Sx : Type := (Nat → List Int32) × (Nat → Int32)
def sB (s : Sx) (k : Nat) (xs : List Int32) : Sx := (fun j => if j = k then xs else s.1 j, s.2)
def sV (s : Sx) (v : Nat) (x : Int32) : Sx := (s.1, fun j => if j = v then x else s.2 j)
def ev_cap (k : Nat) : Nat := [301, 301, 301, 300, 300, 150, 150, 600, 600, 75, 75, 75, 75, 8, 8, 150, 150, 150, 8, 32, 88, 10, 1650, 1650, 1650, 300].getD k 0
def ev_tk : List (Nat × Nat) := [(0, 4), (1, 9), (2, 5), (3, 7), (4, 3), (5, 10)]
def ev_tr : List (Nat × Nat × Nat) := [(0, 0, 1), (0, 1, 11), (0, 2, 12), (0, 3, 13), (0, 4, 14), (0, 5, 15), (0, 6, 16), (0, 7, 17), (0, 8, 18), (1, 0, 6), (1, 1, 7), (1, 2, 8), (1, 3, 9), (1, 4, 10), (2, 6, 19), (2, 7, 20), (2, 8, 21), (2, 9, 22), (2, 10, 23), (3, 0, 24), (3, 1, 25), (3, 2, 26), (3, 3, 27), (4, 0, 28), (5, 0, 29), (5, 1, 30)]
def ev_ob (v : Nat) : Nat := [0, 0, 2, 2, 2, 2, 3, 3, 3, 3, 3, 4, 5, 5].getD v 0
def ev_fl (v : Nat) : Nat := [9, 10, 2, 3, 4, 5, 4, 5, 6, 7, 8, 3, 5, 6].getD v 0
def EV (G : ab_G) (ad : Nat → Nat) : Prop := (∀ i j, i < 58 → j < 58 → ad i = ad j → i = j) ∧ (∀ q, q ∈ ev_tk → gK G (ad q.1) = q.2) ∧ (∀ q, q ∈ ev_tr → gR G (ad q.1) q.2.1 = some (ad q.2.2)) ∧ (∀ k, k < 26 → gK G (ad (6 + k)) = 6 ∧ gR G (ad (6 + k)) 0 = some (ad (32 + k)) ∧ gK G (ad (32 + k)) = 14 ∧ gN G (ad (32 + k)) = ev_cap k)
def LR (G : ab_G) (ad : Nat → Nat) : Prop := gR G (ad 2) 0 = some (ad 0) ∧ gR G (ad 2) 1 = some (ad 1)
def LM (G : ab_G) (ad : Nat → Nat) : Prop := gR G (ad 4) 1 = some (ad 0) ∧ gR G (ad 4) 2 = some (ad 3)
def LW (G : ab_G) (ad : Nat → Nat) : Prop := gR G (ad 5) 2 = some (ad 0) ∧ gR G (ad 5) 3 = some (ad 1) ∧ gR G (ad 5) 4 = some (ad 3)
def Rep (I : Nat → Nat → Int32) (ad : Nat → Nat) (s : Sx) : Prop := (∀ k, k < 26 → IRow I (ad (6 + k)) (ad (32 + k)) (ev_cap k) (s.1 k)) ∧ ∀ v, v < 14 → I (ad (ev_ob v)) (ev_fl v) = s.2 v
def FrE (ad : Nat → Nat) (I I' : Nat → Nat → Int32) : Prop := ∀ c, (∀ i, i < 58 → c ≠ ad i) → I' c = I c
theorem ev_k0 {G : ab_G} {ad : Nat → Nat} (h : EV G ad) : gK G (ad 0) = 4 := h.2.1 (0, 4) (by decide)
theorem ev_k1 {G : ab_G} {ad : Nat → Nat} (h : EV G ad) : gK G (ad 1) = 9 := h.2.1 (1, 9) (by decide)
theorem ev_k2 {G : ab_G} {ad : Nat → Nat} (h : EV G ad) : gK G (ad 2) = 5 := h.2.1 (2, 5) (by decide)
theorem ev_k3 {G : ab_G} {ad : Nat → Nat} (h : EV G ad) : gK G (ad 3) = 7 := h.2.1 (3, 7) (by decide)
theorem ev_k4 {G : ab_G} {ad : Nat → Nat} (h : EV G ad) : gK G (ad 4) = 3 := h.2.1 (4, 3) (by decide)
theorem ev_k5 {G : ab_G} {ad : Nat → Nat} (h : EV G ad) : gK G (ad 5) = 10 := h.2.1 (5, 10) (by decide)
theorem ev_r_0_0 {G : ab_G} {ad : Nat → Nat} (h : EV G ad) : gR G (ad 0) 0 = some (ad 1) := h.2.2.1 (0, 0, 1) (by decide)
theorem ev_r_0_1 {G : ab_G} {ad : Nat → Nat} (h : EV G ad) : gR G (ad 0) 1 = some (ad (6 + 5)) := h.2.2.1 (0, 1, 11) (by decide)
theorem ev_r_0_2 {G : ab_G} {ad : Nat → Nat} (h : EV G ad) : gR G (ad 0) 2 = some (ad (6 + 6)) := h.2.2.1 (0, 2, 12) (by decide)
theorem ev_r_0_3 {G : ab_G} {ad : Nat → Nat} (h : EV G ad) : gR G (ad 0) 3 = some (ad (6 + 7)) := h.2.2.1 (0, 3, 13) (by decide)
theorem ev_r_0_4 {G : ab_G} {ad : Nat → Nat} (h : EV G ad) : gR G (ad 0) 4 = some (ad (6 + 8)) := h.2.2.1 (0, 4, 14) (by decide)
theorem ev_r_0_5 {G : ab_G} {ad : Nat → Nat} (h : EV G ad) : gR G (ad 0) 5 = some (ad (6 + 9)) := h.2.2.1 (0, 5, 15) (by decide)
theorem ev_r_0_6 {G : ab_G} {ad : Nat → Nat} (h : EV G ad) : gR G (ad 0) 6 = some (ad (6 + 10)) := h.2.2.1 (0, 6, 16) (by decide)
theorem ev_r_0_7 {G : ab_G} {ad : Nat → Nat} (h : EV G ad) : gR G (ad 0) 7 = some (ad (6 + 11)) := h.2.2.1 (0, 7, 17) (by decide)
theorem ev_r_0_8 {G : ab_G} {ad : Nat → Nat} (h : EV G ad) : gR G (ad 0) 8 = some (ad (6 + 12)) := h.2.2.1 (0, 8, 18) (by decide)
theorem ev_r_1_0 {G : ab_G} {ad : Nat → Nat} (h : EV G ad) : gR G (ad 1) 0 = some (ad (6 + 0)) := h.2.2.1 (1, 0, 6) (by decide)
theorem ev_r_1_1 {G : ab_G} {ad : Nat → Nat} (h : EV G ad) : gR G (ad 1) 1 = some (ad (6 + 1)) := h.2.2.1 (1, 1, 7) (by decide)
theorem ev_r_1_2 {G : ab_G} {ad : Nat → Nat} (h : EV G ad) : gR G (ad 1) 2 = some (ad (6 + 2)) := h.2.2.1 (1, 2, 8) (by decide)
theorem ev_r_1_3 {G : ab_G} {ad : Nat → Nat} (h : EV G ad) : gR G (ad 1) 3 = some (ad (6 + 3)) := h.2.2.1 (1, 3, 9) (by decide)
theorem ev_r_1_4 {G : ab_G} {ad : Nat → Nat} (h : EV G ad) : gR G (ad 1) 4 = some (ad (6 + 4)) := h.2.2.1 (1, 4, 10) (by decide)
theorem ev_r_2_6 {G : ab_G} {ad : Nat → Nat} (h : EV G ad) : gR G (ad 2) 6 = some (ad (6 + 13)) := h.2.2.1 (2, 6, 19) (by decide)
theorem ev_r_2_7 {G : ab_G} {ad : Nat → Nat} (h : EV G ad) : gR G (ad 2) 7 = some (ad (6 + 14)) := h.2.2.1 (2, 7, 20) (by decide)
theorem ev_r_2_8 {G : ab_G} {ad : Nat → Nat} (h : EV G ad) : gR G (ad 2) 8 = some (ad (6 + 15)) := h.2.2.1 (2, 8, 21) (by decide)
theorem ev_r_2_9 {G : ab_G} {ad : Nat → Nat} (h : EV G ad) : gR G (ad 2) 9 = some (ad (6 + 16)) := h.2.2.1 (2, 9, 22) (by decide)
theorem ev_r_2_10 {G : ab_G} {ad : Nat → Nat} (h : EV G ad) : gR G (ad 2) 10 = some (ad (6 + 17)) := h.2.2.1 (2, 10, 23) (by decide)
theorem ev_r_3_0 {G : ab_G} {ad : Nat → Nat} (h : EV G ad) : gR G (ad 3) 0 = some (ad (6 + 18)) := h.2.2.1 (3, 0, 24) (by decide)
theorem ev_r_3_1 {G : ab_G} {ad : Nat → Nat} (h : EV G ad) : gR G (ad 3) 1 = some (ad (6 + 19)) := h.2.2.1 (3, 1, 25) (by decide)
theorem ev_r_3_2 {G : ab_G} {ad : Nat → Nat} (h : EV G ad) : gR G (ad 3) 2 = some (ad (6 + 20)) := h.2.2.1 (3, 2, 26) (by decide)
theorem ev_r_3_3 {G : ab_G} {ad : Nat → Nat} (h : EV G ad) : gR G (ad 3) 3 = some (ad (6 + 21)) := h.2.2.1 (3, 3, 27) (by decide)
theorem ev_r_4_0 {G : ab_G} {ad : Nat → Nat} (h : EV G ad) : gR G (ad 4) 0 = some (ad (6 + 22)) := h.2.2.1 (4, 0, 28) (by decide)
theorem ev_r_5_0 {G : ab_G} {ad : Nat → Nat} (h : EV G ad) : gR G (ad 5) 0 = some (ad (6 + 23)) := h.2.2.1 (5, 0, 29) (by decide)
theorem ev_r_5_1 {G : ab_G} {ad : Nat → Nat} (h : EV G ad) : gR G (ad 5) 1 = some (ad (6 + 24)) := h.2.2.1 (5, 1, 30) (by decide)
theorem ev_rk {G : ab_G} {ad : Nat → Nat} (h : EV G ad) {k : Nat} (hk : k < 26) : gK G (ad (6 + k)) = 6 := (h.2.2.2 k hk).1
theorem ev_cap_lt (k : Nat) : ev_cap k < 100000 := by
  unfold ev_cap
  by_cases h : k < 26
  · have : ∀ k, k < 26 → ([301, 301, 301, 300, 300, 150, 150, 600, 600, 75, 75, 75, 75, 8, 8, 150, 150, 150, 8, 32, 88, 10, 1650, 1650, 1650, 300] : List Nat).getD k 0 < 100000 := by decide
    exact this k h
  · rw [List.getD_eq_getElem?_getD, List.getElem?_eq_none (by simp; omega)]
    decide
theorem ev_row {G : ab_G} {ad : Nat → Nat} (h : EV G ad) {k : Nat} (hk : k < 26) : KRow G (ad (6 + k)) (ad (32 + k)) (ev_cap k) :=
  ⟨(h.2.2.2 k hk).1, (h.2.2.2 k hk).2.1, (h.2.2.2 k hk).2.2.1, (h.2.2.2 k hk).2.2.2, fun e => by have := h.1 _ _ (by omega) (by omega) e; omega, ev_cap_lt k⟩
theorem Rep_v {I : Nat → Nat → Int32} {ad : Nat → Nat} {s : Sx} (h : Rep I ad s) (v : Nat) (hv : v < 14) : I (ad (ev_ob v)) (ev_fl v) = s.2 v := h.2 v hv
theorem FrE_rfl {ad : Nat → Nat} {I : Nat → Nat → Int32} : FrE ad I I := fun _ _ => rfl
theorem FrE.tr {ad : Nat → Nat} {I I' I'' : Nat → Nat → Int32} (h : FrE ad I I') (h' : FrE ad I' I'') : FrE ad I I'' := fun c hc => (h' c hc).trans (h c hc)
theorem ev_ob_lt (v : Nat) : ev_ob v < 6 := by
  unfold ev_ob
  by_cases h : v < 14
  · have : ∀ k, k < 14 → ([0, 0, 2, 2, 2, 2, 3, 3, 3, 3, 3, 4, 5, 5] : List Nat).getD k 0 < 6 := by decide
    exact this v h
  · rw [List.getD_eq_getElem?_getD, List.getElem?_eq_none (by simp; omega)]
    decide
theorem Rep_row {G : ab_G} {ad : Nat → Nat} {I I' : Nat → Nat → Int32} {s : Sx} {k : Nat} {xs : List Int32} (hE : EV G ad) (hP : Rep I ad s) (hk : k < 26) (hi : IRow I' (ad (6 + k)) (ad (32 + k)) (ev_cap k) xs) (hF : Fr2 I I' (ad (6 + k)) (ad (32 + k))) : Rep I' ad (sB s k xs) ∧ FrE ad I I' := by
  refine ⟨⟨fun j hj => ?_, fun v hv => ?_⟩, fun c hc => hF c (hc _ (by omega)) (hc _ (by omega))⟩
  · by_cases e : j = k
    · subst e
      simpa [sB] using hi
    · have h1 : I' (ad (6 + j)) = I (ad (6 + j)) := hF _ (fun q => e (by have := hE.1 _ _ (by omega) (by omega) q; omega)) (fun q => by have := hE.1 _ _ (by omega) (by omega) q; omega)
      have h2 : I' (ad (32 + j)) = I (ad (32 + j)) := hF _ (fun q => by have := hE.1 _ _ (by omega) (by omega) q; omega) (fun q => e (by have := hE.1 _ _ (by omega) (by omega) q; omega))
      have h3 : (sB s k xs).1 j = s.1 j := if_neg e
      rw [h3]
      have h4 := hP.1 j hj
      exact ⟨by rw [h1]; exact h4.1, h4.2.1, fun i hi => by rw [h2]; exact h4.2.2 i hi⟩
  · have hl := ev_ob_lt v
    have h1 : I' (ad (ev_ob v)) = I (ad (ev_ob v)) := hF _ (fun q => by have := hE.1 _ _ (by omega) (by omega) q; omega) (fun q => by have := hE.1 _ _ (by omega) (by omega) q; omega)
    rw [h1]
    exact hP.2 v hv
theorem ev_inj_v : ∀ v w, v < 14 → w < 14 → ev_ob v = ev_ob w → ev_fl v = ev_fl w → v = w := by
  have : ∀ v, v < 14 → ∀ w, w < 14 → ev_ob v = ev_ob w → ev_fl v = ev_fl w → v = w := by decide
  exact fun v w hv hw => this v hv w hw
theorem Rep_put {G : ab_G} {ad : Nat → Nat} {I : Nat → Nat → Int32} {s : Sx} (hE : EV G ad) (hP : Rep I ad s) (v : Nat) (hv : v < 14) (x : Int32) : Rep (u2 I (ad (ev_ob v)) (ev_fl v) x) ad (sV s v x) ∧ FrE ad I (u2 I (ad (ev_ob v)) (ev_fl v) x) := by
  have hl := ev_ob_lt v
  refine ⟨⟨fun j hj => ?_, fun w hw => ?_⟩, fun c hc => u2_n _ _ _ (hc _ (by omega))⟩
  · have h1 : u2 I (ad (ev_ob v)) (ev_fl v) x (ad (6 + j)) = I (ad (6 + j)) := u2_n _ _ _ (fun q => by have := hE.1 _ _ (by omega) (by omega) q; omega)
    have h2 : u2 I (ad (ev_ob v)) (ev_fl v) x (ad (32 + j)) = I (ad (32 + j)) := u2_n _ _ _ (fun q => by have := hE.1 _ _ (by omega) (by omega) q; omega)
    have h4 := hP.1 j hj
    exact ⟨by rw [h1]; exact h4.1, h4.2.1, fun i hi => by rw [h2]; exact h4.2.2 i hi⟩
  · have hlw := ev_ob_lt w
    by_cases e : w = v
    · subst e
      rw [u2_s]
      simp [sV]
    · have h3 : (sV s v x).2 w = s.2 w := if_neg e
      rw [h3]
      by_cases e2 : ev_ob w = ev_ob v
      · rw [e2, u2_s]
        dsimp only
        rw [if_neg (fun q => e (ev_inj_v _ _ hw hv e2 q)), ← e2]
        exact hP.2 w hw
      · rw [u2_n _ _ _ (fun q => e2 (hE.1 _ _ (by omega) (by omega) q))]
        exact hP.2 w hw
theorem gR_sR (G : ab_G) (a k : Nat) (x : Option Nat) : gR (sR G a k x) = u2 (gR G) a k x := rfl
theorem EV_sR {G : ab_G} {ad : Nat → Nat} (hE : EV G ad) {i f : Nat} {v : Option Nat} (hi : i < 6) (hn : ∀ q ∈ ev_tr, ¬ (q.1 = i ∧ q.2.1 = f) ∧ q.1 < 58) : EV (sR G (ad i) f v) ad := by
  refine ⟨hE.1, hE.2.1, fun q hq => ?_, fun k hk => ⟨(hE.2.2.2 k hk).1, ?_, (hE.2.2.2 k hk).2.2⟩⟩
  · rw [gR_sR]
    by_cases e : q.1 = i
    · rw [e, u2_s]
      dsimp only
      rw [if_neg (fun c => (hn q hq).1 ⟨e, c⟩), ← e]
      exact hE.2.2.1 q hq
    · rw [u2_n _ _ _ (fun c => e (hE.1 _ _ (hn q hq).2 (by omega) c))]
      exact hE.2.2.1 q hq
  · rw [gR_sR, u2_n _ _ _ (fun c => by have := hE.1 _ _ (by omega) (by omega) c; omega)]
    exact (hE.2.2.2 k hk).2.1
theorem i64_ne {x : Int32} (h : ¬ x = 0) : ¬ x.toInt64 = 0 := by
  intro e
  apply h
  have := congrArg Int64.toInt e
  rw [Int32.toInt_toInt64] at this
  exact Int32.toInt_inj.1 this
def bS {α β : Type} (x : α) (k : α → β) : β := k x
def bT {α β γ : Type} (x : α × β) (k : α → β → γ) : γ := k x.1 x.2
def bOv {α β : Type} (x : Option α) (k : α → Option β) : Option β := match x with
  | none => none
  | some a => k a
def bP {α β : Type} (x : Option α) (k : α → Option β) : Option β := match x with
  | none => none
  | some a => k a
def bO {α β γ : Type} (x : Option (α × β)) (k : α → β → Option γ) : Option γ := match x with
  | none => none
  | some a => k a.1 a.2
def gd {α : Type} (c : Prop) [Decidable c] (x : Option α) : Option α := if c then x else none
theorem bS_eq {α β : Type} (x : α) (k : α → β) : bS x k = k x := rfl
theorem bT_eq {α β γ : Type} (x : α) (y : β) (k : α → β → γ) : bT (x, y) k = k x y := rfl
theorem bOv_some {α β : Type} (a : α) (k : α → Option β) : bOv (some a) k = k a := rfl
theorem bP_some {α β : Type} (a : α) (k : α → Option β) : bP (some a) k = k a := rfl
theorem bO_some {α β γ : Type} (a : α) (b : β) (k : α → β → Option γ) : bO (some (a, b)) k = k a b := rfl
theorem bOv_ex {α β : Type} {x : Option α} {k : α → Option β} {r : β} (h : bOv x k = some r) : ∃ a, x = some a := by
  cases x with
  | none => cases h
  | some a => exact ⟨a, rfl⟩
theorem bP_ex {α β : Type} {x : Option α} {k : α → Option β} {r : β} (h : bP x k = some r) : ∃ a, x = some a := by
  cases x with
  | none => cases h
  | some a => exact ⟨a, rfl⟩
theorem bO_ex {α β γ : Type} {x : Option (α × β)} {k : α → β → Option γ} {r : γ} (h : bO x k = some r) : ∃ a, x = some a := by
  cases x with
  | none => cases h
  | some a => exact ⟨a, rfl⟩
theorem bOv_go {α β : Type} {x : Option α} {k : α → Option β} {r : β} {a : α} (h : bOv x k = some r) (e : x = some a) : k a = some r := by rw [e] at h; exact h
theorem bP_go {α β : Type} {x : Option α} {k : α → Option β} {r : β} {a : α} (h : bP x k = some r) (e : x = some a) : k a = some r := by rw [e] at h; exact h
theorem bO_go {α β γ : Type} {x : Option (α × β)} {k : α → β → Option γ} {r : γ} {a : α} {b : β} (h : bO x k = some r) (e : x = some (a, b)) : k a b = some r := by rw [e] at h; exact h
theorem gd_e {α : Type} {c : Prop} [Decidable c] {x : Option α} (h : c) : gd c x = x := if_pos h
theorem gd_c {α : Type} {c : Prop} [Decidable c] {x : Option α} {r : α} (h : gd c x = some r) : c := by
  by_cases hc : c
  · exact hc
  · rw [show gd c x = none from if_neg hc] at h; cases h
abbrev vi (x : Int32) (n : Nat) : Prop := 0 ≤ x.toInt ∧ x.toInt < n
theorem vi_in {x : Int32} {n : Nat} (h : vi x n) : vp_in x n := (vp_in_iff).2 h
theorem vi_of {x : Int32} {n : Nat} (h : vp_in x n) : vi x n := (vp_in_iff).1 h
theorem i_sw {x v : Int32} (h : x.toInt = v.toInt) : x = v := Int32.toInt_inj.1 h
theorem i_sw_x {x v w : Int32} (h : x.toInt = v.toInt) (n : v.toInt ≠ w.toInt) : ¬ x = w := fun e => n (by rw [← h, e])
theorem i_sw_n {x v : Int32} (h : ¬ x.toInt = v.toInt) : ¬ x = v := fun e => h (by rw [e])
theorem i_sw_d {x v : Int32} {lo hi : Int} (h : x.toInt < lo ∨ hi < x.toInt) (n : ¬ (v.toInt < lo ∨ hi < v.toInt)) : ¬ x = v := fun e => n (by rw [← e]; exact h)
theorem nar01 {x : Int32} (h : x = 0 ∨ x = 1) : narrow .boolean (.int x) = .int x := by
  rcases h with rfl | rfl <;> rfl
section USC
variable {d : Nat} {Γ : ab_Gm} {o : Nat} {I : ab_Info} {scL : Nat} {scX : Nat → Int32} {P : ab_Pq} {X : ab_Xq} {R : ab_K} {pc : Nat} {L : List (Option Value)} {S r : List Value} {G : ab_G} {bc bs : Nat}
theorem us_iconstC {n : Int} {c : Int32} (hR : ab_Cl d Γ o I scL scX P X R) (hd : decode (mCd I) pc = .ok (.iconst n, 1)) (hc : Int32.ofInt n = c) (h : R (pc + 1) L (.int c :: S) G bc bs) : R pc L (S) G bc bs := us_iconst hR hd (by rw [hc]; exact h)
theorem us_bipushC {n : Int} {c : Int32} (hR : ab_Cl d Γ o I scL scX P X R) (hd : decode (mCd I) pc = .ok (.bipush n, 2)) (hc : (Int8.ofInt n).toInt32 = c) (h : R (pc + 2) L (.int c :: S) G bc bs) : R pc L (S) G bc bs := us_bipush hR hd (by rw [hc]; exact h)
theorem us_sipushC {n : Int} {c : Int32} (hR : ab_Cl d Γ o I scL scX P X R) (hd : decode (mCd I) pc = .ok (.sipush n, 3)) (hc : (Int16.ofInt n).toInt32 = c) (h : R (pc + 3) L (.int c :: S) G bc bs) : R pc L (S) G bc bs := us_sipush hR hd (by rw [hc]; exact h)
theorem us_lconstC {n : Fin 2} {c : Int64} (hR : ab_Cl d Γ o I scL scX P X R) (hd : decode (mCd I) pc = .ok (.lconst n, 1)) (hc : Int64.ofNat (n : Nat) = c) (h : R (pc + 1) L (.long c :: S) G bc bs) : R pc L (S) G bc bs := us_lconst hR hd (by rw [hc]; exact h)
theorem us_iincC {i : Nat} {n : Int} {x c : Int32} (hR : ab_Cl d Γ o I scL scX P X R) (hd : decode (mCd I) pc = .ok (.iinc i n, 3)) (hl : L.getD i none = some (.int x)) (hi : i < L.length) (hc : Int32.ofInt n = c) (h : R (pc + 3) (ab_st1 L i (.int (x + c))) S G bc bs) : R pc L (S) G bc bs := us_iinc hR hd hl hi (by rw [hc]; exact h)
theorem us_strlenC {i j : Nat} (hR : ab_Cl d Γ o I scL scX P X R) (hd : decode (mCd I) pc = .ok (.invokevirtual i, 3)) (hm : ab_mR o i = some 8) (hj : j < 7) (hc : ab_cat r ≤ 8) (h : R (pc + 3) L (.int (Int32.ofNat (ab_tx j).length) :: r) G bc bs) : R pc L (.float (UInt32.ofNat (j + 1)) :: r) G bc bs := by
  have hu : (UInt32.ofNat (j + 1)).toNat = j + 1 := by rw [UInt32.toNat_ofNat']; omega
  exact us_strlen hR hd hm (by omega) (by omega) hc (by rw [hu]; exact h)
theorem us_strcharC {i j : Nat} {x : Int32} (hR : ab_Cl d Γ o I scL scX P X R) (hd : decode (mCd I) pc = .ok (.invokevirtual i, 3)) (hm : ab_mR o i = some 9) (hj : j < 7) (hc : ab_cat r ≤ 8) (hv : vp_in x (ab_tx j).length) (h : R (pc + 3) L (.int ((ab_tx j).getD x.toNatClampNeg 0) :: r) G bc bs) : R pc L (.int x :: .float (UInt32.ofNat (j + 1)) :: r) G bc bs := by
  have hu : (UInt32.ofNat (j + 1)).toNat = j + 1 := by rw [UInt32.toNat_ofNat']; omega
  exact us_strchar hR hd hm (by omega) (by omega) hc (by rw [hu]; exact hv) (by rw [hu]; exact h)
theorem us_getIx {i ci f a : Nat} {x : Int32} (hR : ab_Cl d Γ o I scL scX P X R) (hd : decode (mCd I) pc = .ok (.getfield i, 3)) (hf : ab_fR o i = some (ci, f)) (hk : gK G a = ci) (ht : ab_isR (ab_ty ci f) = false) (hx : gI G a f = x) (h : R (pc + 3) L (.int x :: r) G bc bs) : R pc L (.ref a :: r) G bc bs := us_getI hR hd hf hk ht (by rw [hx]; exact h)
theorem us_putIx {G : ab_G} {ad : Nat → Nat} {J : Nat → Nat → Int32} {s : Sx} (hE : EV G ad) (hP : Rep J ad s) (v : Nat) (hv : v < 14) {i ci : Nat} {x : Int32} (hR : ab_Cl d Γ o I scL scX P X R) (hd : decode (mCd I) pc = .ok (.putfield i, 3)) (hf : ab_fR o i = some (ci, ev_fl v)) (hfin : (ab_T ci (ev_fl v)).2.2.2 = false ∨ (ab_ini I = true ∧ ci = o)) (hk : gK G (ad (ev_ob v)) = ci) (ht : ab_isR (ab_ty ci (ev_fl v)) = false) (hn : narrow (ab_ty ci (ev_fl v)) (.int x) = .int x) (h : ∀ I1 s1, s1 = sV s v x → Rep I1 ad s1 → FrE ad J I1 → R (pc + 3) L r (gW G I1) bc bs) : R pc L (.int x :: .ref (ad (ev_ob v)) :: r) (gW G J) bc bs :=
  us_putI hR hd hf hfin hk ht hn (h _ _ rfl (Rep_put hE hP v hv x).1 (Rep_put hE hP v hv x).2)
end USC
section CR
variable {d : Nat} {G : ab_G} {ad : Nat → Nat} {I : Nat → Nat → Int32} {s : Sx} {P : ab_Pq} {X : ab_Xq}
theorem cR_size (hE : EV G ad) (hP : Rep I ad s) (k : Nat) (hk : k < 26) (h : P (gW G I) (some (.int (nI (s.1 k).length)))) : ab_Gam (d + 1) 6001 [.ref (ad (6 + k))] (gW G I) P X := sp_Row_size (ev_row hE hk) (hP.1 k hk) h
theorem cR_get (hE : EV G ad) (hP : Rep I ad s) (k : Nat) (hk : k < 26) {x : Int32} (h : P (gW G I) (some (.int (xg (s.1 k) x)))) : ab_Gam (d + 1) 6002 [.ref (ad (6 + k)), .int x] (gW G I) P X := sp_Row_get (ev_row hE hk) (hP.1 k hk) h
theorem cR_set (hE : EV G ad) (hP : Rep I ad s) (k : Nat) (hk : k < 26) {x v : Int32} (h : ∀ I1 s1, s1 = sB s k (xset (s.1 k) x v) → Rep I1 ad s1 → FrE ad I I1 → P (gW G I1) none) : ab_Gam (d + 1) 6003 [.ref (ad (6 + k)), .int x, .int v] (gW G I) P X := sp_Row_set (ev_row hE hk) (hP.1 k hk) (fun I' h1 h2 => h I' _ rfl (Rep_row hE hP hk h1 h2).1 (Rep_row hE hP hk h1 h2).2)
theorem cR_add (hE : EV G ad) (hP : Rep I ad s) (k : Nat) (hk : k < 26) {v : Int32} (h : ∀ I1 s1, s1 = sB s k (xadd (ev_cap k) (s.1 k) v) → Rep I1 ad s1 → FrE ad I I1 → P (gW G I1) none) : ab_Gam (d + 1) 6004 [.ref (ad (6 + k)), .int v] (gW G I) P X := sp_Row_add (ev_row hE hk) (hP.1 k hk) (fun I' h1 h2 => h I' _ rfl (Rep_row hE hP hk h1 h2).1 (Rep_row hE hP hk h1 h2).2)
theorem cR_last (hE : EV G ad) (hP : Rep I ad s) (k : Nat) (hk : k < 26) (h : P (gW G I) (some (.int (xlast (s.1 k))))) : ab_Gam (d + 1) 6005 [.ref (ad (6 + k))] (gW G I) P X := sp_Row_last (ev_row hE hk) (hP.1 k hk) h
theorem cR_takeLast (hE : EV G ad) (hP : Rep I ad s) (k : Nat) (hk : k < 26) (h : ∀ I1 q, q = (sB s k (s.1 k).dropLast, xlast (s.1 k)) → Rep I1 ad q.1 → FrE ad I I1 → P (gW G I1) (some (.int q.2))) : ab_Gam (d + 1) 6006 [.ref (ad (6 + k))] (gW G I) P X := sp_Row_takeLast (ev_row hE hk) (hP.1 k hk) (fun I' h1 h2 => h I' _ rfl (Rep_row hE hP hk h1 h2).1 (Rep_row hE hP hk h1 h2).2)
theorem cR_cut (hE : EV G ad) (hP : Rep I ad s) (k : Nat) (hk : k < 26) {x : Int32} (h : ∀ I1 s1, s1 = sB s k (xcut (s.1 k) x) → Rep I1 ad s1 → FrE ad I I1 → P (gW G I1) none) : ab_Gam (d + 1) 6007 [.ref (ad (6 + k)), .int x] (gW G I) P X := sp_Row_cut (ev_row hE hk) (hP.1 k hk) (fun I' h1 h2 => h I' _ rfl (Rep_row hE hP hk h1 h2).1 (Rep_row hE hP hk h1 h2).2)
theorem cR_empty (hE : EV G ad) (hP : Rep I ad s) (k : Nat) (hk : k < 26) (h : ∀ I1 s1, s1 = sB s k [] → Rep I1 ad s1 → FrE ad I I1 → P (gW G I1) none) : ab_Gam (d + 1) 6008 [.ref (ad (6 + k))] (gW G I) P X := sp_Row_empty (ev_row hE hk) (hP.1 k hk) (fun I' h1 h2 => h I' _ rfl (Rep_row hE hP hk h1 h2).1 (Rep_row hE hP hk h1 h2).2)
theorem cR_fillWithZeros (hE : EV G ad) (hP : Rep I ad s) (k : Nat) (hk : k < 26) (h : ∀ I1 s1, s1 = sB s k (List.replicate (ev_cap k) 0) → Rep I1 ad s1 → FrE ad I I1 → P (gW G I1) none) : ab_Gam (d + 1) 6009 [.ref (ad (6 + k))] (gW G I) P X := sp_Row_fillWithZeros (ev_row hE hk) (hP.1 k hk) (fun I' h1 h2 => h I' _ rfl (Rep_row hE hP hk h1 h2).1 (Rep_row hE hP hk h1 h2).2)
theorem cR_placeOf (hE : EV G ad) (hP : Rep I ad s) (k : Nat) (hk : k < 26) {v : Int32} (h : P (gW G I) (some (.int (xpos (s.1 k) v)))) : ab_Gam (d + 1) 6010 [.ref (ad (6 + k)), .int v] (gW G I) P X := sp_Row_placeOf (ev_row hE hk) (hP.1 k hk) h
end CR
