/-! a step of the reference, code by code -/
section RST
variable {m : Mx} {A : Nat → Nat → Int32} {f e t D o x y w : Int32} {c h : Nat}
theorem rst_lo {k : Int32} (hc : c < 1000) (h4 : m 4 c = k) (hk : f_12069 k (fun _ _ => 0) = 0) {h : Int32} : rst x y (nI c) (rS m A f e t D h o) = f_12067 (nI c) (rS m A f e t D h o) := by
  have e4 : mg (rS m A f e t D h o) 4 (nI c) = k := by rw [q_mc (by decide) (by omega), h4]
  unfold rst
  rw [e4, if_pos (show f_12069 k (rS m A f e t D h o) = 0 from hk)]
theorem rst_z {k : Int32} (hc : c < 1000) (h4 : m 4 c = k) (hk : f_12069 k (fun _ _ => 0) ≠ 0) {h : Int32} : rst x y (nI c) (rS m A (nI 0) 0 t D h o) = some (rS m A (nI 0) 1 t D h o, nI c) := by
  have e4 : mg (rS m A (nI 0) 0 t D h o) 4 (nI c) = k := by rw [q_mc (by decide) (by omega), h4]
  unfold rst
  rw [e4, if_neg (show ¬ f_12069 k (rS m A (nI 0) 0 t D h o) = 0 from hk), q_burn0, if_pos rfl]
theorem rst_hi {k : Int32} {n : Nat} (hn : n < 90000) (hc : c < 1000) (h4 : m 4 c = k) (hk : f_12069 k (fun _ _ => 0) ≠ 0) {h : Int32} : rst x y (nI c) (rS m A (nI (n + 1)) 0 t D h o) = f_12068 (nI c) x y (rS m A (nI n) 0 t D h o) := by
  have e4 : mg (rS m A (nI (n + 1)) 0 t D h o) 4 (nI c) = k := by rw [q_mc (by decide) (by omega), h4]
  unfold rst
  rw [e4, if_neg (show ¬ f_12069 k (rS m A (nI (n + 1)) 0 t D h o) = 0 from hk), q_burn hn, if_neg (show ¬ (1 : Int32) = 0 by decide)]
theorem s67 {k : Int32} (hc : c < 1000) (h4 : m 4 c = k) (h5 : m 5 c = w) {h : Int32} : mg (rS m A f e t D h o) 4 (nI c) = k ∧ mg (rS m A f e t D h o) 5 (nI c) = w ∧ vi (nI c) 1200 := ⟨by rw [q_mc (by decide) (by omega), h4], by rw [q_mc (by decide) (by omega), h5], vi_n (by omega) (by omega)⟩
theorem rc1 (hc : c < 1000) (h4 : m 4 c = 1) (h5 : m 5 c = w) (hh : h < 1300) : rst x y (nI c) (rS m A f e t D (nI h) o) = some (rS m (u2 A 30 h w) f e t D (nI (h + 1)) o, nI (c + 1)) := by
  rw [rst_lo hc h4 (by decide)]
  obtain ⟨e4, e5, hv⟩ := s67 (A := A) (f := f) (e := e) (t := t) (D := D) (o := o) (h := nI h) hc h4 h5
  unfold f_12067
  rw [gd_e hv, gd_e hv, e4, e5, if_pos rfl, q_push hh, bOv_some, nI_p1 (by omega)]
theorem rc2 {v d : Nat} (hc : c < 1000) (h4 : m 4 c = 2) (h5 : m 5 c = nI v) (hv8 : v < 8) (hd : d < 11) (hh : h < 1300) : rst x y (nI c) (rS m A f e t (nI d) (nI h) o) = some (rS m (u2 A 30 h (A 31 (8 * d + v))) f e t (nI d) (nI (h + 1)) o, nI (c + 1)) := by
  rw [rst_lo hc h4 (by decide)]
  obtain ⟨e4, e5, hv⟩ := s67 (A := A) (f := f) (e := e) (t := t) (D := nI d) (o := o) (h := nI h) hc h4 h5
  unfold f_12067
  rw [gd_e hv, gd_e hv, e4, e5, if_neg (by decide), if_pos rfl, q_f52, v_at' (by omega) hv8, gd_e (vi_n (by omega) (by omega)), q_mg (by decide) (by omega), q_push hh, bOv_some, nI_p1 (by omega)]
theorem rc3 {v d : Nat} (hc : c < 1000) (h4 : m 4 c = 3) (h5 : m 5 c = nI v) (hv8 : v < 8) (hd : d < 11) (hh : h < 1300) : rst x y (nI c) (rS m A f e t (nI d) (nI (h + 1)) o) = some (rS m (u2 A 31 (8 * d + v) (A 30 h)) f e t (nI d) (nI h) o, nI (c + 1)) := by
  rw [rst_lo hc h4 (by decide)]
  obtain ⟨e4, e5, hv⟩ := s67 (A := A) (f := f) (e := e) (t := t) (D := nI d) (o := o) (h := nI (h + 1)) hc h4 h5
  unfold f_12067
  rw [gd_e hv, gd_e hv, e4, e5, if_neg (by decide), if_neg (by decide), if_pos rfl, q_pop hh, bO_some, q_f52, v_at' (by omega) hv8, gd_e (vi_n (by omega) (by omega)), q_ms (by decide) (by omega), bS_eq, nI_p1 (by omega)]
theorem rc8 (hc : c < 1000) (h4 : m 4 c = 8) (hh : h < 1300) : rst x y (nI c) (rS m A f e t D (nI (h + 1)) o) = some (rS m (u2 A 30 h (tr (A 30 h))) f e t D (nI (h + 1)) o, nI (c + 1)) := by
  rw [rst_lo hc h4 (by decide)]
  obtain ⟨e4, e5, hv⟩ := s67 (A := A) (f := f) (e := e) (t := t) (D := D) (o := o) (h := nI (h + 1)) hc h4 rfl
  unfold f_12067 f_12067_J154 tr
  rw [gd_e hv, gd_e hv, e4, e5, if_neg (by decide), if_neg (by decide), if_neg (by decide), if_neg (by decide), if_neg (by decide), if_neg (by decide), if_neg (by decide), if_pos rfl, q_pop hh, bO_some]
  by_cases z : A 30 h = 0
  · rw [if_pos z, if_pos z, q_push hh, bOv_some, nI_p1 (by omega)]
  · rw [if_neg z, if_neg z, q_push hh, bOv_some, nI_p1 (by omega)]
theorem rc11 {n : Nat} (hn : n < 8) (hc : c < 1000) (h4 : m 4 c = 11) (hh : h < 1300) : rst x y (nI c) (rS m A f e t D (nI (h + 1)) (nI n)) = some (rS m (u2 A 33 n (A 30 h)) f e t D (nI h) (nI (n + 1)), nI (c + 1)) := by
  rw [rst_lo hc h4 (by decide)]
  obtain ⟨e4, e5, hv⟩ := s67 (A := A) (f := f) (e := e) (t := t) (D := D) (o := nI n) (h := nI (h + 1)) hc h4 rfl
  have n8 : ¬ nI n = 8 := by rw [i_eq, nI_T (by omega), show (8 : Int32).toInt = 8 by decide]; omega
  unfold f_12067 f_12065
  rw [gd_e hv, gd_e hv, e4, e5, if_neg (by decide), if_neg (by decide), if_neg (by decide), if_neg (by decide), if_neg (by decide), if_neg (by decide), if_neg (by decide), if_neg (by decide), if_neg (by decide), if_neg (by decide), if_pos rfl, q_pop hh, bO_some, q_f57, if_neg n8, gd_e (vi_n (by omega) (by omega)), q_ms (by decide) (by omega), bS_eq, q_f57, q_57, nI_p1 (by omega), nI_p1 (by omega), bS_eq, bOv_some]
theorem rc11x (hc : c < 1000) (h4 : m 4 c = 11) (hh : h < 1300) : rst x y (nI c) (rS m A f e t D (nI (h + 1)) (nI 8)) = some (rS m A f 6 t D (nI h) (nI 8), nI (c + 1)) := by
  rw [rst_lo hc h4 (by decide)]
  obtain ⟨e4, e5, hv⟩ := s67 (A := A) (f := f) (e := e) (t := t) (D := D) (o := nI 8) (h := nI (h + 1)) hc h4 rfl
  unfold f_12067 f_12065
  rw [gd_e hv, gd_e hv, e4, e5, if_neg (by decide), if_neg (by decide), if_neg (by decide), if_neg (by decide), if_neg (by decide), if_neg (by decide), if_neg (by decide), if_neg (by decide), if_neg (by decide), if_neg (by decide), if_pos rfl, q_pop hh, bO_some, q_f57, if_pos (by decide), q_50, bS_eq, bOv_some, nI_p1 (by omega)]
theorem rc12 {n : Nat} (hn : n < 32) (hc : c < 1000) (h4 : m 4 c = 12) (hh : h < 1200) (hA : A 30 h = nI n) : rst x y (nI c) (rS m A f e t D (nI (h + 1 + 1)) o) = some (rS m (u2 A 34 n (A 30 (h + 1))) f e t D (nI h) o, nI (c + 1)) := by
  rw [rst_lo hc h4 (by decide)]
  obtain ⟨e4, e5, hv⟩ := s67 (A := A) (f := f) (e := e) (t := t) (D := D) (o := o) (h := nI (h + 1 + 1)) hc h4 rfl
  have h32 : nI n < 32 := by rw [i_lt, nI_T (by omega), show (32 : Int32).toInt = 32 by decide]; omega
  unfold f_12067 f_12064
  rw [gd_e hv, gd_e hv, e4, e5, if_neg (by decide), if_neg (by decide), if_neg (by decide), if_neg (by decide), if_neg (by decide), if_neg (by decide), if_neg (by decide), if_neg (by decide), if_neg (by decide), if_neg (by decide), if_neg (by decide), if_pos rfl, q_pop (by omega), bO_some, q_pop (by omega), bO_some, hA]
  rw [if_neg (fun q => (q_isc.1 q).elim (fun z => nI_nn (by omega) z) (fun z => z h32)), gd_e (vi_n hn (by omega)), q_ms (by decide) (by omega), bS_eq, bOv_some, nI_p1 (by omega)]
theorem rc12x {n : Int32} (hn : n < 0 ∨ ¬ n < 32) (hc : c < 1000) (h4 : m 4 c = 12) (hh : h < 1200) (hA : A 30 h = n) : rst x y (nI c) (rS m A f e t D (nI (h + 1 + 1)) o) = some (rS m A f 4 t D (nI h) o, nI (c + 1)) := by
  rw [rst_lo hc h4 (by decide)]
  obtain ⟨e4, e5, hv⟩ := s67 (A := A) (f := f) (e := e) (t := t) (D := D) (o := o) (h := nI (h + 1 + 1)) hc h4 rfl
  unfold f_12067 f_12064
  rw [gd_e hv, gd_e hv, e4, e5, if_neg (by decide), if_neg (by decide), if_neg (by decide), if_neg (by decide), if_neg (by decide), if_neg (by decide), if_neg (by decide), if_neg (by decide), if_neg (by decide), if_neg (by decide), if_neg (by decide), if_pos rfl, q_pop (by omega), bO_some, q_pop (by omega), bO_some, hA, if_pos (q_isc.2 hn), q_50, bS_eq, bOv_some, nI_p1 (by omega)]
theorem rc13 (hc : c < 1000) (h4 : m 4 c = 13) (h5 : m 5 c = w) (hh : h < 1300) : rst x y (nI c) (rS m A f e t D (nI (h + 1)) o) = some (rS m A f e t D (nI h) o, if A 30 h = 0 then w else nI (c + 1)) := by
  rw [rst_lo hc h4 (by decide)]
  obtain ⟨e4, e5, hv⟩ := s67 (A := A) (f := f) (e := e) (t := t) (D := D) (o := o) (h := nI (h + 1)) hc h4 h5
  unfold f_12067
  rw [gd_e hv, gd_e hv, e4, e5, if_neg (by decide), if_neg (by decide), if_neg (by decide), if_neg (by decide), if_neg (by decide), if_neg (by decide), if_neg (by decide), if_neg (by decide), if_neg (by decide), if_neg (by decide), if_neg (by decide), if_neg (by decide), if_pos rfl, q_pop hh, bO_some]
  by_cases z : A 30 h = 0
  · rw [if_pos z, if_pos z]
  · rw [if_neg z, if_neg z, nI_p1 (by omega)]
theorem rc14 {h : Int32} (hc : c < 1000) (h4 : m 4 c = 14) (h5 : m 5 c = w) : rst x y (nI c) (rS m A f e t D h o) = some (rS m A f e t D h o, w) := by
  rw [rst_lo hc h4 (by decide)]
  obtain ⟨e4, e5, hv⟩ := s67 (A := A) (f := f) (e := e) (t := t) (D := D) (o := o) (h := h) hc h4 h5
  unfold f_12067
  rw [gd_e hv, gd_e hv, e4, e5, if_neg (by decide), if_neg (by decide), if_neg (by decide), if_neg (by decide), if_neg (by decide), if_neg (by decide), if_neg (by decide), if_neg (by decide), if_neg (by decide), if_neg (by decide), if_neg (by decide), if_neg (by decide), if_neg (by decide), if_pos rfl]
theorem rc15 {d : Nat} {h : Int32} (hd : d < 11) (hc : c < 1000) (h4 : m 4 c = 15) : rst x y (nI c) (rS m A f e t (nI (d + 1)) h o) = some (rS m A f e t (nI d) h o, A 32 (d + 1)) := by
  rw [rst_lo hc h4 (by decide)]
  obtain ⟨e4, e5, hv⟩ := s67 (A := A) (f := f) (e := e) (t := t) (D := nI (d + 1)) (o := o) (h := h) hc h4 rfl
  unfold f_12067
  rw [gd_e hv, gd_e hv, e4, e5, if_neg (by decide), if_neg (by decide), if_neg (by decide), if_neg (by decide), if_neg (by decide), if_neg (by decide), if_neg (by decide), if_neg (by decide), if_neg (by decide), if_neg (by decide), if_neg (by decide), if_neg (by decide), if_neg (by decide), if_neg (by decide), if_pos rfl, q_f52, q_52, nI_pp (by omega), bS_eq, q_f52, nI_p1 (by omega), gd_e (vi_n (by omega) (by omega)), q_mg (by decide) (by omega)]
theorem rc16 (hc : c < 1000) (h4 : m 4 c = 16) (hh : h < 1300) : rst x y (nI c) (rS m A f e t D (nI (h + 1)) o) = some (rS m A f e t D (nI h) o, nI (c + 1)) := by
  rw [rst_lo hc h4 (by decide)]
  obtain ⟨e4, e5, hv⟩ := s67 (A := A) (f := f) (e := e) (t := t) (D := D) (o := o) (h := nI (h + 1)) hc h4 rfl
  unfold f_12067 f_12067_J216
  rw [gd_e hv, gd_e hv, e4, e5, if_neg (by decide), if_neg (by decide), if_neg (by decide), if_neg (by decide), if_neg (by decide), if_neg (by decide), if_neg (by decide), if_neg (by decide), if_neg (by decide), if_neg (by decide), if_neg (by decide), if_neg (by decide), if_neg (by decide), if_neg (by decide), if_neg (by decide), q_f53, q_53, nI_pp (by omega), bS_eq, nI_p1 (by omega)]
theorem rc0 {n : Nat} {h : Int32} (hn : n < 90000) (hc : c < 1000) (h4 : m 4 c = 0) : rst x y (nI c) (rS m A (nI (n + 1)) 0 t D h o) = some (rS m A (nI n) 0 t D h o, nI (c + 1)) := by
  rw [rst_hi hn hc h4 (by decide)]
  obtain ⟨e4, e5, hv⟩ := s67 (A := A) (f := nI n) (e := 0) (t := t) (D := D) (o := o) (h := h) hc h4 rfl
  unfold f_12068
  rw [gd_e hv, gd_e hv, e4, e5, if_neg (by decide), if_neg (by decide), if_neg (by decide), if_neg (by decide), if_neg (by decide), if_neg (by decide), if_neg (by decide), nI_p1 (by omega)]
/-- an operation: a value more, or an end -/
def Ry (m : Mx) (A : Nat → Nat → Int32) (f t D : Int32) (k : Nat) (o : Int32) (q : Int32 × Int32) (c : Int32) (r : Option (Mx × Int32)) : Prop :=
  (q.1 = -1 → r = some (rS m (u2 A 30 k q.2) f 0 t D (nI (k + 1)) o, c)) ∧ (q.1 ≠ -1 → ∃ h', r = some (rS m A f q.1 t D h' o, c))
theorem Rz.ry {k : Nat} {q : Int32 × Int32} {r : Option Mx} {c : Int32} (h : Rz m A f t D k o q r) : Ry m A f t D k o q c (bOv r fun s => some (s, c)) := by
  refine ⟨fun z => ?_, fun z => ?_⟩
  · rw [h.1 z]; rfl
  · obtain ⟨h', e⟩ := h.2 z
    exact ⟨h', by rw [e]; rfl⟩
theorem rc4 {n : Nat} {C : List Int32} {w v : Int32} (hn : n < 90000) (hc : c < 1000) (h4 : m 4 c = 4) (h5 : m 5 c = wm w) (hh : h < 1299) (hw : w = 25 ∨ w = 26 ∨ w = 36) (hv : A 30 h = v) (hC : ∀ j, j < 32 → A 34 j = C.getD j 0) : Ry m A (nI n) t D h o (o1 C w v) (nI (c + 1)) (rst x y (nI c) (rS m A (nI (n + 1)) 0 t D (nI (h + 1)) o)) := by
  rw [rst_hi hn hc h4 (by decide)]
  obtain ⟨e4, e5, hv'⟩ := s67 (A := A) (f := nI n) (e := 0) (t := t) (D := D) (o := o) (h := nI (h + 1)) hc h4 h5
  unfold f_12068
  rw [gd_e hv', gd_e hv', e4, e5, if_pos rfl, nI_p1 (by omega)]
  exact (q_one hh hw hv hC).ry
theorem rc5 {n : Nat} {w v z : Int32} (hn : n < 90000) (hc : c < 1000) (h4 : m 4 c = 5) (h5 : m 5 c = wm w) (hh : h < 1298) (hw : w = 12 ∨ w = 13 ∨ w = 14 ∨ w = 15 ∨ w = 16 ∨ w = 17 ∨ w = 18 ∨ w = 19 ∨ w = 20 ∨ w = 21 ∨ w = 22) (hv : A 30 h = v) (hz : A 30 (h + 1) = z) : Ry m A (nI n) t D h o (o2 w v z) (nI (c + 1)) (rst x y (nI c) (rS m A (nI (n + 1)) 0 t D (nI (h + 1 + 1)) o)) := by
  rw [rst_hi hn hc h4 (by decide)]
  obtain ⟨e4, e5, hv'⟩ := s67 (A := A) (f := nI n) (e := 0) (t := t) (D := D) (o := o) (h := nI (h + 1 + 1)) hc h4 h5
  unfold f_12068
  rw [gd_e hv', gd_e hv', e4, e5, if_neg (by decide), if_pos rfl, nI_p1 (by omega)]
  exact (q_two hh hw hv hz).ry
theorem rc9 {n k : Nat} (hk : k < 2) (hn : n < 90000) (hc : c < 1000) (h4 : m 4 c = 9) (hh : h < 1300) : rst x y (nI c) (rS m A (nI (n + 1)) 0 (nI k) D (nI h) o) = some (rS m (u2 A 30 h (inp x y k)) (nI n) 0 (nI (k + 1)) D (nI (h + 1)) o, nI (c + 1)) := by
  rw [rst_hi hn hc h4 (by decide)]
  obtain ⟨e4, e5, hv'⟩ := s67 (A := A) (f := nI n) (e := 0) (t := nI k) (D := D) (o := o) (h := nI h) hc h4 rfl
  unfold f_12068 f_12068_J168 f_12068_J184 inp
  rw [gd_e hv', gd_e hv', e4, e5, if_neg (by decide), if_neg (by decide), if_neg (by decide), if_neg (by decide), if_neg (by decide), if_pos rfl, q_f51]
  rcases (show k = 0 ∨ k = 1 by omega) with q | q
  · subst q
    rw [if_neg (by decide), q_50, q_f50, bS_eq, q_f51, if_pos (by decide), if_pos rfl, q_push hh, bOv_some, q_f51, q_51, nI_p1 (by omega), nI_p1 (by omega), bS_eq]
  · subst q
    rw [if_neg (by decide), q_50, q_f50, bS_eq, q_f51, if_neg (by decide), if_neg (by decide), q_push hh, bOv_some, q_f51, q_51, nI_p1 (by omega), nI_p1 (by omega), bS_eq]
theorem rc9x {n : Nat} (hn : n < 90000) (hc : c < 1000) (h4 : m 4 c = 9) (hh : h < 1300) : ∃ v, rst x y (nI c) (rS m A (nI (n + 1)) 0 (nI 2) D (nI h) o) = some (rS m (u2 A 30 h v) (nI n) 5 (nI 3) D (nI (h + 1)) o, nI (c + 1)) := by
  rw [rst_hi hn hc h4 (by decide)]
  obtain ⟨e4, e5, hv'⟩ := s67 (A := A) (f := nI n) (e := 0) (t := nI 2) (D := D) (o := o) (h := nI h) hc h4 rfl
  refine ⟨y, ?_⟩
  unfold f_12068 f_12068_J168 f_12068_J184
  rw [gd_e hv', gd_e hv', e4, e5, if_neg (by decide), if_neg (by decide), if_neg (by decide), if_neg (by decide), if_neg (by decide), if_pos rfl, q_f51]
  rw [if_pos (by decide), q_50, bS_eq, q_f51, if_neg (by decide), q_push hh, bOv_some, q_f51, q_51, nI_p1 (by omega), nI_p1 (by omega), bS_eq]
theorem rc67 {n : Nat} {k : Int32} (hn : n < 90000) (hk : k = 11 ∨ k = 12) (hc : c < 1000) (h4 : m 4 c = cm k) (h5 : m 5 c = w) (hh : h < 1300) : rst x y (nI c) (rS m A (nI (n + 1)) 0 t D (nI (h + 1)) o) = some (if tr (A 30 h) = dc k then (rS m (u2 A 30 h (dc k)) (nI n) 0 t D (nI (h + 1)) o, w) else (rS m A (nI n) 0 t D (nI h) o, nI (c + 1))) := by
  rcases hk with q | q
  · subst q
    rw [rst_hi hn hc h4 (by decide)]
    obtain ⟨e4, e5, hv'⟩ := s67 (A := A) (f := nI n) (e := 0) (t := t) (D := D) (o := o) (h := nI (h + 1)) hc h4 h5
    obtain ⟨e4', e5', _⟩ := s67 (A := A) (f := nI n) (e := 0) (t := t) (D := D) (o := o) (h := nI h) hc h4 h5
    unfold f_12068 f_12068_J76
    rw [gd_e hv', gd_e hv', e4, e5, if_neg (by decide), if_neg (by decide), if_pos (by decide), q_pop hh, bO_some]
    unfold f_12068_J88 tr
    rw [gd_e hv', e4']
    by_cases z : A 30 h = 0
    · rw [if_pos z, if_pos z, if_neg (by decide), if_pos (by decide)]
      show f_12068_J108 (nI c) x y w 0 0 0 _ = _
      unfold f_12068_J108 f_12068_J116 f_12068_J134 f_12068_J137
      rw [if_pos rfl, if_neg (by decide), if_pos rfl, q_push hh, bOv_some, if_neg (by decide)]
      rfl
    · rw [if_neg z, if_neg z, if_neg (by decide), if_neg (by decide)]
      rw [gd_e hv']
      show f_12068_J108 (nI c) x y w 1 0 1 _ = _
      unfold f_12068_J108 f_12068_J116 f_12068_J137
      rw [if_neg (by decide), if_pos rfl, if_pos rfl, nI_p1 (by omega)]
  · subst q
    rw [rst_hi hn hc h4 (by decide)]
    obtain ⟨e4, e5, hv'⟩ := s67 (A := A) (f := nI n) (e := 0) (t := t) (D := D) (o := o) (h := nI (h + 1)) hc h4 h5
    obtain ⟨e4', e5', _⟩ := s67 (A := A) (f := nI n) (e := 0) (t := t) (D := D) (o := o) (h := nI h) hc h4 h5
    unfold f_12068 f_12068_J76
    rw [gd_e hv', gd_e hv', e4, e5, if_neg (by decide), if_neg (by decide), if_neg (by decide), if_pos (by decide), q_pop hh, bO_some]
    unfold f_12068_J88 tr
    rw [gd_e hv', e4']
    by_cases z : A 30 h = 0
    · rw [if_pos z, if_pos z, if_pos (by decide), if_neg (by decide)]
      show f_12068_J108 (nI c) x y w 0 1 0 _ = _
      unfold f_12068_J108 f_12068_J116 f_12068_J137
      rw [if_neg (by decide), if_pos rfl, if_pos rfl, nI_p1 (by omega)]
    · rw [if_neg z, if_neg z, if_pos (by decide), if_pos (by decide)]
      rw [gd_e hv']
      show f_12068_J108 (nI c) x y w 1 1 1 _ = _
      unfold f_12068_J108 f_12068_J116 f_12068_J134 f_12068_J137
      rw [if_pos rfl, if_neg (by decide), if_neg (by decide), q_push hh, bOv_some, if_neg (by decide)]
      rfl
def zA (D : Nat) : Nat → (Nat → Nat → Int32) → Nat → Nat → Int32
  | 0, A => A
  | k + 1, A => zA D k (u2 A 31 (8 * D + (7 - k)) 0)
def pA (D : Nat) : Nat → Nat → (Nat → Nat → Int32) → Nat → Nat → Int32
  | 0, _, A => A
  | p + 1, h, A => pA D p (h - 1) (u2 A 31 (8 * D + p) (A 30 (h - 1)))
theorem q_par {d l : Nat} {z : Int32} (hd : d < 11) (hl : l < 40) : ∀ (k n h : Nat) (A : Nat → Nat → Int32), k ≤ 8 → k < n → k ≤ h → h < 1300 → f_12066_L75 n (nI l) z (nI k - 1) (rS m A f e t (nI d) (nI h) o) = some (rS m (pA d k h A) f e t (nI d) (nI (h - k)) o, m 15 l) := by
  intro k
  induction k with
  | zero =>
    intro n h A hk hn hh h13
    obtain ⟨n, rfl⟩ : ∃ n', n = n' + 1 := ⟨n - 1, by omega⟩
    rw [f_12066_L75, if_pos (by decide), gd_e (vi_n hl (by omega)), q_mc (by decide) (by omega)]
    rfl
  | succ k ih =>
    intro n h A hk hn hh h13
    obtain ⟨n, rfl⟩ : ∃ n', n = n' + 1 := ⟨n - 1, by omega⟩
    obtain ⟨h, rfl⟩ : ∃ n', h = n' + 1 := ⟨h - 1, by omega⟩
    rw [f_12066_L75, nI_pp (by omega), if_neg (nI_nn (by omega)), q_pop (by omega), bO_some, q_f52, v_at' (by omega) (by omega), gd_e (vi_n (by omega) (by omega)), q_ms (by decide) (by omega), bS_eq, nI_m1, ih n h _ (by omega) (by omega) (by omega) (by omega), show h + 1 - (k + 1) = h - k by omega]
    rfl
theorem q_zero {d l p : Nat} {z : Int32} (hd : d < 11) (hl : l < 40) (h14 : m 14 l = nI p) {h : Int32} : ∀ (k n : Nat) (A : Nat → Nat → Int32), k ≤ 8 → k < n → f_12066_L39 n (nI l) z (nI (8 - k)) (rS m A f e t (nI d) h o) = f_12066_L75 1000 (nI l) z (nI p - 1) (rS m (zA d k A) f e t (nI d) h o) := by
  intro k
  induction k with
  | zero =>
    intro n A hk hn
    obtain ⟨n, rfl⟩ : ∃ n', n = n' + 1 := ⟨n - 1, by omega⟩
    rw [f_12066_L39, if_pos (by decide), gd_e (vi_n hl (by omega)), q_mc (by decide) (by omega), h14]
    rfl
  | succ k ih =>
    intro n A hk hn
    obtain ⟨n, rfl⟩ : ∃ n', n = n' + 1 := ⟨n - 1, by omega⟩
    rw [f_12066_L39, if_neg (by rw [i_le, nI_T (by omega), show (8 : Int32).toInt = 8 by decide]; omega), q_f52, v_at' (by omega) (by omega), gd_e (vi_n (by omega) (by omega)), q_ms (by decide) (by omega), bS_eq, nI_p1 (by omega), show 8 - (k + 1) + 1 = 8 - k by omega, ih n _ (by omega) (by omega)]
    show f_12066_L75 1000 (nI l) z (nI p - 1) (rS m (zA d k (u2 A 31 (8 * d + (8 - (k + 1))) 0)) f e t (nI d) h o) = f_12066_L75 1000 (nI l) z (nI p - 1) (rS m (zA d k (u2 A 31 (8 * d + (7 - k)) 0)) f e t (nI d) h o)
    rw [show 8 - (k + 1) = 7 - k by omega]
theorem rc10x {n : Nat} {h : Int32} (hn : n < 90000) (hc : c < 1000) (h4 : m 4 c = 10) : rst x y (nI c) (rS m A (nI (n + 1)) 0 t (nI 10) h o) = some (rS m A (nI n) 7 t (nI 10) h o, nI (c + 1)) := by
  rw [rst_hi hn hc h4 (by decide)]
  obtain ⟨e4, e5, hv'⟩ := s67 (A := A) (f := nI n) (e := 0) (t := t) (D := nI 10) (o := o) (h := h) hc h4 rfl
  unfold f_12068 f_12066
  rw [gd_e hv', gd_e hv', e4, e5, if_neg (by decide), if_neg (by decide), if_neg (by decide), if_neg (by decide), if_neg (by decide), if_neg (by decide), if_pos rfl, q_f52, if_pos (by decide), q_50, bS_eq, bO_some, nI_p1 (by omega)]
theorem rc10 {n d l p : Nat} (hn : n < 90000) (hd : d < 10) (hc : c < 1000) (h4 : m 4 c = 10) (h5 : m 5 c = nI l) (hl : l < 40) (h14 : m 14 l = nI p) (hp : p ≤ 8) (hh : p ≤ h) (h13 : h < 1300) : rst x y (nI c) (rS m A (nI (n + 1)) 0 t (nI d) (nI h) o) = some (rS m (pA (d + 1) p h (zA (d + 1) 8 (u2 A 32 (d + 1) (nI (c + 1))))) (nI n) 0 t (nI (d + 1)) (nI (h - p)) o, m 15 l) := by
  rw [rst_hi hn hc h4 (by decide)]
  obtain ⟨e4, e5, hv'⟩ := s67 (A := A) (f := nI n) (e := 0) (t := t) (D := nI d) (o := o) (h := nI h) hc h4 h5
  have n10 : ¬ nI d = 10 := by rw [i_eq, nI_T (by omega), show (10 : Int32).toInt = 10 by decide]; omega
  have hz := q_zero (m := m) (f := nI n) (e := 0) (t := t) (o := o) (z := nI (c + 1)) (h := nI h) (show d + 1 < 11 by omega) hl h14 8 1000 (u2 A 32 (d + 1) (nI (c + 1))) (by omega) (by omega)
  have hp' := q_par (m := m) (f := nI n) (e := 0) (t := t) (o := o) (z := nI (c + 1)) (show d + 1 < 11 by omega) hl p 1000 h (zA (d + 1) 8 (u2 A 32 (d + 1) (nI (c + 1)))) hp (by omega) hh h13
  unfold f_12068 f_12066
  rw [gd_e hv', gd_e hv', e4, e5, if_neg (by decide), if_neg (by decide), if_neg (by decide), if_neg (by decide), if_neg (by decide), if_neg (by decide), if_pos rfl, q_f52, if_neg n10, q_52, nI_p1 (by omega), bS_eq, q_f52, gd_e (vi_n (by omega) (by omega)), q_ms (by decide) (by omega), bS_eq, nI_p1 (by omega)]
  rw [show (nI (8 - 8) : Int32) = 0 by decide] at hz
  rw [hz, hp', bO_some]
end RST
