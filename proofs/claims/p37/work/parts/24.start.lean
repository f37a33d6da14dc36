/-! from the law's entry: the tables, what is given of the start, and the one pure statement give the claim's walk -/
theorem ab_msg82 {b : Nat} {s : State} (hts : ∀ w ∈ lw_tbl, w.before #[Value.ref b] s = true) (hgv : ab_gn.before #[Value.ref b] s = true) : ∃ a, vk_R RX10 82 "a byte is no sign" a s := by
  obtain ⟨a, c, cA, kA, q1, -⟩ := Cond.exactly_spec (args := #[Value.ref b]) (first := s) (o := none) (s := s) (idx := []) (t := .string RX10 82) (cls := "java/lang/String") (ab_atoms (i := 207) (w := .exactly (.string RX10 82) "java/lang/String") hgv (by decide +kernel))
  exact ⟨a, vk_R.of (A := #[Value.ref b]) (hts _ (List.mem_of_getElem? (i := 1124) (by decide +kernel))) q1⟩
theorem ab_msg101 {b : Nat} {s : State} (hts : ∀ w ∈ lw_tbl, w.before #[Value.ref b] s = true) (hgv : ab_gn.before #[Value.ref b] s = true) : ∃ a, vk_R RX10 101 "no such count of signs" a s := by
  obtain ⟨a, c, cA, kA, q1, -⟩ := Cond.exactly_spec (args := #[Value.ref b]) (first := s) (o := none) (s := s) (idx := []) (t := .string RX10 101) (cls := "java/lang/String") (ab_atoms (i := 337) (w := .exactly (.string RX10 101) "java/lang/String") hgv (by decide +kernel))
  exact ⟨a, vk_R.of (A := #[Value.ref b]) (hts _ (List.mem_of_getElem? (i := 1404) (by decide +kernel))) q1⟩
theorem ab_msg108 {b : Nat} {s : State} (hts : ∀ w ∈ lw_tbl, w.before #[Value.ref b] s = true) (hgv : ab_gn.before #[Value.ref b] s = true) : ∃ a, vk_R RX10 108 "no such place" a s := by
  obtain ⟨a, c, cA, kA, q1, -⟩ := Cond.exactly_spec (args := #[Value.ref b]) (first := s) (o := none) (s := s) (idx := []) (t := .string RX10 108) (cls := "java/lang/String") (ab_atoms (i := 228) (w := .exactly (.string RX10 108) "java/lang/String") hgv (by decide +kernel))
  exact ⟨a, vk_R.of (A := #[Value.ref b]) (hts _ (List.mem_of_getElem? (i := 1151) (by decide +kernel))) q1⟩
theorem ab_msg154 {b : Nat} {s : State} (hts : ∀ w ∈ lw_tbl, w.before #[Value.ref b] s = true) (hgv : ab_gn.before #[Value.ref b] s = true) : ∃ a, vk_R RX10 154 "no such output" a s := by
  obtain ⟨a, c, cA, kA, q1, -⟩ := Cond.exactly_spec (args := #[Value.ref b]) (first := s) (o := none) (s := s) (idx := []) (t := .string RX10 154) (cls := "java/lang/String") (ab_atoms (i := 269) (w := .exactly (.string RX10 154) "java/lang/String") hgv (by decide +kernel))
  exact ⟨a, vk_R.of (A := #[Value.ref b]) (hts _ (List.mem_of_getElem? (i := 1250) (by decide +kernel))) q1⟩
theorem ab_msg162 {b : Nat} {s : State} (hts : ∀ w ∈ lw_tbl, w.before #[Value.ref b] s = true) (hgv : ab_gn.before #[Value.ref b] s = true) : ∃ a, vk_R RX10 162 "no such cell" a s := by
  obtain ⟨a, c, cA, kA, q1, -⟩ := Cond.exactly_spec (args := #[Value.ref b]) (first := s) (o := none) (s := s) (idx := []) (t := .string RX10 162) (cls := "java/lang/String") (ab_atoms (i := 287) (w := .exactly (.string RX10 162) "java/lang/String") hgv (by decide +kernel))
  exact ⟨a, vk_R.of (A := #[Value.ref b]) (hts _ (List.mem_of_getElem? (i := 1259) (by decide +kernel))) q1⟩
theorem ab_msg170 {b : Nat} {s : State} (hts : ∀ w ∈ lw_tbl, w.before #[Value.ref b] s = true) (hgv : ab_gn.before #[Value.ref b] s = true) : ∃ a, vk_R RX10 170 "fuel or due is out of range" a s := by
  obtain ⟨a, c, cA, kA, q1, -⟩ := Cond.exactly_spec (args := #[Value.ref b]) (first := s) (o := none) (s := s) (idx := []) (t := .string RX10 170) (cls := "java/lang/String") (ab_atoms (i := 363) (w := .exactly (.string RX10 170) "java/lang/String") hgv (by decide +kernel))
  exact ⟨a, vk_R.of (A := #[Value.ref b]) (hts _ (List.mem_of_getElem? (i := 1419) (by decide +kernel))) q1⟩
theorem ab_msg175 {b : Nat} {s : State} (hts : ∀ w ∈ lw_tbl, w.before #[Value.ref b] s = true) (hgv : ab_gn.before #[Value.ref b] s = true) : ∃ a, vk_R RX10 175 "there is no room for an exercise" a s := by
  obtain ⟨a, c, cA, kA, q1, -⟩ := Cond.exactly_spec (args := #[Value.ref b]) (first := s) (o := none) (s := s) (idx := []) (t := .string RX10 175) (cls := "java/lang/String") (ab_atoms (i := 394) (w := .exactly (.string RX10 175) "java/lang/String") hgv (by decide +kernel))
  exact ⟨a, vk_R.of (A := #[Value.ref b]) (hts _ (List.mem_of_getElem? (i := 1420) (by decide +kernel))) q1⟩
theorem ab_msg190 {b : Nat} {s : State} (hts : ∀ w ∈ lw_tbl, w.before #[Value.ref b] s = true) (hgv : ab_gn.before #[Value.ref b] s = true) : ∃ a, vk_R RX10 190 "weight or count is out of range" a s := by
  obtain ⟨a, c, cA, kA, q1, -⟩ := Cond.exactly_spec (args := #[Value.ref b]) (first := s) (o := none) (s := s) (idx := []) (t := .string RX10 190) (cls := "java/lang/String") (ab_atoms (i := 430) (w := .exactly (.string RX10 190) "java/lang/String") hgv (by decide +kernel))
  exact ⟨a, vk_R.of (A := #[Value.ref b]) (hts _ (List.mem_of_getElem? (i := 1451) (by decide +kernel))) q1⟩
theorem ab_msg195 {b : Nat} {s : State} (hts : ∀ w ∈ lw_tbl, w.before #[Value.ref b] s = true) (hgv : ab_gn.before #[Value.ref b] s = true) : ∃ a, vk_R RX10 195 "there is no room for a test" a s := by
  obtain ⟨a, c, cA, kA, q1, -⟩ := Cond.exactly_spec (args := #[Value.ref b]) (first := s) (o := none) (s := s) (idx := []) (t := .string RX10 195) (cls := "java/lang/String") (ab_atoms (i := 465) (w := .exactly (.string RX10 195) "java/lang/String") hgv (by decide +kernel))
  exact ⟨a, vk_R.of (A := #[Value.ref b]) (hts _ (List.mem_of_getElem? (i := 1452) (by decide +kernel))) q1⟩
theorem ab_msg228 {b : Nat} {s : State} (hts : ∀ w ∈ lw_tbl, w.before #[Value.ref b] s = true) (hgv : ab_gn.before #[Value.ref b] s = true) : ∃ a, vk_R RX10 228 "the test was withdrawn" a s := by
  obtain ⟨a, c, cA, kA, q1, -⟩ := Cond.exactly_spec (args := #[Value.ref b]) (first := s) (o := none) (s := s) (idx := []) (t := .string RX10 228) (cls := "java/lang/String") (ab_atoms (i := 496) (w := .exactly (.string RX10 228) "java/lang/String") hgv (by decide +kernel))
  exact ⟨a, vk_R.of (A := #[Value.ref b]) (hts _ (List.mem_of_getElem? (i := 1497) (by decide +kernel))) q1⟩
theorem ab_msg236 {b : Nat} {s : State} (hts : ∀ w ∈ lw_tbl, w.before #[Value.ref b] s = true) (hgv : ab_gn.before #[Value.ref b] s = true) : ∃ a, vk_R RX10 236 "days are out of range" a s := by
  obtain ⟨a, c, cA, kA, q1, -⟩ := Cond.exactly_spec (args := #[Value.ref b]) (first := s) (o := none) (s := s) (idx := []) (t := .string RX10 236) (cls := "java/lang/String") (ab_atoms (i := 522) (w := .exactly (.string RX10 236) "java/lang/String") hgv (by decide +kernel))
  exact ⟨a, vk_R.of (A := #[Value.ref b]) (hts _ (List.mem_of_getElem? (i := 1509) (by decide +kernel))) q1⟩
theorem ab_msg238 {b : Nat} {s : State} (hts : ∀ w ∈ lw_tbl, w.before #[Value.ref b] s = true) (hgv : ab_gn.before #[Value.ref b] s = true) : ∃ a, vk_R RX10 238 "there is no such day" a s := by
  obtain ⟨a, c, cA, kA, q1, -⟩ := Cond.exactly_spec (args := #[Value.ref b]) (first := s) (o := none) (s := s) (idx := []) (t := .string RX10 238) (cls := "java/lang/String") (ab_atoms (i := 547) (w := .exactly (.string RX10 238) "java/lang/String") hgv (by decide +kernel))
  exact ⟨a, vk_R.of (A := #[Value.ref b]) (hts _ (List.mem_of_getElem? (i := 1510) (by decide +kernel))) q1⟩
theorem ab_msg243 {b : Nat} {s : State} (hts : ∀ w ∈ lw_tbl, w.before #[Value.ref b] s = true) (hgv : ab_gn.before #[Value.ref b] s = true) : ∃ a, vk_R RX10 243 "there is no room for an answer" a s := by
  obtain ⟨a, c, cA, kA, q1, -⟩ := Cond.exactly_spec (args := #[Value.ref b]) (first := s) (o := none) (s := s) (idx := []) (t := .string RX10 243) (cls := "java/lang/String") (ab_atoms (i := 303) (w := .exactly (.string RX10 243) "java/lang/String") hgv (by decide +kernel))
  exact ⟨a, vk_R.of (A := #[Value.ref b]) (hts _ (List.mem_of_getElem? (i := 1281) (by decide +kernel))) q1⟩
theorem ab_msg315 {b : Nat} {s : State} (hts : ∀ w ∈ lw_tbl, w.before #[Value.ref b] s = true) (hgv : ab_gn.before #[Value.ref b] s = true) : ∃ a, vk_R RX10 315 "the answer cannot be accused" a s := by
  obtain ⟨a, c, cA, kA, q1, -⟩ := Cond.exactly_spec (args := #[Value.ref b]) (first := s) (o := none) (s := s) (idx := []) (t := .string RX10 315) (cls := "java/lang/String") (ab_atoms (i := 571) (w := .exactly (.string RX10 315) "java/lang/String") hgv (by decide +kernel))
  exact ⟨a, vk_R.of (A := #[Value.ref b]) (hts _ (List.mem_of_getElem? (i := 1559) (by decide +kernel))) q1⟩
theorem ab_msg317 {b : Nat} {s : State} (hts : ∀ w ∈ lw_tbl, w.before #[Value.ref b] s = true) (hgv : ab_gn.before #[Value.ref b] s = true) : ∃ a, vk_R RX10 317 "the answer is not struck" a s := by
  obtain ⟨a, c, cA, kA, q1, -⟩ := Cond.exactly_spec (args := #[Value.ref b]) (first := s) (o := none) (s := s) (idx := []) (t := .string RX10 317) (cls := "java/lang/String") (ab_atoms (i := 603) (w := .exactly (.string RX10 317) "java/lang/String") hgv (by decide +kernel))
  exact ⟨a, vk_R.of (A := #[Value.ref b]) (hts _ (List.mem_of_getElem? (i := 1571) (by decide +kernel))) q1⟩
theorem ab_msg321 {b : Nat} {s : State} (hts : ∀ w ∈ lw_tbl, w.before #[Value.ref b] s = true) (hgv : ab_gn.before #[Value.ref b] s = true) : ∃ a, vk_R RX10 321 "fuel is out of range" a s := by
  obtain ⟨a, c, cA, kA, q1, -⟩ := Cond.exactly_spec (args := #[Value.ref b]) (first := s) (o := none) (s := s) (idx := []) (t := .string RX10 321) (cls := "java/lang/String") (ab_atoms (i := 245) (w := .exactly (.string RX10 321) "java/lang/String") hgv (by decide +kernel))
  exact ⟨a, vk_R.of (A := #[Value.ref b]) (hts _ (List.mem_of_getElem? (i := 1178) (by decide +kernel))) q1⟩
theorem ab_msg323 {b : Nat} {s : State} (hts : ∀ w ∈ lw_tbl, w.before #[Value.ref b] s = true) (hgv : ab_gn.before #[Value.ref b] s = true) : ∃ a, vk_R RX10 323 "no such pupil" a s := by
  obtain ⟨a, c, cA, kA, q1, -⟩ := Cond.exactly_spec (args := #[Value.ref b]) (first := s) (o := none) (s := s) (idx := []) (t := .string RX10 323) (cls := "java/lang/String") (ab_atoms (i := 112) (w := .exactly (.string RX10 323) "java/lang/String") hgv (by decide +kernel))
  exact ⟨a, vk_R.of (A := #[Value.ref b]) (hts _ (List.mem_of_getElem? (i := 787) (by decide +kernel))) q1⟩
theorem ab_msg325 {b : Nat} {s : State} (hts : ∀ w ∈ lw_tbl, w.before #[Value.ref b] s = true) (hgv : ab_gn.before #[Value.ref b] s = true) : ∃ a, vk_R RX10 325 "no such answer" a s := by
  obtain ⟨a, c, cA, kA, q1, -⟩ := Cond.exactly_spec (args := #[Value.ref b]) (first := s) (o := none) (s := s) (idx := []) (t := .string RX10 325) (cls := "java/lang/String") (ab_atoms (i := 58) (w := .exactly (.string RX10 325) "java/lang/String") hgv (by decide +kernel))
  exact ⟨a, vk_R.of (A := #[Value.ref b]) (hts _ (List.mem_of_getElem? (i := 473) (by decide +kernel))) q1⟩
theorem ab_msg327 {b : Nat} {s : State} (hts : ∀ w ∈ lw_tbl, w.before #[Value.ref b] s = true) (hgv : ab_gn.before #[Value.ref b] s = true) : ∃ a, vk_R RX10 327 "no such exercise" a s := by
  obtain ⟨a, c, cA, kA, q1, -⟩ := Cond.exactly_spec (args := #[Value.ref b]) (first := s) (o := none) (s := s) (idx := []) (t := .string RX10 327) (cls := "java/lang/String") (ab_atoms (i := 92) (w := .exactly (.string RX10 327) "java/lang/String") hgv (by decide +kernel))
  exact ⟨a, vk_R.of (A := #[Value.ref b]) (hts _ (List.mem_of_getElem? (i := 775) (by decide +kernel))) q1⟩
theorem ab_msg332 {b : Nat} {s : State} (hts : ∀ w ∈ lw_tbl, w.before #[Value.ref b] s = true) (hgv : ab_gn.before #[Value.ref b] s = true) : ∃ a, vk_R RX10 332 "no such test" a s := by
  obtain ⟨a, c, cA, kA, q1, -⟩ := Cond.exactly_spec (args := #[Value.ref b]) (first := s) (o := none) (s := s) (idx := []) (t := .string RX10 332) (cls := "java/lang/String") (ab_atoms (i := 76) (w := .exactly (.string RX10 332) "java/lang/String") hgv (by decide +kernel))
  exact ⟨a, vk_R.of (A := #[Value.ref b]) (hts _ (List.mem_of_getElem? (i := 525) (by decide +kernel))) q1⟩
theorem ab_msg341 {b : Nat} {s : State} (hts : ∀ w ∈ lw_tbl, w.before #[Value.ref b] s = true) (hgv : ab_gn.before #[Value.ref b] s = true) : ∃ a, vk_R RX10 341 "the draft has a fault" a s := by
  obtain ⟨a, c, cA, kA, q1, -⟩ := Cond.exactly_spec (args := #[Value.ref b]) (first := s) (o := none) (s := s) (idx := []) (t := .string RX10 341) (cls := "java/lang/String") (ab_atoms (i := 182) (w := .exactly (.string RX10 341) "java/lang/String") hgv (by decide +kernel))
  exact ⟨a, vk_R.of (A := #[Value.ref b]) (hts _ (List.mem_of_getElem? (i := 1090) (by decide +kernel))) q1⟩
theorem ab_msgs {b : Nat} {s : State} (hts : ∀ w ∈ lw_tbl, w.before #[Value.ref b] s = true) (hgv : ab_gn.before #[Value.ref b] s = true) : ∀ q ∈ ab_xT, ∃ a, vk_R (ab_own q.1) q.2.1 q.2.2 a s :=
  List.forall_mem_cons.mpr ⟨ab_msg82 hts hgv, List.forall_mem_cons.mpr ⟨ab_msg101 hts hgv, List.forall_mem_cons.mpr ⟨ab_msg108 hts hgv, List.forall_mem_cons.mpr ⟨ab_msg154 hts hgv, List.forall_mem_cons.mpr ⟨ab_msg162 hts hgv, List.forall_mem_cons.mpr ⟨ab_msg170 hts hgv, List.forall_mem_cons.mpr ⟨ab_msg175 hts hgv, List.forall_mem_cons.mpr ⟨ab_msg190 hts hgv, List.forall_mem_cons.mpr ⟨ab_msg195 hts hgv, List.forall_mem_cons.mpr ⟨ab_msg228 hts hgv, List.forall_mem_cons.mpr ⟨ab_msg236 hts hgv, List.forall_mem_cons.mpr ⟨ab_msg238 hts hgv, List.forall_mem_cons.mpr ⟨ab_msg243 hts hgv, List.forall_mem_cons.mpr ⟨ab_msg315 hts hgv, List.forall_mem_cons.mpr ⟨ab_msg317 hts hgv, List.forall_mem_cons.mpr ⟨ab_msg321 hts hgv, List.forall_mem_cons.mpr ⟨ab_msg323 hts hgv, List.forall_mem_cons.mpr ⟨ab_msg325 hts hgv, List.forall_mem_cons.mpr ⟨ab_msg327 hts hgv, List.forall_mem_cons.mpr ⟨ab_msg332 hts hgv, List.forall_mem_cons.mpr ⟨ab_msg341 hts hgv, fun _ h => absurd h List.not_mem_nil⟩⟩⟩⟩⟩⟩⟩⟩⟩⟩⟩⟩⟩⟩⟩⟩⟩⟩⟩⟩⟩
theorem ab_xR_of {s : State} (h : ∀ q ∈ ab_xT, ∃ a, vk_R (ab_own q.1) q.2.1 q.2.2 a s) : ∀ i tx, ab_xR 11 i = some tx → ∃ a, vk_R (ab_own 11) i tx a s := by
  intro i tx hi
  unfold ab_xR at hi
  cases hq : ab_xT.find? (fun q => q.2.1 == i && q.1 == 11) with
  | none => rw [hq] at hi; cases hi
  | some q =>
    rw [hq] at hi
    obtain ⟨hm, hp⟩ := ab_find hq
    simp only [Bool.and_eq_true, beq_iff_eq] at hp
    simp only [Option.map_some, Option.some.injEq] at hi
    obtain ⟨e1, e2⟩ := hp
    have := h q hm
    rw [e1, e2, hi] at this
    exact this
def ab_sp (b : Nat) (f : Nat → Nat) (n : Nat) : Nat := match n with
  | 0 => b
  | n + 1 => f n
theorem ab_toks {b : Nat} {s : State} {f : Nat → Nat} (hts : ∀ w ∈ lw_tbl, w.before #[Value.ref b] s = true) (hf : ∀ i, i < 7 → (ab_tk i).eval #[Value.ref b] s none [] s = some (.ref (f i))) : ∀ q ∈ ab_sT, ∃ tx, vk_R (ab_own q.1) q.2.1 tx (f q.2.2.1) s :=
  List.forall_mem_cons.mpr ⟨⟨"if", vk_R.of (A := #[Value.ref b]) (hts _ (List.mem_of_getElem? (i := 848) (by decide +kernel))) (hf 0 (by decide))⟩, List.forall_mem_cons.mpr ⟨⟨"else", vk_R.of (A := #[Value.ref b]) (hts _ (List.mem_of_getElem? (i := 898) (by decide +kernel))) (hf 1 (by decide))⟩, List.forall_mem_cons.mpr ⟨⟨"while", vk_R.of (A := #[Value.ref b]) (hts _ (List.mem_of_getElem? (i := 899) (by decide +kernel))) (hf 2 (by decide))⟩, List.forall_mem_cons.mpr ⟨⟨"out", vk_R.of (A := #[Value.ref b]) (hts _ (List.mem_of_getElem? (i := 900) (by decide +kernel))) (hf 3 (by decide))⟩, List.forall_mem_cons.mpr ⟨⟨"in", vk_R.of (A := #[Value.ref b]) (hts _ (List.mem_of_getElem? (i := 901) (by decide +kernel))) (hf 4 (by decide))⟩, List.forall_mem_cons.mpr ⟨⟨"def", vk_R.of (A := #[Value.ref b]) (hts _ (List.mem_of_getElem? (i := 902) (by decide +kernel))) (hf 5 (by decide))⟩, List.forall_mem_cons.mpr ⟨⟨"return", vk_R.of (A := #[Value.ref b]) (hts _ (List.mem_of_getElem? (i := 903) (by decide +kernel))) (hf 6 (by decide))⟩, fun _ h => absurd h List.not_mem_nil⟩⟩⟩⟩⟩⟩⟩
theorem ab_sR_of {s : State} {f : Nat → Nat} (h : ∀ q ∈ ab_sT, ∃ tx, vk_R (ab_own q.1) q.2.1 tx (f q.2.2.1) s) : ∀ o i j, ab_sR o i = some j → ∃ tx, vk_R (ab_own o) i tx (f j) s := by
  intro o i j hi
  unfold ab_sR at hi
  cases hq : ab_sT.find? (fun q => q.2.1 == i && q.1 == o) with
  | none => rw [hq] at hi; cases hi
  | some q =>
    rw [hq] at hi
    obtain ⟨hm, hp⟩ := ab_find hq
    simp only [Bool.and_eq_true, beq_iff_eq] at hp
    simp only [Option.map_some, Option.some.injEq] at hi
    obtain ⟨e1, e2⟩ := hp
    have := h q hm
    rw [e1, e2, hi] at this
    exact this
theorem ab_B_in : ∀ w ∈ ab_B, w ∈ lw_tbl := by decide +kernel
theorem ab_nT_is : ∀ o i y J, ab_nR o i = some y → ab_M y = some J → (o = 11 ∧ i = 20 ∧ mNm J = yX3_init) ∨ (o = 4 ∧ i = 11 ∧ mNm J = yX8_init) := by
  intro o i y J h hJ
  unfold ab_nR at h
  cases hq : ab_nT.find? (fun q => q.2.1 == i && q.1 == o) with
  | none => rw [hq] at h; cases h
  | some q =>
    rw [hq] at h
    obtain ⟨hm, hp⟩ := ab_find hq
    simp only [Bool.and_eq_true, beq_iff_eq] at hp
    simp only [Option.map_some, Option.some.injEq] at h
    obtain ⟨e3, e4⟩ := hp
    subst h; subst e3; subst e4
    rcases List.mem_cons.mp hm with rfl | hm
    · exact Or.inl ⟨rfl, rfl, by
        have e : J = i4000 := (Option.some.inj (hJ.symm.trans (show ab_M 4000 = some i4000 from rfl)))
        rw [e]; rfl⟩
    · rcases List.mem_cons.mp hm with rfl | hm
      · exact Or.inr ⟨rfl, rfl, by
          have e : J = i9000 := (Option.some.inj (hJ.symm.trans (show ab_M 9000 = some i9000 from rfl)))
          rw [e]; rfl⟩
      · cases hm
theorem ab_env_start {b : Nat} {s : State} (hts : ∀ w ∈ lw_tbl, w.before #[Value.ref b] s = true) (hgv : ab_gn.before #[Value.ref b] s = true) : ∃ (f : Nat → Nat) (t0 : Nat), ab_Env (fun q => s.heap.size ≤ q) (ab_sp b f) t0 s s.heap := by
  have hA : ∀ a : Nat, a < s.heap.size → ¬ (fun q : Nat => s.heap.size ≤ q) a := fun a h z => absurd h (Nat.not_lt.mpr z)
  have hstr : ∀ i : Nat, ∃ q : Nat × Nat, i < 7 → (ab_tk i).eval #[Value.ref b] s none [] s = some (.ref q.1) ∧ va_O "java/lang/String" q.1 (fun q => s.heap.size ≤ q) s s.heap ∧ va_OF "java/lang/String" "coder" "B" (.int 0) q.1 (fun q => s.heap.size ≤ q) s s.heap ∧ va_OF "java/lang/String" "value" "[B" (.ref q.2) q.1 (fun q => s.heap.size ≤ q) s s.heap ∧ va_T .byte q.2 (ab_len.getD i 0) (fun j => .int ((ab_byt.getD i []).getD j 0)) (fun q => s.heap.size ≤ q) s s.heap := by
    intro i
    match i with
    | 0 => obtain ⟨a, v, h⟩ := ab_str0 hgv hA; exact ⟨(a, v), fun _ => h⟩
    | 1 => obtain ⟨a, v, h⟩ := ab_str1 hgv hA; exact ⟨(a, v), fun _ => h⟩
    | 2 => obtain ⟨a, v, h⟩ := ab_str2 hgv hA; exact ⟨(a, v), fun _ => h⟩
    | 3 => obtain ⟨a, v, h⟩ := ab_str3 hgv hA; exact ⟨(a, v), fun _ => h⟩
    | 4 => obtain ⟨a, v, h⟩ := ab_str4 hgv hA; exact ⟨(a, v), fun _ => h⟩
    | 5 => obtain ⟨a, v, h⟩ := ab_str5 hgv hA; exact ⟨(a, v), fun _ => h⟩
    | 6 => obtain ⟨a, v, h⟩ := ab_str6 hgv hA; exact ⟨(a, v), fun _ => h⟩
    | n + 7 => exact ⟨(0, 0), fun h => absurd h (by omega)⟩
  obtain ⟨g, hg⟩ := Classical.axiomOfChoice hstr
  obtain ⟨t0, ht0, hT0⟩ := va_Tof (tm := .static "java/util/ArrayList" "DEFAULTCAPACITY_EMPTY_ELEMENTDATA" "[Ljava/lang/Object;") (ty := .object "java/lang/Object") (N := 0) (f := fun _ => .null) (A := fun q => s.heap.size ≤ q) (by decide) (ab_atoms (i := 5) (w := .arrayOf (.static "java/util/ArrayList" "DEFAULTCAPACITY_EMPTY_ELEMENTDATA" "[Ljava/lang/Object;") (.object "java/lang/Object")) hgv (by decide +kernel)) (va_eqt (ab_atoms (i := 7) (w := .eq (.length (.static "java/util/ArrayList" "DEFAULTCAPACITY_EMPTY_ELEMENTDATA" "[Ljava/lang/Object;")) (.int (Int32.ofNat 0))) hgv (by decide +kernel))) (fun j hj => absurd hj (by omega)) hA
  obtain ⟨mi, hmi⟩ := va_Mi.of (args := #[Value.ref b]) (C := "[Ljava/lang/Object;") (ab_atoms (i := 57) (w := .isRef (.mirror "[Ljava/lang/Object;")) hgv (by decide +kernel))
  refine ⟨fun i => (g i).1, t0, ?_, ?_, ab_xR_of (ab_msgs hts hgv), ?_, ?_, ?_, ?_, hT0, ?_, ?_, ?_, ⟨mi, hmi⟩, vx_Zqof (args := #[Value.ref b]) (hts _ (List.mem_of_getElem? (i := 877) (by decide +kernel))) (hts _ (List.mem_of_getElem? (i := 76) (by decide +kernel))) (ab_atoms (i := 11) (w := .isRef (.static "jdk/internal/util/Preconditions" "SIOOBE_FORMATTER" "Ljava/util/function/BiFunction;")) hgv (by decide +kernel)) hA, va_AO.of (A := #[Value.ref b]) (hts _ (List.mem_of_getElem? (i := 1389) (by decide +kernel)))⟩
  · exact vx_Zqof (args := #[Value.ref b]) (hts _ (List.mem_of_getElem? (i := 459) (by decide +kernel))) (hts _ (List.mem_of_getElem? (i := 78) (by decide +kernel))) (ab_atoms (i := 8) (w := .isRef (.static Bundle.tN "UNASSIGNED_STACK" Bundle.steD)) hgv (by decide +kernel)) hA
  · exact vx_Zqof (args := #[Value.ref b]) (hts _ (List.mem_of_getElem? (i := 461) (by decide +kernel))) (hts _ (List.mem_of_getElem? (i := 78) (by decide +kernel))) (ab_atoms (i := 9) (w := .isRef (.static Bundle.tN "SUPPRESSED_SENTINEL" Bundle.listD)) hgv (by decide +kernel)) hA
  · exact fun o i j h => ab_sR_of (f := fun i => (g i).1) (ab_toks hts (fun i hi => (hg i hi).1)) o i j h
  · exact fun i hi => ⟨(g i).2, (hg i hi).2⟩
  · exact va_Zof (args := #[Value.ref b]) (hts _ (List.mem_of_getElem? (i := 861) (by decide +kernel))) (hts _ (List.mem_of_getElem? (i := 74) (by decide +kernel))) (va_eqt (ab_atoms (i := 10) (w := .eq (.static "java/lang/String" "COMPACT_STRINGS" "Z") (.int 1)) hgv (by decide +kernel))) hA
  · exact va_Zref (args := #[Value.ref b]) (hts _ (List.mem_of_getElem? (i := 337) (by decide +kernel))) (hts _ (List.mem_of_getElem? (i := 72) (by decide +kernel))) ht0 hA
  · intro E F hE hF hne
    rcases hE with rfl | rfl | rfl <;> rcases hF with rfl | rfl | rfl
    · exact absurd rfl hne
    · exact va_Nc.of (args := #[Value.ref b]) (ab_atoms (i := 25) (w := .not (.castable "java/lang/IllegalArgumentException" "java/lang/IndexOutOfBoundsException")) hgv (by decide +kernel))
    · exact va_Nc.of (args := #[Value.ref b]) (ab_atoms (i := 38) (w := .not (.castable "java/lang/IllegalArgumentException" "java/lang/IllegalStateException")) hgv (by decide +kernel))
    · exact va_Nc.of (args := #[Value.ref b]) (ab_atoms (i := 53) (w := .not (.castable "java/lang/IndexOutOfBoundsException" "java/lang/IllegalArgumentException")) hgv (by decide +kernel))
    · exact absurd rfl hne
    · exact va_Nc.of (args := #[Value.ref b]) (ab_atoms (i := 39) (w := .not (.castable "java/lang/IndexOutOfBoundsException" "java/lang/IllegalStateException")) hgv (by decide +kernel))
    · exact va_Nc.of (args := #[Value.ref b]) (ab_atoms (i := 52) (w := .not (.castable "java/lang/IllegalStateException" "java/lang/IllegalArgumentException")) hgv (by decide +kernel))
    · exact va_Nc.of (args := #[Value.ref b]) (ab_atoms (i := 24) (w := .not (.castable "java/lang/IllegalStateException" "java/lang/IndexOutOfBoundsException")) hgv (by decide +kernel))
    · exact absurd rfl hne
  · intro o i y J h hJ
    rcases ab_nT_is o i y J h hJ with ⟨rfl, rfl, e⟩ | ⟨rfl, rfl, e⟩
    · rw [e]
      exact va_Nw.of (A := #[Value.ref b]) rfl (hts _ (List.mem_of_getElem? (i := 115) (by decide +kernel)))
    · rw [e]
      exact va_Nw.of (A := #[Value.ref b]) rfl (hts _ (List.mem_of_getElem? (i := 121) (by decide +kernel)))
  · exact fun w hw => va_Nw.of (A := #[Value.ref b]) (ab_B_on hw) (hts w (ab_B_in w hw))
theorem ab_K_start {b : Nat} {s : State} (hts : ∀ w ∈ lw_tbl, w.before #[Value.ref b] s = true) : ∃ (D : va_G) (cy : Nat → ClassId), va_K D vwCl (ab_tys cy) s := by
  have htW : ∀ w ∈ ab_W, w.before #[Value.ref b] s = true := fun w hw => hts w (List.mem_filter.mp hw).1
  have h1 : ∀ c : Nat, ∃ q : ClassId × (Nat → Nat), c < 13 → u_Kn s (ab_own c) (ab_T c) (ab_nf c) q.1 q.2 := by
    intro c
    by_cases hc : c < 13
    · obtain ⟨cC, iS, h⟩ := u_known htW (ab_inW hc) (htW _ (ab_inst hc))
      exact ⟨(cC, iS), fun _ => h⟩
    · exact ⟨(0, fun _ => 0), fun h => absurd h hc⟩
  obtain ⟨g, hg⟩ := Classical.axiomOfChoice h1
  have arr : ∀ {ty : FieldType}, (∀ C, ty ≠ .object C) → (Jvm.Cond.arrayClass ty).before #[Value.ref b] s = true → ∃ c, ArrOfT s c ty ∧ va_RA s c ty := by
    intro ty hty h
    obtain ⟨c, k, comp, f1, f2, f3⟩ := Cond.arrayClass_spec h
    refine ⟨c, fun n z => ⟨fun _ h => (by cases h), k, f2, comp, f3⟩, ?_⟩
    cases ty with
    | object C => exact absurd rfl (hty C)
    | _ => exact f1
  obtain ⟨c14, q14⟩ := arr (ty := .int) (fun C h => by cases h) (hts _ (List.mem_of_getElem? (i := 112) (by decide +kernel)))
  obtain ⟨comp, c16, k16, f1, f2, f3, f4, f5⟩ := Cond.arrayOver_spec (args := #[Value.ref b]) (first := s) (o := none) (s := s) (idx := []) (n := "java/lang/Object") (hts _ (List.mem_of_getElem? (i := 1389) (by decide +kernel)))
  refine ⟨(fun c => (g c).1, fun c => (g c).2), fun n => if n = 16 then c16 else c14, ?_, ?_⟩
  · intro c q hq
    have hc : c < 13 := (List.getElem?_eq_some_iff.mp hq).1
    rw [ab_cl_get hc] at hq
    cases hq
    exact hg c hc
  · intro k q hq
    match k, hq with
    | 0, hq => cases hq; exact q14
    | 1, hq => cases hq; exact q14
    | 2, hq => cases hq; exact q14
    | 3, hq => cases hq; exact ⟨fun n z => ⟨fun _ h => (by cases h), k16, f3, comp, f4⟩, k16, comp, f3, f4, f1, f5⟩
    | 4, hq => cases hq; exact q14
    | n + 5, hq => simp [ab_tys] at hq
set_option maxHeartbeats 4000000 in
theorem ab_whole (l : Launch) (hl : l.stackTraces = false) (hPri : ab_PriP l) (hStr : ab_StrP l) (hPure : ab_Pure) {p : Program} {e : Env} {s : State} {m : MethodId} {below : List Frame} {meth : Method} {c : Code} {b L : Nat} {xs : Nat → Int32} (hL : L ≤ 260) (C0 : lw_At p s m meth c b L xs) : W p l e room_1 s m #[Value.ref b] below meth c s.heap [] 0 0 (lw_Z below #[Value.ref b] s) (entryFrame m ([Value.ref b] : List Value).toArray 11) := by
  obtain ⟨hx, hb, hr, hml, hown, hts, hX, hbl, hlocks, hgv⟩ := C0
  obtain ⟨D, cy, hK⟩ := ab_K_start hts
  obtain ⟨f, t0, hE⟩ := ab_env_start hts hgv
  have htW : ∀ w ∈ ab_W, w.before #[Value.ref b] s = true := fun w hw => hts w (List.mem_filter.mp hw).1
  have hC : ab_Cx p l e room_1 s m #[Value.ref b] below meth c (lw_Z below #[Value.ref b] s) (fun q => s.heap.size ≤ q) D cy (ab_sp b f) (fun _ => t0) 0 600064 t0 i_law 1000 13 (L + 1) xs :=
    ⟨hx, hb, hml, hown, htW, hK, fun q h => h, hE, Or.inr ⟨by rw [Nat.add_sub_cancel]; exact hX, hbl, Nat.not_le.mpr hbl⟩, (fun h => absurd h (by decide)), Nat.le_of_ble_eq_true rfl, Nat.le_of_ble_eq_true rfl, Nat.le_of_ble_eq_true rfl, by decide⟩
  have hRe : ab_ReP p l e room_1 s m #[Value.ref b] below meth c (lw_Z below #[Value.ref b] s) (fun q => s.heap.size ≤ q) D cy (ab_sp b f) (fun _ => t0) 0 600064 t0 i_law (fun _ r => r = some (.int 1)) := by
    intro G' ρ' H locs cells slots ls L pc hz hc hs
    refine ⟨fun x t hd ht hn hPp hrel => ?_, fun v t hd ht hR hv hPp hrel => ?_, fun hd ht hPp hrel => ?_⟩
    · have hx1 : x = 1 := by
        have := Option.some.inj hPp
        injection this
      subst hx1
      refine va_forget (fun q hq => hrel.SS.2.2 q hq) ?_
      exact W.widen hc hs (lw_ret hx hb hr hlocks hd)
    · have hv1 : v = .int 1 := Option.some.inj hPp
      rcases hv with rfl | ⟨a, rfl⟩ <;> cases hv1
    · cases hPp
  have hOu : ab_OuP p l e room_1 s m #[Value.ref b] below meth c (lw_Z below #[Value.ref b] s) (fun q => s.heap.size ≤ q) D cy (ab_sp b f) (fun _ => t0) 0 600064 t0 i_law (fun _ _ => False) := by
    intro G' E ρ' H locs cells slots ls L pc rest ce q9 hx0 hEX hXX
    exact hXX.elim
  have hTh : ab_ThP p l e room_1 s m #[Value.ref b] below meth c (lw_Z below #[Value.ref b] s) (fun q => s.heap.size ≤ q) D cy (ab_sp b f) (fun _ => t0) 0 600064 t0 i_law 1000 13 (fun _ _ => False) := by
    intro G' E ρ' H locs cells slots ls L S pc ik ic hck hek hdk hd3 hd8 hcat hx0 hdd hXX
    exact hXX.elim
  have hCa : ab_CaP p l e room_1 s m #[Value.ref b] below meth c (lw_Z below #[Value.ref b] s) i_law := by
    intro E H locs cells slots ls pc h rest ce q9 hEX hh
    cases hh
  have hst := ab_step hC (fun y J h => ab_met l hl hPri hStr (ab_cat_ok l) 1000 y J h) (fun y h1 h2 => hPri 1000 y h1 h2) (ab_metS l hl hPri hStr (ab_cat_ok l) 1000) hOu hCa hRe hTh (hStr _ _ _ _ _ _ _ _ _ _ _ _ _ _ _ _ _ _ _ _ _ _ _ hC)
  have hfinal := hPure L xs hL (ab_Sem p l e room_1 s m #[Value.ref b] below meth c (lw_Z below #[Value.ref b] s) (fun q => s.heap.size ≤ q) D cy (ab_sp b f) (fun _ => t0) 0 600064 t0 i_law) hst
  rw [lg_entry_eq]
  exact hfinal (fun _ => t0) s.heap [] 0 0 _ ⟨ab_ent_LV (ab_cv (fun _ => t0) (ab_sp b f)) (ab_cv_cat _ _) [.float 0] 11 (by decide), (fun k q h => by simp [ab_ws, gZ, ab_G0] at h), ⟨(fun i j p q h => by simp [ab_ws, gZ, ab_G0] at h), (fun k q h => by simp [ab_ws, gZ, ab_G0] at h)⟩, va_S.rf, (fun b hb => absurd hb (Nat.not_lt_zero b)), ab_ent_Lo (fun v hv a ha => by
    have : v = .float 0 := by simpa using hv
    subst this
    cases ha), (fun v h => by cases h), Nat.zero_le _, (fun a h => absurd h (Nat.not_lt_zero a)), rfl⟩ (Nat.le_of_ble_eq_true rfl) (Nat.le_of_ble_eq_true rfl) (Nat.le_of_ble_eq_true rfl)
