/-! the law begins a draft, and goes on -/
section BEG
variable {x g : Nat} {T T' : Tx} {m m0 m' : Mx} {tx : List Int32} {n : Nat} {A : Nat → List Int32}
theorem vi6 {k : Nat} (hk : k < 6) (hg : (A g).length = 6) : vi (nI k) (A g).length := by
  rw [hg]
  exact vi_n (by omega) (by omega)
theorem lSet_e {k : Nat} {v : Int32} (hk : k < 1000) : lSet (T, A) g (nI k) v = (T, u1 A g ((A g).set k v)) := by
  unfold lSet
  rw [xset_n (by omega)]
theorem u1_u1 {a b : List Int32} : u1 (u1 A g a) g b = u1 A g b := by
  funext z
  by_cases e : z = g
  · rw [e, u1_s, u1_s]
  · rw [u1_n _ _ e, u1_n _ _ e, u1_n _ _ e]
theorem gset {l : List Int32} {k : Nat} {v : Int32} (h : k < l.length) : (l.set k v).getD k 0 = v := by
  rw [List.getD_eq_getElem?_getD, List.getElem?_set_self h]
  rfl
theorem l_J140 (h : Wt x m0 T tx) (hP : PrX tx n) (hg : (A g).length = 6) (h3 : (A g).getD 3 0 = nI n) (l2 : Int32) {bc bs : Nat} (hb : 81 ≤ bc ∧ 7406 ≤ bs) : ∃ T', l_13033_J140 x g l2 1 bc bs (T, A) = some ((T', A), 1) ∧ Wt x m0 T' tx := by
  have hn := h.len
  obtain ⟨T1, e1, h1⟩ := h.fault (v := 0) (fun s0 s1 a b => (hP.ok hn a b).1)
  obtain ⟨T2, e2, h2⟩ := h1.parts (k := n) (fun s0 s1 a b => hP.ok hn a b)
  refine ⟨T2, ?_, h2⟩
  have v3 : vi 3 (A g).length := vi6 (k := 3) (by decide) hg
  unfold l_13033_J140
  rw [if_neg one_0, gd_e (show tK (T, A).1 x = 12 from h.k12), gd_e ⟨by omega, by omega⟩, show h_11006 x (T, A).1 = some (T1, 0) from e1, bO_some, bS_eq, if_pos rfl]
  show gd (tK T1 x = 12) _ = _
  rw [gd_e h1.k12, gd_e ⟨by omega, by omega⟩]
  show bO (h_13005 x T1) _ = _
  rw [e2, bO_some, bS_eq]
  show gd (vi 3 (A g).length) _ = _
  rw [gd_e v3]
  show (if nI n = xg (A g) (nI 3) then some ((T2, A), (1 : Int32)) else some ((T2, A), 0)) = _
  rw [xg_n (by omega), h3, if_pos rfl]
def hdA : List Int32 := [100, 101, 102, 32, 102, 40, 120, 41]
def hdB : List Int32 := [123, 111, 117, 116, 32, 120, 59, 125]
def hdC : List Int32 := [123, 105, 102, 32, 120, 123, 102, 40]
def hdD : List Int32 := [120, 45, 49, 41, 59, 125, 125]
theorem hd_w : wsg (bt 2988182771855680868) 8 0 = hdA ∧ wsg (bt 9023938359155060603) 8 0 = hdB ∧ wsg (bt 2911149965011478907) 8 0 = hdC ∧ wsg (bt 35322065136463224) 8 0 = hdD := by decide +kernel
theorem hd_k : ∀ i, i < 8 → (bt 2988182771855680868 i = 0 ∨ bt 2988182771855680868 i = 10 ∨ (32 ≤ (bt 2988182771855680868 i).toInt ∧ (bt 2988182771855680868 i).toInt ≤ 126)) ∧ (bt 9023938359155060603 i = 0 ∨ bt 9023938359155060603 i = 10 ∨ (32 ≤ (bt 9023938359155060603 i).toInt ∧ (bt 9023938359155060603 i).toInt ≤ 126)) ∧ (bt 2911149965011478907 i = 0 ∨ bt 2911149965011478907 i = 10 ∨ (32 ≤ (bt 2911149965011478907 i).toInt ∧ (bt 2911149965011478907 i).toInt ≤ 126)) ∧ (bt 35322065136463224 i = 0 ∨ bt 35322065136463224 i = 10 ∨ (32 ≤ (bt 35322065136463224 i).toInt ∧ (bt 35322065136463224 i).toInt ≤ 126)) := by decide +kernel
theorem l_J33 (h : Wt x m0 T []) (v : Int32) (hg : (A g).length = 6) : ∃ T' tx' n, l_13033_J33 x g v 1 99 7594 (T, A) = some ((T', u1 A g ((A g).set 3 (nI n))), 1) ∧ Wt x m0 T' tx' ∧ PrW tx' n ∧ tx'.length ≤ 23 ∧ 1 ≤ tx'.length ∧ n ≤ tx'.length := by
  obtain ⟨j, hj, ej⟩ := low_n v (n := 3) (by decide) (by decide) T
  have ej' : h_13001 v 3 (T, A).1 = some (nI j) := ej
  have v3 : ∀ a : List Int32, vi 3 (u1 A g ((A g).set 3 (nI j)) g).length := fun _ => by
    rw [u1_s, List.length_set, hg]
    exact vi_n (i := 3) (by omega) (by omega)
  obtain ⟨T1, e1, h1⟩ := wr_64 (v := 2988182771855680868) h hd_w.1 (fun i hi => (hd_k i hi).1) (by decide)
  have s1 : ∀ c : Int32, lSet (lSet (T, A) g 3 (nI j)) g 3 c = (T, u1 A g ((A g).set 3 c)) := fun c => by
    show lSet (lSet (T, A) g (nI 3) (nI j)) g (nI 3) c = _
    rw [lSet_e (by decide), lSet_e (by decide), u1_u1]
    show (T, u1 A g ((u1 A g ((A g).set 3 (nI j)) g).set 3 c)) = _
    rw [u1_s, List.set_set]
  have x3 : xg ((lSet (T, A) g 3 (nI j)).2 g) 3 = nI j := by
    show xg ((lSet (T, A) g (nI 3) (nI j)).2 g) (nI 3) = nI j
    rw [lSet_e (by decide), xg_n (by omega)]
    show (u1 A g ((A g).set 3 (nI j)) g).getD 3 0 = _
    rw [u1_s, gset (by omega)]
  have w3 : vi 3 ((lSet (T, A) g 3 (nI j)).2 g).length := by
    show vi 3 ((lSet (T, A) g (nI 3) (nI j)).2 g).length
    rw [lSet_e (by decide)]
    exact v3 []
  have g6 : ∀ n, (u1 A g ((A g).set 3 (nI n)) g).length = 6 := fun n => by rw [u1_s, List.length_set, hg]
  have g3 : ∀ n, (u1 A g ((A g).set 3 (nI n)) g).getD 3 0 = nI n := fun n => by rw [u1_s, gset (by omega)]
  unfold l_13033_J33
  rw [ej', bP_some, gd_e (show vi 3 ((T, A).2 g).length from vi6 (k := 3) (by decide) hg), bS_eq, gd_e w3, x3]
  by_cases c : nI j = 1
  · obtain ⟨T2, e2, h2⟩ := wr_64 (v := 9023938359155060603) h1 hd_w.2.1 (fun i hi => (hd_k i hi).2.1) (by decide)
    obtain ⟨T3, e3, h3⟩ := l_J140 (A := u1 A g ((A g).set 3 (nI 2))) (n := 2) h2 (Or.inl (show PrW ([] ++ hdA ++ hdB) 2 from PrW.hd1)) (g6 2) (g3 2) v (bc := (99 - 1) - 1) (bs := (7594 - 6) - 6) ⟨by decide, by decide⟩
    refine ⟨T3, _, 2, ?_, h3, PrW.hd1, by decide, by decide, by decide⟩
    rw [if_pos c, gd_e w3, bS_eq, s1 2, if_neg one_0]
    show gd (tK T x = 12) _ = _
    rw [gd_e h.k12, gd_e ⟨by decide, by decide⟩]
    show bO (h_13002 x 2988182771855680868 T) _ = _
    rw [e1, bO_some, bS_eq, if_pos (show nI (([] : List Int32).length + hdA.length) = 8 from rfl)]
    show gd (tK T1 x = 12) _ = _
    rw [gd_e h1.k12, gd_e ⟨by decide, by decide⟩]
    show bO (h_13002 x 9023938359155060603 T1) _ = _
    rw [e2, bO_some, bS_eq, if_pos (show nI (([] ++ hdA : List Int32).length + hdB.length) = 16 from rfl)]
    exact e3
  · obtain ⟨T2, e2, h2⟩ := wr_64 (v := 2911149965011478907) h1 hd_w.2.2.1 (fun i hi => (hd_k i hi).2.2.1) (by decide)
    obtain ⟨T3, e3, h3⟩ := wr_64 (v := 35322065136463224) h2 hd_w.2.2.2 (fun i hi => (hd_k i hi).2.2.2) (by decide)
    obtain ⟨T4, e4, h4⟩ := l_J140 (A := u1 A g ((A g).set 3 (nI 3))) (n := 3) h3 (Or.inl (show PrW ([] ++ hdA ++ hdC ++ hdD) 3 from PrW.hd2)) (g6 3) (g3 3) v (bc := ((99 - 1) - 1) - 1) (bs := ((7594 - 6) - 6) - 6) ⟨by decide, by decide⟩
    refine ⟨T4, _, 3, ?_, h4, PrW.hd2, by decide, by decide, by decide⟩
    rw [if_neg c, gd_e w3, bS_eq, s1 3, if_neg one_0]
    show gd (tK T x = 12) _ = _
    rw [gd_e h.k12, gd_e ⟨by decide, by decide⟩]
    show bO (h_13002 x 2988182771855680868 T) _ = _
    rw [e1, bO_some, bS_eq, if_pos (show nI (([] : List Int32).length + hdA.length) = 8 from rfl)]
    show gd (tK T1 x = 12) _ = _
    rw [gd_e h1.k12, gd_e ⟨by decide, by decide⟩]
    show bO (h_13002 x 2911149965011478907 T1) _ = _
    rw [e2, bO_some, bS_eq, if_pos (show nI (([] ++ hdA : List Int32).length + hdC.length) = 16 from rfl)]
    show gd (tK T2 x = 12) _ = _
    rw [gd_e h2.k12, gd_e ⟨by decide, by decide⟩]
    show bO (h_13002 x 35322065136463224 T2) _ = _
    rw [e3, bO_some, bS_eq, if_pos (show nI (([] ++ hdA ++ hdC : List Int32).length + hdD.length) = 23 from rfl)]
    exact e4
end BEG
