section O11
variable {z h k n t : Nat} {K : Nat → Nat × Nat} {I J : Nat → Nat → Int32} {R : Nat → Nat → Option Nat} {w : Nat}
theorem i8nle {j : Nat} (hj : j < 8) : ¬ (8 : Int32) ≤ nI j := nI_ge (b := 8) hj (by decide)
theorem i4nle {j : Nat} (hj : j < 4) : ¬ (4 : Int32) ≤ nI j := nI_ge (b := 4) hj (by decide)
theorem add_0 (x : Int32) : x + 0 = x := Int32.add_zero x
theorem held_2 (hS : Shp z K R) (hs : RSheets z I) (e : ∀ i, J (z + 83) i = I (z + 83) i) : ∀ m j (x : Int32), j ≤ 8 → 8 < m + j → ∃ v, b_X11_sheetsHeld_4 m (some z) x (nI j) (K, I, R, w) = some (v, K, I, R, w) ∧ b_X12_count_54 m (some (z + 82)) x (nI j) (K, J, R, w) = some (v, K, J, R, w) := by
  intro m
  have kz : (K z).1 = 10 + 1 := by rw [kz0 hS]
  induction m with
  | zero => intro j x a b; omega
  | succ m ih =>
    intro j x a b
    rw [b_X11_sheetsHeld_4, b_X12_count_54]
    by_cases c : j = 8
    · subst c
      exact ⟨x, by rw [if_pos (by decide)]; rfl, by rw [if_pos (by decide)]; rfl⟩
    · have hj : j < 8 := by omega
      obtain ⟨g1, g2, g3, -⟩ := hs j hj
      rw [if_neg (i8nle hj), if_neg (i8nle hj)]
      simp only [gR_t kz, rz0_0 hS, Option.bind_some, aR_t (kz1 hS) hj (by decide), rzS hS hj, cK_t (show (K (z + (66 + 2 * j))).1 = 5 + 1 by rw [kzS hS hj]), miss_X hS hj, gR_t (k82 hS), rz82_2 hS, aI_t (kz83 hS) hj (by decide), e j, b_X11_sheetsHeld_25, b_X12_count_75, lt1, nI_1, g1]
      by_cases c2 : I (z + 83) j = -1
      · have c3 : I (z + 83) j < 0 := by rw [c2]; decide
        rw [if_pos c2, if_neg i10, if_pos c3, add_0]
        exact ih (j + 1) x (by omega) (by omega)
      · have c3 : ¬ I (z + 83) j < 0 := Int32.not_lt.mpr ((lane_neg g3).mpr c2)
        rw [if_neg c2, if_pos rfl, if_neg c3]
        exact ih (j + 1) (x + 1) (by omega) (by omega)
theorem zsum_2 (hS : Shp z K R) (hs : RZones z I) (e : ∀ i, J (z + 93) i = I (z + 93) i) : ∀ m j (x : Int32), j ≤ 4 → 4 < m + j → ∃ v, b_X6_zonesShut_4 m (some (z + 10)) x (nI j) (K, I, R, w) = some (v, K, I, R, w) ∧ b_X12_count_141 m (some (z + 82)) x (nI j) (K, J, R, w) = some (v, K, J, R, w) := by
  intro m
  have k10 : (K (z + 10)).1 = 6 + 1 := by rw [kz10 hS]
  induction m with
  | zero => intro j x a b; omega
  | succ m ih =>
    intro j x a b
    rw [b_X6_zonesShut_4, b_X12_count_141]
    by_cases c : j = 4
    · subst c
      exact ⟨x, by rw [if_pos (by decide)]; rfl, by rw [if_pos (by decide)]; rfl⟩
    · have hj : j < 4 := by omega
      obtain ⟨g1, -⟩ := hs j hj
      rw [if_neg (i4nle hj), if_neg (i4nle hj)]
      simp only [gR_t k10, rz10_11 hS, Option.bind_some, aI_t (kz35 hS) hj (by decide), gR_t (k82 hS), rz82_13 hS, aI_t (kz93 hS) hj (by decide), e j, b_X6_zonesShut_24, b_X12_count_161, lt1, nI_1, g1]
      by_cases c2 : I (z + 93) j = 0
      · rw [if_pos c2, if_pos c2]
        exact ih (j + 1) _ (by omega) (by omega)
      · rw [if_neg c2, if_neg c2]
        exact ih (j + 1) _ (by omega) (by omega)
theorem psum_2 (hS : Shp z K R) (h8 : h ≤ 8) (hs : RStrokes z h K I R) (hs' : RStrokes z h K J R) : ∀ m j (x : Int32), j ≤ h → h < m + j → ∃ v, b_X9_pointsOfAll_4 m (some (z + 2)) x (nI j) (K, I, R, w) = some (v, K, I, R, w) ∧ b_X12_count_92 m (some (z + 82)) 2 x (nI j) (K, J, R, w) = some (v, K, J, R, w) := by
  intro m
  have k2' : (K (z + 2)).1 = 8 + 1 := by rw [kz2 hS]
  induction m with
  | zero => intro j x a b; omega
  | succ m ih =>
    intro j x a b
    rw [b_X9_pointsOfAll_4, b_X12_count_92]
    simp only [gI_t k2', hs.1, gI_t (k82 hS), hs'.2.1, Option.bind_some]
    by_cases c : j = h
    · subst c
      exact ⟨x, by rw [if_pos (nI_le (Nat.le_refl _) (by omega))]; rfl, by rw [if_pos (nI_le (Nat.le_refl _) (by omega))]; rfl⟩
    · have hj : j < h := by omega
      obtain ⟨n, hn⟩ := hs.2.2 j hj
      obtain ⟨n', hn'⟩ := hs'.2.2 j hj
      have en : n' = n := by
        have a1 := hn.2.2.2.2.1
        rw [hn'.2.2.2.2.1] at a1
        simpa using a1
      subst en
      rw [if_neg (nI_ge hj (by omega)), if_neg (nI_ge hj (by omega))]
      simp only [cK_t k2', at_X hS hs.1 h8 hj hn, Option.bind_some, k3_s hn.kc, pts_X hn, gR_t (k82 hS), rz82_6 hS, aI_t (kz86 hS) (show j < 8 by omega) (by decide), hn'.2.2.1, b_X9_pointsOfAll_31, b_X12_count_129, lt1, nI_1, reduceCtorEq, if_false, if_true]
      exact ih (j + 1) _ (by omega) (by omega)
theorem lsum_2 (hS : Shp z K R) (h8 : h ≤ 8) (hs : RStrokes z h K I R) (hs' : RStrokes z h K J R) : ∀ m j (x : Int32), j ≤ h → h < m + j → ∃ v, b_X9_loops_4 m (some (z + 2)) x (nI j) (K, I, R, w) = some (v, K, I, R, w) ∧ b_X12_count_92 m (some (z + 82)) 3 x (nI j) (K, J, R, w) = some (v, K, J, R, w) := by
  intro m
  have k2' : (K (z + 2)).1 = 8 + 1 := by rw [kz2 hS]
  induction m with
  | zero => intro j x a b; omega
  | succ m ih =>
    intro j x a b
    rw [b_X9_loops_4, b_X12_count_92]
    simp only [gI_t k2', hs.1, gI_t (k82 hS), hs'.2.1, Option.bind_some]
    by_cases c : j = h
    · subst c
      exact ⟨x, by rw [if_pos (nI_le (Nat.le_refl _) (by omega))]; rfl, by rw [if_pos (nI_le (Nat.le_refl _) (by omega))]; rfl⟩
    · have hj : j < h := by omega
      obtain ⟨n, hn⟩ := hs.2.2 j hj
      obtain ⟨n', hn'⟩ := hs'.2.2 j hj
      rw [if_neg (nI_ge hj (by omega)), if_neg (nI_ge hj (by omega)), if_neg (show ¬ (3 : Int32) = 2 by decide)]
      simp only [cK_t k2', at_X hS hs.1 h8 hj hn, Option.bind_some, cK_t (k82 hS), kindOf_M hS (show j < 8 by omega) hn', b_X9_loops_29, b_X12_count_129, lt1, nI_1]
      rcases hn.kc with q | q | q
      · obtain ⟨v, e1, e2⟩ := ih (j + 1) (x + 0) (by omega) (by omega)
        exact ⟨v, by simp [iO, k3, q]; simpa using e1, by simp [q, kI]; simpa using e2⟩
      · obtain ⟨v, e1, e2⟩ := ih (j + 1) (x + 1) (by omega) (by omega)
        exact ⟨v, by simp [iO, k3, q]; simpa using e1, by simp [q, kI]; simpa using e2⟩
      · obtain ⟨v, e1, e2⟩ := ih (j + 1) (x + 0) (by omega) (by omega)
        exact ⟨v, by simp [iO, k3, q]; simpa using e1, by simp [q, kI]; simpa using e2⟩
theorem agr_count (v1 : Int32) : Agr (Rel z) z (f_X11_count (some z) v1) (f_X12_count (some (z + 82)) v1) := by
  rintro ⟨K, I, R, w⟩ hR
  obtain ⟨h, h1, h2, h3, h4, h5, h6, h7, h8, h9, h10, h11, h12, h13, h14, h15⟩ := hR.opn
  have kz : (K z).1 = 10 + 1 := by rw [kz0 h4]
  have k2' : (K (z + 2)).1 = 8 + 1 := by rw [kz2 h4]
  have k10 : (K (z + 10)).1 = 6 + 1 := by rw [kz10 h4]
  have k36 : (K (z + 36)).1 = 0 + 1 := by rw [kz36 h4]
  have hr := hR.thr 0
  have h8' : RStrokes z h K (up2 I (z + 82) 0 0) R := h8.fr fun o q p => un_1 (by unfold fpStrokes at p; omega)
  by_cases c0 : v1 = 0
  · obtain ⟨v, e1, e2⟩ := held_2 (w := w) (J := up2 I (z + 82) 0 0) h4 h7 (fun i => un_1 (by omega)) FU 0 0 (by decide) (by decide)
    rw [show nI 0 = 0 from rfl] at e1 e2
    refine ⟨v, (K, I, R, w), (K, up2 I (z + 82) 0 0, R, w), ?_, k82 h4, ?_, hr⟩
    · simp only [f_X11_count, if_pos c0, cK_t kz, f_X11_sheetsHeld, e1, Option.bind_some]
    · simp only [f_X12_count, if_pos c0, pI_t (k82 h4), Option.bind_some, e2]
  by_cases c1 : v1 = 1
  · refine ⟨nI h, (K, I, R, w), (K, up2 I (z + 82) 0 0, R, w), ?_, k82 h4, ?_, hr⟩
    · simp only [f_X11_count, if_neg c0, if_pos c1, gR_t kz, rz0_1 h4, Option.bind_some, gI_t k2', h8.1]
    · simp only [f_X12_count, if_neg c0, if_pos c1, pI_t (k82 h4), Option.bind_some, gI_t (k82 h4), h8'.2.1]
  by_cases c2 : v1 = 2
  · obtain ⟨v, e1, e2⟩ := psum_2 (w := w) h4 h1 h8 h8' FU 0 0 (by omega) (by unfold FU; omega)
    rw [show nI 0 = 0 from rfl] at e1 e2
    refine ⟨v, (K, I, R, w), (K, up2 I (z + 82) 0 0, R, w), ?_, k82 h4, ?_, hr⟩
    · simp only [f_X11_count, if_neg c0, if_neg c1, if_pos c2, gR_t kz, rz0_1 h4, cK_t k2', f_X9_pointsOfAll, e1, Option.bind_some]
    · simp only [f_X12_count, if_neg c0, if_neg c1, if_pos c2, pI_t (k82 h4), Option.bind_some, b_X12_count_90]
      rw [c2]; exact e2
  by_cases c3 : v1 = 3
  · obtain ⟨v, e1, e2⟩ := lsum_2 (w := w) h4 h1 h8 h8' FU 0 0 (by omega) (by unfold FU; omega)
    rw [show nI 0 = 0 from rfl] at e1 e2
    refine ⟨v, (K, I, R, w), (K, up2 I (z + 82) 0 0, R, w), ?_, k82 h4, ?_, hr⟩
    · simp only [f_X11_count, if_neg c0, if_neg c1, if_neg c2, if_pos c3, gR_t kz, rz0_1 h4, cK_t k2', f_X9_loops, e1, Option.bind_some]
    · simp only [f_X12_count, if_neg c0, if_neg c1, if_neg c2, if_pos c3, pI_t (k82 h4), Option.bind_some, b_X12_count_90]
      rw [c3]; exact e2
  by_cases c4 : v1 = 4
  · obtain ⟨v, e1, e2⟩ := zsum_2 (w := w) (J := up2 I (z + 82) 0 0) h4 h12 (fun i => un_1 (by omega)) FU 0 0 (by decide) (by decide)
    rw [show nI 0 = 0 from rfl] at e1 e2
    refine ⟨v, (K, I, R, w), (K, up2 I (z + 82) 0 0, R, w), ?_, k82 h4, ?_, hr⟩
    · simp only [f_X11_count, if_neg c0, if_neg c1, if_neg c2, if_neg c3, if_pos c4, gR_t kz, rz0_3 h4, cK_t k10, f_X6_zonesShut, e1, Option.bind_some]
    · simp only [f_X12_count, if_neg c0, if_neg c1, if_neg c2, if_neg c3, if_pos c4, pI_t (k82 h4), Option.bind_some, e2]
  obtain ⟨⟨tt, t1, t2, t3, t4⟩, hf, q, p, m, hq, r1, r2, n1, n2, n3, hc, ha⟩ := h14
  by_cases c5 : v1 = 5
  · refine ⟨nI m, (K, I, R, w), (K, up2 I (z + 82) 0 0, R, w), ?_, k82 h4, ?_, hr⟩
    · simp only [f_X11_count, if_neg c0, if_neg c1, if_neg c2, if_neg c3, if_neg c4, if_pos c5, gR_t kz, rz0_4 h4, gI_t k36, n2, Option.bind_some]
    · have e : up2 I (z + 82) 0 0 (z + 82) 36 = nI m := by simp (disch := omega) only [un_1, un_2, un_3, un_4, es, up2_self]; exact n3
      simp only [f_X12_count, if_neg c0, if_neg c1, if_neg c2, if_neg c3, if_neg c4, if_pos c5, pI_t (k82 h4), Option.bind_some, gI_t (k82 h4), e]
  by_cases c6 : v1 = 6
  · refine ⟨nI tt, (K, I, R, w), (K, up2 I (z + 82) 0 0, R, w), ?_, k82 h4, ?_, hr⟩
    · simp only [f_X11_count, if_neg c0, if_neg c1, if_neg c2, if_neg c3, if_neg c4, if_neg c5, if_pos c6, gR_t kz, rz0_4 h4, gI_t k36, t2, Option.bind_some]
    · have e : up2 I (z + 82) 0 0 (z + 82) 27 = nI tt := by simp (disch := omega) only [un_1, un_2, un_3, un_4, es, up2_self]; exact t3
      simp only [f_X12_count, if_neg c0, if_neg c1, if_neg c2, if_neg c3, if_neg c4, if_neg c5, if_pos c6, pI_t (k82 h4), Option.bind_some, gI_t (k82 h4), e]
  refine ⟨-1000001, (K, I, R, w), (K, up2 I (z + 82) 0 0, R, w), ?_, k82 h4, ?_, hr⟩
  · simp only [f_X11_count, if_neg c0, if_neg c1, if_neg c2, if_neg c3, if_neg c4, if_neg c5, if_neg c6]
  · simp only [f_X12_count, if_neg c0, if_neg c1, if_neg c2, if_neg c3, if_neg c4, if_neg c5, if_neg c6, pI_t (k82 h4), Option.bind_some]
end O11
