section O8
variable {z h k n : Nat} {K : Nat → Nat × Nat} {I J : Nat → Nat → Int32} {R : Nat → Nat → Option Nat} {w : Nat}
theorem neg_0 (x : Int32) : (0 : Int32) - x = -x := by
  rw [← Int32.toBitVec_inj]; simp
theorem neg_n (x : Int32) : - - x = x := by
  rw [← Int32.toBitVec_inj]; simp
theorem neg_s (x y : Int32) : -(x - y) = y - x := Int32.neg_sub
theorem sub_0 (x : Int32) : x - 0 = x := by
  rw [← Int32.toBitVec_inj]; simp
theorem ab_neg (d : Int32) : ab (-d) = if 0 ≤ d then d else -d := by
  unfold ab
  rw [neg_0, neg_n]
  have e := Int32.toInt_neg d
  have l1 := Int32.le_toInt d
  have l2 := Int32.toInt_lt d
  by_cases h1 : 0 ≤ d
  · rw [if_pos h1]
    by_cases h2 : 0 ≤ -d
    · rw [if_pos h2]
      rw [Int32.le_iff_toInt_le, i0_0] at h1 h2
      rw [Int.bmod_eq_of_le (by omega) (by omega)] at e
      apply Int32.toInt_inj.mp
      omega
    · rw [if_neg h2]
  · rw [if_neg h1]
    by_cases h2 : 0 ≤ -d
    · rw [if_pos h2]
    · rw [if_neg h2]
      rw [Int32.le_iff_toInt_le, i0_0] at h1 h2
      by_cases hm : d.toInt = -2147483648
      · have : d = -2147483648 := Int32.toInt_inj.mp (by rw [hm]; decide)
        rw [this]; decide
      · rw [Int.bmod_eq_of_le (by omega) (by omega)] at e
        omega
theorem size_M (d : Int32) (S : St) : f_X12_size d S = some (ab (-d), S) := by
  rw [ab_neg]
  unfold f_X12_size
  split <;> rfl
theorem way_M (x y a b : Int32) (S : St) : f_X12_way x y a b S = some (wayI x y a b, S) := by
  unfold f_X12_way wayI
  simp only [size_M, Option.bind_some, neg_s]
  unfold mx
  by_cases q : ab (a - x) ≤ ab (b - y)
  · rw [if_pos q]
    rcases Int32.lt_or_eq_of_le q with q2 | q2
    · rw [if_pos q2]
    · rw [q2]; simp
  · rw [if_neg q, if_neg (fun q2 => q (Int32.le_of_lt q2))]
theorem way_X (x y a b : Int32) (S : St) : f_X11_way x y a b S = some (wayI x y a b, S) := rfl
theorem kn_c (n : Nat) (X Y : Nat → Int32) : kn n X Y = 2 ∨ kn n X Y = 3 ∨ kn n X Y = 8 := by
  unfold kn
  split
  · exact Or.inr (Or.inr rfl)
  · split
    · exact Or.inr (Or.inl rfl)
    · exact Or.inl rfl
theorem k3_s {β : Type} {a : Nat} {f : Option β} (hk : (K a).1 = 2 ∨ (K a).1 = 3 ∨ (K a).1 = 8) : k3 (K, J, R, w) (some a) f f f = f := by
  rcases hk with q | q | q <;> simp [k3, q]
theorem gS_s {a j : Nat} (hk : (K a).1 = 2 ∨ (K a).1 = 3 ∨ (K a).1 = 8) : gS (K, J, R, w) (some a) j = some (R a j) := by
  rcases hk with q | q | q <;> simp [gS, q]
theorem RStroke.kc (hs : RStroke z K J R k n) : (K (z + (108 + 3 * k))).1 = 2 ∨ (K (z + (108 + 3 * k))).1 = 3 ∨ (K (z + (108 + 3 * k))).1 = 8 := by
  rw [hs.2.2.2.2.2.2.2.2.1]; exact kn_c _ _ _
theorem RStroke.xx (hs : RStroke z K J R k n) {j : Nat} (hj : j < n) : J (z + 87) (8 * k + j) = J (z + (106 + 3 * k)) j ∧ J (z + 88) (8 * k + j) = J (z + (107 + 3 * k)) j := by
  obtain ⟨x, y, -, -, a, b, c, d⟩ := hs.2.2.2.2.2.2.2.2.2 j hj
  rw [a, b, c, d]; exact ⟨rfl, rfl⟩
theorem at_X (hS : Shp z K R) (hh : J (z + 2) 3 = nI h) (h8 : h ≤ 8) (hk : k < h) (hs : RStroke z K I R k n) : f_X9_at (some (z + 2)) (nI k) (K, J, R, w) = some (some (z + (108 + 3 * k)), K, J, R, w) := by
  have k2 : (K (z + 2)).1 = 8 + 1 := by rw [kz2 hS]
  simp only [f_X9_at, if_neg (nI_pos (show k < 2 ^ 31 by omega)), gI_t k2, Option.bind_some, hh, if_neg (nI_ge hk (by omega)), gR_t k2, rz2_0 hS, aR_t (kz3 hS) (show k < 8 by omega) (by decide), hs.2.2.2.1]
theorem at_N (hS : Shp z K R) (hh : J (z + 2) 3 = nI h) (h8 : h ≤ 8) {v : Int32} (hv : ¬ (0 ≤ v ∧ v ≤ nI h - 1)) : f_X9_at (some (z + 2)) v (K, J, R, w) = some (none, K, J, R, w) := by
  have k2 : (K (z + 2)).1 = 8 + 1 := by rw [kz2 hS]
  unfold f_X9_at
  by_cases c : v < 0
  · rw [if_pos c]
  · rw [if_neg c, gI_t k2, Option.bind_some, hh, if_pos]
    apply Int32.not_lt.mp
    intro q
    have c0 := Int32.not_lt.mp c
    obtain ⟨j, hj, rfl⟩ : ∃ j, j ≤ h ∧ v = nI j := nI_of2 (nI_toInt (by omega)) c (Int32.le_of_lt q)
    have hj2 : j < h := by
      by_cases e : j < h
      · exact e
      · have : j = h := by omega
        subst this
        exact absurd q Int32.lt_irrefl
    refine hv ⟨c0, ?_⟩
    obtain ⟨m, rfl⟩ : ∃ m, h = m + 1 := ⟨h - 1, by omega⟩
    rw [nI_pred]
    exact nI_le (by omega) (by omega)
theorem isSt_M (hS : Shp z K R) (hh : J (z + 82) 5 = nI h) (v : Int32) : f_X12_isStroke (some (z + 82)) v (K, J, R, w) = some (wi 0 v (nI h - 1), K, J, R, w) := by
  simp [f_X12_isStroke, gI_t, kz82 hS, hh, in_0, zr_wi]
theorem pts_X (hs : RStroke z K J R k n) : f_X8_points (some (z + (108 + 3 * k))) (K, J, R, w) = some (nI n, K, J, R, w) := by
  obtain ⟨a1, a2, a3, a4, a5, a6, a7, a8, a9, a10⟩ := id hs
  simp only [f_X8_points, gS_s hs.kc, Option.bind_some, a7, aL_t a5]
theorem xAt_X (hs : RStroke z K J R k n) {j : Nat} (hj : j < n) : f_X8_xAt (some (z + (108 + 3 * k))) (nI j) (K, J, R, w) = some (J (z + (106 + 3 * k)) j, K, J, R, w) := by
  obtain ⟨a1, a2, a3, a4, a5, a6, a7, a8, a9, a10⟩ := id hs
  simp only [f_X8_xAt, if_neg (nI_pos (show j < 2 ^ 31 by omega)), gS_s hs.kc, Option.bind_some, a7, aL_t a5, if_neg (nI_ge hj (by omega)), aI_t a5 hj (by omega)]
theorem yAt_X (hs : RStroke z K J R k n) {j : Nat} (hj : j < n) : f_X8_yAt (some (z + (108 + 3 * k))) (nI j) (K, J, R, w) = some (J (z + (107 + 3 * k)) j, K, J, R, w) := by
  obtain ⟨a1, a2, a3, a4, a5, a6, a7, a8, a9, a10⟩ := id hs
  simp only [f_X8_yAt, if_neg (nI_pos (show j < 2 ^ 31 by omega)), gS_s hs.kc, Option.bind_some, a8, aL_t a6, if_neg (nI_ge hj (by omega)), aI_t a6 hj (by omega)]
theorem ix8 (i : Nat) : (8 : Int32) * nI i = nI (8 * i) := by rw [show (8 : Int32) = nI 8 from rfl, pk_mul]
/-- the kind as it is told -/
def kI (q : Nat) : Int32 := if q = 8 then 1 else if q = 3 then 3 else 2
theorem kindOf_M (hS : Shp z K R) (hk : k < 8) (hs : RStroke z K J R k n) : f_X12_kindOf (some (z + 82)) (nI k) (K, J, R, w) = some (kI (K (z + (108 + 3 * k))).1, K, J, R, w) := by
  obtain ⟨a1, a2, a3, a4, a5, a6, a7, a8, a9, a10⟩ := id hs
  have g82 : ∀ c, gR (K, J, R, w) (some (z + 82)) 11 c = some (R (z + 82) c) := fun c => gR_t (k82 hS)
  have p1 : nI (8 * k) + nI n - 1 = nI (8 * k + (n - 1)) := by
    rw [nI_add, show 8 * k + n = (8 * k + (n - 1)) + 1 by omega, nI_pred]
  have z0 : 8 * k = 8 * k + 0 := rfl
  have e1 : aI (K, J, R, w) (some (z + 87)) 14 (nI (8 * k)) = some (J (z + (106 + 3 * k)) 0) := by
    rw [aI_t (kz87 hS) (show 8 * k < 64 by omega) (by decide), z0, (hs.xx a1).1]
  have e2 : aI (K, J, R, w) (some (z + 87)) 14 (nI (8 * k + (n - 1))) = some (J (z + (106 + 3 * k)) (n - 1)) := by
    rw [aI_t (kz87 hS) (show 8 * k + (n - 1) < 64 by omega) (by decide), (hs.xx (show n - 1 < n by omega)).1]
  have e3 : aI (K, J, R, w) (some (z + 88)) 14 (nI (8 * k)) = some (J (z + (107 + 3 * k)) 0) := by
    rw [aI_t (kz88 hS) (show 8 * k < 64 by omega) (by decide), z0, (hs.xx a1).2]
  have e4 : aI (K, J, R, w) (some (z + 88)) 14 (nI (8 * k + (n - 1))) = some (J (z + (107 + 3 * k)) (n - 1)) := by
    rw [aI_t (kz88 hS) (show 8 * k + (n - 1) < 64 by omega) (by decide), (hs.xx (show n - 1 < n by omega)).2]
  rw [a9]
  simp only [f_X12_kindOf, g82, rz82_6 hS, rz82_7 hS, rz82_8 hS, Option.bind_some, aI_t (kz86 hS) hk (by decide), a3, ix8, p1, e1, e2, e3, e4]
  by_cases c1 : n = 1
  · subst c1
    simp [b_X12_kindOf_66, b_X12_kindOf_67, show nI 1 = 1 from rfl, kn, kI]
  · have c1' : ¬ nI n = 1 := fun q => c1 ((nI_eq (b := 1) (by omega) (by decide)).mp q)
    by_cases c2 : n = 2
    · subst c2
      simp [b_X12_kindOf_66, b_X12_kindOf_67, show nI 2 = 2 from rfl, kn, kI]
    · have c3 : ¬ nI n ≤ 2 := nI_ge (a := 2) (by omega) (by omega)
      rw [if_neg c3]
      by_cases q1 : J (z + (106 + 3 * k)) 0 = J (z + (106 + 3 * k)) (n - 1)
      · by_cases q2 : J (z + (107 + 3 * k)) 0 = J (z + (107 + 3 * k)) (n - 1)
        · rw [if_pos q1, if_pos q2]
          unfold kn
          rw [if_neg c1, if_pos ⟨by omega, q1, q2⟩]
          simp [b_X12_kindOf_67, c1', kI]
        · rw [if_pos q1, if_neg q2]
          unfold kn
          rw [if_neg c1, if_neg (fun q => q2 q.2.2)]
          simp [b_X12_kindOf_66, b_X12_kindOf_67, c1', kI]
      · rw [if_neg q1]
        unfold kn
        rw [if_neg c1, if_neg (fun q => q1 q.2.1)]
        simp [b_X12_kindOf_66, b_X12_kindOf_67, c1', kI]
theorem told_X (hs : RStroke z K J R k n) : f_X8_kindTold (some (z + (108 + 3 * k))) (K, J, R, w) = some (kI (K (z + (108 + 3 * k))).1, K, J, R, w) := by
  rcases hs.kc with q | q | q <;> simp [f_X8_kindTold, iO, k3, q, kI]
theorem agr_point (v1 v2 v3 : Int32) : Agr (Rel z) z (f_X11_point (some z) v1 v2 v3) (f_X12_point (some (z + 82)) v1 v2 v3) := by
  rintro ⟨K, I, R, w⟩ hR
  obtain ⟨h, h1, h2, h3, h4, h5, h6, h7, h8, -⟩ := hR.opn
  have kz : (K z).1 = 10 + 1 := by rw [kz0 h4]
  have k2 : (K (z + 2)).1 = 8 + 1 := by rw [kz2 h4]
  have hr := hR.thr 0
  obtain ⟨h', -, -, h3', -, -, -, -, h8', -⟩ := hr.opn
  have hh : h' = h := by omega
  subst hh
  have g82 : ∀ c, gR (K, up2 I (z + 82) 0 0, R, w) (some (z + 82)) 11 c = some (R (z + 82) c) := fun c => gR_t (k82 h4)
  by_cases c1 : 0 ≤ v1 ∧ v1 ≤ nI h' - 1
  · obtain ⟨k, hk, rfl⟩ := ix_lt (by omega) c1
    obtain ⟨n, hs⟩ := h8.2.2 k hk
    have hs' : RStroke z K (up2 I (z + 82) 0 0) R k n := hs.fr fun o q p => un_1 (by unfold fpStrokes at p; omega)
    by_cases c2 : 0 ≤ v2 ∧ v2 ≤ nI n - 1
    · obtain ⟨j, hj, rfl⟩ := ix_lt (by have := hs.2.1; omega) c2
      by_cases c3 : 0 ≤ v3 ∧ v3 ≤ 1
      · have hb := hs.2.1
        by_cases c4 : v3 = 0
        · have c4t := eq_true c4
          refine ⟨I (z + (106 + 3 * k)) j, (K, I, R, w), (K, up2 I (z + 82) 0 0, R, w), ?_, k82 h4, ?_, hr⟩
          · simp only [f_X11_point, gR_t kz, rz0_1 h4, Option.bind_some, cK_t k2, at_X h4 h8.1 h1 hk hs, k3_s hs.kc, pts_X hs, isW, wi1 c2, wi1 c3, i10, if_false, c4t, if_true, xAt_X hs hj, reduceCtorEq]
          · simp only [f_X12_point, pI_t (k82 h4), Option.bind_some, cK_t (k82 h4), isSt_M h4 h8'.2.1, wi1 c1, i10, if_false, g82, rz82_6 h4, aI_t (kz86 h4) (show k < 8 by omega) (by decide), hs'.2.2.1, in_0, wi1 c2, in_01, wi1 c3, c4t, if_true, rz82_7 h4, ix8, nI_add, aI_t (kz87 h4) (show 8 * k + j < 64 by omega) (by decide), (hs'.xx hj).1]
            simp (disch := omega) only [un_1, un_2, un_3, un_4, es, up2_self]
        · refine ⟨I (z + (107 + 3 * k)) j, (K, I, R, w), (K, up2 I (z + 82) 0 0, R, w), ?_, k82 h4, ?_, hr⟩
          · simp only [f_X11_point, gR_t kz, rz0_1 h4, Option.bind_some, cK_t k2, at_X h4 h8.1 h1 hk hs, k3_s hs.kc, pts_X hs, isW, wi1 c2, wi1 c3, i10, if_false, c4, yAt_X hs hj, reduceCtorEq]
          · simp only [f_X12_point, pI_t (k82 h4), Option.bind_some, cK_t (k82 h4), isSt_M h4 h8'.2.1, wi1 c1, i10, if_false, g82, rz82_6 h4, aI_t (kz86 h4) (show k < 8 by omega) (by decide), hs'.2.2.1, in_0, wi1 c2, in_01, wi1 c3, c4, rz82_8 h4, ix8, nI_add, aI_t (kz88 h4) (show 8 * k + j < 64 by omega) (by decide), (hs'.xx hj).2]
            simp (disch := omega) only [un_1, un_2, un_3, un_4, es, up2_self]
      · refine ⟨-1000001, (K, I, R, w), (K, up2 I (z + 82) 0 0, R, w), ?_, k82 h4, ?_, hr⟩
        · simp only [f_X11_point, gR_t kz, rz0_1 h4, Option.bind_some, cK_t k2, at_X h4 h8.1 h1 hk hs, k3_s hs.kc, pts_X hs, isW, wi1 c2, wi0 c3, i10, if_false, if_true, reduceCtorEq]
        · simp only [f_X12_point, pI_t (k82 h4), Option.bind_some, cK_t (k82 h4), isSt_M h4 h8'.2.1, wi1 c1, i10, if_false, g82, rz82_6 h4, aI_t (kz86 h4) (show k < 8 by omega) (by decide), hs'.2.2.1, in_0, wi1 c2, in_01, wi0 c3, if_true]
    · refine ⟨-1000001, (K, I, R, w), (K, up2 I (z + 82) 0 0, R, w), ?_, k82 h4, ?_, hr⟩
      · simp only [f_X11_point, gR_t kz, rz0_1 h4, Option.bind_some, cK_t k2, at_X h4 h8.1 h1 hk hs, k3_s hs.kc, pts_X hs, isW, wi0 c2, i10, if_false, if_true, reduceCtorEq]
      · simp only [f_X12_point, pI_t (k82 h4), Option.bind_some, cK_t (k82 h4), isSt_M h4 h8'.2.1, wi1 c1, i10, if_false, g82, rz82_6 h4, aI_t (kz86 h4) (show k < 8 by omega) (by decide), hs'.2.2.1, in_0, wi0 c2, if_true]
  · refine ⟨-1000001, (K, I, R, w), (K, up2 I (z + 82) 0 0, R, w), ?_, k82 h4, ?_, hr⟩
    · simp only [f_X11_point, gR_t kz, rz0_1 h4, Option.bind_some, cK_t k2, at_N h4 h8.1 h1 c1, if_true]
    · simp only [f_X12_point, pI_t (k82 h4), Option.bind_some, cK_t (k82 h4), isSt_M h4 h8'.2.1, wi0 c1, if_true]
theorem agr_kind (v1 : Int32) : Agr (Rel z) z (f_X11_kind (some z) v1) (f_X12_kind (some (z + 82)) v1) := by
  rintro ⟨K, I, R, w⟩ hR
  obtain ⟨h, h1, h2, h3, h4, h5, h6, h7, h8, -⟩ := hR.opn
  have kz : (K z).1 = 10 + 1 := by rw [kz0 h4]
  have k2 : (K (z + 2)).1 = 8 + 1 := by rw [kz2 h4]
  have hr := hR.thr 0
  have h8' : RStrokes z h K (up2 I (z + 82) 0 0) R := h8.fr fun o q p => un_1 (by unfold fpStrokes at p; omega)
  by_cases c1 : 0 ≤ v1 ∧ v1 ≤ nI h - 1
  · obtain ⟨k, hk, rfl⟩ := ix_lt (by omega) c1
    obtain ⟨n, hs⟩ := h8.2.2 k hk
    have hs' : RStroke z K (up2 I (z + 82) 0 0) R k n := hs.fr fun o q p => un_1 (by unfold fpStrokes at p; omega)
    refine ⟨kI (K (z + (108 + 3 * k))).1, (K, I, R, w), (K, up2 I (z + 82) 0 0, R, w), ?_, k82 h4, ?_, hr⟩
    · simp only [f_X11_kind, gR_t kz, rz0_1 h4, Option.bind_some, cK_t k2, at_X h4 h8.1 h1 hk hs, k3_s hs.kc, told_X hs, if_false, reduceCtorEq]
    · simp only [f_X12_kind, pI_t (k82 h4), Option.bind_some, cK_t (k82 h4), isSt_M h4 h8'.2.1, wi1 c1, i10, if_false, kindOf_M h4 (show k < 8 by omega) hs']
  · refine ⟨-1000001, (K, I, R, w), (K, up2 I (z + 82) 0 0, R, w), ?_, k82 h4, ?_, hr⟩
    · simp only [f_X11_kind, gR_t kz, rz0_1 h4, Option.bind_some, cK_t k2, at_N h4 h8.1 h1 c1, if_true]
    · simp only [f_X12_kind, pI_t (k82 h4), Option.bind_some, cK_t (k82 h4), isSt_M h4 h8'.2.1, wi0 c1, if_true]
end O8
