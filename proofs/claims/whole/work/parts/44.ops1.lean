def wi (a v b : Int32) : Int32 := if a ≤ v ∧ v ≤ b then 1 else 0
theorem wi1 {a v b : Int32} (h : a ≤ v ∧ v ≤ b) : wi a v b = 1 := if_pos h
theorem wi0 {a v b : Int32} (h : ¬ (a ≤ v ∧ v ≤ b)) : wi a v b = 0 := if_neg h
theorem i10 : ¬ (1 : Int32) = 0 := by decide
theorem zr_0 (S : St) : zr 0 S = some (0, S) := rfl
theorem zr_1 (S : St) : zr 1 S = some (1, S) := rfl
theorem zr_wi (a v b : Int32) (S : St) : zr (wi a v b) S = some (wi a v b, S) := by
  unfold wi
  split <;> rfl
theorem isW (v a b : Int32) (S : St) : f_X11_isWithin v a b S = some (wi a v b, S) := by
  unfold f_X11_isWithin
  by_cases h1 : v < a
  · rw [if_pos h1, wi0 (fun q => Int32.not_le.mpr h1 q.1)]; rfl
  · rw [if_neg h1]
    by_cases h2 : b < v
    · rw [if_pos h2, wi0 (fun q => Int32.not_le.mpr h2 q.2)]; rfl
    · rw [if_neg h2, wi1 ⟨Int32.not_lt.mp h1, Int32.not_lt.mp h2⟩]; rfl
theorem isSh (v : Int32) (S : St) : f_X11_isSheet v S = some (wi 0 v 7, S) := by
  unfold f_X11_isSheet
  rw [isW, Option.bind_some]
  exact zr_wi _ _ _ _
theorem isZo (v : Int32) (S : St) : f_X11_isZone v S = some (wi 0 v 3, S) := by
  unfold f_X11_isZone
  rw [isW, Option.bind_some]
  exact zr_wi _ _ _ _
theorem w64_lt (a b : Int32) : a.toInt64 < b.toInt64 ↔ a < b := by
  rw [Int64.lt_iff_toInt_lt, Int32.toInt_toInt64, Int32.toInt_toInt64, Int32.lt_iff_toInt_lt]
theorem cmp_lt (a b : Int32) : lg_cmp a.toInt64 b.toInt64 < 0 ↔ a < b := by
  unfold lg_cmp
  by_cases h1 : a.toInt64 > b.toInt64
  · rw [if_pos h1]
    have h2 : b < a := (w64_lt b a).mp h1
    constructor
    · intro q; exact absurd q (by decide)
    · intro q; exact absurd q (Int32.not_lt.mpr (Int32.le_of_lt h2))
  · rw [if_neg h1]
    have h2 : ¬ b < a := fun q => h1 ((w64_lt b a).mpr q)
    by_cases h3 : a.toInt64 = b.toInt64
    · rw [if_pos h3]
      have h4 : ¬ a < b := fun q => by
        have := (w64_lt a b).mpr q
        rw [h3] at this
        exact absurd this (Int64.lt_irrefl)
      constructor
      · intro q; exact absurd q (by decide)
      · intro q; exact absurd q h4
    · rw [if_neg h3]
      constructor
      · intro _
        rcases Int32.lt_or_eq_of_le (Int32.not_lt.mp h2) with q | q
        · exact q
        · exact absurd (by rw [q]) h3
      · intro _; decide
theorem cmp_gt (a b : Int32) : 0 < lg_cmp a.toInt64 b.toInt64 ↔ b < a := by
  unfold lg_cmp
  by_cases h1 : a.toInt64 > b.toInt64
  · rw [if_pos h1]
    exact ⟨fun _ => (w64_lt b a).mp h1, fun _ => by decide⟩
  · rw [if_neg h1]
    have h2 : ¬ b < a := fun q => h1 ((w64_lt b a).mpr q)
    refine ⟨fun q => ?_, fun q => absurd q h2⟩
    by_cases h3 : a.toInt64 = b.toInt64
    · rw [if_pos h3] at q; exact absurd q (by decide)
    · rw [if_neg h3] at q; exact absurd q (by decide)
theorem in_w (v a b : Int32) (S : St) : f_X12_in v.toInt64 a.toInt64 b.toInt64 S = some (wi a v b, S) := by
  unfold f_X12_in
  by_cases h1 : v < a
  · rw [if_pos ((cmp_lt v a).mpr h1), wi0 (fun q => Int32.not_le.mpr h1 q.1)]; rfl
  · rw [if_neg (fun q => h1 ((cmp_lt v a).mp q))]
    by_cases h2 : b < v
    · rw [if_pos ((cmp_gt v b).mpr h2), wi0 (fun q => Int32.not_le.mpr h2 q.2)]; rfl
    · rw [if_neg (fun q => h2 ((cmp_gt v b).mp q)), wi1 ⟨Int32.not_lt.mp h1, Int32.not_lt.mp h2⟩]; rfl
theorem in_c (v a b : Int32) {A B : Int64} (hA : a.toInt64 = A) (hB : b.toInt64 = B) (S : St) : f_X12_in v.toInt64 A B S = some (wi a v b, S) := by
  subst hA; subst hB; exact in_w v a b S
theorem in_07 (v : Int32) (S : St) : f_X12_in v.toInt64 0 7 S = some (wi 0 v 7, S) := in_c v 0 7 rfl rfl S
theorem in_01 (v : Int32) (S : St) : f_X12_in v.toInt64 0 1 S = some (wi 0 v 1, S) := in_c v 0 1 rfl rfl S
theorem in_02 (v : Int32) (S : St) : f_X12_in v.toInt64 0 2 S = some (wi 0 v 2, S) := in_c v 0 2 rfl rfl S
theorem in_03 (v : Int32) (S : St) : f_X12_in v.toInt64 0 3 S = some (wi 0 v 3, S) := in_c v 0 3 rfl rfl S
theorem in_05 (v : Int32) (S : St) : f_X12_in v.toInt64 0 5 S = some (wi 0 v 5, S) := in_c v 0 5 rfl rfl S
theorem in_077 (v : Int32) (S : St) : f_X12_in v.toInt64 0 10 S = some (wi 0 v 10, S) := in_c v 0 10 rfl rfl S
theorem in_016 (v : Int32) (S : St) : f_X12_in v.toInt64 0 16 S = some (wi 0 v 16, S) := in_c v 0 16 rfl rfl S
theorem in_116 (v : Int32) (S : St) : f_X12_in v.toInt64 1 16 S = some (wi 1 v 16, S) := in_c v 1 16 rfl rfl S
theorem in_18 (v : Int32) (S : St) : f_X12_in v.toInt64 1 8 S = some (wi 1 v 8, S) := in_c v 1 8 rfl rfl S
theorem in_11000 (v : Int32) (S : St) : f_X12_in v.toInt64 1 1000 S = some (wi 1 v 1000, S) := in_c v 1 1000 rfl rfl S
theorem in_01000 (v : Int32) (S : St) : f_X12_in v.toInt64 0 1000 S = some (wi 0 v 1000, S) := in_c v 0 1000 rfl rfl S
theorem in_020000 (v : Int32) (S : St) : f_X12_in v.toInt64 0 20000 S = some (wi 0 v 20000, S) := in_c v 0 20000 rfl rfl S
theorem in_0 (v b : Int32) (S : St) : f_X12_in v.toInt64 0 b.toInt64 S = some (wi 0 v b, S) := in_c v 0 b rfl rfl S
theorem in_k (v a : Int32) (S : St) : f_X12_in v.toInt64 a.toInt64 1000 S = some (wi a v 1000, S) := in_c v a 1000 rfl rfl S
theorem isShM (v : Int32) (S : St) : f_X12_isSheet v S = some (wi 0 v 7, S) := by
  unfold f_X12_isSheet
  rw [in_07, Option.bind_some]
  exact zr_wi _ _ _ _
/-- a number within 0 .. n-1 -/
theorem ix_of {v : Int32} {n : Nat} (h0 : 0 < n) (hn : n ≤ 100000) (h : 0 ≤ v ∧ v ≤ nI n - 1) : ∃ j, j < n ∧ v = nI j := by
  obtain ⟨m, rfl⟩ : ∃ m, n = m + 1 := ⟨n - 1, by omega⟩
  rw [nI_pred] at h
  obtain ⟨j, hj, e⟩ := nI_of2 (n := m) (nI_toInt (by omega)) (Int32.not_lt.mpr h.1) h.2
  exact ⟨j, by omega, e⟩
theorem ix_no {v : Int32} (h : 0 ≤ v ∧ v ≤ nI 0 - 1) : False := by
  have h1 := Int32.le_iff_toInt_le.mp h.1
  have h2 := Int32.le_iff_toInt_le.mp h.2
  have : (nI 0 - 1 : Int32).toInt = -1 := by decide
  rw [this] at h2
  have h3 : (0 : Int32).toInt = 0 := by decide
  rw [h3] at h1
  omega
theorem ix_lt {v : Int32} {n : Nat} (hn : n ≤ 100000) (h : 0 ≤ v ∧ v ≤ nI n - 1) : ∃ j, j < n ∧ v = nI j := by
  rcases Nat.eq_zero_or_pos n with rfl | h0
  · exact absurd h ix_no
  · exact ix_of h0 hn h
theorem ix_le {v M : Int32} {n : Nat} (hM : M.toInt = n) (h : 0 ≤ v ∧ v ≤ M) : ∃ j, j ≤ n ∧ v = nI j := nI_of2 hM (Int32.not_lt.mpr h.1) h.2
section O1
variable {z : Nat}
theorem Rel.opn {K : Nat → Nat × Nat} {I : Nat → Nat → Int32} {R : Nat → Nat → Option Nat} {w : Nat} (hR : Rel z (K, I, R, w)) : ∃ h, h ≤ 8 ∧ 0 < z ∧ w = z + (106 + 3 * h) ∧ Shp z K R ∧ RCst R ∧ I z 6 = I (z + 82) 1 ∧ RSheets z I ∧ RStrokes z h K I R ∧ RPlan z h I ∧ RBest z h I ∧ RRules z I ∧ RZones z I ∧ RShow z h I ∧ RCues z I R ∧ RTrace z I := hR
theorem Rel.mk {K : Nat → Nat × Nat} {I : Nat → Nat → Int32} {R : Nat → Nat → Option Nat} {w h : Nat} (hR : h ≤ 8 ∧ 0 < z ∧ w = z + (106 + 3 * h) ∧ Shp z K R ∧ RCst R ∧ I z 6 = I (z + 82) 1 ∧ RSheets z I ∧ RStrokes z h K I R ∧ RPlan z h I ∧ RBest z h I ∧ RRules z I ∧ RZones z I ∧ RShow z h I ∧ RCues z I R ∧ RTrace z I) : Rel z (K, I, R, w) := ⟨h, hR⟩
theorem k82 {K : Nat → Nat × Nat} {R : Nat → Nat → Option Nat} (h : Shp z K R) : (K (z + 82)).1 = 12 := by rw [kz82 h]
theorem fr_thrown {I : Nat → Nat → Int32} (v : Int32) : Fr fpAll z I (up2 I (z + 82) 0 v) := by
  intro o k q
  refine up2_ne _ _ ?_
  unfold fpAll fpSheets fpStat fpStrokes fpPlan fpBest fpRules fpZones fpShow fpCues fpTrace at q
  omega
theorem Rel.thr {K : Nat → Nat × Nat} {I : Nat → Nat → Int32} {R : Nat → Nat → Option Nat} {w : Nat} (hr : Rel z (K, I, R, w)) (v : Int32) : Rel z (K, up2 I (z + 82) 0 v, R, w) := hr.fr (fr_thrown v)
theorem agr_status : Agr (Rel z) z (f_X11_status (some z)) (f_X12_status (some (z + 82))) := by
  rintro ⟨K, I, R, w⟩ hR
  obtain ⟨h, h1, h2, h3, h4, h5, h6, -⟩ := hR.opn
  refine ⟨I z 6, (K, I, R, w), (K, up2 I (z + 82) 0 0, R, w), ?_, k82 h4, ?_, hR.thr 0⟩
  · simp [f_X11_status, gI_t, kz0 h4]
  · simp [f_X12_status, gI_t, pI_t, kz82 h4, up2]
    exact h6.symm
theorem agr_fault : Agr (Rel z) z (f_X11_fault (some z)) (f_X12_fault (some (z + 82))) := by
  rintro ⟨K, I, R, w⟩ hR
  obtain ⟨h, h1, h2, h3, h4, h5, h6, -, -, -, -, -, -, -, h14, -⟩ := hR.opn
  refine ⟨I (z + 36) 3, (K, I, R, w), (K, up2 I (z + 82) 0 0, R, w), ?_, k82 h4, ?_, hR.thr 0⟩
  · simp [f_X11_fault, gI_t, gR_t, kz0 h4, kz36 h4, rz0_4 h4]
  · simp [f_X12_fault, gI_t, pI_t, kz82 h4, up2]
    exact h14.2.1.symm
theorem agr_order (v1 v2 : Int32) : Agr (Rel z) z (f_X11_order (some z) v1 v2) (f_X12_order (some (z + 82)) v1 v2) := by
  rintro ⟨K, I, R, w⟩ hR
  obtain ⟨h, h1, h2, h3, h4, h5, h6, h7, h8, h9, -⟩ := hR.opn
  by_cases c1 : 0 ≤ v2 ∧ v2 ≤ 1
  · by_cases c2 : 0 ≤ v1 ∧ v1 ≤ nI h - 1
    · obtain ⟨j, hj, rfl⟩ := ix_lt (by omega) c2
      obtain ⟨q, hq, p1, p2, p3, p4⟩ := h9 j hj
      by_cases c3 : v2 = 0
      · have c3t := eq_true c3
        refine ⟨I (z + 4) j, (K, I, R, w), (K, up2 I (z + 82) 0 0, R, w), ?_, k82 h4, ?_, hR.thr 0⟩
        · simp [f_X11_order, isW, wi1 c1, gR_t, gI_t, kz0 h4, kz2 h4, rz0_1 h4, rz2_1 h4, h8.1, wi1 c2, c3t, aI_t (kz4 h4) (show j < 8 by omega)]
        · simp [f_X12_order, in_01, in_0, wi1 c1, pI_t, gR_t, gI_t, kz82 h4, rz82_9 h4, up2, h8.2.1, wi1 c2, c3t, aI_t (kz89 h4) (show j < 8 by omega)]
          rw [p1, p2]
      · refine ⟨I (z + 5) j, (K, I, R, w), (K, up2 I (z + 82) 0 0, R, w), ?_, k82 h4, ?_, hR.thr 0⟩
        · simp [f_X11_order, isW, wi1 c1, gR_t, gI_t, kz0 h4, kz2 h4, rz0_1 h4, rz2_2 h4, h8.1, wi1 c2, c3, aI_t (kz5 h4) (show j < 8 by omega)]
        · simp [f_X12_order, in_01, in_0, wi1 c1, pI_t, gR_t, gI_t, kz82 h4, rz82_10 h4, up2, h8.2.1, wi1 c2, c3, aI_t (kz90 h4) (show j < 8 by omega)]
          exact p4
    · refine ⟨-1000000, (K, I, R, w), (K, up2 I (z + 82) 0 0, R, w), ?_, k82 h4, ?_, hR.thr 0⟩
      · simp [f_X11_order, isW, wi1 c1, gR_t, gI_t, kz0 h4, kz2 h4, rz0_1 h4, h8.1, wi0 c2]
      · simp [f_X12_order, in_01, in_0, wi1 c1, pI_t, gI_t, kz82 h4, up2, h8.2.1, wi0 c2]
  · refine ⟨-1000001, (K, I, R, w), (K, up2 I (z + 82) 0 0, R, w), ?_, k82 h4, ?_, hR.thr 0⟩
    · simp [f_X11_order, isW, wi0 c1]
    · simp [f_X12_order, in_01, wi0 c1, pI_t, kz82 h4]
theorem agr_trace (v1 : Int32) : Agr (Rel z) z (f_X11_trace (some z) v1) (f_X12_trace (some (z + 82)) v1) := by
  rintro ⟨K, I, R, w⟩ hR
  obtain ⟨h, h1, h2, h3, h4, h5, h6, -, -, -, -, -, -, -, -, t, t1, t2, t3, t4⟩ := hR.opn
  by_cases c2 : 0 ≤ v1 ∧ v1 ≤ nI t - 1
  · obtain ⟨j, hj, rfl⟩ := ix_lt (by omega) c2
    refine ⟨I (z + 65) j, (K, I, R, w), (K, up2 I (z + 82) 0 0, R, w), ?_, k82 h4, ?_, hR.thr 0⟩
    · simp [f_X11_trace, isW, gR_t, gI_t, kz0 h4, kz64 h4, rz0_5 h4, rz64_0 h4, t2, wi1 c2, aI_t (kz65 h4) (show j < 16 by omega)]
    · simp [f_X12_trace, in_0, pI_t, gR_t, gI_t, kz82 h4, rz82_40 h4, up2, t3, wi1 c2, aI_t (kz105 h4) (show j < 16 by omega)]
      exact (t4 j hj).symm
  · refine ⟨-1000000, (K, I, R, w), (K, up2 I (z + 82) 0 0, R, w), ?_, k82 h4, ?_, hR.thr 0⟩
    · simp [f_X11_trace, isW, gR_t, gI_t, kz0 h4, kz64 h4, rz0_5 h4, t2, wi0 c2]
    · simp [f_X12_trace, in_0, pI_t, gI_t, kz82 h4, up2, t3, wi0 c2]
end O1
