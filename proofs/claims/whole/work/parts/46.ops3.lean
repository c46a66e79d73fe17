section O3
variable {z : Nat} {K : Nat → Nat × Nat} {I J : Nat → Nat → Int32} {R : Nat → Nat → Option Nat} {w : Nat}
def hs (x n s : Int32) : Int32 := if x < 0 then 0 else if n < 0 then 0 else if s - n < x then 0 else 1
theorem has_X (hS : Shp z K R) {i : Nat} (hi : i < 8) (x n : Int32) : f_X5_has (some (z + (66 + 2 * i))) x n (K, I, R, w) = some (hs x n (I (z + (66 + 2 * i)) 2), K, I, R, w) := by
  simp only [f_X5_has, gI_t (show (K (z + (66 + 2 * i))).1 = 5 + 1 by rw [kzS hS hi]), Option.bind_some, hs]
  split
  · rfl
  · split
    · rfl
    · split <;> rfl
theorem hs_1 (x s : Int32) : hs x 1 s = wi 0 x (s - 1) := by
  unfold hs wi
  by_cases h1 : x < 0
  · rw [if_pos h1, if_neg (fun q => Int32.not_le.mpr h1 q.1)]
  · rw [if_neg h1, if_neg (by decide)]
    by_cases h2 : s - 1 < x
    · rw [if_pos h2, if_neg (fun q => Int32.not_le.mpr h2 q.2)]
    · rw [if_neg h2, if_pos ⟨Int32.not_lt.mp h1, Int32.not_lt.mp h2⟩]
theorem ix40 (i j : Nat) : (40 : Int32) * nI i + nI j = nI (40 * i + j) := by
  rw [show (40 : Int32) = nI 40 from rfl, pk_mul, nI_add]
/-- an item's value by the lane -/
def nrw (l v : Int32) : Int32 := if l = 0 then v.toInt8.toInt32 else if l = 1 then v.toInt16.toInt32 else v
theorem nrw_X (hS : Shp z K R) {i : Nat} (hi : i < 8) (v : Int32) : f_X5_narrowed (some (z + (66 + 2 * i))) v (K, I, R, w) = some (nrw (I (z + (66 + 2 * i)) 1) v, K, I, R, w) := by
  simp only [f_X5_narrowed, gI_t (show (K (z + (66 + 2 * i))).1 = 5 + 1 by rw [kzS hS hi]), Option.bind_some, nrw]
  split
  · rfl
  · split <;> rfl
theorem item_X (hS : Shp z K R) {i j m : Nat} (hi : i < 8) (hm : m ≤ 40) (hs2 : I (z + (66 + 2 * i)) 2 = nI m) (hj : j < m) : f_X5_item (some (z + (66 + 2 * i))) (nI j) (K, I, R, w) = some (I (z + (67 + 2 * i)) j, K, I, R, w) := by
  have c : wi 0 (nI j) (nI m - 1) = 1 := wi1 ⟨nI_pos' (by omega), by
    obtain ⟨q, rfl⟩ : ∃ q, m = q + 1 := ⟨m - 1, by omega⟩
    rw [nI_pred]; exact nI_le (by omega) (by omega)⟩
  simp [f_X5_item, cK_t, kzS hS hi, has_X hS hi, hs_1, hs2, c, gR_t, rzI hS hi, aI_t (kzI hS hi) (show j < 40 by omega)]
theorem put_X (hS : Shp z K R) {i j m : Nat} (hi : i < 8) (hm : m ≤ 40) (hs2 : I (z + (66 + 2 * i)) 2 = nI m) (hj : j < m) (v : Int32) : f_X5_put (some (z + (66 + 2 * i))) (nI j) v (K, I, R, w) = some (nrw (I (z + (66 + 2 * i)) 1) v, K, up2 I (z + (67 + 2 * i)) j (nrw (I (z + (66 + 2 * i)) 1) v), R, w) := by
  have c : wi 0 (nI j) (nI m - 1) = 1 := wi1 ⟨nI_pos' (by omega), by
    obtain ⟨q, rfl⟩ : ∃ q, m = q + 1 := ⟨m - 1, by omega⟩
    rw [nI_pred]; exact nI_le (by omega) (by omega)⟩
  have e2 : up2 I (z + (67 + 2 * i)) j (nrw (I (z + (66 + 2 * i)) 1) v) (z + (66 + 2 * i)) 2 = nI m := ev hs2 (by omega)
  simp [f_X5_put, b_X5_put_20, cK_t, kzS hS hi, has_X hS hi, hs_1, hs2, c, gR_t, rzI hS hi, nrw_X hS hi, sI_t (kzI hS hi) (show j < 40 by omega), nar14, item_X hS hi hm e2 hj, up2_self]
theorem agr_set (v1 v2 v3 : Int32) : Agr (Rel z) z (f_X11_set (some z) v1 v2 v3) (f_X12_set (some (z + 82)) v1 v2 v3) := by
  rintro ⟨K, I, R, w⟩ hR
  obtain ⟨h, h1, h2, h3, h4, h5, h6, h7, -⟩ := hR.opn
  by_cases c1 : 0 ≤ v1 ∧ v1 ≤ 7
  · obtain ⟨i, hi, rfl⟩ := ix_le (n := 7) (by decide) c1
    have hi8 : i < 8 := by omega
    obtain ⟨g1, g2, g3, ⟨m, m1, m2⟩, g5⟩ := h7 i hi8
    have kS := kzS h4 hi8
    by_cases c2 : I (z + 83) i = -1
    · have c3 : ¬ 0 ≤ I (z + 83) i := fun q => (lane_neg g3).mp q c2
      have c2' : I (z + (66 + 2 * i)) 1 = -1 := g1.trans c2
      refine ⟨-1000011, (K, up2 I z 6 1, R, w), (K, up2 (up2 (up2 (up2 I z 6 1) (z + 82) 0 0) (z + 82) 1 0) (z + 82) 1 1, R, w), ?_, k82 h4, ?_, hR.fnd 1⟩
      · simp [f_X11_set, isSh, wi1 c1, gR_t, kz0 h4, rz0_0 h4, aR_t (kz1 h4) hi8, rzS h4 hi8, cK_t, kS, miss_X h4 hi8, c2', found_X h4]
      · have e83 : up2 (up2 (up2 I z 6 1) (z + 82) 0 0) (z + 82) 1 0 (z + 83) i = I (z + 83) i := ev (ev (ev0 rfl (by omega)) (by omega)) (by omega)
        simp [f_X12_set, isShM, wi1 c1, pI_t, gR_t, kz82 h4, rz82_2 h4, aI_t (kz83 h4) hi8, e83, c3, cK_t, found_M h4]
    · have c3 : 0 ≤ I (z + 83) i := (lane_neg g3).mpr c2
      have c2' : ¬ I (z + (66 + 2 * i)) 1 = -1 := fun q => c2 (g1.symm.trans q)
      by_cases c4 : 0 ≤ v2 ∧ v2 ≤ nI m - 1
      · obtain ⟨j, hj, rfl⟩ := ix_lt (by omega) c4
        refine ⟨nrw (I (z + 83) i) v3, (K, up2 (up2 I (z + (67 + 2 * i)) j (nrw (I (z + 83) i) v3)) z 6 0, R, w), (K, up2 (up2 (up2 (up2 (up2 I (z + (67 + 2 * i)) j (nrw (I (z + 83) i) v3)) z 6 0) (z + 82) 0 0) (z + 82) 1 0) (z + 85) (40 * i + j) (nrw (I (z + 83) i) v3), R, w), ?_, k82 h4, ?_, ?_⟩
        · simp [f_X11_set, isSh, wi1 c1, gR_t, kz0 h4, rz0_0 h4, aR_t (kz1 h4) hi8, rzS h4 hi8, cK_t, kS, miss_X h4 hi8, c2', has_X h4 hi8, hs_1, g2, m2, wi1 c4, put_X h4 hi8 m1 (g2.trans m2) hj, fine_X h4, g1, c2]
        · have e83 : up2 (up2 (up2 (up2 I (z + (67 + 2 * i)) j (nrw (I (z + 83) i) v3)) z 6 0) (z + 82) 0 0) (z + 82) 1 0 (z + 83) i = I (z + 83) i := ev (ev (ev0 (ev rfl (by omega)) (by omega)) (by omega)) (by omega)
          have e84 : up2 (up2 (up2 (up2 I (z + (67 + 2 * i)) j (nrw (I (z + 83) i) v3)) z 6 0) (z + 82) 0 0) (z + 82) 1 0 (z + 84) i = nI m := ev (ev (ev0 (ev m2 (by omega)) (by omega)) (by omega)) (by omega)
          have hb : ∀ (q : Int32) (H : Nat → Nat → Int32), b_X12_set_99 (some (z + 82)) (nI i) (nI j) (some (z + 85)) (nI (40 * i + j)) q (K, H, R, w) = some (q, K, up2 H (z + 85) (40 * i + j) q, R, w) := fun q H => by
            simp [b_X12_set_99, sI_t (kz85 h4) (show 40 * i + j < 320 by omega), nar14, gR_t, kz82 h4, rz82_4 h4, ix40, aI_t (kz85 h4) (show 40 * i + j < 320 by omega), up2_self]
          by_cases l0 : I (z + 83) i = 0
          · have en : nrw (I (z + 83) i) v3 = v3.toInt8.toInt32 := by simp [nrw, l0]
            simp only [f_X12_set, isShM, wi1 c1, pI_t (k82 h4), gR_t (k82 h4), rz82_2 h4, rz82_3 h4, rz82_4 h4, aI_t (kz83 h4) hi8 (by decide), aI_t (kz84 h4) hi8 (by decide), Option.bind_some, e83, e84, in_0, wi1 c4, i10, if_false, if_pos c3, ix40, if_pos l0]
            rw [← en, hb]
          · by_cases l1 : I (z + 83) i = 1
            · have en : nrw (I (z + 83) i) v3 = v3.toInt16.toInt32 := by simp [nrw, l1]
              simp only [f_X12_set, isShM, wi1 c1, pI_t (k82 h4), gR_t (k82 h4), rz82_2 h4, rz82_3 h4, rz82_4 h4, aI_t (kz83 h4) hi8 (by decide), aI_t (kz84 h4) hi8 (by decide), Option.bind_some, e83, e84, in_0, wi1 c4, i10, if_false, if_pos c3, ix40, if_neg l0, if_pos l1]
              rw [← en, hb]
            · have en : nrw (I (z + 83) i) v3 = v3 := by simp [nrw, l0, l1]
              simp only [f_X12_set, isShM, wi1 c1, pI_t (k82 h4), gR_t (k82 h4), rz82_2 h4, rz82_3 h4, rz82_4 h4, aI_t (kz83 h4) hi8 (by decide), aI_t (kz84 h4) hi8 (by decide), Option.bind_some, e83, e84, in_0, wi1 c4, i10, if_false, if_pos c3, ix40, if_neg l0, if_neg l1]
              have := hb (nrw (I (z + 83) i) v3) (up2 (up2 (up2 (up2 I (z + (67 + 2 * i)) j (nrw (I (z + 83) i) v3)) z 6 0) (z + 82) 0 0) (z + 82) 1 0)
              rw [en] at this ⊢
              exact this
        · have hf : ∀ o l, fpNS o l → ¬ (o = 0 ∧ l = 6) ∧ ¬ (o = 82 ∧ l = 0) ∧ ¬ (o = 82 ∧ l = 1) ∧ ¬ o = 85 ∧ ¬ o = 67 + 2 * i := by
            intro o l q; unfold fpNS fpStrokes fpPlan fpBest fpRules fpZones fpShow fpCues fpTrace at q; omega
          refine hR.sheets ?_ (h7.one hi8 ?_ ⟨?_, ?_, ?_, ?_, ?_⟩) ?_
          · have a1 : up2 (up2 (up2 (up2 (up2 I (z + (67 + 2 * i)) j (nrw (I (z + 83) i) v3)) z 6 0) (z + 82) 0 0) (z + 82) 1 0) (z + 85) (40 * i + j) (nrw (I (z + 83) i) v3) z 6 = 0 := evz (evz (evz (up2_self _ _ _ _) (by omega)) (by omega)) (by omega)
            rw [a1]
            exact (ev es (by omega)).symm
          · exact ((((Fr.rf.up (by intro o l q; unfold fpS1 at q; omega)).up0 (by intro o l q; unfold fpS1 at q; omega)).up (by intro o l q; unfold fpS1 at q; omega)).up (by intro o l q; unfold fpS1 at q; omega)).up (by intro o l q; unfold fpS1 at q; omega)
          · refine (ev (ev (ev (ev0 (ev g1 (by omega)) (by omega)) (by omega)) (by omega)) (by omega)).trans ?_
            exact (ev (ev (ev (ev0 (ev rfl (by omega)) (by omega)) (by omega)) (by omega)) (by omega)).symm
          · refine (ev (ev (ev (ev0 (ev g2 (by omega)) (by omega)) (by omega)) (by omega)) (by omega)).trans ?_
            exact (ev (ev (ev (ev0 (ev rfl (by omega)) (by omega)) (by omega)) (by omega)) (by omega)).symm
          · have a1 : up2 (up2 (up2 (up2 (up2 I (z + (67 + 2 * i)) j (nrw (I (z + 83) i) v3)) z 6 0) (z + 82) 0 0) (z + 82) 1 0) (z + 85) (40 * i + j) (nrw (I (z + 83) i) v3) (z + 83) i = I (z + 83) i := ev (ev (ev (ev0 (ev rfl (by omega)) (by omega)) (by omega)) (by omega)) (by omega)
            rw [a1]; exact g3
          · exact ⟨m, m1, ev (ev (ev (ev0 (ev m2 (by omega)) (by omega)) (by omega)) (by omega)) (by omega)⟩
          · intro q hq
            by_cases ej : q = j
            · subst ej
              rw [es]
              exact ev (ev (ev (ev0 es (by omega)) (by omega)) (by omega)) (by omega)
            · refine (ev (ev (ev (ev0 (ev (g5 q hq) (by omega)) (by omega)) (by omega)) (by omega)) (by omega)).trans ?_
              exact (ev (ev (ev (ev0 (ev rfl (by omega)) (by omega)) (by omega)) (by omega)) (by omega)).symm
          · exact ((((Fr.rf.up (fun o l q => by have := hf o l q; omega)).up0 (fun o l q => by have := hf o l q; omega)).up (fun o l q => by have := hf o l q; omega)).up (fun o l q => by have := hf o l q; omega)).up (fun o l q => by have := hf o l q; omega)
      · refine ⟨-1000012, (K, up2 I z 6 2, R, w), (K, up2 (up2 (up2 (up2 I z 6 2) (z + 82) 0 0) (z + 82) 1 0) (z + 82) 1 2, R, w), ?_, k82 h4, ?_, hR.fnd 2⟩
        · simp [f_X11_set, isSh, wi1 c1, gR_t, kz0 h4, rz0_0 h4, aR_t (kz1 h4) hi8, rzS h4 hi8, cK_t, kS, miss_X h4 hi8, c2', has_X h4 hi8, hs_1, g2, m2, wi0 c4, found_X h4]
        · have e83 : up2 (up2 (up2 I z 6 2) (z + 82) 0 0) (z + 82) 1 0 (z + 83) i = I (z + 83) i := ev (ev (ev0 rfl (by omega)) (by omega)) (by omega)
          have e84 : up2 (up2 (up2 I z 6 2) (z + 82) 0 0) (z + 82) 1 0 (z + 84) i = nI m := ev (ev (ev0 m2 (by omega)) (by omega)) (by omega)
          simp [f_X12_set, isShM, wi1 c1, pI_t, gR_t, kz82 h4, rz82_2 h4, rz82_3 h4, aI_t (kz83 h4) hi8, aI_t (kz84 h4) hi8, e83, e84, c3, in_0, wi0 c4, cK_t, found_M h4]
  · refine ⟨-1000001, (K, I, R, w), (K, up2 I (z + 82) 0 0, R, w), ?_, k82 h4, ?_, hR.thr 0⟩
    · simp [f_X11_set, isSh, wi0 c1]
    · simp [f_X12_set, isShM, wi0 c1, pI_t, kz82 h4]
end O3
