section O2
variable {z : Nat} {K : Nat → Nat × Nat} {I J : Nat → Nat → Int32} {R : Nat → Nat → Option Nat} {w : Nat}
theorem Fr.rf {fp : Nat → Nat → Prop} : Fr fp z I I := fun _ _ _ => rfl
theorem Fr.up {fp : Nat → Nat → Prop} (e : Fr fp z I J) {a k : Nat} {v : Int32} (hn : ∀ o l, fp o l → o ≠ a ∨ l ≠ k) : Fr fp z I (up2 J (z + a) k v) := by
  intro o l q
  rw [up2_ne _ _ (by have := hn o l q; omega)]
  exact e o l q
theorem Fr.up0 {fp : Nat → Nat → Prop} (e : Fr fp z I J) {k : Nat} {v : Int32} (hn : ∀ o l, fp o l → o ≠ 0 ∨ l ≠ k) : Fr fp z I (up2 J z k v) := Fr.up (a := 0) e hn
/-- a row is laid anew -/
theorem Fr.row {fp : Nat → Nat → Prop} (e : Fr fp z I J) {a : Nat} {f : Nat → Int32} (hn : ∀ o l, fp o l → o ≠ a) : Fr fp z I (va_up J (z + a) f) := by
  intro o l q
  rw [va_up_ne _ _ (by have := hn o l q; omega)]
  exact e o l q
theorem ev {o k a l : Nat} {v x : Int32} (e : J (z + o) k = x) (hn : o ≠ a ∨ k ≠ l) : up2 J (z + a) l v (z + o) k = x := by
  rw [up2_ne _ _ (by omega)]; exact e
theorem ev0 {o k l : Nat} {v x : Int32} (e : J (z + o) k = x) (hn : o ≠ 0 ∨ k ≠ l) : up2 J z l v (z + o) k = x := ev (a := 0) e hn
theorem evz {k a l : Nat} {v x : Int32} (e : J z k = x) (hn : 0 ≠ a ∨ k ≠ l) : up2 J (z + a) l v z k = x := ev (o := 0) e hn
theorem es {a l : Nat} {v : Int32} : up2 J (z + a) l v (z + a) l = v := up2_self _ _ _ _
/-- all parts but the sheets and the status -/
def fpNS (o k : Nat) : Prop := fpStrokes o k ∨ fpPlan o k ∨ fpBest o k ∨ fpRules o k ∨ fpZones o k ∨ fpShow o k ∨ fpCues o k ∨ fpTrace o k
theorem Rel.sheets (hR : Rel z (K, I, R, w)) (hst : J z 6 = J (z + 82) 1) (hsh : RSheets z J) (e : Fr fpNS z I J) : Rel z (K, J, R, w) := by
  obtain ⟨h, h1, h2, h3, h4, h5, h6, h7, h8, h9, h10, h11, h12, h13, h14, h15⟩ := hR.opn
  exact Rel.mk (h := h) ⟨h1, h2, h3, h4, h5, hst, hsh, h8.fr fun o k q => e o k (by unfold fpNS; simp [q]), h9.fr fun o k q => e o k (by unfold fpNS; simp [q]), h10.fr fun o k q => e o k (by unfold fpNS; simp [q]), h11.fr fun o k q => e o k (by unfold fpNS; simp [q]), h12.fr fun o k q => e o k (by unfold fpNS; simp [q]), h13.fr fun o k q => e o k (by unfold fpNS; simp [q]), h14.fr fun o k q => e o k (by unfold fpNS; simp [q]), h15.fr fun o k q => e o k (by unfold fpNS; simp [q])⟩
/-- the sheets but one -/
def fpS1 (i : Nat) (o k : Nat) : Prop := (66 ≤ o ∧ o < 82 ∧ o ≠ 66 + 2 * i ∧ o ≠ 67 + 2 * i) ∨ (o = 83 ∧ k ≠ i) ∨ (o = 84 ∧ k ≠ i) ∨ (o = 85 ∧ (k < 40 * i ∨ 40 * i + 40 ≤ k))
theorem RSheets.one (hr : RSheets z I) {i0 : Nat} (hi0 : i0 < 8) (e : Fr (fpS1 i0) z I J) (hn : J (z + (66 + 2 * i0)) 1 = J (z + 83) i0 ∧ J (z + (66 + 2 * i0)) 2 = J (z + 84) i0 ∧ (J (z + 83) i0 = -1 ∨ J (z + 83) i0 = 0 ∨ J (z + 83) i0 = 1 ∨ J (z + 83) i0 = 2) ∧ (∃ n, n ≤ 40 ∧ J (z + 84) i0 = nI n) ∧ ∀ j, j < 40 → J (z + (67 + 2 * i0)) j = J (z + 85) (40 * i0 + j)) : RSheets z J := by
  intro i hi
  by_cases hne : i = i0
  · subst hne; exact hn
  · obtain ⟨h1, h2, h3, h4, h5⟩ := hr i hi
    rw [e (66 + 2 * i) 1 (by unfold fpS1; omega), e (66 + 2 * i) 2 (by unfold fpS1; omega), e 83 i (by unfold fpS1; omega), e 84 i (by unfold fpS1; omega)]
    refine ⟨h1, h2, h3, h4, fun j hj => ?_⟩
    rw [e (67 + 2 * i) j (by unfold fpS1; omega), e 85 (40 * i + j) (by unfold fpS1; omega)]
    exact h5 j hj
theorem lane_neg {v : Int32} (h : v = -1 ∨ v = 0 ∨ v = 1 ∨ v = 2) : (0 ≤ v) ↔ ¬ v = -1 := by
  rcases h with rfl | rfl | rfl | rfl <;> decide
theorem found_X (hS : Shp z K R) (n : Int32) : f_X11_found (some z) n (K, I, R, w) = some (-1000010 - n, K, up2 I z 6 n, R, w) := by
  simp [f_X11_found, pI_t, kz0 hS]
theorem found_M (hS : Shp z K R) (n : Int32) : f_X12_found (some (z + 82)) n (K, I, R, w) = some (-1000010 - n, K, up2 I (z + 82) 1 n, R, w) := by
  simp [f_X12_found, pI_t, kz82 hS]
theorem fine_X (hS : Shp z K R) (n : Int32) : f_X11_fine (some z) n (K, I, R, w) = some (n, K, up2 I z 6 0, R, w) := by
  simp [f_X11_fine, pI_t, kz0 hS]
theorem miss_X (hS : Shp z K R) {i : Nat} (hi : i < 8) : f_X5_isMissing (some (z + (66 + 2 * i))) (K, I, R, w) = some (if I (z + (66 + 2 * i)) 1 = -1 then 1 else 0, K, I, R, w) := by
  simp only [f_X5_isMissing, gI_t (show (K (z + (66 + 2 * i))).1 = 5 + 1 by rw [kzS hS hi]), Option.bind_some]
  split <;> rfl
/-- found: only the status and what nobody looks at change -/
theorem Rel.fnd (hR : Rel z (K, I, R, w)) (n : Int32) : Rel z (K, up2 (up2 (up2 (up2 I z 6 n) (z + 82) 0 0) (z + 82) 1 0) (z + 82) 1 n, R, w) := by
  obtain ⟨h, h1, h2, h3, h4, h5, h6, h7, -⟩ := hR.opn
  refine hR.sheets ?_ (h7.fr ?_) ?_
  · rw [es]; exact evz (evz (evz (up2_self _ _ _ _) (by omega)) (by omega)) (by omega)
  · exact (((Fr.rf.up0 (by intro o l q; unfold fpSheets at q; omega)).up (by intro o l q; unfold fpSheets at q; omega)).up (by intro o l q; unfold fpSheets at q; omega)).up (by intro o l q; unfold fpSheets at q; omega)
  · have hf : ∀ o l, fpNS o l → ¬ (o = 0 ∧ l = 6) ∧ ¬ (o = 82 ∧ l = 0) ∧ ¬ (o = 82 ∧ l = 1) := by
      intro o l q; unfold fpNS fpStrokes fpPlan fpBest fpRules fpZones fpShow fpCues fpTrace at q; omega
    exact (((Fr.rf.up0 (fun o l q => by have := hf o l q; omega)).up (fun o l q => by have := hf o l q; omega)).up (fun o l q => by have := hf o l q; omega)).up (fun o l q => by have := hf o l q; omega)
theorem agr_drop (v1 : Int32) : Agr (Rel z) z (f_X11_drop (some z) v1) (f_X12_drop (some (z + 82)) v1) := by
  rintro ⟨K, I, R, w⟩ hR
  obtain ⟨h, h1, h2, h3, h4, h5, h6, h7, -⟩ := hR.opn
  by_cases c1 : 0 ≤ v1 ∧ v1 ≤ 7
  · obtain ⟨i, hi, rfl⟩ := ix_le (n := 7) (by decide) c1
    have hi8 : i < 8 := by omega
    obtain ⟨g1, g2, g3, g4, g5⟩ := h7 i hi8
    have kS := kzS h4 hi8
    by_cases c2 : I (z + 83) i = -1
    · have c3 : ¬ 0 ≤ I (z + 83) i := fun q => (lane_neg g3).mp q c2
      have c2' : I (z + (66 + 2 * i)) 1 = -1 := g1.trans c2
      refine ⟨-1000011, (K, up2 I z 6 1, R, w), (K, up2 (up2 (up2 (up2 I z 6 1) (z + 82) 0 0) (z + 82) 1 0) (z + 82) 1 1, R, w), ?_, k82 h4, ?_, hR.fnd 1⟩
      · simp [f_X11_drop, isSh, wi1 c1, gR_t, kz0 h4, rz0_0 h4, aR_t (kz1 h4) hi8, rzS h4 hi8, cK_t, kS, miss_X h4 hi8, c2', found_X h4]
      · have e83 : up2 (up2 (up2 I z 6 1) (z + 82) 0 0) (z + 82) 1 0 (z + 83) i = I (z + 83) i := ev (ev (ev0 rfl (by omega)) (by omega)) (by omega)
        simp [f_X12_drop, isShM, wi1 c1, pI_t, gR_t, kz82 h4, rz82_2 h4, aI_t (kz83 h4) hi8, e83, c3, cK_t, found_M h4]
    · have c3 : 0 ≤ I (z + 83) i := (lane_neg g3).mpr c2
      have c2' : ¬ I (z + (66 + 2 * i)) 1 = -1 := fun q => c2 (g1.symm.trans q)
      refine ⟨I (z + 84) i, (K, up2 (up2 I (z + (66 + 2 * i)) 1 (-1)) z 6 0, R, w), (K, up2 (up2 (up2 (up2 (up2 I (z + (66 + 2 * i)) 1 (-1)) z 6 0) (z + 82) 0 0) (z + 82) 1 0) (z + 83) i (-1), R, w), ?_, k82 h4, ?_, ?_⟩
      · have e2 : up2 I (z + (66 + 2 * i)) 1 (-1) (z + (66 + 2 * i)) 2 = I (z + 84) i := ev g2 (by omega)
        simp [f_X11_drop, isSh, wi1 c1, gR_t, gI_t, pI_t, kz0 h4, rz0_0 h4, aR_t (kz1 h4) hi8, rzS h4 hi8, cK_t, kS, miss_X h4 hi8, c2', fine_X h4, e2]
      · have e83 : up2 (up2 (up2 (up2 I (z + (66 + 2 * i)) 1 (-1)) z 6 0) (z + 82) 0 0) (z + 82) 1 0 (z + 83) i = I (z + 83) i := ev (ev (ev0 (ev rfl (by omega)) (by omega)) (by omega)) (by omega)
        have e84 : up2 (up2 (up2 (up2 (up2 I (z + (66 + 2 * i)) 1 (-1)) z 6 0) (z + 82) 0 0) (z + 82) 1 0) (z + 83) i (-1) (z + 84) i = I (z + 84) i := ev (ev (ev (ev0 (ev rfl (by omega)) (by omega)) (by omega)) (by omega)) (by omega)
        simp [f_X12_drop, isShM, wi1 c1, pI_t, gR_t, kz82 h4, rz82_2 h4, rz82_3 h4, aI_t (kz83 h4) hi8, sI_t (kz83 h4) hi8, aI_t (kz84 h4) hi8, nar14, e83, c3, e84]
      · have hf : ∀ o l, fpNS o l → ¬ (o = 0 ∧ l = 6) ∧ ¬ (o = 82 ∧ l = 0) ∧ ¬ (o = 82 ∧ l = 1) ∧ ¬ o = 83 ∧ ¬ o = 66 + 2 * i := by
          intro o l q; unfold fpNS fpStrokes fpPlan fpBest fpRules fpZones fpShow fpCues fpTrace at q; omega
        refine hR.sheets ?_ (h7.one hi8 ?_ ⟨?_, ?_, ?_, ?_, ?_⟩) ?_
        · have a1 : up2 (up2 (up2 (up2 (up2 I (z + (66 + 2 * i)) 1 (-1)) z 6 0) (z + 82) 0 0) (z + 82) 1 0) (z + 83) i (-1) z 6 = 0 := evz (evz (evz (up2_self _ _ _ _) (by omega)) (by omega)) (by omega)
          have a2 : up2 (up2 (up2 (up2 (up2 I (z + (66 + 2 * i)) 1 (-1)) z 6 0) (z + 82) 0 0) (z + 82) 1 0) (z + 83) i (-1) (z + 82) 1 = 0 := ev es (by omega)
          rw [a1, a2]
        · exact ((((Fr.rf.up (by intro o l q; unfold fpS1 at q; omega)).up0 (by intro o l q; unfold fpS1 at q; omega)).up (by intro o l q; unfold fpS1 at q; omega)).up (by intro o l q; unfold fpS1 at q; omega)).up (by intro o l q; unfold fpS1 at q; omega)
        · rw [es]; exact ev (ev (ev (ev0 es (by omega)) (by omega)) (by omega)) (by omega)
        · have a1 : up2 (up2 (up2 (up2 (up2 I (z + (66 + 2 * i)) 1 (-1)) z 6 0) (z + 82) 0 0) (z + 82) 1 0) (z + 83) i (-1) (z + 84) i = I (z + 84) i := ev (ev (ev (ev0 (ev rfl (by omega)) (by omega)) (by omega)) (by omega)) (by omega)
          rw [a1]
          exact ev (ev (ev (ev0 (ev g2 (by omega)) (by omega)) (by omega)) (by omega)) (by omega)
        · exact Or.inl es
        · obtain ⟨n, n1, n2⟩ := g4
          exact ⟨n, n1, ev (ev (ev (ev0 (ev n2 (by omega)) (by omega)) (by omega)) (by omega)) (by omega)⟩
        · intro j hj
          have a1 : up2 (up2 (up2 (up2 (up2 I (z + (66 + 2 * i)) 1 (-1)) z 6 0) (z + 82) 0 0) (z + 82) 1 0) (z + 83) i (-1) (z + 85) (40 * i + j) = I (z + 85) (40 * i + j) := ev (ev (ev (ev0 (ev rfl (by omega)) (by omega)) (by omega)) (by omega)) (by omega)
          rw [a1]
          exact ev (ev (ev (ev0 (ev (g5 j hj) (by omega)) (by omega)) (by omega)) (by omega)) (by omega)
        · exact ((((Fr.rf.up (fun o l q => by have := hf o l q; omega)).up0 (fun o l q => by have := hf o l q; omega)).up (fun o l q => by have := hf o l q; omega)).up (fun o l q => by have := hf o l q; omega)).up (fun o l q => by have := hf o l q; omega)
  · refine ⟨-1000001, (K, I, R, w), (K, up2 I (z + 82) 0 0, R, w), ?_, k82 h4, ?_, hR.thr 0⟩
    · simp [f_X11_drop, isSh, wi0 c1]
    · simp [f_X12_drop, isShM, wi0 c1, pI_t, kz82 h4]
end O2
