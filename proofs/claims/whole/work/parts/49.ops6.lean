section O6
variable {z h : Nat} {K : Nat → Nat × Nat} {I J : Nat → Nat → Int32} {R : Nat → Nat → Option Nat} {w : Nat}
theorem un_1 {o k a l : Nat} {v : Int32} (hn : o ≠ a ∨ k ≠ l) : up2 J (z + a) l v (z + o) k = J (z + o) k := ev rfl hn
theorem un_2 {o k l : Nat} {v : Int32} (hn : o ≠ 0 ∨ k ≠ l) : up2 J z l v (z + o) k = J (z + o) k := ev0 rfl hn
theorem un_3 {k a l : Nat} {v : Int32} (hn : 0 ≠ a ∨ k ≠ l) : up2 J (z + a) l v z k = J z k := evz rfl hn
theorem un_4 {k l : Nat} {v : Int32} (hn : k ≠ l) : up2 J z l v z k = J z k := up2_ne _ _ (Or.inr hn)
/-- the invariant again, part by part -/
theorem Rel.asm (hR : Rel z (K, I, R, w)) (st : J z 6 = J (z + 82) 1) (sh : Fr fpSheets z I J ∨ RSheets z J) (sk : Fr fpStrokes z I J) (pl : Fr fpPlan z I J ∨ ∀ h, RStrokes z h K I R → RPlan z h I → RPlan z h J) (be : Fr fpBest z I J ∨ ∀ h, h ≤ 8 → RStrokes z h K I R → RBest z h I → RBest z h J) (ru : Fr fpRules z I J ∨ RRules z J) (zo : Fr fpZones z I J ∨ RZones z J) (sw : Fr fpShow z I J ∨ ∀ h, h ≤ 8 → RStrokes z h K I R → RPlan z h I → RShow z h I → RShow z h J) (cu : Fr fpCues z I J ∨ RCues z J R) (tr : Fr fpTrace z I J ∨ RTrace z J) : Rel z (K, J, R, w) := by
  obtain ⟨h, h1, h2, h3, h4, h5, h6, h7, h8, h9, h10, h11, h12, h13, h14, h15⟩ := hR.opn
  exact Rel.mk (h := h) ⟨h1, h2, h3, h4, h5, st, sh.elim h7.fr id, h8.fr sk, pl.elim h9.fr (fun f => f h h8 h9), be.elim h10.fr (fun f => f h h1 h8 h10), ru.elim h11.fr id, zo.elim h12.fr id, sw.elim h13.fr (fun f => f h h1 h8 h9 h13), cu.elim h14.fr id, tr.elim h15.fr id⟩
theorem i1000 : (1000 : Int32).toInt = 1000 := by decide
theorem i0_0 : (0 : Int32).toInt = 0 := by decide
theorem agr_zone (v1 v2 v3 v4 v5 : Int32) : Agr (Rel z) z (f_X11_zone (some z) v1 v2 v3 v4 v5) (f_X12_zone (some (z + 82)) v1 v2 v3 v4 v5) := by
  rintro ⟨K, I, R, w⟩ hR
  obtain ⟨h, h1, h2, h3, h4, h5, h6, h7, h8, h9, h10, h11, h12, h13, h14, h15⟩ := hR.opn
  by_cases c1 : 0 ≤ v1 ∧ v1 ≤ 3
  · obtain ⟨i, hi, rfl⟩ := ix_le (n := 3) (by decide) c1
    have hi4 : i < 4 := by omega
    have n0 : ¬ nI i < 0 := nI_pos (by omega)
    have n4 : ¬ (4 : Int32) ≤ nI i := nI_ge (b := 4) hi4 (by decide)
    by_cases w1 : 0 ≤ v2 ∧ v2 ≤ 1000
    · by_cases w2 : 0 ≤ v3 ∧ v3 ≤ 1000
      · by_cases w3 : v2 ≤ v4 ∧ v4 ≤ 1000
        · by_cases w4 : v3 ≤ v5 ∧ v5 ≤ 1000
          · obtain ⟨A, hA⟩ : ∃ A, A = up2 (up2 (up2 (up2 (up2 I (z + (31 + i)) 0 v2) (z + (31 + i)) 1 v3) (z + (31 + i)) 2 v4) (z + (31 + i)) 3 v5) (z + 35) i 1 := ⟨_, rfl⟩
            obtain ⟨B, hB⟩ : ∃ B, B = up2 A (z + 10) 12 (if 2 < A (z + 10) 12 then 2 else A (z + 10) 12) := ⟨_, rfl⟩
            refine ⟨1, (K, B, R, w), (K, up2 (up2 (up2 (up2 (up2 (up2 B (z + 82) 0 0) (z + 93) i 1) (z + 94) (4 * i) v2) (z + 94) (4 * i + 1) v3) (z + 94) (4 * i + 2) v4) (z + 94) (4 * i + 3) v5, R, w), ?_, k82 h4, ?_, ?_⟩
            · have a0 : ∀ (H : Nat → Nat → Int32) v, sI (K, H, R, w) (some (z + (31 + i))) 14 0 v = some (K, up2 H (z + (31 + i)) 0 v, R, w) := fun H v => sI_t (j := 0) (kzR h4 hi4) (by decide) (by decide)
              have a1 : ∀ (H : Nat → Nat → Int32) v, sI (K, H, R, w) (some (z + (31 + i))) 14 1 v = some (K, up2 H (z + (31 + i)) 1 v, R, w) := fun H v => sI_t (j := 1) (kzR h4 hi4) (by decide) (by decide)
              have a2 : ∀ (H : Nat → Nat → Int32) v, sI (K, H, R, w) (some (z + (31 + i))) 14 2 v = some (K, up2 H (z + (31 + i)) 2 v, R, w) := fun H v => sI_t (j := 2) (kzR h4 hi4) (by decide) (by decide)
              have a3 : ∀ (H : Nat → Nat → Int32) v, sI (K, H, R, w) (some (z + (31 + i))) 14 3 v = some (K, up2 H (z + (31 + i)) 3 v, R, w) := fun H v => sI_t (j := 3) (kzR h4 hi4) (by decide) (by decide)
              simp [f_X11_zone, isZo, wi1 c1, Int32.not_lt.mpr w1.1, Int32.not_lt.mpr w2.1, Int32.not_lt.mpr w3.1, Int32.not_lt.mpr w4.1, Int32.not_lt.mpr w3.2, w4.2, gR_t, kz0 h4, rz0_3 h4, cK_t, kz10 h4, f_X6_shutZone, n0, n4, rz10_10 h4, rz10_11 h4, aR_t (kz30 h4) hi4, rzR h4 hi4, a0, a1, a2, a3, sI_t (kz35 h4) hi4, narZ1, ends_X h4, hB, hA]
            · have b0 : ∀ (H : Nat → Nat → Int32) c, c < 4 → ∀ v, sI (K, H, R, w) (some (z + 94)) 14 (nI (4 * i + c)) v = some (K, up2 H (z + 94) (4 * i + c) v, R, w) := fun H c hc v => sI_t (kz94 h4) (by omega) (by decide)
              have bz : ∀ (H : Nat → Nat → Int32) v, sI (K, H, R, w) (some (z + 94)) 14 (nI (4 * i)) v = some (K, up2 H (z + 94) (4 * i) v, R, w) := fun H v => sI_t (kz94 h4) (by omega) (by decide)
              have m1 : nI (4 * i) + 1 = nI (4 * i + 1) := nI_add _ 1
              have m2 : nI (4 * i) + 2 = nI (4 * i + 2) := nI_add _ 2
              have m3 : nI (4 * i) + 3 = nI (4 * i + 3) := nI_add _ 3
              simp only [f_X12_zone, pI_t (k82 h4), Option.bind_some, in_03, wi1 c1, i10, if_false, in_01000, wi1 w1, wi1 w2, in_k, wi1 w3, wi1 w4, gR_t (k82 h4), rz82_13 h4, rz82_14 h4, sI_t (kz93 h4) hi4 (by decide), narZ1, ix4, m1, m2, m3, bz, nar14, b0 _ 1 (by decide), b0 _ 2 (by decide), b0 _ 3 (by decide)]
            · obtain ⟨D, hD⟩ : ∃ D, D = up2 (up2 (up2 (up2 (up2 (up2 B (z + 82) 0 0) (z + 93) i 1) (z + 94) (4 * i) v2) (z + 94) (4 * i + 1) v3) (z + 94) (4 * i + 2) v4) (z + 94) (4 * i + 3) v5 := ⟨_, rfl⟩
              rw [← hD]
              have fA : ∀ fp : Nat → Nat → Prop, (∀ o q, fp o q → ¬ (o = 35 ∧ q = i) ∧ ¬ (o = 10 ∧ q = 12) ∧ ¬ (o = 82 ∧ q = 0) ∧ ¬ (o = 93 ∧ q = i) ∧ ¬ (o = 94 ∧ 4 * i ≤ q ∧ q < 4 * i + 4) ∧ ¬ (o = 31 + i)) → Fr fp z I D := by
                intro fp hq o q p
                have := hq o q p
                rw [hD, hB, hA]
                simp (disch := omega) only [un_1, un_2, un_3, un_4, es, up2_self]
              refine hR.asm ?_ (Or.inl (fA fpSheets (by intro o q p; unfold fpSheets at p; omega))) (fA fpStrokes (by intro o q p; unfold fpStrokes at p; omega)) (Or.inl (fA fpPlan (by intro o q p; unfold fpPlan at p; omega))) (Or.inl (fA fpBest (by intro o q p; unfold fpBest at p; omega))) (Or.inl (fA fpRules (by intro o q p; unfold fpRules at p; omega))) (Or.inr (h12.one (i0 := i) ?_ ⟨?_, ?_, ?_⟩)) (Or.inr fun h _ _ _ hs => hs.cut 2 ?_ (by omega) (fun _ => (fA fpP (by intro o q p; unfold fpP fpT at p; omega))) (fun _ => (fA fpM (by intro o q p; unfold fpM fpT at p; omega))) (fun q => absurd q (by omega))) (Or.inl (fA fpCues (by intro o q p; unfold fpCues at p; omega))) (Or.inl (fA fpTrace (by intro o q p; unfold fpTrace at p; omega)))
              · rw [hD, hB, hA]; simp (disch := omega) only [un_1, un_2, un_3, un_4, es, up2_self]; exact h6
              · exact fA _ (by intro o q p; unfold fpZ1 at p; omega)
              · rw [hD, hB, hA]; simp (disch := omega) only [un_1, un_2, un_3, un_4, es, up2_self]
              · rw [hD, hB, hA]; simp (disch := omega) only [un_1, un_2, un_3, un_4, es, up2_self]; exact Or.inr trivial
              · intro c hc
                rw [hD, hB, hA]
                rcases (show c = 0 ∨ c = 1 ∨ c = 2 ∨ c = 3 by omega) with rfl | rfl | rfl | rfl
                · simp (disch := omega) only [Nat.add_zero, un_1, un_2, un_3, un_4, es, up2_self]
                · simp (disch := omega) only [un_1, un_2, un_3, un_4, es, up2_self]
                · simp (disch := omega) only [un_1, un_2, un_3, un_4, es, up2_self]
                · simp (disch := omega) only [un_1, un_2, un_3, un_4, es, up2_self]
              · rw [hD, hB]
                simp (disch := omega) only [un_1, un_2, un_3, un_4, es, up2_self]
                rw [hA]
                simp (disch := omega) only [un_1, un_2, un_3, un_4, es, up2_self]
                rfl
          · refine ⟨-1000001, (K, I, R, w), (K, up2 I (z + 82) 0 0, R, w), ?_, k82 h4, ?_, hR.thr 0⟩
            · by_cases q : v5 < v3
              · simp [f_X11_zone, isZo, wi1 c1, Int32.not_lt.mpr w1.1, Int32.not_lt.mpr w2.1, Int32.not_lt.mpr w3.1, Int32.not_lt.mpr w3.2, q]
              · have q2 : ¬ v5 ≤ 1000 := fun q2 => w4 ⟨Int32.not_lt.mp q, q2⟩
                simp [f_X11_zone, isZo, wi1 c1, Int32.not_lt.mpr w1.1, Int32.not_lt.mpr w2.1, Int32.not_lt.mpr w3.1, Int32.not_lt.mpr w3.2, q, q2]
            · simp [f_X12_zone, in_03, wi1 c1, pI_t, kz82 h4, in_01000, wi1 w1, wi1 w2, in_k, wi1 w3, wi0 w4]
        · refine ⟨-1000001, (K, I, R, w), (K, up2 I (z + 82) 0 0, R, w), ?_, k82 h4, ?_, hR.thr 0⟩
          · by_cases q : v4 < v2
            · simp [f_X11_zone, isZo, wi1 c1, Int32.not_lt.mpr w1.1, q]
            · have q2 : 1000 < v4 := Int32.not_le.mp fun q2 => w3 ⟨Int32.not_lt.mp q, q2⟩
              simp [f_X11_zone, isZo, wi1 c1, Int32.not_lt.mpr w1.1, q, q2]
          · simp [f_X12_zone, in_03, wi1 c1, pI_t, kz82 h4, in_01000, wi1 w1, wi1 w2, in_k, wi0 w3]
      · refine ⟨-1000001, (K, I, R, w), (K, up2 I (z + 82) 0 0, R, w), ?_, k82 h4, ?_, hR.thr 0⟩
        · simp only [f_X11_zone, isZo, wi1 c1, Option.bind_some, i10, if_false]
          split
          · rfl
          split
          · rfl
          split
          · rfl
          split
          · rfl
          split
          · rfl
          split
          · rename_i q1 q2 q3 q4 q5 q6
            simp only [Int32.lt_iff_toInt_lt, Int32.le_iff_toInt_le, i1000, i0_0] at *
            omega
          · rfl
        · simp [f_X12_zone, in_03, wi1 c1, pI_t, kz82 h4, in_01000, wi1 w1, wi0 w2]
    · refine ⟨-1000001, (K, I, R, w), (K, up2 I (z + 82) 0 0, R, w), ?_, k82 h4, ?_, hR.thr 0⟩
      · simp only [f_X11_zone, isZo, wi1 c1, Option.bind_some, i10, if_false]
        split
        · rfl
        split
        · rfl
        split
        · rfl
        · rename_i q1 q2 q3
          simp only [Int32.lt_iff_toInt_lt, Int32.le_iff_toInt_le, i1000, i0_0] at *
          omega
      · simp [f_X12_zone, in_03, wi1 c1, pI_t, kz82 h4, in_01000, wi0 w1]
  · refine ⟨-1000001, (K, I, R, w), (K, up2 I (z + 82) 0 0, R, w), ?_, k82 h4, ?_, hR.thr 0⟩
    · simp [f_X11_zone, isZo, wi0 c1]
    · simp [f_X12_zone, in_03, wi0 c1, pI_t, kz82 h4]
end O6
