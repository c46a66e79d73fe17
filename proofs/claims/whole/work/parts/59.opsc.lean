section OC
variable {z h k n m t : Nat} {K : Nat → Nat × Nat} {I J : Nat → Nat → Int32} {R : Nat → Nat → Option Nat} {w : Nat}
-- copy
def pr (x : Int32) (c t : Nat) : Nat := if x = 0 then c - 1 - t else t
theorem pr_lt {x : Int32} {c t : Nat} (ht : t < c) : pr x c t < c := by unfold pr; split <;> omega
theorem pr_pr {x : Int32} {c t : Nat} (ht : t < c) : pr x c (pr x c t) = t := by unfold pr; split <;> omega
theorem pr_in {x : Int32} {c t u : Nat} (ht : t < c) (hu : u < c) (e : pr x c t = pr x c u) : t = u := by unfold pr at e; split at e <;> omega
theorem cpy_M (hS : Shp z K R) {a b i j c : Nat} {x : Int32} (ha : a < 8) (hb : b < 8) (hi : i + c ≤ 40) (hj : j + c ≤ 40) (hno : ∀ u t, u < t → t < c → 40 * a + (i + pr x c t) ≠ 40 * b + (j + pr x c u)) : ∀ fu k (J : Nat → Nat → Int32), k ≤ c → c < fu + k → ∃ D : Nat → Nat → Int32, b_X12_copy_143 fu (some (z + 82)) (nI a) (nI i) (nI b) (nI j) (nI c) x (nI k) (K, J, R, w) = some (nI c, K, D, R, w) ∧ (∀ t, k ≤ t → t < c → D (z + 85) (40 * b + (j + pr x c t)) = J (z + 85) (40 * a + (i + pr x c t))) ∧ (∀ q, (∀ t, k ≤ t → t < c → q ≠ 40 * b + (j + pr x c t)) → D (z + 85) q = J (z + 85) q) ∧ ∀ o q, o ≠ 85 → D (z + o) q = J (z + o) q := by
  intro fu
  induction fu with
  | zero => intro k J a b; omega
  | succ fu ih =>
    intro k J h1 h2
    rw [b_X12_copy_143]
    by_cases e : k = c
    · subst e
      rw [if_pos (nI_le (Nat.le_refl _) (by omega))]
      exact ⟨J, rfl, fun t a b => by omega, fun _ _ => rfl, fun _ _ _ => rfl⟩
    · have hk : k < c := by omega
      have p1 := pr_lt (x := x) hk
      rw [if_neg (nI_ge hk (by omega))]
      have hb' : (if x = 0 then b_X12_copy_167 (b_X12_copy_143 fu) (some (z + 82)) (nI a) (nI i) (nI b) (nI j) (nI c) x (nI k) (nI c - 1 - nI k) (K, J, R, w) else b_X12_copy_167 (b_X12_copy_143 fu) (some (z + 82)) (nI a) (nI i) (nI b) (nI j) (nI c) x (nI k) (nI k) (K, J, R, w)) = b_X12_copy_167 (b_X12_copy_143 fu) (some (z + 82)) (nI a) (nI i) (nI b) (nI j) (nI c) x (nI k) (nI (pr x c k)) (K, J, R, w) := by
        unfold pr
        by_cases q : x = 0
        · rw [if_pos q, if_pos q, show nI c - 1 = nI (c - 1) from sub_nn (b := 1) (by omega), sub_nn (by omega)]
        · rw [if_neg q, if_neg q]
      rw [hb']
      simp only [b_X12_copy_167, gR_t (k82 hS), rz82_4 hS, Option.bind_some, ix40, nI_add, Nat.add_assoc, aI_t (kz85 hS) (show 40 * a + (i + pr x c k) < 320 by omega) (by decide), sI_t (kz85 hS) (show 40 * b + (j + pr x c k) < 320 by omega) (by decide), nar14, lt1, nI_1]
      obtain ⟨D, r1, r2, r3, r4⟩ := ih (k + 1) (up2 J (z + 85) (40 * b + (j + pr x c k)) (J (z + 85) (40 * a + (i + pr x c k)))) (by omega) (by omega)
      refine ⟨D, r1, fun t t1 t2 => ?_, fun q hq => ?_, fun o q ho => ?_⟩
      · by_cases et : t = k
        · subst et
          rw [r3 _ (fun u u1 u2 q => by have := pr_in (x := x) hk u2 (by omega); omega)]
          simp (disch := omega) only [un_1, un_2, un_3, un_4, es, up2_self]
        · rw [r2 t (by omega) t2]
          have := hno k t (by omega) t2
          simp (disch := omega) only [un_1, un_2, un_3, un_4, es, up2_self]
      · rw [r3 q (fun u u1 u2 => hq u (by omega) u2)]
        have := hq k (Nat.le_refl _) hk
        simp (disch := omega) only [un_1, un_2, un_3, un_4, es, up2_self]
      · rw [r4 o q ho]
        simp (disch := omega) only [un_1, un_2, un_3, un_4, es, up2_self]
theorem agr_copy (v1 v2 v3 v4 v5 : Int32) : Agr (Rel z) z (f_X11_copy (some z) v1 v2 v3 v4 v5) (f_X12_copy (some (z + 82)) v1 v2 v3 v4 v5) := by
  rintro ⟨K, I, R, w⟩ hR
  obtain ⟨h, h1, h2, h3, h4, h5, h6, h7, h8, h9, h10, h11, h12, h13, h14, h15⟩ := hR.opn
  have kz : (K z).1 = 10 + 1 := by rw [kz0 h4]
  have hr := hR.thr 0
  by_cases c1 : 0 ≤ v1 ∧ v1 ≤ 7
  · by_cases c2 : 0 ≤ v3 ∧ v3 ≤ 7
    · obtain ⟨a, ha, rfl⟩ := ix_le (n := 7) (by decide) c1
      obtain ⟨b, hb, rfl⟩ := ix_le (n := 7) (by decide) c2
      have ha8 : a < 8 := by omega
      have hb8 : b < 8 := by omega
      have kA : (K (z + (66 + 2 * a))).1 = 5 + 1 := by rw [kzS h4 ha8]
      have kB : (K (z + (66 + 2 * b))).1 = 5 + 1 := by rw [kzS h4 hb8]
      obtain ⟨g1, g2, g3, ⟨m, m1, m2⟩, g5⟩ := h7 a ha8
      obtain ⟨g1', g2', g3', ⟨m', m1', m2'⟩, g5'⟩ := h7 b hb8
      have Xa : f_X11_copy (some z) (nI a) v2 (nI b) v4 v5 (K, I, R, w) = (if I (z + 83) a = -1 then b_X11_copy_49 (some z) (K, I, R, w) else if I (z + 83) b = -1 then b_X11_copy_49 (some z) (K, I, R, w) else if I (z + 83) a = I (z + 83) b then (if hs v2 v5 (nI m) = 0 then b_X11_copy_97 (some z) (K, I, R, w) else if hs v4 v5 (nI m') = 0 then b_X11_copy_97 (some z) (K, I, R, w) else (acp (K, I, R, w) (some (z + (67 + 2 * a))) v2 (some (z + (67 + 2 * b))) v4 v5).bind fun S22 => cK S22 (some z) 10 ((f_X11_fine (some z) v5 S22).bind fun o23 => some (o23.1, o23.2))) else some (-1000015, K, up2 I z 6 5, R, w)) := by
        simp only [f_X11_copy, isSh, wi1 c1, wi1 c2, i10, if_false, Option.bind_some, gR_t kz, rz0_0 h4, aR_t (kz1 h4) ha8 (by decide), aR_t (kz1 h4) hb8 (by decide), rzS h4 ha8, rzS h4 hb8, cK_t kA, cK_t kB, miss_X h4 ha8, miss_X h4 hb8, g1, g1', gI_t kA, gI_t kB, has_X h4 ha8, has_X h4 hb8, g2, g2', m2, m2', gR_t kA, gR_t kB, rzI h4 ha8, rzI h4 hb8, cK_t kz, found_X h4]
        by_cases q1 : I (z + 83) a = -1
        · simp [q1]
        · by_cases q2 : I (z + 83) b = -1
          · simp [q1, q2]
          · simp only [q1, q2, if_false, if_true]
            rfl
      have X49 : b_X11_copy_49 (some z) (K, I, R, w) = some (-1000011, K, up2 I z 6 1, R, w) := by
        simp only [b_X11_copy_49, cK_t kz, found_X h4, Option.bind_some]; rfl
      have X97 : b_X11_copy_97 (some z) (K, I, R, w) = some (-1000012, K, up2 I z 6 2, R, w) := by
        simp only [b_X11_copy_97, cK_t kz, found_X h4, Option.bind_some]; rfl
      have Ma : ∀ B : Nat → Nat → Int32, (∀ o q, o = 83 ∨ o = 84 → B (z + o) q = I (z + o) q) → f_X12_copy (some (z + 82)) (nI a) v2 (nI b) v4 v5 (K, B, R, w) = (if I (z + 83) a = -1 then b_X12_copy_45 (some (z + 82)) (K, up2 (up2 B (z + 82) 0 0) (z + 82) 1 0, R, w) else if I (z + 83) b = -1 then b_X12_copy_45 (some (z + 82)) (K, up2 (up2 B (z + 82) 0 0) (z + 82) 1 0, R, w) else if I (z + 83) a = I (z + 83) b then (if v2 < 0 then b_X12_copy_121 (some (z + 82)) (K, up2 (up2 B (z + 82) 0 0) (z + 82) 1 0, R, w) else if v4 < 0 then b_X12_copy_121 (some (z + 82)) (K, up2 (up2 B (z + 82) 0 0) (z + 82) 1 0, R, w) else if v5 < 0 then b_X12_copy_121 (some (z + 82)) (K, up2 (up2 B (z + 82) 0 0) (z + 82) 1 0, R, w) else if ¬ v2.toInt64 + v5.toInt64 ≤ (nI m).toInt64 then b_X12_copy_121 (some (z + 82)) (K, up2 (up2 B (z + 82) 0 0) (z + 82) 1 0, R, w) else if v4.toInt64 + v5.toInt64 ≤ (nI m').toInt64 then (if v2 < v4 then b_X12_copy_138 (some (z + 82)) (nI a) v2 (nI b) v4 v5 0 (K, up2 (up2 B (z + 82) 0 0) (z + 82) 1 0, R, w) else b_X12_copy_138 (some (z + 82)) (nI a) v2 (nI b) v4 v5 1 (K, up2 (up2 B (z + 82) 0 0) (z + 82) 1 0, R, w)) else b_X12_copy_121 (some (z + 82)) (K, up2 (up2 B (z + 82) 0 0) (z + 82) 1 0, R, w)) else some (-1000015, K, up2 (up2 (up2 B (z + 82) 0 0) (z + 82) 1 0) (z + 82) 1 5, R, w)) := by
        intro B hB
        have e1 : ∀ q, up2 (up2 B (z + 82) 0 0) (z + 82) 1 0 (z + 83) q = I (z + 83) q := fun q => by simp (disch := omega) only [un_1, un_2, un_3, un_4, es, up2_self]; exact hB _ _ (by omega)
        have e2 : ∀ q, up2 (up2 B (z + 82) 0 0) (z + 82) 1 0 (z + 84) q = I (z + 84) q := fun q => by simp (disch := omega) only [un_1, un_2, un_3, un_4, es, up2_self]; exact hB _ _ (by omega)
        simp only [f_X12_copy, pI_t (k82 h4), isShM, wi1 c1, wi1 c2, i10, if_false, Option.bind_some, gR_t (k82 h4), rz82_2 h4, rz82_3 h4, aI_t (kz83 h4) ha8 (by decide), aI_t (kz83 h4) hb8 (by decide), aI_t (kz84 h4) ha8 (by decide), aI_t (kz84 h4) hb8 (by decide), e1, e2, m2, m2', cK_t (k82 h4), found_M h4, c64_le, c64_gt]
        by_cases q1 : I (z + 83) a = -1
        · rw [if_pos (show I (z + 83) a < 0 by rw [q1]; decide), if_pos q1]
        · rw [if_neg (Int32.not_lt.mpr ((lane_neg g3).mpr q1)), if_neg q1]
          by_cases q2 : I (z + 83) b = -1
          · rw [if_neg (show ¬ 0 ≤ I (z + 83) b by rw [q2]; decide), if_pos q2]
          · rw [if_pos ((lane_neg g3').mpr q2), if_neg q2]
            rfl
      have M45 : ∀ B : Nat → Nat → Int32, b_X12_copy_45 (some (z + 82)) (K, B, R, w) = some (-1000011, K, up2 B (z + 82) 1 1, R, w) := fun B => by
        simp only [b_X12_copy_45, cK_t (k82 h4), found_M h4, Option.bind_some]; rfl
      have M121 : ∀ B : Nat → Nat → Int32, b_X12_copy_121 (some (z + 82)) (K, B, R, w) = some (-1000012, K, up2 B (z + 82) 1 2, R, w) := fun B => by
        simp only [b_X12_copy_121, cK_t (k82 h4), found_M h4, Option.bind_some]; rfl
      have fr6 : ∀ v o q, o = 83 ∨ o = 84 → up2 I z 6 v (z + o) q = I (z + o) q := by
        intro v o q p; simp (disch := omega) only [un_1, un_2, un_3, un_4, es, up2_self]
      by_cases q1 : I (z + 83) a = -1
      · refine ⟨-1000011, (K, up2 I z 6 1, R, w), (K, up2 (up2 (up2 (up2 I z 6 1) (z + 82) 0 0) (z + 82) 1 0) (z + 82) 1 1, R, w), ?_, k82 h4, ?_, hR.fnd 1⟩
        · rw [Xa, if_pos q1, X49]
        · rw [Ma _ (fr6 1), if_pos q1, M45]
      by_cases q2 : I (z + 83) b = -1
      · refine ⟨-1000011, (K, up2 I z 6 1, R, w), (K, up2 (up2 (up2 (up2 I z 6 1) (z + 82) 0 0) (z + 82) 1 0) (z + 82) 1 1, R, w), ?_, k82 h4, ?_, hR.fnd 1⟩
        · rw [Xa, if_neg q1, if_pos q2, X49]
        · rw [Ma _ (fr6 1), if_neg q1, if_pos q2, M45]
      by_cases q3 : I (z + 83) a = I (z + 83) b
      · have bad : hs v2 v5 (nI m) = 0 ∨ hs v4 v5 (nI m') = 0 → (v2 < 0 ∨ v4 < 0 ∨ v5 < 0 ∨ ¬ v2.toInt64 + v5.toInt64 ≤ (nI m).toInt64 ∨ ¬ v4.toInt64 + v5.toInt64 ≤ (nI m').toInt64) → ∃ r S1 S2, f_X11_copy (some z) (nI a) v2 (nI b) v4 v5 (K, I, R, w) = some (r, S1) ∧ (S1.1 (z + 82)).1 = 12 ∧ f_X12_copy (some (z + 82)) (nI a) v2 (nI b) v4 v5 S1 = some (r, S2) ∧ Rel z S2 := by
          intro p1 p2
          refine ⟨-1000012, (K, up2 I z 6 2, R, w), (K, up2 (up2 (up2 (up2 I z 6 2) (z + 82) 0 0) (z + 82) 1 0) (z + 82) 1 2, R, w), ?_, k82 h4, ?_, hR.fnd 2⟩
          · rw [Xa, if_neg q1, if_neg q2, if_pos q3]
            by_cases p3 : hs v2 v5 (nI m) = 0
            · rw [if_pos p3, X97]
            · rw [if_neg p3, if_pos (p1.resolve_left p3), X97]
          · rw [Ma _ (fr6 2), if_neg q1, if_neg q2, if_pos q3]
            by_cases p3 : v2 < 0
            · rw [if_pos p3, M121]
            rw [if_neg p3]
            by_cases p4 : v4 < 0
            · rw [if_pos p4, M121]
            rw [if_neg p4]
            by_cases p5 : v5 < 0
            · rw [if_pos p5, M121]
            rw [if_neg p5]
            by_cases p6 : ¬ v2.toInt64 + v5.toInt64 ≤ (nI m).toInt64
            · rw [if_pos p6, M121]
            rw [if_neg p6, if_neg (((p2.resolve_left p3).resolve_left p4).resolve_left p5 |>.resolve_left p6), M121]
        rcases has_2 v2 v5 m1 with ⟨i, c, rfl, rfl, hic, eh, e64⟩ | ⟨eh, ebad⟩
        · rcases has_2 v4 (nI c) m1' with ⟨j, c', rfl, ec, hjc, eh', e64'⟩ | ⟨eh', ebad'⟩
          · obtain rfl : c = c' := (nI_eq (by omega) (by omega)).mp ec
            obtain ⟨A, hA⟩ : ∃ A, A = up2 (va_up I (z + (67 + 2 * b)) (va_cpy (I (z + (67 + 2 * a))) (I (z + (67 + 2 * b))) i j c)) z 6 0 := ⟨_, rfl⟩
            have A_n : ∀ o q, o ≠ 67 + 2 * b → ¬ (o = 0 ∧ q = 6) → A (z + o) q = I (z + o) q := by
              intro o q p1 p2
              rw [hA]; simp (disch := omega) only [un_1, un_2, un_3, un_4, es, up2_self]; exact evr rfl p1
            have A_s : ∀ q, A (z + (67 + 2 * b)) q = va_cpy (I (z + (67 + 2 * a))) (I (z + (67 + 2 * b))) i j c q := by
              intro q
              rw [hA]; simp (disch := omega) only [un_1, un_2, un_3, un_4, es, up2_self]; exact esr
            have hno : ∀ x : Int32, (x = 0 → i < j) → (x ≠ 0 → j ≤ i) → ∀ u t, u < t → t < c → 40 * a + (i + pr x c t) ≠ 40 * b + (j + pr x c u) := by
              intro x y1 y2 u t ut tc
              have l1 := pr_lt (x := x) tc
              have l2 := pr_lt (x := x) (show u < c by omega)
              by_cases eab : a = b
              · subst eab
                unfold pr
                by_cases x0 : x = 0
                · have := y1 x0
                  rw [if_pos x0, if_pos x0]; omega
                · have := y2 x0
                  rw [if_neg x0, if_neg x0]; omega
              · omega
            obtain ⟨x, hx, D, r1, r2, r3, r4⟩ : ∃ x : Int32, f_X12_copy (some (z + 82)) (nI a) (nI i) (nI b) (nI j) (nI c) (K, A, R, w) = b_X12_copy_138 (some (z + 82)) (nI a) (nI i) (nI b) (nI j) (nI c) x (K, up2 (up2 A (z + 82) 0 0) (z + 82) 1 0, R, w) ∧ ∃ D : Nat → Nat → Int32, b_X12_copy_143 FU (some (z + 82)) (nI a) (nI i) (nI b) (nI j) (nI c) x (nI 0) (K, up2 (up2 A (z + 82) 0 0) (z + 82) 1 0, R, w) = some (nI c, K, D, R, w) ∧ (∀ t, 0 ≤ t → t < c → D (z + 85) (40 * b + (j + pr x c t)) = up2 (up2 A (z + 82) 0 0) (z + 82) 1 0 (z + 85) (40 * a + (i + pr x c t))) ∧ (∀ q, (∀ t, 0 ≤ t → t < c → q ≠ 40 * b + (j + pr x c t)) → D (z + 85) q = up2 (up2 A (z + 82) 0 0) (z + 82) 1 0 (z + 85) q) ∧ ∀ o q, o ≠ 85 → D (z + o) q = up2 (up2 A (z + 82) 0 0) (z + 82) 1 0 (z + o) q := by
              have hM := Ma A (fun o q p => A_n o q (by omega) (by omega))
              rw [if_neg q1, if_neg q2, if_pos q3, if_neg (nI_pos (by omega)), if_neg (nI_pos (by omega)), if_neg (nI_pos (by omega)), if_neg (not_not_intro e64), if_pos e64'] at hM
              by_cases q : i < j
              · rw [if_pos (nI_lt q (by omega))] at hM
                exact ⟨0, hM, cpy_M (w := w) h4 ha8 hb8 (by omega) (by omega) (hno 0 (fun _ => q) (fun p => absurd rfl p)) FU 0 _ (by omega) (by unfold FU; omega)⟩
              · rw [if_neg (nI_nlt (by omega) (by omega))] at hM
                exact ⟨1, hM, cpy_M (w := w) h4 ha8 hb8 (by omega) (by omega) (hno 1 (fun p => absurd p i10) (fun _ => by omega)) FU 0 _ (by omega) (by unfold FU; omega)⟩
            refine ⟨nI c, (K, A, R, w), (K, D, R, w), ?_, k82 h4, ?_, ?_⟩
            · have ea : acp (K, I, R, w) (some (z + (67 + 2 * a))) (nI i) (some (z + (67 + 2 * b))) (nI j) (nI c) = some (K, va_up I (z + (67 + 2 * b)) (va_cpy (I (z + (67 + 2 * a))) (I (z + (67 + 2 * b))) i j c), R, w) := by
                have n0 : ∀ q, q ≤ 40 → ¬ nI q < 0 := fun q hq => nI_pos (by omega)
                simp only [acp, Option.bind_some, kzI h4 ha8, kzI h4 hb8, nI_clamp (show i < 2 ^ 31 by omega), nI_clamp (show j < 2 ^ 31 by omega), nI_clamp (show c < 2 ^ 31 by omega)]
                rw [if_pos ⟨trivial, trivial, n0 i (by omega), n0 j (by omega), n0 c (by omega), by omega, by omega⟩]
              rw [Xa, if_neg q1, if_neg q2, if_pos q3, eh, eh', if_neg i10, ea, Option.bind_some, cK_t kz, fine_X h4, hA]
              rfl
            · rw [hx]; exact r1
            · have hf : ∀ o l, fpNS o l → ¬ (o = 0 ∧ l = 6) ∧ ¬ (o = 82 ∧ l = 0) ∧ ¬ (o = 82 ∧ l = 1) ∧ ¬ o = 85 ∧ ¬ o = 67 + 2 * b := by
                intro o l q; unfold fpNS fpStrokes fpPlan fpBest fpRules fpZones fpShow fpCues fpTrace at q; omega
              have D_n : ∀ o q, o ≠ 85 → ¬ (o = 82 ∧ q = 0) → ¬ (o = 82 ∧ q = 1) → D (z + o) q = A (z + o) q := by
                intro o q p1 p2 p3
                rw [r4 o q p1]; simp (disch := omega) only [un_1, un_2, un_3, un_4, es, up2_self]
              have D_i : ∀ o q, o ≠ 85 → ¬ (o = 82 ∧ q = 0) → ¬ (o = 82 ∧ q = 1) → o ≠ 67 + 2 * b → ¬ (o = 0 ∧ q = 6) → D (z + o) q = I (z + o) q := by
                intro o q p1 p2 p3 p4 p5
                rw [D_n o q p1 p2 p3, A_n o q p4 p5]
              have D85 : ∀ u, u < c → D (z + 85) (40 * b + (j + u)) = I (z + 85) (40 * a + (i + u)) := by
                intro u hu
                have := r2 (pr x c u) (Nat.zero_le _) (pr_lt hu)
                rw [pr_pr hu] at this
                rw [this]; simp (disch := omega) only [un_1, un_2, un_3, un_4, es, up2_self]; exact A_n _ _ (by omega) (by omega)
              have D85n : ∀ q, (∀ u, u < c → q ≠ 40 * b + (j + u)) → D (z + 85) q = I (z + 85) q := by
                intro q hq
                rw [r3 q (fun t _ ht => hq _ (pr_lt ht))]; simp (disch := omega) only [un_1, un_2, un_3, un_4, es, up2_self]; exact A_n _ _ (by omega) (by omega)
              refine hR.sheets ?_ (h7.one hb8 ?_ ⟨?_, ?_, ?_, ?_, ?_⟩) ?_
              · have u1 : D z 6 = 0 := (D_n 0 6 (by omega) (by omega) (by omega)).trans (by rw [hA]; exact up2_self _ _ _ _)
                have u2 : D (z + 82) 1 = 0 := by rw [r4 _ _ (by omega)]; simp (disch := omega) only [un_1, un_2, un_3, un_4, es, up2_self]
                rw [u1, u2]
              · intro o q p
                unfold fpS1 at p
                by_cases ho : o = 85
                · subst ho
                  exact D85n q (fun u hu => by omega)
                · exact D_i o q (by omega) (by omega) (by omega) (by omega) (by omega)
              · rw [D_i _ _ (by omega) (by omega) (by omega) (by omega) (by omega), D_i _ _ (by omega) (by omega) (by omega) (by omega) (by omega)]; exact g1'
              · rw [D_i _ _ (by omega) (by omega) (by omega) (by omega) (by omega), D_i _ _ (by omega) (by omega) (by omega) (by omega) (by omega)]; exact g2'
              · rw [D_i _ _ (by omega) (by omega) (by omega) (by omega) (by omega)]; exact g3'
              · exact ⟨m', m1', by rw [D_i _ _ (by omega) (by omega) (by omega) (by omega) (by omega)]; exact m2'⟩
              · intro q hq
                rw [D_n _ _ (by omega) (by omega) (by omega), A_s]
                by_cases p : j ≤ q ∧ q < j + c
                · rw [pk_cpy_in p.1 p.2]
                  have := D85 (q - j) (by omega)
                  rw [show j + (q - j) = q by omega] at this
                  rw [this]; exact g5 _ (by omega)
                · rw [pk_cpy_out (by omega), D85n _ (fun u hu => by omega)]
                  exact g5' q hq
              · intro o q p
                have := hf o q p
                exact D_i o q (by omega) (by omega) (by omega) (by omega) (by omega)
          · exact bad (Or.inr eh') (by
              rcases ebad' with q | q | ⟨-, -, q⟩
              · exact Or.inr (Or.inl q)
              · exact Or.inr (Or.inr (Or.inl q))
              · exact Or.inr (Or.inr (Or.inr (Or.inr q))))
        · exact bad (Or.inl eh) (by
            rcases ebad with q | q | ⟨-, -, q⟩
            · exact Or.inl q
            · exact Or.inr (Or.inr (Or.inl q))
            · exact Or.inr (Or.inr (Or.inr (Or.inl q))))
      · refine ⟨-1000015, (K, up2 I z 6 5, R, w), (K, up2 (up2 (up2 (up2 I z 6 5) (z + 82) 0 0) (z + 82) 1 0) (z + 82) 1 5, R, w), ?_, k82 h4, ?_, hR.fnd 5⟩
        · rw [Xa, if_neg q1, if_neg q2, if_neg q3]
        · rw [Ma _ (fr6 5), if_neg q1, if_neg q2, if_neg q3]
    · refine ⟨-1000001, (K, I, R, w), (K, up2 I (z + 82) 0 0, R, w), ?_, k82 h4, ?_, hr⟩
      · simp only [f_X11_copy, isSh, wi1 c1, wi0 c2, i10, if_false, Option.bind_some, if_true]
      · simp only [f_X12_copy, pI_t (k82 h4), isShM, wi1 c1, wi0 c2, i10, if_false, Option.bind_some, if_true]
  · refine ⟨-1000001, (K, I, R, w), (K, up2 I (z + 82) 0 0, R, w), ?_, k82 h4, ?_, hr⟩
    · simp only [f_X11_copy, isSh, wi0 c1, Option.bind_some, if_true]
    · simp only [f_X12_copy, pI_t (k82 h4), isShM, wi0 c1, Option.bind_some, if_true]
end OC
