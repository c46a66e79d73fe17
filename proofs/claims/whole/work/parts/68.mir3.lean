section M3
variable {z h k n m t q : Nat} {K : Nat → Nat × Nat} {I J : Nat → Nat → Int32} {R : Nat → Nat → Option Nat} {w : Nat}
-- the class's sums, behind i ticks
def SUx (z : Nat) (I : Nat → Nat → Int32) (i : Nat) (J : Nat → Nat → Int32) : Prop := (∀ o q, ¬ (o = 10 ∧ 5 ≤ q ∧ q ≤ 9) → ¬ (19 ≤ o ∧ o ≤ 29) → J (z + o) q = I (z + o) q) ∧ J (z + 10) 5 = nI (cntB (fun j => decide (I (z + 15) j ≠ 0)) i) ∧ J (z + 10) 6 = nI (cntB (seenF z I) i) ∧ J (z + 10) 7 = nI (cntB (fun j => shutF (I (z + 93)) (I (z + 94)) (I (z + 16) j) (I (z + 17) j) 4) i) ∧ J (z + 10) 8 = maxF (lagF z I) i ∧ (∀ a b, a < 11 → b < 11 → J (z + (19 + a)) b = nI (burnF z I a b i)) ∧ J (z + 10) 9 = nI (maxN (fun q => burnF z I (q % 11) (q / 11) i) 121)
theorem burn_no {i : Nat} (hs : seenF z I i = false) (a b : Nat) : burnF z I a b (i + 1) = burnF z I a b i := by
  unfold burnF
  rw [cntB, hs]
  simp
theorem su_84 (hS : Shp z K R) (hz : RZones z I) {i dl : Nat} (hi : i < 2000) (hd : dl ≤ 5) (e4 : I (z + 11) 4 = nI dl) (e4' : I (z + 92) 4 = nI dl) (hJ : SUx z I i J) (rc : Option Nat → Int32 → St → Option St) : ∃ A, b_X6_sumUp_84 rc (some (z + 10)) (nI i) (some (z + 10)) (nI (cntB (fun j => decide (I (z + 15) j ≠ 0)) i)) (bI (decide (I (z + 15) i ≠ 0))) (K, J, R, w) = rc (some (z + 10)) (nI (i + 1)) (K, A, R, w) ∧ SUx z I (i + 1) A := by
  have k10 : (K (z + 10)).1 = 6 + 1 := by rw [kz10 hS]
  obtain ⟨f, s5, s6, s7, s8, sb, s9⟩ := hJ
  obtain ⟨J1, hJ1⟩ : ∃ J1, J1 = up2 J (z + 10) 5 (nI (cntB (fun j => decide (I (z + 15) j ≠ 0)) (i + 1))) := ⟨_, rfl⟩
  obtain ⟨B, hB⟩ : ∃ B, B = up2 J1 (z + 10) 8 (maxF (lagF z I) (i + 1)) := ⟨_, rfl⟩
  have f1 : ∀ o q, ¬ (o = 10 ∧ 5 ≤ q ∧ q ≤ 9) → ¬ (19 ≤ o ∧ o ≤ 29) → J1 (z + o) q = I (z + o) q := fun o q p1 p2 => by rw [hJ1]; simp (disch := omega) only [un_1, un_2, un_3, un_4, es, up2_self]; exact f o q p1 p2
  have fB : ∀ o q, ¬ (o = 10 ∧ 5 ≤ q ∧ q ≤ 9) → ¬ (19 ≤ o ∧ o ≤ 29) → B (z + o) q = I (z + o) q := fun o q p1 p2 => by rw [hB]; simp (disch := omega) only [un_1, un_2, un_3, un_4, es, up2_self]; exact f1 o q p1 p2
  have lg : lagF z J1 i = lagF z I i := by
    unfold lagF
    rw [f1 15 i (by omega) (by omega), f1 13 i (by omega) (by omega), f1 14 i (by omega) (by omega), f1 16 i (by omega) (by omega), f1 17 i (by omega) (by omega)]
  have j8 : J1 (z + 10) 8 = maxF (lagF z I) i := by rw [hJ1]; simp (disch := omega) only [un_1, un_2, un_3, un_4, es, up2_self]; exact s8
  have hzB : RZones z B := hz.fr fun o q p => by unfold fpZones at p; exact fB o q (by omega) (by omega)
  have sh := shu_X (w := w) hS hzB hi
  have e93 : B (z + 93) = I (z + 93) := funext fun q => fB 93 q (by omega) (by omega)
  have e94 : B (z + 94) = I (z + 94) := funext fun q => fB 94 q (by omega) (by omega)
  have e15 : B (z + 15) = I (z + 15) := funext fun q => fB 15 q (by omega) (by omega)
  rw [e93, e94, fB 16 i (by omega) (by omega), fB 17 i (by omega) (by omega)] at sh
  have co := com_X (w := w) hS hi hd (show B (z + 11) 4 = nI dl by rw [fB 11 4 (by omega) (by omega), e4])
  rw [e15] at co
  have b5 : B (z + 10) 5 = nI (cntB (fun j => decide (I (z + 15) j ≠ 0)) (i + 1)) := by rw [hB, hJ1]; simp (disch := omega) only [un_1, un_2, un_3, un_4, es, up2_self]
  have b6 : B (z + 10) 6 = nI (cntB (seenF z I) i) := by rw [hB, hJ1]; simp (disch := omega) only [un_1, un_2, un_3, un_4, es, up2_self]; exact s6
  have b7 : B (z + 10) 7 = nI (cntB (fun j => shutF (I (z + 93)) (I (z + 94)) (I (z + 16) j) (I (z + 17) j) 4) i) := by rw [hB, hJ1]; simp (disch := omega) only [un_1, un_2, un_3, un_4, es, up2_self]; exact s7
  have b8 : B (z + 10) 8 = maxF (lagF z I) (i + 1) := by rw [hB]; simp (disch := omega) only [un_1, un_2, un_3, un_4, es, up2_self]
  have b9 : B (z + 10) 9 = nI (maxN (fun q => burnF z I (q % 11) (q / 11) i) 121) := by rw [hB, hJ1]; simp (disch := omega) only [un_1, un_2, un_3, un_4, es, up2_self]; exact s9
  have bb : ∀ a b, a < 11 → b < 11 → B (z + (19 + a)) b = nI (burnF z I a b i) := fun a b ha hb => by rw [hB, hJ1]; simp (disch := omega) only [un_1, un_2, un_3, un_4, es, up2_self]; exact sb a b ha hb
  have hse : seenF z I i = (comesF dl (I (z + 15)) i && !shutF (I (z + 93)) (I (z + 94)) (I (z + 16) i) (I (z + 17) i) 4) := by
    unfold seenF; rw [e4', nI_clamp (by omega)]
  have hd5 : nI (cntB (fun j => decide (I (z + 15) j ≠ 0)) i) + bI (decide (I (z + 15) i ≠ 0)) = nI (cntB (fun j => decide (I (z + 15) j ≠ 0)) (i + 1)) := by rw [nI_bI, cntB]
  have hm8 : mx (maxF (lagF z I) i) (lagF z I i) = maxF (lagF z I) (i + 1) := rfl
  unfold b_X6_sumUp_84
  rw [hd5, pI_t k10, Option.bind_some, ← hJ1, gI_t k10, Option.bind_some, j8, cK_t k10, lag_X hS hi, Option.bind_some, lg, pI_t k10, Option.bind_some, hm8, ← hB, cK_t k10, sh, Option.bind_some]
  by_cases c1 : shutF (I (z + 93)) (I (z + 94)) (I (z + 16) i) (I (z + 17) i) 4 = true
  · have hse0 : seenF z I i = false := by rw [hse, c1]; simp
    refine ⟨up2 B (z + 10) 7 (nI (cntB (fun j => shutF (I (z + 93)) (I (z + 94)) (I (z + 16) j) (I (z + 17) j) 4) (i + 1))), ?_, ?_⟩
    · have hd7 : nI (cntB (fun j => shutF (I (z + 93)) (I (z + 94)) (I (z + 16) j) (I (z + 17) j) 4) i) + 1 = nI (cntB (fun j => shutF (I (z + 93)) (I (z + 94)) (I (z + 16) j) (I (z + 17) j) 4) (i + 1)) := by rw [nI_1, cntB, c1]; rfl
      simp only [c1, bI_t, i10, if_false, gI_t k10, Option.bind_some, b7, hd7, pI_t k10, b_X6_sumUp_159, lt1, nI_1]
    · refine ⟨fun o q p1 p2 => by simp (disch := omega) only [un_1, un_2, un_3, un_4, es, up2_self]; exact fB o q p1 p2, by simp (disch := omega) only [un_1, un_2, un_3, un_4, es, up2_self]; exact b5, ?_, by simp (disch := omega) only [un_1, un_2, un_3, un_4, es, up2_self], by simp (disch := omega) only [un_1, un_2, un_3, un_4, es, up2_self]; exact b8, fun a b ha hb => ?_, ?_⟩
      · simp (disch := omega) only [un_1, un_2, un_3, un_4, es, up2_self]; rw [b6, cntB, hse0]; rfl
      · simp (disch := omega) only [un_1, un_2, un_3, un_4, es, up2_self]; rw [bb a b ha hb, burn_no hse0]
      · simp (disch := omega) only [un_1, un_2, un_3, un_4, es, up2_self]; rw [b9, maxN_c 121 fun q _ => (burn_no hse0 _ _).symm]
  · have c1 : shutF (I (z + 93)) (I (z + 94)) (I (z + 16) i) (I (z + 17) i) 4 = false := by simpa using c1
    have h7 : cntB (fun j => shutF (I (z + 93)) (I (z + 94)) (I (z + 16) j) (I (z + 17) j) 4) (i + 1) = cntB (fun j => shutF (I (z + 93)) (I (z + 94)) (I (z + 16) j) (I (z + 17) j) 4) i := by rw [cntB, c1]; rfl
    simp only [c1, bI_f, if_true, cK_t k10, co, Option.bind_some]
    by_cases c2 : comesF dl (I (z + 15)) i = true
    · have hse1 : seenF z I i = true := by rw [hse, c1, c2]; rfl
      obtain ⟨C, hC⟩ : ∃ C, C = up2 B (z + 10) 6 (nI (cntB (seenF z I) (i + 1))) := ⟨_, rfl⟩
      have hd6 : nI (cntB (seenF z I) i) + 1 = nI (cntB (seenF z I) (i + 1)) := by rw [nI_1, cntB, hse1]; rfl
      have fC : ∀ o q, ¬ (o = 10 ∧ 5 ≤ q ∧ q ≤ 9) → ¬ (19 ≤ o ∧ o ≤ 29) → C (z + o) q = I (z + o) q := fun o q p1 p2 => by rw [hC]; simp (disch := omega) only [un_1, un_2, un_3, un_4, es, up2_self]; exact fB o q p1 p2
      obtain ⟨A, r1, r2, r3, r4⟩ := brn_X (w := w) (J := C) hS (I (z + 16) i) (I (z + 17) i)
      have bi : ∀ a b, burnF z I a b (i + 1) = burnF z I a b i + (if cellF (I (z + 16) i) (I (z + 17) i) a b = true then 1 else 0) := fun a b => by
        unfold burnF; rw [cntB, hse1, Bool.true_and]
      refine ⟨A, ?_, ?_⟩
      · simp only [c2, bI_t, i10, if_false, gI_t k10, Option.bind_some, b6, hd6, pI_t k10, ← hC, gR_t k10, rz10_2 hS, rz10_3 hS, aI_t (kz16 hS) hi (by decide), aI_t (kz17 hS) hi (by decide), fC 16 i (by omega) (by omega), fC 17 i (by omega) (by omega), cK_t k10, r1, b_X6_sumUp_159, lt1, nI_1]
      · have cb : ∀ a b, a < 11 → b < 11 → C (z + (19 + a)) b = nI (burnF z I a b i) := fun a b ha hb => by rw [hC]; simp (disch := omega) only [un_1, un_2, un_3, un_4, es, up2_self]; exact bb a b ha hb
        refine ⟨fun o q p1 p2 => by rw [r2 o q (by omega) (by omega)]; exact fC o q p1 p2, ?_, ?_, ?_, ?_, fun a b ha hb => ?_, ?_⟩
        · rw [r2 10 5 (by omega) (by omega), hC]; simp (disch := omega) only [un_1, un_2, un_3, un_4, es, up2_self]; exact b5
        · rw [r2 10 6 (by omega) (by omega), hC]; simp (disch := omega) only [un_1, un_2, un_3, un_4, es, up2_self]
        · rw [r2 10 7 (by omega) (by omega), hC, h7]; simp (disch := omega) only [un_1, un_2, un_3, un_4, es, up2_self]; exact b7
        · rw [r2 10 8 (by omega) (by omega), hC]; simp (disch := omega) only [un_1, un_2, un_3, un_4, es, up2_self]; exact b8
        · rw [r3 a b ha hb, cb a b ha hb, nI_bI, bi]
        · have c9 : C (z + 10) 9 = nI (maxN (fun q => burnF z I (q % 11) (q / 11) i) 121) := by rw [hC]; simp (disch := omega) only [un_1, un_2, un_3, un_4, es, up2_self]; exact b9
          have bl : ∀ a b, burnF z I a b i ≤ 2000 := fun a b => Nat.le_trans (cntB_le _ i) (by omega)
          rcases r4 with ⟨X, Y, hX, hY, eX, eY, r9⟩ | ⟨cf, r9⟩
          · have hX1 : X / 100 < 11 := by omega
            have hY1 : Y / 100 < 11 := by omega
            obtain ⟨a0, ha0⟩ : ∃ a0, a0 = X / 100 := ⟨_, rfl⟩
            obtain ⟨b0, hb0⟩ : ∃ b0, b0 = Y / 100 := ⟨_, rfl⟩
            rw [← ha0] at hX1 r9
            rw [← hb0] at hY1 r9
            have hc : ∀ a b, cellF (I (z + 16) i) (I (z + 17) i) a b = (decide (a0 = a) && decide (b0 = b)) := fun a b => by rw [eX, eY, cell_n hX hY, ← ha0, ← hb0]
            have g0 : burnF z I a0 b0 (i + 1) = burnF z I a0 b0 i + 1 := by rw [bi, hc]; simp
            have hq1 : (11 * b0 + a0) % 11 = a0 := by omega
            have hq2 : (11 * b0 + a0) / 11 = b0 := by omega
            have mu := maxN_up (f := fun q => burnF z I (q % 11) (q / 11) i) (g := fun q => burnF z I (q % 11) (q / 11) (i + 1)) (q0 := 11 * b0 + a0) (by
              show burnF z I ((11 * b0 + a0) % 11) ((11 * b0 + a0) / 11) i ≤ burnF z I ((11 * b0 + a0) % 11) ((11 * b0 + a0) / 11) (i + 1)
              rw [hq1, hq2, g0]; omega) (by
              intro q hq
              show burnF z I (q % 11) (q / 11) (i + 1) = burnF z I (q % 11) (q / 11) i
              rw [bi, hc]
              have : (decide (a0 = q % 11) && decide (b0 = q / 11)) = false := by
                simp only [Bool.and_eq_false_iff, decide_eq_false_iff_not]; omega
              rw [this]; rfl) 121 (by omega)
            rw [r9, c9, cb a0 b0 hX1 hY1, nI_1, mx_n (Nat.le_trans (maxN_le (b := 2000) (fun q => bl _ _) 121) (by omega)) (by have := bl a0 b0; omega), mu]
            show _ = nI (max (maxN (fun q => burnF z I (q % 11) (q / 11) i) 121) (burnF z I ((11 * b0 + a0) % 11) ((11 * b0 + a0) / 11) (i + 1)))
            rw [hq1, hq2, g0]
          · rw [r9, c9]
            have : maxN (fun q => burnF z I (q % 11) (q / 11) i) 121 = maxN (fun q => burnF z I (q % 11) (q / 11) (i + 1)) 121 := maxN_c 121 fun q _ => by
              show burnF z I (q % 11) (q / 11) i = burnF z I (q % 11) (q / 11) (i + 1)
              rw [bi, cf]; rfl
            rw [this]
    · have c2 : comesF dl (I (z + 15)) i = false := by simpa using c2
      have hse0 : seenF z I i = false := by rw [hse, c2]; rfl
      refine ⟨B, ?_, fB, b5, ?_, ?_, b8, fun a b ha hb => ?_, ?_⟩
      · simp only [c2, bI_f, if_true, b_X6_sumUp_159, lt1, nI_1]
      · rw [b6, cntB, hse0]; rfl
      · rw [b7, h7]
      · rw [bb a b ha hb, burn_no hse0]
      · rw [b9, maxN_c 121 fun q _ => (burn_no hse0 _ _).symm]
theorem su_X1 (hS : Shp z K R) (hz : RZones z I) {T dl : Nat} (hT : T ≤ 2000) (hd : dl ≤ 5) (eT : I (z + 12) 3 = nI T) (e4 : I (z + 11) 4 = nI dl) (e4' : I (z + 92) 4 = nI dl) : ∀ fu i (J : Nat → Nat → Int32), i ≤ T → T < fu + i → SUx z I i J → ∃ A, b_X6_sumUp_51 fu (some (z + 10)) (nI i) (K, J, R, w) = some (K, A, R, w) ∧ SUx z I T A := by
  have k10 : (K (z + 10)).1 = 6 + 1 := by rw [kz10 hS]
  have k12 : (K (z + 12)).1 = 3 + 1 := by rw [kz12 hS]
  intro fu
  induction fu with
  | zero => intro i J a b; omega
  | succ fu ih =>
    intro i J a b hJ
    have f := hJ.1
    rw [b_X6_sumUp_51, gR_t k10, Option.bind_some, rz10_1 hS, gI_t k12, Option.bind_some, f 12 3 (by omega) (by omega), eT]
    by_cases c : i = T
    · subst c
      rw [if_pos (nI_le (Nat.le_refl _) (by omega))]
      exact ⟨J, rfl, hJ⟩
    · have hi : i < T := by omega
      obtain ⟨A1, r1, r2⟩ := su_84 (w := w) hS hz (show i < 2000 by omega) hd e4 e4' hJ (b_X6_sumUp_51 fu)
      obtain ⟨A, q1, q2⟩ := ih (i + 1) A1 (by omega) (by omega) r2
      refine ⟨A, ?_, q2⟩
      rw [if_neg (nI_ge hi (by omega)), gI_t k10, Option.bind_some, hJ.2.1]
      simp only [Option.bind_some, gR_t k12, rz12_2 hS, aI_t (kz15 hS) (show i < 2000 by omega) (by decide), f 15 i (by omega) (by omega)]
      by_cases c0 : I (z + 15) i = 0
      · rw [if_pos c0]
        rw [show bI (decide (I (z + 15) i ≠ 0)) = 0 by rw [c0]; rfl] at r1
        exact r1.trans q1
      · rw [if_neg c0]
        rw [show bI (decide (I (z + 15) i ≠ 0)) = 1 by simp [c0, bI]] at r1
        exact r1.trans q1
theorem fil_X (hS : Shp z K R) : ∀ fu k (J : Nat → Nat → Int32), k ≤ 11 → 11 < fu + k → ∃ A, b_X6_sumUp_27 fu (some (z + 10)) (nI k) (K, J, R, w) = b_X6_sumUp_49 (some (z + 10)) (K, A, R, w) ∧ (∀ o q, ¬ (19 + k ≤ o ∧ o ≤ 29) → A (z + o) q = J (z + o) q) ∧ ∀ a b, k ≤ a → a < 11 → b < 11 → A (z + (19 + a)) b = 0 := by
  have k10 : (K (z + 10)).1 = 6 + 1 := by rw [kz10 hS]
  intro fu
  induction fu with
  | zero => intro k J a b; omega
  | succ fu ih =>
    intro k J a b
    rw [b_X6_sumUp_27]
    by_cases c : k = 11
    · subst c
      rw [if_pos (show (11 : Int32) ≤ nI 11 by decide)]
      exact ⟨J, rfl, fun _ _ _ => rfl, fun a b _ _ => by omega⟩
    · have hk : k < 11 := by omega
      have e := fill_X (R := R) (w := w) (kzB hS hk) (by decide) 0 FU 0 J (by omega) (by unfold FU; omega)
      simp only [Nat.zero_le, true_and] at e
      rw [show nI 0 = (0 : Int32) from rfl] at e
      obtain ⟨B, hB⟩ : ∃ B, B = va_up J (z + (19 + k)) (fun q => if q < 11 then 0 else J (z + (19 + k)) q) := ⟨_, rfl⟩
      rw [← hB] at e
      obtain ⟨A, q1, q2, q3⟩ := ih (k + 1) B (by omega) (by omega)
      refine ⟨A, ?_, fun o q ho => ?_, fun x y h1 h2 h3 => ?_⟩
      · rw [if_neg (show ¬ (11 : Int32) ≤ _ from nI_ge (b := 11) hk (by decide)), gR_t k10, Option.bind_some, rz10_4 hS, aR_t (kz18 hS) hk (by decide), Option.bind_some, rzB hS hk]
        unfold f_J7_fill_53178
        rw [aL_t (kzB hS hk), Option.bind_some, e, Option.bind_some]
        unfold lt1
        rw [nI_1]
        exact q1
      · rw [q2 o q (by omega), hB]
        exact evr rfl (by omega)
      · by_cases ea : x = k
        · rw [ea, q2 _ y (by omega), hB, esr, if_pos h3]
        · exact q3 x y (by omega) h2 h3
theorem sum_X (hS : Shp z K R) (hz : RZones z I) {T dl : Nat} (hT : T ≤ 2000) (hd : dl ≤ 5) (eT : I (z + 12) 3 = nI T) (e4 : I (z + 11) 4 = nI dl) (e4' : I (z + 92) 4 = nI dl) : ∃ A, f_X6_sumUp (some (z + 10)) (K, I, R, w) = some (K, A, R, w) ∧ SUx z I T A := by
  have k10 : (K (z + 10)).1 = 6 + 1 := by rw [kz10 hS]
  obtain ⟨B, hB⟩ : ∃ B, B = up2 (up2 (up2 (up2 (up2 I (z + 10) 5 0) (z + 10) 6 0) (z + 10) 7 0) (z + 10) 8 0) (z + 10) 9 0 := ⟨_, rfl⟩
  obtain ⟨C, q1, q2, q3⟩ := fil_X (w := w) hS FU 0 B (by omega) (by unfold FU; omega)
  have hC : SUx z I 0 C := by
    refine ⟨fun o q p1 p2 => ?_, ?_, ?_, ?_, ?_, fun a b ha hb => q3 a b (by omega) ha hb, ?_⟩
    · rw [q2 o q (by omega), hB]; simp (disch := omega) only [un_1, un_2, un_3, un_4, es, up2_self]
    · rw [q2 10 5 (by omega), hB]; simp (disch := omega) only [un_1, un_2, un_3, un_4, es, up2_self]; rfl
    · rw [q2 10 6 (by omega), hB]; simp (disch := omega) only [un_1, un_2, un_3, un_4, es, up2_self]; rfl
    · rw [q2 10 7 (by omega), hB]; simp (disch := omega) only [un_1, un_2, un_3, un_4, es, up2_self]; rfl
    · rw [q2 10 8 (by omega), hB]; simp (disch := omega) only [un_1, un_2, un_3, un_4, es, up2_self]; rfl
    · rw [q2 10 9 (by omega), hB]
      have : maxN (fun q => burnF z I (q % 11) (q / 11) 0) 121 = 0 := Nat.le_zero.mp (maxN_le (b := 0) (fun q => Nat.le_refl 0) 121)
      rw [this]
      simp (disch := omega) only [un_1, un_2, un_3, un_4, es, up2_self]; rfl
  obtain ⟨A, r1, r2⟩ := su_X1 (w := w) hS hz hT hd eT e4 e4' FU 0 C (by omega) (by unfold FU; omega) hC
  refine ⟨A, ?_, r2⟩
  unfold f_X6_sumUp
  rw [pI_t k10, Option.bind_some, pI_t k10, Option.bind_some, pI_t k10, Option.bind_some, pI_t k10, Option.bind_some, pI_t k10, Option.bind_some, ← hB]
  rw [show nI 0 = 0 from rfl] at q1 r1
  rw [q1]
  unfold b_X6_sumUp_49
  exact r1
end M3
