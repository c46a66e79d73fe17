section O4
variable {z : Nat} {K : Nat → Nat × Nat} {I J : Nat → Nat → Int32} {R : Nat → Nat → Option Nat} {w : Nat}
theorem row_step {a j L : Nat} {v : Int32} (hj : j < L) : va_up (up2 I a j v) a (fun k => if j + 1 ≤ k ∧ k < L then v else up2 I a j v a k) = va_up I a (fun k => if j ≤ k ∧ k < L then v else I a k) := by
  funext b k
  by_cases hb : b = a
  · subst hb
    simp only [va_up_self]
    by_cases e : k = j
    · subst e
      rw [if_neg (by omega), if_pos (by omega), up2_self]
    · by_cases c : j + 1 ≤ k ∧ k < L
      · rw [if_pos c, if_pos (by omega)]
      · rw [if_neg c, if_neg (by omega), up2_ne _ _ (Or.inr e)]
  · rw [va_up_ne _ _ hb, va_up_ne _ _ hb, up2_ne _ _ (Or.inl hb)]
theorem row_none {a : Nat} {f : Nat → Int32} (h : ∀ k, f k = I a k) : va_up I a f = I := by
  funext b k
  by_cases hb : b = a
  · subst hb; rw [va_up_self]; exact h k
  · rw [va_up_ne _ _ hb]
theorem fill_X {a L : Nat} (hK : K a = (14, L)) (hL : L < 2 ^ 31) (v : Int32) : ∀ (n j : Nat) (I : Nat → Nat → Int32), j ≤ L → L < n + j → b_J7_fill_53178_5 n (some a) v (nI j) (nI L) (K, I, R, w) = some (K, va_up I a (fun k => if j ≤ k ∧ k < L then v else I a k), R, w) := by
  intro n
  induction n with
  | zero => intro j I h1 h2; omega
  | succ n ih =>
    intro j I h1 h2
    rw [b_J7_fill_53178_5]
    by_cases c : j = L
    · subst c
      rw [if_pos (nI_le (Nat.le_refl _) hL), row_none]
      intro k
      rw [if_neg (by omega)]
    · have hj : j < L := by omega
      rw [if_neg (nI_ge hj hL), sI_t hK hj hL, Option.bind_some, nar14]
      simp only [lt1]
      rw [nI_1, ih (j + 1) _ (by omega) (by omega), row_step hj]
theorem lay_X (hS : Shp z K R) {i : Nat} (hi : i < 8) (l n : Int32) : f_X5_lay (some (z + (66 + 2 * i))) l n (K, I, R, w) = some (K, up2 (up2 (va_up I (z + (67 + 2 * i)) (fun k => if k < 40 then 0 else I (z + (67 + 2 * i)) k)) (z + (66 + 2 * i)) 1 l) (z + (66 + 2 * i)) 2 n, R, w) := by
  have e := fill_X (R := R) (w := w) (kzI hS hi) (by decide) 0 FU 0 I (by omega) (by decide)
  simp only [Nat.zero_le, true_and] at e
  have k1 : (K (z + (66 + 2 * i))).1 = 5 + 1 := by rw [kzS hS hi]
  simp only [f_X5_lay, gR_t k1, rzI hS hi, Option.bind_some, f_J7_fill_53178, aL_t (kzI hS hi), show (0 : Int32) = nI 0 from rfl]
  rw [show nI 0 = (0 : Int32) from rfl] at e ⊢
  rw [e, Option.bind_some, pI_t k1, Option.bind_some, pI_t k1, Option.bind_some]
theorem shl_M (hS : Shp z K R) {i : Nat} (hi : i < 8) (x : Int32) : ∀ (n j : Nat) (I : Nat → Nat → Int32), j ≤ 40 → 40 < n + j → b_X12_sheet_65 n (some (z + 82)) (nI i) x (nI j) (K, I, R, w) = some (x, K, va_up I (z + 85) (fun k => if 40 * i + j ≤ k ∧ k < 40 * i + 40 then 0 else I (z + 85) k), R, w) := by
  intro n
  induction n with
  | zero => intro j I h1 h2; omega
  | succ n ih =>
    intro j I h1 h2
    rw [b_X12_sheet_65]
    by_cases c : j = 40
    · subst c
      rw [if_pos (show (40 : Int32) ≤ nI 40 by decide), row_none]
      · rfl
      · intro k
        rw [if_neg (by omega)]
    · have hj : j < 40 := by omega
      have hk : (K (z + 82)).1 = 11 + 1 := by rw [kz82 hS]
      rw [if_neg (show ¬ (40 : Int32) ≤ nI j from nI_ge (b := 40) hj (by decide)), gR_t hk, Option.bind_some, rz82_4 hS, ix40, sI_t (kz85 hS) (show 40 * i + j < 320 by omega) (by decide), Option.bind_some, nar14]
      simp only [lt1]
      rw [nI_1, ih (j + 1) _ (by omega) (by omega), show 40 * i + (j + 1) = 40 * i + j + 1 by omega, row_step (by omega)]
theorem evr {o k a : Nat} {f : Nat → Int32} {x : Int32} (e : J (z + o) k = x) (hn : o ≠ a) : va_up J (z + a) f (z + o) k = x := by
  rw [va_up_ne _ _ (by omega)]; exact e
theorem evr0 {k a : Nat} {f : Nat → Int32} {x : Int32} (e : J z k = x) (hn : 0 ≠ a) : va_up J (z + a) f z k = x := evr (o := 0) e hn
theorem esr {a k : Nat} {f : Nat → Int32} : va_up J (z + a) f (z + a) k = f k := by rw [va_up_self]
theorem agr_sheet (v1 v2 v3 : Int32) : Agr (Rel z) z (f_X11_sheet (some z) v1 v2 v3) (f_X12_sheet (some (z + 82)) v1 v2 v3) := by
  rintro ⟨K, I, R, w⟩ hR
  obtain ⟨h, h1, h2, h3, h4, h5, h6, h7, -⟩ := hR.opn
  by_cases c1 : 0 ≤ v1 ∧ v1 ≤ 7
  · obtain ⟨i, hi, rfl⟩ := ix_le (n := 7) (by decide) c1
    have hi8 : i < 8 := by omega
    by_cases c2 : 0 ≤ v2 ∧ v2 ≤ 2
    · by_cases c3 : v3 ≤ 40
      · by_cases c4 : 0 ≤ v3
        · obtain ⟨m, m1, rfl⟩ := ix_le (n := 40) (M := 40) (by decide) ⟨c4, c3⟩
          obtain ⟨l, l1, rfl⟩ := ix_le (n := 2) (M := 2) (by decide) c2
          obtain ⟨A, hA⟩ : ∃ A, A = up2 (up2 (up2 (va_up I (z + (67 + 2 * i)) (fun k => if k < 40 then 0 else I (z + (67 + 2 * i)) k)) (z + (66 + 2 * i)) 1 (nI l)) (z + (66 + 2 * i)) 2 (nI m)) z 6 0 := ⟨_, rfl⟩
          obtain ⟨B, hB⟩ : ∃ B, B = up2 (up2 (up2 (up2 A (z + 82) 0 0) (z + 82) 1 0) (z + 83) i (nI l)) (z + 84) i (nI m) := ⟨_, rfl⟩
          refine ⟨nI m, (K, A, R, w), (K, va_up B (z + 85) (fun k => if 40 * i + 0 ≤ k ∧ k < 40 * i + 40 then 0 else B (z + 85) k), R, w), ?_, k82 h4, ?_, ?_⟩
          · simp [f_X11_sheet, isSh, wi1 c1, isW, wi1 c2, c3, c4, gR_t, kz0 h4, rz0_0 h4, aR_t (kz1 h4) hi8, rzS h4 hi8, cK_t, kzS h4 hi8, lay_X h4 hi8, fine_X h4, hA]
          · have e := shl_M (R := R) (w := w) h4 hi8 (nI m) FU 0 B (by omega) (by decide)
            rw [← e, hB]
            simp [f_X12_sheet, isShM, wi1 c1, in_02, wi1 c2, c3, c4, pI_t, gR_t, kz82 h4, rz82_2 h4, rz82_3 h4, sI_t (kz83 h4) hi8, sI_t (kz84 h4) hi8, nar14, nI_0]
          · have hf : ∀ o q, fpNS o q → ¬ (o = 0 ∧ q = 6) ∧ ¬ (o = 82 ∧ q = 0) ∧ ¬ (o = 82 ∧ q = 1) ∧ ¬ o = 83 ∧ ¬ o = 84 ∧ ¬ o = 85 ∧ ¬ o = 66 + 2 * i ∧ ¬ o = 67 + 2 * i := by
              intro o q p; unfold fpNS fpStrokes fpPlan fpBest fpRules fpZones fpShow fpCues fpTrace at p; omega
            have fA : ∀ fp : Nat → Nat → Prop, (∀ o q, fp o q → ¬ (o = 0 ∧ q = 6) ∧ ¬ o = 66 + 2 * i ∧ ¬ o = 67 + 2 * i) → Fr fp z I A := by
              intro fp hq
              rw [hA]
              exact (((Fr.rf.row (fun o l p => by have := hq o l p; omega)).up (fun o l p => by have := hq o l p; omega)).up (fun o l p => by have := hq o l p; omega)).up0 (fun o l p => by have := hq o l p; omega)
            have fB : ∀ fp : Nat → Nat → Prop, (∀ o q, fp o q → ¬ (o = 0 ∧ q = 6) ∧ ¬ o = 66 + 2 * i ∧ ¬ o = 67 + 2 * i ∧ ¬ (o = 82 ∧ q = 0) ∧ ¬ (o = 82 ∧ q = 1) ∧ ¬ (o = 83 ∧ q = i) ∧ ¬ (o = 84 ∧ q = i)) → Fr fp z I B := by
              intro fp hq
              rw [hB]
              exact ((((fA fp (fun o l p => by have := hq o l p; omega)).up (fun o l p => by have := hq o l p; omega)).up (fun o l p => by have := hq o l p; omega)).up (fun o l p => by have := hq o l p; omega)).up (fun o l p => by have := hq o l p; omega)
            have a1 : A (z + (66 + 2 * i)) 1 = nI l := by rw [hA]; exact ev0 (ev es (by omega)) (by omega)
            have a2 : A (z + (66 + 2 * i)) 2 = nI m := by rw [hA]; exact ev0 es (by omega)
            have a3 : ∀ j, j < 40 → A (z + (67 + 2 * i)) j = 0 := by
              intro j hj; rw [hA]
              exact ev0 (ev (ev (by rw [esr, if_pos hj]) (by omega)) (by omega)) (by omega)
            have a4 : A z 6 = 0 := by rw [hA]; exact up2_self _ _ _ _
            have b1 : B (z + (66 + 2 * i)) 1 = nI l := by rw [hB]; exact ev (ev (ev (ev a1 (by omega)) (by omega)) (by omega)) (by omega)
            have b2 : B (z + (66 + 2 * i)) 2 = nI m := by rw [hB]; exact ev (ev (ev (ev a2 (by omega)) (by omega)) (by omega)) (by omega)
            have b3 : ∀ j, j < 40 → B (z + (67 + 2 * i)) j = 0 := by
              intro j hj; rw [hB]; exact ev (ev (ev (ev (a3 j hj) (by omega)) (by omega)) (by omega)) (by omega)
            have b4 : B z 6 = 0 := by rw [hB]; exact evz (evz (evz (evz a4 (by omega)) (by omega)) (by omega)) (by omega)
            have b5 : B (z + 82) 1 = 0 := by rw [hB]; exact ev (ev es (by omega)) (by omega)
            have b6 : B (z + 83) i = nI l := by rw [hB]; exact ev es (by omega)
            have b7 : B (z + 84) i = nI m := by rw [hB]; exact es
            refine hR.sheets ?_ (h7.one hi8 ?_ ⟨?_, ?_, ?_, ?_, ?_⟩) ?_
            · rw [evr0 b4 (by omega), evr b5 (by omega)]
            · intro o q p
              by_cases ho : o = 85
              · subst ho
                rw [esr, if_neg (by unfold fpS1 at p; omega)]
                exact fB (fpS1 i) (by intro o q p; unfold fpS1 at p; omega) 85 q p
              · exact evr (fB (fpS1 i) (by intro o q p; unfold fpS1 at p; omega) o q p) ho
            · rw [evr b1 (by omega), evr b6 (by omega)]
            · rw [evr b2 (by omega), evr b7 (by omega)]
            · rw [evr b6 (by omega)]
              rcases (show l = 0 ∨ l = 1 ∨ l = 2 by omega) with rfl | rfl | rfl
              · exact Or.inr (Or.inl rfl)
              · exact Or.inr (Or.inr (Or.inl rfl))
              · exact Or.inr (Or.inr (Or.inr rfl))
            · exact ⟨m, m1, evr b7 (by omega)⟩
            · intro j hj
              rw [evr (b3 j hj) (by omega), esr, if_pos (by omega)]
            · exact (fB fpNS (fun o q p => by have := hf o q p; omega)).row (fun o q p => by have := hf o q p; omega)
        · refine ⟨-1000014, (K, up2 I z 6 4, R, w), (K, up2 (up2 (up2 (up2 I z 6 4) (z + 82) 0 0) (z + 82) 1 0) (z + 82) 1 4, R, w), ?_, k82 h4, ?_, hR.fnd 4⟩
          · simp [f_X11_sheet, isSh, wi1 c1, isW, wi1 c2, c3, c4, cK_t, kz0 h4, found_X h4]
          · simp [f_X12_sheet, isShM, wi1 c1, in_02, wi1 c2, c3, c4, pI_t, kz82 h4, cK_t, found_M h4]
      · refine ⟨-1000001, (K, I, R, w), (K, up2 I (z + 82) 0 0, R, w), ?_, k82 h4, ?_, hR.thr 0⟩
        · simp [f_X11_sheet, isSh, wi1 c1, isW, wi1 c2, c3]
        · simp [f_X12_sheet, isShM, wi1 c1, in_02, wi1 c2, c3, pI_t, kz82 h4]
    · refine ⟨-1000001, (K, I, R, w), (K, up2 I (z + 82) 0 0, R, w), ?_, k82 h4, ?_, hR.thr 0⟩
      · simp [f_X11_sheet, isSh, wi1 c1, isW, wi0 c2]
      · simp [f_X12_sheet, isShM, wi1 c1, in_02, wi0 c2, pI_t, kz82 h4]
  · refine ⟨-1000001, (K, I, R, w), (K, up2 I (z + 82) 0 0, R, w), ?_, k82 h4, ?_, hR.thr 0⟩
    · simp [f_X11_sheet, isSh, wi0 c1]
    · simp [f_X12_sheet, isShM, wi0 c1, pI_t, kz82 h4]
end O4
