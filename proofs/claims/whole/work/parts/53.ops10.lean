section O10
variable {z h k n t : Nat} {K : Nat → Nat × Nat} {I J : Nat → Nat → Int32} {R : Nat → Nat → Option Nat} {w : Nat}
theorem agr_ask (v1 v2 : Int32) : Agr (Rel z) z (f_X11_ask (some z) v1 v2) (f_X12_ask (some (z + 82)) v1 v2) := by
  rintro ⟨K, I, R, w⟩ hR
  obtain ⟨h, h1, h2, h3, h4, h5, h6, h7, h8, -⟩ := hR.opn
  have kz : (K z).1 = 10 + 1 := by rw [kz0 h4]
  have k2' : (K (z + 2)).1 = 8 + 1 := by rw [kz2 h4]
  have k64 : (K (z + 64)).1 = 9 + 1 := by rw [kz64 h4]
  have hr := hR.thr 0
  have h8' : RStrokes z h K (up2 I (z + 82) 0 0) R := h8.fr fun o q p => un_1 (by unfold fpStrokes at p; omega)
  by_cases c1 : 0 ≤ v1 ∧ v1 ≤ nI h - 1
  · obtain ⟨k, hk, rfl⟩ := ix_lt (by omega) c1
    obtain ⟨n, hs⟩ := h8.2.2 k hk
    have hn1 := hs.1
    by_cases c2 : 0 ≤ v2 ∧ v2 ≤ 1
    · obtain ⟨A, hA⟩ : ∃ A, A = up2 I (z + 64) 1 0 := ⟨_, rfl⟩
      have A64 : A (z + 64) 1 = nI 0 := by rw [hA]; exact es
      have sA : RStroke z K A R k n := hs.fr fun o q p => by rw [hA]; exact un_1 (by unfold fpStrokes at p; omega)
      have stM : ∀ {B : Nat → Nat → Int32}, RStroke z K B R k n → RStroke z K (up2 (up2 B (z + 82) 0 0) (z + 82) 41 0) R k n := fun hb => hb.fr fun o q p => by
        unfold fpStrokes at p
        simp (disch := omega) only [un_1, un_2, un_3, un_4, es, up2_self]
      have szM : ∀ {B : Nat → Nat → Int32}, szV z k n (up2 (up2 B (z + 82) 0 0) (z + 82) 41 0) = szV z k n B := by
        intro B
        have e1 : up2 (up2 B (z + 82) 0 0) (z + 82) 41 0 (z + (106 + 3 * k)) = B (z + (106 + 3 * k)) := funext fun q => by simp (disch := omega) only [un_1, un_2, un_3, un_4, es, up2_self]
        have e2 : up2 (up2 B (z + 82) 0 0) (z + 82) 41 0 (z + (107 + 3 * k)) = B (z + (107 + 3 * k)) := funext fun q => by simp (disch := omega) only [un_1, un_2, un_3, un_4, es, up2_self]
        simp only [szV, e1, e2]
      have m41 : ∀ {B : Nat → Nat → Int32}, up2 (up2 B (z + 82) 0 0) (z + 82) 41 0 (z + 82) 41 = nI 0 := es
      have x0 : ∀ (B : Nat → Nat → Int32), RStroke z K B R k n → f_X8_xAt (some (z + (108 + 3 * k))) 0 (K, B, R, w) = some (B (z + (106 + 3 * k)) 0, K, B, R, w) := fun B hb => xAt_X (j := 0) hb hn1
      have y0 : ∀ (B : Nat → Nat → Int32), RStroke z K B R k n → f_X8_yAt (some (z + (108 + 3 * k))) 0 (K, B, R, w) = some (B (z + (107 + 3 * k)) 0, K, B, R, w) := fun B hb => yAt_X (j := 0) hb hn1
      have mx0 : ∀ (B : Nat → Nat → Int32), RStroke z K B R k n → aI (K, B, R, w) (some (z + 87)) 14 (nI (8 * k)) = some (B (z + (106 + 3 * k)) 0) := fun B hb => by
        rw [aI_t (kz87 h4) (show 8 * k < 64 by omega) (by decide), show 8 * k = 8 * k + 0 from rfl, (hb.xx hn1).1]
      have my0 : ∀ (B : Nat → Nat → Int32), RStroke z K B R k n → aI (K, B, R, w) (some (z + 88)) 14 (nI (8 * k)) = some (B (z + (107 + 3 * k)) 0) := fun B hb => by
        rw [aI_t (kz88 h4) (show 8 * k < 64 by omega) (by decide), show 8 * k = 8 * k + 0 from rfl, (hb.xx hn1).2]
      have hX : f_X11_ask (some z) (nI k) v2 (K, I, R, w) = if v2 = 0 then (k3 (K, A, R, w) (some (z + (108 + 3 * k))) (f_X1_sizeAsked (some (z + (108 + 3 * k))) (some (z + 64)) (K, A, R, w)) (f_X2_sizeAsked (some (z + (108 + 3 * k))) (some (z + 64)) (K, A, R, w)) (f_X7_sizeAsked (some (z + (108 + 3 * k))) (some (z + 64)) (K, A, R, w))).bind (fun o => some (o.1, o.2)) else (k3 (K, A, R, w) (some (z + (108 + 3 * k))) (f_X1_markAsked (some (z + (108 + 3 * k))) (some (z + 64)) (K, A, R, w)) (f_X1_markAsked (some (z + (108 + 3 * k))) (some (z + 64)) (K, A, R, w)) (f_X7_markAsked (some (z + (108 + 3 * k))) (some (z + 64)) (K, A, R, w))).bind (fun o => some (o.1, o.2)) := by
        simp only [f_X11_ask, gR_t kz, rz0_1 h4, rz0_5 h4, Option.bind_some, cK_t k2', at_X h4 h8.1 h1 hk hs, isW, wi1 c2, i10, if_false, pI_t k64, ← hA, reduceCtorEq]
      have hM : ∀ B : Nat → Nat → Int32, B (z + 82) 5 = nI h → f_X12_ask (some (z + 82)) (nI k) v2 (K, B, R, w) = if v2 = 0 then (f_X12_sized (some (z + 82)) (nI k) (K, up2 (up2 B (z + 82) 0 0) (z + 82) 41 0, R, w)).bind (fun o => some (o.1, o.2)) else (f_X12_marked (some (z + 82)) (nI k) (K, up2 (up2 B (z + 82) 0 0) (z + 82) 41 0, R, w)).bind (fun o => some (o.1, o.2)) := by
        intro B hB
        have g5 : up2 B (z + 82) 0 0 (z + 82) 5 = nI h := by simp (disch := omega) only [un_1, un_2, un_3, un_4, es, up2_self]; exact hB
        simp only [f_X12_ask, pI_t (k82 h4), Option.bind_some, cK_t (k82 h4), isSt_M h4 g5, wi1 c1, i10, if_false, in_01, wi1 c2]
      have A5 : A (z + 82) 5 = nI h := by rw [hA]; simp (disch := omega) only [un_1, un_2, un_3, un_4, es, up2_self]; exact h8.2.1
      have A_n : ∀ o q, ¬ (o = 64 ∧ q = 1) → A (z + o) q = I (z + o) q := by intro o q p; rw [hA]; simp (disch := omega) only [un_1, un_2, un_3, un_4, es, up2_self]
      by_cases c3 : v2 = 0
      · rcases hs.kc with q | q | q
        · refine ⟨szV z k n A, (K, lx z (lx z A 0 11) 1 10, R, w), (K, lm z (lm z (up2 (up2 (lx z (lx z A 0 11) 1 10) (z + 82) 0 0) (z + 82) 41 0) 0 11) 1 10, R, w), ?_, k82 h4, ?_, ?_⟩
          · rw [hX, if_pos c3, size1_X h4 sA (Or.inl q) A64 (by decide)]
            simp [k3, q]
          · rw [hM _ (by simp (disch := omega) only [lx_n]; exact A5), if_pos c3, sized_M h4 (by omega) (stM ((sA.lx _).lx _)) m41 (by decide), if_neg (by omega), if_neg (by omega), szM, szV_x, szV_x]
            rfl
          · refine ask_rel hR 2 (by decide) ?_ lm_l ?_ ?_
            · simp (disch := omega) only [lm_n, un_1, un_2, un_3, un_4, es, up2_self, lx_l]
            · intro i hi
              rcases (show i = 0 ∨ i = 1 by omega) with rfl | rfl
              · simp (disch := omega) only [lm_n, lm_s, un_1, un_2, un_3, un_4, es, up2_self, lx_n, lx_s]
              · simp (disch := omega) only [lm_n, lm_s, un_1, un_2, un_3, un_4, es, up2_self, lx_n, lx_s]
            · intro o q p
              simp (disch := omega) only [lm_n, un_1, un_2, un_3, un_4, es, up2_self, lx_n, A_n]
        · refine ⟨2 * szV z k n A, (K, lx z (lx z (lx z A 0 12) 1 11) 2 10, R, w), (K, lm z (lm z (lm z (up2 (up2 (lx z (lx z (lx z A 0 12) 1 11) 2 10) (z + 82) 0 0) (z + 82) 41 0) 0 12) 1 11) 2 10, R, w), ?_, k82 h4, ?_, ?_⟩
          · rw [hX, if_pos c3]
            have e1 : f_X2_sizeAsked (some (z + (108 + 3 * k))) (some (z + 64)) (K, A, R, w) = some (2 * szV z k n A, K, lx z (lx z (lx z A 0 12) 1 11) 2 10, R, w) := by
              have e2 := size1_X (w := w) h4 (sA.lx (t := 0) 12) (Or.inr q) lx_l (by decide)
              simp only [f_X2_sizeAsked, cK_t k64, leave_X h4 A64 (by decide), Option.bind_some, cK_t (show (K (z + (108 + 3 * k))).1 = 2 + 1 from q)]
              rw [e2, Option.bind_some, szV_x]
            rw [e1]
            simp [k3, q]
          · rw [hM _ (by simp (disch := omega) only [lx_n]; exact A5), if_pos c3, sized_M h4 (by omega) (stM (((sA.lx _).lx _).lx _)) m41 (by decide), if_neg (by omega), if_pos q, szM, szV_x, szV_x, szV_x]
            rfl
          · refine ask_rel hR 3 (by decide) ?_ lm_l ?_ ?_
            · simp (disch := omega) only [lm_n, un_1, un_2, un_3, un_4, es, up2_self, lx_l]
            · intro i hi
              rcases (show i = 0 ∨ i = 1 ∨ i = 2 by omega) with rfl | rfl | rfl
              · simp (disch := omega) only [lm_n, lm_s, un_1, un_2, un_3, un_4, es, up2_self, lx_n, lx_s]
              · simp (disch := omega) only [lm_n, lm_s, un_1, un_2, un_3, un_4, es, up2_self, lx_n, lx_s]
              · simp (disch := omega) only [lm_n, lm_s, un_1, un_2, un_3, un_4, es, up2_self, lx_n, lx_s]
            · intro o q p
              simp (disch := omega) only [lm_n, un_1, un_2, un_3, un_4, es, up2_self, lx_n, A_n]
        · refine ⟨0, (K, lx z A 0 13, R, w), (K, lm z (up2 (up2 (lx z A 0 13) (z + 82) 0 0) (z + 82) 41 0) 0 13, R, w), ?_, k82 h4, ?_, ?_⟩
          · rw [hX, if_pos c3]
            have e1 : f_X7_sizeAsked (some (z + (108 + 3 * k))) (some (z + 64)) (K, A, R, w) = some (0, K, lx z A 0 13, R, w) := by
              simp only [f_X7_sizeAsked, cK_t k64, leave_X h4 A64 (by decide), Option.bind_some]
            rw [e1]
            simp [k3, q]
          · rw [hM _ (by simp (disch := omega) only [lx_n]; exact A5), if_pos c3, sized_M h4 (by omega) (stM (sA.lx _)) m41 (by decide), if_pos q]
            rfl
          · refine ask_rel hR 1 (by decide) ?_ lm_l ?_ ?_
            · simp (disch := omega) only [lm_n, un_1, un_2, un_3, un_4, es, up2_self, lx_l]
            · intro i hi
              obtain rfl : i = 0 := by omega
              simp (disch := omega) only [lm_n, lm_s, un_1, un_2, un_3, un_4, es, up2_self, lx_n, lx_s]
            · intro o q p
              simp (disch := omega) only [lm_n, un_1, un_2, un_3, un_4, es, up2_self, lx_n, A_n]
      · have g82 : ∀ (H : Nat → Nat → Int32) c, gR (K, H, R, w) (some (z + 82)) 11 c = some (R (z + 82) c) := fun H c => gR_t (k82 h4)
        have mk8 : ∀ B : Nat → Nat → Int32, RStroke z K B R k n → B (z + 64) 1 = nI 0 → f_X8_markAsked (some (z + (108 + 3 * k))) (some (z + 64)) (K, lx z B 0 21, R, w) = some (B (z + (106 + 3 * k)) 0, K, lx z (lx z B 0 21) 1 20, R, w) := by
          intro B hb hB
          simp only [f_X8_markAsked, cK_t k64, leave_X h4 (lx_l (t := 0)) (by decide), Option.bind_some, k3_s hs.kc, x0 _ ((hb.lx _).lx _)]
          simp (disch := omega) only [lx_n]
        rcases hs.kc with q | q | q
        · refine ⟨I (z + (106 + 3 * k)) 0 + szV z k n A, (K, lx z (lx z (lx z (lx z A 0 21) 1 20) 2 11) 3 10, R, w), (K, lm z (lm z (lm z (lm z (up2 (up2 (lx z (lx z (lx z (lx z A 0 21) 1 20) 2 11) 3 10) (z + 82) 0 0) (z + 82) 41 0) 0 21) 1 20) 2 11) 3 10, R, w), ?_, k82 h4, ?_, ?_⟩
          · rw [hX, if_neg c3]
            have e1 : f_X1_markAsked (some (z + (108 + 3 * k))) (some (z + 64)) (K, A, R, w) = some (I (z + (106 + 3 * k)) 0 + szV z k n A, K, lx z (lx z (lx z (lx z A 0 21) 1 20) 2 11) 3 10, R, w) := by
              simp only [f_X1_markAsked, cK_t k64, leave_X h4 A64 (by decide), Option.bind_some, k2_s (Or.inl q), mk8 A sA A64]
              have e2 := size1_X (w := w) h4 ((sA.lx (t := 0) 21).lx (t := 1) 20) (Or.inl q) lx_l (by decide)
              simp only [k2, q, Option.bind_some, if_true]
              rw [e2, Option.bind_some, szV_x, szV_x, A_n _ _ (by omega)]
            rw [e1]
            simp [k3, q]
          · obtain ⟨B, hB⟩ : ∃ B, B = lx z (lx z (lx z (lx z A 0 21) 1 20) 2 11) 3 10 := ⟨_, rfl⟩
            have sB : RStroke z K B R k n := by rw [hB]; exact (((sA.lx _).lx _).lx _).lx _
            have B5 : B (z + 82) 5 = nI h := by rw [hB]; simp (disch := omega) only [lx_n]; exact A5
            have Bz : szV z k n B = szV z k n A := by rw [hB, szV_x, szV_x, szV_x, szV_x]
            have Bx : B (z + (106 + 3 * k)) 0 = I (z + (106 + 3 * k)) 0 := by rw [hB]; simp (disch := omega) only [lx_n, A_n]
            rw [← hB, hM _ B5, if_neg c3]
            have sC := stM sB
            obtain ⟨C, hC⟩ : ∃ C, C = up2 (up2 B (z + 82) 0 0) (z + 82) 41 0 := ⟨_, rfl⟩
            have C41 : C (z + 82) 41 = nI 0 := by rw [hC]; exact m41
            have Cz : szV z k n C = szV z k n A := by rw [hC, szM, Bz]
            have Cx : C (z + (106 + 3 * k)) 0 = I (z + (106 + 3 * k)) 0 := by rw [hC]; simp (disch := omega) only [un_1, un_2, un_3, un_4, es, up2_self]; exact Bx
            rw [← hC] at sC ⊢
            simp only [f_X12_marked, cK_t (k82 h4), kindOf_M h4 (show k < 8 by omega) sC, Option.bind_some, q, kI, b_X12_marked_19, began_M h4 C41 (by decide), began_M h4 (lm_l (t := 0)) (by decide), g82, rz82_7 h4, rz82_8 h4, ix8, mx0 _ ((sC.lm _).lm _), b_X12_marked_59]
            have e3 := sized_M (w := w) h4 (show k < 8 by omega) ((sC.lm (t := 0) 21).lm (t := 1) 20) lm_l (by decide)
            rw [if_neg (by omega), if_neg (by omega), szV_m, szV_m, Cz] at e3
            have e4 : lm z (lm z C 0 21) (0 + 1) 20 (z + (106 + 3 * k)) 0 = I (z + (106 + 3 * k)) 0 := by
              simp (disch := omega) only [lm_n, Cx]
            simp [e3, e4]
          · refine ask_rel hR 4 (by decide) ?_ lm_l ?_ ?_
            · simp (disch := omega) only [lm_n, un_1, un_2, un_3, un_4, es, up2_self, lx_l]
            · intro i hi
              rcases (show i = 0 ∨ i = 1 ∨ i = 2 ∨ i = 3 by omega) with rfl | rfl | rfl | rfl
              · simp (disch := omega) only [lm_n, lm_s, un_1, un_2, un_3, un_4, es, up2_self, lx_n, lx_s]
              · simp (disch := omega) only [lm_n, lm_s, un_1, un_2, un_3, un_4, es, up2_self, lx_n, lx_s]
              · simp (disch := omega) only [lm_n, lm_s, un_1, un_2, un_3, un_4, es, up2_self, lx_n, lx_s]
              · simp (disch := omega) only [lm_n, lm_s, un_1, un_2, un_3, un_4, es, up2_self, lx_n, lx_s]
            · intro o q p
              simp (disch := omega) only [lm_n, un_1, un_2, un_3, un_4, es, up2_self, lx_n, A_n]
        · refine ⟨I (z + (106 + 3 * k)) 0 + 2 * szV z k n A, (K, lx z (lx z (lx z (lx z (lx z A 0 21) 1 20) 2 12) 3 11) 4 10, R, w), (K, lm z (lm z (lm z (lm z (lm z (up2 (up2 (lx z (lx z (lx z (lx z (lx z A 0 21) 1 20) 2 12) 3 11) 4 10) (z + 82) 0 0) (z + 82) 41 0) 0 21) 1 20) 2 12) 3 11) 4 10, R, w), ?_, k82 h4, ?_, ?_⟩
          · rw [hX, if_neg c3]
            have e1 : f_X1_markAsked (some (z + (108 + 3 * k))) (some (z + 64)) (K, A, R, w) = some (I (z + (106 + 3 * k)) 0 + 2 * szV z k n A, K, lx z (lx z (lx z (lx z (lx z A 0 21) 1 20) 2 12) 3 11) 4 10, R, w) := by
              simp only [f_X1_markAsked, cK_t k64, leave_X h4 A64 (by decide), Option.bind_some, k2_s (Or.inr q), mk8 A sA A64]
              have e2 := size1_X (w := w) h4 (((sA.lx (t := 0) 21).lx (t := 1) 20).lx (t := 2) 12) (Or.inr q) lx_l (by decide)
              have e3 : f_X2_sizeAsked (some (z + (108 + 3 * k))) (some (z + 64)) (K, lx z (lx z A 0 21) 1 20, R, w) = some (2 * szV z k n A, K, lx z (lx z (lx z (lx z (lx z A 0 21) 1 20) 2 12) 3 11) 4 10, R, w) := by
                simp only [f_X2_sizeAsked, cK_t k64, leave_X h4 (lx_l (t := 1)) (by decide), Option.bind_some, cK_t (show (K (z + (108 + 3 * k))).1 = 2 + 1 from q)]
                rw [e2, Option.bind_some, szV_x, szV_x, szV_x]
              simp [k2, q, e3]
              rw [A_n _ _ (by omega)]
            rw [e1]
            simp [k3, q]
          · obtain ⟨B, hB⟩ : ∃ B, B = lx z (lx z (lx z (lx z (lx z A 0 21) 1 20) 2 12) 3 11) 4 10 := ⟨_, rfl⟩
            have sB : RStroke z K B R k n := by rw [hB]; exact ((((sA.lx _).lx _).lx _).lx _).lx _
            have B5 : B (z + 82) 5 = nI h := by rw [hB]; simp (disch := omega) only [lx_n]; exact A5
            have Bz : szV z k n B = szV z k n A := by rw [hB, szV_x, szV_x, szV_x, szV_x, szV_x]
            have Bx : B (z + (106 + 3 * k)) 0 = I (z + (106 + 3 * k)) 0 := by rw [hB]; simp (disch := omega) only [lx_n, A_n]
            rw [← hB, hM _ B5, if_neg c3]
            have sC := stM sB
            obtain ⟨C, hC⟩ : ∃ C, C = up2 (up2 B (z + 82) 0 0) (z + 82) 41 0 := ⟨_, rfl⟩
            have C41 : C (z + 82) 41 = nI 0 := by rw [hC]; exact m41
            have Cz : szV z k n C = szV z k n A := by rw [hC, szM, Bz]
            have Cx : C (z + (106 + 3 * k)) 0 = I (z + (106 + 3 * k)) 0 := by rw [hC]; simp (disch := omega) only [un_1, un_2, un_3, un_4, es, up2_self]; exact Bx
            rw [← hC] at sC ⊢
            simp only [f_X12_marked, cK_t (k82 h4), kindOf_M h4 (show k < 8 by omega) sC, Option.bind_some, q, kI, b_X12_marked_19, began_M h4 C41 (by decide), began_M h4 (lm_l (t := 0)) (by decide), g82, rz82_7 h4, rz82_8 h4, ix8, mx0 _ ((sC.lm _).lm _), b_X12_marked_59]
            have e3 := sized_M (w := w) h4 (show k < 8 by omega) ((sC.lm (t := 0) 21).lm (t := 1) 20) lm_l (by decide)
            rw [if_neg (by omega), if_pos q, szV_m, szV_m, Cz] at e3
            have e4 : lm z (lm z C 0 21) (0 + 1) 20 (z + (106 + 3 * k)) 0 = I (z + (106 + 3 * k)) 0 := by
              simp (disch := omega) only [lm_n, Cx]
            simp [e3, e4]
          · refine ask_rel hR 5 (by decide) ?_ lm_l ?_ ?_
            · simp (disch := omega) only [lm_n, un_1, un_2, un_3, un_4, es, up2_self, lx_l]
            · intro i hi
              rcases (show i = 0 ∨ i = 1 ∨ i = 2 ∨ i = 3 ∨ i = 4 by omega) with rfl | rfl | rfl | rfl | rfl
              · simp (disch := omega) only [lm_n, lm_s, un_1, un_2, un_3, un_4, es, up2_self, lx_n, lx_s]
              · simp (disch := omega) only [lm_n, lm_s, un_1, un_2, un_3, un_4, es, up2_self, lx_n, lx_s]
              · simp (disch := omega) only [lm_n, lm_s, un_1, un_2, un_3, un_4, es, up2_self, lx_n, lx_s]
              · simp (disch := omega) only [lm_n, lm_s, un_1, un_2, un_3, un_4, es, up2_self, lx_n, lx_s]
              · simp (disch := omega) only [lm_n, lm_s, un_1, un_2, un_3, un_4, es, up2_self, lx_n, lx_s]
            · intro o q p
              simp (disch := omega) only [lm_n, un_1, un_2, un_3, un_4, es, up2_self, lx_n, A_n]
        · refine ⟨I (z + (106 + 3 * k)) 0 + I (z + (107 + 3 * k)) 0, (K, lx z (lx z A 0 22) 1 20, R, w), (K, lm z (lm z (up2 (up2 (lx z (lx z A 0 22) 1 20) (z + 82) 0 0) (z + 82) 41 0) 0 22) 1 20, R, w), ?_, k82 h4, ?_, ?_⟩
          · rw [hX, if_neg c3]
            have e1 : f_X7_markAsked (some (z + (108 + 3 * k))) (some (z + 64)) (K, A, R, w) = some (I (z + (106 + 3 * k)) 0 + I (z + (107 + 3 * k)) 0, K, lx z (lx z A 0 22) 1 20, R, w) := by
              simp only [f_X7_markAsked, cK_t k64, leave_X h4 A64 (by decide), Option.bind_some, cK_t (show (K (z + (108 + 3 * k))).1 = 7 + 1 from q), f_X8_markAsked, leave_X h4 (lx_l (t := 0)) (by decide), k3_s hs.kc, x0 _ ((sA.lx _).lx _), y0 _ ((sA.lx _).lx _)]
              simp (disch := omega) only [lx_n, A_n]
            rw [e1]
            simp [k3, q]
          · obtain ⟨B, hB⟩ : ∃ B, B = lx z (lx z A 0 22) 1 20 := ⟨_, rfl⟩
            have sB : RStroke z K B R k n := by rw [hB]; exact (sA.lx _).lx _
            have B5 : B (z + 82) 5 = nI h := by rw [hB]; simp (disch := omega) only [lx_n]; exact A5
            have Bx : B (z + (106 + 3 * k)) 0 = I (z + (106 + 3 * k)) 0 := by rw [hB]; simp (disch := omega) only [lx_n, A_n]
            have By : B (z + (107 + 3 * k)) 0 = I (z + (107 + 3 * k)) 0 := by rw [hB]; simp (disch := omega) only [lx_n, A_n]
            rw [← hB, hM _ B5, if_neg c3]
            have sC := stM sB
            obtain ⟨C, hC⟩ : ∃ C, C = up2 (up2 B (z + 82) 0 0) (z + 82) 41 0 := ⟨_, rfl⟩
            have C41 : C (z + 82) 41 = nI 0 := by rw [hC]; exact m41
            have Cx : C (z + (106 + 3 * k)) 0 = I (z + (106 + 3 * k)) 0 := by rw [hC]; simp (disch := omega) only [un_1, un_2, un_3, un_4, es, up2_self]; exact Bx
            have Cy : C (z + (107 + 3 * k)) 0 = I (z + (107 + 3 * k)) 0 := by rw [hC]; simp (disch := omega) only [un_1, un_2, un_3, un_4, es, up2_self]; exact By
            rw [← hC] at sC ⊢
            simp only [f_X12_marked, cK_t (k82 h4), kindOf_M h4 (show k < 8 by omega) sC, Option.bind_some, q, kI, if_true, b_X12_marked_19, began_M h4 C41 (by decide), began_M h4 (lm_l (t := 0)) (by decide), g82, rz82_7 h4, rz82_8 h4, ix8, mx0 _ ((sC.lm _).lm _), my0 _ ((sC.lm _).lm _), b_X12_marked_59]
            simp (disch := omega) only [lm_n, Cx, Cy]
          · refine ask_rel hR 2 (by decide) ?_ lm_l ?_ ?_
            · simp (disch := omega) only [lm_n, un_1, un_2, un_3, un_4, es, up2_self, lx_l]
            · intro i hi
              rcases (show i = 0 ∨ i = 1 by omega) with rfl | rfl
              · simp (disch := omega) only [lm_n, lm_s, un_1, un_2, un_3, un_4, es, up2_self, lx_n, lx_s]
              · simp (disch := omega) only [lm_n, lm_s, un_1, un_2, un_3, un_4, es, up2_self, lx_n, lx_s]
            · intro o q p
              simp (disch := omega) only [lm_n, un_1, un_2, un_3, un_4, es, up2_self, lx_n, A_n]
    · refine ⟨-1000001, (K, I, R, w), (K, up2 I (z + 82) 0 0, R, w), ?_, k82 h4, ?_, hr⟩
      · simp only [f_X11_ask, gR_t kz, rz0_1 h4, Option.bind_some, cK_t k2', at_X h4 h8.1 h1 hk hs, isW, wi0 c2, if_false, if_true, reduceCtorEq]
      · simp only [f_X12_ask, pI_t (k82 h4), Option.bind_some, cK_t (k82 h4), isSt_M h4 h8'.2.1, wi1 c1, i10, if_false, in_01, wi0 c2, if_true]
  · refine ⟨-1000001, (K, I, R, w), (K, up2 I (z + 82) 0 0, R, w), ?_, k82 h4, ?_, hr⟩
    · simp only [f_X11_ask, gR_t kz, rz0_1 h4, Option.bind_some, cK_t k2', at_N h4 h8.1 h1 c1, if_true]
    · simp only [f_X12_ask, pI_t (k82 h4), Option.bind_some, cK_t (k82 h4), isSt_M h4 h8'.2.1, wi0 c1, if_true]
end O10
