section OB
variable {z h k n m t : Nat} {K : Nat → Nat × Nat} {I J : Nat → Nat → Int32} {R : Nat → Nat → Option Nat} {w : Nat}
theorem and1 (x : Int32) : x &&& 1 = 0 ∨ x &&& 1 = 1 := by
  have e : (x &&& 1).toBitVec.toNat = x.toBitVec.toNat % 2 := by
    simp [Nat.and_one_is_mod]
  rcases Nat.mod_two_eq_zero_or_one x.toBitVec.toNat with q | q
  · left
    rw [← Int32.toBitVec_inj]
    apply BitVec.eq_of_toNat_eq
    rw [e, q]; rfl
  · right
    rw [← Int32.toBitVec_inj]
    apply BitVec.eq_of_toNat_eq
    rw [e, q]; rfl
theorem ix2 (i : Nat) : (2 : Int32) * nI i = nI (2 * i) := by rw [show (2 : Int32) = nI 2 from rfl, pk_mul]
theorem dkS_c {pn px py od bk od' bk' : Nat → Int32} {h : Nat} (e1 : ∀ k, k < h → od k = od' k) (e2 : ∀ k, k < h → bk k = bk' k) : ∀ j, j ≤ h → dkS pn px py od bk j = dkS pn px py od' bk' j ∧ pre pn px od bk j = pre pn px od' bk' j ∧ pre pn py od bk j = pre pn py od' bk' j := by
  intro j
  induction j with
  | zero => intro _; exact ⟨rfl, rfl, rfl⟩
  | succ j ih =>
    intro hj
    obtain ⟨a1, a2, a3⟩ := ih (by omega)
    refine ⟨?_, ?_, ?_⟩
    · simp only [dkS]
      rw [a1, a2, a3]
      simp only [ePt, e1 j (by omega), e2 j (by omega)]
    · show ePt _ _ _ _ _ _ = ePt _ _ _ _ _ _
      simp only [ePt, eN, e1 j (by omega), e2 j (by omega)]
    · show ePt _ _ _ _ _ _ = ePt _ _ _ _ _ _
      simp only [ePt, eN, e1 j (by omega), e2 j (by omega)]
theorem dkW_c {pn px py od bk od' bk' : Nat → Int32} {h : Nat} (e1 : ∀ k, k < h → od k = od' k) (e2 : ∀ k, k < h → bk k = bk' k) : dkW pn px py od bk h = dkW pn px py od' bk' h := by
  obtain ⟨a1, a2, a3⟩ := dkS_c (pn := pn) (px := px) (py := py) e1 e2 h (Nat.le_refl _)
  simp only [dkW, a1, a2, a3]
theorem plan_2 (hS : Shp z K R) (h8 : h ≤ 8) {s i m : Nat} (hs8 : s < 8) (hm : m ≤ 40) (him : i + 2 * h ≤ m) (e2 : I (z + (66 + 2 * s)) 2 = nI m) (e3 : I (z + 2) 3 = nI h) (e5 : J (z + 82) 5 = nI h) (e85 : ∀ j, j < 40 → J (z + 85) (40 * s + j) = I (z + (67 + 2 * s)) j) : ∀ fu j (met : Int32), j ≤ h → h < fu + j →
    (b_X9_isPlan_5 fu (some (z + 2)) (some (z + (66 + 2 * s))) (nI i) met (nI j) (K, I, R, w) = some (1, K, I, R, w) ∧ b_X12_plan_76 fu (some (z + 82)) (nI s) (nI i) met (nI j) (K, J, R, w) = b_X12_plan_165 (some (z + 82)) (nI s) (nI i) (K, J, R, w) ∧ ∀ k, j ≤ k → k < h → ∃ q, q < h ∧ I (z + (67 + 2 * s)) (i + 2 * k) = nI q ∧ (I (z + (67 + 2 * s)) (i + 2 * k + 1) = 0 ∨ I (z + (67 + 2 * s)) (i + 2 * k + 1) = 1)) ∨
    (b_X9_isPlan_5 fu (some (z + 2)) (some (z + (66 + 2 * s))) (nI i) met (nI j) (K, I, R, w) = some (0, K, I, R, w) ∧ b_X12_plan_76 fu (some (z + 82)) (nI s) (nI i) met (nI j) (K, J, R, w) = some (-1000001, K, J, R, w)) := by
  have k2' : (K (z + 2)).1 = 8 + 1 := by rw [kz2 hS]
  have kS : (K (z + (66 + 2 * s))).1 = 5 + 1 := by rw [kzS hS hs8]
  intro fu
  induction fu with
  | zero => intro j met a b; omega
  | succ fu ih =>
    intro j met a b
    rw [b_X9_isPlan_5, b_X12_plan_76]
    simp only [gI_t k2', gI_t (k82 hS), e3, e5, Option.bind_some]
    by_cases c : j = h
    · subst c
      left
      rw [if_pos (nI_le (Nat.le_refl _) (by omega)), if_pos (nI_le (Nat.le_refl _) (by omega))]
      exact ⟨rfl, rfl, fun k a b => by omega⟩
    · have hj : j < h := by omega
      have p0 : nI (i + 2 * j) + 1 = nI (i + 2 * j + 1) := nI_1 _
      have q0 : (40 : Int32) * nI s + nI i + nI (2 * j) = nI (40 * s + (i + 2 * j)) := by rw [ix40, nI_add, Nat.add_assoc]
      have q1 : nI (40 * s + (i + 2 * j)) + 1 = nI (40 * s + (i + 2 * j + 1)) := nI_1 _
      rw [if_neg (nI_ge hj (by omega)), if_neg (nI_ge hj (by omega))]
      simp only [cK_t kS, ix2, p0, nI_add i (2 * j), item_X hS hs8 hm e2 (show i + 2 * j < m by omega), item_X hS hs8 hm e2 (show i + 2 * j + 1 < m by omega), Option.bind_some, isW, gI_t k2', e3, gR_t (k82 hS), rz82_4 hS, q0, q1, aI_t (kz85 hS) (show 40 * s + (i + 2 * j) < 320 by omega) (by decide), aI_t (kz85 hS) (show 40 * s + (i + 2 * j + 1) < 320 by omega) (by decide), e85 (i + 2 * j) (by omega), e85 (i + 2 * j + 1) (by omega), cK_t (k82 hS), isSt_M hS e5, in_01]
      by_cases c1 : 0 ≤ I (z + (67 + 2 * s)) (i + 2 * j) ∧ I (z + (67 + 2 * s)) (i + 2 * j) ≤ nI h - 1
      · by_cases c2 : 0 ≤ I (z + (67 + 2 * s)) (i + 2 * j + 1) ∧ I (z + (67 + 2 * s)) (i + 2 * j + 1) ≤ 1
        · rcases and1 (met >>> (I (z + (67 + 2 * s)) (i + 2 * j) &&& 31)) with c3 | c3
          · simp only [wi1 c1, wi1 c2, i10, if_false, c3, if_true, lt1, nI_1, show ¬ (0 : Int32) = 1 by decide]
            rcases ih (j + 1) (met ||| (1 : Int32) <<< (I (z + (67 + 2 * s)) (i + 2 * j) &&& 31)) (by omega) (by omega) with ⟨r1, r2, r3⟩ | ⟨r1, r2⟩
            · left
              refine ⟨r1, r2, fun k a b => ?_⟩
              by_cases ek : k = j
              · subst ek
                obtain ⟨q, hq, e⟩ := ix_lt (by omega) c1
                refine ⟨q, hq, e, ?_⟩
                obtain ⟨p, hp, e'⟩ := ix_le (n := 1) (by decide) c2
                rw [e']
                rcases (show p = 0 ∨ p = 1 by omega) with rfl | rfl
                · exact Or.inl rfl
                · exact Or.inr rfl
              · exact r3 k (by omega) b
            · right; exact ⟨r1, r2⟩
          · right
            simp only [wi1 c1, wi1 c2, i10, if_false, c3, if_true]
            exact ⟨rfl, trivial⟩
        · right
          refine ⟨by simp only [wi1 c1, wi0 c2, i10, if_false, if_true]; rfl, ?_⟩
          rcases and1 (met >>> (I (z + (67 + 2 * s)) (i + 2 * j) &&& 31)) with c3 | c3
          · simp only [wi1 c1, wi0 c2, i10, if_false, c3, show ¬ (0 : Int32) = 1 by decide, if_true]
          · simp only [wi1 c1, i10, if_false, c3, if_true]
      · right
        simp only [wi0 c1, if_true]
        exact ⟨rfl, trivial⟩
theorem pset_X (hS : Shp z K R) (h8 : h ≤ 8) {s i m : Nat} (hs8 : s < 8) (hm : m ≤ 40) (him : i + 2 * h ≤ m) : ∀ fu j (J : Nat → Nat → Int32), J (z + (66 + 2 * s)) 2 = nI m → J (z + 2) 3 = nI h → j ≤ h → h < fu + j → ∃ A : Nat → Nat → Int32, b_X11_plan_84 fu (some z) (nI i) (some (z + (66 + 2 * s))) (nI j) (K, J, R, w) = b_X11_plan_133 (some z) (K, A, R, w) ∧ (∀ k, j ≤ k → k < h → A (z + 4) k = J (z + (67 + 2 * s)) (i + 2 * k) ∧ A (z + 5) k = J (z + (67 + 2 * s)) (i + 2 * k + 1)) ∧ ∀ o q, ¬ (o = 4 ∧ j ≤ q ∧ q < h) → ¬ (o = 5 ∧ j ≤ q ∧ q < h) → A (z + o) q = J (z + o) q := by
  have kz : (K z).1 = 10 + 1 := by rw [kz0 hS]
  have k2' : (K (z + 2)).1 = 8 + 1 := by rw [kz2 hS]
  have kS : (K (z + (66 + 2 * s))).1 = 5 + 1 := by rw [kzS hS hs8]
  intro fu
  induction fu with
  | zero => intro j J _ _ a b; omega
  | succ fu ih =>
    intro j J e2 e3 a b
    rw [b_X11_plan_84]
    simp only [gR_t kz, rz0_1 hS, gI_t k2', e3, Option.bind_some]
    by_cases c : j = h
    · subst c
      rw [if_pos (nI_le (Nat.le_refl _) (by omega))]
      exact ⟨J, rfl, fun k a b => by omega, fun _ _ _ _ => rfl⟩
    · have hj : j < h := by omega
      have p0 : nI (i + 2 * j) + 1 = nI (i + 2 * j + 1) := nI_1 _
      rw [if_neg (nI_ge hj (by omega))]
      simp only [cK_t kS, ix2, nI_add, p0, item_X hS hs8 hm e2 (show i + 2 * j < m by omega), item_X hS hs8 hm e2 (show i + 2 * j + 1 < m by omega), Option.bind_some, cK_t k2', f_X9_planAt, if_neg (nI_pos (show j < 2 ^ 31 by omega)), if_neg (i8nle (show j < 8 by omega)), gR_t k2', rz2_1 hS, rz2_2 hS, sI_t (kz4 hS) (show j < 8 by omega) (by decide), sI_t (kz5 hS) (show j < 8 by omega) (by decide), nar14, lt1, nI_1]
      obtain ⟨A, r1, r2, r3⟩ := ih (j + 1) (up2 (up2 J (z + 4) j (J (z + (67 + 2 * s)) (i + 2 * j))) (z + 5) j (J (z + (67 + 2 * s)) (i + 2 * j + 1))) (by simp (disch := omega) only [un_1, un_2, un_3, un_4, es, up2_self]; exact e2) (by simp (disch := omega) only [un_1, un_2, un_3, un_4, es, up2_self]; exact e3) (by omega) (by omega)
      refine ⟨A, r1, fun k a b => ?_, fun o q a b => ?_⟩
      · by_cases ek : k = j
        · subst ek
          rw [r3 4 k (by omega) (by omega), r3 5 k (by omega) (by omega)]
          simp (disch := omega) only [un_1, un_2, un_3, un_4, es, up2_self]
          exact ⟨trivial, trivial⟩
        · have := r2 k (by omega) b
          simp (disch := omega) only [un_1, un_2, un_3, un_4, es, up2_self] at this
          exact this
      · rw [r3 o q (by omega) (by omega)]
        simp (disch := omega) only [un_1, un_2, un_3, un_4, es, up2_self]
theorem pset_M (hS : Shp z K R) (h8 : h ≤ 8) {s i m : Nat} (hs8 : s < 8) (hm : m ≤ 40) (him : i + 2 * h ≤ m) : ∀ fu j (J : Nat → Nat → Int32), J (z + 82) 5 = nI h → j ≤ h → h < fu + j → ∃ A : Nat → Nat → Int32, b_X12_plan_173 fu (some (z + 82)) (nI s) (nI i) (nI j) (K, J, R, w) = b_X12_plan_236 (some (z + 82)) (K, A, R, w) ∧ (∀ k, j ≤ k → k < h → A (z + 89) k = J (z + 85) (40 * s + (i + 2 * k)) ∧ A (z + 90) k = J (z + 85) (40 * s + (i + 2 * k + 1))) ∧ ∀ o q, ¬ (o = 89 ∧ j ≤ q ∧ q < h) → ¬ (o = 90 ∧ j ≤ q ∧ q < h) → A (z + o) q = J (z + o) q := by
  intro fu
  induction fu with
  | zero => intro j J _ a b; omega
  | succ fu ih =>
    intro j J e3 a b
    rw [b_X12_plan_173]
    simp only [gI_t (k82 hS), e3, Option.bind_some]
    by_cases c : j = h
    · subst c
      rw [if_pos (nI_le (Nat.le_refl _) (by omega))]
      exact ⟨J, rfl, fun k a b => by omega, fun _ _ _ _ => rfl⟩
    · have hj : j < h := by omega
      have q0 : (40 : Int32) * nI s + nI i + nI (2 * j) = nI (40 * s + (i + 2 * j)) := by rw [ix40, nI_add, Nat.add_assoc]
      have q1 : nI (40 * s + (i + 2 * j)) + 1 = nI (40 * s + (i + 2 * j + 1)) := nI_1 _
      rw [if_neg (nI_ge hj (by omega))]
      have e9 : up2 J (z + 89) j (J (z + 85) (40 * s + (i + 2 * j))) (z + 85) (40 * s + (i + 2 * j + 1)) = J (z + 85) (40 * s + (i + 2 * j + 1)) := by simp (disch := omega) only [un_1, un_2, un_3, un_4, es, up2_self]
      simp only [gR_t (k82 hS), rz82_4 hS, rz82_9 hS, rz82_10 hS, ix2, q0, q1, aI_t (kz85 hS) (show 40 * s + (i + 2 * j) < 320 by omega) (by decide), aI_t (kz85 hS) (show 40 * s + (i + 2 * j + 1) < 320 by omega) (by decide), Option.bind_some, sI_t (kz89 hS) (show j < 8 by omega) (by decide), sI_t (kz90 hS) (show j < 8 by omega) (by decide), nar14, lt1, nI_1, e9]
      obtain ⟨A, r1, r2, r3⟩ := ih (j + 1) (up2 (up2 J (z + 89) j (J (z + 85) (40 * s + (i + 2 * j)))) (z + 90) j (J (z + 85) (40 * s + (i + 2 * j + 1)))) (by simp (disch := omega) only [un_1, un_2, un_3, un_4, es, up2_self]; exact e3) (by omega) (by omega)
      refine ⟨A, r1, fun k a b => ?_, fun o q a b => ?_⟩
      · by_cases ek : k = j
        · subst ek
          rw [r3 89 k (by omega) (by omega), r3 90 k (by omega) (by omega)]
          simp (disch := omega) only [un_1, un_2, un_3, un_4, es, up2_self]
          exact ⟨trivial, trivial⟩
        · have := r2 k (by omega) b
          simp (disch := omega) only [un_1, un_2, un_3, un_4, es, up2_self] at this
          exact this
      · rw [r3 o q (by omega) (by omega)]
        simp (disch := omega) only [un_1, un_2, un_3, un_4, es, up2_self]
/-- found behind thrown alone (plan and stroke set no status first) -/
theorem Rel.fnd1 (hR : Rel z (K, I, R, w)) (n : Int32) : Rel z (K, up2 (up2 (up2 I z 6 n) (z + 82) 0 0) (z + 82) 1 n, R, w) := by
  have fA : ∀ fp : Nat → Nat → Prop, (∀ o q, fp o q → ¬ (o = 0 ∧ q = 6) ∧ ¬ (o = 82 ∧ q = 0) ∧ ¬ (o = 82 ∧ q = 1)) → Fr fp z I (up2 (up2 (up2 I z 6 n) (z + 82) 0 0) (z + 82) 1 n) := by
    intro fp hq o q p
    have := hq o q p
    simp (disch := omega) only [un_1, un_2, un_3, un_4, es, up2_self]
  refine hR.asm ?_ (Or.inl (fA fpSheets (by intro o q p; unfold fpSheets at p; omega))) (fA fpStrokes (by intro o q p; unfold fpStrokes at p; omega)) (Or.inl (fA fpPlan (by intro o q p; unfold fpPlan at p; omega))) (Or.inl (fA fpBest (by intro o q p; unfold fpBest at p; omega))) (Or.inl (fA fpRules (by intro o q p; unfold fpRules at p; omega))) (Or.inl (fA fpZones (by intro o q p; unfold fpZones at p; omega))) (Or.inl (fA fpShow (by intro o q p; unfold fpShow at p; omega))) (Or.inl (fA fpCues (by intro o q p; unfold fpCues at p; omega))) (Or.inl (fA fpTrace (by intro o q p; unfold fpTrace at p; omega)))
  simp (disch := omega) only [un_1, un_2, un_3, un_4, es, up2_self]
theorem agr_plan (v1 v2 : Int32) : Agr (Rel z) z (f_X11_plan (some z) v1 v2) (f_X12_plan (some (z + 82)) v1 v2) := by
  rintro ⟨K, I, R, w⟩ hR
  obtain ⟨h, h1, h2, h3, h4, h5, h6, h7, h8, h9, h10, h11, h12, h13, h14, h15⟩ := hR.opn
  have kz : (K z).1 = 10 + 1 := by rw [kz0 h4]
  have k2' : (K (z + 2)).1 = 8 + 1 := by rw [kz2 h4]
  have k10 : (K (z + 10)).1 = 6 + 1 := by rw [kz10 h4]
  have hr := hR.thr 0
  by_cases c1 : 0 ≤ v1 ∧ v1 ≤ 7
  · obtain ⟨s, hs, rfl⟩ := ix_le (n := 7) (by decide) c1
    have hs8 : s < 8 := by omega
    have kS : (K (z + (66 + 2 * s))).1 = 5 + 1 := by rw [kzS h4 hs8]
    obtain ⟨g1, g2, g3, ⟨m, m1, m2⟩, g5⟩ := h7 s hs8
    by_cases c2 : h = 0
    · subst c2
      refine ⟨-1000002, (K, I, R, w), (K, up2 I (z + 82) 0 0, R, w), ?_, k82 h4, ?_, hr⟩
      · simp only [f_X11_plan, isSh, wi1 c1, i10, if_false, Option.bind_some, gR_t kz, rz0_1 h4, gI_t k2', h8.1, show nI 0 = 0 from rfl, if_true]
      · have e : up2 I (z + 82) 0 0 (z + 82) 5 = nI 0 := by simp (disch := omega) only [un_1, un_2, un_3, un_4, es, up2_self]; exact h8.2.1
        simp only [f_X12_plan, pI_t (k82 h4), isShM, wi1 c1, i10, if_false, Option.bind_some, gI_t (k82 h4), e, show nI 0 = 0 from rfl, if_true]
    · have h0 : 0 < h := by omega
      have hne : ¬ nI h = 0 := nI_ne0 h0 (by omega)
      by_cases c3 : I (z + 83) s = -1
      · have c3' : I (z + (66 + 2 * s)) 1 = -1 := g1.trans c3
        refine ⟨-1000011, (K, up2 I z 6 1, R, w), (K, up2 (up2 (up2 I z 6 1) (z + 82) 0 0) (z + 82) 1 1, R, w), ?_, k82 h4, ?_, hR.fnd1 1⟩
        · simp only [f_X11_plan, isSh, wi1 c1, i10, if_false, Option.bind_some, gR_t kz, rz0_1 h4, rz0_0 h4, gI_t k2', h8.1, hne, aR_t (kz1 h4) hs8 (by decide), rzS h4 hs8, cK_t kS, miss_X h4 hs8, c3', if_true, cK_t kz, found_X h4]
          rfl
        · have e : up2 (up2 I z 6 1) (z + 82) 0 0 (z + 82) 5 = nI h := by simp (disch := omega) only [un_1, un_2, un_3, un_4, es, up2_self]; exact h8.2.1
          have e' : up2 (up2 I z 6 1) (z + 82) 0 0 (z + 83) s = -1 := by simp (disch := omega) only [un_1, un_2, un_3, un_4, es, up2_self]; exact c3
          simp only [f_X12_plan, pI_t (k82 h4), isShM, wi1 c1, i10, if_false, Option.bind_some, gI_t (k82 h4), e, hne, gR_t (k82 h4), rz82_2 h4, aI_t (kz83 h4) hs8 (by decide), e', show ¬ (0 : Int32) ≤ -1 by decide, cK_t (k82 h4), found_M h4]
          rfl
      · have c3' : ¬ I (z + (66 + 2 * s)) 1 = -1 := fun q => c3 (g1.symm.trans q)
        have c4 : 0 ≤ I (z + 83) s := (lane_neg g3).mpr c3
        have n2 : ¬ nI (2 * h) < 0 := nI_pos (by omega)
        rcases has_2 v2 (nI (2 * h)) m1 with ⟨i, c, rfl, ec, hic, eh, e64⟩ | ⟨eh, ebad⟩
        · obtain rfl : c = 2 * h := ((nI_eq (by omega) (by omega)).mp ec).symm
          have e5 : up2 I (z + 82) 0 0 (z + 82) 5 = nI h := by simp (disch := omega) only [un_1, un_2, un_3, un_4, es, up2_self]; exact h8.2.1
          have n0 : ¬ nI i < 0 := nI_pos (by omega)
          have Xa : f_X11_plan (some z) (nI s) (nI i) (K, I, R, w) = (f_X9_isPlan (some (z + 2)) (some (z + (66 + 2 * s))) (nI i) (K, I, R, w)).bind fun o16 => (if o16.1 = 0 then some ((-1000001 : Int32), o16.2) else b_X11_plan_84 FU (some z) (nI i) (some (z + (66 + 2 * s))) (0 : Int32) o16.2) := by
            simp only [f_X11_plan, isSh, wi1 c1, i10, if_false, Option.bind_some, gR_t kz, rz0_1 h4, rz0_0 h4, gI_t k2', h8.1, hne, aR_t (kz1 h4) hs8 (by decide), rzS h4 hs8, cK_t kS, miss_X h4 hs8, if_neg c3', if_true, ix2, has_X h4 hs8, g2, m2, eh, cK_t k2']
          have Ma : ∀ B : Nat → Nat → Int32, B (z + 82) 5 = nI h → B (z + 83) s = I (z + 83) s → B (z + 84) s = nI m → f_X12_plan (some (z + 82)) (nI s) (nI i) (K, B, R, w) = b_X12_plan_76 FU (some (z + 82)) (nI s) (nI i) 0 0 (K, up2 B (z + 82) 0 0, R, w) := by
            intro B b1 b2 b3
            have e1 : up2 B (z + 82) 0 0 (z + 82) 5 = nI h := by simp (disch := omega) only [un_1, un_2, un_3, un_4, es, up2_self]; exact b1
            have e2 : up2 B (z + 82) 0 0 (z + 83) s = I (z + 83) s := by simp (disch := omega) only [un_1, un_2, un_3, un_4, es, up2_self]; exact b2
            have e3 : up2 B (z + 82) 0 0 (z + 84) s = nI m := by simp (disch := omega) only [un_1, un_2, un_3, un_4, es, up2_self]; exact b3
            simp only [f_X12_plan, pI_t (k82 h4), isShM, wi1 c1, i10, if_false, Option.bind_some, gI_t (k82 h4), e1, hne, gR_t (k82 h4), rz82_2 h4, rz82_3 h4, aI_t (kz83 h4) hs8 (by decide), aI_t (kz84 h4) hs8 (by decide), e2, if_pos c4, if_neg n0, e3, ix2, (c64_le _ _).mpr e64, if_true]
          have P := fun (J : Nat → Nat → Int32) e1 e2 => plan_2 (w := w) (I := I) (J := J) h4 h1 hs8 m1 hic (g2.trans m2) h8.1 e1 e2 FU 0 0 (by omega) (by unfold FU; omega)
          rcases P (up2 I (z + 82) 0 0) e5 (fun j hj => by simp (disch := omega) only [un_1, un_2, un_3, un_4, es, up2_self]; exact (g5 j hj).symm) with ⟨r1, -, r3⟩ | ⟨r1, r2⟩
          · obtain ⟨A, a1, a2, a3⟩ := pset_X (w := w) h4 h1 hs8 m1 hic FU 0 I (g2.trans m2) h8.1 (by omega) (by unfold FU; omega)
            have A_n : ∀ o q, o ≠ 4 → o ≠ 5 → A (z + o) q = I (z + o) q := fun o q p p' => a3 o q (by omega) (by omega)
            obtain ⟨B, hB⟩ : ∃ B, B = up2 A (z + 10) 12 0 := ⟨_, rfl⟩
            have sB : RStrokes z h K B R := h8.fr fun o q p => by
              unfold fpStrokes at p
              rw [hB]; simp (disch := omega) only [un_1, un_2, un_3, un_4, es, up2_self]; exact A_n o q (by omega) (by omega)
            have eB4 : ∀ k, k < h → B (z + 4) k = I (z + (67 + 2 * s)) (i + 2 * k) ∧ B (z + 5) k = I (z + (67 + 2 * s)) (i + 2 * k + 1) := by
              intro k hk
              rw [hB]; simp (disch := omega) only [un_1, un_2, un_3, un_4, es, up2_self]; exact a2 k (by omega) hk
            have dX := dark_X (w := w) h4 h1 sB (fun k hk => by
              obtain ⟨q, q1, q2, -⟩ := r3 k (by omega) hk
              exact ⟨q, q1, by rw [(eB4 k hk).1, q2]⟩)
            obtain ⟨V, hV⟩ : ∃ V, V = dkW (B (z + 86)) (B (z + 87)) (B (z + 88)) (B (z + 4)) (B (z + 5)) h := ⟨_, rfl⟩
            obtain ⟨C, hC⟩ : ∃ C, C = up2 B z 6 0 := ⟨_, rfl⟩
            have C_n : ∀ o q, o ≠ 4 → o ≠ 5 → ¬ (o = 10 ∧ q = 12) → ¬ (o = 0 ∧ q = 6) → C (z + o) q = I (z + o) q := by
              intro o q p1 p2 p3 p4
              rw [hC, hB]; simp (disch := omega) only [un_1, un_2, un_3, un_4, es, up2_self]; exact A_n o q p1 p2
            have C5 : C (z + 82) 5 = nI h := by rw [C_n _ _ (by omega) (by omega) (by omega) (by omega)]; exact h8.2.1
            have C85 : ∀ j, j < 40 → up2 C (z + 82) 0 0 (z + 85) (40 * s + j) = I (z + (67 + 2 * s)) j := by
              intro j hj
              simp (disch := omega) only [un_1, un_2, un_3, un_4, es, up2_self]; rw [C_n _ _ (by omega) (by omega) (by omega) (by omega)]; exact (g5 j hj).symm
            rcases P (up2 C (z + 82) 0 0) (by simp (disch := omega) only [un_1, un_2, un_3, un_4, es, up2_self]; exact C5) C85 with ⟨-, s2, -⟩ | ⟨s1, -⟩
            · obtain ⟨D, d1, d2, d3⟩ := pset_M (w := w) h4 h1 hs8 m1 hic FU 0 (up2 (up2 C (z + 82) 0 0) (z + 82) 1 0) (by simp (disch := omega) only [un_1, un_2, un_3, un_4, es, up2_self]; exact C5) (by omega) (by unfold FU; omega)
              have D_n : ∀ o q, o ≠ 89 → o ≠ 90 → D (z + o) q = up2 (up2 C (z + 82) 0 0) (z + 82) 1 0 (z + o) q := fun o q p p' => d3 o q (by omega) (by omega)
              have D_I : ∀ o q, o ≠ 89 → o ≠ 90 → o ≠ 4 → o ≠ 5 → ¬ (o = 10 ∧ q = 12) → ¬ (o = 0 ∧ q = 6) → ¬ (o = 82 ∧ q = 0) → ¬ (o = 82 ∧ q = 1) → D (z + o) q = I (z + o) q := by
                intro o q p1 p2 p3 p4 p5 p6 p7 p8
                rw [D_n o q p1 p2]; simp (disch := omega) only [un_1, un_2, un_3, un_4, es, up2_self]; exact C_n o q p3 p4 p5 p6
              have sD : RStrokes z h K D R := h8.fr fun o q p => by
                unfold fpStrokes at p
                exact D_I o q (by omega) (by omega) (by omega) (by omega) (by omega) (by omega) (by omega) (by omega)
              have D89 : ∀ k, k < h → D (z + 89) k = I (z + (67 + 2 * s)) (i + 2 * k) ∧ D (z + 90) k = I (z + (67 + 2 * s)) (i + 2 * k + 1) := by
                intro k hk
                obtain ⟨x1, x2⟩ := d2 k (by omega) hk
                rw [x1, x2]
                have y1 := C85 (i + 2 * k) (by omega)
                have y2 := C85 (i + 2 * k + 1) (by omega)
                simp (disch := omega) only [un_1, un_2, un_3, un_4, es, up2_self] at y1 y2 ⊢
                exact ⟨y1, y2⟩
              have D4 : ∀ k, k < h → D (z + 4) k = I (z + (67 + 2 * s)) (i + 2 * k) ∧ D (z + 5) k = I (z + (67 + 2 * s)) (i + 2 * k + 1) := by
                intro k hk
                rw [D_n 4 k (by omega) (by omega), D_n 5 k (by omega) (by omega), hC]
                simp (disch := omega) only [un_1, un_2, un_3, un_4, es, up2_self]
                exact eB4 k hk
              have dM := dark_M (w := w) h4 h1 h0 sD (fun k hk => by
                obtain ⟨q, q1, q2, -⟩ := r3 k (by omega) hk
                exact ⟨q, q1, by rw [(D89 k hk).1, q2]⟩)
              have eV : dkW (D (z + 86)) (D (z + 87)) (D (z + 88)) (D (z + 89)) (D (z + 90)) h = V := by
                rw [hV]
                have q86 : D (z + 86) = B (z + 86) := funext fun q => by rw [D_n _ _ (by omega) (by omega), hC]; simp (disch := omega) only [un_1, un_2, un_3, un_4, es, up2_self]
                have q87 : D (z + 87) = B (z + 87) := funext fun q => by rw [D_n _ _ (by omega) (by omega), hC]; simp (disch := omega) only [un_1, un_2, un_3, un_4, es, up2_self]
                have q88 : D (z + 88) = B (z + 88) := funext fun q => by rw [D_n _ _ (by omega) (by omega), hC]; simp (disch := omega) only [un_1, un_2, un_3, un_4, es, up2_self]
                rw [q86, q87, q88]
                exact dkW_c (fun k hk => by rw [(D89 k hk).1, (eB4 k hk).1]) (fun k hk => by rw [(D89 k hk).2, (eB4 k hk).2])
              refine ⟨V, (K, C, R, w), (K, D, R, w), ?_, k82 h4, ?_, ?_⟩
              · rw [Xa]
                simp only [f_X9_isPlan]
                rw [show nI 0 = 0 from rfl] at r1 a1
                rw [r1, Option.bind_some]
                simp only [i10, if_false]
                rw [a1]
                simp only [b_X11_plan_133, gR_t kz, rz0_3 h4, rz0_1 h4, Option.bind_some, cK_t k10, f_X6_pathIsStale, pI_t k10, cK_t k2', ← hB, dX, cK_t kz, fine_X h4, hV, hC]
              · rw [Ma C C5 (C_n _ _ (by omega) (by omega) (by omega) (by omega)) ((C_n _ _ (by omega) (by omega) (by omega) (by omega)).trans m2)]
                rw [show nI 0 = 0 from rfl] at s2 d1
                rw [s2]
                simp only [b_X12_plan_165, pI_t (k82 h4), Option.bind_some, d1, b_X12_plan_236, cK_t (k82 h4), dM, eV]
              · have fA : ∀ fp : Nat → Nat → Prop, (∀ o q, fp o q → o ≠ 89 ∧ o ≠ 90 ∧ o ≠ 4 ∧ o ≠ 5 ∧ ¬ (o = 10 ∧ q = 12) ∧ ¬ (o = 0 ∧ q = 6) ∧ ¬ (o = 82 ∧ q = 0) ∧ ¬ (o = 82 ∧ q = 1)) → Fr fp z I D := by
                  intro fp hq o q p
                  obtain ⟨p1, p2, p3, p4, p5, p6, p7, p8⟩ := hq o q p
                  exact D_I o q p1 p2 p3 p4 p5 p6 p7 p8
                refine Rel.mk (h := h) ⟨h1, h2, h3, h4, h5, ?_, h7.fr (fA fpSheets (by intro o q p; unfold fpSheets at p; omega)), sD, ?_, h10.fr (fA fpBest (by intro o q p; unfold fpBest at p; omega)), h11.fr (fA fpRules (by intro o q p; unfold fpRules at p; omega)), h12.fr (fA fpZones (by intro o q p; unfold fpZones at p; omega)), ⟨0, by omega, ?_, fun q => absurd q (by omega), fun q => absurd q (by omega), fun q => absurd q (by omega)⟩, h14.fr (fA fpCues (by intro o q p; unfold fpCues at p; omega)), h15.fr (fA fpTrace (by intro o q p; unfold fpTrace at p; omega))⟩
                · have u1 : D z 6 = 0 := (D_n 0 6 (by omega) (by omega)).trans (by
                    show up2 (up2 C (z + 82) 0 0) (z + 82) 1 0 z 6 = 0
                    simp (disch := omega) only [un_1, un_2, un_3, un_4, es, up2_self]; rw [hC]; simp (disch := omega) only [un_1, un_2, un_3, un_4, es, up2_self])
                  have u2 : D (z + 82) 1 = 0 := by rw [D_n _ _ (by omega) (by omega)]; simp (disch := omega) only [un_1, un_2, un_3, un_4, es, up2_self]
                  rw [u1, u2]
                · intro k hk
                  obtain ⟨q, q1, q2, q3⟩ := r3 k (by omega) hk
                  refine ⟨q, q1, by rw [(D4 k hk).1, q2], by rw [(D89 k hk).1, q2], ?_, by rw [(D89 k hk).2, (D4 k hk).2]⟩
                  rw [(D4 k hk).2]; exact q3
                · rw [D_n _ _ (by omega) (by omega)]; simp (disch := omega) only [un_1, un_2, un_3, un_4, es, up2_self]; rw [hC, hB]; simp (disch := omega) only [un_1, un_2, un_3, un_4, es, up2_self]; rfl
            · rw [r1] at s1
              exact absurd (Prod.mk.inj (Option.some.inj s1)).1 (by decide)
          · refine ⟨-1000001, (K, I, R, w), (K, up2 I (z + 82) 0 0, R, w), ?_, k82 h4, ?_, hr⟩
            · rw [Xa]
              simp only [f_X9_isPlan]
              rw [show nI 0 = 0 from rfl] at r1
              rw [r1, Option.bind_some, if_pos rfl]
            · rw [Ma I h8.2.1 rfl m2]
              exact r2
        · refine ⟨-1000012, (K, up2 I z 6 2, R, w), (K, up2 (up2 (up2 I z 6 2) (z + 82) 0 0) (z + 82) 1 2, R, w), ?_, k82 h4, ?_, hR.fnd1 2⟩
          · simp only [f_X11_plan, isSh, wi1 c1, i10, if_false, Option.bind_some, gR_t kz, rz0_1 h4, rz0_0 h4, gI_t k2', h8.1, hne, aR_t (kz1 h4) hs8 (by decide), rzS h4 hs8, cK_t kS, miss_X h4 hs8, if_neg c3', if_true, ix2, has_X h4 hs8, g2, m2, eh, cK_t kz, found_X h4]
            rfl
          · have e1 : up2 (up2 I z 6 2) (z + 82) 0 0 (z + 82) 5 = nI h := by simp (disch := omega) only [un_1, un_2, un_3, un_4, es, up2_self]; exact h8.2.1
            have e2 : up2 (up2 I z 6 2) (z + 82) 0 0 (z + 83) s = I (z + 83) s := by simp (disch := omega) only [un_1, un_2, un_3, un_4, es, up2_self]
            have e3 : up2 (up2 I z 6 2) (z + 82) 0 0 (z + 84) s = nI m := by simp (disch := omega) only [un_1, un_2, un_3, un_4, es, up2_self]; exact m2
            have e65 : b_X12_plan_65 (some (z + 82)) (K, up2 (up2 I z 6 2) (z + 82) 0 0, R, w) = some (-1000012, K, up2 (up2 (up2 I z 6 2) (z + 82) 0 0) (z + 82) 1 2, R, w) := by
              simp only [b_X12_plan_65, cK_t (k82 h4), found_M h4, Option.bind_some]; rfl
            simp only [f_X12_plan, pI_t (k82 h4), isShM, wi1 c1, i10, if_false, Option.bind_some, gI_t (k82 h4), e1, hne, gR_t (k82 h4), rz82_2 h4, rz82_3 h4, aI_t (kz83 h4) hs8 (by decide), aI_t (kz84 h4) hs8 (by decide), e2, if_pos c4, e3, ix2, e65]
            rcases ebad with q | q | ⟨q1, q2, q3⟩
            · rw [if_pos q]
            · exact absurd q n2
            · rw [if_neg (Int32.not_lt.mpr q1), if_neg (fun q => q3 ((c64_le _ _).mp q))]
  · refine ⟨-1000001, (K, I, R, w), (K, up2 I (z + 82) 0 0, R, w), ?_, k82 h4, ?_, hr⟩
    · simp only [f_X11_plan, isSh, wi0 c1, Option.bind_some, if_true]
    · simp only [f_X12_plan, pI_t (k82 h4), isShM, wi0 c1, Option.bind_some, if_true]
end OB
