section O7
variable {z h : Nat} {K : Nat → Nat × Nat} {I J : Nat → Nat → Int32} {R : Nat → Nat → Option Nat} {w : Nat}
theorem tb_N (hc : RCst R) : tbN (K, I, R, w) (R 0 4) = some 6 := by simp [tbN]
theorem tb_L (hc : RCst R) {r : Nat} (hr : r < 6) : tbI (K, I, R, w) (R 0 4) (nI r) = some (tbL.getD r 0) := by
  simp only [tbI]
  rw [if_neg (by rw [nI_clamp (by omega)]; exact fun q => q.elim (fun q => absurd q (nI_pos (by omega))) (fun q => by omega)), if_pos trivial, nI_clamp (by omega)]
theorem tb_M (hc : RCst R) {r : Nat} (hr : r < 6) : tbI (K, I, R, w) (R 0 5) (nI r) = some (tbM.getD r 0) := by
  simp only [tbI]
  rw [if_neg (by rw [nI_clamp (by omega)]; exact fun q => q.elim (fun q => absurd q (nI_pos (by omega))) (fun q => by omega)), if_neg (fun q => hc.1 q.symm), if_pos trivial, nI_clamp (by omega)]
/-- a rule is changed, the stage ends at c (c = 3: it stays) -/
theorem rule_rel (hR : Rel z (K, I, R, w)) {r c n : Nat} (hr : r < 6) (hc : (r = 0 ∧ c = 0) ∨ (r = 1 ∧ c = 0) ∨ (r = 2 ∧ c = 1) ∨ (r = 3 ∧ c = 1) ∨ (r = 4 ∧ c = 2) ∨ (r = 5 ∧ c = 3)) (n1 : (tbL.getD r 0).toNatClampNeg ≤ n) (n2 : n ≤ (tbM.getD r 0).toNatClampNeg) (eJ : J = up2 I (z + 11) r (nI n) ∨ True) (hJ : ∀ o k, ¬ (o = 11 ∧ k = r) → ¬ (o = 10 ∧ k = 12) → J (z + o) k = I (z + o) k) (hJr : J (z + 11) r = nI n) (hst : J (z + 10) 12 = (if nI c < I (z + 10) 12 then nI c else I (z + 10) 12)) : Rel z (K, up2 (up2 J (z + 82) 0 0) (z + 92) r (nI n), R, w) := by
  obtain ⟨h, h1, h2, h3, h4, h5, h6, h7, h8, h9, h10, h11, h12, h13, h14, h15⟩ := hR.opn
  obtain ⟨D, hD⟩ : ∃ D, D = up2 (up2 J (z + 82) 0 0) (z + 92) r (nI n) := ⟨_, rfl⟩
  rw [← hD]
  have fA : ∀ fp : Nat → Nat → Prop, (∀ o q, fp o q → ¬ (o = 11 ∧ q = r) ∧ ¬ (o = 10 ∧ q = 12) ∧ ¬ (o = 82 ∧ q = 0) ∧ ¬ (o = 92 ∧ q = r)) → Fr fp z I D := by
    intro fp hq o q p
    have := hq o q p
    rw [hD]
    simp (disch := omega) only [un_1, un_2, un_3, un_4, es, up2_self]
    exact hJ o q (by omega) (by omega)
  refine hR.asm ?_ (Or.inl (fA fpSheets (by intro o q p; unfold fpSheets at p; omega))) (fA fpStrokes (by intro o q p; unfold fpStrokes at p; omega)) (Or.inl (fA fpPlan (by intro o q p; unfold fpPlan at p; omega))) (Or.inl (fA fpBest (by intro o q p; unfold fpBest at p; omega))) (Or.inr ⟨?_, ?_⟩) (Or.inl (fA fpZones (by intro o q p; unfold fpZones at p; omega))) (Or.inr fun h _ _ _ hs => hs.cut c ?_ (by omega) (fun _ => (fA fpP (by intro o q p; unfold fpP fpT at p; omega))) (fun _ => (fA fpM (by intro o q p; unfold fpM fpT at p; omega))) (fun _ => (fA fpU (by intro o q p; unfold fpU fpT at p; omega)))) (Or.inl (fA fpCues (by intro o q p; unfold fpCues at p; omega))) (Or.inl (fA fpTrace (by intro o q p; unfold fpTrace at p; omega)))
  · rw [fA (fun o q => o = 0 ∧ q = 6 ∨ o = 82 ∧ q = 1) (by intro o q p; omega) 82 1 (by omega)]
    exact (fA (fun o q => o = 0 ∧ q = 6 ∨ o = 82 ∧ q = 1) (by intro o q p; omega) 0 6 (by omega)).trans h6
  · intro k hk
    by_cases e : k = r
    · subst e; rw [hD]; simp (disch := omega) only [un_1, un_2, un_3, un_4, es, up2_self]; exact hJr
    · rw [hD]; simp (disch := omega) only [un_1, un_2, un_3, un_4, es, up2_self]
      rw [hJ 11 k (by omega) (by omega), hJ 92 k (by omega) (by omega)]
      exact h11.1 k hk
  · intro k hk
    by_cases e : k = r
    · subst e; rw [hD]; exact ⟨n, n1, n2, es⟩
    · obtain ⟨m, m1, m2, m3⟩ := h11.2 k hk
      refine ⟨m, m1, m2, ?_⟩
      rw [hD]; simp (disch := omega) only [un_1, un_2, un_3, un_4, es, up2_self]
      rw [hJ 92 k (by omega) (by omega)]; exact m3
  · rw [hD]; simp (disch := omega) only [un_1, un_2, un_3, un_4, es, up2_self]; exact hst
theorem rg_of {v a b : Int32} {m n : Nat} (ha : a.toInt = m) (hb : b.toInt = n) (h : a ≤ v ∧ v ≤ b) : ∃ k, m ≤ k ∧ k ≤ n ∧ v = nI k := by
  have h0 : 0 ≤ v := by
    have := Int32.le_iff_toInt_le.mp h.1
    rw [Int32.le_iff_toInt_le, i0_0]; omega
  obtain ⟨k, k1, rfl⟩ := nI_of2 hb (Int32.not_lt.mpr h0) h.2
  refine ⟨k, ?_, k1, rfl⟩
  have h3 := Int32.le_iff_toInt_le.mp h.1
  have h4 := Int32.toInt_lt b
  rw [nI_toInt (by omega)] at h3
  omega
theorem agr_rule (v1 v2 : Int32) : Agr (Rel z) z (f_X11_rule (some z) v1 v2) (f_X12_rule (some (z + 82)) v1 v2) := by
  rintro ⟨K, I, R, w⟩ hR
  obtain ⟨h, h1, h2, h3, h4, h5, h6, h7, h8, h9, h10, h11, h12, h13, h14, h15⟩ := hR.opn
  have six : (6 : Int32) - 1 = 5 := by decide
  by_cases c1 : 0 ≤ v1 ∧ v1 ≤ 5
  · obtain ⟨r, hr, rfl⟩ := ix_le (n := 5) (by decide) c1
    have hr6 : r < 6 := by omega
    have n0 : ¬ nI r < 0 := nI_pos (by omega)
    have n6 : nI r < nI 6 := nI_lt hr6 (by decide)
    have hw : ∀ (H : Nat → Nat → Int32), b_X12_rule_87 (some (z + 82)) (nI r) v2 1 (K, H, R, w) = some (H (z + 92) r, K, up2 H (z + 92) r v2, R, w) := fun H => by
      simp [b_X12_rule_87, gR_t, kz82 h4, rz82_12 h4, aI_t (kz92 h4) hr6, sI_t (kz92 h4) hr6, nar14]
    have hz : ∀ (H : Nat → Nat → Int32), b_X12_rule_87 (some (z + 82)) (nI r) v2 0 (K, H, R, w) = some (-1000001, K, H, R, w) := fun H => by
      simp [b_X12_rule_87]
    have hM : ∀ (H : Nat → Nat → Int32), f_X12_rule (some (z + 82)) (nI r) v2 (K, H, R, w) = b_X12_rule_87 (some (z + 82)) (nI r) v2 (wi (tbL.getD r 0) v2 (tbM.getD r 0)) (K, up2 H (z + 82) 0 0, R, w) := fun H => by
      rcases (show r = 0 ∨ r = 1 ∨ r = 2 ∨ r = 3 ∨ r = 4 ∨ r = 5 by omega) with rfl | rfl | rfl | rfl | rfl | rfl
      · simp [f_X12_rule, pI_t, kz82 h4, b_X12_rule_14, in_11000, show nI 0 = 0 from rfl, tbL, tbM]
      · simp [f_X12_rule, pI_t, kz82 h4, b_X12_rule_36, in_05, show nI 1 = 1 from rfl, tbL, tbM]
      · simp [f_X12_rule, pI_t, kz82 h4, in_116, show nI 2 = 2 from rfl, tbL, tbM]
      · simp [f_X12_rule, pI_t, kz82 h4, b_X12_rule_86, in_016, show nI 3 = 3 from rfl, tbL, tbM]
        by_cases q : 0 ≤ v2 ∧ v2 ≤ 16
        · rw [wi1 q]; simp
        · rw [wi0 q]; simp
      · simp [f_X12_rule, pI_t, kz82 h4, b_X12_rule_36, in_05, show nI 4 = 4 from rfl, tbL, tbM]
      · simp [f_X12_rule, pI_t, kz82 h4, b_X12_rule_14, in_11000, show nI 5 = 5 from rfl, tbL, tbM]
    by_cases c2 : tbL.getD r 0 ≤ v2 ∧ v2 ≤ tbM.getD r 0
    · have hb : ∃ n, (tbL.getD r 0).toNatClampNeg ≤ n ∧ n ≤ (tbM.getD r 0).toNatClampNeg ∧ v2 = nI n := by
        refine rg_of ?_ ?_ c2
        · rcases (show r = 0 ∨ r = 1 ∨ r = 2 ∨ r = 3 ∨ r = 4 ∨ r = 5 by omega) with rfl | rfl | rfl | rfl | rfl | rfl <;> decide
        · rcases (show r = 0 ∨ r = 1 ∨ r = 2 ∨ r = 3 ∨ r = 4 ∨ r = 5 by omega) with rfl | rfl | rfl | rfl | rfl | rfl <;> decide
      obtain ⟨n, n1, n2, rfl⟩ := hb
      have hX : ∀ (c : Nat) (J : Nat → Nat → Int32), ((r = 0 ∧ c = 0) ∨ (r = 1 ∧ c = 0) ∨ (r = 2 ∧ c = 1) ∨ (r = 3 ∧ c = 1) ∨ (r = 4 ∧ c = 2) ∨ (r = 5 ∧ c = 3)) → f_X6_changeRule (some (z + 10)) (nI r) (nI n) (K, I, R, w) = some (I (z + 11) r, K, J, R, w) → (∀ o k, ¬ (o = 11 ∧ k = r) → ¬ (o = 10 ∧ k = 12) → J (z + o) k = I (z + o) k) → J (z + 11) r = nI n → J (z + 10) 12 = (if nI c < I (z + 10) 12 then nI c else I (z + 10) 12) → ∃ r' S1 S2, f_X11_rule (some z) (nI r) (nI n) (K, I, R, w) = some (r', S1) ∧ (S1.1 (z + 82)).1 = 12 ∧ f_X12_rule (some (z + 82)) (nI r) (nI n) S1 = some (r', S2) ∧ Rel z S2 := by
        intro c J hc e1 e2 e3 e4
        refine ⟨I (z + 11) r, (K, J, R, w), (K, up2 (up2 J (z + 82) 0 0) (z + 92) r (nI n), R, w), ?_, k82 h4, ?_, rule_rel hR hr6 hc n1 n2 (Or.inr trivial) e2 e3 e4⟩
        · simp only [f_X11_rule, tb_N h5, Option.bind_some, isW, six, wi1 c1, i10, if_false, tb_L h5 hr6, tb_M h5 hr6, wi1 c2, gR_t (show (K z).1 = 10 + 1 by rw [kz0 h4]), rz0_3 h4, cK_t (show (K (z + 10)).1 = 6 + 1 by rw [kz10 h4]), e1]
        · rw [hM, wi1 c2, hw]
          have : up2 J (z + 82) 0 0 (z + 92) r = I (z + 11) r := by
            simp (disch := omega) only [un_1, un_2, un_3, un_4, es, up2_self]
            rw [e2 92 r (by omega) (by omega), h11.1 r hr6]
          rw [this]
      have ch : ∀ {cc : Nat} (C : Int32), C = nI cc → (up2 (up2 I (z + 11) r (nI n)) (z + 10) 12 (if C < up2 I (z + 11) r (nI n) (z + 10) 12 then C else up2 I (z + 11) r (nI n) (z + 10) 12)) (z + 10) 12 = (if nI cc < I (z + 10) 12 then nI cc else I (z + 10) 12) := by
        rintro cc C rfl; simp (disch := omega) only [un_1, un_2, un_3, un_4, es, up2_self]
      have f1 : ∀ v o k, ¬ (o = 11 ∧ k = r) → ¬ (o = 10 ∧ k = 12) → up2 (up2 I (z + 11) r (nI n)) (z + 10) 12 v (z + o) k = I (z + o) k := by
        intro v o k a b; simp (disch := omega) only [un_1, un_2, un_3, un_4, es, up2_self]
      have f2 : ∀ v, up2 (up2 I (z + 11) r (nI n)) (z + 10) 12 v (z + 11) r = nI n := by intro v; simp (disch := omega) only [un_1, un_2, un_3, un_4, es, up2_self]
      rcases (show r = 0 ∨ r = 1 ∨ r = 2 ∨ r = 3 ∨ r = 4 ∨ r = 5 by omega) with rfl | rfl | rfl | rfl | rfl | rfl
      · refine hX 0 _ (by omega) ?_ (f1 _) (f2 _) (ch (cc := 0) 0 rfl)
        simp only [f_X6_changeRule, if_neg n0, gR_t (show (K (z + 10)).1 = 6 + 1 by rw [kz10 h4]), rz10_0 h4, Option.bind_some, aL_t (kz11 h4), if_pos n6, aI_t (kz11 h4) hr6 (by decide), sI_t (kz11 h4) hr6 (by decide), nar14, b_X6_changeRule_39, b_X6_changeRule_75, cK_t (show (K (z + 10)).1 = 6 + 1 by rw [kz10 h4]), ends_X h4]
        rfl
      · refine hX 0 _ (by omega) ?_ (f1 _) (f2 _) (ch (cc := 0) 0 rfl)
        simp only [f_X6_changeRule, if_neg n0, gR_t (show (K (z + 10)).1 = 6 + 1 by rw [kz10 h4]), rz10_0 h4, Option.bind_some, aL_t (kz11 h4), if_pos n6, aI_t (kz11 h4) hr6 (by decide), sI_t (kz11 h4) hr6 (by decide), nar14, b_X6_changeRule_39, b_X6_changeRule_75, cK_t (show (K (z + 10)).1 = 6 + 1 by rw [kz10 h4]), ends_X h4]
        rfl
      · refine hX 1 _ (by omega) ?_ (f1 _) (f2 _) (ch (cc := 1) 1 rfl)
        simp only [f_X6_changeRule, if_neg n0, gR_t (show (K (z + 10)).1 = 6 + 1 by rw [kz10 h4]), rz10_0 h4, Option.bind_some, aL_t (kz11 h4), if_pos n6, aI_t (kz11 h4) hr6 (by decide), sI_t (kz11 h4) hr6 (by decide), nar14, b_X6_changeRule_57, b_X6_changeRule_75, cK_t (show (K (z + 10)).1 = 6 + 1 by rw [kz10 h4]), ends_X h4]
        rfl
      · refine hX 1 _ (by omega) ?_ (f1 _) (f2 _) (ch (cc := 1) 1 rfl)
        simp only [f_X6_changeRule, if_neg n0, gR_t (show (K (z + 10)).1 = 6 + 1 by rw [kz10 h4]), rz10_0 h4, Option.bind_some, aL_t (kz11 h4), if_pos n6, aI_t (kz11 h4) hr6 (by decide), sI_t (kz11 h4) hr6 (by decide), nar14, b_X6_changeRule_57, b_X6_changeRule_75, cK_t (show (K (z + 10)).1 = 6 + 1 by rw [kz10 h4]), ends_X h4]
        rfl
      · refine hX 2 _ (by omega) ?_ (f1 _) (f2 _) (ch (cc := 2) 2 rfl)
        simp only [f_X6_changeRule, if_neg n0, gR_t (show (K (z + 10)).1 = 6 + 1 by rw [kz10 h4]), rz10_0 h4, Option.bind_some, aL_t (kz11 h4), if_pos n6, aI_t (kz11 h4) hr6 (by decide), sI_t (kz11 h4) hr6 (by decide), nar14, b_X6_changeRule_75, cK_t (show (K (z + 10)).1 = 6 + 1 by rw [kz10 h4]), ends_X h4]
        rfl
      · refine hX 3 (up2 I (z + 11) 5 (nI n)) (by omega) ?_ ?_ es ?_
        · simp only [f_X6_changeRule, if_neg n0, gR_t (show (K (z + 10)).1 = 6 + 1 by rw [kz10 h4]), rz10_0 h4, Option.bind_some, aL_t (kz11 h4), if_pos n6, aI_t (kz11 h4) hr6 (by decide), sI_t (kz11 h4) hr6 (by decide), nar14, b_X6_changeRule_75, cK_t (show (K (z + 10)).1 = 6 + 1 by rw [kz10 h4]), ends_X h4]
          rfl
        · intro o k a b; simp (disch := omega) only [un_1, un_2, un_3, un_4, es, up2_self]
        · simp (disch := omega) only [un_1, un_2, un_3, un_4, es, up2_self]
          obtain ⟨sg, s1, s2, -⟩ := h13
          rw [s2, if_neg (nI_nlt s1 (by omega))]
    · refine ⟨-1000001, (K, I, R, w), (K, up2 I (z + 82) 0 0, R, w), ?_, k82 h4, ?_, hR.thr 0⟩
      · simp only [f_X11_rule, tb_N h5, Option.bind_some, isW, six, wi1 c1, i10, if_false, tb_L h5 hr6, tb_M h5 hr6, wi0 c2, if_true]
      · rw [hM, wi0 c2, hz]
  · refine ⟨-1000001, (K, I, R, w), (K, up2 I (z + 82) 0 0, R, w), ?_, k82 h4, ?_, hR.thr 0⟩
    · simp [f_X11_rule, tb_N h5, isW, six, wi0 c1]
    · have hn : ∀ j : Nat, j ≤ 5 → ¬ v1 = nI j := fun j hj e => c1 (e ▸ ⟨nI_pos' (by omega), nI_le (b := 5) hj (by decide)⟩)
      have e0 : ¬ v1 = 0 := hn 0 (by decide)
      have e1 : ¬ v1 = 1 := hn 1 (by decide)
      have e2 : ¬ v1 = 2 := hn 2 (by decide)
      have e3 : ¬ v1 = 3 := hn 3 (by decide)
      have e4 : ¬ v1 = 4 := hn 4 (by decide)
      have e5 : ¬ v1 = 5 := hn 5 (by decide)
      simp [f_X12_rule, pI_t, kz82 h4, e0, e1, e2, e3, e4, e5, b_X12_rule_86, b_X12_rule_87]
end O7
