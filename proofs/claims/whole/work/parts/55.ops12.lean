section O12
variable {z h k n t : Nat} {K : Nat → Nat × Nat} {I J : Nat → Nat → Int32} {R : Nat → Nat → Option Nat} {w : Nat}
-- feed
def bX (j : Int64) (q : Nat) : Int32 := nar 13 (((j >>> (((8 : Int32) * nI q).toInt64 &&& 63)).toInt32).toInt8.toInt32)
def bM (j : Int64) (q : Nat) : Int32 := ((j >>> (((8 : Int32) * nI q).toInt64 &&& 63)) &&& (255 : Int64)).toInt32
theorem byte_2 (y : Int64) : ∃ c, c < 256 ∧ (y &&& 255).toInt32 = nI c ∧ (nI c).toInt8.toInt32 = y.toInt32.toInt8.toInt32 := by
  refine ⟨y.toBitVec.toNat % 256, Nat.mod_lt _ (by decide), ?_, ?_⟩
  · rw [← Int32.toBitVec_inj]
    apply BitVec.eq_of_toNat_eq
    simp [nI, BitVec.signExtend_eq_setWidth_of_le]
    rw [show (255 : Nat) = 2 ^ 8 - 1 from rfl, Nat.and_two_pow_sub_one_eq_mod]
    omega
  · congr 1
    rw [← Int8.toBitVec_inj]
    apply BitVec.eq_of_toNat_eq
    simp [nI, BitVec.signExtend_eq_setWidth_of_le]
theorem bX_b (j : Int64) (q : Nat) : ∃ c, c < 256 ∧ bM j q = nI c ∧ bX j q = (nI c).toInt8.toInt32 := by
  obtain ⟨c, c1, c2, c3⟩ := byte_2 (j >>> (((8 : Int32) * nI q).toInt64 &&& 63))
  refine ⟨c, c1, c2, ?_⟩
  rw [c3]
  show vp_nar .byte _ = _
  simp [vp_nar, narrow]
def fdX (z : Nat) (j : Int64) : Nat → Nat → (Nat → Nat → Int32) → Nat → Nat → Int32
  | 0, _, J => J
  | q + 1, t, J => fdX z j q (t + 1) (up2 (up2 J (z + 37) t (bX j q)) (z + 36) 1 (nI (t + 1)))
def fdM (z : Nat) (j : Int64) : Nat → Nat → (Nat → Nat → Int32) → Nat → Nat → Int32
  | 0, _, J => J
  | q + 1, t, J => fdM z j q (t + 1) (up2 (up2 J (z + 102) t (bM j q)) (z + 82) 27 (nI (t + 1)))
theorem fdX_n (j : Int64) : ∀ q t J o l, ¬ (o = 37 ∧ t ≤ l) → ¬ (o = 36 ∧ l = 1) → fdX z j q t J (z + o) l = J (z + o) l := by
  intro q
  induction q with
  | zero => intro t J o l _ _; rfl
  | succ q ih =>
    intro t J o l a b
    rw [fdX, ih _ _ _ _ (by omega) b]
    simp (disch := omega) only [un_1, un_2, un_3, un_4, es, up2_self]
theorem fdM_n (j : Int64) : ∀ q t J o l, ¬ (o = 102 ∧ t ≤ l) → ¬ (o = 82 ∧ l = 27) → fdM z j q t J (z + o) l = J (z + o) l := by
  intro q
  induction q with
  | zero => intro t J o l _ _; rfl
  | succ q ih =>
    intro t J o l a b
    rw [fdM, ih _ _ _ _ (by omega) b]
    simp (disch := omega) only [un_1, un_2, un_3, un_4, es, up2_self]
theorem fdX_l (j : Int64) : ∀ q t J, J (z + 36) 1 = nI t → fdX z j q t J (z + 36) 1 = nI (t + q) := by
  intro q
  induction q with
  | zero => intro t J e; exact e
  | succ q ih =>
    intro t J e
    rw [fdX, ih _ _ es, show t + 1 + q = t + (q + 1) by omega]
theorem fdM_l (j : Int64) : ∀ q t J, J (z + 82) 27 = nI t → fdM z j q t J (z + 82) 27 = nI (t + q) := by
  intro q
  induction q with
  | zero => intro t J e; exact e
  | succ q ih =>
    intro t J e
    rw [fdM, ih _ _ es, show t + 1 + q = t + (q + 1) by omega]
theorem fdX_v (j : Int64) : ∀ q t J i, i < q → fdX z j q t J (z + 37) (t + i) = bX j (q - 1 - i) := by
  intro q
  induction q with
  | zero => intro t J i a; omega
  | succ q ih =>
    intro t J i a
    rw [fdX]
    by_cases c : i = 0
    · subst c
      rw [fdX_n _ _ _ _ _ _ (by omega) (by omega)]
      simp (disch := omega) only [Nat.add_zero, un_1, un_2, un_3, un_4, es, up2_self]
      rfl
    · have := ih (t + 1) (up2 (up2 J (z + 37) t (bX j q)) (z + 36) 1 (nI (t + 1))) (i - 1) (by omega)
      rw [show t + 1 + (i - 1) = t + i by omega, show q - 1 - (i - 1) = q + 1 - 1 - i by omega] at this
      exact this
theorem fdM_v (j : Int64) : ∀ q t J i, i < q → fdM z j q t J (z + 102) (t + i) = bM j (q - 1 - i) := by
  intro q
  induction q with
  | zero => intro t J i a; omega
  | succ q ih =>
    intro t J i a
    rw [fdM]
    by_cases c : i = 0
    · subst c
      rw [fdM_n _ _ _ _ _ _ (by omega) (by omega)]
      simp (disch := omega) only [Nat.add_zero, un_1, un_2, un_3, un_4, es, up2_self]
      rfl
    · have := ih (t + 1) (up2 (up2 J (z + 102) t (bM j q)) (z + 82) 27 (nI (t + 1))) (i - 1) (by omega)
      rw [show t + 1 + (i - 1) = t + i by omega, show q - 1 - (i - 1) = q + 1 - 1 - i by omega] at this
      exact this
theorem nI_m1 (q : Nat) : nI q + (-1) = nI q - 1 := Int32.sub_eq_add_neg (a := nI q) (b := 1) ▸ rfl
theorem fd_X (hS : Shp z K R) (j : Int64) : ∀ m q t J, J (z + 36) 1 = nI t → t + q ≤ 300 → q < m → b_X0_takeBytes_19 m (some (z + 36)) j (nI q - 1) (K, J, R, w) = some (1, K, fdX z j q t J, R, w) := by
  have k36 : (K (z + 36)).1 = 0 + 1 := by rw [kz36 hS]
  intro m
  induction m with
  | zero => intro q t J a b c; omega
  | succ m ih =>
    intro q t J a b c
    rw [b_X0_takeBytes_19]
    cases q with
    | zero =>
      rw [if_pos (by decide)]
      rfl
    | succ q =>
      rw [nI_pred, if_neg (nI_pos (by omega))]
      have e : up2 J (z + 37) t (bX j q) (z + 36) 1 = nI t := by simp (disch := omega) only [un_1, un_2, un_3, un_4, es, up2_self]; exact a
      have e2 : nar 13 (((j >>> (((8 : Int32) * nI q).toInt64 &&& 63)).toInt32).toInt8.toInt32) = bX j q := rfl
      simp only [gR_t k36, rz36_0 hS, Option.bind_some, gI_t k36, a, sI_t (kz37 hS) (show t < 300 by omega) (by decide), e2, e, pI_t k36, lt1, nI_1, nI_m1]
      exact ih q (t + 1) _ es (by omega) (by omega)
theorem fd_M (hS : Shp z K R) (j : Int64) : ∀ m q t J, J (z + 82) 27 = nI t → t + q ≤ 300 → q < m → b_X12_feed_40 m (some (z + 82)) j (nI q - 1) (K, J, R, w) = some (nI (t + q), K, fdM z j q t J, R, w) := by
  intro m
  induction m with
  | zero => intro q t J a b c; omega
  | succ m ih =>
    intro q t J a b c
    rw [b_X12_feed_40]
    cases q with
    | zero =>
      rw [if_pos (by decide)]
      simp only [b_X12_feed_82, gI_t (k82 hS), a, Option.bind_some]
      rfl
    | succ q =>
      rw [nI_pred, if_neg (nI_pos (by omega))]
      have e : up2 J (z + 102) t (bM j q) (z + 82) 27 = nI t := by simp (disch := omega) only [un_1, un_2, un_3, un_4, es, up2_self]; exact a
      have e2 : ((j >>> (((8 : Int32) * nI q).toInt64 &&& 63)) &&& (255 : Int64)).toInt32 = bM j q := rfl
      simp only [gR_t (k82 hS), rz82_26 hS, Option.bind_some, gI_t (k82 hS), a, sI_t (kz102 hS) (show t < 300 by omega) (by decide), nar14, e2, e, pI_t (k82 hS), lt1, nI_1, nI_m1]
      rw [show t + (q + 1) = t + 1 + q by omega]
      exact ih q (t + 1) _ es (by omega) (by omega)
theorem sub_nn {a b : Nat} (hb : b ≤ a) : nI a - nI b = nI (a - b) := by
  have : nI a = nI (a - b) + nI b := by rw [nI_add, show a - b + b = a by omega]
  rw [this, Int32.add_sub_cancel]
theorem agr_feed (j : Int64) (v : Int32) : Agr (Rel z) z (f_X11_feed (some z) j v) (f_X12_feed (some (z + 82)) j v) := by
  rintro ⟨K, I, R, w⟩ hR
  obtain ⟨h, h1, h2, h3, h4, h5, h6, h7, h8, h9, h10, h11, h12, h13, h14, h15⟩ := hR.opn
  have kz : (K z).1 = 10 + 1 := by rw [kz0 h4]
  have k36 : (K (z + 36)).1 = 0 + 1 := by rw [kz36 h4]
  have hr := hR.thr 0
  obtain ⟨⟨t, t1, t2, t3, t4⟩, hf, q, p, m, hq, r1, r2, n1, n2, n3, hc, ha⟩ := id h14
  by_cases c1 : 1 ≤ v ∧ v ≤ 8
  · obtain ⟨n, n0, n8, rfl⟩ := rg_of (m := 1) (n := 8) (by decide) (by decide) c1
    have sb : (300 : Int32) - nI t = nI (300 - t) := sub_nn (a := 300) t1
    by_cases c2 : t + n ≤ 300
    · obtain ⟨A, hA⟩ : ∃ A, A = fdX z j n t I := ⟨_, rfl⟩
      obtain ⟨D, hD⟩ : ∃ D, D = fdM z j n t (up2 A (z + 82) 0 0) := ⟨_, rfl⟩
      have A36 : A (z + 36) 1 = nI (t + n) := by rw [hA]; exact fdX_l _ _ _ _ t2
      have A27 : up2 A (z + 82) 0 0 (z + 82) 27 = nI t := by simp (disch := omega) only [un_1, un_2, un_3, un_4, es, up2_self]; rw [hA, fdX_n _ _ _ _ _ _ (by omega) (by omega)]; exact t3
      refine ⟨nI (t + n), (K, A, R, w), (K, D, R, w), ?_, k82 h4, ?_, ?_⟩
      · simp only [f_X11_feed, isW, wi1 c1, i10, if_false, Option.bind_some, gR_t kz, rz0_4 h4, cK_t k36, f_X0_takeBytes, gI_t k36, t2, sb, if_pos (nI_le (show n ≤ 300 - t by omega) (by omega)), lt1, fd_X (w := w) h4 j FU n t I t2 c2 (by unfold FU; omega), ← hA, A36]
      · simp only [f_X12_feed, pI_t (k82 h4), in_18, wi1 c1, i10, if_false, Option.bind_some, gI_t (k82 h4), A27, nI_add, if_pos (show nI (t + n) ≤ 300 from nI_le (b := 300) c2 (by decide)), lt1, fd_M (w := w) h4 j FU n t _ A27 c2 (by unfold FU; omega), ← hD]
      · have fA : ∀ fp : Nat → Nat → Prop, (∀ o q, fp o q → ¬ (o = 37 ∧ t ≤ q) ∧ ¬ (o = 36 ∧ q = 1) ∧ ¬ (o = 82 ∧ q = 0) ∧ ¬ (o = 82 ∧ q = 27) ∧ ¬ (o = 102 ∧ t ≤ q)) → Fr fp z I D := by
          intro fp hq o q p
          have := hq o q p
          rw [hD, fdM_n _ _ _ _ _ _ (by omega) (by omega)]
          simp (disch := omega) only [un_1, un_2, un_3, un_4, es, up2_self]
          rw [hA, fdX_n _ _ _ _ _ _ (by omega) (by omega)]
        have D37 : ∀ i, i < n → D (z + 37) (t + i) = bX j (n - 1 - i) := by
          intro i hi
          rw [hD, fdM_n _ _ _ _ _ _ (by omega) (by omega)]
          simp (disch := omega) only [un_1, un_2, un_3, un_4, es, up2_self]
          rw [hA]; exact fdX_v _ _ _ _ _ hi
        have D102 : ∀ i, i < n → D (z + 102) (t + i) = bM j (n - 1 - i) := by
          intro i hi
          rw [hD]; exact fdM_v _ _ _ _ _ hi
        have fs := fA (fun o q => ¬ (o = 37 ∧ t ≤ q) ∧ ¬ (o = 36 ∧ q = 1) ∧ ¬ (o = 82 ∧ q = 0) ∧ ¬ (o = 82 ∧ q = 27) ∧ ¬ (o = 102 ∧ t ≤ q)) (fun o q p => p)
        refine hR.asm ?_ (Or.inl (fA fpSheets (by intro o q p; unfold fpSheets at p; omega))) (fA fpStrokes (by intro o q p; unfold fpStrokes at p; omega)) (Or.inl (fA fpPlan (by intro o q p; unfold fpPlan at p; omega))) (Or.inl (fA fpBest (by intro o q p; unfold fpBest at p; omega))) (Or.inl (fA fpRules (by intro o q p; unfold fpRules at p; omega))) (Or.inl (fA fpZones (by intro o q p; unfold fpZones at p; omega))) (Or.inl (fA fpShow (by intro o q p; unfold fpShow at p; omega))) (Or.inr ⟨⟨t + n, c2, ?_, ?_, ?_⟩, ?_, q, p, m, hq, r1, r2, n1, ?_, ?_, ?_, ?_⟩) (Or.inl (fA fpTrace (by intro o q p; unfold fpTrace at p; omega)))
        · rw [fs 82 1 (by omega)]; exact (fs 0 6 (by omega)).trans h6
        · rw [hD, fdM_n _ _ _ _ _ _ (by omega) (by omega)]; simp (disch := omega) only [un_1, un_2, un_3, un_4, es, up2_self]; exact A36
        · rw [hD]; exact fdM_l _ _ _ _ A27
        · intro k hk
          by_cases c : k < t
          · rw [fs 102 k (by omega), fs 37 k (by omega)]; exact t4 k c
          · obtain ⟨i, rfl⟩ : ∃ i, k = t + i := ⟨k - t, by omega⟩
            rw [D37 i (by omega), D102 i (by omega)]
            exact bX_b _ _
        · rw [fs 36 3 (by omega), fs 82 28 (by omega)]; exact hf
        · rw [fs 36 2 (by omega)]; exact n2
        · rw [fs 82 36 (by omega)]; exact n3
        · intro i hi
          have e103 : D (z + 103) = I (z + 103) := funext fun l => fs 103 l (by omega)
          have er : D (z + (q + 1 + i)) = I (z + (q + 1 + i)) := funext fun l => fs _ l (by omega)
          rw [e103, er]; exact hc i hi
        · intro i hi
          rw [fs 103 _ (by omega), fs 103 _ (by omega)]; exact ha i hi
    · refine ⟨-1000003, (K, I, R, w), (K, up2 I (z + 82) 0 0, R, w), ?_, k82 h4, ?_, hr⟩
      · simp only [f_X11_feed, isW, wi1 c1, i10, if_false, Option.bind_some, gR_t kz, rz0_4 h4, cK_t k36, f_X0_takeBytes, gI_t k36, t2, sb, if_neg (show ¬ nI n ≤ nI (300 - t) from nI_ge (show 300 - t < n by omega) (by omega)), zr_0, if_true]
      · have e : up2 I (z + 82) 0 0 (z + 82) 27 = nI t := by simp (disch := omega) only [un_1, un_2, un_3, un_4, es, up2_self]; exact t3
        simp only [f_X12_feed, pI_t (k82 h4), in_18, wi1 c1, i10, if_false, Option.bind_some, gI_t (k82 h4), e, nI_add, if_neg (show ¬ nI (t + n) ≤ 300 from nI_ge (a := 300) (by omega) (by omega))]
  · refine ⟨-1000001, (K, I, R, w), (K, up2 I (z + 82) 0 0, R, w), ?_, k82 h4, ?_, hr⟩
    · simp only [f_X11_feed, isW, wi0 c1, Option.bind_some, if_true]
    · simp only [f_X12_feed, pI_t (k82 h4), in_18, wi0 c1, Option.bind_some, if_true]
end O12
