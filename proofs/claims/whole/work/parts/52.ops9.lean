section O9
variable {z h k n t : Nat} {K : Nat → Nat × Nat} {I J : Nat → Nat → Int32} {R : Nat → Nat → Option Nat} {w : Nat}
theorem Rel.fin (hR : Rel z (K, I, R, w)) : Rel z (K, up2 (up2 (up2 I z 6 0) (z + 82) 0 0) (z + 82) 1 0, R, w) := by
  have fA : ∀ fp : Nat → Nat → Prop, (∀ o q, fp o q → ¬ (o = 0 ∧ q = 6) ∧ ¬ (o = 82 ∧ q = 0) ∧ ¬ (o = 82 ∧ q = 1)) → Fr fp z I (up2 (up2 (up2 I z 6 0) (z + 82) 0 0) (z + 82) 1 0) := by
    intro fp hq o q p
    have := hq o q p
    simp (disch := omega) only [un_1, un_2, un_3, un_4, es, up2_self]
  refine hR.asm ?_ (Or.inl (fA fpSheets (by intro o q p; unfold fpSheets at p; omega))) (fA fpStrokes (by intro o q p; unfold fpStrokes at p; omega)) (Or.inl (fA fpPlan (by intro o q p; unfold fpPlan at p; omega))) (Or.inl (fA fpBest (by intro o q p; unfold fpBest at p; omega))) (Or.inl (fA fpRules (by intro o q p; unfold fpRules at p; omega))) (Or.inl (fA fpZones (by intro o q p; unfold fpZones at p; omega))) (Or.inl (fA fpShow (by intro o q p; unfold fpShow at p; omega))) (Or.inl (fA fpCues (by intro o q p; unfold fpCues at p; omega))) (Or.inl (fA fpTrace (by intro o q p; unfold fpTrace at p; omega)))
  simp (disch := omega) only [un_1, un_2, un_3, un_4, es, up2_self]
def ofI (c q : Nat) : Int32 := if c = 0 then 1 else if c = 1 then (if q = 8 then 1 else 0) else if c = 2 then (if q = 8 then 0 else 1) else (if q = 3 then 1 else 0)
theorem isOf_X (hs : RStroke z K J R k n) {c : Nat} (hc : c ≤ 3) : f_X8_isOf (some (z + (108 + 3 * k))) (nI c) (K, J, R, w) = some (ofI c (K (z + (108 + 3 * k))).1, K, J, R, w) := by
  rcases (show c = 0 ∨ c = 1 ∨ c = 2 ∨ c = 3 by omega) with rfl | rfl | rfl | rfl
  · rcases hs.kc with q | q | q <;> simp [f_X8_isOf, iO, k3, q, zr, ofI, show nI 0 = 0 from rfl]
  · rcases hs.kc with q | q | q <;> simp [f_X8_isOf, iO, k3, q, zr, ofI, show nI 1 = 1 from rfl]
  · rcases hs.kc with q | q | q <;> simp [f_X8_isOf, iO, k3, q, zr, ofI, show nI 2 = 2 from rfl]
  · rcases hs.kc with q | q | q <;> simp [f_X8_isOf, iO, k3, q, zr, ofI, show nI 3 = 3 from rfl]
theorem agr_as (v1 v2 : Int32) : Agr (Rel z) z (f_X11_as (some z) v1 v2) (f_X12_as (some (z + 82)) v1 v2) := by
  rintro ⟨K, I, R, w⟩ hR
  obtain ⟨h, h1, h2, h3, h4, h5, h6, h7, h8, -⟩ := hR.opn
  have kz : (K z).1 = 10 + 1 := by rw [kz0 h4]
  have k2 : (K (z + 2)).1 = 8 + 1 := by rw [kz2 h4]
  have hr := hR.thr 0
  have h8' : RStrokes z h K (up2 I (z + 82) 0 0) R := h8.fr fun o q p => un_1 (by unfold fpStrokes at p; omega)
  by_cases c1 : 0 ≤ v1 ∧ v1 ≤ nI h - 1
  · obtain ⟨k, hk, rfl⟩ := ix_lt (by omega) c1
    obtain ⟨n, hs⟩ := h8.2.2 k hk
    by_cases c2 : 0 ≤ v2 ∧ v2 ≤ 3
    · obtain ⟨c, hc, rfl⟩ := ix_le (n := 3) (by decide) c2
      have hM : ∀ v, f_X12_as (some (z + 82)) (nI k) (nI c) (K, up2 I z 6 v, R, w) = if ofI c (K (z + (108 + 3 * k))).1 = 0 then some (-1000013, K, up2 (up2 (up2 (up2 I z 6 v) (z + 82) 0 0) (z + 82) 1 0) (z + 82) 1 3, R, w) else some (nI n, K, up2 (up2 (up2 I z 6 v) (z + 82) 0 0) (z + 82) 1 0, R, w) := by
        intro v
        have g5 : up2 (up2 I z 6 v) (z + 82) 0 0 (z + 82) 5 = nI h := by simp (disch := omega) only [un_1, un_2, un_3, un_4, es, up2_self]; exact h8.2.1
        have hs' : RStroke z K (up2 (up2 (up2 I z 6 v) (z + 82) 0 0) (z + 82) 1 0) R k n := hs.fr fun o q p => by
          unfold fpStrokes at p
          simp (disch := omega) only [un_1, un_2, un_3, un_4, es, up2_self]
        have e58 : b_X12_as_58 (some (z + 82)) (nI k) (K, up2 (up2 (up2 I z 6 v) (z + 82) 0 0) (z + 82) 1 0, R, w) = some (nI n, K, up2 (up2 (up2 I z 6 v) (z + 82) 0 0) (z + 82) 1 0, R, w) := by
          simp only [b_X12_as_58, gR_t (k82 h4), rz82_6 h4, Option.bind_some, aI_t (kz86 h4) (show k < 8 by omega) (by decide), hs'.2.2.1]
        have e67 : b_X12_as_67 (some (z + 82)) (K, up2 (up2 (up2 I z 6 v) (z + 82) 0 0) (z + 82) 1 0, R, w) = some (-1000013, K, up2 (up2 (up2 (up2 I z 6 v) (z + 82) 0 0) (z + 82) 1 0) (z + 82) 1 3, R, w) := by
          simp only [b_X12_as_67, cK_t (k82 h4), found_M h4, Option.bind_some]
          rfl
        simp only [f_X12_as, pI_t (k82 h4), Option.bind_some, cK_t (k82 h4), isSt_M h4 g5, wi1 c1, i10, if_false, in_03, wi1 c2, kindOf_M h4 (show k < 8 by omega) hs', e58, e67]
        rcases (show c = 0 ∨ c = 1 ∨ c = 2 ∨ c = 3 by omega) with rfl | rfl | rfl | rfl
        · rcases hs.kc with q | q | q <;> simp [q, ofI, kI, show nI 0 = 0 from rfl]
        · rcases hs.kc with q | q | q <;> simp [q, ofI, kI, show nI 1 = 1 from rfl]
        · rcases hs.kc with q | q | q <;> simp [q, ofI, kI, show nI 2 = 2 from rfl]
        · rcases hs.kc with q | q | q <;> simp [q, ofI, kI, show nI 3 = 3 from rfl]
      by_cases c3 : ofI c (K (z + (108 + 3 * k))).1 = 0
      · refine ⟨-1000013, (K, up2 I z 6 3, R, w), (K, up2 (up2 (up2 (up2 I z 6 3) (z + 82) 0 0) (z + 82) 1 0) (z + 82) 1 3, R, w), ?_, k82 h4, ?_, hR.fnd 3⟩
        · simp only [f_X11_as, gR_t kz, rz0_1 h4, Option.bind_some, cK_t k2, at_X h4 h8.1 h1 hk hs, k3_s hs.kc, isW, wi1 c2, i10, if_false, isOf_X hs hc, c3, if_true, cK_t kz, found_X h4, reduceCtorEq]
          rfl
        · rw [hM, if_pos c3]
      · refine ⟨nI n, (K, up2 I z 6 0, R, w), (K, up2 (up2 (up2 I z 6 0) (z + 82) 0 0) (z + 82) 1 0, R, w), ?_, k82 h4, ?_, hR.fin⟩
        · simp only [f_X11_as, gR_t kz, rz0_1 h4, Option.bind_some, cK_t k2, at_X h4 h8.1 h1 hk hs, k3_s hs.kc, isW, wi1 c2, i10, if_false, isOf_X hs hc, c3, pts_X hs, cK_t kz, fine_X h4, reduceCtorEq]
        · rw [hM, if_neg c3]
    · refine ⟨-1000001, (K, I, R, w), (K, up2 I (z + 82) 0 0, R, w), ?_, k82 h4, ?_, hr⟩
      · simp only [f_X11_as, gR_t kz, rz0_1 h4, Option.bind_some, cK_t k2, at_X h4 h8.1 h1 hk hs, isW, wi0 c2, if_false, if_true, reduceCtorEq]
      · simp only [f_X12_as, pI_t (k82 h4), Option.bind_some, cK_t (k82 h4), isSt_M h4 h8'.2.1, wi1 c1, i10, if_false, in_03, wi0 c2, if_true]
  · refine ⟨-1000001, (K, I, R, w), (K, up2 I (z + 82) 0 0, R, w), ?_, k82 h4, ?_, hr⟩
    · simp only [f_X11_as, gR_t kz, rz0_1 h4, Option.bind_some, cK_t k2, at_N h4 h8.1 h1 c1, if_true]
    · simp only [f_X12_as, pI_t (k82 h4), Option.bind_some, cK_t (k82 h4), isSt_M h4 h8'.2.1, wi0 c1, if_true]
-- ask: what the bodies leave
def lx (z : Nat) (J : Nat → Nat → Int32) (t : Nat) (x : Int32) : Nat → Nat → Int32 := up2 (up2 J (z + 65) t x) (z + 64) 1 (nI (t + 1))
def lm (z : Nat) (J : Nat → Nat → Int32) (t : Nat) (x : Int32) : Nat → Nat → Int32 := up2 (up2 J (z + 105) t x) (z + 82) 41 (nI (t + 1))
theorem lx_l {x : Int32} : lx z J t x (z + 64) 1 = nI (t + 1) := es
theorem lm_l {x : Int32} : lm z J t x (z + 82) 41 = nI (t + 1) := es
theorem lx_s {x : Int32} : lx z J t x (z + 65) t = x := by unfold lx; simp (disch := omega) only [un_1, un_2, un_3, un_4, es, up2_self]
theorem lm_s {x : Int32} : lm z J t x (z + 105) t = x := by unfold lm; simp (disch := omega) only [un_1, un_2, un_3, un_4, es, up2_self]
theorem lx_n {x : Int32} {o q : Nat} (hn : (o ≠ 65 ∨ q ≠ t) ∧ (o ≠ 64 ∨ q ≠ 1)) : lx z J t x (z + o) q = J (z + o) q := by unfold lx; simp (disch := omega) only [un_1, un_2, un_3, un_4, es, up2_self]
theorem lm_n {x : Int32} {o q : Nat} (hn : (o ≠ 105 ∨ q ≠ t) ∧ (o ≠ 82 ∨ q ≠ 41)) : lm z J t x (z + o) q = J (z + o) q := by unfold lm; simp (disch := omega) only [un_1, un_2, un_3, un_4, es, up2_self]
theorem lx_z {x : Int32} {q : Nat} : lx z J t x z q = J z q := lx_n (o := 0) (by omega)
theorem lm_z {x : Int32} {q : Nat} : lm z J t x z q = J z q := lm_n (o := 0) (by omega)
theorem leave_X (hS : Shp z K R) (ht : J (z + 64) 1 = nI t) (h16 : t < 16) (x : Int32) : f_X10_leave (some (z + 64)) x (K, J, R, w) = some (K, lx z J t x, R, w) := by
  have k64 : (K (z + 64)).1 = 9 + 1 := by rw [kz64 hS]
  have e : up2 J (z + 65) t x (z + 64) 1 = nI t := by simp (disch := omega) only [un_1, un_2, un_3, un_4, es, up2_self]; exact ht
  simp only [f_X10_leave, gI_t k64, Option.bind_some, gR_t k64, rz64_0 hS, aL_t (kz65 hS), ht, if_neg (nI_ge h16 (by decide)), sI_t (kz65 hS) h16 (by decide), nar14, e, pI_t k64, nI_1, lx]
theorem began_M (hS : Shp z K R) (ht : J (z + 82) 41 = nI t) (h16 : t < 16) (x : Int32) : f_X12_began (some (z + 82)) x (K, J, R, w) = some (K, lm z J t x, R, w) := by
  have e : up2 J (z + 105) t x (z + 82) 41 = nI t := by simp (disch := omega) only [un_1, un_2, un_3, un_4, es, up2_self]; exact ht
  simp only [f_X12_began, gI_t (k82 hS), Option.bind_some, gR_t (k82 hS), rz82_40 hS, ht, if_neg (show ¬ (16 : Int32) ≤ nI t from nI_ge (b := 16) h16 (by decide)), sI_t (kz105 hS) h16 (by decide), nar14, e, pI_t (k82 hS), nI_1, lm]
theorem RStroke.lx (hs : RStroke z K J R k n) (x : Int32) : RStroke z K (lx z J t x) R k n := hs.fr fun o q p => lx_n (by unfold fpStrokes at p; omega)
theorem RStroke.lm (hs : RStroke z K J R k n) (x : Int32) : RStroke z K (lm z J t x) R k n := hs.fr fun o q p => lm_n (by unfold fpStrokes at p; omega)
/-- the points and the ways of the first j parts -/
def szA (n : Nat) (X Y : Nat → Int32) : Nat → Int32
  | 0 => nI n
  | j + 1 => szA n X Y j + wayI (X j) (Y j) (X (j + 1)) (Y (j + 1))
theorem k2_s {β : Type} {a : Nat} {f : Option β} (hk : (K a).1 = 2 ∨ (K a).1 = 3) : k2 (K, J, R, w) (some a) f f = f := by
  rcases hk with q | q <;> simp [k2, q]
theorem sz_X (hs : RStroke z K J R k n) (hk : (K (z + (108 + 3 * k))).1 = 2 ∨ (K (z + (108 + 3 * k))).1 = 3) : ∀ m j, j + 1 ≤ n → n < m + (j + 1) → b_X1_sizeAsked_14 m (some (z + (108 + 3 * k))) (szA n (J (z + (106 + 3 * k))) (J (z + (107 + 3 * k))) j) (nI (j + 1)) (K, J, R, w) = some (szA n (J (z + (106 + 3 * k))) (J (z + (107 + 3 * k))) (n - 1), K, J, R, w) := by
  intro m
  have hn := hs.2.1
  induction m with
  | zero => intro j a b; omega
  | succ m ih =>
    intro j a b
    rw [b_X1_sizeAsked_14]
    simp only [k2_s hk, pts_X hs, Option.bind_some]
    by_cases c : j + 1 = n
    · rw [if_pos (by rw [c]; exact nI_le (Nat.le_refl _) (by omega))]
      have : n - 1 = j := by omega
      rw [this]; rfl
    · rw [if_neg (nI_ge (show j + 1 < n by omega) (by omega)), nI_pred]
      simp only [k2_s hk, xAt_X hs (show j < n by omega), yAt_X hs (show j < n by omega), xAt_X hs (show j + 1 < n by omega), yAt_X hs (show j + 1 < n by omega), Option.bind_some, way_X, lt1, nI_1]
      exact ih (j + 1) (by omega) (by omega)
theorem sz_M (hS : Shp z K R) (hk8 : k < 8) (hs : RStroke z K J R k n) (x2 : Int32) : ∀ m j, j + 1 ≤ n → n < m + (j + 1) → b_X12_sized_57 m (some (z + 82)) (nI k) x2 (szA n (J (z + (106 + 3 * k))) (J (z + (107 + 3 * k))) j) (nI (8 * k + (j + 1))) (K, J, R, w) = b_X12_sized_117 x2 (szA n (J (z + (106 + 3 * k))) (J (z + (107 + 3 * k))) (n - 1)) (K, J, R, w) := by
  intro m
  have hn := hs.2.1
  induction m with
  | zero => intro j a b; omega
  | succ m ih =>
    intro j a b
    rw [b_X12_sized_57]
    simp only [gR_t (k82 hS), rz82_6 hS, rz82_7 hS, rz82_8 hS, Option.bind_some, aI_t (kz86 hS) hk8 (by decide), hs.2.2.1, ix8, nI_add]
    by_cases c : j + 1 = n
    · rw [if_pos (by rw [c]; exact nI_le (Nat.le_refl _) (by omega))]
      have : n - 1 = j := by omega
      rw [this]
    · rw [if_neg (nI_ge (show 8 * k + (j + 1) < 8 * k + n by omega) (by omega)), show 8 * k + (j + 1) = (8 * k + j) + 1 from rfl, nI_pred, show (8 * k + j) + 1 = 8 * k + (j + 1) from rfl]
      simp only [aI_t (kz87 hS) (show 8 * k + j < 64 by omega) (by decide), aI_t (kz87 hS) (show 8 * k + (j + 1) < 64 by omega) (by decide), aI_t (kz88 hS) (show 8 * k + j < 64 by omega) (by decide), aI_t (kz88 hS) (show 8 * k + (j + 1) < 64 by omega) (by decide), (hs.xx (show j < n by omega)).1, (hs.xx (show j < n by omega)).2, (hs.xx (show j + 1 < n by omega)).1, (hs.xx (show j + 1 < n by omega)).2, Option.bind_some, way_M, lt1, nI_1]
      exact ih (j + 1) (by omega) (by omega)
/-- the size of a line or a loop -/
def szV (z k n : Nat) (J : Nat → Nat → Int32) : Int32 := szA n (J (z + (106 + 3 * k))) (J (z + (107 + 3 * k))) (n - 1)
theorem szV_x {x : Int32} : szV z k n (lx z J t x) = szV z k n J := by
  have e1 : lx z J t x (z + (106 + 3 * k)) = J (z + (106 + 3 * k)) := funext fun q => lx_n (by omega)
  have e2 : lx z J t x (z + (107 + 3 * k)) = J (z + (107 + 3 * k)) := funext fun q => lx_n (by omega)
  simp only [szV, e1, e2]
theorem szV_m {x : Int32} : szV z k n (lm z J t x) = szV z k n J := by
  have e1 : lm z J t x (z + (106 + 3 * k)) = J (z + (106 + 3 * k)) := funext fun q => lm_n (by omega)
  have e2 : lm z J t x (z + (107 + 3 * k)) = J (z + (107 + 3 * k)) := funext fun q => lm_n (by omega)
  simp only [szV, e1, e2]
theorem size1_X (hS : Shp z K R) (hs : RStroke z K J R k n) (hk : (K (z + (108 + 3 * k))).1 = 2 ∨ (K (z + (108 + 3 * k))).1 = 3) (ht : J (z + 64) 1 = nI t) (h16 : t + 1 < 16) : f_X1_sizeAsked (some (z + (108 + 3 * k))) (some (z + 64)) (K, J, R, w) = some (szV z k n J, K, lx z (lx z J t 11) (t + 1) 10, R, w) := by
  have k64 : (K (z + 64)).1 = 9 + 1 := by rw [kz64 hS]
  have hs2 : RStroke z K (lx z (lx z J t 11) (t + 1) 10) R k n := (hs.lx _).lx _
  have e := sz_X (w := w) hs2 hk FU 0 (by have := hs.1; omega) (by have := hs.2.1; unfold FU; omega)
  have e1 : szA n (lx z (lx z J t 11) (t + 1) 10 (z + (106 + 3 * k))) (lx z (lx z J t 11) (t + 1) 10 (z + (107 + 3 * k))) 0 = nI n := rfl
  rw [e1] at e
  simp only [f_X1_sizeAsked, cK_t k64, leave_X hS ht (show t < 16 by omega), Option.bind_some, k2_s hk, f_X8_sizeAsked, leave_X hS lx_l h16, k3_s hs.kc, pts_X hs2]
  refine e.trans ?_
  have : szV z k n (lx z (lx z J t 11) (t + 1) 10) = szV z k n J := by rw [szV_x, szV_x]
  rw [← this]
  rfl
theorem sized_M (hS : Shp z K R) (hk8 : k < 8) (hs : RStroke z K J R k n) (ht : J (z + 82) 41 = nI t) (h16 : t + 2 < 16) : f_X12_sized (some (z + 82)) (nI k) (K, J, R, w) = if (K (z + (108 + 3 * k))).1 = 8 then some (0, K, lm z J t 13, R, w) else if (K (z + (108 + 3 * k))).1 = 3 then some (2 * szV z k n J, K, lm z (lm z (lm z J t 12) (t + 1) 11) (t + 2) 10, R, w) else some (szV z k n J, K, lm z (lm z J t 11) (t + 1) 10, R, w) := by
  have g82 : ∀ (H : Nat → Nat → Int32) c, gR (K, H, R, w) (some (z + 82)) 11 c = some (R (z + 82) c) := fun H c => gR_t (k82 hS)
  have hb : ∀ (H : Nat → Nat → Int32) (t : Nat) (x2 : Int32), RStroke z K H R k n → H (z + 82) 41 = nI t → t + 1 < 16 → b_X12_sized_30 (some (z + 82)) (nI k) x2 (K, H, R, w) = b_X12_sized_117 x2 (szV z k n H) (K, lm z (lm z H t 11) (t + 1) 10, R, w) := by
    intro H t x2 hs ht h16
    have hs2 : RStroke z K (lm z (lm z H t 11) (t + 1) 10) R k n := (hs.lm _).lm _
    have e := sz_M (w := w) hS hk8 hs2 x2 FU 0 (by have := hs.1; omega) (by have := hs.2.1; unfold FU; omega)
    have e1 : szA n (lm z (lm z H t 11) (t + 1) 10 (z + (106 + 3 * k))) (lm z (lm z H t 11) (t + 1) 10 (z + (107 + 3 * k))) 0 = nI n := rfl
    rw [e1] at e
    simp only [b_X12_sized_30, cK_t (k82 hS), began_M hS ht (show t < 16 by omega), Option.bind_some, began_M hS lm_l h16, g82, rz82_6 hS, aI_t (kz86 hS) hk8 (by decide), hs2.2.2.1, lt1, ix8, nI_1]
    refine e.trans ?_
    have : szV z k n (lm z (lm z H t 11) (t + 1) 10) = szV z k n H := by rw [szV_m, szV_m]
    rw [← this]
    rfl
  simp only [f_X12_sized, cK_t (k82 hS), kindOf_M hS hk8 hs, Option.bind_some]
  rcases hs.kc with q | q | q
  · simp only [q, kI, hb J t _ hs ht (by omega), b_X12_sized_117]
    rfl
  · simp only [q, kI, began_M hS ht (show t < 16 by omega), Option.bind_some, hb (lm z J t 12) (t + 1) _ (hs.lm _) lm_l (by omega), b_X12_sized_117, szV_m]
    rfl
  · simp only [q, kI, began_M hS ht (show t < 16 by omega), Option.bind_some]
    rfl
/-- behind an ask -/
theorem ask_rel (hR : Rel z (K, I, R, w)) {D : Nat → Nat → Int32} (t : Nat) (ht : t ≤ 16) (a1 : D (z + 64) 1 = nI t) (a2 : D (z + 82) 41 = nI t) (a3 : ∀ k, k < t → D (z + 65) k = D (z + 105) k) (a4 : ∀ o q, ¬ (o = 64 ∧ q = 1) ∧ o ≠ 65 ∧ o ≠ 105 ∧ ¬ (o = 82 ∧ q = 0) ∧ ¬ (o = 82 ∧ q = 41) → D (z + o) q = I (z + o) q) : Rel z (K, D, R, w) := by
  obtain ⟨h, h1, h2, h3, h4, h5, h6, -⟩ := hR.opn
  have fA : ∀ fp : Nat → Nat → Prop, (∀ o q, fp o q → ¬ (o = 64 ∧ q = 1) ∧ o ≠ 65 ∧ o ≠ 105 ∧ ¬ (o = 82 ∧ q = 0) ∧ ¬ (o = 82 ∧ q = 41)) → Fr fp z I D := fun fp hq o q p => a4 o q (hq o q p)
  refine hR.asm ?_ (Or.inl (fA fpSheets (by intro o q p; unfold fpSheets at p; omega))) (fA fpStrokes (by intro o q p; unfold fpStrokes at p; omega)) (Or.inl (fA fpPlan (by intro o q p; unfold fpPlan at p; omega))) (Or.inl (fA fpBest (by intro o q p; unfold fpBest at p; omega))) (Or.inl (fA fpRules (by intro o q p; unfold fpRules at p; omega))) (Or.inl (fA fpZones (by intro o q p; unfold fpZones at p; omega))) (Or.inl (fA fpShow (by intro o q p; unfold fpShow at p; omega))) (Or.inl (fA fpCues (by intro o q p; unfold fpCues at p; omega))) (Or.inr ⟨t, ht, a1, a2, a3⟩)
  rw [a4 82 1 (by omega)]
  exact (a4 0 6 (by omega)).trans h6
end O9
