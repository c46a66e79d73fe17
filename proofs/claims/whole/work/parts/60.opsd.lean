section OD
variable {z h k n m t : Nat} {K : Nat → Nat × Nat} {I J : Nat → Nat → Int32} {R : Nat → Nat → Option Nat} {w : Nat}
-- stroke
theorem sR_t {a kd j : Nat} {v : Option Nat} (h : K a = (kd, n)) (hj : j < n) (hn : n < 2 ^ 31) : sR (K, I, R, w) (some a) kd (nI j) v = some (K, I, up2 R a j v, w) := by
  rw [sR_ok (S := (K, I, R, w)) (a := a) (kd := kd) (i := nI j) ⟨by show (K a).1 = kd; rw [h], by show ¬ (nI j < 0 ∨ (K a).2 ≤ (nI j).toNatClampNeg); rw [h]; exact ix_ok hj hn⟩]
  show some (K, I, up2 R a (nI j).toNatClampNeg v, w) = _
  rw [nI_clamp (by omega)]
theorem Shp.ext {K' : Nat → Nat × Nat} {R' : Nat → Nat → Option Nat} (hS : Shp z K R) (eK : ∀ o, o ≤ 105 → K' (z + o) = K (z + o)) (eR : ∀ o q, o ≤ 105 → o ≠ 3 → R' (z + o) q = R (z + o) q) : Shp z K' R' := by
  have l1 : ∀ t ∈ ksl, t.1 ≤ 105 := by decide
  have l2 : ∀ t ∈ rsl, t.1 ≤ 105 ∧ t.1 ≠ 3 := by decide
  exact ⟨fun t ht => by rw [eK _ (l1 t ht)]; exact hS.1 t ht, fun t ht => by rw [eR _ _ (l2 t ht).1 (l2 t ht).2]; exact hS.2 t ht⟩
/-- the places are looked at, in both -/
theorem hold_2 (hS : Shp z K R) {s i m n : Nat} (hs8 : s < 8) (hm : m ≤ 40) (him : i + 2 * n ≤ m) (e2 : I (z + (66 + 2 * s)) 2 = nI m) (e85 : ∀ j, j < 40 → J (z + 85) (40 * s + j) = I (z + (67 + 2 * s)) j) : ∀ fu j, j ≤ 2 * n → 2 * n < fu + j →
    (b_X5_holdsPlaces_2 fu (some (z + (66 + 2 * s))) (nI i) (nI n) (nI j) (K, I, R, w) = some (1, K, I, R, w) ∧ b_X12_stroke_85 fu (some (z + 82)) (nI s) (nI i) (nI n) (nI j) (K, J, R, w) = b_X12_stroke_127 (some (z + 82)) (nI s) (nI i) (nI n) (K, J, R, w) ∧ ∀ q, j ≤ q → q < 2 * n → ∃ x, x ≤ 1000 ∧ I (z + (67 + 2 * s)) (i + q) = nI x) ∨
    (b_X5_holdsPlaces_2 fu (some (z + (66 + 2 * s))) (nI i) (nI n) (nI j) (K, I, R, w) = some (0, K, I, R, w) ∧ b_X12_stroke_85 fu (some (z + 82)) (nI s) (nI i) (nI n) (nI j) (K, J, R, w) = some (-1000001, K, J, R, w)) := by
  have kS : (K (z + (66 + 2 * s))).1 = 5 + 1 := by rw [kzS hS hs8]
  intro fu
  induction fu with
  | zero => intro j a b; omega
  | succ fu ih =>
    intro j a b
    rw [b_X5_holdsPlaces_2, b_X12_stroke_85, ix2]
    by_cases c : j = 2 * n
    · subst c
      left
      rw [if_pos (nI_le (Nat.le_refl _) (by omega)), if_pos (nI_le (Nat.le_refl _) (by omega))]
      exact ⟨rfl, rfl, fun k a b => by omega⟩
    · have hj : j < 2 * n := by omega
      rw [if_neg (nI_ge hj (by omega)), if_neg (nI_ge hj (by omega))]
      simp only [cK_t kS, ix40, nI_add, Nat.add_assoc, item_X hS hs8 hm e2 (show i + j < m by omega), Option.bind_some, isW, gR_t (k82 hS), rz82_4 hS, aI_t (kz85 hS) (show 40 * s + (i + j) < 320 by omega) (by decide), e85 (i + j) (by omega), in_01000]
      by_cases c1 : 0 ≤ I (z + (67 + 2 * s)) (i + j) ∧ I (z + (67 + 2 * s)) (i + j) ≤ 1000
      · simp only [wi1 c1, i10, if_false, lt1, nI_1]
        rcases ih (j + 1) (by omega) (by omega) with ⟨r1, r2, r3⟩ | ⟨r1, r2⟩
        · left
          refine ⟨r1, r2, fun q a b => ?_⟩
          by_cases ek : q = j
          · subst ek
            obtain ⟨x, hx, e⟩ := ix_le (n := 1000) (by decide) c1
            exact ⟨x, hx, e⟩
          · exact r3 q (by omega) b
        · right; exact ⟨r1, r2⟩
      · right
        simp only [wi0 c1, if_true]
        exact ⟨rfl, trivial⟩
theorem sof_X (hS : Shp z K R) {s i m n h : Nat} (hs8 : s < 8) (hm : m ≤ 40) (hn : n ≤ 8) (him : i + 2 * n ≤ m) (hx : K (z + (106 + 3 * h)) = (14, n)) (hy : K (z + (107 + 3 * h)) = (14, n)) : ∀ fu k (J : Nat → Nat → Int32), J (z + (66 + 2 * s)) 2 = nI m → k ≤ n → n < fu + k → ∃ A : Nat → Nat → Int32, b_X11_strokeOf_12 fu (some (z + (66 + 2 * s))) (nI i) (nI n) (some (z + (106 + 3 * h))) (some (z + (107 + 3 * h))) (nI k) (K, J, R, w) = b_X11_strokeOf_55 (nI n) (some (z + (106 + 3 * h))) (some (z + (107 + 3 * h))) (K, A, R, w) ∧ (∀ t, k ≤ t → t < n → A (z + (106 + 3 * h)) t = J (z + (67 + 2 * s)) (i + 2 * t) ∧ A (z + (107 + 3 * h)) t = J (z + (67 + 2 * s)) (i + 2 * t + 1)) ∧ ∀ o q, ¬ (o = 106 + 3 * h ∧ k ≤ q ∧ q < n) → ¬ (o = 107 + 3 * h ∧ k ≤ q ∧ q < n) → A (z + o) q = J (z + o) q := by
  have kS : (K (z + (66 + 2 * s))).1 = 5 + 1 := by rw [kzS hS hs8]
  intro fu
  induction fu with
  | zero => intro k J _ a b; omega
  | succ fu ih =>
    intro k J e2 a b
    rw [b_X11_strokeOf_12]
    by_cases c : k = n
    · subst c
      rw [if_pos (nI_le (Nat.le_refl _) (by omega))]
      exact ⟨J, rfl, fun k a b => by omega, fun _ _ _ _ => rfl⟩
    · have hk : k < n := by omega
      have p0 : nI (i + 2 * k) + 1 = nI (i + 2 * k + 1) := nI_1 _
      rw [if_neg (nI_ge hk (by omega))]
      have e2' : up2 J (z + (106 + 3 * h)) k (J (z + (67 + 2 * s)) (i + 2 * k)) (z + (66 + 2 * s)) 2 = nI m := by simp (disch := omega) only [un_1, un_2, un_3, un_4, es, up2_self]; exact e2
      have e9 : up2 J (z + (106 + 3 * h)) k (J (z + (67 + 2 * s)) (i + 2 * k)) (z + (67 + 2 * s)) (i + 2 * k + 1) = J (z + (67 + 2 * s)) (i + 2 * k + 1) := by simp (disch := omega) only [un_1, un_2, un_3, un_4, es, up2_self]
      simp only [cK_t kS, ix2, nI_add i (2 * k), p0, item_X hS hs8 hm e2 (show i + 2 * k < m by omega), item_X hS hs8 hm e2' (show i + 2 * k + 1 < m by omega), Option.bind_some, sI_t hx hk (by omega), sI_t hy hk (by omega), nar14, lt1, nI_1, e9]
      obtain ⟨A, r1, r2, r3⟩ := ih (k + 1) (up2 (up2 J (z + (106 + 3 * h)) k (J (z + (67 + 2 * s)) (i + 2 * k))) (z + (107 + 3 * h)) k (J (z + (67 + 2 * s)) (i + 2 * k + 1))) (by simp (disch := omega) only [un_1, un_2, un_3, un_4, es, up2_self]; exact e2) (by omega) (by omega)
      refine ⟨A, r1, fun t a b => ?_, fun o q a b => ?_⟩
      · by_cases et : t = k
        · subst et
          rw [r3 (106 + 3 * h) t (by omega) (by omega), r3 (107 + 3 * h) t (by omega) (by omega)]
          simp (disch := omega) only [un_1, un_2, un_3, un_4, es, up2_self]
          exact ⟨trivial, trivial⟩
        · have := r2 t (by omega) b
          simp (disch := omega) only [un_1, un_2, un_3, un_4, es, up2_self] at this
          exact this
      · rw [r3 o q (by omega) (by omega)]
        simp (disch := omega) only [un_1, un_2, un_3, un_4, es, up2_self]
/-- a stroke's object is made -/
theorem new_X {x y : Option Nat} (kd : Nat) (hk : kd = 2 ∨ kd = 3 ∨ kd = 8) : f_X8_init w x y (nw (K, J, R, w) kd 0) = some (va_up K w (kd, 0), va_up J w (fun _ => 0), up2 (up2 (va_up R w (fun _ => none)) w 0 x) w 1 y, w + 1) := by
  have hk' : (va_up K w (kd, 0) w).1 = 2 ∨ (va_up K w (kd, 0) w).1 = 3 ∨ (va_up K w (kd, 0) w).1 = 8 := by rw [va_up_self]; exact hk
  have p : ∀ (J' : Nat → Nat → Int32) (R' : Nat → Nat → Option Nat) j v, pS (va_up K w (kd, 0), J', R', w + 1) (some w) j v = some (va_up K w (kd, 0), J', up2 R' w j v, w + 1) := by
    intro J' R' j v
    simp only [pS, Option.bind_some]
    rw [if_pos hk']
  simp only [f_X8_init, nw, p, Option.bind_some]
theorem s55_X {n : Nat} (h1 : 1 ≤ n) (h8 : n ≤ 8) {x y : Nat} (hx : K x = (14, n)) (hy : K y = (14, n)) : b_X11_strokeOf_55 (nI n) (some x) (some y) (K, J, R, w) = some (some w, va_up K w (kn n (J x) (J y), 0), va_up J w (fun _ => 0), up2 (up2 (va_up R w (fun _ => none)) w 0 (some x)) w 1 (some y), w + 1) := by
  have l : b_X11_strokeOf_104 (some x) (some y) (K, J, R, w) = some (some w, va_up K w (2, 0), va_up J w (fun _ => 0), up2 (up2 (va_up R w (fun _ => none)) w 0 (some x)) w 1 (some y), w + 1) := by
    have := new_X (K := K) (J := J) (R := R) (w := w) (x := some x) (y := some y) 2 (Or.inl rfl)
    simp only [b_X11_strokeOf_104, b_X11_strokeOf_105, if_true, lt1, f_X1_init, this, Option.bind_some]
  have l3 : b_X11_strokeOf_105 (some x) (some y) 1 (K, J, R, w) = some (some w, va_up K w (3, 0), va_up J w (fun _ => 0), up2 (up2 (va_up R w (fun _ => none)) w 0 (some x)) w 1 (some y), w + 1) := by
    have := new_X (K := K) (J := J) (R := R) (w := w) (x := some x) (y := some y) 3 (Or.inr (Or.inl rfl))
    simp only [b_X11_strokeOf_105, i10, if_false, lt1, f_X2_init, f_X1_init, this, Option.bind_some]
  unfold b_X11_strokeOf_55
  by_cases c1 : n = 1
  · subst c1
    have := new_X (K := K) (J := J) (R := R) (w := w) (x := some x) (y := some y) 8 (Or.inr (Or.inr rfl))
    rw [if_pos (show nI 1 = 1 from rfl)]
    simp only [lt1, f_X7_init, this, Option.bind_some]
    rfl
  · have c1' : ¬ nI n = 1 := fun q => c1 ((nI_eq (b := 1) (by omega) (by decide)).mp q)
    rw [if_neg c1']
    by_cases c2 : n < 3
    · rw [if_pos (show nI n < 3 from nI_lt (b := 3) c2 (by decide)), l]
      unfold kn
      rw [if_neg c1, if_neg (fun q => by omega)]
    · rw [if_neg (show ¬ nI n < 3 from nI_nlt (b := 3) (by omega) (by omega)), show nI n - 1 = nI (n - 1) from sub_nn (b := 1) (by omega)]
      have a0 : ∀ u, K u = (14, n) → aI (K, J, R, w) (some u) 14 0 = some (J u 0) := fun u e => aI_t (j := 0) e (by omega) (by omega)
      simp only [a0 x hx, a0 y hy, aI_t hx (show n - 1 < n by omega) (by omega), aI_t hy (show n - 1 < n by omega) (by omega), Option.bind_some, l, l3]
      unfold kn
      rw [if_neg c1]
      by_cases q1 : J x 0 = J x (n - 1)
      · by_cases q2 : J y 0 = J y (n - 1)
        · rw [if_pos q1, if_pos q2, if_pos ⟨by omega, q1, q2⟩]
        · rw [if_pos q1, if_neg q2, if_neg (fun q => q2 q.2.2)]
      · rw [if_neg q1, if_neg (fun q => q1 q.2.1)]
/-- the plan begins anew, in the class -/
theorem add_X (hS : Shp z K R) {g : Nat} (hg : g ≤ 8) : ∀ fu k (J : Nat → Nat → Int32), J (z + 2) 3 = nI g → k ≤ g → g < fu + k → ∃ A : Nat → Nat → Int32, b_X9_add_34 fu (some (z + 2)) (nI k) (K, J, R, w) = some (nI g - 1, K, A, R, w) ∧ (∀ t, k ≤ t → t < g → A (z + 4) t = nI t ∧ A (z + 5) t = 0) ∧ ∀ o q, ¬ (o = 4 ∧ k ≤ q ∧ q < g) → ¬ (o = 5 ∧ k ≤ q ∧ q < g) → A (z + o) q = J (z + o) q := by
  have k2' : (K (z + 2)).1 = 8 + 1 := by rw [kz2 hS]
  intro fu
  induction fu with
  | zero => intro k J _ a b; omega
  | succ fu ih =>
    intro k J e3 a b
    rw [b_X9_add_34]
    simp only [gI_t k2', e3, Option.bind_some]
    by_cases c : k = g
    · subst c
      rw [if_pos (nI_le (Nat.le_refl _) (by omega))]
      refine ⟨J, ?_, fun k a b => by omega, fun _ _ _ _ => rfl⟩
      simp only [b_X9_add_55, gI_t k2', e3, Option.bind_some]
    · have hk : k < g := by omega
      rw [if_neg (nI_ge hk (by omega))]
      simp only [cK_t k2', f_X9_planAt, if_neg (nI_pos (show k < 2 ^ 31 by omega)), if_neg (i8nle (show k < 8 by omega)), gR_t k2', rz2_1 hS, rz2_2 hS, sI_t (kz4 hS) (show k < 8 by omega) (by decide), sI_t (kz5 hS) (show k < 8 by omega) (by decide), nar14, lt1, nI_1, Option.bind_some]
      obtain ⟨A, r1, r2, r3⟩ := ih (k + 1) (up2 (up2 J (z + 4) k (nI k)) (z + 5) k 0) (by simp (disch := omega) only [un_1, un_2, un_3, un_4, es, up2_self]; exact e3) (by omega) (by omega)
      refine ⟨A, r1, fun t a b => ?_, fun o q a b => ?_⟩
      · by_cases et : t = k
        · subst et
          rw [r3 4 t (by omega) (by omega), r3 5 t (by omega) (by omega)]
          simp (disch := omega) only [un_1, un_2, un_3, un_4, es, up2_self]
          exact ⟨trivial, trivial⟩
        · exact r2 t (by omega) b
      · rw [r3 o q (by omega) (by omega)]
        simp (disch := omega) only [un_1, un_2, un_3, un_4, es, up2_self]
theorem add_M (hS : Shp z K R) {g : Nat} (hg : g ≤ 8) : ∀ fu k (J : Nat → Nat → Int32), J (z + 82) 5 = nI g → k ≤ g → g < fu + k → ∃ A : Nat → Nat → Int32, b_X12_stroke_234 fu (some (z + 82)) (nI k) (K, J, R, w) = some (nI g - 1, K, A, R, w) ∧ (∀ t, k ≤ t → t < g → A (z + 89) t = nI t ∧ A (z + 90) t = 0) ∧ ∀ o q, ¬ (o = 89 ∧ k ≤ q ∧ q < g) → ¬ (o = 90 ∧ k ≤ q ∧ q < g) → A (z + o) q = J (z + o) q := by
  intro fu
  induction fu with
  | zero => intro k J _ a b; omega
  | succ fu ih =>
    intro k J e3 a b
    rw [b_X12_stroke_234]
    simp only [gI_t (k82 hS), e3, Option.bind_some]
    by_cases c : k = g
    · subst c
      rw [if_pos (nI_le (Nat.le_refl _) (by omega))]
      refine ⟨J, ?_, fun k a b => by omega, fun _ _ _ _ => rfl⟩
      simp only [b_X12_stroke_266, gI_t (k82 hS), e3, Option.bind_some]
    · have hk : k < g := by omega
      rw [if_neg (nI_ge hk (by omega))]
      simp only [gR_t (k82 hS), rz82_9 hS, rz82_10 hS, sI_t (kz89 hS) (show k < 8 by omega) (by decide), sI_t (kz90 hS) (show k < 8 by omega) (by decide), nar14, lt1, nI_1, Option.bind_some]
      obtain ⟨A, r1, r2, r3⟩ := ih (k + 1) (up2 (up2 J (z + 89) k (nI k)) (z + 90) k 0) (by simp (disch := omega) only [un_1, un_2, un_3, un_4, es, up2_self]; exact e3) (by omega) (by omega)
      refine ⟨A, r1, fun t a b => ?_, fun o q a b => ?_⟩
      · by_cases et : t = k
        · subst et
          rw [r3 89 t (by omega) (by omega), r3 90 t (by omega) (by omega)]
          simp (disch := omega) only [un_1, un_2, un_3, un_4, es, up2_self]
          exact ⟨trivial, trivial⟩
        · exact r2 t (by omega) b
      · rw [r3 o q (by omega) (by omega)]
        simp (disch := omega) only [un_1, un_2, un_3, un_4, es, up2_self]
theorem spt_M (hS : Shp z K R) {s i n h : Nat} (hs8 : s < 8) (hn : n ≤ 8) (him : i + 2 * n ≤ 40) (hh : h < 8) : ∀ fu k (J : Nat → Nat → Int32), J (z + 82) 5 = nI h → k ≤ n → n < fu + k → ∃ A : Nat → Nat → Int32, b_X12_stroke_135 fu (some (z + 82)) (nI s) (nI i) (nI n) (nI k) (K, J, R, w) = b_X12_stroke_211 (some (z + 82)) (nI n) (K, A, R, w) ∧ (∀ t, k ≤ t → t < n → A (z + 87) (8 * h + t) = J (z + 85) (40 * s + (i + 2 * t)) ∧ A (z + 88) (8 * h + t) = J (z + 85) (40 * s + (i + 2 * t + 1))) ∧ ∀ o q, ¬ (o = 87 ∧ 8 * h + k ≤ q ∧ q < 8 * h + n) → ¬ (o = 88 ∧ 8 * h + k ≤ q ∧ q < 8 * h + n) → A (z + o) q = J (z + o) q := by
  intro fu
  induction fu with
  | zero => intro k J _ a b; omega
  | succ fu ih =>
    intro k J e3 a b
    rw [b_X12_stroke_135]
    by_cases c : k = n
    · subst c
      rw [if_pos (nI_le (Nat.le_refl _) (by omega))]
      exact ⟨J, rfl, fun k a b => by omega, fun _ _ _ _ => rfl⟩
    · have hk : k < n := by omega
      have q0 : (40 : Int32) * nI s + nI i + nI (2 * k) = nI (40 * s + (i + 2 * k)) := by rw [ix40, nI_add, Nat.add_assoc]
      have q1 : nI (40 * s + (i + 2 * k)) + 1 = nI (40 * s + (i + 2 * k + 1)) := nI_1 _
      rw [if_neg (nI_ge hk (by omega))]
      have e5 : up2 J (z + 87) (8 * h + k) (J (z + 85) (40 * s + (i + 2 * k))) (z + 82) 5 = nI h := by simp (disch := omega) only [un_1, un_2, un_3, un_4, es, up2_self]; exact e3
      have e9 : up2 J (z + 87) (8 * h + k) (J (z + 85) (40 * s + (i + 2 * k))) (z + 85) (40 * s + (i + 2 * k + 1)) = J (z + 85) (40 * s + (i + 2 * k + 1)) := by simp (disch := omega) only [un_1, un_2, un_3, un_4, es, up2_self]
      simp only [gR_t (k82 hS), gI_t (k82 hS), e3, rz82_4 hS, rz82_7 hS, rz82_8 hS, ix2, q0, q1, aI_t (kz85 hS) (show 40 * s + (i + 2 * k) < 320 by omega) (by decide), aI_t (kz85 hS) (show 40 * s + (i + 2 * k + 1) < 320 by omega) (by decide), Option.bind_some, ix8, nI_add (8 * h) k, sI_t (kz87 hS) (show 8 * h + k < 64 by omega) (by decide), sI_t (kz88 hS) (show 8 * h + k < 64 by omega) (by decide), nar14, lt1, nI_1, e5, e9]
      obtain ⟨A, r1, r2, r3⟩ := ih (k + 1) (up2 (up2 J (z + 87) (8 * h + k) (J (z + 85) (40 * s + (i + 2 * k)))) (z + 88) (8 * h + k) (J (z + 85) (40 * s + (i + 2 * k + 1)))) (by simp (disch := omega) only [un_1, un_2, un_3, un_4, es, up2_self]; exact e3) (by omega) (by omega)
      refine ⟨A, r1, fun t a b => ?_, fun o q a b => ?_⟩
      · by_cases et : t = k
        · subst et
          rw [r3 87 (8 * h + t) (by omega) (by omega), r3 88 (8 * h + t) (by omega) (by omega)]
          simp (disch := omega) only [un_1, un_2, un_3, un_4, es, up2_self]
          exact ⟨trivial, trivial⟩
        · have := r2 t (by omega) b
          simp (disch := omega) only [un_1, un_2, un_3, un_4, es, up2_self] at this
          exact this
      · rw [r3 o q (by omega) (by omega)]
        simp (disch := omega) only [un_1, un_2, un_3, un_4, es, up2_self]
end OD
