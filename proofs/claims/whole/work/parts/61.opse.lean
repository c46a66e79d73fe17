section OE
variable {z h k n m t : Nat} {K : Nat → Nat × Nat} {I J : Nat → Nat → Int32} {R : Nat → Nat → Option Nat} {w : Nat}
theorem RStroke.ext {K' : Nat → Nat × Nat} {R' : Nat → Nat → Option Nat} (hs : RStroke z K I R k n) (eK : ∀ o, 106 + 3 * k ≤ o → o ≤ 108 + 3 * k → K' (z + o) = K (z + o)) (eR3 : R' (z + 3) k = R (z + 3) k) (eR : ∀ q, R' (z + (108 + 3 * k)) q = R (z + (108 + 3 * k)) q) (e86 : J (z + 86) k = I (z + 86) k) (eI : ∀ o q, o = 106 + 3 * k ∨ o = 107 + 3 * k → J (z + o) q = I (z + o) q) (e87 : ∀ j, j < 8 → J (z + 87) (8 * k + j) = I (z + 87) (8 * k + j) ∧ J (z + 88) (8 * k + j) = I (z + 88) (8 * k + j)) : RStroke z K' J R' k n := by
  obtain ⟨h1, h2, h3, h4, h5, h6, h7, h8, h9, h10⟩ := hs
  have ex : J (z + (106 + 3 * k)) = I (z + (106 + 3 * k)) := funext fun j => eI _ j (by omega)
  have ey : J (z + (107 + 3 * k)) = I (z + (107 + 3 * k)) := funext fun j => eI _ j (by omega)
  refine ⟨h1, h2, by rw [e86]; exact h3, by rw [eR3]; exact h4, by rw [eK _ (by omega) (by omega)]; exact h5, by rw [eK _ (by omega) (by omega)]; exact h6, by rw [eR]; exact h7, by rw [eR]; exact h8, by rw [eK _ (by omega) (by omega), ex, ey]; exact h9, fun j hj => ?_⟩
  rw [ex, ey, (e87 j (by omega)).1, (e87 j (by omega)).2]
  exact h10 j hj
theorem stk_M (h4 : Shp z K R) {s i n m h : Nat} (hs8 : s < 8) (c1 : 0 ≤ nI s ∧ nI s ≤ 7) (c2 : 1 ≤ nI n ∧ nI n ≤ 8) (hne : ¬ nI h = 8) (c5 : 0 ≤ I (z + 83) s) (n0 : ¬ nI i < 0) (e64 : (nI i).toInt64 + (nI (2 * n)).toInt64 ≤ (nI m).toInt64) {B : Nat → Nat → Int32} (b1 : B (z + 82) 5 = nI h) (b2 : B (z + 83) s = I (z + 83) s) (b3 : B (z + 84) s = nI m) : f_X12_stroke (some (z + 82)) (nI s) (nI i) (nI n) (K, B, R, w) = b_X12_stroke_85 FU (some (z + 82)) (nI s) (nI i) (nI n) 0 (K, up2 B (z + 82) 0 0, R, w) := by
  have e1 : up2 B (z + 82) 0 0 (z + 82) 5 = nI h := by simp (disch := omega) only [un_1, un_2, un_3, un_4, es, up2_self]; exact b1
  have e2 : up2 B (z + 82) 0 0 (z + 83) s = I (z + 83) s := by simp (disch := omega) only [un_1, un_2, un_3, un_4, es, up2_self]; exact b2
  have e3 : up2 B (z + 82) 0 0 (z + 84) s = nI m := by simp (disch := omega) only [un_1, un_2, un_3, un_4, es, up2_self]; exact b3
  simp only [f_X12_stroke, pI_t (k82 h4), isShM, wi1 c1, i10, if_false, Option.bind_some, in_18, wi1 c2, gI_t (k82 h4), e1, hne, gR_t (k82 h4), rz82_2 h4, rz82_3 h4, aI_t (kz83 h4) hs8 (by decide), aI_t (kz84 h4) hs8 (by decide), e2, if_pos c5, if_neg n0, e3, ix2, (c64_le _ _).mpr e64, if_true]
theorem hold_1 (hS : Shp z K R) {s i m n : Nat} (hs8 : s < 8) (hm : m ≤ 40) (him : i + 2 * n ≤ m) (e2 : J (z + (66 + 2 * s)) 2 = nI m) (r3 : ∀ q, q < 2 * n → ∃ x, x ≤ 1000 ∧ J (z + (67 + 2 * s)) (i + q) = nI x) : ∀ fu j, j ≤ 2 * n → 2 * n < fu + j → b_X5_holdsPlaces_2 fu (some (z + (66 + 2 * s))) (nI i) (nI n) (nI j) (K, J, R, w) = some (1, K, J, R, w) := by
  have kS4 : (K (z + (66 + 2 * s))).1 = 5 + 1 := by rw [kzS hS hs8]
  intro fu
  induction fu with
  | zero => intro j a b; omega
  | succ fu ih =>
    intro j a b
    rw [b_X5_holdsPlaces_2, ix2]
    by_cases c : j = 2 * n
    · subst c
      rw [if_pos (nI_le (Nat.le_refl _) (by omega))]; rfl
    · have hj : j < 2 * n := by omega
      obtain ⟨x, x1, x3⟩ := r3 j hj
      have x4 : 0 ≤ nI x ∧ nI x ≤ 1000 := ⟨nI_pos' (by omega), nI_le (b := 1000) x1 (by decide)⟩
      rw [if_neg (nI_ge hj (by omega))]
      simp only [cK_t kS4, nI_add, item_X hS hs8 hm e2 (show i + j < m by omega), Option.bind_some, isW, x3, wi1 x4, i10, if_false, lt1, nI_1]
      exact ih (j + 1) (by omega) (by omega)
theorem nwA_t {S : St} (n8 : n ≤ 8) : nwA S 14 (nI n) 8 = some (nw S 14 n) := by
  unfold nwA
  rw [nI_clamp (by omega), if_neg (fun q => q.elim (fun q => absurd q (nI_pos (by omega))) (fun q => by omega))]
theorem stk_so {K2 K3 : Nat → Nat × Nat} {R2 R3 : Nat → Nat → Option Nat} {J1 A1 : Nat → Nat → Int32} {a : Option Nat} {v : Int32} {r : Option Nat} {w0 w1 w2 w' : Nat} (n8 : n ≤ 8) (e1 : w0 + 1 = w1) (e2 : w1 + 1 = w2) (hK2 : K2 = va_up (va_up K w0 (14, n)) w1 (14, n)) (hR2 : R2 = va_up (va_up R w0 (fun _ => none)) w1 (fun _ => none)) (hJ1 : J1 = va_up (va_up I w0 (fun _ => 0)) w1 (fun _ => 0)) (e : b_X11_strokeOf_12 FU a v (nI n) (some w0) (some w1) 0 (K2, J1, R2, w2) = some (r, K3, A1, R3, w')) : f_X11_strokeOf a v (nI n) (K, I, R, w0) = some (r, K3, A1, R3, w') := by
  subst hK2 hR2 hJ1 e2 e1
  unfold f_X11_strokeOf
  rw [nwA_t n8, Option.bind_some, nwA_t n8, Option.bind_some]
  exact e
theorem stk_ad {R4 : Nat → Nat → Option Nat} {A2 : Nat → Nat → Int32} {a : Nat} (hS : Shp z K R) (e3 : J (z + 2) 3 = nI h) (h8' : h < 8) (kWc : (K a).1 = 2 ∨ (K a).1 = 3 ∨ (K a).1 = 8) (hR4 : R4 = up2 R (z + 3) h (some a)) (b1 : b_X9_add_34 FU (some (z + 2)) 0 (K, up2 J (z + 2) 3 (nI (h + 1)), R4, w) = some (nI h, K, A2, R4, w)) : f_X9_add (some (z + 2)) (some a) (K, J, R, w) = some (nI h, K, A2, R4, w) := by
  have k33 : (K (z + 2)).1 = 8 + 1 := by rw [kz2 hS]
  have hlt : nI h < 8 := nI_lt (b := 8) h8' (by decide)
  simp only [f_X9_add, gI_t k33, e3, Option.bind_some, if_pos hlt, gR_t k33, rz2_0 hS, k3_s kWc, sR_t (kz3 hS) h8' (by decide), pI_t k33, nI_1]
  rw [← hR4]
  exact b1
theorem stk_c {K3 : Nat → Nat × Nat} {R3 R4 : Nat → Nat → Option Nat} {A1 A2 : Nat → Nat → Int32} {a w' : Nat} {s i n m : Nat} (h4 : Shp z K R) (h7 : RSheets z I) (h8 : RStrokes z h K I R) (S4 : Shp z K3 R4) (hs8 : s < 8) (c1 : 0 ≤ nI s ∧ nI s ≤ 7) (c2 : 1 ≤ nI n ∧ nI n ≤ 8) (h8' : h < 8) (c4 : ¬ I (z + 83) s = -1) (m2 : I (z + 84) s = nI m) (eh : hs (nI i) (nI (2 * n)) (nI m) = 1) (r1 : f_X5_holdsPlaces (some (z + (66 + 2 * s))) (nI i) (nI n) (K, I, R, w) = some (1, K, I, R, w)) (so : f_X11_strokeOf (some (z + (66 + 2 * s))) (nI i) (nI n) (K, up2 I (z + 10) 12 0, R, w) = some (some a, K3, A1, R3, w')) (ad : f_X9_add (some (z + 2)) (some a) (K3, A1, R3, w') = some (nI h, K3, A2, R4, w')) : f_X11_stroke (some z) (nI s) (nI i) (nI n) (K, I, R, w) = some (nI h, K3, up2 A2 z 6 0, R4, w') := by
  have kz : (K z).1 = 10 + 1 := by rw [kz0 h4]
  have k2' : (K (z + 2)).1 = 8 + 1 := by rw [kz2 h4]
  have k10 : (K (z + 10)).1 = 6 + 1 := by rw [kz10 h4]
  have kS : (K (z + (66 + 2 * s))).1 = 5 + 1 := by rw [kzS h4 hs8]
  have k33 : (K3 (z + 2)).1 = 8 + 1 := by rw [kz2 S4]
  have k4 : (K3 z).1 = 10 + 1 := by rw [kz0 S4]
  obtain ⟨g1, g2, g3, -, g5⟩ := h7 s hs8
  have hlt : nI h < 8 := nI_lt (b := 8) h8' (by decide)
  have c4' : ¬ I (z + (66 + 2 * s)) 1 = -1 := fun q => c4 (g1.symm.trans q)
  simp only [f_X11_stroke, isSh, wi1 c1, i10, if_false, Option.bind_some, isW, wi1 c2, gR_t kz, rz0_1 h4, rz0_0 h4, rz0_3 h4, gI_t k2', h8.1, if_pos hlt, aR_t (kz1 h4) hs8 (by decide), rzS h4 hs8, cK_t kS, miss_X h4 hs8, if_neg c4', if_true, ix2, has_X h4 hs8, g2, m2, eh, r1, cK_t k10, f_X6_pathIsStale, pI_t k10, so, cK_t k33, ad, cK_t k4, fine_X S4]
theorem stk_X (h2 : 0 < z) (h4 : Shp z K R) (h7 : RSheets z I) (h8 : RStrokes z h K I R) {s i n m : Nat} (hs8 : s < 8) (c1 : 0 ≤ nI s ∧ nI s ≤ 7) (c2 : 1 ≤ nI n ∧ nI n ≤ 8) (n1 : 1 ≤ n) (n8 : n ≤ 8) (h8' : h < 8) (c4 : ¬ I (z + 83) s = -1) (m1 : m ≤ 40) (m2 : I (z + 84) s = nI m) (hic : i + 2 * n ≤ m) (eh : hs (nI i) (nI (2 * n)) (nI m) = 1) (r1 : f_X5_holdsPlaces (some (z + (66 + 2 * s))) (nI i) (nI n) (K, I, R, z + (106 + 3 * h)) = some (1, K, I, R, z + (106 + 3 * h))) : ∃ (K3 : Nat → Nat × Nat) (A3 : Nat → Nat → Int32) (R4 : Nat → Nat → Option Nat), f_X11_stroke (some z) (nI s) (nI i) (nI n) (K, I, R, z + (106 + 3 * h)) = some (nI h, K3, A3, R4, z + (106 + 3 * (h + 1))) ∧ Shp z K3 R4 ∧ (∀ o, o ≠ 106 + 3 * h → o ≠ 107 + 3 * h → o ≠ 108 + 3 * h → K3 (z + o) = K (z + o)) ∧ (∀ o q, o ≠ 106 + 3 * h → o ≠ 107 + 3 * h → o ≠ 108 + 3 * h → ¬ (o = 3 ∧ q = h) → R4 (z + o) q = R (z + o) q) ∧ (∀ o q, o ≠ 106 + 3 * h → o ≠ 107 + 3 * h → o ≠ 108 + 3 * h → ¬ (o = 10 ∧ q = 12) → ¬ (o = 2 ∧ q = 3) → o ≠ 4 → o ≠ 5 → ¬ (o = 0 ∧ q = 6) → A3 (z + o) q = I (z + o) q) ∧ (∀ t, t < n → A3 (z + (106 + 3 * h)) t = I (z + (67 + 2 * s)) (i + 2 * t) ∧ A3 (z + (107 + 3 * h)) t = I (z + (67 + 2 * s)) (i + 2 * t + 1)) ∧ (∀ t, t < h + 1 → A3 (z + 4) t = nI t ∧ A3 (z + 5) t = 0) ∧ A3 (z + 2) 3 = nI (h + 1) ∧ A3 (z + 10) 12 = 0 ∧ A3 z 6 = 0 ∧ (∀ q, R4 0 q = R 0 q) ∧ K3 (z + (106 + 3 * h)) = (14, n) ∧ K3 (z + (107 + 3 * h)) = (14, n) ∧ (K3 (z + (108 + 3 * h))).1 = kn n (A3 (z + (106 + 3 * h))) (A3 (z + (107 + 3 * h))) ∧ R4 (z + 3) h = some (z + (108 + 3 * h)) ∧ R4 (z + (108 + 3 * h)) 0 = some (z + (106 + 3 * h)) ∧ R4 (z + (108 + 3 * h)) 1 = some (z + (107 + 3 * h)) := by
  have kz : (K z).1 = 10 + 1 := by rw [kz0 h4]
  have k2' : (K (z + 2)).1 = 8 + 1 := by rw [kz2 h4]
  have k10 : (K (z + 10)).1 = 6 + 1 := by rw [kz10 h4]
  have kS : (K (z + (66 + 2 * s))).1 = 5 + 1 := by rw [kzS h4 hs8]
  obtain ⟨g1, g2, g3, -, g5⟩ := h7 s hs8
  have hlt : nI h < 8 := nI_lt (b := 8) h8' (by decide)
  have c4' : ¬ I (z + (66 + 2 * s)) 1 = -1 := fun q => c4 (g1.symm.trans q)
  have w1 : z + (106 + 3 * h) + 1 = z + (107 + 3 * h) := by omega
  have w2 : z + (107 + 3 * h) + 1 = z + (108 + 3 * h) := by omega
  have w3 : z + (108 + 3 * h) + 1 = z + (106 + 3 * (h + 1)) := by omega
  obtain ⟨K2, hK2⟩ : ∃ K2, K2 = va_up (va_up K (z + (106 + 3 * h)) (14, n)) (z + (107 + 3 * h)) (14, n) := ⟨_, rfl⟩
  obtain ⟨R2, hR2⟩ : ∃ R2, R2 = va_up (va_up R (z + (106 + 3 * h)) (fun _ => none)) (z + (107 + 3 * h)) (fun _ => none) := ⟨_, rfl⟩
  obtain ⟨J1, hJ1⟩ : ∃ J1, J1 = va_up (va_up (up2 I (z + 10) 12 0) (z + (106 + 3 * h)) (fun _ => 0)) (z + (107 + 3 * h)) (fun _ => 0) := ⟨_, rfl⟩
  have eK2 : ∀ o, o ≠ 106 + 3 * h → o ≠ 107 + 3 * h → K2 (z + o) = K (z + o) := by
    intro o p1 p2
    rw [hK2, va_up_ne _ _ (by omega), va_up_ne _ _ (by omega)]
  have eR2 : ∀ o q, o ≠ 106 + 3 * h → o ≠ 107 + 3 * h → R2 (z + o) q = R (z + o) q := by
    intro o q p1 p2
    rw [hR2, va_up_ne _ _ (by omega), va_up_ne _ _ (by omega)]
  have eJ1 : ∀ o q, o ≠ 106 + 3 * h → o ≠ 107 + 3 * h → ¬ (o = 10 ∧ q = 12) → J1 (z + o) q = I (z + o) q := by
    intro o q p1 p2 p3
    rw [hJ1, va_up_ne _ _ (by omega), va_up_ne _ _ (by omega)]
    simp (disch := omega) only [un_1, un_2, un_3, un_4, es, up2_self]
  have S2 : Shp z K2 R2 := h4.ext (fun o ho => eK2 o (by omega) (by omega)) (fun o q ho _ => eR2 o q (by omega) (by omega))
  have kx : K2 (z + (106 + 3 * h)) = (14, n) := by rw [hK2, va_up_ne _ _ (by omega), va_up_self]
  have ky : K2 (z + (107 + 3 * h)) = (14, n) := by rw [hK2, va_up_self]
  obtain ⟨A, a1, a2, a3⟩ := sof_X (w := z + (108 + 3 * h)) S2 hs8 m1 n8 hic kx ky FU 0 J1 (by rw [eJ1 _ _ (by omega) (by omega) (by omega)]; exact g2.trans m2) (by omega) (by unfold FU; omega)
  have eA : ∀ o q, o ≠ 106 + 3 * h → o ≠ 107 + 3 * h → ¬ (o = 10 ∧ q = 12) → A (z + o) q = I (z + o) q := fun o q p1 p2 p3 => by
    rw [a3 o q (by omega) (by omega)]; exact eJ1 o q p1 p2 p3
  have xA : ∀ t, t < n → A (z + (106 + 3 * h)) t = I (z + (67 + 2 * s)) (i + 2 * t) ∧ A (z + (107 + 3 * h)) t = I (z + (67 + 2 * s)) (i + 2 * t + 1) := fun t ht => by
    have := a2 t (by omega) ht
    rw [eJ1 (67 + 2 * s) _ (by omega) (by omega) (by omega), eJ1 (67 + 2 * s) _ (by omega) (by omega) (by omega)] at this
    exact this
  have s55 := s55_X (J := A) (R := R2) (w := z + (108 + 3 * h)) n1 n8 kx ky
  obtain ⟨kd, hkd⟩ : ∃ kd, kd = kn n (A (z + (106 + 3 * h))) (A (z + (107 + 3 * h))) := ⟨_, rfl⟩
  obtain ⟨K3, hK3⟩ : ∃ K3, K3 = va_up K2 (z + (108 + 3 * h)) (kd, 0) := ⟨_, rfl⟩
  obtain ⟨R3, hR3⟩ : ∃ R3, R3 = up2 (up2 (va_up R2 (z + (108 + 3 * h)) (fun _ => none)) (z + (108 + 3 * h)) 0 (some (z + (106 + 3 * h)))) (z + (108 + 3 * h)) 1 (some (z + (107 + 3 * h))) := ⟨_, rfl⟩
  obtain ⟨A1, hA1⟩ : ∃ A1, A1 = va_up A (z + (108 + 3 * h)) (fun _ => 0) := ⟨_, rfl⟩
  rw [← hkd, ← hK3, ← hR3, ← hA1, w3] at s55
  have eK3 : ∀ o, o ≠ 106 + 3 * h → o ≠ 107 + 3 * h → o ≠ 108 + 3 * h → K3 (z + o) = K (z + o) := by
    intro o p1 p2 p3
    rw [hK3, va_up_ne _ _ (by omega), eK2 o p1 p2]
  have eR3 : ∀ o q, o ≠ 106 + 3 * h → o ≠ 107 + 3 * h → o ≠ 108 + 3 * h → R3 (z + o) q = R (z + o) q := by
    intro o q p1 p2 p3
    rw [hR3, up2_ne _ _ (by omega), up2_ne _ _ (by omega), va_up_ne _ _ (by omega), eR2 o q p1 p2]
  have S3 : Shp z K3 R3 := h4.ext (fun o ho => eK3 o (by omega) (by omega) (by omega)) (fun o q ho _ => eR3 o q (by omega) (by omega) (by omega))
  have eA1 : ∀ o q, o ≠ 106 + 3 * h → o ≠ 107 + 3 * h → o ≠ 108 + 3 * h → ¬ (o = 10 ∧ q = 12) → A1 (z + o) q = I (z + o) q := fun o q p1 p2 p3 p4 => by
    rw [hA1, va_up_ne _ _ (by omega)]; exact eA o q p1 p2 p4
  have k33 : (K3 (z + 2)).1 = 8 + 1 := by rw [kz2 S3]
  have kW : (K3 (z + (108 + 3 * h))).1 = kd := by rw [hK3, va_up_self]
  have kWc : (K3 (z + (108 + 3 * h))).1 = 2 ∨ (K3 (z + (108 + 3 * h))).1 = 3 ∨ (K3 (z + (108 + 3 * h))).1 = 8 := by rw [kW, hkd]; exact kn_c _ _ _
  obtain ⟨R4, hR4⟩ : ∃ R4, R4 = up2 R3 (z + 3) h (some (z + (108 + 3 * h))) := ⟨_, rfl⟩
  have eR4 : ∀ o q, o ≠ 106 + 3 * h → o ≠ 107 + 3 * h → o ≠ 108 + 3 * h → ¬ (o = 3 ∧ q = h) → R4 (z + o) q = R (z + o) q := by
    intro o q p1 p2 p3 p4
    rw [hR4, up2_ne _ _ (by omega), eR3 o q p1 p2 p3]
  have S4 : Shp z K3 R4 := h4.ext (fun o ho => eK3 o (by omega) (by omega) (by omega)) (fun o q ho h3 => eR4 o q (by omega) (by omega) (by omega) (by omega))
  obtain ⟨A2, b1, b2, b3⟩ := add_X (w := z + (106 + 3 * (h + 1))) S4 (show h + 1 ≤ 8 by omega) FU 0 (up2 A1 (z + 2) 3 (nI (h + 1))) es (by omega) (by unfold FU; omega)
  obtain ⟨A3, hA3⟩ : ∃ A3, A3 = up2 A2 z 6 0 := ⟨_, rfl⟩
  have eA3 : ∀ o q, o ≠ 106 + 3 * h → o ≠ 107 + 3 * h → o ≠ 108 + 3 * h → ¬ (o = 10 ∧ q = 12) → ¬ (o = 2 ∧ q = 3) → o ≠ 4 → o ≠ 5 → ¬ (o = 0 ∧ q = 6) → A3 (z + o) q = I (z + o) q := by
    intro o q p1 p2 p3 p4 p5 p6 p7 p8
    rw [hA3]; simp (disch := omega) only [un_1, un_2, un_3, un_4, es, up2_self]
    rw [b3 o q (by omega) (by omega)]; simp (disch := omega) only [un_1, un_2, un_3, un_4, es, up2_self]
    exact eA1 o q p1 p2 p3 p4
  have xA3 : ∀ t, t < n → A3 (z + (106 + 3 * h)) t = I (z + (67 + 2 * s)) (i + 2 * t) ∧ A3 (z + (107 + 3 * h)) t = I (z + (67 + 2 * s)) (i + 2 * t + 1) := fun t ht => by
    rw [hA3]; simp (disch := omega) only [un_1, un_2, un_3, un_4, es, up2_self]
    rw [b3 _ _ (by omega) (by omega), b3 _ _ (by omega) (by omega)]; simp (disch := omega) only [un_1, un_2, un_3, un_4, es, up2_self]
    rw [hA1, va_up_ne _ _ (by omega), va_up_ne _ _ (by omega)]
    exact xA t ht
  have rA3 : ∀ o, o = 106 + 3 * h ∨ o = 107 + 3 * h → A3 (z + o) = A (z + o) := fun o ho => funext fun q => by
    rw [hA3]; simp (disch := omega) only [un_1, un_2, un_3, un_4, es, up2_self]
    rw [b3 _ _ (by omega) (by omega)]; simp (disch := omega) only [un_1, un_2, un_3, un_4, es, up2_self]
    rw [hA1, va_up_ne _ _ (by omega)]
  have cX : f_X11_stroke (some z) (nI s) (nI i) (nI n) (K, I, R, z + (106 + 3 * h)) = some (nI h, K3, A3, R4, z + (106 + 3 * (h + 1))) := by
    rw [hA3]
    refine stk_c (a := z + (108 + 3 * h)) h4 h7 h8 S4 hs8 c1 c2 h8' c4 m2 eh r1 (A1 := A1) (R3 := R3) ?_ ?_
    · rw [show nI 0 = 0 from rfl] at a1
      exact stk_so n8 w1 w2 hK2 hR2 hJ1 (a1.trans s55)
    · rw [show nI 0 = 0 from rfl, nI_pred] at b1
      exact stk_ad S3 (by rw [eA1 _ _ (by omega) (by omega) (by omega) (by omega)]; exact h8.1) h8' kWc hR4 b1
  refine ⟨K3, A3, R4, cX, S4, eK3, eR4, eA3, xA3, ?_, ?_, ?_, ?_, ?_, ?_, ?_, ?_, ?_, ?_, ?_⟩
  · intro t ht
    rw [hA3]; simp (disch := omega) only [un_1, un_2, un_3, un_4, es, up2_self]
    exact b2 t (by omega) ht
  · rw [hA3]; simp (disch := omega) only [un_1, un_2, un_3, un_4, es, up2_self]
    rw [b3 _ _ (by omega) (by omega)]; simp (disch := omega) only [un_1, un_2, un_3, un_4, es, up2_self]
  · rw [hA3]; simp (disch := omega) only [un_1, un_2, un_3, un_4, es, up2_self]
    rw [b3 _ _ (by omega) (by omega)]; simp (disch := omega) only [un_1, un_2, un_3, un_4, es, up2_self]
    rw [hA1, va_up_ne _ _ (by omega), a3 _ _ (by omega) (by omega), hJ1, va_up_ne _ _ (by omega), va_up_ne _ _ (by omega)]
    simp (disch := omega) only [un_1, un_2, un_3, un_4, es, up2_self]
  · rw [hA3]; exact up2_self _ _ _ _
  · intro q
    rw [hR4, up2_ne _ _ (by omega), hR3, up2_ne _ _ (by omega), up2_ne _ _ (by omega), va_up_ne _ _ (by omega), hR2, va_up_ne _ _ (by omega), va_up_ne _ _ (by omega)]
  · rw [hK3, va_up_ne _ _ (by omega)]; exact kx
  · rw [hK3, va_up_ne _ _ (by omega)]; exact ky
  · rw [kW, hkd, rA3 _ (Or.inl rfl), rA3 _ (Or.inr rfl)]
  · rw [hR4, up2_self]
  · rw [hR4, up2_ne _ _ (by omega), hR3, up2_ne _ _ (by omega), up2_self]
  · rw [hR4, up2_ne _ _ (by omega), hR3, up2_self]
theorem stk_G (hR : Rel z (K, I, R, z + (106 + 3 * h))) (h1 : h ≤ 8) (h2 : 0 < z) (h5 : RCst R) (h10 : RBest z h I) (h11 : RRules z I) (h12 : RZones z I) (h14 : RCues z I R) (h15 : RTrace z I) (h4 : Shp z K R) (h7 : RSheets z I) (h8 : RStrokes z h K I R) {s i n m : Nat} (hs8 : s < 8) (c1 : 0 ≤ nI s ∧ nI s ≤ 7) (c2 : 1 ≤ nI n ∧ nI n ≤ 8) (n1 : 1 ≤ n) (n8 : n ≤ 8) (h8' : h < 8) (c4 : ¬ I (z + 83) s = -1) (m1 : m ≤ 40) (m2 : I (z + 84) s = nI m) (hic : i + 2 * n ≤ m) (eh : hs (nI i) (nI (2 * n)) (nI m) = 1) (r1 : f_X5_holdsPlaces (some (z + (66 + 2 * s))) (nI i) (nI n) (K, I, R, z + (106 + 3 * h)) = some (1, K, I, R, z + (106 + 3 * h))) (e64 : (nI i).toInt64 + (nI (2 * n)).toInt64 ≤ (nI m).toInt64) (r3 : ∀ q, 0 ≤ q → q < 2 * n → ∃ x, x ≤ 1000 ∧ I (z + (67 + 2 * s)) (i + q) = nI x) : ∃ r S1 S2, f_X11_stroke (some z) (nI s) (nI i) (nI n) (K, I, R, z + (106 + 3 * h)) = some (r, S1) ∧ (S1.1 (z + 82)).1 = 12 ∧ f_X12_stroke (some (z + 82)) (nI s) (nI i) (nI n) S1 = some (r, S2) ∧ Rel z S2 := by
  obtain ⟨K3, A3, R4, cX, S4, eK3, eR4, eA3, xA3, b2', A32, A310, A36, r0, kx, ky, kW, rW, rW0, rW1⟩ := stk_X h2 h4 h7 h8 hs8 c1 c2 n1 n8 h8' c4 m1 m2 hic eh r1
  obtain ⟨g1, g2, g3, -, g5⟩ := h7 s hs8
  have hne : ¬ nI h = 8 := fun q => by have := (nI_eq (b := 8) (by omega) (by decide)).mp q; omega
  have c5 : 0 ≤ I (z + 83) s := (lane_neg g3).mpr c4
  have n0 : ¬ nI i < 0 := nI_pos (by omega)
  have B5 : A3 (z + 82) 5 = nI h := by rw [eA3 _ _ (by omega) (by omega) (by omega) (by omega) (by omega) (by omega) (by omega) (by omega)]; exact h8.2.1
  have B85 : ∀ j, j < 40 → up2 A3 (z + 82) 0 0 (z + 85) (40 * s + j) = A3 (z + (67 + 2 * s)) j := by
    intro j hj
    simp (disch := omega) only [un_1, un_2, un_3, un_4, es, up2_self]
    rw [eA3 _ _ (by omega) (by omega) (by omega) (by omega) (by omega) (by omega) (by omega) (by omega), eA3 _ _ (by omega) (by omega) (by omega) (by omega) (by omega) (by omega) (by omega) (by omega)]
    exact (g5 j hj).symm
  have B2 : A3 (z + (66 + 2 * s)) 2 = nI m := by rw [eA3 _ _ (by omega) (by omega) (by omega) (by omega) (by omega) (by omega) (by omega) (by omega)]; exact g2.trans m2
  rcases hold_2 (w := z + (106 + 3 * (h + 1))) (I := A3) (J := up2 A3 (z + 82) 0 0) S4 hs8 m1 hic B2 B85 FU 0 (by omega) (by unfold FU; omega) with ⟨-, s2, -⟩ | ⟨s1, s2⟩
  · obtain ⟨C, d1, d2, d3⟩ := spt_M (w := z + (106 + 3 * (h + 1))) (s := s) (i := i) (n := n) S4 hs8 n8 (by omega) h8' FU 0 (up2 (up2 A3 (z + 82) 0 0) (z + 82) 1 0) (by simp (disch := omega) only [un_1, un_2, un_3, un_4, es, up2_self]; exact B5) (by omega) (by unfold FU; omega)
    have C5 : C (z + 82) 5 = nI h := by rw [d3 _ _ (by omega) (by omega)]; simp (disch := omega) only [un_1, un_2, un_3, un_4, es, up2_self]; exact B5
    obtain ⟨D, u1, u2, u3⟩ := add_M (w := z + (106 + 3 * (h + 1))) S4 (show h + 1 ≤ 8 by omega) FU 0 (up2 (up2 C (z + 86) h (nI n)) (z + 82) 5 (nI (h + 1))) es (by omega) (by unfold FU; omega)
    have cM : f_X12_stroke (some (z + 82)) (nI s) (nI i) (nI n) (K3, A3, R4, z + (106 + 3 * (h + 1))) = some (nI h, K3, D, R4, z + (106 + 3 * (h + 1))) := by
      rw [stk_M S4 hs8 c1 c2 hne c5 n0 e64 B5 (eA3 _ _ (by omega) (by omega) (by omega) (by omega) (by omega) (by omega) (by omega) (by omega)) ((eA3 _ _ (by omega) (by omega) (by omega) (by omega) (by omega) (by omega) (by omega) (by omega)).trans m2)]
      rw [show nI 0 = 0 from rfl] at s2 d1 u1
      have e5 : up2 C (z + 86) h (nI n) (z + 82) 5 = nI h := by simp (disch := omega) only [un_1, un_2, un_3, un_4, es, up2_self]; exact C5
      rw [s2]
      simp only [b_X12_stroke_127, pI_t (k82 S4), Option.bind_some, d1, b_X12_stroke_211, gR_t (k82 S4), rz82_6 S4, gI_t (k82 S4), C5, sI_t (kz86 S4) h8' (by decide), nar14, e5, nI_1]
      rw [u1, nI_pred]
    have eD : ∀ o q, o ≠ 89 → o ≠ 90 → ¬ (o = 86 ∧ q = h) → ¬ (o = 82 ∧ q = 5) → ¬ (o = 87 ∧ 8 * h ≤ q ∧ q < 8 * h + n) → ¬ (o = 88 ∧ 8 * h ≤ q ∧ q < 8 * h + n) → ¬ (o = 82 ∧ q = 0) → ¬ (o = 82 ∧ q = 1) → D (z + o) q = A3 (z + o) q := by
      intro o q p1 p2 p3 p4 p5 p6 p7 p8
      rw [u3 o q (by omega) (by omega)]; simp (disch := omega) only [un_1, un_2, un_3, un_4, es, up2_self]
      rw [d3 o q (by omega) (by omega)]; simp (disch := omega) only [un_1, un_2, un_3, un_4, es, up2_self]
    have D4 : ∀ t, t < h + 1 → D (z + 4) t = nI t ∧ D (z + 5) t = 0 := by
      intro t ht
      rw [eD _ _ (by omega) (by omega) (by omega) (by omega) (by omega) (by omega) (by omega) (by omega), eD _ _ (by omega) (by omega) (by omega) (by omega) (by omega) (by omega) (by omega) (by omega)]
      exact b2' t ht
    have D87 : ∀ t, t < n → D (z + 87) (8 * h + t) = I (z + (67 + 2 * s)) (i + 2 * t) ∧ D (z + 88) (8 * h + t) = I (z + (67 + 2 * s)) (i + 2 * t + 1) := by
      intro t ht
      rw [u3 _ _ (by omega) (by omega), u3 _ _ (by omega) (by omega)]; simp (disch := omega) only [un_1, un_2, un_3, un_4, es, up2_self]
      obtain ⟨x1, x2⟩ := d2 t (by omega) ht
      rw [x1, x2]
      have y1 := B85 (i + 2 * t) (by omega)
      have y2 := B85 (i + 2 * t + 1) (by omega)
      simp (disch := omega) only [un_1, un_2, un_3, un_4, es, up2_self] at y1 y2 ⊢
      rw [y1, y2, eA3 _ _ (by omega) (by omega) (by omega) (by omega) (by omega) (by omega) (by omega) (by omega), eA3 _ _ (by omega) (by omega) (by omega) (by omega) (by omega) (by omega) (by omega) (by omega)]
      exact ⟨rfl, rfl⟩
    have D86 : D (z + 86) h = nI n := by rw [u3 _ _ (by omega) (by omega)]; simp (disch := omega) only [un_1, un_2, un_3, un_4, es, up2_self]
    have D82 : D (z + 82) 5 = nI (h + 1) := by rw [u3 _ _ (by omega) (by omega)]; simp (disch := omega) only [un_1, un_2, un_3, un_4, es, up2_self]
    have D2 : D (z + 2) 3 = nI (h + 1) := by
      rw [eD _ _ (by omega) (by omega) (by omega) (by omega) (by omega) (by omega) (by omega) (by omega)]; exact A32
    have D10 : D (z + 10) 12 = 0 := by
      rw [eD _ _ (by omega) (by omega) (by omega) (by omega) (by omega) (by omega) (by omega) (by omega)]; exact A310
    have rD : ∀ o, o = 106 + 3 * h ∨ o = 107 + 3 * h → D (z + o) = A3 (z + o) := fun o ho => funext fun q => by
      rw [eD _ _ (by omega) (by omega) (by omega) (by omega) (by omega) (by omega) (by omega) (by omega)]
    have fA : ∀ fp : Nat → Nat → Prop, (∀ o q, fp o q → o ≠ 89 ∧ o ≠ 90 ∧ ¬ (o = 86 ∧ q = h) ∧ ¬ (o = 82 ∧ q = 5) ∧ ¬ (o = 87 ∧ 8 * h ≤ q ∧ q < 8 * h + n) ∧ ¬ (o = 88 ∧ 8 * h ≤ q ∧ q < 8 * h + n) ∧ ¬ (o = 82 ∧ q = 0) ∧ ¬ (o = 82 ∧ q = 1) ∧ o ≠ 106 + 3 * h ∧ o ≠ 107 + 3 * h ∧ o ≠ 108 + 3 * h ∧ ¬ (o = 10 ∧ q = 12) ∧ ¬ (o = 2 ∧ q = 3) ∧ o ≠ 4 ∧ o ≠ 5 ∧ ¬ (o = 0 ∧ q = 6)) → Fr fp z I D := by
      intro fp hq o q p
      obtain ⟨p1, p2, p3, p4, p5, p6, p7, p8, p9, p10, p11, p12, p13, p14, p15, p16⟩ := hq o q p
      rw [eD o q p1 p2 p3 p4 p5 p6 p7 p8, eA3 o q p9 p10 p11 p12 p13 p14 p15 p16]
    refine ⟨nI h, _, _, cX, k82 S4, cM, Rel.mk (h := h + 1) ⟨by omega, h2, rfl, S4, ?_, ?_, h7.fr (fA fpSheets (by intro o q p; unfold fpSheets at p; omega)), ⟨D2, D82, ?_⟩, ?_, ?_, h11.fr (fA fpRules (by intro o q p; unfold fpRules at p; omega)), h12.fr (fA fpZones (by intro o q p; unfold fpZones at p; omega)), ⟨0, by omega, D10, fun q => absurd q (by omega), fun q => absurd q (by omega), fun q => absurd q (by omega)⟩, ?_, h15.fr (fA fpTrace (by intro o q p; unfold fpTrace at p; omega))⟩⟩
    · unfold RCst
      simp only [r0]
      exact h5
    · have q1 : D z 6 = 0 := (eD 0 6 (by omega) (by omega) (by omega) (by omega) (by omega) (by omega) (by omega) (by omega)).trans A36
      have q2 : D (z + 82) 1 = 0 := by
        rw [u3 _ _ (by omega) (by omega)]; simp (disch := omega) only [un_1, un_2, un_3, un_4, es, up2_self]
        rw [d3 _ _ (by omega) (by omega)]; simp (disch := omega) only [un_1, un_2, un_3, un_4, es, up2_self]
      rw [q1, q2]
    · intro k hk
      by_cases ek : k = h
      · subst ek
        refine ⟨n, n1, n8, D86, rW, kx, ky, rW0, rW1, ?_, ?_⟩
        · rw [kW, rD _ (Or.inl rfl), rD _ (Or.inr rfl)]
        · intro j hj
          obtain ⟨x, x1, x2⟩ := r3 (2 * j) (by omega) (by omega)
          obtain ⟨y, y1, y2⟩ := r3 (2 * j + 1) (by omega) (by omega)
          refine ⟨x, y, x1, y1, ?_, by rw [(D87 j hj).1, x2], ?_, by rw [(D87 j hj).2]; exact y2⟩
          · rw [rD _ (Or.inl rfl), (xA3 j hj).1, x2]
          · rw [rD _ (Or.inr rfl), (xA3 j hj).2]; exact y2
      · obtain ⟨n', hn'⟩ := h8.2.2 k (by omega)
        refine ⟨n', hn'.ext (fun o o1 o2 => eK3 o (by omega) (by omega) (by omega)) (eR4 _ _ (by omega) (by omega) (by omega) (by omega)) (fun q => eR4 _ _ (by omega) (by omega) (by omega) (by omega)) ?_ ?_ ?_⟩
        · exact fA (fun o q => o = 86 ∧ q = k) (by intro o q p; omega) 86 k ⟨rfl, rfl⟩
        · exact fun o q p => fA (fun o q => o = 106 + 3 * k ∨ o = 107 + 3 * k) (by intro o q p; omega) o q p
        · intro j hj
          exact ⟨fA (fun o q => (o = 87 ∨ o = 88) ∧ q = 8 * k + j) (by intro o q p; omega) 87 _ ⟨Or.inl rfl, rfl⟩, fA (fun o q => (o = 87 ∨ o = 88) ∧ q = 8 * k + j) (by intro o q p; omega) 88 _ ⟨Or.inr rfl, rfl⟩⟩
    · intro k hk
      refine ⟨k, hk, (D4 k hk).1, (u2 k (by omega) hk).1, Or.inl (D4 k hk).2, ?_⟩
      rw [(u2 k (by omega) hk).2, (D4 k hk).2]
    · obtain ⟨⟨q, q1, q2⟩, -⟩ := h10
      have e64' : D (z + 6) 4 = nI q := by
        rw [fA (fun o q => o = 6) (by intro o q p; omega) 6 4 rfl]; exact q2
      refine ⟨⟨q, by omega, e64'⟩, fun _ e => ?_⟩
      rw [e64'] at e
      have := (nI_eq (by omega) (by omega)).mp e
      omega
    · have hc := h14.fr (fA fpCues (by intro o q p; unfold fpCues at p; omega))
      obtain ⟨x1, x2, q, p, n', y1, y2, y3, y4, y5, y6, y7, y8⟩ := hc
      exact ⟨x1, x2, q, p, n', y1, by rw [eR4 _ _ (by omega) (by omega) (by omega) (by omega)]; exact y2, by rw [eR4 _ _ (by omega) (by omega) (by omega) (by omega)]; exact y3, y4, y5, y6, y7, y8⟩
  · rw [hold_1 (w := z + (106 + 3 * (h + 1))) S4 hs8 m1 hic B2 (fun q hq => by
      obtain ⟨x, x1, x2⟩ := r3 q (Nat.zero_le _) hq
      exact ⟨x, x1, by rw [eA3 _ _ (by omega) (by omega) (by omega) (by omega) (by omega) (by omega) (by omega) (by omega)]; exact x2⟩) FU 0 (by omega) (by unfold FU; omega)] at s1
    exact absurd (Prod.mk.inj (Option.some.inj s1)).1 (by decide)
theorem agr_stroke (v1 v2 v3 : Int32) : Agr (Rel z) z (f_X11_stroke (some z) v1 v2 v3) (f_X12_stroke (some (z + 82)) v1 v2 v3) := by
  rintro ⟨K, I, R, w⟩ hR
  obtain ⟨h, h1, h2, h3, h4, h5, h6, h7, h8, h9, h10, h11, h12, h13, h14, h15⟩ := hR.opn
  have kz : (K z).1 = 10 + 1 := by rw [kz0 h4]
  have k2' : (K (z + 2)).1 = 8 + 1 := by rw [kz2 h4]
  have k10 : (K (z + 10)).1 = 6 + 1 := by rw [kz10 h4]
  have hr := hR.thr 0
  by_cases c1 : 0 ≤ v1 ∧ v1 ≤ 7
  · obtain ⟨s, hs, rfl⟩ := ix_le (n := 7) (by decide) c1
    have hs8 : s < 8 := by omega
    have kS : (K (z + (66 + 2 * s))).1 = 5 + 1 := by rw [kzS h4 hs8]
    obtain ⟨g1, g2, g3, ⟨m, m1, m2⟩, g5⟩ := h7 s hs8
    by_cases c2 : 1 ≤ v3 ∧ v3 ≤ 8
    · obtain ⟨n, n1, n8, rfl⟩ := rg_of (m := 1) (n := 8) (by decide) (by decide) c2
      by_cases c3 : h = 8
      · subst c3
        refine ⟨-1000003, (K, I, R, w), (K, up2 I (z + 82) 0 0, R, w), ?_, k82 h4, ?_, hr⟩
        · simp only [f_X11_stroke, isSh, wi1 c1, i10, if_false, Option.bind_some, isW, wi1 c2, gR_t kz, rz0_1 h4, gI_t k2', h8.1, show ¬ nI 8 < 8 by decide]
        · have e : up2 I (z + 82) 0 0 (z + 82) 5 = nI 8 := by simp (disch := omega) only [un_1, un_2, un_3, un_4, es, up2_self]; exact h8.2.1
          simp only [f_X12_stroke, pI_t (k82 h4), isShM, wi1 c1, i10, if_false, Option.bind_some, in_18, wi1 c2, gI_t (k82 h4), e, show nI 8 = 8 from rfl, if_true]
      · have h8' : h < 8 := by omega
        have hlt : nI h < 8 := nI_lt (b := 8) h8' (by decide)
        have hne : ¬ nI h = 8 := fun q => c3 ((nI_eq (b := 8) (by omega) (by decide)).mp q)
        by_cases c4 : I (z + 83) s = -1
        · have c4' : I (z + (66 + 2 * s)) 1 = -1 := g1.trans c4
          refine ⟨-1000011, (K, up2 I z 6 1, R, w), (K, up2 (up2 (up2 I z 6 1) (z + 82) 0 0) (z + 82) 1 1, R, w), ?_, k82 h4, ?_, hR.fnd1 1⟩
          · simp only [f_X11_stroke, isSh, wi1 c1, i10, if_false, Option.bind_some, isW, wi1 c2, gR_t kz, rz0_1 h4, rz0_0 h4, gI_t k2', h8.1, if_pos hlt, aR_t (kz1 h4) hs8 (by decide), rzS h4 hs8, cK_t kS, miss_X h4 hs8, c4', if_true, cK_t kz, found_X h4]
            rfl
          · have e : up2 (up2 I z 6 1) (z + 82) 0 0 (z + 82) 5 = nI h := by simp (disch := omega) only [un_1, un_2, un_3, un_4, es, up2_self]; exact h8.2.1
            have e' : up2 (up2 I z 6 1) (z + 82) 0 0 (z + 83) s = -1 := by simp (disch := omega) only [un_1, un_2, un_3, un_4, es, up2_self]; exact c4
            simp only [f_X12_stroke, pI_t (k82 h4), isShM, wi1 c1, i10, if_false, Option.bind_some, in_18, wi1 c2, gI_t (k82 h4), e, hne, gR_t (k82 h4), rz82_2 h4, aI_t (kz83 h4) hs8 (by decide), e', show ¬ (0 : Int32) ≤ -1 by decide, cK_t (k82 h4), found_M h4]
            rfl
        · have c4' : ¬ I (z + (66 + 2 * s)) 1 = -1 := fun q => c4 (g1.symm.trans q)
          have c5 : 0 ≤ I (z + 83) s := (lane_neg g3).mpr c4
          have n2 : ¬ nI (2 * n) < 0 := nI_pos (by omega)
          rcases has_2 v2 (nI (2 * n)) m1 with ⟨i, c, rfl, ec, hic, eh, e64⟩ | ⟨eh, ebad⟩
          · obtain rfl : c = 2 * n := ((nI_eq (by omega) (by omega)).mp ec).symm
            have n0 : ¬ nI i < 0 := nI_pos (by omega)
            rcases hold_2 (w := w) (I := I) (J := up2 I (z + 82) 0 0) h4 hs8 m1 hic (g2.trans m2) (fun j hj => by simp (disch := omega) only [un_1, un_2, un_3, un_4, es, up2_self]; exact (g5 j hj).symm) FU 0 (by omega) (by unfold FU; omega) with ⟨r1, -, r3⟩ | ⟨r1, r2⟩
            · subst h3
              exact stk_G hR h1 h2 h5 h10 h11 h12 h14 h15 h4 h7 h8 hs8 c1 c2 n1 n8 h8' c4 m1 m2 hic eh r1 e64 r3
            · refine ⟨-1000001, (K, I, R, w), (K, up2 I (z + 82) 0 0, R, w), ?_, k82 h4, ?_, hr⟩
              · have r1' : f_X5_holdsPlaces (some (z + (66 + 2 * s))) (nI i) (nI n) (K, I, R, w) = some (0, K, I, R, w) := r1
                simp only [f_X11_stroke, isSh, wi1 c1, i10, if_false, Option.bind_some, isW, wi1 c2, gR_t kz, rz0_1 h4, rz0_0 h4, gI_t k2', h8.1, if_pos hlt, aR_t (kz1 h4) hs8 (by decide), rzS h4 hs8, cK_t kS, miss_X h4 hs8, if_neg c4', if_true, ix2, has_X h4 hs8, g2, m2, eh, r1']
              · rw [stk_M h4 hs8 c1 c2 hne c5 n0 e64 h8.2.1 rfl m2]
                exact r2
          · refine ⟨-1000012, (K, up2 I z 6 2, R, w), (K, up2 (up2 (up2 I z 6 2) (z + 82) 0 0) (z + 82) 1 2, R, w), ?_, k82 h4, ?_, hR.fnd1 2⟩
            · simp only [f_X11_stroke, isSh, wi1 c1, i10, if_false, Option.bind_some, isW, wi1 c2, gR_t kz, rz0_1 h4, rz0_0 h4, gI_t k2', h8.1, if_pos hlt, aR_t (kz1 h4) hs8 (by decide), rzS h4 hs8, cK_t kS, miss_X h4 hs8, if_neg c4', if_true, ix2, has_X h4 hs8, g2, m2, eh, cK_t kz, found_X h4]
              rfl
            · have e1 : up2 (up2 I z 6 2) (z + 82) 0 0 (z + 82) 5 = nI h := by simp (disch := omega) only [un_1, un_2, un_3, un_4, es, up2_self]; exact h8.2.1
              have e2 : up2 (up2 I z 6 2) (z + 82) 0 0 (z + 83) s = I (z + 83) s := by simp (disch := omega) only [un_1, un_2, un_3, un_4, es, up2_self]
              have e3 : up2 (up2 I z 6 2) (z + 82) 0 0 (z + 84) s = nI m := by simp (disch := omega) only [un_1, un_2, un_3, un_4, es, up2_self]; exact m2
              have e76 : b_X12_stroke_76 (some (z + 82)) (K, up2 (up2 I z 6 2) (z + 82) 0 0, R, w) = some (-1000012, K, up2 (up2 (up2 I z 6 2) (z + 82) 0 0) (z + 82) 1 2, R, w) := by
                simp only [b_X12_stroke_76, cK_t (k82 h4), found_M h4, Option.bind_some]; rfl
              simp only [f_X12_stroke, pI_t (k82 h4), isShM, wi1 c1, i10, if_false, Option.bind_some, in_18, wi1 c2, gI_t (k82 h4), e1, hne, gR_t (k82 h4), rz82_2 h4, rz82_3 h4, aI_t (kz83 h4) hs8 (by decide), aI_t (kz84 h4) hs8 (by decide), e2, if_pos c5, e3, ix2, e76]
              rcases ebad with q | q | ⟨q1, q2, q3⟩
              · rw [if_pos q]
              · exact absurd q n2
              · rw [if_neg (Int32.not_lt.mpr q1), if_neg (fun q => q3 ((c64_le _ _).mp q))]
    · refine ⟨-1000001, (K, I, R, w), (K, up2 I (z + 82) 0 0, R, w), ?_, k82 h4, ?_, hr⟩
      · simp only [f_X11_stroke, isSh, wi1 c1, i10, if_false, Option.bind_some, isW, wi0 c2, if_true]
      · simp only [f_X12_stroke, pI_t (k82 h4), isShM, wi1 c1, i10, if_false, Option.bind_some, in_18, wi0 c2, if_true]
  · refine ⟨-1000001, (K, I, R, w), (K, up2 I (z + 82) 0 0, R, w), ?_, k82 h4, ?_, hr⟩
    · simp only [f_X11_stroke, isSh, wi0 c1, Option.bind_some, if_true]
    · simp only [f_X12_stroke, pI_t (k82 h4), isShM, wi0 c1, Option.bind_some, if_true]
end OE
