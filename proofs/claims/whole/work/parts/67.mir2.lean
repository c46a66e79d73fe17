section M2
variable {z h k n m t q : Nat} {K : Nat → Nat × Nat} {I J : Nat → Nat → Int32} {R : Nat → Nat → Option Nat} {w : Nat}
theorem fol_X1 (hS : Shp z K R) {T t m : Nat} (hT : T ≤ 2000) (ht : t = 13 ∨ t = 14) (hm : m = 16 ∨ m = 17) (kt : K (z + t) = (14, 2000)) (km : K (z + m) = (14, 2000)) (eT : I (z + 12) 3 = nI T) : ∀ fu i (J : Nat → Nat → Int32), i ≤ T → T < fu + i → (∀ o q, o ≠ m → J (z + o) q = I (z + o) q) → (∀ j, j < i → J (z + m) j = (mirF (I (z + 11) 2) (I (z + 11) 3) (I (z + t)) (j + 1)).2) → ∃ A, b_X6_follow_8 fu (some (z + 10)) (some (z + t)) (some (z + m)) (mirF (I (z + 11) 2) (I (z + 11) 3) (I (z + t)) i).2 (mirF (I (z + 11) 2) (I (z + 11) 3) (I (z + t)) i).1 (nI i) (K, J, R, w) = some (K, A, R, w) ∧ (∀ o q, o ≠ m → A (z + o) q = I (z + o) q) ∧ ∀ j, j < T → A (z + m) j = (mirF (I (z + 11) 2) (I (z + 11) 3) (I (z + t)) (j + 1)).2 := by
  have k10 : (K (z + 10)).1 = 6 + 1 := by rw [kz10 hS]
  have k12 : (K (z + 12)).1 = 3 + 1 := by rw [kz12 hS]
  intro fu
  induction fu with
  | zero => intro i J a b; omega
  | succ fu ih =>
    intro i J a b j1 j2
    rw [b_X6_follow_8, gR_t k10, Option.bind_some, rz10_1 hS, gI_t k12, Option.bind_some, j1 12 3 (by omega), eT]
    by_cases c : i = T
    · subst c
      rw [if_pos (nI_le (Nat.le_refl _) (by omega))]
      exact ⟨J, rfl, j1, j2⟩
    · have hi : i < T := by omega
      have hi2 : i < 2000 := by omega
      rw [if_neg (nI_ge hi (by omega))]
      obtain ⟨A, q1, q2, q3⟩ := ih (i + 1) (up2 J (z + m) i (mirF (I (z + 11) 2) (I (z + 11) 3) (I (z + t)) (i + 1)).2) (by omega) (by omega) (fun o q ho => by rw [un_1 (Or.inl ho)]; exact j1 o q ho) (fun j hj => by
        by_cases e : j = i
        · subst e; rw [es]
        · rw [un_1 (Or.inr e)]; exact j2 j (by omega))
      refine ⟨A, ?_, q2, q3⟩
      have m2 : ∀ H : Nat → Nat → Int32, aI (K, H, R, w) (some (z + 11)) 14 2 = some (H (z + 11) 2) := fun H => aI_t (j := 2) (kz11 hS) (by decide) (by decide)
      have m3 : ∀ H : Nat → Nat → Int32, aI (K, H, R, w) (some (z + 11)) 14 3 = some (H (z + 11) 3) := fun H => aI_t (j := 3) (kz11 hS) (by decide) (by decide)
      simp only [gR_t k10, Option.bind_some, rz10_0 hS, aI_t kt hi2 (by decide), m2, m3, j1 t i (by omega), j1 11 2 (by omega), j1 11 3 (by omega), dv16, lt1, sI_t km hi2 (by decide), nar14, nI_1]
      exact q1
theorem fol_X (hS : Shp z K R) {T t m : Nat} (hT : T ≤ 2000) (ht : t = 13 ∨ t = 14) (hm : m = 16 ∨ m = 17) (kt : K (z + t) = (14, 2000)) (km : K (z + m) = (14, 2000)) (eT : I (z + 12) 3 = nI T) : ∃ A, f_X6_follow (some (z + 10)) (some (z + t)) (some (z + m)) (K, I, R, w) = some (K, A, R, w) ∧ (∀ o q, o ≠ m → A (z + o) q = I (z + o) q) ∧ ∀ j, j < T → A (z + m) j = (mirF (I (z + 11) 2) (I (z + 11) 3) (I (z + t)) (j + 1)).2 := by
  obtain ⟨A, q1, q2, q3⟩ := fol_X1 (w := w) hS hT ht hm kt km eT FU 0 I (by omega) (by unfold FU; omega) (fun _ _ _ => rfl) (fun j hj => by omega)
  refine ⟨A, ?_, q2, q3⟩
  unfold f_X6_follow
  rw [show nI 0 = 0 from rfl] at q1
  exact q1
theorem shutF_mono {zo zr : Nat → Int32} {x y : Int32} {k : Nat} (h : shutF zo zr x y k = true) : ∀ n, shutF zo zr x y (k + n) = true := by
  intro n
  induction n with
  | zero => exact h
  | succ n ih => rw [← Nat.add_assoc, shutF, ih]; rfl
theorem shu_X1 (hS : Shp z K R) (hz : RZones z J) {i : Nat} (hi : i < 2000) : ∀ fu k, k ≤ 4 → 4 < fu + k → shutF (J (z + 93)) (J (z + 94)) (J (z + 16) i) (J (z + 17) i) k = false → b_X6_isShut_2 fu (some (z + 10)) (nI i) (nI k) (K, J, R, w) = some (bI (shutF (J (z + 93)) (J (z + 94)) (J (z + 16) i) (J (z + 17) i) 4), K, J, R, w) := by
  have k10 : (K (z + 10)).1 = 6 + 1 := by rw [kz10 hS]
  intro fu
  induction fu with
  | zero => intro k a b; omega
  | succ fu ih =>
    intro k a b hk0
    rw [b_X6_isShut_2]
    by_cases c : k = 4
    · subst c
      rw [if_pos (show (4 : Int32) ≤ nI 4 by decide), hk0, zr_0]; rfl
    · have hk : k < 4 := by omega
      obtain ⟨e35, _, e94⟩ := hz k hk
      have a0 : aI (K, J, R, w) (some (z + (31 + k))) 14 0 = some (J (z + 94) (4 * k)) := (aI_t (j := 0) (kzR hS hk) (by decide) (by decide)).trans (by rw [e94 0 (by decide)]; rfl)
      have a1 : aI (K, J, R, w) (some (z + (31 + k))) 14 1 = some (J (z + 94) (4 * k + 1)) := (aI_t (j := 1) (kzR hS hk) (by decide) (by decide)).trans (by rw [e94 1 (by decide)])
      have a2 : aI (K, J, R, w) (some (z + (31 + k))) 14 2 = some (J (z + 94) (4 * k + 2)) := (aI_t (j := 2) (kzR hS hk) (by decide) (by decide)).trans (by rw [e94 2 (by decide)])
      have a3 : aI (K, J, R, w) (some (z + (31 + k))) 14 3 = some (J (z + 94) (4 * k + 3)) := (aI_t (j := 3) (kzR hS hk) (by decide) (by decide)).trans (by rw [e94 3 (by decide)])
      have key : shutF (J (z + 93)) (J (z + 94)) (J (z + 16) i) (J (z + 17) i) (k + 1) = false → b_X6_isShut_74 (b_X6_isShut_2 fu) (some (z + 10)) (nI i) (nI k) (K, J, R, w) = some (bI (shutF (J (z + 93)) (J (z + 94)) (J (z + 16) i) (J (z + 17) i) 4), K, J, R, w) := by
        intro e
        unfold b_X6_isShut_74 lt1
        rw [nI_1]
        exact ih (k + 1) (by omega) (by omega) e
      rw [if_neg (show ¬ (4 : Int32) ≤ _ from nI_ge (b := 4) hk (by decide))]
      simp only [gR_t k10, Option.bind_some, rz10_11 hS, rz10_2 hS, rz10_3 hS, rz10_10 hS, aI_t (kz35 hS) hk (by decide), e35, aI_t (kz16 hS) hi (by decide), aI_t (kz17 hS) hi (by decide), aR_t (kz30 hS) hk (by decide), rzR hS hk, a0, a1, a2, a3, isW, wi_in]
      by_cases c2 : J (z + 93) k = 0
      · rw [if_pos c2]
        exact key (by rw [shutF, hk0, c2]; rfl)
      · rw [if_neg c2]
        by_cases c3 : inI (J (z + 16) i) (J (z + 94) (4 * k)) (J (z + 94) (4 * k + 2)) = true
        · rw [c3, if_neg (show ¬ bI true = 0 by decide)]
          by_cases c4 : inI (J (z + 17) i) (J (z + 94) (4 * k + 1)) (J (z + 94) (4 * k + 3)) = true
          · rw [c4, if_neg (show ¬ bI true = 0 by decide), zr_1]
            have e : shutF (J (z + 93)) (J (z + 94)) (J (z + 16) i) (J (z + 17) i) (k + 1) = true := by rw [shutF, hk0, c3, c4]; simp [c2]
            have := shutF_mono e (4 - (k + 1))
            rw [show k + 1 + (4 - (k + 1)) = 4 by omega] at this
            rw [this]; rfl
          · have c4 : inI (J (z + 17) i) (J (z + 94) (4 * k + 1)) (J (z + 94) (4 * k + 3)) = false := by simpa using c4
            rw [c4, if_pos bI_f]
            exact key (by rw [shutF, hk0, c3, c4]; simp)
        · have c3 : inI (J (z + 16) i) (J (z + 94) (4 * k)) (J (z + 94) (4 * k + 2)) = false := by simpa using c3
          rw [c3, if_pos bI_f]
          exact key (by rw [shutF, hk0, c3]; simp)
theorem shu_X (hS : Shp z K R) (hz : RZones z J) {i : Nat} (hi : i < 2000) : f_X6_isShut (some (z + 10)) (nI i) (K, J, R, w) = some (bI (shutF (J (z + 93)) (J (z + 94)) (J (z + 16) i) (J (z + 17) i) 4), K, J, R, w) := by
  have := shu_X1 (w := w) hS hz hi FU 0 (by omega) (by unfold FU; omega) rfl
  unfold f_X6_isShut
  rw [show nI 0 = 0 from rfl] at this
  exact this
theorem sub_lt0 {a b : Nat} (h : a < b) (hb : b ≤ 100000) : nI a - nI b < 0 := by
  rw [Int32.lt_iff_toInt_lt, ti_sub (by rw [nI_toInt (by omega), nI_toInt (by omega)]; omega) (by rw [nI_toInt (by omega), nI_toInt (by omega)]; omega), nI_toInt (by omega), nI_toInt (by omega), i0_0]
  omega
theorem com_X (hS : Shp z K R) {i dl : Nat} (hi : i < 2000) (hd : dl ≤ 5) (e4 : J (z + 11) 4 = nI dl) : f_X6_lightComes (some (z + 10)) (nI i) (K, J, R, w) = some (bI (comesF dl (J (z + 15)) i), K, J, R, w) := by
  have k10 : (K (z + 10)).1 = 6 + 1 := by rw [kz10 hS]
  have k12 : (K (z + 12)).1 = 3 + 1 := by rw [kz12 hS]
  have a4 : aI (K, J, R, w) (some (z + 11)) 14 4 = some (nI dl) := (aI_t (j := 4) (kz11 hS) (by decide) (by decide)).trans (by rw [e4])
  unfold f_X6_lightComes comesF lt1
  simp only [gR_t k10, gR_t k12, Option.bind_some, rz10_0 hS, a4, rz10_1 hS, rz12_2 hS]
  by_cases c : dl ≤ i
  · rw [sub_nn c, if_neg (nI_pos (by omega)), aI_t (kz15 hS) (show i - dl < 2000 by omega) (by decide), Option.bind_some]
    by_cases c2 : J (z + 15) (i - dl) = 0
    · rw [if_pos c2, zr_0]; simp [c2, bI]
    · rw [if_neg c2, zr_1]; simp [c, c2, bI]
  · rw [if_pos (sub_lt0 (by omega) (by omega)), zr_0]; simp [c, bI]
theorem lag_X (hS : Shp z K R) {i : Nat} (hi : i < 2000) : f_X6_lagAt (some (z + 10)) (nI i) (K, J, R, w) = some (lagF z J i, K, J, R, w) := by
  have k10 : (K (z + 10)).1 = 6 + 1 := by rw [kz10 hS]
  have k12 : (K (z + 12)).1 = 3 + 1 := by rw [kz12 hS]
  unfold f_X6_lagAt lagF
  simp only [gR_t k10, gR_t k12, Option.bind_some, rz10_1 hS, rz10_2 hS, rz10_3 hS, rz12_0 hS, rz12_1 hS, rz12_2 hS, aI_t (kz13 hS) hi (by decide), aI_t (kz14 hS) hi (by decide), aI_t (kz15 hS) hi (by decide), aI_t (kz16 hS) hi (by decide), aI_t (kz17 hS) hi (by decide), way_X]
  by_cases c : J (z + 15) i = 0
  · rw [if_pos c, if_pos c]
  · rw [if_neg c, if_neg c]
theorem brn_X (hS : Shp z K R) (x y : Int32) : ∃ A, f_X6_burnAt (some (z + 10)) x y (K, J, R, w) = some (K, A, R, w) ∧ (∀ o q, ¬ (o = 10 ∧ q = 9) → ¬ (19 ≤ o ∧ o ≤ 29) → A (z + o) q = J (z + o) q) ∧ (∀ a b, a < 11 → b < 11 → A (z + (19 + a)) b = J (z + (19 + a)) b + bI (cellF x y a b)) ∧ ((∃ X Y, X ≤ 1000 ∧ Y ≤ 1000 ∧ x = nI X ∧ y = nI Y ∧ A (z + 10) 9 = mx (J (z + 10) 9) (J (z + (19 + X / 100)) (Y / 100) + 1)) ∨ ((∀ a b, cellF x y a b = false) ∧ A (z + 10) 9 = J (z + 10) 9)) := by
  have k10 : (K (z + 10)).1 = 6 + 1 := by rw [kz10 hS]
  have h0 : ∀ c : Int32, c + bI false = c := fun c => by simp [bI]
  unfold f_X6_burnAt
  simp only [isW, wi_in, Option.bind_some]
  by_cases c1 : inI x 0 1000 = true
  · by_cases c2 : inI y 0 1000 = true
    · obtain ⟨X, hX, rfl⟩ := inI_n c1
      obtain ⟨Y, hY, rfl⟩ := inI_n c2
      have hX1 : X / 100 < 11 := by omega
      have hY1 : Y / 100 < 11 := by omega
      obtain ⟨a0, ha0⟩ : ∃ a0, a0 = X / 100 := ⟨_, rfl⟩
      obtain ⟨b0, hb0⟩ : ∃ b0, b0 = Y / 100 := ⟨_, rfl⟩
      rw [← ha0] at hX1
      rw [← hb0] at hY1
      refine ⟨up2 (up2 J (z + (19 + a0)) b0 (J (z + (19 + a0)) b0 + 1)) (z + 10) 9 (mx (J (z + 10) 9) (J (z + (19 + a0)) b0 + 1)), ?_, fun o q h1 h2 => by simp (disch := omega) only [un_1, un_2, un_3, un_4, es, up2_self], fun a b ha hb => ?_, Or.inl ⟨X, Y, hX, hY, rfl, rfl, by rw [es, ha0, hb0]⟩⟩
      · simp only [c1, c2, bI_t, i10, if_false, gR_t k10, rz10_4 hS, Option.bind_some, dv100, div100 hX, div100 hY, ← ha0, ← hb0, aR_t (kz18 hS) hX1 (by decide), rzB hS hX1, aI_t (kzB hS hX1) hY1 (by decide), sI_t (kzB hS hX1) hY1 (by decide), nar14, gI_t k10, es, pI_t k10, un_1 (J := J) (z := z) (o := 10) (k := 9) (a := 19 + a0) (l := b0) (v := J (z + (19 + a0)) b0 + 1) (Or.inl (by omega))]
      · rw [cell_n hX hY, ← ha0, ← hb0]
        by_cases e : a0 = a ∧ b0 = b
        · obtain ⟨rfl, rfl⟩ := e
          rw [un_1 (Or.inl (by omega)), es]; simp [bI]
        · rw [un_1 (Or.inl (by omega)), un_1 (by omega)]
          have : (decide (a0 = a) && decide (b0 = b)) = false := by
            simp only [Bool.and_eq_false_iff, decide_eq_false_iff_not]; omega
          rw [this, h0]
    · have c2 : inI y 0 1000 = false := by simpa using c2
      have cf : ∀ a b, cellF x y a b = false := fun a b => by unfold cellF; rw [c2]; simp
      refine ⟨J, ?_, fun _ _ _ _ => rfl, fun a b _ _ => by rw [cf, h0], Or.inr ⟨cf, rfl⟩⟩
      simp only [c1, c2, bI_t, bI_f, i10, if_false, if_true]
  · have c1 : inI x 0 1000 = false := by simpa using c1
    have cf : ∀ a b, cellF x y a b = false := fun a b => by unfold cellF; rw [c1]; simp
    refine ⟨J, ?_, fun _ _ _ _ => rfl, fun a b _ _ => by rw [cf, h0], Or.inr ⟨cf, rfl⟩⟩
    simp only [c1, bI_f, if_true]
theorem cntB_le (p : Nat → Bool) : ∀ n, cntB p n ≤ n := by
  intro n
  induction n with
  | zero => exact Nat.le_refl _
  | succ n ih => rw [cntB]; split <;> omega
theorem cntB_c {p p' : Nat → Bool} : ∀ n, (∀ j, j < n → p j = p' j) → cntB p n = cntB p' n := by
  intro n
  induction n with
  | zero => intro _; rfl
  | succ n ih => intro e; rw [cntB, cntB, ih fun j hj => e j (by omega), e n (by omega)]
theorem maxN_le {f : Nat → Nat} {b : Nat} (hf : ∀ q, f q ≤ b) : ∀ n, maxN f n ≤ b := by
  intro n
  induction n with
  | zero => exact Nat.zero_le _
  | succ n ih => rw [maxN]; exact Nat.max_le.mpr ⟨ih, hf n⟩
theorem maxN_c {f g : Nat → Nat} : ∀ n, (∀ q, q < n → f q = g q) → maxN f n = maxN g n := by
  intro n
  induction n with
  | zero => intro _; rfl
  | succ n ih => intro e; rw [maxN, maxN, ih fun j hj => e j (by omega), e n (by omega)]
theorem maxN_up {f g : Nat → Nat} {q0 : Nat} (h1 : f q0 ≤ g q0) (h2 : ∀ q, q ≠ q0 → g q = f q) : ∀ n, q0 < n → maxN g n = max (maxN f n) (g q0) := by
  intro n
  induction n with
  | zero => intro h; omega
  | succ n ih =>
    intro h
    rw [maxN, maxN]
    by_cases e : q0 = n
    · subst e
      rw [maxN_c q0 fun q hq => h2 q (by omega)]
      omega
    · rw [ih (by omega), h2 n (by omega)]
      omega
theorem mx_n {a b : Nat} (ha : a ≤ 100000) (hb : b ≤ 100000) : mx (nI a) (nI b) = nI (max a b) := by
  unfold mx
  by_cases c : a < b
  · rw [if_pos (nI_lt c (by omega)), Nat.max_eq_right (by omega)]
  · rw [if_neg (nI_nlt (by omega) (by omega)), Nat.max_eq_left (by omega)]
end M2
