section M1
variable {z h k n m t q : Nat} {K : Nat → Nat × Nat} {I J : Nat → Nat → Int32} {R : Nat → Nat → Option Nat} {w : Nat}
def bI (b : Bool) : Int32 := if b = true then 1 else 0
theorem bI_t : bI true = 1 := rfl
theorem bI_f : bI false = 0 := rfl
theorem bI_c (b : Bool) : bI b = 0 ∨ bI b = 1 := by cases b <;> simp [bI]
theorem bI_z (b : Bool) : bI b = 0 ↔ b = false := by cases b <;> simp [bI]
theorem up2_2 {a l : Nat} {u v : Int32} : up2 (up2 J a l u) a l v = up2 J a l v := by
  funext b j
  by_cases h1 : b = a <;> by_cases h2 : j = l <;> simp [up2, h1, h2]
theorem up2_id {a l : Nat} {v : Int32} (e : J a l = v) : up2 J a l v = J := by
  funext b j
  by_cases h1 : b = a <;> by_cases h2 : j = l <;> simp [up2, h1, h2]
  subst h1; subst h2; exact e.symm
theorem wi_in (v a b : Int32) : wi a v b = bI (inI v a b) := by
  unfold wi bI inI
  by_cases h1 : a ≤ v <;> by_cases h2 : v ≤ b <;> simp [h1, h2]
theorem dv16 (u : Int32) : dv u 16 = some (u / 16) := if_neg (by decide)
theorem dv100 (u : Int32) : dv u 100 = some (u / 100) := if_neg (by decide)
theorem div100 {x : Nat} (hx : x ≤ 1000) : nI x / 100 = nI (x / 100) := pk_div (d := 100) (by omega) (by omega) (by omega)
theorem ix11 (i j : Nat) : (11 : Int32) * nI i + nI j = nI (11 * i + j) := by
  rw [show (11 : Int32) = nI 11 from rfl, pk_mul, nI_add]
theorem sh_M (hS : Shp z K R) {x y u v : Int32} {i : Nat} (hi : i < 2000) (rc : Option Nat → Int32 → Int32 → Int32 → Int32 → Int32 → St → Option St) : ∀ fu k (J : Nat → Nat → Int32), k ≤ 4 → 4 < fu + k → J (z + 100) i = bI (shutF (J (z + 93)) (J (z + 94)) x y k) → b_X12_throwMirrors_143 rc fu (some (z + 82)) x y u v (nI i) (nI k) (K, J, R, w) = b_X12_throwMirrors_249 rc (some (z + 82)) x y u v (nI i) (K, up2 J (z + 100) i (bI (shutF (J (z + 93)) (J (z + 94)) x y 4)), R, w) := by
  intro fu
  induction fu with
  | zero => intro k J a b; omega
  | succ fu ih =>
    intro k J a b hJ
    rw [b_X12_throwMirrors_143]
    by_cases c : k = 4
    · subst c
      rw [if_pos (show (4 : Int32) ≤ nI 4 by decide), up2_id hJ]
    · have hk : k < 4 := by omega
      have key : ∀ b : Bool, b = shutF (J (z + 93)) (J (z + 94)) x y (k + 1) → b_X12_throwMirrors_242 rc (b_X12_throwMirrors_143 rc fu) (some (z + 82)) x y u v (nI i) (nI k) (some (z + 100)) (nI i) (bI b) (K, J, R, w) = b_X12_throwMirrors_249 rc (some (z + 82)) x y u v (nI i) (K, up2 J (z + 100) i (bI (shutF (J (z + 93)) (J (z + 94)) x y 4)), R, w) := by
        intro b hb
        have e93 : up2 J (z + 100) i (bI b) (z + 93) = J (z + 93) := up2_na _ _ (by omega)
        have e94 : up2 J (z + 100) i (bI b) (z + 94) = J (z + 94) := up2_na _ _ (by omega)
        unfold b_X12_throwMirrors_242
        rw [sI_t (kz100 hS) hi (by decide), Option.bind_some, nar_b (bI_c b)]
        unfold lt1
        rw [nI_1]
        have r := ih (k + 1) (up2 J (z + 100) i (bI b)) (by omega) (by omega) (by rw [e93, e94, es, hb])
        rw [e93, e94, up2_2] at r
        exact r
      have a0 : aI (K, J, R, w) (some (z + 94)) 14 (nI (4 * k)) = some (J (z + 94) (4 * k)) := aI_t (kz94 hS) (by omega) (by decide)
      have a1 : aI (K, J, R, w) (some (z + 94)) 14 (nI (4 * k) + 1) = some (J (z + 94) (4 * k + 1)) := by rw [nI_1]; exact aI_t (kz94 hS) (by omega) (by decide)
      have a2 : aI (K, J, R, w) (some (z + 94)) 14 (nI (4 * k) + 2) = some (J (z + 94) (4 * k + 2)) := by rw [show nI (4 * k) + 2 = nI (4 * k + 2) from nI_add _ 2]; exact aI_t (kz94 hS) (by omega) (by decide)
      have a3 : aI (K, J, R, w) (some (z + 94)) 14 (nI (4 * k) + 3) = some (J (z + 94) (4 * k + 3)) := by rw [show nI (4 * k) + 3 = nI (4 * k + 3) from nI_add _ 3]; exact aI_t (kz94 hS) (by omega) (by decide)
      rw [if_neg (show ¬ (4 : Int32) ≤ _ from nI_ge (b := 4) hk (by decide))]
      simp only [gR_t (k82 hS), Option.bind_some, rz82_22 hS, rz82_13 hS, rz82_14 hS, aI_t (kz100 hS) hi (by decide), hJ, aI_t (kz93 hS) hk (by decide), ix4, a0, a1, a2, a3, in_w, wi_in, b_X12_throwMirrors_237, b_X12_throwMirrors_241]
      by_cases c1 : shutF (J (z + 93)) (J (z + 94)) x y k = true
      · rw [c1, if_neg (show ¬ bI true = 0 by decide)]
        exact key true (by rw [shutF, c1]; rfl)
      · have c1 : shutF (J (z + 93)) (J (z + 94)) x y k = false := by simpa using c1
        rw [c1, if_pos bI_f]
        by_cases c2 : J (z + 93) k = 0
        · rw [if_pos c2]
          exact key false (by rw [shutF, c1, c2]; rfl)
        · rw [if_neg c2]
          by_cases c3 : inI x (J (z + 94) (4 * k)) (J (z + 94) (4 * k + 2)) = true
          · rw [c3, if_neg (show ¬ bI true = 0 by decide)]
            by_cases c4 : inI y (J (z + 94) (4 * k + 1)) (J (z + 94) (4 * k + 3)) = true
            · rw [c4, if_neg (show ¬ bI true = 0 by decide)]
              exact key true (by rw [shutF, c1, c3, c4]; simp [c2])
            · have c4 : inI y (J (z + 94) (4 * k + 1)) (J (z + 94) (4 * k + 3)) = false := by simpa using c4
              rw [c4, if_pos bI_f]
              exact key false (by rw [shutF, c1, c3, c4]; simp)
          · have c3 : inI x (J (z + 94) (4 * k)) (J (z + 94) (4 * k + 2)) = false := by simpa using c3
            rw [c3, if_pos bI_f]
            exact key false (by rw [shutF, c1, c3]; simp)
theorem lit_M (hS : Shp z K R) {i dl : Nat} (hi : i < 2000) (hd : dl ≤ 5) (e4 : J (z + 92) 4 = nI dl) : f_X12_isLit (some (z + 82)) (nI i) (K, J, R, w) = some (bI (comesF dl (J (z + 97)) i && decide (J (z + 100) i = 0)), K, J, R, w) := by
  have a4 : aI (K, J, R, w) (some (z + 92)) 14 4 = some (nI dl) := (aI_t (j := 4) (kz92 hS) (by decide) (by decide)).trans (by rw [e4])
  unfold f_X12_isLit comesF
  simp only [gR_t (k82 hS), Option.bind_some, rz82_12 hS, a4, rz82_19 hS, rz82_22 hS]
  by_cases c : dl ≤ i
  · rw [if_neg (nI_nlt c (by omega)), sub_nn c, aI_t (kz97 hS) (show i - dl < 2000 by omega) (by decide), Option.bind_some]
    by_cases c2 : J (z + 97) (i - dl) = 0
    · rw [if_pos c2, zr_0]; simp [c2, bI]
    · rw [if_neg c2, aI_t (kz100 hS) hi (by decide), Option.bind_some]
      by_cases c3 : J (z + 100) i = 0
      · rw [if_pos c3, zr_1]; simp [c, c2, c3, bI]
      · rw [if_neg c3, zr_0]; simp [c3, bI]
  · rw [if_pos (nI_lt (by omega) (by omega)), zr_0]; simp [c, bI]
theorem cell_n {x y a b : Nat} (hx : x ≤ 1000) (hy : y ≤ 1000) : cellF (nI x) (nI y) a b = (decide (x / 100 = a) && decide (y / 100 = b)) := by
  have h1 : inI (nI x) 0 1000 = true := by
    unfold inI
    simp [nI_pos' (show x < 2 ^ 31 by omega), nI_le (b := 1000) hx (by decide)]
    exact nI_le (b := 1000) hx (by decide)
  have h2 : inI (nI y) 0 1000 = true := by
    unfold inI
    simp [nI_pos' (show y < 2 ^ 31 by omega), nI_le (b := 1000) hy (by decide)]
    exact nI_le (b := 1000) hy (by decide)
  unfold cellF
  rw [h1, h2, nI_clamp (by omega), nI_clamp (by omega)]
  simp
theorem inI_n {x : Int32} (h : inI x 0 1000 = true) : ∃ a, a ≤ 1000 ∧ x = nI a := by
  unfold inI at h
  simp at h
  exact ix_le (n := 1000) (by decide) h
theorem bn_M (hS : Shp z K R) {x y u v : Int32} {i dl : Nat} (hi : i < 2000) (hd : dl ≤ 5) (e4 : J (z + 92) 4 = nI dl) (rc : Option Nat → Int32 → Int32 → Int32 → Int32 → Int32 → St → Option St) : ∃ A, b_X12_throwMirrors_249 rc (some (z + 82)) x y u v (nI i) (K, J, R, w) = rc (some (z + 82)) x y u v (nI (i + 1)) (K, A, R, w) ∧ (∀ o q, o ≠ 101 → A (z + o) q = J (z + o) q) ∧ ∀ a b, a < 11 → b < 11 → A (z + 101) (11 * b + a) = J (z + 101) (11 * b + a) + bI (comesF dl (J (z + 97)) i && decide (J (z + 100) i = 0) && cellF x y a b) := by
  obtain ⟨L, hL⟩ : ∃ L, L = (comesF dl (J (z + 97)) i && decide (J (z + 100) i = 0)) := ⟨_, rfl⟩
  unfold b_X12_throwMirrors_249
  rw [cK_t (k82 hS), lit_M hS hi hd e4, Option.bind_some, ← hL]
  have h0 : ∀ c : Int32, c + bI false = c := fun c => by simp [bI]
  cases L with
  | false =>
    refine ⟨J, ?_, fun _ _ _ => rfl, fun a b _ _ => ?_⟩
    · simp only [bI_f, if_true, b_X12_throwMirrors_303, lt1, nI_1]
    · rw [Bool.false_and, h0]
  | true =>
    simp only [bI_t, i10, if_false, in_01000, wi_in, Option.bind_some]
    by_cases c1 : inI x 0 1000 = true
    · by_cases c2 : inI y 0 1000 = true
      · obtain ⟨X, hX, rfl⟩ := inI_n c1
        obtain ⟨Y, hY, rfl⟩ := inI_n c2
        have hX1 : X / 100 < 11 := by omega
        have hY1 : Y / 100 < 11 := by omega
        refine ⟨up2 J (z + 101) (11 * (Y / 100) + X / 100) (J (z + 101) (11 * (Y / 100) + X / 100) + 1), ?_, fun o q ho => un_1 (Or.inl ho), fun a b ha hb => ?_⟩
        · simp only [c1, c2, bI_t, i10, if_false, gR_t (k82 hS), rz82_23 hS, Option.bind_some, dv100, div100 hX, div100 hY, ix11, aI_t (kz101 hS) (show 11 * (Y / 100) + X / 100 < 121 by omega) (by decide), sI_t (kz101 hS) (show 11 * (Y / 100) + X / 100 < 121 by omega) (by decide), nar14, b_X12_throwMirrors_303, lt1, nI_1]
        · rw [cell_n hX hY, Bool.true_and]
          by_cases e : X / 100 = a ∧ Y / 100 = b
          · obtain ⟨rfl, rfl⟩ := e
            rw [es]; simp [bI]
          · rw [un_1 (by omega)]
            have : (decide (X / 100 = a) && decide (Y / 100 = b)) = false := by
              simp only [Bool.and_eq_false_iff, decide_eq_false_iff_not]; omega
            rw [this, h0]
      · have c2 : inI y 0 1000 = false := by simpa using c2
        refine ⟨J, ?_, fun _ _ _ => rfl, fun a b _ _ => ?_⟩
        · simp only [c1, c2, bI_t, bI_f, i10, if_false, if_true, Option.bind_some, b_X12_throwMirrors_303, lt1, nI_1]
        · unfold cellF; rw [c2]; simp [bI]
    · have c1 : inI x 0 1000 = false := by simpa using c1
      refine ⟨J, ?_, fun _ _ _ => rfl, fun a b _ _ => ?_⟩
      · simp only [c1, bI_f, if_true, b_X12_throwMirrors_303, lt1, nI_1]
      · unfold cellF; rw [c1]; simp [bI]
-- what the reference makes of its ticks
def MX (z : Nat) (I : Nat → Nat → Int32) (j : Nat) : Int32 := (mirF (I (z + 92) 2) (I (z + 92) 3) (I (z + 95)) (j + 1)).2
def MY (z : Nat) (I : Nat → Nat → Int32) (j : Nat) : Int32 := (mirF (I (z + 92) 2) (I (z + 92) 3) (I (z + 96)) (j + 1)).2
def MS (z : Nat) (I : Nat → Nat → Int32) (j : Nat) : Bool := shutF (I (z + 93)) (I (z + 94)) (MX z I j) (MY z I j) 4
def ML (z dl : Nat) (I : Nat → Nat → Int32) (j : Nat) : Bool := comesF dl (I (z + 97)) j && !MS z I j
def TMr (z dl : Nat) (I : Nat → Nat → Int32) (i : Nat) (J : Nat → Nat → Int32) : Prop := (∀ o q, ¬ (98 ≤ o ∧ o ≤ 101) → J (z + o) q = I (z + o) q) ∧ (∀ j, j < i → J (z + 98) j = MX z I j ∧ J (z + 99) j = MY z I j ∧ J (z + 100) j = bI (MS z I j)) ∧ ∀ a b, a < 11 → b < 11 → J (z + 101) (11 * b + a) = nI (cntB (fun j => ML z dl I j && cellF (MX z I j) (MY z I j) a b) i)
theorem nI_bI (c : Nat) (b : Bool) : nI c + bI b = nI (c + if b = true then 1 else 0) := by
  cases b
  · simp [bI]
  · exact nI_1 c
theorem thr_M1 (hS : Shp z K R) {T dl : Nat} (hT : T ≤ 2000) (hd : dl ≤ 5) (eT : I (z + 82) 15 = nI T) (e4 : I (z + 92) 4 = nI dl) : ∀ fu i (J : Nat → Nat → Int32), i ≤ T → T < fu + i → TMr z dl I i J → ∃ A, b_X12_throwMirrors_33 fu (some (z + 82)) (mirF (I (z + 92) 2) (I (z + 92) 3) (I (z + 95)) i).2 (mirF (I (z + 92) 2) (I (z + 92) 3) (I (z + 96)) i).2 (mirF (I (z + 92) 2) (I (z + 92) 3) (I (z + 95)) i).1 (mirF (I (z + 92) 2) (I (z + 92) 3) (I (z + 96)) i).1 (nI i) (K, J, R, w) = some (K, A, R, w) ∧ TMr z dl I T A := by
  intro fu
  induction fu with
  | zero => intro i J a b; omega
  | succ fu ih =>
    intro i J a b hJ
    obtain ⟨j1, j2, j3⟩ := hJ
    rw [b_X12_throwMirrors_33, gI_t (k82 hS), Option.bind_some, j1 82 15 (by omega), eT]
    by_cases c : i = T
    · subst c
      rw [if_pos (nI_le (Nat.le_refl _) (by omega))]
      exact ⟨J, rfl, j1, j2, j3⟩
    · have hi : i < T := by omega
      have hi2 : i < 2000 := by omega
      rw [if_neg (nI_ge hi (by omega))]
      obtain ⟨B, hB⟩ : ∃ B, B = up2 (up2 (up2 J (z + 98) i (MX z I i)) (z + 99) i (MY z I i)) (z + 100) i 0 := ⟨_, rfl⟩
      have fB : ∀ o q, ¬ (98 ≤ o ∧ o ≤ 101) → B (z + o) q = I (z + o) q := fun o q ho => by
        rw [hB]; simp (disch := omega) only [un_1, un_2, un_3, un_4, es, up2_self]; exact j1 o q ho
      have e93 : B (z + 93) = I (z + 93) := funext fun q => fB 93 q (by omega)
      have e94 : B (z + 94) = I (z + 94) := funext fun q => fB 94 q (by omega)
      have b100 : B (z + 100) i = bI (shutF (B (z + 93)) (B (z + 94)) (MX z I i) (MY z I i) 0) := by rw [hB, es]; rfl
      have s1 := sh_M (w := w) (u := (mirF (I (z + 92) 2) (I (z + 92) 3) (I (z + 95)) (i + 1)).1) (v := (mirF (I (z + 92) 2) (I (z + 92) 3) (I (z + 96)) (i + 1)).1) hS hi2 (b_X12_throwMirrors_33 fu) FU 0 B (by omega) (by unfold FU; omega) b100
      rw [e93, e94] at s1
      obtain ⟨C, hC⟩ : ∃ C, C = up2 B (z + 100) i (bI (shutF (I (z + 93)) (I (z + 94)) (MX z I i) (MY z I i) 4)) := ⟨_, rfl⟩
      rw [← hC] at s1
      have fC : ∀ o q, ¬ (98 ≤ o ∧ o ≤ 101) → C (z + o) q = I (z + o) q := fun o q ho => by
        rw [hC]; simp (disch := omega) only [un_1, un_2, un_3, un_4, es, up2_self]; exact fB o q ho
      have c100 : C (z + 100) i = bI (MS z I i) := by rw [hC, es]; rfl
      have cT : comesF dl (C (z + 97)) i = comesF dl (I (z + 97)) i := by
        rw [show C (z + 97) = I (z + 97) from funext fun q => fC 97 q (by omega)]
      obtain ⟨A1, r1, r2, r3⟩ := bn_M (w := w) (x := MX z I i) (y := MY z I i) (u := (mirF (I (z + 92) 2) (I (z + 92) 3) (I (z + 95)) (i + 1)).1) (v := (mirF (I (z + 92) 2) (I (z + 92) 3) (I (z + 96)) (i + 1)).1) hS hi2 hd (show C (z + 92) 4 = nI dl by rw [fC 92 4 (by omega), e4]) (b_X12_throwMirrors_33 fu)
      have hA : TMr z dl I (i + 1) A1 := by
        refine ⟨fun o q ho => by rw [r2 o q (by omega)]; exact fC o q ho, fun j hj => ?_, fun a b ha hb => ?_⟩
        · rw [r2 98 j (by omega), r2 99 j (by omega), r2 100 j (by omega)]
          by_cases ej : j = i
          · subst ej
            refine ⟨?_, ?_, c100⟩
            · rw [hC, hB]; simp (disch := omega) only [un_1, un_2, un_3, un_4, es, up2_self]
            · rw [hC, hB]; simp (disch := omega) only [un_1, un_2, un_3, un_4, es, up2_self]
          · rw [hC, hB]
            simp (disch := omega) only [un_1, un_2, un_3, un_4, es, up2_self]
            exact j2 j (by omega)
        · rw [r3 a b ha hb, cT, c100]
          have ec : C (z + 101) (11 * b + a) = J (z + 101) (11 * b + a) := by rw [hC, hB]; simp (disch := omega) only [un_1, un_2, un_3, un_4, es, up2_self]
          rw [ec, j3 a b ha hb, nI_bI, cntB]
          have : (comesF dl (I (z + 97)) i && decide (bI (MS z I i) = 0)) = ML z dl I i := by
            unfold ML
            cases MS z I i <;> simp [bI]
          rw [this]
      obtain ⟨A, q1, q2⟩ := ih (i + 1) A1 (by omega) (by omega) hA
      refine ⟨A, ?_, q2⟩
      have m2 : ∀ H : Nat → Nat → Int32, aI (K, H, R, w) (some (z + 92)) 14 2 = some (H (z + 92) 2) := fun H => aI_t (j := 2) (kz92 hS) (by decide) (by decide)
      have m3 : ∀ H : Nat → Nat → Int32, aI (K, H, R, w) (some (z + 92)) 14 3 = some (H (z + 92) 3) := fun H => aI_t (j := 3) (kz92 hS) (by decide) (by decide)
      simp only [gR_t (k82 hS), Option.bind_some, rz82_17 hS, rz82_18 hS, rz82_12 hS, rz82_20 hS, rz82_21 hS, rz82_22 hS, aI_t (kz95 hS) hi2 (by decide), aI_t (kz96 hS) hi2 (by decide), m2, m3, j1 92 2 (by omega), j1 92 3 (by omega), j1 95 i (by omega), j1 96 i (by omega), dv16, lt1, sI_t (kz98 hS) hi2 (by decide), sI_t (kz99 hS) hi2 (by decide), sI_t (kz100 hS) hi2 (by decide), nar14, narZ0]
      rw [hB] at s1
      exact s1.trans (r1.trans q1)
theorem thr_M0 (hS : Shp z K R) : ∀ fu k (J : Nat → Nat → Int32), k ≤ 121 → 121 < fu + k → ∃ A, b_X12_throwMirrors_2 fu (some (z + 82)) (nI k) (K, J, R, w) = b_X12_throwMirrors_21 (some (z + 82)) (K, A, R, w) ∧ (∀ o q, ¬ (o = 101 ∧ k ≤ q) → A (z + o) q = J (z + o) q) ∧ ∀ q, k ≤ q → q < 121 → A (z + 101) q = 0 := by
  intro fu
  induction fu with
  | zero => intro k J a b; omega
  | succ fu ih =>
    intro k J a b
    rw [b_X12_throwMirrors_2]
    by_cases c : k = 121
    · subst c
      rw [if_pos (show (121 : Int32) ≤ nI 121 by decide)]
      exact ⟨J, rfl, fun _ _ _ => rfl, fun q _ _ => by omega⟩
    · have hk : k < 121 := by omega
      obtain ⟨A, q1, q2, q3⟩ := ih (k + 1) (up2 J (z + 101) k 0) (by omega) (by omega)
      refine ⟨A, ?_, fun o q ho => by rw [q2 o q (by omega), un_1 (by omega)], fun q h1 h2 => ?_⟩
      · rw [if_neg (show ¬ (121 : Int32) ≤ _ from nI_ge (b := 121) hk (by decide)), gR_t (k82 hS), Option.bind_some, rz82_23 hS, sI_t (kz101 hS) hk (by decide), Option.bind_some]
        unfold lt1
        rw [nI_1, nar14]
        exact q1
      · by_cases e : q = k
        · subst e
          rw [q2 101 q (by omega), es]
        · exact q3 q (by omega) h2
theorem thr_M (hS : Shp z K R) {T dl : Nat} (hT : T ≤ 2000) (hd : dl ≤ 5) (eT : J (z + 82) 15 = nI T) (e4 : J (z + 92) 4 = nI dl) : ∃ A, f_X12_throwMirrors (some (z + 82)) (K, J, R, w) = some (K, A, R, w) ∧ TMr z dl J T A := by
  obtain ⟨B, q1, q2, q3⟩ := thr_M0 (w := w) hS FU 0 J (by omega) (by unfold FU; omega)
  have hB : TMr z dl J 0 B := ⟨fun o q ho => q2 o q (by omega), fun j hj => by omega, fun a b ha hb => q3 _ (by omega) (by omega)⟩
  obtain ⟨A, r1, r2⟩ := thr_M1 (w := w) hS hT hd eT e4 FU 0 B (by omega) (by unfold FU; omega) hB
  refine ⟨A, ?_, r2⟩
  unfold f_X12_throwMirrors
  rw [show nI 0 = 0 from rfl] at q1 r1
  rw [q1]
  unfold b_X12_throwMirrors_21
  exact r1
end M1
