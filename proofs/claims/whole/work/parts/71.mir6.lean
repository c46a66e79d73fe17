section M6
variable {z h k n m t q sg wn : Nat} {K : Nat → Nat × Nat} {I J A : Nat → Nat → Int32} {R : Nat → Nat → Option Nat} {w : Nat}
theorem ne_if (v : Int32) (S : St) : (if v = 0 then some ((0 : Int32), S) else some ((1 : Int32), S)) = some (bI (decide (v ≠ 0)), S) := by
  by_cases c : v = 0
  · rw [if_pos c]; simp [c, bI]
  · rw [if_neg c]; simp [c, bI]
theorem bI_ne (b : Bool) : decide (bI b ≠ 0) = b := by cases b <;> simp [bI]
theorem lit_X (hS : Shp z K R) (hz : RZones z J) {i dl : Nat} (hi : i < 2000) (hd : dl ≤ 5) (e4 : J (z + 11) 4 = nI dl) : f_X6_isLit (some (z + 10)) (nI i) (K, J, R, w) = some (bI (comesF dl (J (z + 15)) i && !shutF (J (z + 93)) (J (z + 94)) (J (z + 16) i) (J (z + 17) i) 4), K, J, R, w) := by
  have k10 : (K (z + 10)).1 = 6 + 1 := by rw [kz10 hS]
  unfold f_X6_isLit
  rw [cK_t k10, com_X hS hi hd e4, Option.bind_some]
  by_cases c : comesF dl (J (z + 15)) i = true
  · simp only [c, bI_t, i10, if_false, cK_t k10, shu_X hS hz hi, Option.bind_some, Bool.true_and]
    by_cases c2 : shutF (J (z + 93)) (J (z + 94)) (J (z + 16) i) (J (z + 17) i) 4 = true
    · simp only [c2, bI_t, i10, if_false, zr_0]; rfl
    · have c2 : shutF (J (z + 93)) (J (z + 94)) (J (z + 16) i) (J (z + 17) i) 4 = false := by simpa using c2
      simp only [c2, bI_f, if_true, zr_1]; rfl
  · have c : comesF dl (J (z + 15)) i = false := by simpa using c
    simp only [c, bI_f, if_true, zr_0, Bool.false_and]
def lgM (z : Nat) (J : Nat → Nat → Int32) (j : Nat) : Int32 := if J (z + 97) j = 0 then 0 else wayI (J (z + 95) j) (J (z + 96) j) (J (z + 98) j) (J (z + 99) j)
theorem lag_M (hS : Shp z K R) {i : Nat} (hi : i < 2000) : f_X12_lag (some (z + 82)) (nI i) (K, J, R, w) = some (lgM z J i, K, J, R, w) := by
  unfold f_X12_lag lgM
  simp only [gR_t (k82 hS), Option.bind_some, rz82_17 hS, rz82_18 hS, rz82_19 hS, rz82_20 hS, rz82_21 hS, aI_t (kz95 hS) hi (by decide), aI_t (kz96 hS) hi (by decide), aI_t (kz97 hS) hi (by decide), aI_t (kz98 hS) hi (by decide), aI_t (kz99 hS) hi (by decide), way_M]
  by_cases c : J (z + 97) i = 0
  · rw [if_pos c, if_pos c]
  · rw [if_neg c, if_neg c]
def tkV (b : Nat) (t0 t1 t2 t3 t4 t5 t6 t7 : Int32) : Int32 := if b = 0 then t0 else if b = 1 then t1 else if b = 2 then t2 else if b = 3 then t3 else if b = 4 then t4 else if b = 5 then t5 else if b = 6 then t6 else t7
theorem tkV_s (b : Nat) (t0 t1 t2 t3 t4 t5 t6 t7 : Int32) (S : St) : (if nI b = (0 : Int32) then some (t0, S) else if nI b = (1 : Int32) then some (t1, S) else if nI b = (2 : Int32) then some (t2, S) else if nI b = (3 : Int32) then some (t3, S) else if nI b = (4 : Int32) then some (t4, S) else if nI b = (5 : Int32) then some (t5, S) else if nI b = (6 : Int32) then some (t6, S) else some (t7, S)) = (if b < 100 then some (tkV b t0 t1 t2 t3 t4 t5 t6 t7, S) else (if nI b = (0 : Int32) then some (t0, S) else if nI b = (1 : Int32) then some (t1, S) else if nI b = (2 : Int32) then some (t2, S) else if nI b = (3 : Int32) then some (t3, S) else if nI b = (4 : Int32) then some (t4, S) else if nI b = (5 : Int32) then some (t5, S) else if nI b = (6 : Int32) then some (t6, S) else some (t7, S))) := by
  by_cases hb : b < 100
  · rw [if_pos hb]
    have q : ∀ c, c < 100 → ((nI b = nI c) = (b = c)) := fun c hc => propext (nI_eq (by omega) (by omega))
    have q0 : (nI b = (0 : Int32)) = (b = 0) := q 0 (by decide)
    have q1 : (nI b = (1 : Int32)) = (b = 1) := q 1 (by decide)
    have q2 : (nI b = (2 : Int32)) = (b = 2) := q 2 (by decide)
    have q3 : (nI b = (3 : Int32)) = (b = 3) := q 3 (by decide)
    have q4 : (nI b = (4 : Int32)) = (b = 4) := q 4 (by decide)
    have q5 : (nI b = (5 : Int32)) = (b = 5) := q 5 (by decide)
    have q6 : (nI b = (6 : Int32)) = (b = 6) := q 6 (by decide)
    simp only [q0, q1, q2, q3, q4, q5, q6]
    unfold tkV
    repeat' split
    all_goals rfl
  · rw [if_neg hb]
theorem tk_X (hS : Shp z K R) (hz : RZones z A) {b T dl i : Nat} {c : Bool} {s : Int32} (hb : b ≤ 7) (hd : dl ≤ 5) (e4 : A (z + 11) 4 = nI dl) (hT : T ≤ 2000) (hc : c = true → A (z + 12) 3 = nI T) (hi : i < T) (r1 : f_X6_reaches (some (z + 10)) s (some (z + 2)) (K, I, R, w) = some (bI c, K, A, R, w)) : b_X11_tick_27 (some z) (nI i) (nI b) (some (z + 10)) s (K, I, R, w) = some (if c = true then tkV b (A (z + 13) i) (A (z + 14) i) (bI (decide (A (z + 15) i ≠ 0))) (A (z + 16) i) (A (z + 17) i) (bI (comesF dl (A (z + 15)) i && !shutF (A (z + 93)) (A (z + 94)) (A (z + 16) i) (A (z + 17) i) 4)) (bI (shutF (A (z + 93)) (A (z + 94)) (A (z + 16) i) (A (z + 17) i) 4)) (lagF z A i) else -1000003, K, A, R, w) := by
  have k0 : (K z).1 = 10 + 1 := by rw [kz0 hS]
  have k10 : (K (z + 10)).1 = 6 + 1 := by rw [kz10 hS]
  have k12 : (K (z + 12)).1 = 3 + 1 := by rw [kz12 hS]
  have hi2 : i < 2000 := by omega
  unfold b_X11_tick_27
  rw [gR_t k0, Option.bind_some, rz0_1 hS, cK_t k10, r1, Option.bind_some]
  cases c with
  | false => simp only [bI_f, if_true]; rfl
  | true =>
    have cw : 0 ≤ nI i ∧ nI i ≤ nI T - 1 := ⟨nI_pos' (by omega), by
      rw [show nI T - 1 = nI (T - 1) from sub_nn (b := 1) (by omega)]; exact nI_le (by omega) (by omega)⟩
    simp only [bI_t, i10, if_false, if_true, gR_t k0, gR_t k10, gR_t k12, rz0_3 hS, rz10_1 hS, rz10_2 hS, rz10_3 hS, rz12_0 hS, rz12_1 hS, rz12_2 hS, Option.bind_some, gI_t k12, hc rfl, isW, wi1 cw, aI_t (kz13 hS) hi2 (by decide), aI_t (kz14 hS) hi2 (by decide), aI_t (kz15 hS) hi2 (by decide), aI_t (kz16 hS) hi2 (by decide), aI_t (kz17 hS) hi2 (by decide), cK_t k10, lit_X hS hz hi2 hd e4, shu_X hS hz hi2, lag_X hS hi2, ne_if, bI_ne]
    rw [tkV_s, if_pos (by omega)]
theorem tk_M (hS : Shp z K R) {b T dl i : Nat} {c : Bool} (hb : b ≤ 7) (hd : dl ≤ 5) (e4 : J (z + 92) 4 = nI dl) (hT : T ≤ 2000) (e15 : J (z + 82) 15 = nI T) (e16 : J (z + 82) 16 = bI (!c)) (hi : i < T) (r2 : f_X12_make (some (z + 82)) (K, up2 A (z + 82) 0 0, R, w) = some (K, J, R, w)) : f_X12_tick (some (z + 82)) (nI i) (nI b) (K, A, R, w) = some (if c = true then tkV b (J (z + 95) i) (J (z + 96) i) (bI (decide (J (z + 97) i ≠ 0))) (J (z + 98) i) (J (z + 99) i) (bI (comesF dl (J (z + 97)) i && decide (J (z + 100) i = 0))) (bI (decide (J (z + 100) i ≠ 0))) (lgM z J i) else -1000003, K, J, R, w) := by
  have hi2 : i < 2000 := by omega
  have cb : 0 ≤ nI b ∧ nI b ≤ 7 := ⟨nI_pos' (by omega), nI_le (b := 7) hb (by decide)⟩
  have cw : 0 ≤ nI i ∧ nI i ≤ nI T - 1 := ⟨nI_pos' (by omega), by
    rw [show nI T - 1 = nI (T - 1) from sub_nn (b := 1) (by omega)]; exact nI_le (by omega) (by omega)⟩
  unfold f_X12_tick
  rw [pI_t (k82 hS), Option.bind_some, in_07, Option.bind_some, wi1 cb, if_neg i10, cK_t (k82 hS), r2, Option.bind_some, gI_t (k82 hS), Option.bind_some, e16]
  cases c with
  | false => rw [if_neg (show ¬ bI (!false) = 0 by decide)]; rfl
  | true =>
    rw [if_pos (show bI (!true) = 0 by decide), gI_t (k82 hS), Option.bind_some, e15, in_0, Option.bind_some, wi1 cw, if_neg i10]
    simp only [gR_t (k82 hS), Option.bind_some, rz82_17 hS, rz82_18 hS, rz82_19 hS, rz82_20 hS, rz82_21 hS, rz82_22 hS, aI_t (kz95 hS) hi2 (by decide), aI_t (kz96 hS) hi2 (by decide), aI_t (kz97 hS) hi2 (by decide), aI_t (kz98 hS) hi2 (by decide), aI_t (kz99 hS) hi2 (by decide), aI_t (kz100 hS) hi2 (by decide), cK_t (k82 hS), lit_M hS hi2 hd e4, lag_M hS hi2, ne_if, bI_ne]
    rw [tkV_s, if_pos (by omega)]
    rfl
theorem tk_no (hS : Shp z K R) {b T : Nat} {c : Bool} {s v : Int32} (hb : b ≤ 7) (hc : c = true → A (z + 12) 3 = nI T) (e15 : J (z + 82) 15 = nI T) (e16 : J (z + 82) 16 = bI (!c)) (cw : ¬ (0 ≤ v ∧ v ≤ nI T - 1)) (r1 : f_X6_reaches (some (z + 10)) s (some (z + 2)) (K, I, R, w) = some (bI c, K, A, R, w)) (r2 : f_X12_make (some (z + 82)) (K, up2 A (z + 82) 0 0, R, w) = some (K, J, R, w)) : b_X11_tick_27 (some z) v (nI b) (some (z + 10)) s (K, I, R, w) = some (if c = true then -1000000 else -1000003, K, A, R, w) ∧ f_X12_tick (some (z + 82)) v (nI b) (K, A, R, w) = some (if c = true then -1000000 else -1000003, K, J, R, w) := by
  have k0 : (K z).1 = 10 + 1 := by rw [kz0 hS]
  have k10 : (K (z + 10)).1 = 6 + 1 := by rw [kz10 hS]
  have k12 : (K (z + 12)).1 = 3 + 1 := by rw [kz12 hS]
  have cb : 0 ≤ nI b ∧ nI b ≤ 7 := ⟨nI_pos' (by omega), nI_le (b := 7) hb (by decide)⟩
  constructor
  · unfold b_X11_tick_27
    rw [gR_t k0, Option.bind_some, rz0_1 hS, cK_t k10, r1, Option.bind_some]
    cases c with
    | false => simp only [bI_f, if_true]; rfl
    | true =>
      rw [if_neg (show ¬ bI true = 0 by decide), gR_t k0, Option.bind_some, rz0_3 hS, gR_t k10, Option.bind_some, rz10_1 hS, gI_t k12, Option.bind_some, hc rfl, isW, Option.bind_some, wi0 cw, if_pos rfl]
      rfl
  · unfold f_X12_tick
    rw [pI_t (k82 hS), Option.bind_some, in_07, Option.bind_some, wi1 cb, if_neg i10, cK_t (k82 hS), r2, Option.bind_some, gI_t (k82 hS), Option.bind_some, e16]
    cases c with
    | false => rw [if_neg (show ¬ bI (!false) = 0 by decide)]; rfl
    | true =>
      rw [if_pos (show bI (!true) = 0 by decide), gI_t (k82 hS), Option.bind_some, e15, in_0, Option.bind_some, wi0 cw, if_pos rfl]
      rfl
theorem tick_X0 (hS : Shp z K R) {v1 v2 : Int32} (c2 : ¬ (0 ≤ v2 ∧ v2 ≤ 7)) : f_X11_tick (some z) v1 v2 (K, I, R, w) = some (-1000001, K, I, R, w) := by
  unfold f_X11_tick
  rw [isW, Option.bind_some, wi0 c2, if_pos rfl]
theorem tick_M0 (hS : Shp z K R) {v1 v2 : Int32} (c2 : ¬ (0 ≤ v2 ∧ v2 ≤ 7)) : f_X12_tick (some (z + 82)) v1 v2 (K, I, R, w) = some (-1000001, K, up2 I (z + 82) 0 0, R, w) := by
  unfold f_X12_tick
  rw [pI_t (k82 hS), Option.bind_some, in_07, Option.bind_some, wi0 c2, if_pos rfl]
theorem tick_X1 (hS : Shp z K R) {v1 : Int32} {b wn : Nat} (c2 : 0 ≤ nI b ∧ nI b ≤ 7) (hb : b ≤ 7) (hwn : wn = if 3 ≤ b then 2 else 1) : f_X11_tick (some z) v1 (nI b) (K, I, R, w) = b_X11_tick_27 (some z) v1 (nI b) (some (z + 10)) (nI wn) (K, I, R, w) := by
  have k0 : (K z).1 = 10 + 1 := by rw [kz0 hS]
  unfold f_X11_tick
  rw [isW, Option.bind_some, wi1 c2, if_neg i10, gR_t k0, Option.bind_some, rz0_3 hS]
  by_cases q : 3 ≤ b
  · rw [if_pos (show (3 : Int32) ≤ _ from nI_le (a := 3) q (by omega)), hwn, if_pos q, show nI 2 = 2 from rfl]
  · rw [if_neg (show ¬ (3 : Int32) ≤ _ from nI_ge (b := 3) (by omega) (by decide)), hwn, if_neg q, show nI 1 = 1 from rfl]
theorem tkV_3 {b : Nat} (q : ¬ 3 ≤ b) (t0 t1 t2 t3 t4 t5 t6 t7 s3 s4 s5 s6 s7 : Int32) : tkV b t0 t1 t2 t3 t4 t5 t6 t7 = tkV b t0 t1 t2 s3 s4 s5 s6 s7 := by
  unfold tkV
  rcases (show b = 0 ∨ b = 1 ∨ b = 2 by omega) with rfl | rfl | rfl
  · simp only [if_true]
  · simp only [show ¬ (1 : Nat) = 0 by decide, if_true, if_false]
  · simp only [show ¬ (2 : Nat) = 0 by decide, show ¬ (2 : Nat) = 1 by decide, if_true, if_false]
theorem tick_eq {b T dl i wn : Nat} (hwn : wn = if 3 ≤ b then 2 else 1) (hi : i < T) (fD : FD z A J) (tm : TMr z dl J T J) (e4 : J (z + 92) 4 = nI dl) (hd : dl ≤ 5) (y3 : ∀ i, i < T → A (z + 13) i = J (z + 95) i ∧ A (z + 14) i = J (z + 96) i ∧ A (z + 15) i = J (z + 97) i) (y4 : 2 ≤ wn → ∀ i, i < T → A (z + 16) i = J (z + 98) i ∧ A (z + 17) i = J (z + 99) i) : tkV b (J (z + 95) i) (J (z + 96) i) (bI (decide (J (z + 97) i ≠ 0))) (J (z + 98) i) (J (z + 99) i) (bI (comesF dl (J (z + 97)) i && decide (J (z + 100) i = 0))) (bI (decide (J (z + 100) i ≠ 0))) (lgM z J i) = tkV b (A (z + 13) i) (A (z + 14) i) (bI (decide (A (z + 15) i ≠ 0))) (A (z + 16) i) (A (z + 17) i) (bI (comesF dl (A (z + 15)) i && !shutF (A (z + 93)) (A (z + 94)) (A (z + 16) i) (A (z + 17) i) 4)) (bI (shutF (A (z + 93)) (A (z + 94)) (A (z + 16) i) (A (z + 17) i) 4)) (lagF z A i) := by
  obtain ⟨p1, p2, p3⟩ := y3 i hi
  by_cases q : 3 ≤ b
  · have y4 := y4 (by rw [hwn, if_pos q]; exact Nat.le_refl 2)
    obtain ⟨u1, u2⟩ := y4 i hi
    obtain ⟨b1, b2, b3, b4, b5⟩ := bth fD tm e4 hd y3 y4 hi
    have b5' : lagF z A i = lgM z J i := b5
    have b6 : (!MS z J i) = decide (bI (MS z J i) = 0) := by cases MS z J i <;> simp [bI]
    rw [b1, b2, b5', b4, bI_ne, p1, p2, p3, u1, u2, b6]
  · rw [p1, p2, p3]
    exact tkV_3 q _ _ _ _ _ _ _ _ _ _ _ _ _
theorem agr_tick (v1 v2 : Int32) : Agr (Rel z) z (f_X11_tick (some z) v1 v2) (f_X12_tick (some (z + 82)) v1 v2) := by
  rintro ⟨K, I, R, w⟩ hR
  obtain ⟨h, h1, h2, h3, h4, _⟩ := hR.opn
  by_cases c2 : 0 ≤ v2 ∧ v2 ≤ 7
  · obtain ⟨b, hb, rfl⟩ := ix_le (n := 7) (by decide) c2
    obtain ⟨wn, hwn⟩ : ∃ wn, wn = if 3 ≤ b then 2 else 1 := ⟨_, rfl⟩
    have hw3 : wn ≤ 3 := by rw [hwn]; split <;> omega
    obtain ⟨h, A, D, T, dl, c, hS, hT, hd, r1, r2, RD, hz, hru, fD, tm, e4, e15, e16, hc⟩ := both (wn := wn) hR hw3
    have eX := tick_X1 (w := w) (I := I) (v1 := v1) hS c2 hb hwn
    by_cases cw : 0 ≤ v1 ∧ v1 ≤ nI T - 1
    · obtain ⟨i, hi, rfl⟩ := ix_lt (by omega) cw
      have e4' : A (z + 11) 4 = nI dl := by rw [hru.1 4 (by decide), ← fD 92 4 (by omega) (by omega)]; exact e4
      have tX := tk_X hS hz hb hd e4' hT (fun q => (hc q).1) hi r1
      have tM := tk_M hS hb hd e4 hT e15 e16 hi r2
      refine ⟨_, _, _, eX.trans tX, k82 hS, tM.trans ?_, RD⟩
      cases c with
      | false => rw [if_neg Bool.false_ne_true, if_neg Bool.false_ne_true]
      | true =>
        obtain ⟨y1, y2, y3, y4, y5⟩ := hc rfl
        rw [if_pos rfl, if_pos rfl, tick_eq hwn hi fD tm e4 hd y3 y4]
    · obtain ⟨q1, q2⟩ := tk_no hS hb (fun q => (hc q).1) e15 e16 cw r1 r2
      exact ⟨_, _, _, eX.trans q1, k82 hS, q2, RD⟩
  · exact ⟨_, _, _, tick_X0 h4 c2, k82 h4, tick_M0 h4 c2, hR.thr 0⟩
end M6
