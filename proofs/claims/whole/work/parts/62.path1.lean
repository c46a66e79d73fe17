section P1
variable {z h k n m t : Nat} {K : Nat → Nat × Nat} {I J : Nat → Nat → Int32} {R : Nat → Nat → Option Nat} {w : Nat}
-- the class's path holds a list
def PX (z : Nat) (L : List (Int32 × Int32 × Int32)) (ax ay : Int32) (J : Nat → Nat → Int32) : Prop := (L.length ≤ 2000 → J (z + 12) 3 = nI L.length ∧ J (z + 12) 4 = 0 ∧ J (z + 12) 5 = ax ∧ J (z + 12) 6 = ay ∧ ∀ i, i < L.length → L[i]? = some (J (z + 13) i, J (z + 14) i, J (z + 15) i)) ∧ (2000 < L.length → J (z + 12) 4 = 1)
/-- what drawing leaves alone -/
def FX (z : Nat) (J A : Nat → Nat → Int32) : Prop := ∀ o q, ¬ (o = 12 ∧ 3 ≤ q ∧ q ≤ 6) → o ≠ 13 → o ≠ 14 → o ≠ 15 → A (z + o) q = J (z + o) q
theorem FX.rf : FX z J J := fun _ _ _ _ _ _ => rfl
theorem FX.tr {A B : Nat → Nat → Int32} (h1 : FX z J A) (h2 : FX z A B) : FX z J B := fun o q a b c d => (h2 o q a b c d).trans (h1 o q a b c d)
theorem nar_b {v : Int32} (h : v = 0 ∨ v = 1) : nar 15 v = v := by rcases h with rfl | rfl <;> decide
theorem stay_X1 (hS : Shp z K R) {lit : Int32} (hl : lit = 0 ∨ lit = 1) {n : Nat} (hn : n ≤ 5) {ax ay : Int32} : ∀ fu k L (J : Nat → Nat → Int32), PX z L ax ay J → k ≤ n → n < fu + k → ∃ A, b_X3_stay_2 fu (some (z + 12)) (nI n) lit (nI k) (K, J, R, w) = some (K, A, R, w) ∧ PX z (L ++ stL (n - k) ax ay lit) ax ay A ∧ FX z J A := by
  have k12 : (K (z + 12)).1 = 3 + 1 := by rw [kz12 hS]
  intro fu
  induction fu with
  | zero => intro k L J _ a b; omega
  | succ fu ih =>
    intro k L J hP a b
    rw [b_X3_stay_2]
    by_cases c : k = n
    · subst c
      rw [if_pos (nI_le (Nat.le_refl _) (by omega))]
      refine ⟨J, rfl, ?_, FX.rf⟩
      rw [Nat.sub_self]
      simpa [stL] using hP
    · have hk : k < n := by omega
      rw [if_neg (nI_ge hk (by omega)), gI_t k12, Option.bind_some]
      have hst : stL (n - k) ax ay lit = (ax, ay, lit) :: stL (n - (k + 1)) ax ay lit := by
        unfold stL
        rw [show n - k = n - (k + 1) + 1 by omega, List.replicate_succ]
      by_cases c2 : L.length ≤ 2000
      · obtain ⟨p1, p2, p3, p4, p5⟩ := hP.1 c2
        rw [p2, if_pos rfl, gI_t k12, Option.bind_some, p1]
        by_cases c3 : L.length = 2000
        · rw [if_pos (by rw [c3]; decide), pI_t k12, Option.bind_some, b_X3_stay_78]
          simp only [lt1, nI_1]
          obtain ⟨A, r1, r2, r3⟩ := ih (k + 1) (L ++ [(ax, ay, lit)]) (up2 J (z + 12) 4 1) ⟨fun q => by
            rw [List.length_append] at q; simp at q; omega, fun _ => es⟩ (by omega) (by omega)
          refine ⟨A, r1, ?_, FX.tr (fun o q x1 x2 x3 x4 => by simp (disch := omega) only [un_1, un_2, un_3, un_4, es, up2_self]) r3⟩
          rw [hst]
          simpa using r2
        · have c4 : L.length < 2000 := by omega
          rw [if_neg (show ¬ (2000 : Int32) ≤ nI L.length from nI_ge (b := 2000) c4 (by decide))]
          obtain ⟨B, hB⟩ : ∃ B, B = up2 (up2 (up2 (up2 J (z + 13) L.length ax) (z + 14) L.length ay) (z + 15) L.length lit) (z + 12) 3 (nI (L.length + 1)) := ⟨_, rfl⟩
          have e3 : up2 J (z + 13) L.length ax (z + 12) 3 = nI L.length := by simp (disch := omega) only [un_1, un_2, un_3, un_4, es, up2_self]; exact p1
          have e6 : up2 J (z + 13) L.length ax (z + 12) 6 = ay := by simp (disch := omega) only [un_1, un_2, un_3, un_4, es, up2_self]; exact p4
          have e3' : up2 (up2 J (z + 13) L.length ax) (z + 14) L.length ay (z + 12) 3 = nI L.length := by simp (disch := omega) only [un_1, un_2, un_3, un_4, es, up2_self]; exact p1
          have e3'' : up2 (up2 (up2 J (z + 13) L.length ax) (z + 14) L.length ay) (z + 15) L.length lit (z + 12) 3 = nI L.length := by simp (disch := omega) only [un_1, un_2, un_3, un_4, es, up2_self]; exact p1
          simp only [gR_t k12, gI_t k12, Option.bind_some, rz12_0 hS, rz12_1 hS, rz12_2 hS, p1, p3, sI_t (kz13 hS) c4 (by decide), nar14, e3, e6, sI_t (kz14 hS) c4 (by decide), e3', sI_t (kz15 hS) c4 (by decide), nar_b hl, e3'', pI_t k12, b_X3_stay_78, lt1, nI_1, ← hB]
          obtain ⟨A, r1, r2, r3⟩ := ih (k + 1) (L ++ [(ax, ay, lit)]) B ⟨fun _ => by
            rw [hB, List.length_append]
            simp (disch := omega) only [un_1, un_2, un_3, un_4, es, up2_self]
            refine ⟨rfl, p2, p3, p4, fun i hi => ?_⟩
            simp at hi
            by_cases ei : i = L.length
            · subst ei
              simp (disch := omega) only [un_1, un_2, un_3, un_4, es, up2_self]
              simp
            · rw [List.getElem?_append_left (by omega)]
              simp (disch := omega) only [un_1, un_2, un_3, un_4, es, up2_self]
              exact p5 i (by omega), fun q => by
            rw [List.length_append] at q; simp at q; omega⟩ (by omega) (by omega)
          refine ⟨A, r1, ?_, FX.tr (fun o q x1 x2 x3 x4 => by rw [hB]; simp (disch := omega) only [un_1, un_2, un_3, un_4, es, up2_self]) r3⟩
          rw [hst]
          simpa using r2
      · rw [hP.2 (by omega), if_neg i10]
        refine ⟨J, rfl, ⟨fun q => ?_, fun _ => hP.2 (by omega)⟩, FX.rf⟩
        rw [List.length_append] at q; omega
theorem stay_X (hS : Shp z K R) {lit : Int32} (hl : lit = 0 ∨ lit = 1) {n : Nat} (hn : n ≤ 5) {ax ay : Int32} {L : List (Int32 × Int32 × Int32)} (hP : PX z L ax ay J) : ∃ A, f_X3_stay (some (z + 12)) (nI n) lit (K, J, R, w) = some (K, A, R, w) ∧ PX z (L ++ stL n ax ay lit) ax ay A ∧ FX z J A := stay_X1 (w := w) hS hl hn FU 0 L J hP (by omega) (by unfold FU; omega)
theorem ti_mul {a b : Int32} (h1 : -2147483648 ≤ a.toInt * b.toInt) (h2 : a.toInt * b.toInt < 2147483648) : (a * b).toInt = a.toInt * b.toInt := by
  rw [Int32.toInt_mul]; exact Int.bmod_eq_of_le (by omega) (by omega)
/-- ways of points of the field -/
theorem ab_n {a c : Nat} (ha : a ≤ 1000) (hc : c ≤ 1000) : ab (nI c - nI a) = nI (if a ≤ c then c - a else a - c) := by
  by_cases q : a ≤ c
  · rw [if_pos q, sub_nn q]
    unfold ab
    rw [if_pos (nI_pos' (by omega))]
  · rw [if_neg q, ← neg_s, sub_nn (show c ≤ a by omega), ab_neg, if_pos (nI_pos' (by omega))]
theorem way_n {a b c d : Nat} (ha : a ≤ 1000) (hb : b ≤ 1000) (hc : c ≤ 1000) (hd : d ≤ 1000) : ∃ v, v ≤ 1000 ∧ wayI (nI a) (nI b) (nI c) (nI d) = nI v ∧ (v = 0 → a = c ∧ b = d) := by
  unfold wayI mx
  rw [ab_n ha hc, ab_n hb hd]
  by_cases q : (if a ≤ c then c - a else a - c) < (if b ≤ d then d - b else b - d)
  · rw [if_pos (nI_lt q (by split <;> omega))]
    refine ⟨_, ?_, rfl, ?_⟩
    · split <;> omega
    · intro e; rw [e] at q; omega
  · rw [if_neg (nI_nlt (by omega) (by split <;> omega))]
    refine ⟨_, ?_, rfl, ?_⟩
    · split <;> omega
    · intro e
      rw [e] at q
      split at e <;> split at q <;> omega
theorem steps_n {p v : Nat} (hp : 1 ≤ p) (hp2 : p ≤ 1000) (hv : v ≤ 1000) : stepsI (nI p) (nI v) = nI ((v + p - 1) / p) ∧ (v + p - 1) / p ≤ v ∧ ((v + p - 1) / p = 0 → v = 0) := by
  refine ⟨?_, ?_, ?_⟩
  · unfold stepsI
    rw [nI_add, show nI (v + p) - 1 = nI (v + p - 1) from sub_nn (b := 1) (by omega)]
    exact pk_div (by omega) (by omega) (by omega)
  · apply Nat.le_of_lt_succ
    rw [Nat.div_lt_iff_lt_mul (by omega)]
    have : v * 1 ≤ v * p := Nat.mul_le_mul_left v hp
    rw [Nat.succ_mul]
    omega
  · intro e
    rw [Nat.div_eq_zero_iff] at e
    omega
theorem mv_end {a c s : Nat} (ha : a ≤ 1000) (hc : c ≤ 1000) (hs : 1 ≤ s) (hs2 : s ≤ 1000) : nI a + (nI c - nI a) * nI s / nI s = nI c := by
  have ta := nI_toInt (show a < 2 ^ 31 by omega)
  have tc := nI_toInt (show c < 2 ^ 31 by omega)
  have ts := nI_toInt (show s < 2 ^ 31 by omega)
  have t1 : (nI c - nI a).toInt = c - a := by rw [ti_sub (by omega) (by omega), ta, tc]
  have b1 : ((c : Int) - a) * s ≤ 1000 * 1000 := by
    calc ((c : Int) - a) * s ≤ 1000 * s := Int.mul_le_mul_of_nonneg_right (by omega) (by omega)
      _ ≤ 1000 * 1000 := by omega
  have b2 : -(1000 * 1000) ≤ ((c : Int) - a) * s := by
    calc (-(1000 * 1000) : Int) ≤ (-1000) * s := by omega
      _ ≤ ((c : Int) - a) * s := Int.mul_le_mul_of_nonneg_right (by omega) (by omega)
  have t2 : ((nI c - nI a) * nI s).toInt = ((c : Int) - a) * s := by
    rw [ti_mul (by rw [t1, ts]; omega) (by rw [t1, ts]; omega), t1, ts]
  have t3 : ((nI c - nI a) * nI s / nI s).toInt = (c : Int) - a := by
    rw [Int32.toInt_div, t2, ts, Int.mul_tdiv_cancel _ (by omega)]
    exact Int.bmod_eq_of_le (by omega) (by omega)
  apply Int32.toInt_inj.mp
  rw [ti_add (by rw [t3, ta]; omega) (by rw [t3, ta]; omega), t3, ta, tc]
  omega
def mvE (s x0 y0 x1 y1 lit : Int32) (k : Nat) : Int32 × Int32 × Int32 := (x0 + (x1 - x0) * nI (k + 1) / s, y0 + (y1 - y0) * nI (k + 1) / s, lit)
theorem mvL_E {p v : Nat} {x0 y0 x1 y1 lit : Int32} (hp : 1 ≤ p) (hp2 : p ≤ 1000) (hv : v ≤ 1000) (ew : wayI x0 y0 x1 y1 = nI v) : mvL (nI p) x0 y0 x1 y1 lit = (List.range ((v + p - 1) / p)).map (mvE (nI ((v + p - 1) / p)) x0 y0 x1 y1 lit) := by
  have e := steps_n hp hp2 hv
  unfold mvL
  rw [ew, e.1, nI_clamp (by have := e.2.1; omega)]
  rfl
theorem move_X1 (hS : Shp z K R) {lit : Int32} (hl : lit = 0 ∨ lit = 1) {s : Nat} (hs : s ≤ 1000) {x0 y0 x1 y1 : Int32} {L : List (Int32 × Int32 × Int32)} : ∀ fu j (J : Nat → Nat → Int32) (ax ay : Int32), (1 ≤ j → ax = (mvE (nI s) x0 y0 x1 y1 lit (j - 1)).1 ∧ ay = (mvE (nI s) x0 y0 x1 y1 lit (j - 1)).2.1) → PX z (L ++ (List.range j).map (mvE (nI s) x0 y0 x1 y1 lit)) ax ay J → j ≤ s → s < fu + j → ∃ A bx b_y, b_X3_moveTo_45 fu (some (z + 12)) x1 y1 lit x0 y0 (nI s) (nI (j + 1)) (K, J, R, w) = some (K, A, R, w) ∧ PX z (L ++ (List.range s).map (mvE (nI s) x0 y0 x1 y1 lit)) bx b_y A ∧ FX z J A ∧ (1 ≤ s → bx = (mvE (nI s) x0 y0 x1 y1 lit (s - 1)).1 ∧ b_y = (mvE (nI s) x0 y0 x1 y1 lit (s - 1)).2.1) ∧ (s = j → bx = ax ∧ b_y = ay) := by
  have k12 : (K (z + 12)).1 = 3 + 1 := by rw [kz12 hS]
  intro fu
  induction fu with
  | zero => intro j J ax ay _ _ a b; omega
  | succ fu ih =>
    intro j J ax ay hat hP a b
    rw [b_X3_moveTo_45]
    by_cases c : j = s
    · subst c
      rw [if_pos (nI_lt (by omega) (by omega))]
      exact ⟨J, ax, ay, rfl, hP, FX.rf, hat, fun _ => ⟨rfl, rfl⟩⟩
    · have hj : j < s := by omega
      rw [if_neg (nI_nlt (by omega) (by omega)), gI_t k12, Option.bind_some]
      by_cases c2 : (L ++ (List.range j).map (mvE (nI s) x0 y0 x1 y1 lit)).length ≤ 2000
      · obtain ⟨p1, p2, p3, p4, p5⟩ := hP.1 c2
        have s0 : ¬ nI s = 0 := nI_ne0 (by omega) (by omega)
        rw [p2, if_pos rfl]
        obtain ⟨B, hB⟩ : ∃ B, B = up2 (up2 J (z + 12) 5 (mvE (nI s) x0 y0 x1 y1 lit j).1) (z + 12) 6 (mvE (nI s) x0 y0 x1 y1 lit j).2.1 := ⟨_, rfl⟩
        have PB : PX z (L ++ (List.range j).map (mvE (nI s) x0 y0 x1 y1 lit)) (mvE (nI s) x0 y0 x1 y1 lit j).1 (mvE (nI s) x0 y0 x1 y1 lit j).2.1 B := by
          refine ⟨fun _ => ?_, fun q => by omega⟩
          rw [hB]
          simp (disch := omega) only [un_1, un_2, un_3, un_4, es, up2_self]
          exact ⟨p1, p2, trivial, trivial, p5⟩
        obtain ⟨A1, r1, r2, r3⟩ := stay_X (w := w) hS hl (n := 1) (by decide) PB
        have hst : stL 1 (mvE (nI s) x0 y0 x1 y1 lit j).1 (mvE (nI s) x0 y0 x1 y1 lit j).2.1 lit = [mvE (nI s) x0 y0 x1 y1 lit j] := rfl
        rw [hst, List.append_assoc] at r2
        have hr : (List.range j).map (mvE (nI s) x0 y0 x1 y1 lit) ++ [mvE (nI s) x0 y0 x1 y1 lit j] = (List.range (j + 1)).map (mvE (nI s) x0 y0 x1 y1 lit) := by
          rw [List.range_succ, List.map_append]; rfl
        rw [hr] at r2
        obtain ⟨A, bx, b_y, q1, q2, q3, q4, q5⟩ := ih (j + 1) A1 _ _ (fun _ => ⟨rfl, rfl⟩) r2 (by omega) (by omega)
        refine ⟨A, bx, b_y, ?_, q2, FX.tr (FX.tr (fun o q x1 x2 x3 x4 => by rw [hB]; simp (disch := omega) only [un_1, un_2, un_3, un_4, es, up2_self]) r3) q3, q4, fun q => by omega⟩
        have d1 : dv ((x1 - x0) * nI (j + 1)) (nI s) = some ((x1 - x0) * nI (j + 1) / nI s) := if_neg s0
        have d2 : dv ((y1 - y0) * nI (j + 1)) (nI s) = some ((y1 - y0) * nI (j + 1) / nI s) := if_neg s0
        simp only [d1, d2, Option.bind_some, pI_t k12, cK_t k12, lt1, nI_1]
        rw [show nI 1 = 1 from rfl, hB] at r1
        simp only [mvE] at r1
        rw [r1, Option.bind_some]
        exact q1
      · rw [hP.2 (by omega), if_neg i10]
        refine ⟨J, (mvE (nI s) x0 y0 x1 y1 lit (s - 1)).1, (mvE (nI s) x0 y0 x1 y1 lit (s - 1)).2.1, rfl, ⟨fun q => ?_, fun _ => hP.2 (by omega)⟩, FX.rf, fun _ => ⟨rfl, rfl⟩, fun q => by omega⟩
        simp at q c2
        omega
theorem FU_1 : FU = 4999 + 1 := by decide
theorem move_X0 (hS : Shp z K R) (o4 : J (z + 12) 4 = 1) {fu : Nat} {x1 x2 x4 x5 x6 x8 x9 : Int32} : b_X3_moveTo_45 (fu + 1) (some (z + 12)) x1 x2 x4 x5 x6 x8 x9 (K, J, R, w) = some (K, J, R, w) := by
  have k12 : (K (z + 12)).1 = 3 + 1 := by rw [kz12 hS]
  rw [b_X3_moveTo_45, gI_t k12, Option.bind_some, o4, if_neg i10]
  split <;> rfl
theorem move_X2 (hS : Shp z K R) {p c d lit : Int32} (p0 : ¬ p = 0) (p1 : (1 : Int32) ≤ p) (o4 : J (z + 12) 4 = 1) : f_X3_moveTo (some (z + 12)) c d p lit (K, J, R, w) = some (K, J, R, w) := by
  have k12 : (K (z + 12)).1 = 3 + 1 := by rw [kz12 hS]
  unfold f_X3_moveTo
  rw [gI_t k12, Option.bind_some, gI_t k12, Option.bind_some, way_X, Option.bind_some, if_pos p1]
  unfold dv
  rw [if_neg p0, Option.bind_some]
  unfold b_X3_moveTo_40
  rw [FU_1]
  exact move_X0 hS o4
theorem move_X (hS : Shp z K R) {lit : Int32} (hl : lit = 0 ∨ lit = 1) {p a b c d : Nat} (hp : 1 ≤ p) (hp2 : p ≤ 1000) (ha : a ≤ 1000) (hb : b ≤ 1000) (hc : c ≤ 1000) (hd : d ≤ 1000) {L : List (Int32 × Int32 × Int32)} (hP : PX z L (nI a) (nI b) J) : ∃ A, f_X3_moveTo (some (z + 12)) (nI c) (nI d) (nI p) lit (K, J, R, w) = some (K, A, R, w) ∧ PX z (L ++ mvL (nI p) (nI a) (nI b) (nI c) (nI d) lit) (nI c) (nI d) A ∧ FX z J A := by
  have k12 : (K (z + 12)).1 = 3 + 1 := by rw [kz12 hS]
  have p0 : ¬ nI p = 0 := nI_ne0 (by omega) (by omega)
  have p1 : (1 : Int32) ≤ nI p := nI_le (a := 1) hp (by omega)
  by_cases c2 : L.length ≤ 2000
  · obtain ⟨v, v1, v2, v3⟩ := way_n ha hb hc hd
    have e123 := steps_n hp hp2 v1
    obtain ⟨q1, q2, q3, q4, q5⟩ := hP.1 c2
    have hL : mvL (nI p) (nI a) (nI b) (nI c) (nI d) lit = _ := mvL_E hp hp2 v1 v2
    obtain ⟨s, hs⟩ : ∃ s, s = (v + p - 1) / p := ⟨_, rfl⟩
    rw [← hs] at e123 hL
    obtain ⟨e1, e2, e3⟩ := e123
    obtain ⟨A, bx, b_y, r1, r2, r3, r4, r5⟩ := move_X1 (w := w) (L := L) (lit := lit) (x0 := nI a) (y0 := nI b) (x1 := nI c) (y1 := nI d) hS hl (show s ≤ 1000 by omega) FU 0 J (nI a) (nI b) (fun q => by omega) (by simpa using hP) (by omega) (by unfold FU; omega)
    refine ⟨A, ?_, ?_, r3⟩
    · have d1 : dv (nI v + nI p - 1) (nI p) = some (stepsI (nI p) (nI v)) := if_neg p0
      simp only [f_X3_moveTo, gI_t k12, q3, q4, Option.bind_some, way_X, v2, if_pos p1, d1, e1, b_X3_moveTo_40]
      rw [show nI (0 + 1) = 1 from rfl] at r1
      exact r1
    · rw [hL]
      have : bx = nI c ∧ b_y = nI d := by
        by_cases s0 : s = 0
        · obtain ⟨x1, x2⟩ := v3 (e3 s0)
          obtain ⟨y1, y2⟩ := r5 s0
          rw [y1, y2, x1, x2]; exact ⟨rfl, rfl⟩
        · obtain ⟨y1, y2⟩ := r4 (by omega)
          rw [y1, y2]
          simp only [mvE]
          rw [show s - 1 + 1 = s by omega]
          exact ⟨mv_end ha hc (by omega) (by omega), mv_end hb hd (by omega) (by omega)⟩
      rw [this.1, this.2] at r2
      exact r2
  · have o4 := hP.2 (by omega)
    exact ⟨J, move_X2 hS p0 p1 o4, ⟨fun q => by rw [List.length_append] at q; omega, fun _ => o4⟩, FX.rf⟩
end P1
