section P2
variable {z h k n m t : Nat} {K : Nat → Nat × Nat} {I J : Nat → Nat → Int32} {R : Nat → Nat → Option Nat} {w : Nat}
-- the reference's ticks hold a list
def PM (z : Nat) (L : List (Int32 × Int32 × Int32)) (x y : Int32) (J : Nat → Nat → Int32) : Prop := (L.length ≤ 2000 → J (z + 82) 15 = nI L.length ∧ J (z + 82) 16 = 0 ∧ ∀ i, i < L.length → L[i]? = some (J (z + 95) i, J (z + 96) i, J (z + 97) i)) ∧ (2000 < L.length → J (z + 82) 15 = nI 2000 ∧ J (z + 82) 16 = 1) ∧ J (z + 82) 24 = x ∧ J (z + 82) 25 = y
def FM (z : Nat) (J A : Nat → Nat → Int32) : Prop := ∀ o q, ¬ (o = 82 ∧ (q = 15 ∨ q = 16 ∨ q = 24 ∨ q = 25)) → o ≠ 95 → o ≠ 96 → o ≠ 97 → A (z + o) q = J (z + o) q
theorem FM.rf : FM z J J := fun _ _ _ _ _ _ => rfl
theorem FM.tr {A B : Nat → Nat → Int32} (h1 : FM z J A) (h2 : FM z A B) : FM z J B := fun o q a b c d => (h2 o q a b c d).trans (h1 o q a b c d)
theorem tell_M (hS : Shp z K R) {lit u v x y : Int32} (hl : lit = 0 ∨ lit = 1) {L : List (Int32 × Int32 × Int32)} (hP : PM z L x y J) : ∃ A, f_X12_tell (some (z + 82)) u v lit (K, J, R, w) = some (K, A, R, w) ∧ PM z (L ++ [(u, v, lit)]) x y A ∧ FM z J A := by
  obtain ⟨hA, hB, hx, hy⟩ := hP
  unfold f_X12_tell
  rw [gI_t (k82 hS), Option.bind_some]
  by_cases c : L.length < 2000
  · obtain ⟨p1, p2, p3⟩ := hA (by omega)
    have ne : ¬ nI L.length = 2000 := fun q => by have := (nI_eq (b := 2000) (by omega) (by decide)).mp q; omega
    obtain ⟨B, hB⟩ : ∃ B, B = up2 (up2 (up2 (up2 J (z + 95) L.length u) (z + 96) L.length v) (z + 97) L.length lit) (z + 82) 15 (nI (L.length + 1)) := ⟨_, rfl⟩
    have e1 : up2 J (z + 95) L.length u (z + 82) 15 = nI L.length := by simp (disch := omega) only [un_1, un_2, un_3, un_4, es, up2_self]; exact p1
    have e2 : up2 (up2 J (z + 95) L.length u) (z + 96) L.length v (z + 82) 15 = nI L.length := by simp (disch := omega) only [un_1, un_2, un_3, un_4, es, up2_self]; exact p1
    have e3 : up2 (up2 (up2 J (z + 95) L.length u) (z + 96) L.length v) (z + 97) L.length lit (z + 82) 15 = nI L.length := by simp (disch := omega) only [un_1, un_2, un_3, un_4, es, up2_self]; exact p1
    refine ⟨B, ?_, ⟨fun _ => ?_, fun q => ?_, ?_, ?_⟩, fun o q x1 x2 x3 x4 => by rw [hB]; simp (disch := omega) only [un_1, un_2, un_3, un_4, es, up2_self]⟩
    · rw [p1, if_neg ne]
      simp only [gR_t (k82 hS), gI_t (k82 hS), Option.bind_some, rz82_17 hS, rz82_18 hS, rz82_19 hS, p1, sI_t (kz95 hS) c (by decide), nar14, e1, sI_t (kz96 hS) c (by decide), e2, sI_t (kz97 hS) c (by decide), nar_b hl, e3, pI_t (k82 hS), nI_1, ← hB]
    · rw [hB, List.length_append]
      simp (disch := omega) only [un_1, un_2, un_3, un_4, es, up2_self]
      refine ⟨rfl, p2, fun i hi => ?_⟩
      simp at hi
      by_cases ei : i = L.length
      · subst ei
        simp (disch := omega) only [un_1, un_2, un_3, un_4, es, up2_self]
        simp
      · rw [List.getElem?_append_left (by omega)]
        simp (disch := omega) only [un_1, un_2, un_3, un_4, es, up2_self]
        exact p3 i (by omega)
    · rw [List.length_append] at q; simp at q; omega
    · rw [hB]; simp (disch := omega) only [un_1, un_2, un_3, un_4, es, up2_self]; exact hx
    · rw [hB]; simp (disch := omega) only [un_1, un_2, un_3, un_4, es, up2_self]; exact hy
  · have p1 : J (z + 82) 15 = nI 2000 := by
      by_cases c2 : L.length = 2000
      · rw [(hA (by omega)).1, c2]
      · exact (hB (by omega)).1
    refine ⟨up2 J (z + 82) 16 1, ?_, ⟨fun q => ?_, fun _ => ⟨by simp (disch := omega) only [un_1, un_2, un_3, un_4, es, up2_self]; exact p1, es⟩, by simp (disch := omega) only [un_1, un_2, un_3, un_4, es, up2_self]; exact hx, by simp (disch := omega) only [un_1, un_2, un_3, un_4, es, up2_self]; exact hy⟩, fun o q x1 x2 x3 x4 => by simp (disch := omega) only [un_1, un_2, un_3, un_4, es, up2_self]⟩
    · rw [p1, if_pos (show nI 2000 = 2000 from rfl), pI_t (k82 hS), Option.bind_some]
    · rw [List.length_append] at q; simp at q; omega
theorem stay_M1 (hS : Shp z K R) {lit x y : Int32} (hl : lit = 0 ∨ lit = 1) {n : Nat} (hn : n ≤ 5) : ∀ fu k L (J : Nat → Nat → Int32), PM z L x y J → k ≤ n → n < fu + k → ∃ A, b_X12_stay_2 fu (some (z + 82)) (nI n) lit (nI k) (K, J, R, w) = some (K, A, R, w) ∧ PM z (L ++ stL (n - k) x y lit) x y A ∧ FM z J A := by
  intro fu
  induction fu with
  | zero => intro k L J _ a b; omega
  | succ fu ih =>
    intro k L J hP a b
    rw [b_X12_stay_2]
    by_cases c : k = n
    · subst c
      rw [if_pos (nI_le (Nat.le_refl _) (by omega))]
      refine ⟨J, rfl, ?_, FM.rf⟩
      rw [Nat.sub_self]
      simpa [stL] using hP
    · have hk : k < n := by omega
      have hst : stL (n - k) x y lit = (x, y, lit) :: stL (n - (k + 1)) x y lit := by
        unfold stL
        rw [show n - k = n - (k + 1) + 1 by omega, List.replicate_succ]
      obtain ⟨A1, r1, r2, r3⟩ := tell_M (w := w) (u := x) (v := y) hS hl hP
      obtain ⟨A, q1, q2, q3⟩ := ih (k + 1) _ A1 r2 (by omega) (by omega)
      refine ⟨A, ?_, ?_, r3.tr q3⟩
      · rw [if_neg (nI_ge hk (by omega)), gI_t (k82 hS), Option.bind_some, gI_t (k82 hS), Option.bind_some, cK_t (k82 hS), hP.2.2.1, hP.2.2.2, r1, Option.bind_some]
        unfold lt1
        rw [nI_1]
        exact q1
      · rw [hst]
        simpa using q2
theorem stay_M (hS : Shp z K R) {lit x y : Int32} (hl : lit = 0 ∨ lit = 1) {n : Nat} (hn : n ≤ 5) {L : List (Int32 × Int32 × Int32)} (hP : PM z L x y J) : ∃ A, f_X12_stay (some (z + 82)) (nI n) lit (K, J, R, w) = some (K, A, R, w) ∧ PM z (L ++ stL n x y lit) x y A ∧ FM z J A := stay_M1 (w := w) hS hl hn FU 0 L J hP (by omega) (by unfold FU; omega)
theorem move_M1 (hS : Shp z K R) {lit : Int32} (hl : lit = 0 ∨ lit = 1) {s : Nat} (hs : s ≤ 1000) {x0 y0 x1 y1 : Int32} {L : List (Int32 × Int32 × Int32)} : ∀ fu j (J : Nat → Nat → Int32), PM z (L ++ (List.range j).map (mvE (nI s) x0 y0 x1 y1 lit)) x0 y0 J → j ≤ s → s < fu + j → ∃ A, b_X12_move_38 fu (some (z + 82)) x1 y1 lit (nI s) (nI (j + 1)) (K, J, R, w) = some (K, A, R, w) ∧ PM z (L ++ (List.range s).map (mvE (nI s) x0 y0 x1 y1 lit)) x1 y1 A ∧ FM z J A := by
  intro fu
  induction fu with
  | zero => intro j J _ a b; omega
  | succ fu ih =>
    intro j J hP a b
    rw [b_X12_move_38]
    by_cases c : j = s
    · subst c
      rw [if_pos (nI_lt (by omega) (by omega))]
      refine ⟨up2 (up2 J (z + 82) 24 x1) (z + 82) 25 y1, ?_, ⟨fun q => ?_, fun q => ?_, by simp (disch := omega) only [un_1, un_2, un_3, un_4, es, up2_self], es⟩, fun o q x1 x2 x3 x4 => by simp (disch := omega) only [un_1, un_2, un_3, un_4, es, up2_self]⟩
      · simp only [b_X12_move_90, pI_t (k82 hS), Option.bind_some]
      · simp (disch := omega) only [un_1, un_2, un_3, un_4, es, up2_self]; exact hP.1 q
      · simp (disch := omega) only [un_1, un_2, un_3, un_4, es, up2_self]; exact hP.2.1 q
    · have hj : j < s := by omega
      have s0 : ¬ nI s = 0 := nI_ne0 (by omega) (by omega)
      obtain ⟨A1, r1, r2, r3⟩ := tell_M (w := w) (u := (mvE (nI s) x0 y0 x1 y1 lit j).1) (v := (mvE (nI s) x0 y0 x1 y1 lit j).2.1) hS hl hP
      have hr : (List.range j).map (mvE (nI s) x0 y0 x1 y1 lit) ++ [((mvE (nI s) x0 y0 x1 y1 lit j).1, (mvE (nI s) x0 y0 x1 y1 lit j).2.1, lit)] = (List.range (j + 1)).map (mvE (nI s) x0 y0 x1 y1 lit) := by
        rw [List.range_succ, List.map_append]; rfl
      rw [List.append_assoc, hr] at r2
      obtain ⟨A, q1, q2, q3⟩ := ih (j + 1) A1 r2 (by omega) (by omega)
      refine ⟨A, ?_, q2, r3.tr q3⟩
      rw [if_neg (nI_nlt (by omega) (by omega))]
      have d1 : ∀ u, dv u (nI s) = some (u / nI s) := fun u => if_neg s0
      simp only [gI_t (k82 hS), Option.bind_some, hP.2.2.1, hP.2.2.2, d1, cK_t (k82 hS)]
      simp only [mvE] at r1
      rw [r1, Option.bind_some]
      unfold lt1
      rw [nI_1]
      exact q1
theorem move_M (hS : Shp z K R) {lit : Int32} (hl : lit = 0 ∨ lit = 1) {p a b c d : Nat} (hp : 1 ≤ p) (hp2 : p ≤ 1000) (ep : J (z + 92) 0 = nI p) (ha : a ≤ 1000) (hb : b ≤ 1000) (hc : c ≤ 1000) (hd : d ≤ 1000) {L : List (Int32 × Int32 × Int32)} (hP : PM z L (nI a) (nI b) J) : ∃ A, f_X12_move (some (z + 82)) (nI c) (nI d) lit (K, J, R, w) = some (K, A, R, w) ∧ PM z (L ++ mvL (nI p) (nI a) (nI b) (nI c) (nI d) lit) (nI c) (nI d) A ∧ FM z J A := by
  have p0 : ¬ nI p = 0 := nI_ne0 (by omega) (by omega)
  obtain ⟨v, v1, v2, v3⟩ := way_n ha hb hc hd
  have e123 := steps_n hp hp2 v1
  have hL : mvL (nI p) (nI a) (nI b) (nI c) (nI d) lit = _ := mvL_E hp hp2 v1 v2
  obtain ⟨s, hs⟩ : ∃ s, s = (v + p - 1) / p := ⟨_, rfl⟩
  rw [← hs] at e123 hL
  obtain ⟨e1, e2, e3⟩ := e123
  obtain ⟨A, r1, r2, r3⟩ := move_M1 (w := w) (L := L) (lit := lit) (x0 := nI a) (y0 := nI b) (x1 := nI c) (y1 := nI d) hS hl (show s ≤ 1000 by omega) FU 0 J (by simpa using hP) (by omega) (by unfold FU; omega)
  refine ⟨A, ?_, by rw [hL]; exact r2, r3⟩
  unfold f_X12_move
  have a0 : aI (K, J, R, w) (some (z + 92)) 14 0 = some (nI p) := (aI_t (j := 0) (kz92 hS) (by decide) (by decide)).trans (by rw [ep])
  have d1 : dv (nI v + nI p - 1) (nI p) = some (nI s) := by
    rw [← e1]; exact if_neg p0
  rw [gI_t (k82 hS), Option.bind_some, gI_t (k82 hS), Option.bind_some, hP.2.2.1, hP.2.2.2, way_M, Option.bind_some, v2]
  simp only [gR_t (k82 hS), Option.bind_some, rz82_12 hS, a0, d1]
  rw [show nI (0 + 1) = 1 from rfl] at r1
  exact r1
/-- the holds at a point, in both -/
theorem hold_eq (y5 y10 y15 y20 : Int32) (S : St) : (if 0 ≤ ((y5 * y15) + (y10 * y20)) then (if ((y5 * y20) - (y10 * y15)) = 0 then some ((0 : Int32), S) else some ((1 : Int32), S)) else some ((2 : Int32), S)) = some (nI (holdI y5 y10 y15 y20), S) := by
  unfold holdI
  by_cases c : 0 ≤ y5 * y15 + y10 * y20
  · rw [if_pos c, if_neg (Int32.not_lt.mpr c)]
    by_cases c2 : y5 * y20 - y10 * y15 = 0
    · rw [if_pos c2, if_pos c2]; rfl
    · rw [if_neg c2, if_neg c2]; rfl
  · rw [if_neg c, if_pos (Int32.not_le.mp c)]; rfl
theorem holdI_le (a b c d : Int32) : holdI a b c d ≤ 5 := by
  unfold holdI
  split
  · omega
  · split <;> omega
end P2
