section M7
variable {z h k n m t q sg wn : Nat} {K : Nat → Nat × Nat} {I J A : Nat → Nat → Int32} {R : Nat → Nat → Option Nat} {w : Nat}
/-- what the reference counts -/
def cP (z dl b : Nat) (J : Nat → Nat → Int32) (j : Nat) : Bool := if b = 0 then decide (J (z + 97) j ≠ 0) else if b = 1 then (comesF dl (J (z + 97)) j && decide (J (z + 100) j = 0)) else if b = 2 then decide (J (z + 100) j ≠ 0) else false
def cM (z b : Nat) (J : Nat → Nat → Int32) (i : Nat) : Int32 := if b = 3 then maxF (lgM z J) i else 0
theorem nIq {b c : Nat} (hb : b < 100) (hc : c < 100) : (nI b = nI c) = (b = c) := propext (nI_eq (by omega) (by omega))
theorem all_99 (hS : Shp z K R) {b i : Nat} (hb : b ≤ 5) (hi : i < 2000) (s0 s1 : Int32) (rc : Option Nat → Int32 → Int32 → Int32 → Int32 → St → Option (Int32 × St)) : b_X12_all_99 rc (some (z + 82)) (nI b) (cM z b J i) (nI i) s0 s1 (K, J, R, w) = rc (some (z + 82)) (nI b) (s0 + s1) (cM z b J (i + 1)) (nI (i + 1)) (K, J, R, w) := by
  unfold b_X12_all_99 lt1
  try dsimp only
  by_cases c : b = 3
  · subst c
    rw [if_pos (show nI 3 = (3 : Int32) from rfl), cK_t (k82 hS), lag_M hS hi, Option.bind_some]
    by_cases c2 : lgM z J i ≤ cM z 3 J i
    · rw [if_pos c2]
      unfold b_X12_all_125 b_X12_all_126 lt1
      try dsimp only
      have : cM z 3 J (i + 1) = cM z 3 J i := by
        unfold cM at c2 ⊢
        rw [if_pos rfl] at c2
        rw [if_pos rfl, if_pos rfl, maxF]
        unfold mx
        rw [if_neg (Int32.not_lt.mpr c2)]
      rw [this, nI_1]
    · rw [if_neg c2, cK_t (k82 hS), lag_M hS hi, Option.bind_some]
      unfold b_X12_all_126 lt1
      try dsimp only
      have : cM z 3 J (i + 1) = lgM z J i := by
        unfold cM at c2 ⊢
        rw [if_pos rfl] at c2
        rw [if_pos rfl, maxF]
        unfold mx
        rw [if_pos (Int32.not_le.mp c2)]
      rw [this, nI_1]
  · rw [if_neg (show ¬ nI b = (3 : Int32) by rw [show (nI b = (3 : Int32)) = (b = 3) from nIq (c := 3) (by omega) (by decide)]; exact c)]
    unfold b_X12_all_125 b_X12_all_126 lt1
    try dsimp only
    have : ∀ i, cM z b J i = 0 := fun i => if_neg c
    rw [this, this, nI_1]
theorem all_M1 (hS : Shp z K R) {b T dl : Nat} (hb : b ≤ 5) (hd : dl ≤ 5) (e4 : J (z + 92) 4 = nI dl) (hT : T ≤ 2000) (e15 : J (z + 82) 15 = nI T) : ∀ fu i, i ≤ T → T < fu + i → b_X12_all_41 fu (some (z + 82)) (nI b) (nI (cntB (cP z dl b J) i)) (cM z b J i) (nI i) (K, J, R, w) = b_X12_all_133 (some (z + 82)) (nI b) (nI (cntB (cP z dl b J) T)) (cM z b J T) (K, J, R, w) := by
  intro fu
  induction fu with
  | zero => intro i a b; omega
  | succ fu ih =>
    intro i a c0
    rw [b_X12_all_41, gI_t (k82 hS), Option.bind_some, e15]
    by_cases c : i = T
    · subst c
      rw [if_pos (nI_le (Nat.le_refl _) (by omega))]
    · have hi : i < T := by omega
      have hi2 : i < 2000 := by omega
      rw [if_neg (nI_ge hi (by omega))]
      have fin : b_X12_all_99 (b_X12_all_41 fu) (some (z + 82)) (nI b) (cM z b J i) (nI i) (nI (cntB (cP z dl b J) i)) (bI (cP z dl b J i)) (K, J, R, w) = b_X12_all_133 (some (z + 82)) (nI b) (nI (cntB (cP z dl b J) T)) (cM z b J T) (K, J, R, w) := by
        rw [all_99 hS hb hi2, nI_bI]
        exact ih (i + 1) (by omega) (by omega)
      have q0 : (nI b = (0 : Int32)) = (b = 0) := nIq (c := 0) (by omega) (by decide)
      have q1 : (nI b = (1 : Int32)) = (b = 1) := nIq (c := 1) (by omega) (by decide)
      have q2 : (nI b = (2 : Int32)) = (b = 2) := nIq (c := 2) (by omega) (by decide)
      simp only [b_X12_all_65, b_X12_all_79, b_X12_all_94, b_X12_all_98, q0, q1, q2, gR_t (k82 hS), Option.bind_some, rz82_19 hS, rz82_22 hS, aI_t (kz97 hS) hi2 (by decide), aI_t (kz100 hS) hi2 (by decide), cK_t (k82 hS), lit_M hS hi2 hd e4]
      rw [← fin]
      unfold cP
      by_cases d0 : b = 0
      · subst d0
        simp only [show ¬ (0 : Nat) = 1 by decide, show ¬ (0 : Nat) = 2 by decide, if_true, if_false]
        by_cases e : J (z + 97) i = 0
        · rw [if_pos e]; simp [e, bI]
        · rw [if_neg e]; simp [e, bI]
      · by_cases d1 : b = 1
        · subst d1
          simp only [show ¬ (1 : Nat) = 0 by decide, show ¬ (1 : Nat) = 2 by decide, if_true, if_false]
          cases (comesF dl (J (z + 97)) i && decide (J (z + 100) i = 0))
          · simp only [bI_f, if_true]
          · simp only [bI_t, i10, if_false]
        · by_cases d2 : b = 2
          · subst d2
            simp only [show ¬ (2 : Nat) = 0 by decide, show ¬ (2 : Nat) = 1 by decide, if_true, if_false]
            by_cases e : J (z + 100) i = 0
            · rw [if_pos e]; simp [e, bI]
            · rw [if_neg e]; simp [e, bI]
          · simp only [d0, d1, d2, if_false, bI_f]
theorem all_M2 (hS : Shp z K R) {b : Nat} (hb : b ≤ 5) (h4 : 4 ≤ b) {g : Nat → Nat} (hg : ∀ q, g q ≤ 2000) (e101 : ∀ q, q < 121 → J (z + 101) q = nI (g q)) (x : Int32) : ∀ fu k, k ≤ 121 → 121 < fu + k → b_X12_all_136 fu (some (z + 82)) (nI b) x (nI (maxN g k)) (nI k) (K, J, R, w) = b_X12_all_177 (some (z + 82)) (nI b) x (nI (maxN g 121)) (K, J, R, w) := by
  intro fu
  induction fu with
  | zero => intro k a b; omega
  | succ fu ih =>
    intro k a c0
    rw [b_X12_all_136]
    by_cases c : k = 121
    · subst c
      rw [if_pos (show (121 : Int32) ≤ nI 121 by decide)]
    · have hk : k < 121 := by omega
      have ml := maxN_le hg k
      have gk := hg k
      rw [if_neg (show ¬ (121 : Int32) ≤ _ from nI_ge (b := 121) hk (by decide)), if_neg (show ¬ nI b ≤ (3 : Int32) from nI_ge (a := 3) (by omega) (by omega)), gR_t (k82 hS), Option.bind_some, rz82_23 hS, aI_t (kz101 hS) hk (by decide), Option.bind_some, e101 k hk]
      have := ih (k + 1) (by omega) (by omega)
      rw [maxN] at this
      by_cases c2 : g k ≤ maxN g k
      · rw [if_pos (nI_le c2 (by omega))]
        unfold b_X12_all_170 lt1
        try dsimp only
        rw [Nat.max_eq_left c2] at this
        rw [nI_1]
        exact this
      · rw [if_neg (nI_ge (by omega) (by omega))]
        unfold b_X12_all_170 lt1
        try dsimp only
        rw [Nat.max_eq_right (by omega)] at this
        simp only [Option.bind_some, aI_t (kz101 hS) hk (by decide), e101 k hk, nI_1]
        exact this
theorem maxF_c {f g : Nat → Int32} : ∀ n, (∀ j, j < n → f j = g j) → maxF f n = maxF g n := by
  intro n
  induction n with
  | zero => intro _; rfl
  | succ n ih => intro e; rw [maxF, maxF, ih fun j hj => e j (by omega), e n (by omega)]
theorem all_M (hS : Shp z K R) {b T dl : Nat} {c : Bool} (hb : b ≤ 5) (hd : dl ≤ 5) (e4 : J (z + 92) 4 = nI dl) (hT : T ≤ 2000) (e15 : J (z + 82) 15 = nI T) (e16 : J (z + 82) 16 = bI (!c)) {g : Nat → Nat} (hg : ∀ q, g q ≤ 2000) (e101 : ∀ q, q < 121 → J (z + 101) q = nI (g q)) (r2 : f_X12_make (some (z + 82)) (K, up2 A (z + 82) 0 0, R, w) = some (K, J, R, w)) : f_X12_all (some (z + 82)) (nI b) (K, A, R, w) = some (if c = true then (if b < 3 then nI (cntB (cP z dl b J) T) else if b = 3 then maxF (lgM z J) T else if b = 4 then nI (maxN g 121) else bI (decide (nI (maxN g 121) ≤ J (z + 92) 5))) else -1000003, K, J, R, w) := by
  have cb : 0 ≤ nI b ∧ nI b ≤ 5 := ⟨nI_pos' (by omega), nI_le (b := 5) hb (by decide)⟩
  unfold f_X12_all
  rw [pI_t (k82 hS), Option.bind_some, in_05, Option.bind_some, wi1 cb, if_neg i10, cK_t (k82 hS), r2, Option.bind_some, gI_t (k82 hS), Option.bind_some, e16]
  cases c with
  | false => rw [if_neg (show ¬ bI (!false) = 0 by decide)]; rfl
  | true =>
    rw [if_pos (show bI (!true) = 0 by decide)]
    have a1 := all_M1 (w := w) hS hb hd e4 hT e15 FU 0 (by omega) (by unfold FU; omega)
    rw [show nI (cntB (cP z dl b J) 0) = 0 from rfl, show cM z b J 0 = 0 by unfold cM; split <;> rfl, show nI 0 = 0 from rfl] at a1
    rw [a1]
    unfold b_X12_all_133
    rw [if_pos rfl]
    by_cases d3 : b < 4
    · have s1 : b_X12_all_136 FU (some (z + 82)) (nI b) (nI (cntB (cP z dl b J) T)) (cM z b J T) 0 (K, J, R, w) = b_X12_all_177 (some (z + 82)) (nI b) (nI (cntB (cP z dl b J) T)) (cM z b J T) (K, J, R, w) := by
        rw [FU_1, b_X12_all_136, if_neg (show ¬ (121 : Int32) ≤ 0 by decide), if_pos (show _ ≤ (3 : Int32) from nI_le (b := 3) (by omega) (by decide))]
      rw [s1]
      unfold b_X12_all_177
      by_cases d : b < 3
      · rw [if_neg (show ¬ (3 : Int32) ≤ _ from nI_ge (b := 3) d (by decide)), if_pos d]
      · rw [if_pos (show (3 : Int32) ≤ _ from nI_le (a := 3) (by omega) (by omega)), if_neg (show ¬ (5 : Int32) ≤ _ from nI_ge (b := 5) (by omega) (by decide)), if_neg d, if_pos (show b = 3 by omega)]
        unfold cM
        rw [if_pos (show b = 3 by omega)]
    · have c0 : cM z b J T = nI (maxN g 0) := by unfold cM; rw [if_neg (by omega)]; rfl
      have s1 := all_M2 (w := w) hS hb (by omega) hg e101 (nI (cntB (cP z dl b J) T)) FU 0 (by omega) (by unfold FU; omega)
      rw [show nI 0 = 0 from rfl] at s1
      rw [c0, s1]
      unfold b_X12_all_177
      rw [if_pos (show (3 : Int32) ≤ _ from nI_le (a := 3) (by omega) (by omega)), if_neg (show ¬ b < 3 by omega), if_neg (show ¬ b = 3 by omega)]
      by_cases d4 : b = 4
      · rw [if_neg (show ¬ (5 : Int32) ≤ _ from nI_ge (b := 5) (by omega) (by decide)), if_pos d4]
      · have a5 : aI (K, J, R, w) (some (z + 92)) 14 5 = some (J (z + 92) 5) := aI_t (j := 5) (kz92 hS) (by decide) (by decide)
        rw [if_pos (show (5 : Int32) ≤ _ from nI_le (a := 5) (by omega) (by omega)), if_neg d4, gR_t (k82 hS), Option.bind_some, rz82_12 hS, a5, Option.bind_some]
        by_cases e : nI (maxN g 121) ≤ J (z + 92) 5
        · rw [if_pos e]; simp [e, bI]
        · rw [if_neg e]; simp [e, bI]
theorem all_X (hS : Shp z K R) {b : Nat} {c : Bool} (hb : b ≤ 5) (r1 : f_X6_reaches (some (z + 10)) 3 (some (z + 2)) (K, I, R, w) = some (bI c, K, A, R, w)) : f_X11_all (some z) (nI b) (K, I, R, w) = some (if c = true then (if b = 0 then A (z + 10) 5 else if b = 1 then A (z + 10) 6 else if b = 2 then A (z + 10) 7 else if b = 3 then A (z + 10) 8 else if b = 4 then A (z + 10) 9 else bI (decide (A (z + 10) 9 ≤ A (z + 11) 5))) else -1000003, K, A, R, w) := by
  have k0 : (K z).1 = 10 + 1 := by rw [kz0 hS]
  have k10 : (K (z + 10)).1 = 6 + 1 := by rw [kz10 hS]
  have cb : 0 ≤ nI b ∧ nI b ≤ 5 := ⟨nI_pos' (by omega), nI_le (b := 5) hb (by decide)⟩
  unfold f_X11_all
  rw [isW, Option.bind_some, wi1 cb, if_neg i10, gR_t k0, Option.bind_some, gR_t k0, Option.bind_some, rz0_3 hS, rz0_1 hS, cK_t k10, r1, Option.bind_some]
  cases c with
  | false => simp only [bI_f, if_true]; rfl
  | true =>
    have q0 : (nI b = (0 : Int32)) = (b = 0) := nIq (c := 0) (by omega) (by decide)
    have q1 : (nI b = (1 : Int32)) = (b = 1) := nIq (c := 1) (by omega) (by decide)
    have q2 : (nI b = (2 : Int32)) = (b = 2) := nIq (c := 2) (by omega) (by decide)
    have q3 : (nI b = (3 : Int32)) = (b = 3) := nIq (c := 3) (by omega) (by decide)
    have q4 : (nI b = (4 : Int32)) = (b = 4) := nIq (c := 4) (by omega) (by decide)
    have a5 : aI (K, A, R, w) (some (z + 11)) 14 5 = some (A (z + 11) 5) := aI_t (j := 5) (kz11 hS) (by decide) (by decide)
    have fi : (if A (z + 11) 5 < A (z + 10) 9 then some ((0 : Int32), K, A, R, w) else some ((1 : Int32), K, A, R, w)) = some (bI (decide (A (z + 10) 9 ≤ A (z + 11) 5)), K, A, R, w) := by
      by_cases e : A (z + 11) 5 < A (z + 10) 9
      · rw [if_pos e]; simp [Int32.not_le.mpr e, bI]
      · rw [if_neg e]; simp [Int32.not_lt.mp e, bI]
    simp only [bI_t, i10, if_false, if_true, gR_t k0, gR_t k10, rz0_3 hS, rz10_0 hS, Option.bind_some, gI_t k10, a5, q0, q1, q2, q3, q4, fi]
    repeat' split
    all_goals rfl
theorem agr_all (v1 : Int32) : Agr (Rel z) z (f_X11_all (some z) v1) (f_X12_all (some (z + 82)) v1) := by
  rintro ⟨K, I, R, w⟩ hR
  obtain ⟨h, h1, h2, h3, h4, _⟩ := hR.opn
  by_cases c2 : 0 ≤ v1 ∧ v1 ≤ 5
  · obtain ⟨b, hb, rfl⟩ := ix_le (n := 5) (by decide) c2
    obtain ⟨h, A, D, T, dl, c, hS, hT, hd, r1, r2, RD, hz, hru, fD, tm, e4, e15, e16, hc⟩ := both (wn := 3) hR (by decide)
    rw [show nI 3 = 3 from rfl] at r1
    obtain ⟨g, hgd⟩ : ∃ g : Nat → Nat, g = fun q => cntB (fun j => ML z dl D j && cellF (MX z D j) (MY z D j) (q % 11) (q / 11)) T := ⟨_, rfl⟩
    have hg : ∀ q, g q ≤ 2000 := fun q => by rw [hgd]; exact Nat.le_trans (cntB_le _ T) hT
    have e101 : ∀ q, q < 121 → D (z + 101) q = nI (g q) := fun q hq => by
      have := tm.2.2 (q % 11) (q / 11) (by omega) (by omega)
      rw [show 11 * (q / 11) + q % 11 = q by omega] at this
      rw [this, hgd]
    refine ⟨_, (K, A, R, w), (K, D, R, w), all_X hS hb r1, k82 hS, ?_, RD⟩
    rw [all_M hS hb hd e4 hT e15 e16 hg e101 r2]
    cases c with
    | false => rw [if_neg Bool.false_ne_true, if_neg Bool.false_ne_true]
    | true =>
      obtain ⟨y1, y2, y3, y4, y5⟩ := hc rfl
      have y4 := y4 (by decide)
      obtain ⟨s0, s1, s2, s3, s4, s5⟩ := y5 (by decide)
      rw [← y2] at s0 s1 s2 s3 s4 s5
      have bt := fun j (hj : j < T) => bth fD tm e4 hd y3 y4 hj
      have e9 : maxN (fun q => burnF z A (q % 11) (q / 11) T) 121 = maxN g 121 := maxN_c 121 fun q hq => by
        rw [hgd]
        show burnF z A (q % 11) (q / 11) T = cntB (fun j => ML z dl D j && cellF (MX z D j) (MY z D j) (q % 11) (q / 11)) T
        unfold burnF
        refine cntB_c T fun j hj => ?_
        rw [(bt j hj).2.2.1, (y4 j hj).1, (y4 j hj).2, (tm.2.1 j hj).1, (tm.2.1 j hj).2.1]
      rw [e9] at s5
      rw [if_pos rfl, if_pos rfl]
      rcases (show b = 0 ∨ b = 1 ∨ b = 2 ∨ b = 3 ∨ b = 4 ∨ b = 5 by omega) with rfl | rfl | rfl | rfl | rfl | rfl
      · rw [if_pos (by decide), if_pos rfl, s0, cntB_c T fun j hj => show cP z dl 0 D j = decide (A (z + 15) j ≠ 0) by
          unfold cP; rw [if_pos rfl, (y3 j hj).2.2]]
      · rw [if_pos (by decide), if_neg (by decide), if_pos rfl, s1, cntB_c T fun j hj => show cP z dl 1 D j = seenF z A j by
          unfold cP; rw [if_neg (by decide), if_pos rfl, (bt j hj).2.2.1, (bt j hj).2.2.2.1]
          unfold ML
          cases MS z D j <;> simp [bI]]
      · rw [if_pos (by decide), if_neg (by decide), if_neg (by decide), if_pos rfl, s2, cntB_c T fun j hj => show cP z dl 2 D j = shutF (A (z + 93)) (A (z + 94)) (A (z + 16) j) (A (z + 17) j) 4 by
          unfold cP; rw [if_neg (by decide), if_neg (by decide), if_pos rfl, (bt j hj).1, (bt j hj).2.2.2.1, bI_ne]]
      · rw [if_neg (by decide), if_pos rfl, if_neg (by decide), if_neg (by decide), if_neg (by decide), if_pos rfl, s3, maxF_c T fun j hj => show lgM z D j = lagF z A j from (bt j hj).2.2.2.2.symm]
      · rw [if_neg (by decide), if_neg (by decide), if_pos rfl, if_neg (by decide), if_neg (by decide), if_neg (by decide), if_neg (by decide), if_pos rfl, s5]
      · rw [if_neg (by decide), if_neg (by decide), if_neg (by decide), if_neg (by decide), if_neg (by decide), if_neg (by decide), if_neg (by decide), if_neg (by decide), s5, hru.1 5 (by decide), fD 92 5 (by omega) (by omega)]
  · refine ⟨-1000001, (K, I, R, w), (K, up2 I (z + 82) 0 0, R, w), ?_, k82 h4, ?_, hR.thr 0⟩
    · unfold f_X11_all
      rw [isW, Option.bind_some, wi0 c2, if_pos rfl]
    · unfold f_X12_all
      rw [pI_t (k82 h4), Option.bind_some, in_05, Option.bind_some, wi0 c2, if_pos rfl]
end M7
