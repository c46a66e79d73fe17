section C8
variable {z h k n m t q : Nat} {K : Nat → Nat × Nat} {I J M X : Nat → Nat → Int32} {R R' : Nat → Nat → Option Nat} {w : Nat} {b : Nat → Nat}
theorem st_2 (hS : Shp z K R) (hS' : Shp z K R') (ht : t ≤ 300) (hT : TX z t b J) (hM : TMt z t b M) (e9 : J (z + 36) 9 = 0) (e30 : M (z + 82) 30 = 0) (e34 : M (z + 82) 34 = 0) : ∃ A B, f_X0_nextToken (some (z + 36)) (K, J, R, w) = some (K, A, R, w) ∧ f_X12_step (some (z + 82)) (K, M, R', w) = some (K, B, R', w) ∧ TR z t 0 b A B ∧ FJ z J A ∧ FN z M B := by
  obtain ⟨A, a1, a2, a3, a4, a5⟩ := next_X (w := w) (a := 0) hS ht hT (by omega) e9
  obtain ⟨B, b1, b2, b3, b4, b5, b6⟩ := step_M (w := w) (a := 0) hS' ht hM (by omega) e30
  exact ⟨A, B, a1, b1, ⟨by omega, ht, ⟨by rw [a5 36 1 (by omega)]; exact hT.1, fun k hk => by rw [a5 37 k (by omega)]; exact hT.2 k hk⟩, ⟨by rw [b6 82 29 (by omega)]; exact hM.1, fun k hk => by rw [b6 102 k (by omega)]; exact hM.2 k hk⟩, a2, a3, a4, b2, b3, b4, b5, by rw [b6 82 34 (by omega)]; exact e34⟩, a5, b6⟩
theorem tape_2 (hS : Shp z K R) (hS' : Shp z K R') (hc : RCst R) {p : Nat} (hp : p = 38 ∨ p = 51) (r5 : R (z + 36) 5 = some (z + p)) : ∀ d n a (J M : Nat → Nat → Int32) fu fm, n + d = 12 → d + 2 ≤ fu → d + 2 ≤ fm → TR z t a b J M → J (z + 36) 6 = nI n → M (z + 82) 38 = nI n → RW z p n J M →
    (∃ n' A B, n' ≤ 12 ∧ b_X0_readTape_18 fu (some (z + 36)) 0 (nI n) (K, J, R, w) = b_X0_readTape_46 (some (z + 36)) 0 (K, A, R, w) ∧ b_X12_cues_37 fm (some (z + 82)) (K, M, R', w) = b_X12_cues_59 (some (z + 82)) (K, B, R', w) ∧ A (z + 36) 6 = nI n' ∧ B (z + 82) 38 = nI n' ∧ B (z + 82) 34 = 0 ∧ RW z p n' A B ∧ FA z p J A ∧ FB z M B)
    ∨ (∃ c ps A B, 1 ≤ c ∧ c ≤ 3 ∧ ps ≤ 300 ∧ b_X0_readTape_18 fu (some (z + 36)) 0 (nI n) (K, J, R, w) = b_X0_readTape_46 (some (z + 36)) (nI c) (K, A, R, w) ∧ b_X12_cues_37 fm (some (z + 82)) (K, M, R', w) = b_X12_cues_59 (some (z + 82)) (K, B, R', w) ∧ A (z + 36) 8 = nI ps ∧ B (z + 82) 34 = nI c ∧ B (z + 82) 35 = nI ps ∧ FA z p J A ∧ FB z M B) := by
  intro d
  induction d with
  | zero =>
    intro n a J M fu fm e1 e2 e3 h e6 e38 hw
    obtain ⟨fu, rfl⟩ : ∃ f, fu = f + 1 + 1 := ⟨fu - 2, by omega⟩
    obtain ⟨fm, rfl⟩ : ∃ f, fm = f + 1 + 1 := ⟨fm - 2, by omega⟩
    have hn : n = 12 := by omega
    have s4 := (tk_ok (b := b) h.1).2.2.2.1
    have q0 : (nI (tkS b t a) = (0 : Int32)) = (tkS b t a = 0) := nIq (c := 0) (by omega) (by decide)
    have q1 : (nI (scd (tkS b t a)) = (1 : Int32)) = (tkS b t a = 0) := by
      rw [show (nI (scd (tkS b t a)) = (1 : Int32)) = (scd (tkS b t a) = 1) from nIq (c := 1) (by unfold scd; split <;> omega) (by decide)]
      refine propext ⟨fun q => ?_, fun q => by rw [q]; rfl⟩
      unfold scd at q; split at q <;> omega
    have h34 := h.2.2.2.2.2.2.2.2.2.2.2
    rw [b_X0_readTape_18, if_neg (show ¬ (12 : Int32) < nI n from nI_nlt (a := 12) (by omega) (by decide)), if_pos rfl, gI_t (k36 hS), Option.bind_some, h.2.2.2.2.1, b_X12_cues_37, gI_t (k82 hS'), Option.bind_some, h34, if_pos rfl, gI_t (k82 hS'), Option.bind_some, h.2.2.2.2.2.2.2.2.1]
    by_cases c : tkS b t a = 0
    · rw [if_pos (by rw [q0]; exact c), if_pos (by rw [q1]; exact c)]
      exact Or.inl ⟨n, J, M, by omega, rfl, rfl, e6, e38, h34, hw, fun _ _ _ _ => rfl, fun _ _ _ _ => rfl⟩
    · rw [if_neg (by rw [q0]; exact c), if_neg (by rw [q1]; exact c), cK_t (k36 hS), cK_t (k82 hS')]
      rcases cue_2 (w := w) hS hS' hc h hp r5 (by omega) e6 e38 hw with ⟨a', A, B, n12, _⟩ | ⟨cc, ps, A, B, c1, c3, d1, d2, d3, d4, d5, d6, d7, d8⟩
      · omega
      · have nc0 : ¬ nI cc = 0 := nI_ne0 (by omega) (by omega)
        refine Or.inr ⟨cc, ps, A, B, c1, c3, d3, ?_, ?_, d4, d5, d6, d7, d8⟩
        · rw [d1, Option.bind_some]
          unfold lt1
          try dsimp only
          rw [b_X0_readTape_18]
          by_cases c12 : (12 : Int32) < nI n + 1
          · rw [if_pos c12]
          · rw [if_neg c12, if_neg nc0]
        · rw [d2, Option.bind_some, b_X12_cues_37, gI_t (k82 hS'), Option.bind_some, d5, if_neg nc0]
  | succ d ih =>
    intro n a J M fu fm e1 e2 e3 h e6 e38 hw
    obtain ⟨fu, rfl⟩ : ∃ f, fu = f + 1 + 1 := ⟨fu - 2, by omega⟩
    obtain ⟨fm, rfl⟩ : ∃ f, fm = f + 1 + 1 := ⟨fm - 2, by omega⟩
    have s4 := (tk_ok (b := b) h.1).2.2.2.1
    have q0 : (nI (tkS b t a) = (0 : Int32)) = (tkS b t a = 0) := nIq (c := 0) (by omega) (by decide)
    have q1 : (nI (scd (tkS b t a)) = (1 : Int32)) = (tkS b t a = 0) := by
      rw [show (nI (scd (tkS b t a)) = (1 : Int32)) = (scd (tkS b t a) = 1) from nIq (c := 1) (by unfold scd; split <;> omega) (by decide)]
      refine propext ⟨fun q => ?_, fun q => by rw [q]; rfl⟩
      unfold scd at q; split at q <;> omega
    have h34 := h.2.2.2.2.2.2.2.2.2.2.2
    rw [b_X0_readTape_18, if_neg (show ¬ (12 : Int32) < nI n from nI_nlt (a := 12) (by omega) (by decide)), if_pos rfl, gI_t (k36 hS), Option.bind_some, h.2.2.2.2.1, b_X12_cues_37, gI_t (k82 hS'), Option.bind_some, h34, if_pos rfl, gI_t (k82 hS'), Option.bind_some, h.2.2.2.2.2.2.2.2.1]
    by_cases c : tkS b t a = 0
    · rw [if_pos (by rw [q0]; exact c), if_pos (by rw [q1]; exact c)]
      exact Or.inl ⟨n, J, M, by omega, rfl, rfl, e6, e38, h34, hw, fun _ _ _ _ => rfl, fun _ _ _ _ => rfl⟩
    · rw [if_neg (by rw [q0]; exact c), if_neg (by rw [q1]; exact c), cK_t (k36 hS), cK_t (k82 hS')]
      rcases cue_2 (w := w) hS hS' hc h hp r5 (by omega) e6 e38 hw with ⟨a', A, B, n12, d1, d2, d3, d4, d5, d6, d7, d8⟩ | ⟨cc, ps, A, B, c1, c3, d1, d2, d3, d4, d5, d6, d7, d8⟩
      · rw [d1, Option.bind_some, d2, Option.bind_some]
        unfold lt1
        try dsimp only
        rw [nI_1]
        rcases ih (n + 1) a' A B (fu + 1) (fm + 1) (by omega) (by omega) (by omega) d3 d4 d5 d6 with ⟨n', A', B', g1, g2, g3, g4, g5, g6, g7, g8, g9⟩ | ⟨cc, ps, A', B', g1, g2, g3, g4, g5, g6, g7, g8, g9, g10⟩
        · exact Or.inl ⟨n', A', B', g1, g2, g3, g4, g5, g6, g7, d7.tr g8, d8.tr g9⟩
        · exact Or.inr ⟨cc, ps, A', B', g1, g2, g3, g4, g5, g6, g7, g8, d7.tr g9, d8.tr g10⟩
      · have nc0 : ¬ nI cc = 0 := nI_ne0 (by omega) (by omega)
        refine Or.inr ⟨cc, ps, A, B, c1, c3, d3, ?_, ?_, d4, d5, d6, d7, d8⟩
        · rw [d1, Option.bind_some]
          unfold lt1
          try dsimp only
          rw [b_X0_readTape_18]
          by_cases c12 : (12 : Int32) < nI n + 1
          · rw [if_pos c12]
          · rw [if_neg c12, if_neg nc0]
        · rw [d2, Option.bind_some, b_X12_cues_37, gI_t (k82 hS'), Option.bind_some, d5, if_neg nc0]
theorem cp_M (hS : Shp z K R) {n : Nat} (hn : n ≤ 12) : ∀ fu k (J : Nat → Nat → Int32), J (z + 82) 38 = nI n → k ≤ 4 * n → 4 * n < fu + k → ∃ A, b_X12_cues_93 fu (some (z + 82)) (nI k) (K, J, R, w) = b_X12_cues_121 (some (z + 82)) (K, A, R, w) ∧ (∀ o q, ¬ (o = 103 ∧ k ≤ q ∧ q < 4 * n) → A (z + o) q = J (z + o) q) ∧ ∀ q, k ≤ q → q < 4 * n → A (z + 103) q = J (z + 104) q := by
  intro fu
  induction fu with
  | zero => intro k J _ x y; omega
  | succ fu ih =>
    intro k J e38 x y
    rw [b_X12_cues_93, gI_t (k82 hS), Option.bind_some, e38, ix4]
    by_cases c : k = 4 * n
    · subst c
      rw [if_pos (nI_le (Nat.le_refl _) (by omega))]
      exact ⟨J, rfl, fun _ _ _ => rfl, fun q h1 h2 => by omega⟩
    · have hk : k < 4 * n := by omega
      obtain ⟨A, q1, q2, q3⟩ := ih (k + 1) (up2 J (z + 103) k (J (z + 104) k)) (by rw [un_1 (Or.inl (by omega))]; exact e38) (by omega) (by omega)
      refine ⟨A, ?_, fun o q ho => by rw [q2 o q (by omega), un_1 (by omega)], fun q h1 h2 => ?_⟩
      · rw [if_neg (nI_ge hk (by omega)), gR_t (k82 hS), Option.bind_some, rz82_37 hS, gR_t (k82 hS), Option.bind_some, rz82_39 hS, aI_t (kz104 hS) (by omega) (by decide), Option.bind_some, sI_t (kz103 hS) (by omega) (by decide), Option.bind_some, nar14]
        unfold lt1
        try dsimp only
        rw [nI_1]
        exact q1
      · by_cases e : q = k
        · subst e
          rw [q2 103 q (by omega), es]
        · rw [q3 q (by omega) h2, un_1 (Or.inl (by omega))]
/-- what the reference's reading changes -/
def FY (z : Nat) (X D : Nat → Nat → Int32) : Prop := ∀ o q, ¬ (o = 82 ∧ (q = 0 ∨ (27 ≤ q ∧ q ≤ 36) ∨ q = 38)) → o ≠ 103 → o ≠ 104 → D (z + o) q = X (z + o) q
def swp (z p q : Nat) (R : Nat → Nat → Option Nat) : Nat → Nat → Option Nat := up2 (up2 R (z + 36) 4 (some (z + p))) (z + 36) 5 (some (z + q))
theorem run_2 (hS : Shp z K R) (hS' : Shp z K R') (hc : RCst R) {p q : Nat} (hp : p = 38 ∨ p = 51) (r4 : R (z + 36) 4 = some (z + q)) (r5 : R (z + 36) 5 = some (z + p)) (ht : t ≤ 300) (hT : TX z t b I) (x27 : X (z + 82) 27 = nI t) (x102 : ∀ k, k < t → X (z + 102) k = nI (b k)) :
    (∃ n A B D, n ≤ 12 ∧ f_X0_readTape (some (z + 36)) (K, I, R, w) = some (nI n, K, up2 (up2 A (z + 36) 1 0) (z + 36) 2 (nI n), swp z p q R, w) ∧ f_X12_cues (some (z + 82)) (K, X, R', w) = some (nI n, K, D, R', w) ∧ RW z p n A B ∧ (∀ j, j < 4 * n → D (z + 103) j = B (z + 104) j) ∧ D (z + 82) 27 = 0 ∧ D (z + 82) 28 = X (z + 82) 28 ∧ D (z + 82) 36 = nI n ∧ FA z p I A ∧ FY z X D)
    ∨ (∃ c ps A D, 1 ≤ c ∧ c ≤ 3 ∧ ps ≤ 300 ∧ f_X0_readTape (some (z + 36)) (K, I, R, w) = some (-1000100 - nI ps, K, up2 (up2 A (z + 36) 1 0) (z + 36) 3 (nI c), R, w) ∧ f_X12_cues (some (z + 82)) (K, X, R', w) = some (-1000100 - nI ps, K, D, R', w) ∧ D (z + 82) 27 = 0 ∧ D (z + 82) 28 = nI c ∧ D (z + 82) 36 = X (z + 82) 36 ∧ (∀ j, D (z + 103) j = X (z + 103) j) ∧ FA z p I A ∧ FY z X D) := by
  obtain ⟨J0, hJ0⟩ : ∃ J0, J0 = up2 (up2 I (z + 36) 6 0) (z + 36) 9 0 := ⟨_, rfl⟩
  obtain ⟨M0, hM0⟩ : ∃ M0, M0 = up2 (up2 (up2 (up2 (up2 (up2 X (z + 82) 0 0) (z + 82) 29 (nI t)) (z + 82) 27 0) (z + 82) 30 0) (z + 82) 34 0) (z + 82) 38 0 := ⟨_, rfl⟩
  have TJ : TX z t b J0 := by rw [hJ0]; exact (hT.up (by decide)).up (by decide)
  have TM : TMt z t b M0 := ⟨by rw [hM0]; simp (disch := omega) only [un_1, un_2, un_3, un_4, es, up2_self], fun k hk => ⟨(hT.2 k hk).1, by rw [hM0]; simp (disch := omega) only [un_1, un_2, un_3, un_4, es, up2_self]; exact x102 k hk⟩⟩
  obtain ⟨A0, B0, s1, s2, s3, s4, s5⟩ := st_2 (w := w) hS hS' ht TJ TM (by rw [hJ0]; simp (disch := omega) only [un_1, un_2, un_3, un_4, es, up2_self]) (by rw [hM0]; simp (disch := omega) only [un_1, un_2, un_3, un_4, es, up2_self]) (by rw [hM0]; simp (disch := omega) only [un_1, un_2, un_3, un_4, es, up2_self])
  have e6 : A0 (z + 36) 6 = nI 0 := by rw [s4 36 6 (by omega), hJ0]; simp (disch := omega) only [un_1, un_2, un_3, un_4, es, up2_self]; rfl
  have e38 : B0 (z + 82) 38 = nI 0 := by rw [s5 82 38 (by omega), hM0]; simp (disch := omega) only [un_1, un_2, un_3, un_4, es, up2_self]; rfl
  have eX : f_X0_readTape (some (z + 36)) (K, I, R, w) = b_X0_readTape_18 FU (some (z + 36)) 0 (nI 0) (K, A0, R, w) := by
    unfold f_X0_readTape
    rw [pI_t (k36 hS), Option.bind_some, pI_t (k36 hS), Option.bind_some, ← hJ0, cK_t (k36 hS), s1, Option.bind_some]
    rfl
  have eM : f_X12_cues (some (z + 82)) (K, X, R', w) = b_X12_cues_37 FU (some (z + 82)) (K, B0, R', w) := by
    have g27 : up2 X (z + 82) 0 0 (z + 82) 27 = nI t := by simp (disch := omega) only [un_1, un_2, un_3, un_4, es, up2_self]; exact x27
    unfold f_X12_cues
    rw [pI_t (k82 hS'), Option.bind_some, gI_t (k82 hS'), Option.bind_some, g27, pI_t (k82 hS'), Option.bind_some, pI_t (k82 hS'), Option.bind_some, pI_t (k82 hS'), Option.bind_some, pI_t (k82 hS'), Option.bind_some, pI_t (k82 hS'), Option.bind_some, ← hM0, cK_t (k82 hS'), s2, Option.bind_some]
  have fa0 : FA z p I A0 := fun o q p1 p2 => by rw [s4 o q (by omega), hJ0]; simp (disch := omega) only [un_1, un_2, un_3, un_4, es, up2_self]
  rw [eX, eM]
  rcases tape_2 (w := w) hS hS' hc hp r5 12 0 0 A0 B0 FU FU (by omega) (by unfold FU; omega) (by unfold FU; omega) s3 e6 e38 ⟨fun i hi => by omega, fun i hi => by omega⟩ with ⟨n, A, B, n12, g1, g2, g3, g4, g5, g6, g7, g8⟩ | ⟨c, ps, A, B, c1, c3, hps, g1, g2, g4, g5, g6, g7, g8⟩
  · obtain ⟨C, hC⟩ : ∃ C, C = up2 B (z + 82) 36 (nI n) := ⟨_, rfl⟩
    obtain ⟨D, d1, d2, d3⟩ := cp_M (w := w) hS' n12 FU 0 C (by rw [hC]; simp (disch := omega) only [un_1, un_2, un_3, un_4, es, up2_self]; exact g4) (by omega) (by unfold FU; omega)
    have D36 : D (z + 82) 36 = nI n := by rw [d2 82 36 (by omega), hC, es]
    have fB0 : ∀ o q, ¬ (o = 82 ∧ ((30 ≤ q ∧ q ≤ 35) ∨ q = 38)) → o ≠ 104 → B (z + o) q = M0 (z + o) q := fun o q p1 p2 => by rw [g8 o q p1 p2]; exact s5 o q (by omega)
    refine Or.inl ⟨n, A, B, D, n12, ?_, ?_, g6, fun j hj => ?_, ?_, ?_, D36, fa0.tr g7, fun o q p1 p2 p3 => ?_⟩
    · rw [g1]
      unfold b_X0_readTape_46
      have h6 : up2 A (z + 36) 1 0 (z + 36) 6 = nI n := by simp (disch := omega) only [un_1, un_2, un_3, un_4, es, up2_self]; exact g3
      have h2 : up2 (up2 A (z + 36) 1 0) (z + 36) 2 (nI n) (z + 36) 2 = nI n := es
      simp only [pI_t (k36 hS), Option.bind_some, if_true, gR_t (k36 hS), r4, r5, pR_t (k36 hS), gI_t (k36 hS), h6, h2]
      rfl
    · rw [g2]
      unfold b_X12_cues_59
      rw [gI_t (k82 hS'), Option.bind_some, g5, if_pos (by decide), gI_t (k82 hS'), Option.bind_some, g4, pI_t (k82 hS'), Option.bind_some, ← hC]
      rw [show nI 0 = 0 from rfl] at d1
      rw [d1]
      unfold b_X12_cues_121
      rw [gI_t (k82 hS'), Option.bind_some, D36]
    · rw [d3 j (by omega) hj, hC]; simp (disch := omega) only [un_1, un_2, un_3, un_4, es, up2_self]
    · rw [d2 82 27 (by omega), hC]; simp (disch := omega) only [un_1, un_2, un_3, un_4, es, up2_self]; rw [fB0 82 27 (by omega) (by omega), hM0]; simp (disch := omega) only [un_1, un_2, un_3, un_4, es, up2_self]
    · rw [d2 82 28 (by omega), hC]; simp (disch := omega) only [un_1, un_2, un_3, un_4, es, up2_self]; rw [fB0 82 28 (by omega) (by omega), hM0]; simp (disch := omega) only [un_1, un_2, un_3, un_4, es, up2_self]
    · rw [d2 o q (by omega), hC]; simp (disch := omega) only [un_1, un_2, un_3, un_4, es, up2_self]; rw [fB0 o q (by omega) p3, hM0]; simp (disch := omega) only [un_1, un_2, un_3, un_4, es, up2_self]
  · obtain ⟨D, hD⟩ : ∃ D, D = up2 B (z + 82) 28 (nI c) := ⟨_, rfl⟩
    have fB0 : ∀ o q, ¬ (o = 82 ∧ ((30 ≤ q ∧ q ≤ 35) ∨ q = 38)) → o ≠ 104 → B (z + o) q = M0 (z + o) q := fun o q p1 p2 => by rw [g8 o q p1 p2]; exact s5 o q (by omega)
    have nc0 : ¬ nI c = 0 := nI_ne0 (by omega) (by omega)
    refine Or.inr ⟨c, ps, A, D, c1, c3, hps, ?_, ?_, ?_, ?_, ?_, fun j => ?_, fa0.tr g7, fun o q p1 p2 p3 => ?_⟩
    · rw [g1]
      unfold b_X0_readTape_46
      have h8 : up2 (up2 A (z + 36) 1 0) (z + 36) 3 (nI c) (z + 36) 8 = nI ps := by simp (disch := omega) only [un_1, un_2, un_3, un_4, es, up2_self]; exact g4
      rw [pI_t (k36 hS), Option.bind_some, if_neg nc0, pI_t (k36 hS), Option.bind_some, gI_t (k36 hS), Option.bind_some, h8]
    · rw [g2]
      unfold b_X12_cues_59
      have h35 : up2 B (z + 82) 28 (nI c) (z + 82) 35 = nI ps := by simp (disch := omega) only [un_1, un_2, un_3, un_4, es, up2_self]; exact g6
      rw [gI_t (k82 hS'), Option.bind_some, g5, if_neg (nI_nle (by omega) (by omega)), Option.bind_some, pI_t (k82 hS'), Option.bind_some, gI_t (k82 hS'), Option.bind_some, h35, ← hD]
    · rw [hD]; simp (disch := omega) only [un_1, un_2, un_3, un_4, es, up2_self]; rw [fB0 82 27 (by omega) (by omega), hM0]; simp (disch := omega) only [un_1, un_2, un_3, un_4, es, up2_self]
    · rw [hD, es]
    · rw [hD]; simp (disch := omega) only [un_1, un_2, un_3, un_4, es, up2_self]; rw [fB0 82 36 (by omega) (by omega), hM0]; simp (disch := omega) only [un_1, un_2, un_3, un_4, es, up2_self]
    · rw [hD]; simp (disch := omega) only [un_1, un_2, un_3, un_4, es, up2_self]; rw [fB0 103 j (by omega) (by omega), hM0]; simp (disch := omega) only [un_1, un_2, un_3, un_4, es, up2_self]
    · rw [hD]; simp (disch := omega) only [un_1, un_2, un_3, un_4, es, up2_self]; rw [fB0 o q (by omega) p3, hM0]; simp (disch := omega) only [un_1, un_2, un_3, un_4, es, up2_self]
end C8
