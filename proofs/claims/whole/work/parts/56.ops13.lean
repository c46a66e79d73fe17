section O13
variable {z h k n t : Nat} {K : Nat → Nat × Nat} {I J : Nat → Nat → Int32} {R : Nat → Nat → Option Nat} {w : Nat}
-- frame
theorem rowC (hS : Shp z K R) {q i : Nat} (hq : q = 38 ∨ q = 51) (hi : i < 12) : aR (K, J, R, w) (some (z + q)) 18 (nI i) = some (some (z + (q + 1 + i))) := by
  rcases hq with rfl | rfl
  · rw [aR_t (kz38 hS) hi (by decide), rzC hS hi]
  · rw [aR_t (kz51 hS) hi (by decide), rzD hS hi]
theorem rowK (hS : Shp z K R) {q i : Nat} (hq : q = 38 ∨ q = 51) (hi : i < 12) : K (z + (q + 1 + i)) = (14, 4) := by
  rcases hq with rfl | rfl
  · exact kzC hS hi
  · exact kzD hS hi
def fdV (a b d l : Int32) : Int32 := if l ≤ 0 then b else if d < l then a + (b - a) * d / l else b
theorem faded_X (a b d l : Int32) (S : St) : f_X0_faded a b d l S = some (fdV a b d l, S) := by
  unfold f_X0_faded fdV b_X0_faded_9 dv
  by_cases c1 : l ≤ 0
  · rw [if_pos c1, if_pos c1]
  · rw [if_neg c1, if_neg c1]
    by_cases c2 : d < l
    · rw [if_pos c2, if_pos c2, if_neg (fun q => c1 (by rw [q]; decide))]
      rfl
    · rw [if_neg c2, if_neg c2]
theorem level_M {g b l : Nat} (hg : g ≤ 100000) (hl : l ≤ 100000) (hb : b ≤ g) (x y : Int32) (S : St) : f_X12_level (nI g) (nI b) x y (nI l) S = some (fdV x y (nI g - nI b) (nI l), S) := by
  unfold f_X12_level fdV dv
  rw [nI_add, sub_nn hb]
  by_cases c1 : l = 0
  · subst c1
    rw [if_neg (nI_nlt (by omega) (by omega)), if_pos (by decide)]
  · rw [if_neg (show ¬ nI l ≤ 0 from nI_nle (by omega) (by omega))]
    by_cases c2 : g < b + l
    · rw [if_pos (nI_lt c2 (by omega)), if_neg (nI_ne0 (by omega) (by omega)), if_pos (nI_lt (show g - b < l by omega) (by omega))]
      rfl
    · rw [if_neg (nI_nlt (by omega) (by omega)), if_neg (nI_nlt (show l ≤ g - b by omega) (by omega))]
theorem frame_2 (hS : Shp z K R) (hc : RCues z I R) (e : ∀ l, J (z + 103) l = I (z + 103) l) (e36 : J (z + 82) 36 = I (z + 82) 36) {f : Nat} (hf : f ≤ 20000) : ∃ n, n ≤ 12 ∧ (0 < n → nI 0 ≤ I (z + 103) (4 * 0)) ∧ ∀ m j (x3 x5 x6 : Int32) (b l : Nat), j ≤ n → n < m + j → l ≤ 9999 → b ≤ f → (j < n → nI b ≤ I (z + 103) (4 * j)) →
    (∃ v, b_X0_shownAt_4 m (some (z + 36)) (nI f) x3 (nI j) (K, I, R, w) = some (v, K, I, R, w) ∧ b_X12_frame_49 m (some (z + 82)) (nI f) 0 x3 (nI b) x5 x6 (nI l) (nI j) (K, J, R, w) = some (v, K, J, R, w)) ∧
    ∃ v, b_X0_levelAt_15 m (some (z + 36)) (nI f) x5 x6 (nI b) (nI l) (nI j) (K, I, R, w) = some (v, K, I, R, w) ∧ b_X12_frame_49 m (some (z + 82)) (nI f) 1 x3 (nI b) x5 x6 (nI l) (nI j) (K, J, R, w) = some (v, K, J, R, w) := by
  have k36 : (K (z + 36)).1 = 0 + 1 := by rw [kz36 hS]
  have g82 : ∀ (H : Nat → Nat → Int32) c, gR (K, H, R, w) (some (z + 82)) 11 c = some (R (z + 82) c) := fun H c => gR_t (k82 hS)
  obtain ⟨-, -, q, p, n, hq, r1, r2, n1, n2, n3, hc, ha⟩ := hc
  have hq' : q = 38 ∨ q = 51 := by omega
  refine ⟨n, n1, fun c => ?_, ?_⟩
  · obtain ⟨g, s, a, d, b1, b2, b3, b4, b5, b6, -⟩ := hc 0 c
    rw [b6]; exact nI_le (by omega) (by omega)
  intro m
  induction m with
  | zero => intro j x3 x5 x6 b l a1 a2; omega
  | succ m ih =>
    intro j x3 x5 x6 b l a1 a2 a3 a4 a5
    have f0 : ∀ x, b_X12_frame_183 (nI f) 0 x (nI b) x5 x6 (nI l) (K, J, R, w) = some (x, K, J, R, w) := by intro x; simp [b_X12_frame_183]
    have f1 : ∀ x, b_X12_frame_183 (nI f) 1 x (nI b) x5 x6 (nI l) (K, J, R, w) = some (fdV x5 x6 (nI f - nI b) (nI l), K, J, R, w) := by
      intro x
      simp only [b_X12_frame_183, if_neg i10, level_M (show f ≤ 100000 by omega) (show l ≤ 100000 by omega) a4, Option.bind_some]
    have f2 : b_X0_levelAt_92 (nI f) x5 x6 (nI b) (nI l) (K, I, R, w) = some (fdV x5 x6 (nI f - nI b) (nI l), K, I, R, w) := by
      simp only [b_X0_levelAt_92, faded_X, Option.bind_some]
    rw [b_X0_shownAt_4, b_X12_frame_49, b_X0_levelAt_15, b_X12_frame_49]
    simp only [gI_t k36, n2, gI_t (k82 hS), e36, n3, Option.bind_some]
    by_cases c : j = n
    · subst c
      have c' : nI j ≤ nI j := nI_le (Nat.le_refl _) (by omega)
      exact ⟨⟨x3, by rw [if_pos c']; rfl, by rw [if_pos c']; exact f0 _⟩, ⟨_, by rw [if_pos c']; exact f2, by rw [if_pos c']; exact f1 _⟩⟩
    · have hj : j < n := by omega
      have hj12 : j < 12 := by omega
      have c' : ¬ nI n ≤ nI j := nI_ge hj (by omega)
      obtain ⟨g, s, a, d, b1, b2, b3, b4, b5, b6, b7, b8, b9, b10, b11, b12, b13⟩ := hc j hj
      have m0 : (4 : Int32) * nI j = nI (4 * j) := ix4 j
      have m1 : nI (4 * j) + 1 = nI (4 * j + 1) := nI_add _ 1
      have m2 : nI (4 * j) + 2 = nI (4 * j + 2) := nI_add _ 2
      have m3 : nI (4 * j) + 3 = nI (4 * j + 3) := nI_add _ 3
      have u0 : aI (K, J, R, w) (some (z + 103)) 14 (nI (4 * j)) = some (nI g) := by rw [aI_t (kz103 hS) (by omega) (by decide), e, b6]
      have u1 : aI (K, J, R, w) (some (z + 103)) 14 (nI (4 * j + 1)) = some (nI s) := by rw [aI_t (kz103 hS) (by omega) (by decide), e, b7]
      have u2 : aI (K, J, R, w) (some (z + 103)) 14 (nI (4 * j + 2)) = some (nI a) := by rw [aI_t (kz103 hS) (by omega) (by decide), e, b8]
      have u3 : aI (K, J, R, w) (some (z + 103)) 14 (nI (4 * j + 3)) = some (nI d) := by rw [aI_t (kz103 hS) (by omega) (by decide), e, b9]
      have w0 : aI (K, I, R, w) (some (z + (q + 1 + j))) 14 0 = some (nI g) := (aI_t (j := 0) (rowK hS hq' hj12) (by decide) (by decide)).trans (by rw [b10])
      have w1 : aI (K, I, R, w) (some (z + (q + 1 + j))) 14 1 = some (nI s) := (aI_t (j := 1) (rowK hS hq' hj12) (by decide) (by decide)).trans (by rw [b11])
      have w2 : s ≠ 1 → aI (K, I, R, w) (some (z + (q + 1 + j))) 14 2 = some (nI a) := fun hh => (aI_t (j := 2) (rowK hS hq' hj12) (by decide) (by decide)).trans (by rw [b12 hh])
      have w3 : s = 2 → aI (K, I, R, w) (some (z + (q + 1 + j))) 14 3 = some (nI d) := fun hh => (aI_t (j := 3) (rowK hS hq' hj12) (by decide) (by decide)).trans (by rw [b13 hh])
      simp only [if_neg c', gR_t k36, r1, rowC hS hq' hj12, w0, w1, g82, rz82_37 hS, m0, m1, m2, m3, u0, u1, u2, u3, Option.bind_some]
      rw [b6] at a5
      have a5' : b ≤ g := by
        have := a5 hj
        rw [nI_leI (by omega) (by omega)] at this
        exact this
      by_cases c2 : f < g
      · have c2' : nI f < nI g := nI_lt c2 (by omega)
        exact ⟨⟨x3, by rw [if_pos c2']; rfl, by rw [if_pos c2']; exact f0 _⟩, ⟨_, by rw [if_pos c2']; exact f2, by rw [if_pos c2']; exact f1 _⟩⟩
      · have c2' : ¬ nI f < nI g := nI_nlt (by omega) (by omega)
        simp only [if_neg c2', b_X0_shownAt_62, b_X0_levelAt_86, b_X12_frame_177, lt1, nI_1]
        have up : ∀ b', b' ≤ g → (j + 1 < n → nI b' ≤ I (z + 103) (4 * (j + 1))) := by
          intro b' hb' hh
          refine Int32.le_trans ?_ (ha j hh)
          rw [b6]
          exact nI_le hb' (by omega)
        rcases (show s = 0 ∨ s = 1 ∨ s = 2 by omega) with rfl | rfl | rfl
        · have := ih (j + 1) (nI a) x5 x6 b l (by omega) (by omega) a3 a4 (up b a5')
          simpa [show nI 0 = 0 from rfl, w2 (by decide)] using this
        · have := ih (j + 1) (-2) x5 x6 b l (by omega) (by omega) a3 a4 (up b a5')
          simpa [show nI 1 = 1 from rfl] using this
        · have := ih (j + 1) x3 (fdV x5 x6 (nI g - nI b) (nI l)) (nI a) g d (by omega) (by omega) b3 (by omega) (up g (Nat.le_refl _))
          simpa [show nI 2 = 2 from rfl, w2 (by decide), w3 rfl, w0, faded_X, level_M (show g ≤ 100000 by omega) (show l ≤ 100000 by omega) a5', g82, rz82_37 hS, u2, u3] using this
theorem agr_frame (v1 v2 : Int32) : Agr (Rel z) z (f_X11_frame (some z) v1 v2) (f_X12_frame (some (z + 82)) v1 v2) := by
  rintro ⟨K, I, R, w⟩ hR
  obtain ⟨h, h1, h2, h3, h4, h5, h6, h7, h8, h9, h10, h11, h12, h13, h14, h15⟩ := hR.opn
  have kz : (K z).1 = 10 + 1 := by rw [kz0 h4]
  have k36 : (K (z + 36)).1 = 0 + 1 := by rw [kz36 h4]
  have hr := hR.thr 0
  by_cases c1 : 0 ≤ v1 ∧ v1 ≤ 20000
  · obtain ⟨f, hf, rfl⟩ := ix_le (n := 20000) (by decide) c1
    by_cases c2 : 0 ≤ v2 ∧ v2 ≤ 1
    · obtain ⟨n, hn, hn0, hh⟩ := frame_2 (w := w) (J := up2 I (z + 82) 0 0) h4 h14 (fun l => un_1 (by omega)) (un_1 (by omega)) hf
      obtain ⟨⟨v, e1, e2⟩, u, e3, e4⟩ := hh FU 0 (-1) 100 100 0 0 (by omega) (by unfold FU; omega) (by omega) (by omega) hn0
      by_cases c3 : v2 = 0
      · refine ⟨v, (K, I, R, w), (K, up2 I (z + 82) 0 0, R, w), ?_, k82 h4, ?_, hr⟩
        · simp only [f_X11_frame, isW, wi1 c1, wi1 c2, i10, if_false, Option.bind_some, if_pos c3, gR_t kz, rz0_4 h4, cK_t k36, f_X0_shownAt]
          rw [show nI 0 = 0 from rfl] at e1
          rw [e1]
          rfl
        · simp only [f_X12_frame, pI_t (k82 h4), in_020000, wi1 c1, in_01, wi1 c2, i10, if_false, Option.bind_some]
          rw [c3]; exact e2
      · have c4 : v2 = 1 := by
          obtain ⟨q, hq, rfl⟩ := ix_le (n := 1) (by decide) c2
          rcases (show q = 0 ∨ q = 1 by omega) with rfl | rfl
          · exact absurd rfl c3
          · rfl
        refine ⟨u, (K, I, R, w), (K, up2 I (z + 82) 0 0, R, w), ?_, k82 h4, ?_, hr⟩
        · simp only [f_X11_frame, isW, wi1 c1, wi1 c2, i10, if_false, Option.bind_some, if_neg c3, gR_t kz, rz0_4 h4, cK_t k36, f_X0_levelAt]
          rw [show nI 0 = 0 from rfl] at e3
          rw [e3]
          rfl
        · simp only [f_X12_frame, pI_t (k82 h4), in_020000, wi1 c1, in_01, wi1 c2, i10, if_false, Option.bind_some]
          rw [c4]; exact e4
    · refine ⟨-1000001, (K, I, R, w), (K, up2 I (z + 82) 0 0, R, w), ?_, k82 h4, ?_, hr⟩
      · simp only [f_X11_frame, isW, wi1 c1, wi0 c2, i10, if_false, Option.bind_some, if_true]
      · simp only [f_X12_frame, pI_t (k82 h4), in_020000, wi1 c1, in_01, wi0 c2, i10, if_false, Option.bind_some, if_true]
  · refine ⟨-1000001, (K, I, R, w), (K, up2 I (z + 82) 0 0, R, w), ?_, k82 h4, ?_, hr⟩
    · simp only [f_X11_frame, isW, wi0 c1, Option.bind_some, if_true]
    · simp only [f_X12_frame, pI_t (k82 h4), in_020000, wi0 c1, Option.bind_some, if_true]
end O13
