section C7
variable {z h k n m t q : Nat} {K : Nat → Nat × Nat} {I J M : Nat → Nat → Int32} {R R' : Nat → Nat → Option Nat} {w : Nat} {b : Nat → Nat}
def RW (z p n : Nat) (J M : Nat → Nat → Int32) : Prop := (∀ i, i < n → ∃ f s a b, f ≤ 9999 ∧ a ≤ 9999 ∧ b ≤ 9999 ∧ s ≤ 2 ∧ (s = 2 → a ≤ 100) ∧ M (z + 104) (4 * i) = nI f ∧ M (z + 104) (4 * i + 1) = nI s ∧ M (z + 104) (4 * i + 2) = nI a ∧ M (z + 104) (4 * i + 3) = nI b ∧ J (z + (p + 1 + i)) 0 = nI f ∧ J (z + (p + 1 + i)) 1 = nI s ∧ (s ≠ 1 → J (z + (p + 1 + i)) 2 = nI a) ∧ (s = 2 → J (z + (p + 1 + i)) 3 = nI b)) ∧ ∀ i, i + 1 < n → M (z + 104) (4 * i) ≤ M (z + 104) (4 * (i + 1))
theorem RW.cg {p : Nat} {A B : Nat → Nat → Int32} (h : RW z p n J M) (h1 : ∀ i, i < n → A (z + (p + 1 + i)) = J (z + (p + 1 + i))) (h2 : ∀ i, i < 4 * n → B (z + 104) i = M (z + 104) i) : RW z p n A B := by
  refine ⟨fun i hi => ?_, fun i hi => ?_⟩
  · rw [h1 i hi, h2 (4 * i) (by omega), h2 (4 * i + 1) (by omega), h2 (4 * i + 2) (by omega), h2 (4 * i + 3) (by omega)]
    exact h.1 i hi
  · rw [h2 (4 * i) (by omega), h2 (4 * (i + 1)) (by omega)]
    exact h.2 i hi
/-- what reading leaves alone -/
def FA (z p : Nat) (J A : Nat → Nat → Int32) : Prop := ∀ o q, ¬ (o = 36 ∧ 6 ≤ q ∧ q ≤ 9) → ¬ (p + 1 ≤ o ∧ o ≤ p + 12) → A (z + o) q = J (z + o) q
def FB (z : Nat) (M B : Nat → Nat → Int32) : Prop := ∀ o q, ¬ (o = 82 ∧ ((30 ≤ q ∧ q ≤ 35) ∨ q = 38)) → o ≠ 104 → B (z + o) q = M (z + o) q
theorem FA.tr {p : Nat} {A B : Nat → Nat → Int32} (h1 : FA z p J A) (h2 : FA z p A B) : FA z p J B := fun o q a b => (h2 o q a b).trans (h1 o q a b)
theorem FB.tr {A B : Nat → Nat → Int32} (h1 : FB z M A) (h2 : FB z A B) : FB z M B := fun o q a b => (h2 o q a b).trans (h1 o q a b)
/-- the reference's cue is written -/
theorem w205 (hS' : Shp z K R') {a n : Nat} (h : TR z t a b J M) (hn : n < 12) (e38 : M (z + 82) 38 = nI n) (x1 x4 x5 x6 : Int32) {B : Nat → Nat → Int32} (st : f_X12_step (some (z + 82)) (K, M, R', w) = some (K, B, R', w)) (b34 : B (z + 82) 34 = 0) (b38 : B (z + 82) 38 = nI n) : b_X12_readCue_205 (some (z + 82)) x1 x4 x5 x6 (some (z + 82)) 1 (K, M, R', w) = some (K, up2 (up2 (up2 (up2 (up2 B (z + 104) (4 * n) x1) (z + 104) (4 * n + 1) x4) (z + 104) (4 * n + 2) x5) (z + 104) (4 * n + 3) x6) (z + 82) 38 (nI (n + 1)), R', w) := by
  have h34 := h.2.2.2.2.2.2.2.2.2.2.2
  have g38 : ∀ (H : Nat → Nat → Int32) i v, H (z + 82) 38 = nI n → up2 H (z + 104) i v (z + 82) 38 = nI n := fun H i v e => by rw [un_1 (Or.inl (by omega))]; exact e
  have s4 : ∀ (H : Nat → Nat → Int32) c v, c < 4 → sI (K, H, R', w) (some (z + 104)) 14 (nI (4 * n + c)) v = some (K, up2 H (z + 104) (4 * n + c) v, R', w) := fun H c v hc => sI_t (kz104 hS') (by omega) (by decide)
  have m1 : nI (4 * n) + 1 = nI (4 * n + 1) := nI_add _ 1
  have m2 : nI (4 * n) + 2 = nI (4 * n + 2) := nI_add _ 2
  have m3 : nI (4 * n) + 3 = nI (4 * n + 3) := nI_add _ 3
  unfold b_X12_readCue_205
  rw [cK_t (k82 hS'), take_1 hS' h34, st, Option.bind_some, gI_t (k82 hS'), Option.bind_some, b34, if_pos rfl, gR_t (k82 hS'), Option.bind_some, rz82_39 hS', gI_t (k82 hS'), Option.bind_some, b38, ix4, show nI (4 * n) = nI (4 * n + 0) from rfl, s4 _ 0 _ (by decide), Option.bind_some]
  have c1 := g38 B (4 * n + 0) x1 b38
  rw [gR_t (k82 hS'), Option.bind_some, rz82_39 hS', gI_t (k82 hS'), Option.bind_some, c1, ix4, m1, s4 _ 1 _ (by decide), Option.bind_some]
  have c2 := g38 _ (4 * n + 1) x4 c1
  rw [gR_t (k82 hS'), Option.bind_some, rz82_39 hS', gI_t (k82 hS'), Option.bind_some, c2, ix4, m2, s4 _ 2 _ (by decide), Option.bind_some]
  have c3 := g38 _ (4 * n + 2) x5 c2
  rw [gR_t (k82 hS'), Option.bind_some, rz82_39 hS', gI_t (k82 hS'), Option.bind_some, c3, ix4, m3, s4 _ 3 _ (by decide), Option.bind_some]
  have c4 := g38 _ (4 * n + 3) x6 c3
  rw [gI_t (k82 hS'), Option.bind_some, c4, nI_1, pI_t (k82 hS'), Option.bind_some]
  rfl
theorem cue_2 (hS : Shp z K R) (hS' : Shp z K R') (hc : RCst R) {a n p : Nat} (h : TR z t a b J M) (hp : p = 38 ∨ p = 51) (r5 : R (z + 36) 5 = some (z + p)) (hn : n ≤ 12) (e6 : J (z + 36) 6 = nI n) (e38 : M (z + 82) 38 = nI n) (hw : RW z p n J M) :
    (∃ a' A B, n < 12 ∧ f_X0_readCue (some (z + 36)) (K, J, R, w) = some (0, K, A, R, w) ∧ f_X12_readCue (some (z + 82)) (K, M, R', w) = some (K, B, R', w) ∧ TR z t a' b A B ∧ A (z + 36) 6 = nI (n + 1) ∧ B (z + 82) 38 = nI (n + 1) ∧ RW z p (n + 1) A B ∧ FA z p J A ∧ FB z M B)
    ∨ (∃ c ps A B, 1 ≤ c ∧ c ≤ 3 ∧ f_X0_readCue (some (z + 36)) (K, J, R, w) = some (nI c, K, A, R, w) ∧ f_X12_readCue (some (z + 82)) (K, M, R', w) = some (K, B, R', w) ∧ ps ≤ 300 ∧ A (z + 36) 8 = nI ps ∧ B (z + 82) 34 = nI c ∧ B (z + 82) 35 = nI ps ∧ FA z p J A ∧ FB z M B) := by
  obtain ⟨wX, X, nX, n0, n1, n2, n3⟩ := word_2 (w := w) hS hS' hc h
  have h34 := h.2.2.2.2.2.2.2.2.2.2.2
  have h32 := h.2.2.2.2.2.2.2.2.2.1
  have h8 := h.2.2.2.2.2.1
  have pss : ∀ {a : Nat} {J M : Nat → Nat → Int32}, TR z t a b J M → tkP b t a ≤ 300 := fun {a J M} h => by
    have := tk_ok (b := b) h.1
    have := h.2.1
    omega
  have w0 := wX 0 (by decide)
  unfold f_X0_readCue f_X12_readCue b_X12_readCue_25
  rw [cK_t (k36 hS)]
  simp only [w0, Option.bind_some]
  rw [cK_t (k82 hS'), nX, Option.bind_some]
  by_cases c0 : wqB 0 (tkS b t a) b (tkP b t a) (tkE b t a - tkP b t a) = true
  · rw [c0, if_neg (show ¬ bI true = 0 by decide), gI_t (k36 hS), Option.bind_some, e6, if_pos (n0.mpr c0), gI_t (k82 hS'), Option.bind_some, e38]
    by_cases c12 : n = 12
    · -- one too many
      subst c12
      have hTF := h.tf (c := 3) (by decide) (by decide)
      obtain ⟨v, hv⟩ := hTF.nam (w := w) hS'
      rw [if_neg (by decide), if_pos (show nI 12 = (12 : Int32) from rfl), cK_t (k82 hS'), show (3 : Int32) = nI 3 from rfl, bad_M hS' (nI 3) h34 h32, Option.bind_some, cK_t (k82 hS'), hv, Option.bind_some]
      have e38' : up2 (up2 M (z + 82) 34 (nI 3)) (z + 82) 35 (nI (tkP b t a)) (z + 82) 38 = nI 12 := by simp (disch := omega) only [un_1, un_2, un_3, un_4, es, up2_self]; exact e38
      rw [f42 hS' hTF (by decide) e38', f42 hS' hTF (by decide) e38']
      refine Or.inr ⟨3, tkP b t a, J, up2 (up2 M (z + 82) 34 (nI 3)) (z + 82) 35 (nI (tkP b t a)), by decide, by decide, rfl, ?_, pss h, h8, ?_, ?_, fun _ _ _ _ => rfl, fun o q p1 p2 => ?_⟩
      · split <;> rfl
      · simp (disch := omega) only [un_1, un_2, un_3, un_4, es, up2_self]
      · simp (disch := omega) only [un_1, un_2, un_3, un_4, es, up2_self]
      · simp (disch := omega) only [un_1, un_2, un_3, un_4, es, up2_self]
    · have hn12 : n < 12 := by omega
      rw [if_pos (show _ < (12 : Int32) from nI_lt (b := 12) hn12 (by decide)), if_neg (show ¬ nI n = (12 : Int32) by rw [show (nI n = (12 : Int32)) = (n = 12) from nIq (c := 12) (by omega) (by decide)]; exact c12)]
      rw [cK_t (k82 hS'), nX, Option.bind_some, if_pos (n0.mpr c0)]
      obtain ⟨A1, B1, a1, a2, a3, a4, a5⟩ := nxt_2 (w := w) hS hS' h
      have kr := rowK hS hp hn12
      obtain ⟨r, hr⟩ : ∃ r, r = p + 1 + n := ⟨_, rfl⟩
      have hr36 : r ≠ 36 := by omega
      have hr37 : r ≠ 37 := by omega
      have rC := fun (H : Nat → Nat → Int32) => rowC (J := H) (w := w) hS hp hn12
      rw [← hr] at kr
      have A6 : A1 (z + 36) 6 = nI n := by rw [a4 36 6 (by omega)]; exact e6
      have B38 : B1 (z + 82) 38 = nI n := by rw [a5 82 38 (by omega)]; exact e38
      -- the least frame
      obtain ⟨l, hl, lX, lM, lR⟩ : ∃ l, l ≤ 9999 ∧ ((if nI n = 0 then b_X0_readCue_63 (some (z + 36)) (some (z + r)) (some (z + 36)) (some (z + r)) (0 : Int32) (0 : Int32) (K, A1, R, w) else (gR (K, A1, R, w) (some (z + 36)) 0 5).bind fun v11 => (some (nI n)).bind fun v12 => (aR (K, A1, R, w) v11 18 (v12 - (1 : Int32))).bind fun v13 => (aI (K, A1, R, w) v13 14 (0 : Int32)).bind fun v14 => b_X0_readCue_63 (some (z + 36)) (some (z + r)) (some (z + 36)) (some (z + r)) (0 : Int32) v14 (K, A1, R, w)) = b_X0_readCue_63 (some (z + 36)) (some (z + r)) (some (z + 36)) (some (z + r)) (0 : Int32) (nI l) (K, A1, R, w)) ∧ ((if nI n = 0 then b_X12_readCue_70 (some (z + 82)) (some (z + 82)) (0 : Int32) (K, B1, R', w) else (gR (K, B1, R', w) (some (z + 82)) 11 39).bind fun v4 => (some (nI n)).bind fun v5 => (aI (K, B1, R', w) v4 14 (((4 : Int32) * v5) - (4 : Int32))).bind fun v6 => b_X12_readCue_70 (some (z + 82)) (some (z + 82)) v6 (K, B1, R', w)) = b_X12_readCue_70 (some (z + 82)) (some (z + 82)) (nI l) (K, B1, R', w)) ∧ (∀ i, i + 1 = n → M (z + 104) (4 * i) = nI l) := by
        by_cases z0 : n = 0
        · subst z0
          exact ⟨0, by decide, if_pos rfl, if_pos rfl, fun i hi => by omega⟩
        · obtain ⟨f, s, fa, fb, f1, f2, f3, f4, f5, f6, f7, f8, f9, f10, f11⟩ := hw.1 (n - 1) (by omega)
          refine ⟨f, f1, ?_, ?_, fun i hi => ?_⟩
          · have r1 := rowC (J := A1) (w := w) hS hp (show n - 1 < 12 by omega)
            have k1 := rowK hS hp (show n - 1 < 12 by omega)
            have v0 : A1 (z + (p + 1 + (n - 1))) 0 = nI f := by rw [a4 _ _ (by omega)]; exact f10
            have a0 : aI (K, A1, R, w) (some (z + (p + 1 + (n - 1)))) 14 0 = some (nI f) := (aI_t (j := 0) k1 (by decide) (by decide)).trans (by rw [v0])
            rw [if_neg (nI_ne0 (by omega) (by omega)), gR_t (k36 hS), Option.bind_some, r5, Option.bind_some, show nI n - 1 = nI (n - 1) from sub_nn (b := 1) (by omega), r1, Option.bind_some, a0, Option.bind_some]
          · have v0 : B1 (z + 104) (4 * n - 4) = nI f := by
              rw [a5 104 _ (by omega), show 4 * n - 4 = 4 * (n - 1) by omega]; exact f6
            rw [if_neg (nI_ne0 (by omega) (by omega)), gR_t (k82 hS'), Option.bind_some, rz82_39 hS', Option.bind_some, ix4, show nI (4 * n) - 4 = nI (4 * n - 4) from sub_nn (b := 4) (by omega), aI_t (kz104 hS') (by omega) (by decide), Option.bind_some, v0]
          · rw [show i = n - 1 by omega]; exact f6
      have eX : ((gR (K, J, R, w) (some (z + 36)) 0 5).bind fun v5 => (some (nI n)).bind fun v6 => (aR (K, J, R, w) v5 18 v6).bind fun v7 => cK (K, J, R, w) (some (z + 36)) 0 ((f_X0_nextToken (some (z + 36)) (K, J, R, w)).bind fun o8 => (gI o8 (some (z + 36)) 0 6).bind fun v9 => (if v9 = 0 then b_X0_readCue_63 (some (z + 36)) v7 (some (z + 36)) v7 (0 : Int32) (0 : Int32) o8 else (gR o8 (some (z + 36)) 0 5).bind fun v11 => (gI o8 (some (z + 36)) 0 6).bind fun v12 => (aR o8 v11 18 (v12 - (1 : Int32))).bind fun v13 => (aI o8 v13 14 (0 : Int32)).bind fun v14 => b_X0_readCue_63 (some (z + 36)) v7 (some (z + 36)) v7 (0 : Int32) v14 o8))) = b_X0_readCue_63 (some (z + 36)) (some (z + r)) (some (z + 36)) (some (z + r)) (0 : Int32) (nI l) (K, A1, R, w) := by
        rw [gR_t (k36 hS), Option.bind_some, r5, Option.bind_some, rC J, Option.bind_some, cK_t (k36 hS), a1, Option.bind_some, gI_t (k36 hS), Option.bind_some, A6, ← hr]
        exact lX
      have eM : b_X12_readCue_42 (some (z + 82)) (some (z + 82)) 1 (K, M, R', w) = b_X12_readCue_70 (some (z + 82)) (some (z + 82)) (nI l) (K, B1, R', w) := by
        unfold b_X12_readCue_42
        rw [cK_t (k82 hS'), take_1 hS' h34, a2, Option.bind_some, gI_t (k82 hS'), Option.bind_some, B38]
        exact lM
      rw [eX, eM]
      have FA1 : ∀ {A : Nat → Nat → Int32}, (∀ o q, ¬ (o = 36 ∧ 7 ≤ q ∧ q ≤ 9) → o ≠ r → A (z + o) q = A1 (z + o) q) → FA z p J A := fun {A} hA o q p1 p2 => by rw [hA o q (by omega) (by omega)]; exact a4 o q (by omega)
      unfold b_X0_readCue_63 b_X12_readCue_70
      rw [cK_t (k36 hS), cK_t (k82 hS')]
      rcases num_2 (w := w) (pl := 0) (l := l) (u := 9999) hS hS' a3 kr hr36 hr37 (by decide) hl (by decide) (x2 := 0) (lo := nI l) (hi := 9999) rfl rfl rfl with ⟨v, A2, B2, v1, v2, d1, d2, d3, d4, d5⟩ | ⟨c, x, cc, d1, d2⟩
      · rw [d1, Option.bind_some, if_pos rfl, cK_t (k36 hS), d2, Option.bind_some, cK_t (k82 hS')]
        have D2 := deed_2 (w := w) hS hS' hc d3 kr hr36 hr37 (nI v)
        unfold rst at D2
        rcases D2 with ⟨s, va, vb, a', A3, B3, s2, va2, vb2, sva, g1, g2, g3, g4, g5, g6, g7, g8, g9⟩ | ⟨c, a', A3, B3, ha', cc, g1, g2, g3, g4, g5, g6, g7⟩
        · rw [g1, Option.bind_some, g2]
          have q3 : (nI (tkS b t a') = (3 : Int32)) = (tkS b t a' = 3) := nIq (c := 3) (by have := (tk_ok (b := b) g3.1).2.2.2.1; omega) (by decide)
          have q4 : (nI (scd (tkS b t a')) = (4 : Int32)) = (tkS b t a' = 3) := by
            have := (tk_ok (b := b) g3.1).2.2.2.1
            rw [show (nI (scd (tkS b t a')) = (4 : Int32)) = (scd (tkS b t a') = 4) from nIq (c := 4) (by unfold scd; split <;> omega) (by decide)]
            refine propext ⟨fun q => ?_, fun q => by rw [q]; rfl⟩
            unfold scd at q; split at q <;> omega
          have g34 := g3.2.2.2.2.2.2.2.2.2.2.2
          have g32 := g3.2.2.2.2.2.2.2.2.2.1
          unfold b_X0_readCue_80 b_X12_readCue_189
          rw [if_pos rfl, gI_t (k36 hS), Option.bind_some, g3.2.2.2.2.1, gI_t (k82 hS'), Option.bind_some, g3.2.2.2.2.2.2.2.2.1]
          have fA3 : ∀ o q, ¬ (o = 36 ∧ 7 ≤ q ∧ q ≤ 9) → o ≠ r → A3 (z + o) q = A1 (z + o) q := fun o q p1 p2 => by rw [g8 o q p1 p2, d4 o q p1, un_1 (Or.inl p2)]
          have fB3 : ∀ o q, ¬ (o = 82 ∧ 30 ≤ q ∧ q ≤ 33) → B3 (z + o) q = M (z + o) q := fun o q p1 => by rw [g9 o q p1, d5 o q p1, a5 o q p1]
          by_cases cs : tkS b t a' = 3
          · -- the cue is whole
            have A36 : A3 (z + 36) 6 = nI n := by rw [fA3 36 6 (by omega) (by omega)]; exact A6
            have hT' : TR z t a' b (up2 A3 (z + 36) 6 (nI (n + 1))) B3 := by
              obtain ⟨y1, y2, y3, y4, y5, y6, y7, y8⟩ := g3
              exact ⟨y1, y2, y3.up (by decide), y4, by rw [un_1 (Or.inr (by decide))]; exact y5, by rw [un_1 (Or.inr (by decide))]; exact y6, by rw [un_1 (Or.inr (by decide))]; exact y7, y8⟩
            obtain ⟨A4, B4, i1, i2, i3, i4, i5⟩ := nxt_2 (w := w) hS hS' hT'
            have B338 : B3 (z + 82) 38 = nI n := by rw [fB3 82 38 (by omega)]; exact e38
            have w2 := w205 (w := w) hS' g3 hn12 B338 (nI v) (nI s) (nI va) (nI vb) i2 i3.2.2.2.2.2.2.2.2.2.2.2 (by rw [i5 82 38 (by omega)]; exact B338)
            obtain ⟨B5, hB5⟩ : ∃ B5, B5 = up2 (up2 (up2 (up2 (up2 B4 (z + 104) (4 * n) (nI v)) (z + 104) (4 * n + 1) (nI s)) (z + 104) (4 * n + 2) (nI va)) (z + 104) (4 * n + 3) (nI vb)) (z + 82) 38 (nI (n + 1)) := ⟨_, rfl⟩
            rw [← hB5] at w2
            have fB5 : ∀ o q, ¬ (o = 82 ∧ q = 38) → o ≠ 104 → B5 (z + o) q = B4 (z + o) q := fun o q p1 p2 => by rw [hB5]; simp (disch := omega) only [un_1, un_2, un_3, un_4, es, up2_self]
            have A4r : ∀ q, A4 (z + r) q = A3 (z + r) q := fun q => by rw [i4 r q (by omega), un_1 (Or.inl (by omega))]
            refine Or.inl ⟨tkE b t a', A4, B5, hn12, ?_, ?_, ?_, ?_, ?_, ?_, ?_, ?_⟩
            · unfold b_X0_readCue_94 b_X0_readCue_112
              rw [if_pos (by rw [q3]; exact cs), if_pos rfl, gI_t (k36 hS), Option.bind_some, A36, nI_1, pI_t (k36 hS), Option.bind_some, cK_t (k36 hS), i1, Option.bind_some]
            · rw [if_pos (by rw [q4]; exact cs)]
              exact w2
            · obtain ⟨y1, y2, y3, y4, y5, y6, y7, y8, y9, y10, y11, y12⟩ := i3
              exact ⟨y1, y2, y3, ⟨by rw [fB5 82 29 (by omega) (by omega)]; exact y4.1, fun k hk => by rw [fB5 102 k (by omega) (by omega)]; exact y4.2 k hk⟩, y5, y6, y7, by rw [fB5 _ _ (by omega) (by omega)]; exact y8, by rw [fB5 _ _ (by omega) (by omega)]; exact y9, by rw [fB5 _ _ (by omega) (by omega)]; exact y10, by rw [fB5 _ _ (by omega) (by omega)]; exact y11, by rw [fB5 _ _ (by omega) (by omega)]; exact y12⟩
            · rw [i4 36 6 (by omega), es]
            · rw [hB5, es]
            · have hMo : ∀ i, i < 4 * n → B5 (z + 104) i = M (z + 104) i := fun i hi => by
                rw [hB5]; simp (disch := omega) only [un_1, un_2, un_3, un_4, es, up2_self]; rw [i5 104 i (by omega)]; exact fB3 104 i (by omega)
              have hAo : ∀ i, i < n → A4 (z + (p + 1 + i)) = J (z + (p + 1 + i)) := fun i hi => funext fun q => by
                rw [i4 _ q (by omega), un_1 (Or.inl (by omega)), fA3 _ q (by omega) (by omega)]; exact a4 _ q (by omega)
              have old := hw.cg hAo hMo
              refine ⟨fun i hi => ?_, fun i hi => ?_⟩
              · by_cases ei : i = n
                · subst ei
                  rw [← hr]
                  refine ⟨v, s, va, vb, v2, va2, vb2, s2, sva, ?_, ?_, ?_, ?_, ?_, ?_, fun q => ?_, fun q => ?_⟩
                  · rw [hB5]; simp (disch := omega) only [un_1, un_2, un_3, un_4, es, up2_self]
                  · rw [hB5]; simp (disch := omega) only [un_1, un_2, un_3, un_4, es, up2_self]
                  · rw [hB5]; simp (disch := omega) only [un_1, un_2, un_3, un_4, es, up2_self]
                  · rw [hB5]; simp (disch := omega) only [un_1, un_2, un_3, un_4, es, up2_self]
                  · rw [A4r, g4, d4 r 0 (by omega), es]
                  · rw [A4r, g5]
                  · rw [A4r, g6 q]
                  · rw [A4r, g7 q]
                · exact old.1 i (by omega)
              · by_cases ei : i + 1 = n
                · have e1 : B5 (z + 104) (4 * i) = nI l := by rw [hMo _ (by omega)]; exact lR i ei
                  have e2 : B5 (z + 104) (4 * (i + 1)) = nI v := by rw [ei, hB5]; simp (disch := omega) only [un_1, un_2, un_3, un_4, es, up2_self]
                  rw [e1, e2]
                  exact nI_le v1 (by omega)
                · exact old.2 i (by omega)
            · intro o q p1 p2
              rw [i4 o q (by omega), un_1 (by omega)]
              exact FA1 fA3 o q p1 p2
            · intro o q p1 p2
              rw [fB5 o q (by omega) p2, i5 o q (by omega)]; exact fB3 o q (by omega)
          · -- no sign
            refine Or.inr ⟨1, tkP b t a', A3, up2 (up2 B3 (z + 82) 34 1) (z + 82) 35 (nI (tkP b t a')), by decide, by decide, ?_, ?_, pss g3, g3.2.2.2.2.2.1, ?_, ?_, FA1 fA3, fun o q p1 p2 => ?_⟩
            · unfold b_X0_readCue_94 b_X0_readCue_112
              rw [if_neg (by rw [q3]; exact cs), if_neg i10]; rfl
            · have n34 : ¬ up2 (up2 B3 (z + 82) 34 1) (z + 82) 35 (nI (tkP b t a')) (z + 82) 34 = 0 := by simp (disch := omega) only [un_1, un_2, un_3, un_4, es, up2_self]; decide
              rw [if_neg (by rw [q4]; exact cs)]
              unfold b_X12_readCue_205
              rw [cK_t (k82 hS'), take_0 hS' g34 g32, Option.bind_some, gI_t (k82 hS'), Option.bind_some, if_neg n34]
            · simp (disch := omega) only [un_1, un_2, un_3, un_4, es, up2_self]; rfl
            · simp (disch := omega) only [un_1, un_2, un_3, un_4, es, up2_self]
            · simp (disch := omega) only [un_1, un_2, un_3, un_4, es, up2_self]; exact fB3 o q (by omega)
        · have nc0 : ¬ nI c = 0 := nI_ne0 (by omega) (by omega)
          refine Or.inr ⟨c, tkP b t a', A3, B3, by omega, by omega, ?_, g2, ?_, g3, g4, g5, FA1 fun o q p1 p2 => ?_, fun o q p1 p2 => ?_⟩
          · rw [g1, Option.bind_some]
            unfold b_X0_readCue_80 b_X0_readCue_94 b_X0_readCue_112
            rw [if_neg nc0, if_neg nc0]
          · have := tk_ok (b := b) ha'
            have := h.2.1
            omega
          · rw [g6 o q p1 p2, d4 o q p1, un_1 (Or.inl p2)]
          · rw [g7 o q (by omega), d5 o q (by omega), a5 o q (by omega)]
      · have nc0 : ¬ nI c = 0 := nI_ne0 (by omega) (by omega)
        have hTF := a3.tf (c := c) (by omega) (by omega)
        refine Or.inr ⟨c, tkP b t (tkE b t a), A1, up2 (up2 B1 (z + 82) 34 (nI c)) (z + 82) 35 (nI (tkP b t (tkE b t a))), by omega, by omega, ?_, ?_, pss a3, a3.2.2.2.2.2.1, ?_, ?_, FA1 fun _ _ _ _ => rfl, fun o q p1 p2 => ?_⟩
        · rw [d1, Option.bind_some, if_neg nc0]
          unfold b_X0_readCue_80 b_X0_readCue_94 b_X0_readCue_112
          rw [if_neg nc0, if_neg nc0]
        · rw [d2, Option.bind_some, cK_t (k82 hS')]
          exact frst hS' hTF x
        · simp (disch := omega) only [un_1, un_2, un_3, un_4, es, up2_self]
        · simp (disch := omega) only [un_1, un_2, un_3, un_4, es, up2_self]
        · simp (disch := omega) only [un_1, un_2, un_3, un_4, es, up2_self]; exact a5 o q (by omega)
  · -- no 'at'
    have c0f : wqB 0 (tkS b t a) b (tkP b t a) (tkE b t a - tkP b t a) = false := by simpa using c0
    have m0 : ¬ lg_cmp X 24948 = 0 := fun q => c0 (n0.mp q)
    have hTF := h.tf (c := 1) (by decide) (by decide)
    have e38' : up2 (up2 M (z + 82) 34 (nI 1)) (z + 82) 35 (nI (tkP b t a)) (z + 82) 38 = nI n := by simp (disch := omega) only [un_1, un_2, un_3, un_4, es, up2_self]; exact e38
    rw [c0f, if_pos bI_f, if_neg m0, cK_t (k82 hS'), nX, Option.bind_some, if_neg m0]
    refine Or.inr ⟨1, tkP b t a, J, up2 (up2 M (z + 82) 34 (nI 1)) (z + 82) 35 (nI (tkP b t a)), by decide, by decide, rfl, ?_, pss h, h8, ?_, ?_, fun _ _ _ _ => rfl, fun o q p1 p2 => ?_⟩
    · have f := f42 (w := w) hS' hTF hn e38' 0
      unfold b_X12_readCue_42 at f ⊢
      rw [cK_t (k82 hS'), take_F hS' 0 hTF.2.2.2.2.2.2, Option.bind_some] at f
      rw [cK_t (k82 hS'), take_0 hS' h34 h32, Option.bind_some]
      exact f
    · simp (disch := omega) only [un_1, un_2, un_3, un_4, es, up2_self]
    · simp (disch := omega) only [un_1, un_2, un_3, un_4, es, up2_self]
    · simp (disch := omega) only [un_1, un_2, un_3, un_4, es, up2_self]
end C7
