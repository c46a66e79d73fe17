section C2
variable {z h k n m t q : Nat} {K : Nat → Nat × Nat} {I J : Nat → Nat → Int32} {R : Nat → Nat → Option Nat} {w : Nat} {b : Nat → Nat}
-- the reference's tape
def TMt (z t : Nat) (b : Nat → Nat) (J : Nat → Nat → Int32) : Prop := J (z + 82) 29 = nI t ∧ ∀ k, k < t → b k < 256 ∧ J (z + 102) k = nI (b k)
theorem TMt.up {v : Int32} {c : Nat} (hT : TMt z t b J) (hc : c ≠ 29) : TMt z t b (up2 J (z + 82) c v) := ⟨by rw [un_1 (Or.inr (by omega))]; exact hT.1, fun k hk => by rw [un_1 (Or.inl (by omega))]; exact hT.2 k hk⟩
theorem by_M (hS : Shp z K R) (ht : t ≤ 300) (hT : TMt z t b J) {a : Nat} (ha : a ≤ t) : f_X12_byteAt (some (z + 82)) (nI a) (K, J, R, w) = some (if a < t then nI (b a) else -1000000, K, J, R, w) := by
  unfold f_X12_byteAt
  rw [gI_t (k82 hS), Option.bind_some, hT.1]
  by_cases e : a < t
  · rw [if_neg (nI_ge e (by omega)), gR_t (k82 hS), Option.bind_some, rz82_26 hS, aI_t (kz102 hS) (by omega) (by decide), Option.bind_some, (hT.2 a e).2, if_pos e]
  · rw [if_pos (nI_le (by omega) (by omega)), if_neg e]
def ltV (x : Int32) : Int32 := if x < 97 then 0 else if 122 < x then 0 else 1
def fgV (x : Int32) : Int32 := if x < 48 then 0 else if 57 < x then 0 else 1
theorem let_M (x : Int32) (S : St) : f_X12_isLetter x S = some (ltV x, S) := by
  unfold f_X12_isLetter ltV
  by_cases c1 : x < 97
  · rw [if_pos c1, if_pos c1, zr_0]
  · rw [if_neg c1, if_neg c1]
    by_cases c2 : 122 < x
    · rw [if_pos c2, if_pos c2, zr_0]
    · rw [if_neg c2, if_neg c2, zr_1]
theorem fig_M (x : Int32) (S : St) : f_X12_isFigure x S = some (fgV x, S) := by
  unfold f_X12_isFigure fgV
  by_cases c1 : x < 48
  · rw [if_pos c1, if_pos c1, zr_0]
  · rw [if_neg c1, if_neg c1]
    by_cases c2 : 57 < x
    · rw [if_pos c2, if_pos c2, zr_0]
    · rw [if_neg c2, if_neg c2, zr_1]
theorem lt_c : ∀ c, c < 256 → ltV (nI c) = bI (decide (clB c = 1)) := by decide +kernel
theorem fg_c : ∀ c, c < 256 → fgV (nI c) = bI (decide (clB c = 2)) := by decide +kernel
theorem bl_c : ∀ c, c < 256 → (clB c = 5 ↔ nI c = 32 ∨ nI c = 10) ∧ ¬ nI c = (-1000000 : Int32) ∧ (nI c = 59 ↔ clB c = 3) := by decide +kernel
theorem sk_M (hS : Shp z K R) (ht : t ≤ 300) (hT : TMt z t b J) : ∀ fu a, a ≤ t → t < fu + a → b_X12_step_0 fu (some (z + 82)) (K, up2 J (z + 82) 30 (nI a), R, w) = b_X12_step_39 (some (z + 82)) (K, up2 J (z + 82) 30 (nI (skB b t (t - a) a)), R, w) := by
  intro fu
  induction fu with
  | zero => intro a x y; omega
  | succ fu ih =>
    intro a x y
    have T1 : TMt z t b (up2 J (z + 82) 30 (nI a)) := hT.up (by decide)
    rw [b_X12_step_0]
    simp only [gI_t (k82 hS), Option.bind_some, es, cK_t (k82 hS), by_M hS ht T1 x]
    by_cases e : a < t
    · obtain ⟨b1, b2⟩ := hT.2 a e
      obtain ⟨c1, c2, c3⟩ := bl_c (b a) b1
      rw [show t - a = (t - (a + 1)) + 1 by omega, skB, if_pos e]
      have nx : b_X12_step_26 (b_X12_step_0 fu) (some (z + 82)) (K, up2 J (z + 82) 30 (nI a), R, w) = b_X12_step_39 (some (z + 82)) (K, up2 J (z + 82) 30 (nI (skB b t (t - (a + 1)) (a + 1))), R, w) := by
        unfold b_X12_step_26
        rw [gI_t (k82 hS), Option.bind_some, es, pI_t (k82 hS), Option.bind_some, up2_2, nI_1]
        exact ih (a + 1) (by omega) (by omega)
      by_cases d1 : nI (b a) = 32
      · rw [if_pos d1, if_pos ⟨e, c1.mpr (Or.inl d1)⟩]
        exact nx
      · rw [if_neg d1]
        by_cases d2 : nI (b a) = 10
        · rw [if_pos d2, if_pos ⟨e, c1.mpr (Or.inr d2)⟩]
          exact nx
        · rw [if_neg d2, if_neg (fun q => (c1.mp q.2).elim d1 d2)]
    · rw [show t - a = 0 by omega, skB, if_neg e, if_neg (by decide), if_neg (by decide)]
theorem rl_M (hS : Shp z K R) (ht : t ≤ 300) (hT : TMt z t b J) : ∀ fu a, a ≤ t → t < fu + a → b_X12_step_77 fu (some (z + 82)) (K, up2 J (z + 82) 30 (nI a), R, w) = b_X12_step_104 (some (z + 82)) (K, up2 J (z + 82) 30 (nI (rnB b t 1 (t - a) a)), R, w) := by
  intro fu
  induction fu with
  | zero => intro a x y; omega
  | succ fu ih =>
    intro a x y
    have T1 : TMt z t b (up2 J (z + 82) 30 (nI a)) := hT.up (by decide)
    rw [b_X12_step_77]
    simp only [gI_t (k82 hS), Option.bind_some, es, cK_t (k82 hS), by_M hS ht T1 x, let_M]
    by_cases e : a < t
    · obtain ⟨b1, b2⟩ := hT.2 a e
      rw [show t - a = (t - (a + 1)) + 1 by omega, rnB, if_pos e, lt_c _ b1]
      by_cases c : clB (b a) = 1
      · rw [if_neg (show ¬ bI (decide (clB (b a) = 1)) = 0 by simp [c, bI]), if_pos ⟨e, c⟩, pI_t (k82 hS), Option.bind_some, up2_2, nI_1]
        exact ih (a + 1) (by omega) (by omega)
      · rw [if_pos (show bI (decide (clB (b a) = 1)) = 0 by simp [c, bI]), if_neg (fun q => c q.2)]
    · rw [show t - a = 0 by omega, rnB, if_neg e, if_pos (by decide)]
theorem rf_M (hS : Shp z K R) (ht : t ≤ 300) (hT : TMt z t b J) : ∀ fu a, a ≤ t → t < fu + a → b_X12_step_137 fu (some (z + 82)) (K, up2 J (z + 82) 30 (nI a), R, w) = b_X12_step_164 (some (z + 82)) (K, up2 J (z + 82) 30 (nI (rnB b t 2 (t - a) a)), R, w) := by
  intro fu
  induction fu with
  | zero => intro a x y; omega
  | succ fu ih =>
    intro a x y
    have T1 : TMt z t b (up2 J (z + 82) 30 (nI a)) := hT.up (by decide)
    rw [b_X12_step_137]
    simp only [gI_t (k82 hS), Option.bind_some, es, cK_t (k82 hS), by_M hS ht T1 x, fig_M]
    by_cases e : a < t
    · obtain ⟨b1, b2⟩ := hT.2 a e
      rw [show t - a = (t - (a + 1)) + 1 by omega, rnB, if_pos e, fg_c _ b1]
      by_cases c : clB (b a) = 2
      · rw [if_neg (show ¬ bI (decide (clB (b a) = 2)) = 0 by simp [c, bI]), if_pos ⟨e, c⟩, pI_t (k82 hS), Option.bind_some, up2_2, nI_1]
        exact ih (a + 1) (by omega) (by omega)
      · rw [if_pos (show bI (decide (clB (b a) = 2)) = 0 by simp [c, bI]), if_neg (fun q => c q.2)]
    · rw [show t - a = 0 by omega, rnB, if_neg e, if_pos (by decide)]
def scd (s : Nat) : Nat := if s = 4 then 0 else s + 1
theorem step_M (hS : Shp z K R) (ht : t ≤ 300) (hT : TMt z t b J) {a : Nat} (ha : a ≤ t) (e30 : J (z + 82) 30 = nI a) : ∃ A, f_X12_step (some (z + 82)) (K, J, R, w) = some (K, A, R, w) ∧ A (z + 82) 30 = nI (tkE b t a) ∧ A (z + 82) 31 = nI (scd (tkS b t a)) ∧ A (z + 82) 32 = nI (tkP b t a) ∧ A (z + 82) 33 = nI (tkE b t a) ∧ ∀ o q, ¬ (o = 82 ∧ 30 ≤ q ∧ q ≤ 33) → A (z + o) q = J (z + o) q := by
  obtain ⟨p1, p2, p3, p4, p5, _⟩ := tk_ok (b := b) ha
  have sk := sk_M (w := w) hS ht hT FU a ha (by unfold FU; omega)
  rw [up2_id e30] at sk
  unfold f_X12_step
  rw [sk, show skB b t (t - a) a = tkP b t a from rfl]
  obtain ⟨J1, hJ1⟩ : ∃ J1, J1 = up2 (up2 J (z + 82) 30 (nI (tkP b t a))) (z + 82) 32 (nI (tkP b t a)) := ⟨_, rfl⟩
  have T1 : TMt z t b J1 := by rw [hJ1]; exact (hT.up (by decide)).up (by decide)
  have e1 : J1 (z + 82) 30 = nI (tkP b t a) := by rw [hJ1]; simp (disch := omega) only [un_1, un_2, un_3, un_4, es, up2_self]
  have e2 : J1 (z + 82) 32 = nI (tkP b t a) := by rw [hJ1]; simp (disch := omega) only [un_1, un_2, un_3, un_4, es, up2_self]
  unfold b_X12_step_39
  rw [gI_t (k82 hS), Option.bind_some, es, pI_t (k82 hS), Option.bind_some, ← hJ1, gI_t (k82 hS), Option.bind_some, e1, cK_t (k82 hS), by_M hS ht T1 (by omega), Option.bind_some]
  by_cases c : t ≤ tkP b t a
  · have eC : tkC b t a = 0 := if_pos c
    have eE : tkE b t a = tkP b t a := if_pos c
    have eS : tkS b t a = 0 := by unfold tkS; rw [eC]; simp
    have e1' : up2 J1 (z + 82) 31 1 (z + 82) 30 = nI (tkP b t a) := by simp (disch := omega) only [un_1, un_2, un_3, un_4, es, up2_self]; exact e1
    simp only [if_neg (show ¬ tkP b t a < t by omega), if_true, pI_t (k82 hS), Option.bind_some, b_X12_step_214, gI_t (k82 hS), e1']
    refine ⟨_, rfl, ?_, ?_, ?_, ?_, fun o q ho => ?_⟩
    · rw [eE]; simp (disch := omega) only [un_1, un_2, un_3, un_4, es, up2_self]; exact e1
    · rw [eS]; simp (disch := omega) only [un_1, un_2, un_3, un_4, es, up2_self]; rfl
    · simp (disch := omega) only [un_1, un_2, un_3, un_4, es, up2_self]; exact e2
    · rw [eE]; simp (disch := omega) only [un_1, un_2, un_3, un_4, es, up2_self]
    · rw [hJ1]; simp (disch := omega) only [un_1, un_2, un_3, un_4, es, up2_self]
  · have hp : tkP b t a < t := by omega
    have eC : tkC b t a = clB (b (tkP b t a)) := if_neg c
    obtain ⟨b1, b2⟩ := T1.2 _ hp
    obtain ⟨c1, c2, c3⟩ := bl_c _ b1
    have fin : ∀ (A : Nat → Nat → Int32) (s1 : Int32), A (z + 82) 30 = nI (tkE b t a) → A (z + 82) 32 = nI (tkP b t a) → (∀ o q, ¬ (o = 82 ∧ 30 ≤ q ∧ q ≤ 33) → A (z + o) q = J (z + o) q) → s1 = nI (scd (tkS b t a)) → ∃ A', b_X12_step_214 (some (z + 82)) (K, up2 A (z + 82) 31 s1, R, w) = some (K, A', R, w) ∧ A' (z + 82) 30 = nI (tkE b t a) ∧ A' (z + 82) 31 = nI (scd (tkS b t a)) ∧ A' (z + 82) 32 = nI (tkP b t a) ∧ A' (z + 82) 33 = nI (tkE b t a) ∧ ∀ o q, ¬ (o = 82 ∧ 30 ≤ q ∧ q ≤ 33) → A' (z + o) q = J (z + o) q := by
      intro A s1 a30 a32 fA hs1
      have a30' : up2 A (z + 82) 31 s1 (z + 82) 30 = nI (tkE b t a) := by simp (disch := omega) only [un_1, un_2, un_3, un_4, es, up2_self]; exact a30
      unfold b_X12_step_214
      rw [gI_t (k82 hS), Option.bind_some, a30', pI_t (k82 hS), Option.bind_some]
      refine ⟨_, rfl, ?_, ?_, ?_, ?_, fun o q ho => ?_⟩
      · simp (disch := omega) only [un_1, un_2, un_3, un_4, es, up2_self]; exact a30
      · simp (disch := omega) only [un_1, un_2, un_3, un_4, es, up2_self]; exact hs1
      · simp (disch := omega) only [un_1, un_2, un_3, un_4, es, up2_self]; exact a32
      · simp (disch := omega) only [un_1, un_2, un_3, un_4, es, up2_self]
      · simp (disch := omega) only [un_1, un_2, un_3, un_4, es, up2_self]; exact fA o q ho
    rw [if_pos hp, if_neg c2, let_M, Option.bind_some, lt_c _ b1, ← eC]
    have f1 : ∀ v : Int32, ∀ o q, ¬ (o = 82 ∧ 30 ≤ q ∧ q ≤ 33) → up2 J1 (z + 82) 30 v (z + o) q = J (z + o) q := fun v o q ho => by rw [hJ1]; simp (disch := omega) only [un_1, un_2, un_3, un_4, es, up2_self]
    by_cases c3' : tkC b t a = 1
    · have eE : tkE b t a = rnB b t 1 (t - (tkP b t a + 1)) (tkP b t a + 1) := by unfold tkE; rw [if_neg c, if_pos (Or.inl c3'), c3']
      have eR : rnB b t 1 (t - tkP b t a) (tkP b t a) = tkE b t a := by
        rw [show t - tkP b t a = (t - (tkP b t a + 1)) + 1 by omega, rnB, if_pos ⟨hp, by rw [← eC]; exact c3'⟩, eE]
      have rl := rl_M (w := w) hS ht T1 FU (tkP b t a) (by omega) (by unfold FU; omega)
      rw [up2_id e1, eR] at rl
      rw [if_neg (show ¬ bI (decide (tkC b t a = 1)) = 0 by simp [c3', bI]), rl]
      have g30 : up2 J1 (z + 82) 30 (nI (tkE b t a)) (z + 82) 30 = nI (tkE b t a) := es
      have g32 : up2 J1 (z + 82) 30 (nI (tkE b t a)) (z + 82) 32 = nI (tkP b t a) := by simp (disch := omega) only [un_1, un_2, un_3, un_4, es, up2_self]; exact e2
      unfold b_X12_step_104 b_X12_step_124
      simp only [gI_t (k82 hS), Option.bind_some, g30, g32, sub_nn p2, pI_t (k82 hS)]
      by_cases d : 6 < tkE b t a - tkP b t a
      · have eS : tkS b t a = 4 := by unfold tkS; rw [if_pos (Or.inl ⟨c3', d⟩)]
        rw [if_neg (show ¬ _ ≤ (6 : Int32) from nI_ge (a := 6) d (by omega))]
        exact fin _ 0 g30 g32 (f1 _) (by rw [eS]; rfl)
      · have eS : tkS b t a = 1 := by unfold tkS; rw [if_neg (by omega), c3']
        rw [if_pos (show _ ≤ (6 : Int32) from nI_le (b := 6) (by omega) (by decide))]
        exact fin _ 2 g30 g32 (f1 _) (by rw [eS]; rfl)
    · rw [if_pos (show bI (decide (tkC b t a = 1)) = 0 by simp [c3', bI]), fig_M, Option.bind_some, fg_c _ b1, ← eC]
      by_cases c4 : tkC b t a = 2
      · have eE : tkE b t a = rnB b t 2 (t - (tkP b t a + 1)) (tkP b t a + 1) := by unfold tkE; rw [if_neg c, if_pos (Or.inr c4), c4]
        have eR : rnB b t 2 (t - tkP b t a) (tkP b t a) = tkE b t a := by
          rw [show t - tkP b t a = (t - (tkP b t a + 1)) + 1 by omega, rnB, if_pos ⟨hp, by rw [← eC]; exact c4⟩, eE]
        have rl := rf_M (w := w) hS ht T1 FU (tkP b t a) (by omega) (by unfold FU; omega)
        rw [up2_id e1, eR] at rl
        rw [if_neg (show ¬ bI (decide (tkC b t a = 2)) = 0 by simp [c4, bI]), rl]
        have g30 : up2 J1 (z + 82) 30 (nI (tkE b t a)) (z + 82) 30 = nI (tkE b t a) := es
        have g32 : up2 J1 (z + 82) 30 (nI (tkE b t a)) (z + 82) 32 = nI (tkP b t a) := by simp (disch := omega) only [un_1, un_2, un_3, un_4, es, up2_self]; exact e2
        unfold b_X12_step_164 b_X12_step_183
        simp only [gI_t (k82 hS), Option.bind_some, g30, g32, sub_nn p2, pI_t (k82 hS)]
        by_cases d : 4 < tkE b t a - tkP b t a
        · have eS : tkS b t a = 4 := by unfold tkS; rw [if_pos (Or.inr ⟨c4, d⟩)]
          rw [if_neg (show ¬ _ ≤ (4 : Int32) from nI_ge (a := 4) d (by omega))]
          exact fin _ 0 g30 g32 (f1 _) (by rw [eS]; rfl)
        · have eS : tkS b t a = 2 := by unfold tkS; rw [if_neg (by omega), c4]
          rw [if_pos (show _ ≤ (4 : Int32) from nI_le (b := 4) (by omega) (by decide))]
          exact fin _ 3 g30 g32 (f1 _) (by rw [eS]; rfl)
      · have eE : tkE b t a = tkP b t a + 1 := by unfold tkE; rw [if_neg c, if_neg (by omega)]
        have eS : tkS b t a = tkC b t a := by unfold tkS; rw [if_neg (by omega)]
        rw [if_pos (show bI (decide (tkC b t a = 2)) = 0 by simp [c4, bI]), gI_t (k82 hS), Option.bind_some, e1, pI_t (k82 hS), Option.bind_some, nI_1, ← eE]
        have g30 : up2 J1 (z + 82) 30 (nI (tkE b t a)) (z + 82) 30 = nI (tkE b t a) := es
        have g32 : up2 J1 (z + 82) 30 (nI (tkE b t a)) (z + 82) 32 = nI (tkP b t a) := by simp (disch := omega) only [un_1, un_2, un_3, un_4, es, up2_self]; exact e2
        unfold b_X12_step_211
        by_cases d : nI (b (tkP b t a)) = 59
        · rw [if_pos d, pI_t (k82 hS), Option.bind_some]
          exact fin _ 4 g30 g32 (f1 _) (by rw [eS, eC, c3.mp d]; rfl)
        · have : tkC b t a = 4 := by
            have cc := clB_c (b (tkP b t a))
            have d3 : ¬ clB (b (tkP b t a)) = 3 := fun q => d (c3.mpr q)
            have := (skB_p b t (t - a) a (by omega)).2.2 hp
            have : clB (b (tkP b t a)) ≠ 5 := this
            omega
          rw [if_neg d, pI_t (k82 hS), Option.bind_some]
          exact fin _ 0 g30 g32 (f1 _) (by rw [eS, this]; rfl)
end C2
