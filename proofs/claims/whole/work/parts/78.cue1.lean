section C1
variable {z h k n m t q : Nat} {K : Nat → Nat × Nat} {I J : Nat → Nat → Int32} {R : Nat → Nat → Option Nat} {w : Nat} {b : Nat → Nat}
/-- sorts of bytes: blank 5, letter 1, figure 2, sign 3, else 4 -/
def clB (c : Nat) : Nat := if c = 32 ∨ c = 10 then 5 else if 97 ≤ c ∧ c ≤ 122 then 1 else if 48 ≤ c ∧ c ≤ 57 then 2 else if c = 59 then 3 else 4
def skB (b : Nat → Nat) (t : Nat) : Nat → Nat → Nat
  | 0, a => a
  | f + 1, a => if a < t ∧ clB (b a) = 5 then skB b t f (a + 1) else a
def rnB (b : Nat → Nat) (t s : Nat) : Nat → Nat → Nat
  | 0, a => a
  | f + 1, a => if a < t ∧ clB (b a) = s then rnB b t s f (a + 1) else a
theorem skB_p (b : Nat → Nat) (t : Nat) : ∀ f a, f + a = t → a ≤ skB b t f a ∧ skB b t f a ≤ t ∧ (skB b t f a < t → clB (b (skB b t f a)) ≠ 5) := by
  intro f
  induction f with
  | zero => intro a e; rw [skB]; exact ⟨Nat.le_refl _, by omega, fun q => by omega⟩
  | succ f ih =>
    intro a e
    rw [skB]
    by_cases c : a < t ∧ clB (b a) = 5
    · rw [if_pos c]
      obtain ⟨x1, x2, x3⟩ := ih (a + 1) (by omega)
      exact ⟨by omega, x2, x3⟩
    · rw [if_neg c]
      exact ⟨Nat.le_refl _, by omega, fun q h5 => c ⟨q, h5⟩⟩
theorem rnB_p (b : Nat → Nat) (t s : Nat) : ∀ f a, f + a = t → a ≤ rnB b t s f a ∧ rnB b t s f a ≤ t ∧ ∀ k, a ≤ k → k < rnB b t s f a → clB (b k) = s := by
  intro f
  induction f with
  | zero => intro a e; rw [rnB]; exact ⟨Nat.le_refl _, by omega, fun k h1 h2 => by omega⟩
  | succ f ih =>
    intro a e
    rw [rnB]
    by_cases c : a < t ∧ clB (b a) = s
    · rw [if_pos c]
      obtain ⟨x1, x2, x3⟩ := ih (a + 1) (by omega)
      refine ⟨by omega, x2, fun k h1 h2 => ?_⟩
      by_cases e : k = a
      · subst e; exact c.2
      · exact x3 k (by omega) h2
    · rw [if_neg c]
      exact ⟨Nat.le_refl _, by omega, fun k h1 h2 => by omega⟩
/-- where a token begins, of which sort its byte is, where it ends, of which sort it is -/
def tkP (b : Nat → Nat) (t a : Nat) : Nat := skB b t (t - a) a
def tkC (b : Nat → Nat) (t a : Nat) : Nat := if t ≤ tkP b t a then 0 else clB (b (tkP b t a))
def tkE (b : Nat → Nat) (t a : Nat) : Nat := if t ≤ tkP b t a then tkP b t a else if tkC b t a = 1 ∨ tkC b t a = 2 then rnB b t (tkC b t a) (t - (tkP b t a + 1)) (tkP b t a + 1) else tkP b t a + 1
def tkS (b : Nat → Nat) (t a : Nat) : Nat := if (tkC b t a = 1 ∧ 6 < tkE b t a - tkP b t a) ∨ (tkC b t a = 2 ∧ 4 < tkE b t a - tkP b t a) then 4 else tkC b t a
theorem clB_c (c : Nat) : clB c = 5 ∨ clB c = 1 ∨ clB c = 2 ∨ clB c = 3 ∨ clB c = 4 := by
  unfold clB
  repeat' split
  all_goals simp
theorem tk_ok {a : Nat} (ha : a ≤ t) : a ≤ tkP b t a ∧ tkP b t a ≤ tkE b t a ∧ tkE b t a ≤ t ∧ tkS b t a ≤ 4 ∧ tkC b t a ≤ 4 ∧ (tkS b t a = 1 → tkP b t a < tkE b t a ∧ tkE b t a - tkP b t a ≤ 6 ∧ ∀ k, tkP b t a ≤ k → k < tkE b t a → clB (b k) = 1) ∧ (tkS b t a = 2 → tkP b t a < tkE b t a ∧ tkE b t a - tkP b t a ≤ 4 ∧ ∀ k, tkP b t a ≤ k → k < tkE b t a → clB (b k) = 2) ∧ (tkS b t a ≠ 0 → tkP b t a < tkE b t a) := by
  obtain ⟨p1, p2, p3⟩ := skB_p b t (t - a) a (by omega)
  have p1 : a ≤ tkP b t a := p1
  have p2 : tkP b t a ≤ t := p2
  have p3 : tkP b t a < t → clB (b (tkP b t a)) ≠ 5 := p3
  by_cases c : t ≤ tkP b t a
  · have eC : tkC b t a = 0 := if_pos c
    have eE : tkE b t a = tkP b t a := if_pos c
    have eS : tkS b t a = 0 := by unfold tkS; rw [eC]; simp
    rw [eE, eS, eC]
    exact ⟨p1, Nat.le_refl _, p2, by omega, by omega, fun q => by omega, fun q => by omega, fun q => absurd rfl q⟩
  · have eC : tkC b t a = clB (b (tkP b t a)) := if_neg c
    have h5 := p3 (by omega)
    have cc := clB_c (b (tkP b t a))
    have hC4 : tkC b t a ≤ 4 := by rw [eC]; omega
    have hS : tkS b t a = 4 ∨ (tkS b t a = tkC b t a ∧ (tkC b t a = 1 → tkE b t a - tkP b t a ≤ 6) ∧ (tkC b t a = 2 → tkE b t a - tkP b t a ≤ 4)) := by
      unfold tkS
      by_cases c2 : (tkC b t a = 1 ∧ 6 < tkE b t a - tkP b t a) ∨ (tkC b t a = 2 ∧ 4 < tkE b t a - tkP b t a)
      · rw [if_pos c2]; exact Or.inl rfl
      · rw [if_neg c2]; exact Or.inr ⟨rfl, fun q => by omega, fun q => by omega⟩
    by_cases c3 : tkC b t a = 1 ∨ tkC b t a = 2
    · have eE : tkE b t a = rnB b t (tkC b t a) (t - (tkP b t a + 1)) (tkP b t a + 1) := by unfold tkE; rw [if_neg c, if_pos c3]
      obtain ⟨r1, r2, r3⟩ := rnB_p b t (tkC b t a) (t - (tkP b t a + 1)) (tkP b t a + 1) (by omega)
      rw [← eE] at r1 r2 r3
      have all : ∀ k, tkP b t a ≤ k → k < tkE b t a → clB (b k) = tkC b t a := fun k h1 h2 => by
        by_cases e : k = tkP b t a
        · rw [e, eC]
        · exact r3 k (by omega) h2
      refine ⟨p1, by omega, r2, by omega, hC4, fun q => ?_, fun q => ?_, fun _ => by omega⟩
      · have : tkC b t a = 1 := by omega
        exact ⟨by omega, by omega, fun k h1 h2 => by rw [all k h1 h2, this]⟩
      · have : tkC b t a = 2 := by omega
        exact ⟨by omega, by omega, fun k h1 h2 => by rw [all k h1 h2, this]⟩
    · have eE : tkE b t a = tkP b t a + 1 := by unfold tkE; rw [if_neg c, if_neg c3]
      exact ⟨p1, by omega, by omega, by omega, hC4, fun q => by omega, fun q => by omega, fun _ => by omega⟩
-- the class's tape
def TX (z t : Nat) (b : Nat → Nat) (J : Nat → Nat → Int32) : Prop := J (z + 36) 1 = nI t ∧ ∀ k, k < t → b k < 256 ∧ J (z + 37) k = (nI (b k)).toInt8.toInt32
def srt (x : Int32) : Int32 := if x = 32 then 5 else if x = 10 then 5 else if ¬ x < 97 ∧ ¬ 122 < x then 1 else if ¬ x < 48 ∧ ¬ 57 < x then 2 else if x = 59 then 3 else 4
theorem srt_X (x : Int32) (S : St) : f_X0_sortOf x S = some (srt x, S) := by
  unfold f_X0_sortOf b_X0_sortOf_28 b_X0_sortOf_42 srt
  by_cases c1 : x = 32
  · rw [if_pos c1, if_pos c1]
  · rw [if_neg c1, if_neg c1]
    by_cases c2 : x = 10
    · rw [if_pos c2, if_pos c2]
    · rw [if_neg c2, if_neg c2]
      by_cases c3 : x < 97 <;> by_cases c4 : 122 < x <;> by_cases c5 : x < 48 <;> by_cases c6 : 57 < x <;> by_cases c7 : x = 59 <;> simp [c3, c4, c5, c6, c7]
theorem srt_c : ∀ c, c < 256 → srt (nI c).toInt8.toInt32 = nI (clB c) := by decide +kernel
theorem k36 (hS : Shp z K R) : (K (z + 36)).1 = 0 + 1 := by rw [kz36 hS]
theorem sk_X (hS : Shp z K R) (ht : t ≤ 300) (hT : TX z t b J) : ∀ fu a, a ≤ t → t < fu + a → b_X0_nextToken_5 fu (some (z + 36)) (nI a) (K, J, R, w) = b_X0_nextToken_32 (some (z + 36)) (nI (skB b t (t - a) a)) (K, J, R, w) := by
  intro fu
  induction fu with
  | zero => intro a x y; omega
  | succ fu ih =>
    intro a x y
    rw [b_X0_nextToken_5, gI_t (k36 hS), Option.bind_some, hT.1]
    by_cases e : a = t
    · subst e
      rw [if_pos (nI_le (Nat.le_refl _) (by omega)), Nat.sub_self, skB]
    · have ha : a < t := by omega
      obtain ⟨b1, b2⟩ := hT.2 a ha
      rw [if_neg (nI_ge ha (by omega)), gR_t (k36 hS), Option.bind_some, rz36_0 hS, aI_t (kz37 hS) (by omega) (by decide), Option.bind_some, b2, srt_X, Option.bind_some, srt_c _ b1]
      rw [show t - a = (t - (a + 1)) + 1 by omega, skB]
      by_cases c : clB (b a) = 5
      · rw [if_pos (show nI (clB (b a)) = (5 : Int32) by rw [c]; rfl), if_pos ⟨ha, c⟩]
        unfold lt1
        try dsimp only
        rw [nI_1]
        exact ih (a + 1) (by omega) (by omega)
      · have : ¬ nI (clB (b a)) = (5 : Int32) := by
          rw [show (nI (clB (b a)) = (5 : Int32)) = (clB (b a) = 5) from nIq (c := 5) (by have := clB_c (b a); omega) (by decide)]; exact c
        rw [if_neg this, if_neg (fun q => c q.2)]
theorem TX.up {v : Int32} {c : Nat} (hT : TX z t b J) (hc : c ≠ 1) : TX z t b (up2 J (z + 36) c v) := ⟨by rw [un_1 (Or.inr (by omega))]; exact hT.1, fun k hk => by rw [un_1 (Or.inl (by omega))]; exact hT.2 k hk⟩
theorem rn_X (hS : Shp z K R) (ht : t ≤ 300) (hT : TX z t b J) {s : Nat} (hs5 : s ≤ 5) (e7 : J (z + 36) 7 = nI s) : ∀ fu a, a ≤ t → t < fu + a → b_X0_nextToken_97 fu (some (z + 36)) (K, up2 J (z + 36) 9 (nI a), R, w) = b_X0_nextToken_140 (some (z + 36)) (K, up2 J (z + 36) 9 (nI (rnB b t s (t - a) a)), R, w) := by
  intro fu
  induction fu with
  | zero => intro a x y; omega
  | succ fu ih =>
    intro a x y
    have h1 : up2 J (z + 36) 9 (nI a) (z + 36) 1 = nI t := by rw [un_1 (Or.inr (by decide))]; exact hT.1
    have h7 : up2 J (z + 36) 9 (nI a) (z + 36) 7 = nI s := by rw [un_1 (Or.inr (by decide))]; exact e7
    rw [b_X0_nextToken_97, gI_t (k36 hS), Option.bind_some, es, gI_t (k36 hS), Option.bind_some, h1]
    by_cases e : a = t
    · subst e
      rw [if_pos (nI_le (Nat.le_refl _) (by omega)), Nat.sub_self, rnB]
    · have ha : a < t := by omega
      obtain ⟨b1, b2⟩ := hT.2 a ha
      have h37 : up2 J (z + 36) 9 (nI a) (z + 37) a = (nI (b a)).toInt8.toInt32 := by rw [un_1 (Or.inl (by omega))]; exact b2
      rw [if_neg (nI_ge ha (by omega)), gR_t (k36 hS), Option.bind_some, rz36_0 hS, Option.bind_some, aI_t (kz37 hS) (by omega) (by decide), Option.bind_some, h37, srt_X, Option.bind_some, srt_c _ b1]
      simp only [gI_t (k36 hS), Option.bind_some, h7, es, pI_t (k36 hS)]
      rw [show t - a = (t - (a + 1)) + 1 by omega, rnB]
      have hq : (nI (clB (b a)) = nI s) = (clB (b a) = s) := nIq (by have := clB_c (b a); omega) (by omega)
      by_cases c : clB (b a) = s
      · rw [if_pos (by rw [c]), if_pos ⟨ha, c⟩, up2_2, nI_1]
        exact ih (a + 1) (by omega) (by omega)
      · rw [if_neg (by rw [hq]; exact c), if_neg (fun q => c q.2)]
theorem next_X (hS : Shp z K R) (ht : t ≤ 300) (hT : TX z t b J) {a : Nat} (ha : a ≤ t) (e9 : J (z + 36) 9 = nI a) : ∃ A, f_X0_nextToken (some (z + 36)) (K, J, R, w) = some (K, A, R, w) ∧ A (z + 36) 7 = nI (tkS b t a) ∧ A (z + 36) 8 = nI (tkP b t a) ∧ A (z + 36) 9 = nI (tkE b t a) ∧ ∀ o q, ¬ (o = 36 ∧ 7 ≤ q ∧ q ≤ 9) → A (z + o) q = J (z + o) q := by
  obtain ⟨p1, p2, p3, p4, p5, _⟩ := tk_ok (b := b) ha
  unfold f_X0_nextToken
  rw [gI_t (k36 hS), Option.bind_some, e9, sk_X hS ht hT FU a ha (by unfold FU; omega)]
  rw [show skB b t (t - a) a = tkP b t a from rfl]
  obtain ⟨J1, hJ1⟩ : ∃ J1, J1 = up2 J (z + 36) 8 (nI (tkP b t a)) := ⟨_, rfl⟩
  have T1 : TX z t b J1 := by rw [hJ1]; exact hT.up (by decide)
  unfold b_X0_nextToken_32
  rw [pI_t (k36 hS), Option.bind_some, ← hJ1, gI_t (k36 hS), Option.bind_some, T1.1]
  by_cases c : t ≤ tkP b t a
  · have eC : tkC b t a = 0 := if_pos c
    have eE : tkE b t a = tkP b t a := if_pos c
    have eS : tkS b t a = 0 := by unfold tkS; rw [eC]; simp
    obtain ⟨J2, hJ2⟩ : ∃ J2, J2 = up2 J1 (z + 36) 7 0 := ⟨_, rfl⟩
    have T2 : TX z t b J2 := by rw [hJ2]; exact T1.up (by decide)
    rw [if_pos (nI_le c (by omega))]
    unfold b_X0_nextToken_59
    rw [pI_t (k36 hS), Option.bind_some, ← hJ2, gI_t (k36 hS), Option.bind_some, T2.1, if_pos (nI_le c (by omega))]
    unfold b_X0_nextToken_78
    have e7 : up2 J2 (z + 36) 9 (nI (tkP b t a)) (z + 36) 7 = 0 := by rw [hJ2]; simp (disch := omega) only [un_1, un_2, un_3, un_4, es, up2_self]
    simp only [pI_t (k36 hS), Option.bind_some, gI_t (k36 hS), e7, show ¬ (0 : Int32) = 1 by decide, show ¬ (0 : Int32) = 2 by decide, if_false]
    refine ⟨_, rfl, ?_, ?_, ?_, fun o q ho => ?_⟩
    · rw [e7, eS]; rfl
    · rw [hJ2, hJ1]; simp (disch := omega) only [un_1, un_2, un_3, un_4, es, up2_self]
    · rw [eE]; simp (disch := omega) only [un_1, un_2, un_3, un_4, es, up2_self]
    · rw [hJ2, hJ1]; simp (disch := omega) only [un_1, un_2, un_3, un_4, es, up2_self]
  · have eC : tkC b t a = clB (b (tkP b t a)) := if_neg c
    have hp : tkP b t a < t := by omega
    obtain ⟨b1, b2⟩ := T1.2 _ hp
    obtain ⟨J2, hJ2⟩ : ∃ J2, J2 = up2 J1 (z + 36) 7 (nI (tkC b t a)) := ⟨_, rfl⟩
    have T2 : TX z t b J2 := by rw [hJ2]; exact T1.up (by decide)
    rw [if_neg (nI_ge hp (by omega)), gR_t (k36 hS), Option.bind_some, rz36_0 hS, aI_t (kz37 hS) (by omega) (by decide), Option.bind_some, b2, srt_X, Option.bind_some, srt_c _ b1, ← eC]
    unfold b_X0_nextToken_59
    rw [pI_t (k36 hS), Option.bind_some, ← hJ2, gI_t (k36 hS), Option.bind_some, T2.1, if_neg (nI_ge hp (by omega)), nI_1]
    unfold b_X0_nextToken_78
    have e7' : J2 (z + 36) 7 = nI (tkC b t a) := by rw [hJ2]; simp (disch := omega) only [un_1, un_2, un_3, un_4, es, up2_self]
    have e7 : up2 J2 (z + 36) 9 (nI (tkP b t a + 1)) (z + 36) 7 = nI (tkC b t a) := by rw [un_1 (Or.inr (by decide))]; exact e7'
    have q1 : (nI (tkC b t a) = (1 : Int32)) = (tkC b t a = 1) := nIq (c := 1) (by omega) (by decide)
    have q2 : (nI (tkC b t a) = (2 : Int32)) = (tkC b t a = 2) := nIq (c := 2) (by omega) (by decide)
    simp only [pI_t (k36 hS), Option.bind_some, gI_t (k36 hS), e7, q1, q2]
    by_cases c3 : tkC b t a = 1 ∨ tkC b t a = 2
    · have eE : tkE b t a = rnB b t (tkC b t a) (t - (tkP b t a + 1)) (tkP b t a + 1) := by unfold tkE; rw [if_neg c, if_pos c3]
      have rn := rn_X (w := w) hS ht T2 (s := tkC b t a) (by omega) e7' FU (tkP b t a + 1) (by omega) (by unfold FU; omega)
      rw [← eE] at rn
      have eif : ∀ X Y : Option St, (if tkC b t a = 1 then X else if tkC b t a = 2 then X else Y) = X := fun X Y => by
        rcases c3 with c3 | c3
        · rw [if_pos c3]
        · rw [if_neg (by omega), if_pos c3]
      rw [eif, rn]
      obtain ⟨J3, hJ3⟩ : ∃ J3, J3 = up2 J2 (z + 36) 9 (nI (tkE b t a)) := ⟨_, rfl⟩
      rw [← hJ3]
      have f7 : J3 (z + 36) 7 = nI (tkC b t a) := by rw [hJ3, un_1 (Or.inr (by decide))]; exact e7'
      have f8 : J3 (z + 36) 8 = nI (tkP b t a) := by rw [hJ3, hJ2, hJ1]; simp (disch := omega) only [un_1, un_2, un_3, un_4, es, up2_self]
      have f9 : J3 (z + 36) 9 = nI (tkE b t a) := by rw [hJ3, es]
      have f154 : ∀ M : Nat, M < 100 → ∀ s0 : Int32, s0 = nI M → b_X0_nextToken_154 (some (z + 36)) s0 (K, J3, R, w) = some (K, up2 J3 (z + 36) 7 (nI (if M < tkE b t a - tkP b t a then 4 else tkC b t a)), R, w) := fun M hM s0 hs0 => by
        unfold b_X0_nextToken_154 b_X0_nextToken_177
        simp only [gI_t (k36 hS), Option.bind_some, f7, f8, f9, pI_t (k36 hS), sub_nn p2, hs0]
        by_cases d : M < tkE b t a - tkP b t a
        · rw [if_neg (nI_ge d (by omega)), if_pos d]; rfl
        · rw [if_pos (nI_le (by omega) (by omega)), if_neg d]
      have fin : b_X0_nextToken_140 (some (z + 36)) (K, J3, R, w) = some (K, up2 J3 (z + 36) 7 (nI (tkS b t a)), R, w) := by
        unfold b_X0_nextToken_140
        rw [gI_t (k36 hS), Option.bind_some, f7]
        rcases c3 with c3 | c3
        · rw [if_pos (by rw [c3]; rfl), f154 6 (by decide) 6 rfl]
          have : (if 6 < tkE b t a - tkP b t a then 4 else tkC b t a) = tkS b t a := by
            unfold tkS
            by_cases d : 6 < tkE b t a - tkP b t a
            · rw [if_pos d, if_pos (Or.inl ⟨c3, d⟩)]
            · rw [if_neg d, if_neg (by omega)]
          rw [this]
        · rw [if_neg (by rw [q1]; omega), f154 4 (by decide) 4 rfl]
          have : (if 4 < tkE b t a - tkP b t a then 4 else tkC b t a) = tkS b t a := by
            unfold tkS
            by_cases d : 4 < tkE b t a - tkP b t a
            · rw [if_pos d, if_pos (Or.inr ⟨c3, d⟩)]
            · rw [if_neg d, if_neg (by omega)]
          rw [this]
      refine ⟨_, fin, es, ?_, ?_, fun o q ho => ?_⟩
      · rw [un_1 (Or.inr (by decide))]; exact f8
      · rw [un_1 (Or.inr (by decide))]; exact f9
      · rw [hJ3, hJ2, hJ1]; simp (disch := omega) only [un_1, un_2, un_3, un_4, es, up2_self]
    · have eE : tkE b t a = tkP b t a + 1 := by unfold tkE; rw [if_neg c, if_neg c3]
      have eS : tkS b t a = tkC b t a := by unfold tkS; rw [if_neg (by omega)]
      rw [if_neg (by omega), if_neg (by omega)]
      refine ⟨_, rfl, ?_, ?_, ?_, fun o q ho => ?_⟩
      · rw [e7, eS]
      · rw [hJ2, hJ1]; simp (disch := omega) only [un_1, un_2, un_3, un_4, es, up2_self]
      · rw [eE]; simp (disch := omega) only [un_1, un_2, un_3, un_4, es, up2_self]
      · rw [hJ2, hJ1]; simp (disch := omega) only [un_1, un_2, un_3, un_4, es, up2_self]
end C1
