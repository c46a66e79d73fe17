section P4
variable {z h k n m t q : Nat} {K : Nat → Nat × Nat} {I J : Nat → Nat → Int32} {R : Nat → Nat → Option Nat} {w : Nat}
theorem gx_M (hS : Shp z K R) (hq : q < 8) (hF : FM z I J) (hn : RStroke z K I R q n) (b : Int32) {i : Nat} (hi : i < n) : f_X12_at (some (z + 82)) (nI q) b (nI i) (K, J, R, w) = some (nI (8 * q + pt b n i), K, J, R, w) ∧ aI (K, J, R, w) (some (z + 87)) 14 (nI (8 * q + pt b n i)) = some (gX z q n I b i) ∧ aI (K, J, R, w) (some (z + 88)) 14 (nI (8 * q + pt b n i)) = some (gY z q n I b i) := by
  have hn8 := hn.2.1
  have := pt_lt (b := b) hi
  refine ⟨at_M hS hq (hF.st hn) b hi, ?_, ?_⟩
  · rw [aI_t (kz87 hS) (by omega) (by decide), hF _ _ (by omega) (by omega) (by omega) (by omega)]; rfl
  · rw [aI_t (kz88 hS) (by omega) (by decide), hF _ _ (by omega) (by omega) (by omega) (by omega)]; rfl
theorem hold_M (hS : Shp z K R) (hq : q < 8) (hF : FM z I J) (hn : RStroke z K I R q n) (b : Int32) {i : Nat} (h1 : 1 ≤ i) (hi : i + 1 < n) : f_X12_holds (some (z + 82)) (nI (8 * q + pt b n (i - 1))) (nI (8 * q + pt b n i)) (nI (8 * q + pt b n (i + 1))) (K, J, R, w) = some (nI (holdI (gX z q n I b i - gX z q n I b (i - 1)) (gY z q n I b i - gY z q n I b (i - 1)) (gX z q n I b (i + 1) - gX z q n I b i) (gY z q n I b (i + 1) - gY z q n I b i)), K, J, R, w) := by
  have a0 := gx_M (w := w) hS hq hF hn b (show i - 1 < n by omega)
  have a1 := gx_M (w := w) hS hq hF hn b (show i < n by omega)
  have a2 := gx_M (w := w) hS hq hF hn b hi
  unfold f_X12_holds
  simp only [gR_t (k82 hS), rz82_7 hS, rz82_8 hS, Option.bind_some, a0.2.1, a0.2.2, a1.2.1, a1.2.2, a2.2.1, a2.2.2, lt1]
  exact hold_eq _ _ _ _ _
theorem pts_Ml (hS : Shp z K R) (hq : q < 8) (hn : RStroke z K I R q n) (b : Int32) {p wt k0 : Nat} (hp : 1 ≤ p) (hp2 : p ≤ 1000) (hw : wt ≤ 5) (e0 : I (z + 92) 0 = nI p) (e1 : I (z + 92) 1 = nI wt) (rc : Option Nat → Int32 → St → Option St) : ∀ fu f i L (J : Nat → Nat → Int32), FM z I J → PM z L (gX z q n I b (i - 1)) (gY z q n I b (i - 1)) J → 1 ≤ i → i ≤ n → n < fu + i → n ≤ f + i → ∃ A, b_X12_make_101 rc fu (some (z + 82)) (nI k0) (nI q) b (nI n) (nI i) (K, J, R, w) = rc (some (z + 82)) (nI (k0 + 1)) (K, A, R, w) ∧ PM z (L ++ ptsL (nI p) n (gX z q n I b) (gY z q n I b) f i ++ stL wt (gX z q n I b (n - 1)) (gY z q n I b (n - 1)) 0) (gX z q n I b (n - 1)) (gY z q n I b (n - 1)) A ∧ FM z J A := by
  have hn8 := hn.2.1
  intro fu
  induction fu with
  | zero => intro f i L J _ _ a b; omega
  | succ fu ih =>
    intro f i L J hF hP i1 i2 i3 i4
    rw [b_X12_make_101]
    by_cases c : i = n
    · subst c
      obtain ⟨A, r1, r2, r3⟩ := stay_M (w := w) hS (Or.inl rfl) hw hP
      refine ⟨A, ?_, ?_, r3⟩
      · have a1 : aI (K, J, R, w) (some (z + 92)) 14 1 = some (nI wt) := (aI_t (j := 1) (kz92 hS) (by decide) (by decide)).trans (by rw [hF _ _ (by omega) (by omega) (by omega) (by omega), e1])
        rw [if_pos (nI_le (Nat.le_refl _) (by omega))]
        unfold b_X12_make_191
        rw [gR_t (k82 hS), Option.bind_some, rz82_12 hS, a1, Option.bind_some, cK_t (k82 hS), r1, Option.bind_some]
        unfold lt1
        rw [nI_1]
      · have : ptsL (nI p) i (gX z q i I b) (gY z q i I b) f i = [] := by
          cases f with
          | zero => rfl
          | succ f => rw [ptsL, if_neg (by omega)]
        rw [this, List.append_nil]
        exact r2
    · have hi : i < n := by omega
      obtain ⟨f, rfl⟩ : ∃ f', f = f' + 1 := ⟨f - 1, by omega⟩
      have hf0 := gXf hn b (show i - 1 < n by omega)
      have hf1 := gXf hn b hi
      have g0 := gx_M (w := w) hS hq hF hn b hi
      obtain ⟨A1, r1, r2, r3⟩ := move_Mf (w := w) hS (Or.inr rfl) hp hp2 (by rw [hF _ _ (by omega) (by omega) (by omega) (by omega), e0]) hf0.1 hf0.2 hf1.1 hf1.2 hP
      have hF1 := hF.tr r3
      by_cases c2 : i + 1 < n
      · obtain ⟨A2, s1, s2, s3⟩ := stay_M (w := w) hS (Or.inr rfl) (holdI_le (gX z q n I b i - gX z q n I b (i - 1)) (gY z q n I b i - gY z q n I b (i - 1)) (gX z q n I b (i + 1) - gX z q n I b i) (gY z q n I b (i + 1) - gY z q n I b i)) r2
        obtain ⟨A, u1, u2, u3⟩ := ih f (i + 1) _ A2 (hF1.tr s3) s2 (by omega) (by omega) (by omega) (by omega)
        refine ⟨A, ?_, ?_, (r3.tr s3).tr u3⟩
        · have b0 := gx_M (w := w) hS hq hF1 hn b (show i - 1 < n by omega)
          have b1 := gx_M (w := w) hS hq hF1 hn b hi
          have b2 := gx_M (w := w) hS hq hF1 hn b c2
          rw [if_neg (nI_ge hi (by omega))]
          simp only [gR_t (k82 hS), rz82_7 hS, rz82_8 hS, Option.bind_some, cK_t (k82 hS), g0.1, g0.2.1, g0.2.2, r1, nI_1, if_neg (nI_ge c2 (by omega)), show nI i - 1 = nI (i - 1) from sub_nn (b := 1) i1, b0.1, b1.1, b2.1, hold_M hS hq hF1 hn b i1 c2, s1, b_X12_make_185, lt1]
          exact u1
        · rw [ptsL, if_pos hi, if_pos c2]
          simpa [List.append_assoc] using u2
      · obtain ⟨A, u1, u2, u3⟩ := ih f (i + 1) _ A1 hF1 r2 (by omega) (by omega) (by omega) (by omega)
        refine ⟨A, ?_, ?_, r3.tr u3⟩
        · rw [if_neg (nI_ge hi (by omega))]
          simp only [gR_t (k82 hS), rz82_7 hS, rz82_8 hS, Option.bind_some, cK_t (k82 hS), g0.1, g0.2.1, g0.2.2, r1, nI_1, if_pos (nI_le (show n ≤ i + 1 by omega) (by omega)), b_X12_make_185, lt1]
          exact u1
        · rw [ptsL, if_pos hi, if_neg c2]
          simpa [List.append_assoc] using u2
theorem all_Ml (hS : Shp z K R) (h8 : h ≤ 8) (hs : RStrokes z h K I R) (hp9 : RPlan z h I) {p wt : Nat} (hp : 1 ≤ p) (hp2 : p ≤ 1000) (hw : wt ≤ 5) (e0 : I (z + 92) 0 = nI p) (e1 : I (z + 92) 1 = nI wt) : ∀ fu f k L x y (J : Nat → Nat → Int32), FM z I J → PM z L x y J → fld x → fld y → k ≤ h → h < fu + k → h ≤ f + k → ∃ A, b_X12_make_22 fu (some (z + 82)) (nI k) (K, J, R, w) = f_X12_throwMirrors (some (z + 82)) (K, A, R, w) ∧ PM z (L ++ planL (nI p) wt (I (z + 86)) (I (z + 87)) (I (z + 88)) (I (z + 89)) (I (z + 90)) h f k x y) 0 0 A ∧ FM z J A := by
  intro fu
  induction fu with
  | zero => intro f k L x y J _ _ _ _ a b; omega
  | succ fu ih =>
    intro f k L x y J hF hP hx hy i1 i2 i3
    rw [b_X12_make_22, gI_t (k82 hS), Option.bind_some, hF 82 5 (by omega) (by omega) (by omega) (by omega), hs.2.1]
    have ep : J (z + 92) 0 = nI p := by rw [hF _ _ (by omega) (by omega) (by omega) (by omega), e0]
    by_cases c : k = h
    · subst c
      obtain ⟨A, r1, r2, r3⟩ := move_Mf (w := w) hS (Or.inl rfl) hp hp2 ep hx hy fld_0 fld_0 hP
      refine ⟨A, ?_, ?_, r3⟩
      · rw [if_pos (nI_le (Nat.le_refl _) (by omega))]
        unfold b_X12_make_208
        rw [cK_t (k82 hS), r1, Option.bind_some, cK_t (k82 hS)]
        cases f_X12_throwMirrors (some (z + 82)) (K, A, R, w) <;> rfl
      · have : planL (nI p) wt (I (z + 86)) (I (z + 87)) (I (z + 88)) (I (z + 89)) (I (z + 90)) k f k x y = mvL (nI p) x y 0 0 0 := by
          cases f with
          | zero => rfl
          | succ f => rw [planL, if_neg (by omega)]
        rw [this]
        exact r2
    · have hk : k < h := by omega
      obtain ⟨f, rfl⟩ : ∃ f', f = f' + 1 := ⟨f - 1, by omega⟩
      obtain ⟨q, hq, e4, e89, e5, e90⟩ := hp9 k hk
      obtain ⟨n, hn⟩ := hs.2.2 q hq
      have hq8 : q < 8 := by omega
      have hn8 := hn.2.1
      have hn1 := hn.1
      have hf9 := gXf hn (I (z + 90) k) (show n - 1 < n by omega)
      have hf0 := gXf hn (I (z + 90) k) hn1
      have g0 := gx_M (w := w) hS hq8 hF hn (I (z + 90) k) hn1
      obtain ⟨A1, r1, r2, r3⟩ := move_Mf (w := w) hS (Or.inl rfl) hp hp2 ep hx hy hf0.1 hf0.2 hP
      obtain ⟨A2, s1, s2, s3⟩ := stay_M (w := w) hS (Or.inl rfl) hw r2
      obtain ⟨A3, t1, t2, t3⟩ := stay_M (w := w) hS (Or.inr rfl) (show 1 ≤ 5 by decide) s2
      have hF3 := ((hF.tr r3).tr s3).tr t3
      obtain ⟨A4, v1, v2, v3⟩ := pts_Ml (w := w) (k0 := k) hS hq8 hn (I (z + 90) k) hp hp2 hw e0 e1 (b_X12_make_22 fu) FU n 1 _ A3 hF3 t2 (by omega) (by omega) (by unfold FU; omega) (by omega)
      obtain ⟨A, u1, u2, u3⟩ := ih f (k + 1) _ _ _ A4 (hF3.tr v3) v2 hf9.1 hf9.2 (by omega) (by omega) (by omega)
      refine ⟨A, ?_, ?_, (((r3.tr s3).tr t3).tr v3).tr u3⟩
      · have j4 : J (z + 89) k = nI q := by rw [hF _ _ (by omega) (by omega) (by omega) (by omega)]; exact e89
        have j5 : J (z + 90) k = I (z + 90) k := hF _ _ (by omega) (by omega) (by omega) (by omega)
        have j6 : J (z + 86) q = nI n := by rw [hF _ _ (by omega) (by omega) (by omega) (by omega)]; exact hn.2.2.1
        have a1 : aI (K, A1, R, w) (some (z + 92)) 14 1 = some (nI wt) := (aI_t (j := 1) (kz92 hS) (by decide) (by decide)).trans (by rw [(hF.tr r3) _ _ (by omega) (by omega) (by omega) (by omega), e1])
        rw [show nI 0 = 0 from rfl] at g0
        rw [show nI 1 = 1 from rfl] at t1 v1
        rw [if_neg (nI_ge hk (by omega))]
        simp only [gR_t (k82 hS), rz82_9 hS, rz82_10 hS, rz82_6 hS, rz82_7 hS, rz82_8 hS, rz82_12 hS, Option.bind_some, aI_t (kz89 hS) (show k < 8 by omega) (by decide), j4, aI_t (kz90 hS) (show k < 8 by omega) (by decide), j5, aI_t (kz86 hS) hq8 (by decide), j6, cK_t (k82 hS), g0.1, g0.2.1, g0.2.2, r1, a1, s1, t1]
        rw [v1]
        exact u1
      · rw [planL, if_pos hk, e89, nI_clamp (by omega), hn.2.2.1, nI_clamp (by omega)]
        have : strokeL (nI p) wt n (gX z q n I (I (z + 90) k)) (gY z q n I (I (z + 90) k)) x y = mvL (nI p) x y (gX z q n I (I (z + 90) k) 0) (gY z q n I (I (z + 90) k) 0) 0 ++ stL wt (gX z q n I (I (z + 90) k) 0) (gY z q n I (I (z + 90) k) 0) 0 ++ stL 1 (gX z q n I (I (z + 90) k) 0) (gY z q n I (I (z + 90) k) 0) 1 ++ ptsL (nI p) n (gX z q n I (I (z + 90) k)) (gY z q n I (I (z + 90) k)) n 1 ++ stL wt (gX z q n I (I (z + 90) k) (n - 1)) (gY z q n I (I (z + 90) k) (n - 1)) 0 := rfl
        rw [← List.append_assoc]
        have e : L ++ strokeL (nI p) wt n (gX z q n I (I (z + 90) k)) (gY z q n I (I (z + 90) k)) x y = L ++ mvL (nI p) x y (gX z q n I (I (z + 90) k) 0) (gY z q n I (I (z + 90) k) 0) 0 ++ stL wt (gX z q n I (I (z + 90) k) 0) (gY z q n I (I (z + 90) k) 0) 0 ++ stL 1 (gX z q n I (I (z + 90) k) 0) (gY z q n I (I (z + 90) k) 0) 1 ++ ptsL (nI p) n (gX z q n I (I (z + 90) k)) (gY z q n I (I (z + 90) k)) n 1 ++ stL wt (gX z q n I (I (z + 90) k) (n - 1)) (gY z q n I (I (z + 90) k) (n - 1)) 0 := by
          rw [this]; simp [List.append_assoc]
        rw [← e] at u2
        exact u2
theorem make_M (hS : Shp z K R) (h8 : h ≤ 8) (hs : RStrokes z h K I R) (hp9 : RPlan z h I) {p wt : Nat} (hp : 1 ≤ p) (hp2 : p ≤ 1000) (hw : wt ≤ 5) (e0 : I (z + 92) 0 = nI p) (e1 : I (z + 92) 1 = nI wt) : ∃ A, f_X12_make (some (z + 82)) (K, I, R, w) = f_X12_throwMirrors (some (z + 82)) (K, A, R, w) ∧ PM z (TKL z h I) 0 0 A ∧ FM z I A := by
  obtain ⟨B, hB⟩ : ∃ B, B = up2 (up2 (up2 (up2 I (z + 82) 15 0) (z + 82) 16 0) (z + 82) 24 0) (z + 82) 25 0 := ⟨_, rfl⟩
  have FB : FM z I B := fun o q x1 x2 x3 x4 => by rw [hB]; simp (disch := omega) only [un_1, un_2, un_3, un_4, es, up2_self]
  have PB : PM z [] 0 0 B := by
    refine ⟨fun _ => ?_, fun q => absurd q (by simp), ?_, ?_⟩
    · rw [hB]
      simp (disch := omega) only [un_1, un_2, un_3, un_4, es, up2_self]
      exact ⟨rfl, trivial, fun i hi => absurd hi (by simp)⟩
    · rw [hB]; simp (disch := omega) only [un_1, un_2, un_3, un_4, es, up2_self]
    · rw [hB]; simp (disch := omega) only [un_1, un_2, un_3, un_4, es, up2_self]
  obtain ⟨A, r1, r2, r3⟩ := all_Ml (w := w) hS h8 hs hp9 hp hp2 hw e0 e1 FU h 0 [] 0 0 B FB PB fld_0 fld_0 (by omega) (by unfold FU; omega) (by omega)
  refine ⟨A, ?_, ?_, FB.tr r3⟩
  · unfold f_X12_make
    rw [pI_t (k82 hS), Option.bind_some, pI_t (k82 hS), Option.bind_some, pI_t (k82 hS), Option.bind_some, pI_t (k82 hS), Option.bind_some, ← hB]
    rw [show nI 0 = 0 from rfl] at r1
    exact r1
  · unfold TKL
    rw [e0, e1, nI_clamp (by omega)]
    exact r2
end P4
