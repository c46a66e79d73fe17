section P3
variable {z h k n m t q : Nat} {K : Nat → Nat × Nat} {I J : Nat → Nat → Int32} {R : Nat → Nat → Option Nat} {w : Nat}
/-- a place of the field -/
def fld (x : Int32) : Prop := ∃ a, a ≤ 1000 ∧ x = nI a
theorem fld_0 : fld 0 := ⟨0, by decide, rfl⟩
theorem move_Xf (hS : Shp z K R) {lit x0 y0 x1 y1 : Int32} (hl : lit = 0 ∨ lit = 1) {p : Nat} (hp : 1 ≤ p) (hp2 : p ≤ 1000) (h0 : fld x0) (h1 : fld y0) (h2 : fld x1) (h3 : fld y1) {L : List (Int32 × Int32 × Int32)} (hP : PX z L x0 y0 J) : ∃ A, f_X3_moveTo (some (z + 12)) x1 y1 (nI p) lit (K, J, R, w) = some (K, A, R, w) ∧ PX z (L ++ mvL (nI p) x0 y0 x1 y1 lit) x1 y1 A ∧ FX z J A := by
  obtain ⟨a, ha, rfl⟩ := h0
  obtain ⟨b, hb, rfl⟩ := h1
  obtain ⟨c, hc, rfl⟩ := h2
  obtain ⟨d, hd, rfl⟩ := h3
  exact move_X hS hl hp hp2 ha hb hc hd hP
theorem move_Mf (hS : Shp z K R) {lit x0 y0 x1 y1 : Int32} (hl : lit = 0 ∨ lit = 1) {p : Nat} (hp : 1 ≤ p) (hp2 : p ≤ 1000) (ep : J (z + 92) 0 = nI p) (h0 : fld x0) (h1 : fld y0) (h2 : fld x1) (h3 : fld y1) {L : List (Int32 × Int32 × Int32)} (hP : PM z L x0 y0 J) : ∃ A, f_X12_move (some (z + 82)) x1 y1 lit (K, J, R, w) = some (K, A, R, w) ∧ PM z (L ++ mvL (nI p) x0 y0 x1 y1 lit) x1 y1 A ∧ FM z J A := by
  obtain ⟨a, ha, rfl⟩ := h0
  obtain ⟨b, hb, rfl⟩ := h1
  obtain ⟨c, hc, rfl⟩ := h2
  obtain ⟨d, hd, rfl⟩ := h3
  exact move_M hS hl hp hp2 ep ha hb hc hd hP
/-- point i of a stroke that is gone in direction b -/
def gX (z q n : Nat) (I : Nat → Nat → Int32) (b : Int32) (i : Nat) : Int32 := I (z + 87) (8 * q + pt b n i)
def gY (z q n : Nat) (I : Nat → Nat → Int32) (b : Int32) (i : Nat) : Int32 := I (z + 88) (8 * q + pt b n i)
theorem gXf (hn : RStroke z K I R q n) (b : Int32) {i : Nat} (hi : i < n) : fld (gX z q n I b i) ∧ fld (gY z q n I b i) := by
  obtain ⟨x, y, x1, y1, -, a, -, c⟩ := hn.2.2.2.2.2.2.2.2.2 _ (pt_lt (b := b) hi)
  exact ⟨⟨x, x1, a⟩, ⟨y, y1, c⟩⟩
theorem FX.st (hF : FX z I J) (hn : RStroke z K I R q n) : RStroke z K J R q n := hn.fr fun o l p => hF o l (by unfold fpStrokes at p; omega) (by unfold fpStrokes at p; omega) (by unfold fpStrokes at p; omega) (by unfold fpStrokes at p; omega)
theorem FM.st (hF : FM z I J) (hn : RStroke z K I R q n) : RStroke z K J R q n := hn.fr fun o l p => hF o l (by unfold fpStrokes at p; omega) (by unfold fpStrokes at p; omega) (by unfold fpStrokes at p; omega) (by unfold fpStrokes at p; omega)
theorem gx_X (hF : FX z I J) (hn : RStroke z K I R q n) (b : Int32) {i : Nat} (hi : i < n) : f_X8_xAt (some (z + (108 + 3 * q))) (nI (pt b n i)) (K, J, R, w) = some (gX z q n I b i, K, J, R, w) ∧ f_X8_yAt (some (z + (108 + 3 * q))) (nI (pt b n i)) (K, J, R, w) = some (gY z q n I b i, K, J, R, w) := by
  have hJ := hF.st hn
  rw [xAt_X hJ (pt_lt hi), yAt_X hJ (pt_lt hi), hF _ _ (by omega) (by omega) (by omega) (by omega), hF _ _ (by omega) (by omega) (by omega) (by omega), ← (hn.xx (pt_lt hi)).1, ← (hn.xx (pt_lt hi)).2]
  exact ⟨rfl, rfl⟩
theorem hold_X (hF : FX z I J) (hn : RStroke z K I R q n) (b : Int32) {i : Nat} (h1 : 1 ≤ i) (hi : i + 1 < n) : f_X3_holdsAt (some (z + (108 + 3 * q))) (nI i) b (K, J, R, w) = some (nI (holdI (gX z q n I b i - gX z q n I b (i - 1)) (gY z q n I b i - gY z q n I b (i - 1)) (gX z q n I b (i + 1) - gX z q n I b i) (gY z q n I b (i + 1) - gY z q n I b i)), K, J, R, w) := by
  have hJ := hF.st hn
  unfold f_X3_holdsAt
  simp only [k3_s hn.kc, show nI i - 1 = nI (i - 1) from sub_nn (b := 1) h1, nI_1, gone_X hJ b (show i - 1 < n by omega), gone_X hJ b (show i < n by omega), gone_X hJ b hi, Option.bind_some, (gx_X hF hn b (show i - 1 < n by omega)).1, (gx_X hF hn b (show i - 1 < n by omega)).2, (gx_X hF hn b (show i < n by omega)).1, (gx_X hF hn b (show i < n by omega)).2, (gx_X hF hn b hi).1, (gx_X hF hn b hi).2, lt1]
  exact hold_eq _ _ _ _ _
theorem pts_Xl (hS : Shp z K R) (hn : RStroke z K I R q n) (b : Int32) {p wt : Nat} (hp : 1 ≤ p) (hp2 : p ≤ 1000) (hw : wt ≤ 5) : ∀ fu f i L (J : Nat → Nat → Int32), FX z I J → PX z L (gX z q n I b (i - 1)) (gY z q n I b (i - 1)) J → 1 ≤ i → i ≤ n → n < fu + i → n ≤ f + i → ∃ A, b_X3_drawOne_42 fu (some (z + 12)) (some (z + (108 + 3 * q))) b (nI p) (nI wt) (nI i) (K, J, R, w) = some (K, A, R, w) ∧ PX z (L ++ ptsL (nI p) n (gX z q n I b) (gY z q n I b) f i ++ stL wt (gX z q n I b (n - 1)) (gY z q n I b (n - 1)) 0) (gX z q n I b (n - 1)) (gY z q n I b (n - 1)) A ∧ FX z J A := by
  have k12 : (K (z + 12)).1 = 3 + 1 := by rw [kz12 hS]
  have hn8 := hn.2.1
  intro fu
  induction fu with
  | zero => intro f i L J _ _ a b; omega
  | succ fu ih =>
    intro f i L J hF hP i1 i2 i3 i4
    have hJ := hF.st hn
    rw [b_X3_drawOne_42]
    by_cases c : i = n
    · subst c
      obtain ⟨A, r1, r2, r3⟩ := stay_X (w := w) hS (Or.inl rfl) hw hP
      refine ⟨A, ?_, ?_, r3⟩
      · rw [k3_s hn.kc, pts_X hJ, Option.bind_some, if_pos (nI_le (Nat.le_refl _) (by omega))]
        unfold b_X3_drawOne_107
        rw [cK_t k12, r1, Option.bind_some]
      · have : ptsL (nI p) i (gX z q i I b) (gY z q i I b) f i = [] := by
          cases f with
          | zero => rfl
          | succ f => rw [ptsL, if_neg (by omega)]
        rw [this, List.append_nil]
        exact r2
    · have hi : i < n := by omega
      obtain ⟨f, rfl⟩ : ∃ f', f = f' + 1 := ⟨f - 1, by omega⟩
      have hf0 := gXf hn b (show i - 1 < n by omega)
      have hf1 := gXf hn b hi
      obtain ⟨A1, r1, r2, r3⟩ := move_Xf (w := w) hS (Or.inr rfl) hp hp2 hf0.1 hf0.2 hf1.1 hf1.2 hP
      have hF1 := hF.tr r3
      have hJ1 := hF1.st hn
      have pre : ∀ X : Int32 × St → Option St, (k3 (K, J, R, w) (some (z + (108 + 3 * q))) (f_X8_points (some (z + (108 + 3 * q))) (K, J, R, w)) (f_X8_points (some (z + (108 + 3 * q))) (K, J, R, w)) (f_X8_points (some (z + (108 + 3 * q))) (K, J, R, w))).bind X = X (nI n, K, J, R, w) := fun X => by rw [k3_s hn.kc, pts_X hJ, Option.bind_some]
      by_cases c2 : i + 1 < n
      · obtain ⟨A2, s1, s2, s3⟩ := stay_X (w := w) hS (Or.inr rfl) (holdI_le (gX z q n I b i - gX z q n I b (i - 1)) (gY z q n I b i - gY z q n I b (i - 1)) (gX z q n I b (i + 1) - gX z q n I b i) (gY z q n I b (i + 1) - gY z q n I b i)) r2
        obtain ⟨A, u1, u2, u3⟩ := ih f (i + 1) _ A2 (hF1.tr s3) s2 (by omega) (by omega) (by omega) (by omega)
        refine ⟨A, ?_, ?_, (r3.tr s3).tr u3⟩
        · rw [pre, if_neg (nI_ge hi (by omega))]
          simp only [k3_s hn.kc, gone_X hJ b hi, (gx_X hF hn b hi).1, (gx_X hF hn b hi).2, Option.bind_some, cK_t k12, r1, pts_X hJ1, show nI n - 1 = nI (n - 1) from sub_nn (b := 1) (by omega), if_neg (nI_ge (show i < n - 1 by omega) (by omega)), hold_X hF1 hn b i1 c2, s1, b_X3_drawOne_101, lt1, nI_1]
          exact u1
        · rw [ptsL, if_pos hi, if_pos c2]
          simpa [List.append_assoc] using u2
      · obtain ⟨A, u1, u2, u3⟩ := ih f (i + 1) _ A1 hF1 r2 (by omega) (by omega) (by omega) (by omega)
        refine ⟨A, ?_, ?_, r3.tr u3⟩
        · rw [pre, if_neg (nI_ge hi (by omega))]
          simp only [k3_s hn.kc, gone_X hJ b hi, (gx_X hF hn b hi).1, (gx_X hF hn b hi).2, Option.bind_some, cK_t k12, r1, pts_X hJ1, show nI n - 1 = nI (n - 1) from sub_nn (b := 1) (by omega), if_pos (nI_le (show n - 1 ≤ i by omega) (by omega)), b_X3_drawOne_101, lt1, nI_1]
          exact u1
        · rw [ptsL, if_pos hi, if_neg c2]
          simpa [List.append_assoc] using u2
theorem one_X (hS : Shp z K R) (hF : FX z I J) (hn : RStroke z K I R q n) (b : Int32) {p wt : Nat} (hp : 1 ≤ p) (hp2 : p ≤ 1000) (hw : wt ≤ 5) {x y : Int32} (hx : fld x) (hy : fld y) {L : List (Int32 × Int32 × Int32)} (hP : PX z L x y J) : ∃ A, f_X3_drawOne (some (z + 12)) (some (z + (108 + 3 * q))) b (nI p) (nI wt) (K, J, R, w) = some (K, A, R, w) ∧ PX z (L ++ strokeL (nI p) wt n (gX z q n I b) (gY z q n I b) x y) (gX z q n I b (n - 1)) (gY z q n I b (n - 1)) A ∧ FX z J A := by
  have k12 : (K (z + 12)).1 = 3 + 1 := by rw [kz12 hS]
  have hn1 := hn.1
  have hn8 := hn.2.1
  have hJ := hF.st hn
  have hf0 := gXf hn b (show 0 < n by omega)
  obtain ⟨A1, r1, r2, r3⟩ := move_Xf (w := w) hS (Or.inl rfl) hp hp2 hx hy hf0.1 hf0.2 hP
  obtain ⟨A2, s1, s2, s3⟩ := stay_X (w := w) hS (Or.inl rfl) hw r2
  obtain ⟨A3, t1, t2, t3⟩ := stay_X (w := w) hS (Or.inr rfl) (show 1 ≤ 5 by decide) s2
  obtain ⟨A, u1, u2, u3⟩ := pts_Xl (w := w) hS hn b hp hp2 hw FU n 1 _ A3 (((hF.tr r3).tr s3).tr t3) t2 (by omega) (by omega) (by unfold FU; omega) (by omega)
  refine ⟨A, ?_, ?_, ((r3.tr s3).tr t3).tr u3⟩
  · have g0 := gone_X (w := w) hJ b (i := 0) hn1
    rw [show nI 0 = 0 from rfl] at g0
    rw [show nI 1 = 1 from rfl] at t1 u1
    unfold f_X3_drawOne
    rw [k3_s hn.kc, g0, Option.bind_some, k3_s hn.kc, (gx_X hF hn b hn1).1, Option.bind_some, k3_s hn.kc, (gx_X hF hn b hn1).2, Option.bind_some, cK_t k12, r1, Option.bind_some, cK_t k12, s1, Option.bind_some, cK_t k12, t1, Option.bind_some]
    exact u1
  · unfold strokeL
    simpa [List.append_assoc] using u2
/-- the strokes as they are planned -/
theorem all_Xl (hS : Shp z K R) (h8 : h ≤ 8) (hs : RStrokes z h K I R) (hp9 : RPlan z h I) {p wt : Nat} (hp : 1 ≤ p) (hp2 : p ≤ 1000) (hw : wt ≤ 5) : ∀ fu f k L x y (J : Nat → Nat → Int32), FX z I J → PX z L x y J → fld x → fld y → k ≤ h → h < fu + k → h ≤ f + k → ∃ A ax ay, b_X3_drawAll_23 fu (some (z + 12)) (some (z + 2)) (nI p) (nI wt) (nI k) (K, J, R, w) = some (K, A, R, w) ∧ PX z (L ++ planL (nI p) wt (I (z + 86)) (I (z + 87)) (I (z + 88)) (I (z + 89)) (I (z + 90)) h f k x y) ax ay A ∧ FX z J A := by
  have k12 : (K (z + 12)).1 = 3 + 1 := by rw [kz12 hS]
  have k2' : (K (z + 2)).1 = 8 + 1 := by rw [kz2 hS]
  intro fu
  induction fu with
  | zero => intro f k L x y J _ _ _ _ a b; omega
  | succ fu ih =>
    intro f k L x y J hF hP hx hy i1 i2 i3
    rw [b_X3_drawAll_23, gI_t k2', Option.bind_some, hF 2 3 (by omega) (by omega) (by omega) (by omega), hs.1]
    by_cases c : k = h
    · subst c
      obtain ⟨A, r1, r2, r3⟩ := move_Xf (w := w) hS (Or.inl rfl) hp hp2 hx hy fld_0 fld_0 hP
      refine ⟨A, 0, 0, ?_, ?_, r3⟩
      · rw [if_pos (nI_le (Nat.le_refl _) (by omega))]
        unfold b_X3_drawAll_78
        rw [cK_t k12, r1, Option.bind_some]
      · have : planL (nI p) wt (I (z + 86)) (I (z + 87)) (I (z + 88)) (I (z + 89)) (I (z + 90)) k f k x y = mvL (nI p) x y 0 0 0 := by
          cases f with
          | zero => rfl
          | succ f => rw [planL, if_neg (by omega)]
        rw [this]
        exact r2
    · have hk : k < h := by omega
      rw [if_neg (nI_ge hk (by omega)), gI_t k12, Option.bind_some]
      by_cases c2 : L.length ≤ 2000
      · obtain ⟨f, rfl⟩ : ∃ f', f = f' + 1 := ⟨f - 1, by omega⟩
        obtain ⟨q, hq, e4, e89, e5, e90⟩ := hp9 k hk
        obtain ⟨n, hn⟩ := hs.2.2 q hq
        have hn8 := hn.2.1
        have hn1 := hn.1
        have hf9 := gXf hn (I (z + 90) k) (show n - 1 < n by omega)
        obtain ⟨A1, r1, r2, r3⟩ := one_X (w := w) hS hF hn (I (z + 90) k) hp hp2 hw hx hy hP
        obtain ⟨A, ax, ay, u1, u2, u3⟩ := ih f (k + 1) _ _ _ A1 (hF.tr r3) r2 hf9.1 hf9.2 (by omega) (by omega) (by omega)
        refine ⟨A, ax, ay, ?_, ?_, r3.tr u3⟩
        · have j4 : J (z + 4) k = nI q := by rw [hF 4 k (by omega) (by omega) (by omega) (by omega)]; exact e4
          have j5 : J (z + 5) k = I (z + 90) k := by rw [hF 5 k (by omega) (by omega) (by omega) (by omega)]; exact e90.symm
          have j3 : J (z + 2) 3 = nI h := by rw [hF 2 3 (by omega) (by omega) (by omega) (by omega)]; exact hs.1
          rw [(hP.1 c2).2.1, if_pos rfl]
          simp only [gR_t k2', rz2_1 hS, rz2_2 hS, Option.bind_some, aI_t (kz4 hS) (show k < 8 by omega) (by decide), j4, cK_t k2', at_X hS j3 h8 hq hn, reduceCtorEq, if_false, aI_t (kz5 hS) (show k < 8 by omega) (by decide), j5, cK_t k12, r1, b_X3_drawAll_72, lt1, nI_1]
          exact u1
        · rw [planL, if_pos hk, e89, nI_clamp (by omega), hn.2.2.1, nI_clamp (by omega)]
          rw [← List.append_assoc]
          exact u2
      · have o4 := hP.2 (by omega)
        rw [o4, if_neg i10]
        refine ⟨J, 0, 0, ?_, ⟨fun q => by rw [List.length_append] at q; omega, fun _ => o4⟩, FX.rf⟩
        unfold b_X3_drawAll_78
        rw [cK_t k12, move_X2 hS (nI_ne0 (by omega) (by omega)) (nI_le (a := 1) hp (by omega)) o4, Option.bind_some]
theorem draw_X (hS : Shp z K R) (h8 : h ≤ 8) (hs : RStrokes z h K I R) (hp9 : RPlan z h I) {p wt : Nat} (hp : 1 ≤ p) (hp2 : p ≤ 1000) (hw : wt ≤ 5) (e0 : I (z + 92) 0 = nI p) (e1 : I (z + 92) 1 = nI wt) : ∃ A ax ay, f_X3_drawAll (some (z + 12)) (some (z + 2)) (nI p) (nI wt) (K, I, R, w) = some (K, A, R, w) ∧ PX z (TKL z h I) ax ay A ∧ FX z I A := by
  have k12 : (K (z + 12)).1 = 3 + 1 := by rw [kz12 hS]
  obtain ⟨B, hB⟩ : ∃ B, B = up2 (up2 (up2 (up2 I (z + 12) 3 0) (z + 12) 4 0) (z + 12) 5 0) (z + 12) 6 0 := ⟨_, rfl⟩
  have FB : FX z I B := fun o q x1 x2 x3 x4 => by rw [hB]; simp (disch := omega) only [un_1, un_2, un_3, un_4, es, up2_self]
  have PB : PX z [] 0 0 B := by
    refine ⟨fun _ => ?_, fun q => absurd q (by simp)⟩
    rw [hB]
    simp (disch := omega) only [un_1, un_2, un_3, un_4, es, up2_self]
    exact ⟨rfl, trivial, trivial, trivial, fun i hi => absurd hi (by simp)⟩
  obtain ⟨A, ax, ay, r1, r2, r3⟩ := all_Xl (w := w) hS h8 hs hp9 hp hp2 hw FU h 0 [] 0 0 B FB PB fld_0 fld_0 (by omega) (by unfold FU; omega) (by omega)
  refine ⟨A, ax, ay, ?_, ?_, FB.tr r3⟩
  · unfold f_X3_drawAll
    rw [pI_t k12, Option.bind_some, pI_t k12, Option.bind_some, pI_t k12, Option.bind_some, pI_t k12, Option.bind_some, ← hB]
    rw [show nI 0 = 0 from rfl] at r1
    exact r1
  · unfold TKL
    rw [e0, e1, nI_clamp (by omega)]
    exact r2
end P3
