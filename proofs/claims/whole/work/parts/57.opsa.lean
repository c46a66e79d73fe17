section OA
variable {z h k n m t : Nat} {K : Nat → Nat × Nat} {I J : Nat → Nat → Int32} {R : Nat → Nat → Option Nat} {w : Nat}
theorem c64_le (a b : Int64) : lg_cmp a b ≤ 0 ↔ a ≤ b := by
  unfold lg_cmp
  by_cases h1 : a > b
  · rw [if_pos h1]
    exact ⟨fun q => absurd q (by decide), fun q => absurd h1 (Int64.not_lt.mpr q)⟩
  · rw [if_neg h1]
    refine ⟨fun _ => Int64.not_lt.mp h1, fun _ => ?_⟩
    split <;> decide
theorem c64_gt (a b : Int64) : 0 < lg_cmp a b ↔ ¬ a ≤ b := by
  rw [← c64_le, Int32.not_le]
theorem ti_sub {a b : Int32} (h1 : -2147483648 ≤ a.toInt - b.toInt) (h2 : a.toInt - b.toInt < 2147483648) : (a - b).toInt = a.toInt - b.toInt := by
  rw [Int32.toInt_sub]; exact Int.bmod_eq_of_le (by omega) (by omega)
theorem ti_add {a b : Int32} (h1 : -2147483648 ≤ a.toInt + b.toInt) (h2 : a.toInt + b.toInt < 2147483648) : (a + b).toInt = a.toInt + b.toInt := by
  rw [Int32.toInt_add]; exact Int.bmod_eq_of_le (by omega) (by omega)
theorem ti_add64 (a b : Int32) : (a.toInt64 + b.toInt64).toInt = a.toInt + b.toInt := by
  have l1 := Int32.le_toInt a
  have l2 := Int32.toInt_lt a
  have l3 := Int32.le_toInt b
  have l4 := Int32.toInt_lt b
  rw [Int64.toInt_add, Int32.toInt_toInt64, Int32.toInt_toInt64]; exact Int.bmod_eq_of_le (by omega) (by omega)
/-- whether a sheet of m items has n from x on, in both -/
theorem has_2 (x n : Int32) {m : Nat} (hm : m ≤ 40) : (∃ i c, x = nI i ∧ n = nI c ∧ i + c ≤ m ∧ hs x n (nI m) = 1 ∧ x.toInt64 + n.toInt64 ≤ (nI m).toInt64) ∨ (hs x n (nI m) = 0 ∧ (x < 0 ∨ n < 0 ∨ (0 ≤ x ∧ 0 ≤ n ∧ ¬ x.toInt64 + n.toInt64 ≤ (nI m).toInt64))) := by
  by_cases c1 : x < 0
  · exact Or.inr ⟨by rw [hs, if_pos c1], Or.inl c1⟩
  by_cases c2 : n < 0
  · exact Or.inr ⟨by rw [hs, if_neg c1, if_pos c2], Or.inr (Or.inl c2)⟩
  have d1 := Int32.not_lt.mp c1
  have d2 := Int32.not_lt.mp c2
  have e1 := Int32.le_iff_toInt_le.mp d1
  have e2 := Int32.le_iff_toInt_le.mp d2
  rw [i0_0] at e1 e2
  have l2 := Int32.toInt_lt x
  have l4 := Int32.toInt_lt n
  have tm : (nI m).toInt = m := nI_toInt (by omega)
  have ts : (nI m - n).toInt = m - n.toInt := by rw [ti_sub (by omega) (by omega), tm]
  by_cases c3 : nI m - n < x
  · refine Or.inr ⟨by rw [hs, if_neg c1, if_neg c2, if_pos c3], Or.inr (Or.inr ⟨d1, d2, ?_⟩)⟩
    rw [Int64.le_iff_toInt_le, ti_add64, Int32.toInt_toInt64, tm]
    rw [Int32.lt_iff_toInt_lt, ts] at c3
    omega
  · left
    rw [Int32.lt_iff_toInt_lt, ts] at c3
    obtain ⟨i, hi⟩ := Int.eq_ofNat_of_zero_le e1
    obtain ⟨c, hc⟩ := Int.eq_ofNat_of_zero_le e2
    refine ⟨i, c, ?_, ?_, by omega, ?_, ?_⟩
    · apply Int32.toInt_inj.mp; rw [nI_toInt (by omega)]; exact hi
    · apply Int32.toInt_inj.mp; rw [nI_toInt (by omega)]; exact hc
    · rw [hs, if_neg c1, if_neg c2, if_neg (by rw [Int32.lt_iff_toInt_lt, ts]; exact c3)]
    · rw [Int64.le_iff_toInt_le, ti_add64, Int32.toInt_toInt64, tm]; omega
theorem pt_lt {b : Int32} {i : Nat} (hi : i < n) : pt b n i < n := by
  unfold pt; split <;> omega
theorem gone_X (hs : RStroke z K J R k n) (b : Int32) {i : Nat} (hi : i < n) : f_X8_gone (some (z + (108 + 3 * k))) (nI i) b (K, J, R, w) = some (nI (pt b n i), K, J, R, w) := by
  have hn := hs.2.1
  unfold f_X8_gone pt
  by_cases c : b = 0
  · rw [if_pos c, if_pos c]
  · rw [if_neg c, if_neg c, k3_s hs.kc, pts_X hs, Option.bind_some]
    rw [show nI n - 1 = nI (n - 1) from sub_nn (b := 1) (by omega), sub_nn (by omega)]
theorem at_M (hS : Shp z K R) (hk : k < 8) (hs : RStroke z K J R k n) (b : Int32) {i : Nat} (hi : i < n) : f_X12_at (some (z + 82)) (nI k) b (nI i) (K, J, R, w) = some (nI (8 * k + pt b n i), K, J, R, w) := by
  have hn := hs.2.1
  unfold f_X12_at pt b_X12_at_22
  by_cases c : b = 0
  · rw [if_pos c, if_pos c, ix8, nI_add]
  · rw [if_neg c, if_neg c]
    simp only [gR_t (k82 hS), rz82_6 hS, Option.bind_some, aI_t (kz86 hS) hk (by decide), hs.2.2.1]
    rw [show nI n - 1 = nI (n - 1) from sub_nn (b := 1) (by omega), sub_nn (by omega), ix8, nI_add]
/-- point i of the k-th stroke of a plan -/
def ePt (pn p od bk : Nat → Int32) (k i : Nat) : Int32 := p (8 * (od k).toNatClampNeg + pt (bk k) (pn (od k).toNatClampNeg).toNatClampNeg i)
def eN (pn od : Nat → Int32) (k : Nat) : Nat := (pn (od k).toNatClampNeg).toNatClampNeg
/-- where the light is ahead of the k-th stroke -/
def pre (pn p od bk : Nat → Int32) : Nat → Int32
  | 0 => 0
  | k + 1 => ePt pn p od bk k (eN pn od k - 1)
def dkS (pn px py od bk : Nat → Int32) : Nat → Int32
  | 0 => 0
  | k + 1 => dkS pn px py od bk k + wayI (pre pn px od bk k) (pre pn py od bk k) (ePt pn px od bk k 0) (ePt pn py od bk k 0)
def dkW (pn px py od bk : Nat → Int32) (h : Nat) : Int32 := dkS pn px py od bk h + wayI (pre pn px od bk h) (pre pn py od bk h) 0 0
theorem gR0 (hk : (K (z + 2)).1 = 8 + 1) {c : Nat} : gR (K, J, R, w) (some (z + 2)) 8 c = some (R (z + 2) c) := gR_t hk
theorem dark_X1 (hS : Shp z K R) (h8 : h ≤ 8) (hs : RStrokes z h K J R) (hp : ∀ k, k < h → ∃ q, q < h ∧ J (z + 4) k = nI q) : ∀ m j, j ≤ h → h < m + j → b_X9_darkWay_9 m (some (z + 2)) (dkS (J (z + 86)) (J (z + 87)) (J (z + 88)) (J (z + 4)) (J (z + 5)) j) (pre (J (z + 86)) (J (z + 87)) (J (z + 4)) (J (z + 5)) j) (pre (J (z + 86)) (J (z + 88)) (J (z + 4)) (J (z + 5)) j) (nI j) (K, J, R, w) = some (dkW (J (z + 86)) (J (z + 87)) (J (z + 88)) (J (z + 4)) (J (z + 5)) h, K, J, R, w) := by
  have k2' : (K (z + 2)).1 = 8 + 1 := by rw [kz2 hS]
  intro m
  induction m with
  | zero => intro j a b; omega
  | succ m ih =>
    intro j a b
    rw [b_X9_darkWay_9]
    simp only [gI_t k2', hs.1, Option.bind_some]
    by_cases c : j = h
    · subst c
      rw [if_pos (nI_le (Nat.le_refl _) (by omega))]
      rfl
    · have hj : j < h := by omega
      obtain ⟨q, hq, e4⟩ := hp j hj
      obtain ⟨n, hn⟩ := hs.2.2 q hq
      have hn1 := hn.1
      have hn8 := hn.2.1
      rw [if_neg (nI_ge hj (by omega))]
      have en : eN (J (z + 86)) (J (z + 4)) j = n := by
        rw [eN, e4, nI_clamp (by omega), hn.2.2.1, nI_clamp (by omega)]
      have ex : ∀ i, i < n → J (z + (106 + 3 * q)) (pt (J (z + 5) j) n i) = ePt (J (z + 86)) (J (z + 87)) (J (z + 4)) (J (z + 5)) j i := by
        intro i hi
        rw [ePt, e4, nI_clamp (by omega), hn.2.2.1, nI_clamp (by omega), (hn.xx (pt_lt hi)).1]
      have ey : ∀ i, i < n → J (z + (107 + 3 * q)) (pt (J (z + 5) j) n i) = ePt (J (z + 86)) (J (z + 88)) (J (z + 4)) (J (z + 5)) j i := by
        intro i hi
        rw [ePt, e4, nI_clamp (by omega), hn.2.2.1, nI_clamp (by omega), (hn.xx (pt_lt hi)).2]
      have g0 := gone_X (w := w) hn (J (z + 5) j) (i := 0) hn1
      rw [show nI 0 = 0 from rfl] at g0
      simp only [gR_t k2', rz2_1 hS, rz2_2 hS, aI_t (kz4 hS) (show j < 8 by omega) (by decide), aI_t (kz5 hS) (show j < 8 by omega) (by decide), e4, cK_t k2', at_X hS hs.1 h8 hq hn, Option.bind_some, k3_s hn.kc, g0, pts_X hn, show nI n - 1 = nI (n - 1) from sub_nn (b := 1) (by omega), gone_X hn (J (z + 5) j) (show n - 1 < n by omega), xAt_X hn (pt_lt (show 0 < n by omega)), yAt_X hn (pt_lt (show 0 < n by omega)), xAt_X hn (pt_lt (show n - 1 < n by omega)), yAt_X hn (pt_lt (show n - 1 < n by omega)), way_X, lt1, reduceCtorEq, if_false, b_X9_darkWay_110, nI_1, ex 0 hn1, ey 0 hn1, ex (n - 1) (show n - 1 < n by omega), ey (n - 1) (show n - 1 < n by omega)]
      have := ih (j + 1) (by omega) (by omega)
      simp only [dkS, pre, en] at this
      exact this
theorem dark_X (hS : Shp z K R) (h8 : h ≤ 8) (hs : RStrokes z h K J R) (hp : ∀ k, k < h → ∃ q, q < h ∧ J (z + 4) k = nI q) : f_X9_darkWay (some (z + 2)) (K, J, R, w) = some (dkW (J (z + 86)) (J (z + 87)) (J (z + 88)) (J (z + 4)) (J (z + 5)) h, K, J, R, w) := dark_X1 hS h8 hs hp FU 0 (by omega) (by unfold FU; omega)
/-- the reference's row of a point -/
theorem px_M (hS : Shp z K R) (h8 : h ≤ 8) (hs : RStrokes z h K J R) {q i : Nat} {b : Int32} (hq : q < h) (hn : RStroke z K J R q n) (hi : i < n) : aI (K, J, R, w) (some (z + 87)) 14 (nI (8 * q + pt b n i)) = some (J (z + 87) (8 * q + pt b n i)) ∧ aI (K, J, R, w) (some (z + 88)) 14 (nI (8 * q + pt b n i)) = some (J (z + 88) (8 * q + pt b n i)) := by
  have := hn.2.1
  have := pt_lt (b := b) hi
  exact ⟨aI_t (kz87 hS) (by omega) (by decide), aI_t (kz88 hS) (by omega) (by decide)⟩
theorem from_M (hS : Shp z K R) (h8 : h ≤ 8) (hs : RStrokes z h K J R) {q : Nat} (b : Int32) (hq : q < h) (hn : RStroke z K J R q n) : f_X12_fromStart (some (z + 82)) (nI q) b (K, J, R, w) = some (wayI 0 0 (J (z + 87) (8 * q + pt b n 0)) (J (z + 88) (8 * q + pt b n 0)), K, J, R, w) := by
  have e := at_M (w := w) hS (show q < 8 by omega) hn b (i := 0) hn.1
  rw [show nI 0 = 0 from rfl] at e
  simp only [f_X12_fromStart, cK_t (k82 hS), e, Option.bind_some, gR_t (k82 hS), rz82_7 hS, rz82_8 hS, (px_M hS h8 hs hq hn hn.1).1, (px_M hS h8 hs hq hn hn.1).2, way_M]
theorem to_M (hS : Shp z K R) (h8 : h ≤ 8) (hs : RStrokes z h K J R) {q : Nat} (b : Int32) (hq : q < h) (hn : RStroke z K J R q n) : f_X12_toStart (some (z + 82)) (nI q) b (K, J, R, w) = some (wayI (J (z + 87) (8 * q + pt b n (n - 1))) (J (z + 88) (8 * q + pt b n (n - 1))) 0 0, K, J, R, w) := by
  have h1 : n - 1 < n := by have := hn.1; omega
  have e := at_M (w := w) hS (show q < 8 by omega) hn b h1
  simp only [f_X12_toStart, cK_t (k82 hS), Option.bind_some, gR_t (k82 hS), rz82_6 hS, aI_t (kz86 hS) (show q < 8 by omega) (by decide), hn.2.2.1, show nI n - 1 = nI (n - 1) from sub_nn (b := 1) (by omega), e, rz82_7 hS, rz82_8 hS, (px_M hS h8 hs hq hn h1).1, (px_M hS h8 hs hq hn h1).2, way_M]
theorem btw_M (hS : Shp z K R) (h8 : h ≤ 8) (hs : RStrokes z h K J R) {q p n' : Nat} (b c : Int32) (hq : q < h) (hp : p < h) (hn : RStroke z K J R q n) (hn' : RStroke z K J R p n') : f_X12_between (some (z + 82)) (nI q) b (nI p) c (K, J, R, w) = some (wayI (J (z + 87) (8 * q + pt b n (n - 1))) (J (z + 88) (8 * q + pt b n (n - 1))) (J (z + 87) (8 * p + pt c n' 0)) (J (z + 88) (8 * p + pt c n' 0)), K, J, R, w) := by
  have h1 : n - 1 < n := by have := hn.1; omega
  have e := at_M (w := w) hS (show q < 8 by omega) hn b h1
  have e' := at_M (w := w) hS (show p < 8 by omega) hn' c (i := 0) hn'.1
  rw [show nI 0 = 0 from rfl] at e'
  simp only [f_X12_between, cK_t (k82 hS), Option.bind_some, gR_t (k82 hS), rz82_6 hS, aI_t (kz86 hS) (show q < 8 by omega) (by decide), hn.2.2.1, show nI n - 1 = nI (n - 1) from sub_nn (b := 1) (by omega), e, e', rz82_7 hS, rz82_8 hS, (px_M hS h8 hs hq hn h1).1, (px_M hS h8 hs hq hn h1).2, (px_M hS h8 hs hp hn' hn'.1).1, (px_M hS h8 hs hp hn' hn'.1).2, way_M]
theorem dark_M1 (hS : Shp z K R) (h8 : h ≤ 8) (hs : RStrokes z h K J R) (hp : ∀ k, k < h → ∃ q, q < h ∧ J (z + 89) k = nI q) (T : Int32) : ∀ m j, 1 ≤ j → j ≤ h → h < m + j → b_X12_dark_46 m (some (z + 82)) (dkS (J (z + 86)) (J (z + 87)) (J (z + 88)) (J (z + 89)) (J (z + 90)) j + T) (nI j) (K, J, R, w) = some (dkS (J (z + 86)) (J (z + 87)) (J (z + 88)) (J (z + 89)) (J (z + 90)) h + T, K, J, R, w) := by
  intro m
  induction m with
  | zero => intro j a b c; omega
  | succ m ih =>
    intro j a b c
    rw [b_X12_dark_46]
    simp only [gI_t (k82 hS), hs.2.1, Option.bind_some]
    by_cases e : j = h
    · subst e
      rw [if_pos (nI_le (Nat.le_refl _) (by omega))]
      rfl
    · have hj : j < h := by omega
      obtain ⟨i, rfl⟩ : ∃ i, j = i + 1 := ⟨j - 1, by omega⟩
      obtain ⟨q, hq, e4⟩ := hp i (by omega)
      obtain ⟨q', hq', e4'⟩ := hp (i + 1) hj
      obtain ⟨n, hn⟩ := hs.2.2 q hq
      obtain ⟨n', hn'⟩ := hs.2.2 q' hq'
      have hn1 := hn.1
      have hn8 := hn.2.1
      have hn1' := hn'.1
      have hn8' := hn'.2.1
      rw [if_neg (nI_ge hj (by omega)), nI_pred]
      simp only [gR_t (k82 hS), rz82_9 hS, rz82_10 hS, aI_t (kz89 hS) (show i < 8 by omega) (by decide), aI_t (kz90 hS) (show i < 8 by omega) (by decide), aI_t (kz89 hS) (show i + 1 < 8 by omega) (by decide), aI_t (kz90 hS) (show i + 1 < 8 by omega) (by decide), Option.bind_some, cK_t (k82 hS), e4, e4', btw_M hS h8 hs _ _ hq hq' hn hn', lt1, nI_1]
      have := ih (i + 1 + 1) (by omega) (by omega) (by omega)
      rw [← this]
      congr 1
      simp only [dkS, pre, ePt, eN, e4, e4', nI_clamp (show q < 2 ^ 31 by omega), nI_clamp (show q' < 2 ^ 31 by omega), hn.2.2.1, hn'.2.2.1, nI_clamp (show n < 2 ^ 31 by omega), nI_clamp (show n' < 2 ^ 31 by omega)]
      rw [Int32.add_assoc, Int32.add_assoc, Int32.add_comm T]
      rw [Int32.add_assoc, Int32.add_assoc]
theorem dark_M (hS : Shp z K R) (h8 : h ≤ 8) (h0 : 0 < h) (hs : RStrokes z h K J R) (hp : ∀ k, k < h → ∃ q, q < h ∧ J (z + 89) k = nI q) : f_X12_dark (some (z + 82)) (K, J, R, w) = some (dkW (J (z + 86)) (J (z + 87)) (J (z + 88)) (J (z + 89)) (J (z + 90)) h, K, J, R, w) := by
  obtain ⟨q, hq, e4⟩ := hp 0 h0
  obtain ⟨n, hn⟩ := hs.2.2 q hq
  have hn1 := hn.1
  have hn8 := hn.2.1
  obtain ⟨i, rfl⟩ : ∃ i, h = i + 1 := ⟨h - 1, by omega⟩
  obtain ⟨q', hq', e4'⟩ := hp i (by omega)
  obtain ⟨n', hn'⟩ := hs.2.2 q' hq'
  have hn1' := hn'.1
  have hn8' := hn'.2.1
  have a0 : ∀ (o : Nat), K (z + o) = (14, 8) → aI (K, J, R, w) (some (z + o)) 14 0 = some (J (z + o) 0) := fun o e => aI_t (j := 0) e (by decide) (by decide)
  have := dark_M1 (w := w) hS h8 hs hp (wayI (J (z + 87) (8 * q' + pt (J (z + 90) i) n' (n' - 1))) (J (z + 88) (8 * q' + pt (J (z + 90) i) n' (n' - 1))) 0 0) FU 1 (by omega) (by omega) (by unfold FU; omega)
  simp only [f_X12_dark, gR_t (k82 hS), rz82_9 hS, rz82_10 hS, a0 89 (kz89 hS), a0 90 (kz90 hS), Option.bind_some, cK_t (k82 hS), e4, from_M hS h8 hs _ hq hn, gI_t (k82 hS), hs.2.1, nI_pred, aI_t (kz89 hS) (show i < 8 by omega) (by decide), aI_t (kz90 hS) (show i < 8 by omega) (by decide), e4', to_M hS h8 hs _ hq' hn', lt1]
  rw [show nI 1 = 1 from rfl] at this
  have e1 : dkS (J (z + 86)) (J (z + 87)) (J (z + 88)) (J (z + 89)) (J (z + 90)) 1 = wayI 0 0 (J (z + 87) (8 * q + pt (J (z + 90) 0) n 0)) (J (z + 88) (8 * q + pt (J (z + 90) 0) n 0)) := by
    simp only [dkS, pre, ePt, e4, nI_clamp (show q < 2 ^ 31 by omega), hn.2.2.1, nI_clamp (show n < 2 ^ 31 by omega)]
    rw [Int32.zero_add]
  rw [e1] at this
  rw [this]
  simp only [dkW, pre, ePt, eN, e4', nI_clamp (show q' < 2 ^ 31 by omega), hn'.2.2.1, nI_clamp (show n' < 2 ^ 31 by omega)]
end OA
