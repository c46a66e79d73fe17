section C4
variable {z h k n m t q : Nat} {K : Nat → Nat × Nat} {I J : Nat → Nat → Int32} {R : Nat → Nat → Option Nat} {w : Nat} {b : Nat → Nat}
theorem c64_eq (a b : Int64) : (lg_cmp a b = 0) = (a = b) := by
  unfold lg_cmp
  refine propext ⟨fun q => ?_, fun q => ?_⟩
  · by_cases h1 : a > b
    · rw [if_pos h1] at q; exact absurd q (by decide)
    · rw [if_neg h1] at q
      by_cases h2 : a = b
      · exact h2
      · rw [if_neg h2] at q; exact absurd q (by decide)
  · subst q
    rw [if_neg (Int64.lt_irrefl), if_pos rfl]
theorem sh8 {v c : Nat} (hv : v < 2 ^ 48) (hc : c < 256) : (lN v <<< ((8 : Int32).toInt64 &&& 63)) ||| (nI c).toInt64 = lN (v * 256 + c) := by
  rw [nI_l (by omega), show ((8 : Int32).toInt64 &&& 63) = 8 by decide]
  have e : (lN v <<< 8 ||| lN c).toBitVec = (lN (v * 256 + c)).toBitVec := by
    rw [Int64.toBitVec_or, Int64.toBitVec_shiftLeft]
    show (BitVec.ofNat 64 v <<< ((8 : Int64).toBitVec.smod 64)) ||| BitVec.ofNat 64 c = BitVec.ofNat 64 (v * 256 + c)
    rw [show (8 : Int64).toBitVec.smod 64 = 8#64 by decide]
    apply BitVec.eq_of_toNat_eq
    rw [BitVec.toNat_or, BitVec.shiftLeft_eq', BitVec.toNat_shiftLeft, BitVec.toNat_ofNat, BitVec.toNat_ofNat, BitVec.toNat_ofNat, BitVec.toNat_ofNat, Nat.mod_eq_of_lt (show v < 2 ^ 64 by omega), Nat.mod_eq_of_lt (show 8 < 2 ^ 64 by omega), Nat.mod_eq_of_lt (show c < 2 ^ 64 by omega), Nat.mod_eq_of_lt (show v * 256 + c < 2 ^ 64 by omega), Nat.mod_eq_of_lt (by rw [Nat.shiftLeft_eq]; omega), ← Nat.shiftLeft_add_eq_or_of_lt (by omega), Nat.shiftLeft_eq]
  exact Int64.toBitVec_inj.mp e
/-- a name's value -/
def nmF (b : Nat → Nat) (p : Nat) : Nat → Nat
  | 0 => 0
  | k + 1 => nmF b p k * 256 + b (p + k)
theorem nm_lt {p L : Nat} (hf : ∀ i, i < L → b (p + i) < 256) : ∀ k, k ≤ L → nmF b p k < 256 ^ k := by
  intro k
  induction k with
  | zero => intro _; simp [nmF]
  | succ k ih =>
    intro hk
    have := ih (by omega)
    have := hf k (by omega)
    rw [nmF, Nat.pow_succ]
    omega
theorem nm_M1 (hS : Shp z K R) (ht : t ≤ 300) (hT : TMt z t b J) {p e : Nat} (hpe : p ≤ e) (he : e ≤ t) (h6 : e - p ≤ 6) (e31 : J (z + 82) 31 = nI 2) (e33 : J (z + 82) 33 = nI e) : ∀ fu k, p + k ≤ e → e < fu + (p + k) → b_X12_name_7 fu (some (z + 82)) (lN (nmF b p k)) (nI (p + k)) (K, J, R, w) = some (lN (nmF b p (e - p)), K, J, R, w) := by
  intro fu
  induction fu with
  | zero => intro k x y; omega
  | succ fu ih =>
    intro k x y
    rw [b_X12_name_7, gI_t (k82 hS), Option.bind_some, e33]
    by_cases c : p + k = e
    · rw [if_pos (nI_le (by omega) (by omega)), show e - p = k by omega]
      rfl
    · have hx : p + k < e := by omega
      obtain ⟨b1, b2⟩ := hT.2 (p + k) (by omega)
      have hl := nm_lt (b := b) (p := p) (L := e - p) (fun i hi => (hT.2 (p + i) (by omega)).1) k (by omega)
      have h48 : nmF b p k < 2 ^ 48 := Nat.lt_of_lt_of_le hl (by
        calc 256 ^ k ≤ 256 ^ 6 := Nat.pow_le_pow_right (by decide) (by omega)
          _ = 2 ^ 48 := by decide)
      rw [if_neg (nI_ge hx (by omega)), gI_t (k82 hS), Option.bind_some, e31, if_pos (show nI 2 = (2 : Int32) from rfl), gR_t (k82 hS), Option.bind_some, rz82_26 hS, aI_t (kz102 hS) (by omega) (by decide), Option.bind_some, b2]
      unfold lt1
      try dsimp only
      rw [sh8 h48 b1, nI_1, show p + k + 1 = p + (k + 1) by omega]
      exact ih (k + 1) (by omega) (by omega)
theorem nm_M (hS : Shp z K R) (ht : t ≤ 300) (hT : TMt z t b J) {p e s : Nat} (hpe : p ≤ e) (he : e ≤ t) (hs : s ≤ 4) (h6 : s = 1 → e - p ≤ 6) (e31 : J (z + 82) 31 = nI (scd s)) (e32 : J (z + 82) 32 = nI p) (e33 : J (z + 82) 33 = nI e) : f_X12_name (some (z + 82)) (K, J, R, w) = some (lN (if s = 1 then nmF b p (e - p) else 0), K, J, R, w) := by
  unfold f_X12_name
  rw [gI_t (k82 hS), Option.bind_some, e32]
  by_cases c : s = 1
  · subst c
    rw [if_pos rfl]
    exact nm_M1 hS ht hT hpe he (h6 rfl) e31 e33 FU 0 (by omega) (by unfold FU; omega)
  · rw [if_neg c, FU_1, b_X12_name_7, gI_t (k82 hS), Option.bind_some, e33]
    by_cases c2 : p = e
    · rw [if_pos (nI_le (by omega) (by omega))]; rfl
    · have n3 : ¬ nI (scd s) = (2 : Int32) := by
        rw [show (nI (scd s) = (2 : Int32)) = (scd s = 2) from nIq (c := 2) (by unfold scd; split <;> omega) (by decide)]
        unfold scd; split <;> omega
      rw [if_neg (nI_ge (by omega) (by omega)), gI_t (k82 hS), Option.bind_some, e31, if_neg n3]; rfl
-- the class's words
theorem stK_k (hc : RCst R) {k : Nat} (hk : k < 4) : stK (K, J, R, w) (R 0 k) = some k := by
  have d : ∀ i j, i < 4 → j < 4 → i ≠ j → ¬ R 0 i = R 0 j := fun i j hi hj hn e => hn (hc.2.1 i j hi hj e)
  unfold stK
  show (if R 0 k = R 0 0 then some 0 else if R 0 k = R 0 1 then some 1 else if R 0 k = R 0 2 then some 2 else if R 0 k = R 0 3 then some 3 else none) = some k
  rcases (show k = 0 ∨ k = 1 ∨ k = 2 ∨ k = 3 by omega) with rfl | rfl | rfl | rfl
  · rw [if_pos rfl]
  · rw [if_neg (d 1 0 (by decide) (by decide) (by decide)), if_pos rfl]
  · rw [if_neg (d 2 0 (by decide) (by decide) (by decide)), if_neg (d 2 1 (by decide) (by decide) (by decide)), if_pos rfl]
  · rw [if_neg (d 3 0 (by decide) (by decide) (by decide)), if_neg (d 3 1 (by decide) (by decide) (by decide)), if_neg (d 3 2 (by decide) (by decide) (by decide)), if_pos rfl]
theorem svK_k (hc : RCst R) {k : Nat} (hk : k < 4) : svK (K, J, R, w) (R 0 (10 + k)) = some k := by
  have d : ∀ i j, i < 4 → j < 4 → i ≠ j → ¬ R 0 (10 + i) = R 0 (10 + j) := fun i j hi hj hn e => hn (hc.2.2 i j hi hj e)
  unfold svK
  show (if R 0 (10 + k) = R 0 (10 + 0) then some 0 else if R 0 (10 + k) = R 0 (10 + 1) then some 1 else if R 0 (10 + k) = R 0 (10 + 2) then some 2 else if R 0 (10 + k) = R 0 (10 + 3) then some 3 else none) = some k
  rcases (show k = 0 ∨ k = 1 ∨ k = 2 ∨ k = 3 by omega) with rfl | rfl | rfl | rfl
  · rw [if_pos rfl]
  · rw [if_neg (d 1 0 (by decide) (by decide) (by decide)), if_pos rfl]
  · rw [if_neg (d 2 0 (by decide) (by decide) (by decide)), if_neg (d 2 1 (by decide) (by decide) (by decide)), if_pos rfl]
  · rw [if_neg (d 3 0 (by decide) (by decide) (by decide)), if_neg (d 3 1 (by decide) (by decide) (by decide)), if_neg (d 3 2 (by decide) (by decide) (by decide)), if_pos rfl]
theorem lsh : ∀ k, k < 4 → Int32.ofNat (stLen.getD k 0) >>> ((0 : Int32) &&& 31) = nI (stLen.getD k 0) := by decide +kernel
theorem sL_X (hc : RCst R) {k : Nat} (hk : k < 4) : f_J0_length_8abf5 (R 0 k) (K, J, R, w) = some (nI (stLen.getD k 0), K, J, R, w) := by
  unfold f_J0_length_8abf5 f_J0_coder_7d493 gSv gSc svL
  rw [stK_k hc hk, Option.bind_some, Option.bind_some]
  show ((svK (K, J, R, w) (R 0 (10 + k))).bind fun k => some (Int32.ofNat (stLen.getD k 0))).bind _ = _
  rw [svK_k hc hk, Option.bind_some, Option.bind_some, Option.bind_some, if_neg i10, Option.bind_some, Option.bind_some, zr_0, Option.bind_some]
  exact congrArg (fun v => some (v, K, J, R, w)) (lsh k hk)
def wdC (k i : Nat) : Int32 := (stByt.getD k []).getD i 0
theorem wdC_c : ∀ k, k < 4 → ∀ i, i < stLen.getD k 0 → ((wdC k i &&& 255).toUInt32 % 65536).toInt32 = wdC k i ∧ ((wdC k i).toUInt32 % 65536).toInt32 = wdC k i := by decide +kernel
theorem len4 : ∀ k, k < 4 → stLen.getD k 0 ≤ 4 := by decide
theorem ch_X (hc : RCst R) {k i : Nat} (hk : k < 4) (hi : i < stLen.getD k 0) : f_J0_charAt_5068e (R 0 k) (nI i) (K, J, R, w) = some (wdC k i, K, J, R, w) := by
  have h4 := len4 k hk
  obtain ⟨c1, c2⟩ := wdC_c k hk i hi
  have cx : ∀ S : St, chr (wdC k i) S = some (wdC k i, S) := fun S => by unfold chr; rw [if_pos c2]
  have s1 : svL (K, J, R, w) (R 0 (10 + k)) = some (nI (stLen.getD k 0)) := by unfold svL; rw [svK_k hc hk]; rfl
  have s2 : svB (K, J, R, w) (R 0 (10 + k)) (nI i) = some (wdC k i) := by
    unfold svB
    rw [svK_k hc hk, Option.bind_some, if_pos (nI_in hi (by omega)), nI_clamp (by omega)]; rfl
  have s3 : f_J1_charAt_3b067 (R 0 (10 + k)) (nI i) (K, J, R, w) = some (wdC k i, K, J, R, w) := by
    unfold f_J1_charAt_3b067 f_J0_checkIndex_df160 f_J3_checkIndex_8e157
    rw [s1, Option.bind_some, if_neg (nI_pos (by omega)), if_pos (nI_lt hi (by omega)), Option.bind_some, Option.bind_some, s2, Option.bind_some, c1, cx]
  unfold f_J0_charAt_5068e f_J0_isLatin1_aae02 gSc gSv
  rw [stK_k hc hk, Option.bind_some, if_neg i10, Option.bind_some, Option.bind_some, if_pos rfl, zr_1, Option.bind_some, if_neg i10]
  show ((stK (K, J, R, w) (R 0 k)).bind fun k => some (R 0 (10 + k))).bind _ = _
  rw [stK_k hc hk, Option.bind_some, Option.bind_some, s3, Option.bind_some, cx]
/-- the first n bytes are the word's -/
def wlB (k : Nat) (b : Nat → Nat) (p : Nat) : Nat → Bool
  | 0 => true
  | i + 1 => wlB k b p i && decide (nI (b (p + i)) = wdC k i)
theorem wl_mono {p i : Nat} (h : wlB k b p i = false) : ∀ n, wlB k b p (i + n) = false := by
  intro n
  induction n with
  | zero => exact h
  | succ n ih => rw [← Nat.add_assoc, wlB, ih]; rfl
theorem wd_X1 (hS : Shp z K R) (hc : RCst R) (ht : t ≤ 300) (hT : TX z t b J) {p e k : Nat} (hk : k < 4) (he : e ≤ t) (e8 : J (z + 36) 8 = nI p) (hl : e - p = stLen.getD k 0) (hpe : p ≤ e) (hf : ∀ i, p ≤ i → i < e → clB (b i) = 1) : ∀ fu i, i ≤ e - p → e - p < fu + i → wlB k b p i = true → b_X0_isWord_28 fu (some (z + 36)) (R 0 k) (nI i) (K, J, R, w) = some (bI (wlB k b p (e - p)), K, J, R, w) := by
  have h4 := len4 k hk
  intro fu
  induction fu with
  | zero => intro i x y; omega
  | succ fu ih =>
    intro i x y hw
    rw [b_X0_isWord_28, stK_k hc hk, Option.bind_some, sL_X hc hk, Option.bind_some, ← hl]
    by_cases c : i = e - p
    · rw [if_pos (nI_le (by omega) (by omega)), zr_1, ← c, hw]; rfl
    · have hi : i < e - p := by omega
      obtain ⟨b1, b2⟩ := hT.2 (p + i) (by omega)
      have c1 := cl1 (hf (p + i) (by omega) (by omega))
      rw [if_neg (nI_ge hi (by omega)), gR_t (k36 hS), Option.bind_some, rz36_0 hS, gI_t (k36 hS), Option.bind_some, e8, nI_add, aI_t (kz37 hS) (by omega) (by decide), Option.bind_some, b2, by7 _ (by omega)]
      simp only [stK_k hc hk, Option.bind_some, ch_X hc hk (show i < stLen.getD k 0 by omega)]
      by_cases d : nI (b (p + i)) = wdC k i
      · rw [if_pos d]
        unfold lt1
        try dsimp only
        rw [nI_1]
        exact ih (i + 1) (by omega) (by omega) (by rw [wlB, hw]; simp [d])
      · rw [if_neg d, zr_0]
        have h0 : wlB k b p (i + 1) = false := by rw [wlB]; simp [d]
        have := wl_mono h0 (e - p - (i + 1))
        rw [show i + 1 + (e - p - (i + 1)) = e - p by omega] at this
        rw [this]; rfl
def wqB (k s : Nat) (b : Nat → Nat) (p L : Nat) : Bool := decide (s = 1) && decide (L = stLen.getD k 0) && wlB k b p L
theorem wd_X (hS : Shp z K R) (hc : RCst R) (ht : t ≤ 300) (hT : TX z t b J) {p e s k : Nat} (hk : k < 4) (hpe : p ≤ e) (he : e ≤ t) (hs : s ≤ 4) (e7 : J (z + 36) 7 = nI s) (e8 : J (z + 36) 8 = nI p) (e9 : J (z + 36) 9 = nI e) (hf : s = 1 → ∀ i, p ≤ i → i < e → clB (b i) = 1) : f_X0_isWord (some (z + 36)) (R 0 k) (K, J, R, w) = some (bI (wqB k s b p (e - p)), K, J, R, w) := by
  have h4 := len4 k hk
  unfold f_X0_isWord wqB
  rw [gI_t (k36 hS), Option.bind_some, e7]
  have q1 : (nI s = (1 : Int32)) = (s = 1) := nIq (c := 1) (by omega) (by decide)
  by_cases c : s = 1
  · rw [if_pos (by rw [q1]; exact c), gI_t (k36 hS), Option.bind_some, gI_t (k36 hS), Option.bind_some, e8, e9, stK_k hc hk, Option.bind_some, sL_X hc hk, Option.bind_some, sub_nn hpe]
    by_cases d : e - p = stLen.getD k 0
    · rw [if_pos (by rw [d])]
      have := wd_X1 (w := w) hS hc ht hT hk he e8 d hpe (hf c) FU 0 (by omega) (by unfold FU; omega) rfl
      rw [show nI 0 = 0 from rfl] at this
      rw [this, decide_eq_true c, decide_eq_true d, Bool.true_and, Bool.true_and]
    · rw [if_neg (by rw [nI_eq (by omega) (by omega)]; exact d), zr_0, decide_eq_false d, Bool.and_false, Bool.false_and]
      rfl
  · rw [if_neg (by rw [q1]; exact c), zr_0, decide_eq_false c, Bool.false_and, Bool.false_and]
    rfl
end C4
