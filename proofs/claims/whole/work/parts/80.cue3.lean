section C3
variable {z h k n m t q : Nat} {K : Nat → Nat × Nat} {I J : Nat → Nat → Int32} {R : Nat → Nat → Option Nat} {w : Nat} {b : Nat → Nat}
theorem cl1 {c : Nat} (h : clB c = 1) : 97 ≤ c ∧ c ≤ 122 := by
  unfold clB at h
  by_cases h1 : c = 32 ∨ c = 10
  · rw [if_pos h1] at h; omega
  · rw [if_neg h1] at h
    by_cases h2 : 97 ≤ c ∧ c ≤ 122
    · exact h2
    · rw [if_neg h2] at h
      split at h
      · omega
      · split at h <;> omega
theorem cl2 {c : Nat} (h : clB c = 2) : 48 ≤ c ∧ c ≤ 57 := by
  unfold clB at h
  by_cases h1 : c = 32 ∨ c = 10
  · rw [if_pos h1] at h; omega
  · rw [if_neg h1] at h
    by_cases h2 : 97 ≤ c ∧ c ≤ 122
    · rw [if_pos h2] at h; omega
    · rw [if_neg h2] at h
      by_cases h3 : 48 ≤ c ∧ c ≤ 57
      · exact h3
      · rw [if_neg h3] at h
        split at h <;> omega
theorem by7 : ∀ c, c < 128 → (nI c).toInt8.toInt32 = nI c := by decide +kernel
/-- a number's value -/
def nvF (b : Nat → Nat) (p : Nat) : Nat → Nat
  | 0 => 0
  | k + 1 => 10 * nvF b p k + b (p + k) - 48
theorem nv_lt {p L : Nat} (hf : ∀ i, i < L → 48 ≤ b (p + i) ∧ b (p + i) ≤ 57) : ∀ k, k ≤ L → nvF b p k < 10 ^ k := by
  intro k
  induction k with
  | zero => intro _; simp [nvF]
  | succ k ih =>
    intro hk
    have := ih (by omega)
    have := hf k (by omega)
    rw [nvF, Nat.pow_succ]
    omega
theorem nv_st {v c : Nat} (hc : 48 ≤ c) : (10 : Int32) * nI v + nI c - 48 = nI (10 * v + c - 48) := by
  rw [show (10 : Int32) * nI v = nI (10 * v) from pk_mul 10 v, nI_add]
  exact sub_nn (b := 48) (by omega)
theorem nv_X (hS : Shp z K R) (ht : t ≤ 300) (hT : TX z t b J) {p e : Nat} (hpe : p ≤ e) (he : e ≤ t) (e9 : J (z + 36) 9 = nI e) (hf : ∀ i, p ≤ i → i < e → clB (b i) = 2) : ∀ fu k, p + k ≤ e → e < fu + (p + k) → b_X0_numberOfToken_7 fu (some (z + 36)) (nI (nvF b p k)) (nI (p + k)) (K, J, R, w) = some (nI (nvF b p (e - p)), K, J, R, w) := by
  intro fu
  induction fu with
  | zero => intro k x y; omega
  | succ fu ih =>
    intro k x y
    rw [b_X0_numberOfToken_7, gI_t (k36 hS), Option.bind_some, e9]
    by_cases c : p + k = e
    · rw [if_pos (nI_le (by omega) (by omega)), show e - p = k by omega]
      rfl
    · have hx : p + k < e := by omega
      obtain ⟨b1, b2⟩ := hT.2 (p + k) (by omega)
      have c2 := cl2 (hf (p + k) (by omega) hx)
      rw [if_neg (nI_ge hx (by omega)), gR_t (k36 hS), Option.bind_some, rz36_0 hS, aL_t (kz37 hS), Option.bind_some, if_neg (nI_ge (b := 300) (by omega) (by decide)), Option.bind_some, aI_t (kz37 hS) (by omega) (by decide), Option.bind_some, b2, by7 _ (by omega)]
      unfold lt1
      try dsimp only
      rw [nv_st c2.1, nI_1, show p + k + 1 = p + (k + 1) by omega]
      exact ih (k + 1) (by omega) (by omega)
theorem num_X (hS : Shp z K R) (ht : t ≤ 300) (hT : TX z t b J) {p e : Nat} (hpe : p ≤ e) (he : e ≤ t) (e8 : J (z + 36) 8 = nI p) (e9 : J (z + 36) 9 = nI e) (hf : ∀ i, p ≤ i → i < e → clB (b i) = 2) : f_X0_numberOfToken (some (z + 36)) (K, J, R, w) = some (nI (nvF b p (e - p)), K, J, R, w) := by
  unfold f_X0_numberOfToken
  rw [gI_t (k36 hS), Option.bind_some, e8]
  exact nv_X hS ht hT hpe he e9 hf FU 0 (by omega) (by unfold FU; omega)
theorem nv_M (hS : Shp z K R) (ht : t ≤ 300) (hT : TMt z t b J) {p e : Nat} {lo hi : Int32} (hpe : p ≤ e) (he : e ≤ t) (e31 : J (z + 82) 31 = nI 3) (e33 : J (z + 82) 33 = nI e) (hf : ∀ i, p ≤ i → i < e → clB (b i) = 2) : ∀ fu k, p + k ≤ e → e < fu + (p + k) → b_X12_numberIn_8 fu (some (z + 82)) lo hi (nI (nvF b p k)) (nI (p + k)) (K, J, R, w) = b_X12_numberIn_47 (some (z + 82)) lo hi (nI (nvF b p (e - p))) (K, J, R, w) := by
  intro fu
  induction fu with
  | zero => intro k x y; omega
  | succ fu ih =>
    intro k x y
    rw [b_X12_numberIn_8, gI_t (k82 hS), Option.bind_some, e33]
    by_cases c : p + k = e
    · rw [if_pos (nI_le (by omega) (by omega)), show e - p = k by omega]
    · have hx : p + k < e := by omega
      obtain ⟨b1, b2⟩ := hT.2 (p + k) (by omega)
      have c2 := cl2 (hf (p + k) (by omega) hx)
      rw [if_neg (nI_ge hx (by omega)), gI_t (k82 hS), Option.bind_some, e31, if_pos (show nI 3 = (3 : Int32) from rfl), gR_t (k82 hS), Option.bind_some, rz82_26 hS, aI_t (kz102 hS) (by omega) (by decide), Option.bind_some, b2]
      unfold lt1
      try dsimp only
      rw [nv_st c2.1, nI_1, show p + k + 1 = p + (k + 1) by omega]
      exact ih (k + 1) (by omega) (by omega)
theorem num_Mv (hS : Shp z K R) (ht : t ≤ 300) (hT : TMt z t b J) {p e s : Nat} {lo hi : Int32} (hpe : p ≤ e) (he : e ≤ t) (hs : s ≤ 4) (e31 : J (z + 82) 31 = nI (scd s)) (e32 : J (z + 82) 32 = nI p) (e33 : J (z + 82) 33 = nI e) (hf : s = 2 → ∀ i, p ≤ i → i < e → clB (b i) = 2) : f_X12_numberIn (some (z + 82)) lo hi (K, J, R, w) = b_X12_numberIn_47 (some (z + 82)) lo hi (nI (if s = 2 then nvF b p (e - p) else 0)) (K, J, R, w) := by
  unfold f_X12_numberIn
  rw [gI_t (k82 hS), Option.bind_some, e32]
  by_cases c : s = 2
  · subst c
    rw [if_pos rfl]
    exact nv_M hS ht hT hpe he e31 e33 (hf rfl) FU 0 (by omega) (by unfold FU; omega)
  · rw [if_neg c, FU_1, b_X12_numberIn_8, gI_t (k82 hS), Option.bind_some, e33]
    by_cases c2 : p = e
    · rw [if_pos (nI_le (by omega) (by omega))]; rfl
    · have n3 : ¬ nI (scd s) = (3 : Int32) := by
        rw [show (nI (scd s) = (3 : Int32)) = (scd s = 3) from nIq (c := 3) (by unfold scd; split <;> omega) (by decide)]
        unfold scd; split <;> omega
      rw [if_neg (nI_ge (by omega) (by omega)), gI_t (k82 hS), Option.bind_some, e31, if_neg n3]; rfl
-- the reference's faults
theorem bad_M (hS : Shp z K R) (x : Int32) (e34 : J (z + 82) 34 = 0) {p : Nat} (e32 : J (z + 82) 32 = nI p) : f_X12_bad (some (z + 82)) x (K, J, R, w) = some (K, up2 (up2 J (z + 82) 34 x) (z + 82) 35 (nI p), R, w) := by
  have : up2 J (z + 82) 34 x (z + 82) 32 = nI p := by simp (disch := omega) only [un_1, un_2, un_3, un_4, es, up2_self]; exact e32
  unfold f_X12_bad
  rw [gI_t (k82 hS), Option.bind_some, e34, if_pos rfl, pI_t (k82 hS), Option.bind_some, gI_t (k82 hS), Option.bind_some, this, pI_t (k82 hS), Option.bind_some]
theorem bad_F (hS : Shp z K R) (x : Int32) (e34 : ¬ J (z + 82) 34 = 0) : f_X12_bad (some (z + 82)) x (K, J, R, w) = some (K, J, R, w) := by
  unfold f_X12_bad
  rw [gI_t (k82 hS), Option.bind_some, if_neg e34]
theorem take_F (hS : Shp z K R) (x : Int32) (e34 : ¬ J (z + 82) 34 = 0) : f_X12_take (some (z + 82)) x (K, J, R, w) = some (K, J, R, w) := by
  have t9 : b_X12_take_9 (some (z + 82)) (K, J, R, w) = some (K, J, R, w) := by
    unfold b_X12_take_9
    rw [gI_t (k82 hS), Option.bind_some, if_neg e34]
  unfold f_X12_take
  by_cases c : x = 0
  · rw [if_pos c, cK_t (k82 hS), bad_F hS 1 e34, Option.bind_some, t9]
  · rw [if_neg c, t9]
theorem take_1 (hS : Shp z K R) (e34 : J (z + 82) 34 = 0) : f_X12_take (some (z + 82)) 1 (K, J, R, w) = f_X12_step (some (z + 82)) (K, J, R, w) := by
  unfold f_X12_take b_X12_take_9
  rw [if_neg i10, gI_t (k82 hS), Option.bind_some, e34, if_pos rfl, cK_t (k82 hS)]
  cases f_X12_step (some (z + 82)) (K, J, R, w) <;> rfl
theorem take_0 (hS : Shp z K R) (e34 : J (z + 82) 34 = 0) {p : Nat} (e32 : J (z + 82) 32 = nI p) : f_X12_take (some (z + 82)) 0 (K, J, R, w) = some (K, up2 (up2 J (z + 82) 34 1) (z + 82) 35 (nI p), R, w) := by
  have : up2 (up2 J (z + 82) 34 1) (z + 82) 35 (nI p) (z + 82) 34 = 1 := by simp (disch := omega) only [un_1, un_2, un_3, un_4, es, up2_self]
  unfold f_X12_take b_X12_take_9
  rw [if_pos rfl, cK_t (k82 hS), bad_M hS 1 e34 e32, Option.bind_some, gI_t (k82 hS), Option.bind_some, this, if_neg i10]
theorem num_F (hS : Shp z K R) (ht : t ≤ 300) (hT : TMt z t b J) {p e s : Nat} {lo hi : Int32} (hpe : p ≤ e) (he : e ≤ t) (hs : s ≤ 4) (e31 : J (z + 82) 31 = nI (scd s)) (e32 : J (z + 82) 32 = nI p) (e33 : J (z + 82) 33 = nI e) (hf : s = 2 → ∀ i, p ≤ i → i < e → clB (b i) = 2) (e34 : ¬ J (z + 82) 34 = 0) : ∃ v, f_X12_numberIn (some (z + 82)) lo hi (K, J, R, w) = some (v, K, J, R, w) := by
  refine ⟨nI (if s = 2 then nvF b p (e - p) else 0), ?_⟩
  rw [num_Mv hS ht hT hpe he hs e31 e32 e33 hf]
  have s86 : ∀ x, b_X12_numberIn_86 (nI (if s = 2 then nvF b p (e - p) else 0)) (some (z + 82)) x (K, J, R, w) = some (nI (if s = 2 then nvF b p (e - p) else 0), K, J, R, w) := fun x => by
    unfold b_X12_numberIn_86
    rw [cK_t (k82 hS), take_F hS x e34, Option.bind_some]
  have s72 : b_X12_numberIn_72 (some (z + 82)) (nI (if s = 2 then nvF b p (e - p) else 0)) (K, J, R, w) = some (nI (if s = 2 then nvF b p (e - p) else 0), K, J, R, w) := by
    unfold b_X12_numberIn_72
    rw [gI_t (k82 hS), Option.bind_some, s86, s86]
    split <;> rfl
  unfold b_X12_numberIn_47
  rw [gI_t (k82 hS), Option.bind_some, in_w, Option.bind_some, cK_t (k82 hS), bad_F hS 2 e34, Option.bind_some, s72]
  repeat' split
  all_goals rfl
theorem num_M (hS : Shp z K R) (ht : t ≤ 300) (hT : TMt z t b J) {p e s : Nat} {lo hi : Int32} (hpe : p ≤ e) (he : e ≤ t) (hs : s ≤ 4) (e31 : J (z + 82) 31 = nI (scd s)) (e32 : J (z + 82) 32 = nI p) (e33 : J (z + 82) 33 = nI e) (hf : s = 2 → ∀ i, p ≤ i → i < e → clB (b i) = 2) (e34 : J (z + 82) 34 = 0) : f_X12_numberIn (some (z + 82)) lo hi (K, J, R, w) = (if s = 2 then (if lo ≤ nI (nvF b p (e - p)) ∧ nI (nvF b p (e - p)) ≤ hi then (f_X12_step (some (z + 82)) (K, J, R, w)).bind fun o => some (nI (nvF b p (e - p)), o) else some (nI (nvF b p (e - p)), K, up2 (up2 J (z + 82) 34 2) (z + 82) 35 (nI p), R, w)) else some (0, K, up2 (up2 J (z + 82) 34 1) (z + 82) 35 (nI p), R, w)) := by
  have q3 : (nI (scd s) = (3 : Int32)) = (s = 2) := by
    rw [show (nI (scd s) = (3 : Int32)) = (scd s = 3) from nIq (c := 3) (by unfold scd; split <;> omega) (by decide)]
    refine propext ⟨fun q => ?_, fun q => by rw [q]; rfl⟩
    unfold scd at q; split at q <;> omega
  rw [num_Mv hS ht hT hpe he hs e31 e32 e33 hf]
  unfold b_X12_numberIn_47
  rw [gI_t (k82 hS), Option.bind_some, e31, in_w, Option.bind_some, cK_t (k82 hS)]
  by_cases c : s = 2
  · rw [if_pos (by rw [q3]; exact c), if_pos c, if_pos c]
    by_cases d : lo ≤ nI (nvF b p (e - p)) ∧ nI (nvF b p (e - p)) ≤ hi
    · rw [wi1 d, if_neg i10, if_pos d]
      unfold b_X12_numberIn_72 b_X12_numberIn_86
      rw [gI_t (k82 hS), Option.bind_some, e31, if_pos (by rw [q3]; exact c), cK_t (k82 hS), take_1 hS e34]
    · have f34 : ¬ up2 (up2 J (z + 82) 34 2) (z + 82) 35 (nI p) (z + 82) 34 = 0 := by simp (disch := omega) only [un_1, un_2, un_3, un_4, es, up2_self]; decide
      have f31 : up2 (up2 J (z + 82) 34 2) (z + 82) 35 (nI p) (z + 82) 31 = nI (scd s) := by simp (disch := omega) only [un_1, un_2, un_3, un_4, es, up2_self]; exact e31
      rw [wi0 d, if_pos rfl, bad_M hS 2 e34 e32, Option.bind_some, if_neg d]
      unfold b_X12_numberIn_72 b_X12_numberIn_86
      rw [gI_t (k82 hS), Option.bind_some, f31, if_pos (by rw [q3]; exact c), cK_t (k82 hS), take_F hS 1 f34, Option.bind_some]
  · rw [if_neg (by rw [q3]; exact c), if_neg c, if_neg c]
    unfold b_X12_numberIn_72 b_X12_numberIn_86
    rw [gI_t (k82 hS), Option.bind_some, e31, if_neg (by rw [q3]; exact c), cK_t (k82 hS), take_0 hS e34 e32, Option.bind_some]
    rfl
end C3
