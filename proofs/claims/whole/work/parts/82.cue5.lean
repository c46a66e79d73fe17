section C5
variable {z h k n m t q : Nat} {K : Nat → Nat × Nat} {I J M : Nat → Nat → Int32} {R R' : Nat → Nat → Option Nat} {w : Nat} {b : Nat → Nat}
theorem nc_eq {c v : Nat} (hc : c < 256) (hv : v < 256) {x : Int32} (hx : x = nI v) : decide (nI c = x) = decide (c = v) := by
  rw [hx]
  exact decide_eq_decide.mpr (nI_eq (by omega) (by omega))
theorem wq_n {s p L v k : Nat} (hk : k < 4) (hv : v = (if k = 0 then 24948 else if k = 1 then 1684107883 else if k = 2 then 1936224119 else 1717658725)) (h6 : s = 1 → 1 ≤ L ∧ L ≤ 6) (hf : s = 1 → ∀ i, i < L → 97 ≤ b (p + i) ∧ b (p + i) ≤ 122) : ((if s = 1 then nmF b p L else 0) = v) ↔ wqB k s b p L = true := by
  by_cases c : s = 1
  · rw [if_pos c]
    have hL := h6 c
    have hf := hf c
    unfold wqB
    have hb0 : 0 < L → 97 ≤ b (p + 0) ∧ b (p + 0) ≤ 122 := hf 0
    have hb1 : 1 < L → 97 ≤ b (p + 1) ∧ b (p + 1) ≤ 122 := hf 1
    have hb2 : 2 < L → 97 ≤ b (p + 2) ∧ b (p + 2) ≤ 122 := hf 2
    have hb3 : 3 < L → 97 ≤ b (p + 3) ∧ b (p + 3) ≤ 122 := hf 3
    have hb4 : 4 < L → 97 ≤ b (p + 4) ∧ b (p + 4) ≤ 122 := hf 4
    have hb5 : 5 < L → 97 ≤ b (p + 5) ∧ b (p + 5) ≤ 122 := hf 5
    have hk' : k = 0 ∨ k = 1 ∨ k = 2 ∨ k = 3 := by omega
    have hL' : L = 1 ∨ L = 2 ∨ L = 3 ∨ L = 4 ∨ L = 5 ∨ L = 6 := by omega
    rw [c]
    have w0 : wlB 0 b p 2 = (decide (nI (b (p + 0)) = nI 97) && decide (nI (b (p + 1)) = nI 116)) := by rw [wlB, wlB, wlB, Bool.true_and]; rfl
    have w1 : wlB 1 b p 4 = (decide (nI (b (p + 0)) = nI 100) && decide (nI (b (p + 1)) = nI 97) && decide (nI (b (p + 2)) = nI 114) && decide (nI (b (p + 3)) = nI 107)) := by rw [wlB, wlB, wlB, wlB, wlB, Bool.true_and]; rfl
    have w2 : wlB 2 b p 4 = (decide (nI (b (p + 0)) = nI 115) && decide (nI (b (p + 1)) = nI 104) && decide (nI (b (p + 2)) = nI 111) && decide (nI (b (p + 3)) = nI 119)) := by rw [wlB, wlB, wlB, wlB, wlB, Bool.true_and]; rfl
    have w3 : wlB 3 b p 4 = (decide (nI (b (p + 0)) = nI 102) && decide (nI (b (p + 1)) = nI 97) && decide (nI (b (p + 2)) = nI 100) && decide (nI (b (p + 3)) = nI 101)) := by rw [wlB, wlB, wlB, wlB, wlB, Bool.true_and]; rfl
    have l0 : stLen.getD 0 0 = 2 := rfl
    have l1 : stLen.getD 1 0 = 4 := rfl
    have l2 : stLen.getD 2 0 = 4 := rfl
    have l3 : stLen.getD 3 0 = 4 := rfl
    have ne : ∀ i v, i < L → v < 256 → (nI (b (p + i)) = nI v ↔ b (p + i) = v) := fun i v hi hv => nI_eq (by have := hf i hi; omega) (by omega)
    rcases hk' with rfl | rfl | rfl | rfl
    · rw [l0]
      by_cases d : L = 2
      · subst d
        rw [w0]
        simp only [decide_true, Bool.true_and, Bool.and_eq_true, decide_eq_true_eq, ne 0 97 (by omega) (by omega), ne 1 116 (by omega) (by omega)]
        simp only [nmF]
        simp only [if_true] at hv
        omega
      · simp only [d, decide_false, Bool.and_false, Bool.false_and, Bool.false_eq_true, iff_false]
        simp only [if_true] at hv
        rcases hL' with rfl | rfl | rfl | rfl | rfl | rfl <;> simp only [nmF] <;> omega
    · rw [l1]
      simp only [show ¬ (1 : Nat) = 0 by decide, if_false, if_true] at hv
      by_cases d : L = 4
      · subst d
        rw [w1]
        simp only [decide_true, Bool.true_and, Bool.and_eq_true, decide_eq_true_eq, ne 0 100 (by omega) (by omega), ne 1 97 (by omega) (by omega), ne 2 114 (by omega) (by omega), ne 3 107 (by omega) (by omega)]
        simp only [nmF]
        omega
      · simp only [d, decide_false, Bool.and_false, Bool.false_and, Bool.false_eq_true, iff_false]
        rcases hL' with rfl | rfl | rfl | rfl | rfl | rfl <;> simp only [nmF] <;> omega
    · rw [l2]
      simp only [show ¬ (2 : Nat) = 0 by decide, show ¬ (2 : Nat) = 1 by decide, if_false, if_true] at hv
      by_cases d : L = 4
      · subst d
        rw [w2]
        simp only [decide_true, Bool.true_and, Bool.and_eq_true, decide_eq_true_eq, ne 0 115 (by omega) (by omega), ne 1 104 (by omega) (by omega), ne 2 111 (by omega) (by omega), ne 3 119 (by omega) (by omega)]
        simp only [nmF]
        omega
      · simp only [d, decide_false, Bool.and_false, Bool.false_and, Bool.false_eq_true, iff_false]
        rcases hL' with rfl | rfl | rfl | rfl | rfl | rfl <;> simp only [nmF] <;> omega
    · rw [l3]
      simp only [show ¬ (3 : Nat) = 0 by decide, show ¬ (3 : Nat) = 1 by decide, show ¬ (3 : Nat) = 2 by decide, if_false] at hv
      by_cases d : L = 4
      · subst d
        rw [w3]
        simp only [decide_true, Bool.true_and, Bool.and_eq_true, decide_eq_true_eq, ne 0 102 (by omega) (by omega), ne 1 97 (by omega) (by omega), ne 2 100 (by omega) (by omega), ne 3 101 (by omega) (by omega)]
        simp only [nmF]
        omega
      · simp only [d, decide_false, Bool.and_false, Bool.false_and, Bool.false_eq_true, iff_false]
        rcases hL' with rfl | rfl | rfl | rfl | rfl | rfl <;> simp only [nmF] <;> omega
  · rw [if_neg c]
    unfold wqB
    simp only [c, decide_false, Bool.false_and, Bool.false_eq_true, iff_false]
    rw [hv]
    repeat' split
    all_goals decide
-- both stand at the token behind a
def TR (z t a : Nat) (b : Nat → Nat) (J M : Nat → Nat → Int32) : Prop := a ≤ t ∧ t ≤ 300 ∧ TX z t b J ∧ TMt z t b M ∧ J (z + 36) 7 = nI (tkS b t a) ∧ J (z + 36) 8 = nI (tkP b t a) ∧ J (z + 36) 9 = nI (tkE b t a) ∧ M (z + 82) 30 = nI (tkE b t a) ∧ M (z + 82) 31 = nI (scd (tkS b t a)) ∧ M (z + 82) 32 = nI (tkP b t a) ∧ M (z + 82) 33 = nI (tkE b t a) ∧ M (z + 82) 34 = 0
def FJ (z : Nat) (J A : Nat → Nat → Int32) : Prop := ∀ o q, ¬ (o = 36 ∧ 7 ≤ q ∧ q ≤ 9) → A (z + o) q = J (z + o) q
def FN (z : Nat) (M A : Nat → Nat → Int32) : Prop := ∀ o q, ¬ (o = 82 ∧ 30 ≤ q ∧ q ≤ 33) → A (z + o) q = M (z + o) q
theorem nxt_2 (hS : Shp z K R) (hS' : Shp z K R') {a : Nat} (h : TR z t a b J M) : ∃ A B, f_X0_nextToken (some (z + 36)) (K, J, R, w) = some (K, A, R, w) ∧ f_X12_step (some (z + 82)) (K, M, R', w) = some (K, B, R', w) ∧ TR z t (tkE b t a) b A B ∧ FJ z J A ∧ FN z M B := by
  obtain ⟨h1, h2, h3, h4, h5, h6, h7, h8, h9, h10, h11, h12⟩ := h
  have he := (tk_ok (b := b) h1).2.2.1
  obtain ⟨A, a1, a2, a3, a4, a5⟩ := next_X (w := w) hS h2 h3 he h7
  obtain ⟨B, b1, b2, b3, b4, b5, b6⟩ := step_M (w := w) hS' h2 h4 he h8
  refine ⟨A, B, a1, b1, ⟨he, h2, ⟨by rw [a5 36 1 (by omega)]; exact h3.1, fun k hk => by rw [a5 37 k (by omega)]; exact h3.2 k hk⟩, ⟨by rw [b6 82 29 (by omega)]; exact h4.1, fun k hk => by rw [b6 102 k (by omega)]; exact h4.2 k hk⟩, a2, a3, a4, b2, b3, b4, b5, by rw [b6 82 34 (by omega)]; exact h12⟩, a5, b6⟩
/-- a word, in both -/
theorem word_2 (hS : Shp z K R) (hS' : Shp z K R') (hc : RCst R) {a : Nat} (h : TR z t a b J M) : (∀ k, k < 4 → f_X0_isWord (some (z + 36)) (R 0 k) (K, J, R, w) = some (bI (wqB k (tkS b t a) b (tkP b t a) (tkE b t a - tkP b t a)), K, J, R, w)) ∧ ∃ X : Int64, f_X12_name (some (z + 82)) (K, M, R', w) = some (X, K, M, R', w) ∧ ((lg_cmp X 24948 = 0) = (wqB 0 (tkS b t a) b (tkP b t a) (tkE b t a - tkP b t a) = true)) ∧ ((lg_cmp X 1684107883 = 0) = (wqB 1 (tkS b t a) b (tkP b t a) (tkE b t a - tkP b t a) = true)) ∧ ((lg_cmp X 1936224119 = 0) = (wqB 2 (tkS b t a) b (tkP b t a) (tkE b t a - tkP b t a) = true)) ∧ ((lg_cmp X 1717658725 = 0) = (wqB 3 (tkS b t a) b (tkP b t a) (tkE b t a - tkP b t a) = true)) := by
  obtain ⟨h1, h2, h3, h4, h5, h6, h7, h8, h9, h10, h11, h12⟩ := h
  obtain ⟨o1, o2, o3, o4, o5, o6, o7, o8⟩ := tk_ok (b := b) h1
  refine ⟨fun k hk => wd_X hS hc h2 h3 hk o2 o3 o4 h5 h6 h7 (fun q => (o6 q).2.2), lN (if tkS b t a = 1 then nmF b (tkP b t a) (tkE b t a - tkP b t a) else 0), nm_M hS' h2 h4 o2 o3 o4 (fun q => (o6 q).2.1) h9 h10 h11, ?_⟩
  have key : ∀ (k v : Nat), k < 4 → v = (if k = 0 then 24948 else if k = 1 then 1684107883 else if k = 2 then 1936224119 else 1717658725) → v < 2 ^ 63 → ((lg_cmp (lN (if tkS b t a = 1 then nmF b (tkP b t a) (tkE b t a - tkP b t a) else 0)) (lN v) = 0) = (wqB k (tkS b t a) b (tkP b t a) (tkE b t a - tkP b t a) = true)) := by
    intro k v hk hv hv63
    have hlt : (if tkS b t a = 1 then nmF b (tkP b t a) (tkE b t a - tkP b t a) else 0) < 2 ^ 63 := by
      by_cases c : tkS b t a = 1
      · rw [if_pos c]
        have o6 := o6 c
        have := nm_lt (b := b) (p := tkP b t a) (L := tkE b t a - tkP b t a) (fun i hi => (h4.2 (tkP b t a + i) (by omega)).1) _ (Nat.le_refl _)
        refine Nat.lt_of_lt_of_le this ?_
        calc 256 ^ (tkE b t a - tkP b t a) ≤ 256 ^ 6 := Nat.pow_le_pow_right (by decide) (by omega)
          _ ≤ 2 ^ 63 := by decide
      · rw [if_neg c]; decide
    rw [c64_eq]
    refine propext (Iff.trans (pk_lEQ hlt hv63) (wq_n hk hv (fun q => ?_) (fun q i hi => cl1 ((o6 q).2.2 (tkP b t a + i) (by omega) (by omega)))))
    have o6 := o6 q
    omega
  exact ⟨key 0 24948 (by decide) rfl (by decide), key 1 1684107883 (by decide) rfl (by decide), key 2 1936224119 (by decide) rfl (by decide), key 3 1717658725 (by decide) rfl (by decide)⟩
end C5
