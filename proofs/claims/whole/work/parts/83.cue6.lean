section C6
variable {z h k n m t q : Nat} {K : Nat → Nat × Nat} {I J M : Nat → Nat → Int32} {R R' : Nat → Nat → Option Nat} {w : Nat} {b : Nat → Nat}
theorem TR.J1 {a r pl : Nat} {v : Int32} (h : TR z t a b J M) (hr : r ≠ 36) (hr7 : r ≠ 37) : TR z t a b (up2 J (z + r) pl v) M := by
  obtain ⟨h1, h2, h3, h4, h5, h6, h7, h8⟩ := h
  exact ⟨h1, h2, ⟨by rw [un_1 (Or.inl (by omega))]; exact h3.1, fun k hk => by rw [un_1 (Or.inl (by omega))]; exact h3.2 k hk⟩, h4, by rw [un_1 (Or.inl (by omega))]; exact h5, by rw [un_1 (Or.inl (by omega))]; exact h6, by rw [un_1 (Or.inl (by omega))]; exact h7, h8⟩
theorem num_2 (hS : Shp z K R) (hS' : Shp z K R') {a r pl l u : Nat} (h : TR z t a b J M) (kr : K (z + r) = (14, 4)) (hr : r ≠ 36) (hr7 : r ≠ 37) (hpl : pl < 4) (hl : l ≤ 9999) (hu : u ≤ 9999) {x2 lo hi : Int32} (e2 : x2 = nI pl) (el : lo = nI l) (eh : hi = nI u) :
    (∃ v A B, l ≤ v ∧ v ≤ u ∧ f_X0_readNumber (some (z + 36)) (some (z + r)) x2 lo hi (K, J, R, w) = some (0, K, A, R, w) ∧ f_X12_numberIn (some (z + 82)) lo hi (K, M, R', w) = some (nI v, K, B, R', w) ∧ TR z t (tkE b t a) b A B ∧ FJ z (up2 J (z + r) pl (nI v)) A ∧ FN z M B)
    ∨ (∃ c x, (c = 1 ∨ c = 2) ∧ f_X0_readNumber (some (z + 36)) (some (z + r)) x2 lo hi (K, J, R, w) = some (nI c, K, J, R, w) ∧ f_X12_numberIn (some (z + 82)) lo hi (K, M, R', w) = some (x, K, up2 (up2 M (z + 82) 34 (nI c)) (z + 82) 35 (nI (tkP b t a)), R', w)) := by
  have h' := h
  obtain ⟨h1, h2, h3, h4, h5, h6, h7, h8, h9, h10, h11, h12⟩ := h
  obtain ⟨o1, o2, o3, o4, o5, o6, o7, o8⟩ := tk_ok (b := b) h1
  have nm := num_M (w := w) (lo := lo) (hi := hi) hS' h2 h4 o2 o3 o4 h9 h10 h11 (fun q => (o7 q).2.2) h12
  have q2 : (nI (tkS b t a) = (2 : Int32)) = (tkS b t a = 2) := nIq (c := 2) (by omega) (by decide)
  unfold f_X0_readNumber
  rw [gI_t (k36 hS), Option.bind_some, h5]
  by_cases c : tkS b t a = 2
  · have o7 := o7 c
    rw [if_pos c] at nm
    rw [if_pos (by rw [q2]; exact c), cK_t (k36 hS), num_X hS h2 h3 o2 o3 h6 h7 o7.2.2, Option.bind_some, isW, Option.bind_some]
    have vlt := nv_lt (b := b) (p := tkP b t a) (L := tkE b t a - tkP b t a) (fun i hi => cl2 (o7.2.2 (tkP b t a + i) (by omega) (by omega))) _ (Nat.le_refl _)
    have vle : nvF b (tkP b t a) (tkE b t a - tkP b t a) < 10000 := Nat.lt_of_lt_of_le vlt (by
      calc 10 ^ (tkE b t a - tkP b t a) ≤ 10 ^ 4 := Nat.pow_le_pow_right (by decide) (by omega)
        _ = 10000 := by decide)
    obtain ⟨v, hv⟩ : ∃ v, v = nvF b (tkP b t a) (tkE b t a - tkP b t a) := ⟨_, rfl⟩
    rw [← hv] at nm vle ⊢
    by_cases d : lo ≤ nI v ∧ nI v ≤ hi
    · rw [if_pos d] at nm
      have d1 : l ≤ v := by
        have := d.1
        rw [el, nI_leI (by omega) (by omega)] at this; exact this
      have d2 : v ≤ u := by
        have := d.2
        rw [eh, nI_leI (by omega) (by omega)] at this; exact this
      obtain ⟨A, B, a1, a2, a3, a4, a5⟩ := nxt_2 (w := w) hS hS' (h'.J1 (r := r) (pl := pl) (v := nI v) hr hr7)
      refine Or.inl ⟨v, A, B, d1, d2, ?_, ?_, a3, a4, a5⟩
      · rw [wi1 d, if_neg i10, e2, sI_t kr hpl (by decide), Option.bind_some, nar14, cK_t (k36 hS), a1, Option.bind_some]
      · rw [nm, a2, Option.bind_some]
    · rw [if_neg d] at nm
      refine Or.inr ⟨2, _, Or.inr rfl, ?_, nm⟩
      rw [wi0 d, if_pos rfl]; rfl
  · rw [if_neg c] at nm
    refine Or.inr ⟨1, _, Or.inl rfl, ?_, nm⟩
    rw [if_neg (by rw [q2]; exact c)]; rfl
-- behind a fault the reference does nothing more
def TF (z t a : Nat) (b : Nat → Nat) (M : Nat → Nat → Int32) : Prop := a ≤ t ∧ t ≤ 300 ∧ TMt z t b M ∧ M (z + 82) 31 = nI (scd (tkS b t a)) ∧ M (z + 82) 32 = nI (tkP b t a) ∧ M (z + 82) 33 = nI (tkE b t a) ∧ ¬ M (z + 82) 34 = 0
theorem TR.tf {a c : Nat} (h : TR z t a b J M) (hc : 0 < c) (hc3 : c ≤ 3) : TF z t a b (up2 (up2 M (z + 82) 34 (nI c)) (z + 82) 35 (nI (tkP b t a))) := by
  obtain ⟨h1, h2, h3, h4, h5, h6, h7, h8, h9, h10, h11, h12⟩ := h
  refine ⟨h1, h2, (h4.up (by decide)).up (by decide), ?_, ?_, ?_, ?_⟩
  · simp (disch := omega) only [un_1, un_2, un_3, un_4, es, up2_self]; exact h9
  · simp (disch := omega) only [un_1, un_2, un_3, un_4, es, up2_self]; exact h10
  · simp (disch := omega) only [un_1, un_2, un_3, un_4, es, up2_self]; exact h11
  · simp (disch := omega) only [un_1, un_2, un_3, un_4, es, up2_self]; exact nI_ne0 hc (by omega)
theorem TF.num (hS : Shp z K R) {a : Nat} (h : TF z t a b M) (lo hi : Int32) : ∃ v, f_X12_numberIn (some (z + 82)) lo hi (K, M, R, w) = some (v, K, M, R, w) := by
  obtain ⟨h1, h2, h4, h9, h10, h11, h12⟩ := h
  obtain ⟨o1, o2, o3, o4, o5, o6, o7, o8⟩ := tk_ok (b := b) h1
  exact num_F hS h2 h4 o2 o3 o4 h9 h10 h11 (fun q => (o7 q).2.2) h12
theorem TF.nam (hS : Shp z K R) {a : Nat} (h : TF z t a b M) : ∃ v, f_X12_name (some (z + 82)) (K, M, R, w) = some (v, K, M, R, w) := by
  obtain ⟨h1, h2, h4, h9, h10, h11, h12⟩ := h
  obtain ⟨o1, o2, o3, o4, o5, o6, o7, o8⟩ := tk_ok (b := b) h1
  exact ⟨_, nm_M hS h2 h4 o2 o3 o4 (fun q => (o6 q).2.1) h9 h10 h11⟩
theorem f205 (hS : Shp z K R) (e34 : ¬ M (z + 82) 34 = 0) (x1 x4 x5 x6 s1 : Int32) : b_X12_readCue_205 (some (z + 82)) x1 x4 x5 x6 (some (z + 82)) s1 (K, M, R, w) = some (K, M, R, w) := by
  unfold b_X12_readCue_205
  rw [cK_t (k82 hS), take_F hS s1 e34, Option.bind_some, gI_t (k82 hS), Option.bind_some, if_neg e34]
theorem f189 (hS : Shp z K R) (e34 : ¬ M (z + 82) 34 = 0) (x1 x4 x5 s0 : Int32) : b_X12_readCue_189 (some (z + 82)) x1 x4 x5 s0 (K, M, R, w) = some (K, M, R, w) := by
  unfold b_X12_readCue_189
  rw [gI_t (k82 hS), Option.bind_some, f205 hS e34, f205 hS e34]
  split <;> rfl
theorem f169 (hS : Shp z K R) {a : Nat} (h : TF z t a b M) (x1 x4 s0 : Int32) : b_X12_readCue_169 (some (z + 82)) x1 x4 s0 (K, M, R, w) = some (K, M, R, w) := by
  have e34 := h.2.2.2.2.2.2
  obtain ⟨v, hv⟩ := h.num (w := w) hS 0 9999
  unfold b_X12_readCue_169
  rw [cK_t (k82 hS), hv, Option.bind_some, f189 hS e34, f189 hS e34]
  split <;> rfl
theorem f133 (hS : Shp z K R) {a : Nat} (h : TF z t a b M) (x1 x4 s1 : Int32) : b_X12_readCue_133 (some (z + 82)) x1 x4 (some (z + 82)) s1 (K, M, R, w) = some (K, M, R, w) := by
  have e34 := h.2.2.2.2.2.2
  obtain ⟨v, hv⟩ := h.num (w := w) hS 0 9999
  obtain ⟨u, hu⟩ := h.num (w := w) hS 0 100
  unfold b_X12_readCue_133
  rw [cK_t (k82 hS), take_F hS s1 e34, Option.bind_some, cK_t (k82 hS), cK_t (k82 hS), hv, hu, Option.bind_some, Option.bind_some, f169 hS h, f169 hS h, f169 hS h]
  split
  · rfl
  · split <;> rfl
theorem f119 (hS : Shp z K R) {a : Nat} (h : TF z t a b M) (x1 s0 : Int32) : b_X12_readCue_119 (some (z + 82)) x1 s0 (K, M, R, w) = some (K, M, R, w) := by
  unfold b_X12_readCue_119
  rw [f133 hS h, f133 hS h]
  split <;> rfl
/-- the reference's rest, behind the frame's number -/
def rst (a0 : Option Nat) (x1 : Int32) (S : St) : Option St := (f_X12_name a0 S).bind fun o2 => (if (lg_cmp o2.1 (1936224119 : Int64)) = 0 then b_X12_readCue_119 a0 x1 (0 : Int32) o2.2 else (if (lg_cmp o2.1 (1684107883 : Int64)) = 0 then b_X12_readCue_119 a0 x1 (1 : Int32) o2.2 else (if (lg_cmp o2.1 (1717658725 : Int64)) = 0 then b_X12_readCue_119 a0 x1 (2 : Int32) o2.2 else b_X12_readCue_119 a0 x1 (3 : Int32) o2.2)))
theorem frst (hS : Shp z K R) {a : Nat} (h : TF z t a b M) (x1 : Int32) : rst (some (z + 82)) x1 (K, M, R, w) = some (K, M, R, w) := by
  obtain ⟨v, hv⟩ := h.nam (w := w) hS
  unfold rst
  rw [hv, Option.bind_some, f119 hS h, f119 hS h, f119 hS h, f119 hS h]
  split
  · rfl
  · split
    · rfl
    · split <;> rfl
theorem f70 (hS : Shp z K R) {a : Nat} (h : TF z t a b M) (s1 : Int32) : b_X12_readCue_70 (some (z + 82)) (some (z + 82)) s1 (K, M, R, w) = some (K, M, R, w) := by
  obtain ⟨v, hv⟩ := h.num (w := w) hS s1 9999
  have := frst (w := w) hS h v
  unfold b_X12_readCue_70
  rw [cK_t (k82 hS), hv, Option.bind_some, cK_t (k82 hS)]
  exact this
theorem f42 (hS : Shp z K R) {a : Nat} (h : TF z t a b M) {n : Nat} (hn : n ≤ 12) (e38 : M (z + 82) 38 = nI n) (s1 : Int32) : b_X12_readCue_42 (some (z + 82)) (some (z + 82)) s1 (K, M, R, w) = some (K, M, R, w) := by
  have e34 := h.2.2.2.2.2.2
  unfold b_X12_readCue_42
  rw [cK_t (k82 hS), take_F hS s1 e34, Option.bind_some, gI_t (k82 hS), Option.bind_some, e38]
  by_cases c : n = 0
  · subst c
    rw [if_pos (show nI 0 = 0 from rfl)]
    exact f70 hS h 0
  · rw [if_neg (nI_ne0 (by omega) (by omega)), gR_t (k82 hS), Option.bind_some, rz82_39 hS, Option.bind_some, ix4, show nI (4 * n) - 4 = nI (4 * n - 4) from sub_nn (b := 4) (by omega), aI_t (kz104 hS) (by omega) (by decide), Option.bind_some]
    exact f70 hS h _
/-- what to do, in both: a fault, or a deed -/
theorem deed_2 (hS : Shp z K R) (hS' : Shp z K R') (hc : RCst R) {a r : Nat} (h : TR z t a b J M) (kr : K (z + r) = (14, 4)) (hr : r ≠ 36) (hr7 : r ≠ 37) (x1 : Int32) :
    (∃ s va vb a' A B, s ≤ 2 ∧ va ≤ 9999 ∧ vb ≤ 9999 ∧ (s = 2 → va ≤ 100) ∧ f_X0_readDeed (some (z + 36)) (some (z + r)) (K, J, R, w) = some (0, K, A, R, w) ∧ rst (some (z + 82)) x1 (K, M, R', w) = b_X12_readCue_189 (some (z + 82)) x1 (nI s) (nI va) (nI vb) (K, B, R', w) ∧ TR z t a' b A B ∧ A (z + r) 0 = J (z + r) 0 ∧ A (z + r) 1 = nI s ∧ (s ≠ 1 → A (z + r) 2 = nI va) ∧ (s = 2 → A (z + r) 3 = nI vb) ∧ (∀ o q, ¬ (o = 36 ∧ 7 ≤ q ∧ q ≤ 9) → o ≠ r → A (z + o) q = J (z + o) q) ∧ FN z M B)
    ∨ (∃ c a' A B, a' ≤ t ∧ (c = 1 ∨ c = 2) ∧ f_X0_readDeed (some (z + 36)) (some (z + r)) (K, J, R, w) = some (nI c, K, A, R, w) ∧ rst (some (z + 82)) x1 (K, M, R', w) = some (K, B, R', w) ∧ A (z + 36) 8 = nI (tkP b t a') ∧ B (z + 82) 34 = nI c ∧ B (z + 82) 35 = nI (tkP b t a') ∧ (∀ o q, ¬ (o = 36 ∧ 7 ≤ q ∧ q ≤ 9) → o ≠ r → A (z + o) q = J (z + o) q) ∧ ∀ o q, ¬ (o = 82 ∧ 30 ≤ q ∧ q ≤ 35) → B (z + o) q = M (z + o) q) := by
  obtain ⟨wX, X, nX, n0, n1, n2, n3⟩ := word_2 (w := w) hS hS' hc h
  have h34 := h.2.2.2.2.2.2.2.2.2.2.2
  have h32 := h.2.2.2.2.2.2.2.2.2.1
  have sI1 : ∀ (H : Nat → Nat → Int32) (v : Int32), sI (K, H, R, w) (some (z + r)) 14 1 v = some (K, up2 H (z + r) 1 v, R, w) := fun H v => sI_t (j := 1) kr (by decide) (by decide)
  have fJs : ∀ (v : Int32) (A : Nat → Nat → Int32), FJ z (up2 J (z + r) 1 v) A → ∀ o q, ¬ (o = 36 ∧ 7 ≤ q ∧ q ≤ 9) → o ≠ r → A (z + o) q = J (z + o) q := fun v A hA o q p1 p2 => by rw [hA o q p1]; simp (disch := omega) only [un_1, un_2, un_3, un_4, es, up2_self]
  unfold rst f_X0_readDeed
  rw [nX, Option.bind_some, cK_t (k36 hS)]
  show _ ∨ _
  have w1 := wX 1 (by decide)
  have w2 := wX 2 (by decide)
  have w3 := wX 3 (by decide)
  simp only [w1, w2, w3, Option.bind_some, cK_t (k36 hS), sI1]
  by_cases c1 : wqB 1 (tkS b t a) b (tkP b t a) (tkE b t a - tkP b t a) = true
  · -- dark
    have hn2 : ¬ lg_cmp X 1936224119 = 0 := fun q => by
      rw [c64_eq] at q
      have := n1.mpr c1
      rw [c64_eq, q] at this
      exact absurd this (by decide)
    obtain ⟨A, B, a1, a2, a3, a4, a5⟩ := nxt_2 (w := w) hS hS' (h.J1 (r := r) (pl := 1) (v := 1) hr hr7)
    refine Or.inl ⟨1, 0, 0, tkE b t a, A, B, by decide, by decide, by decide, fun q => by omega, ?_, ?_, a3, ?_, ?_, fun q => absurd rfl q, fun q => by omega, fJs 1 A a4, a5⟩
    · rw [c1, if_neg (show ¬ bI true = 0 by decide), a1, Option.bind_some]
    · rw [if_neg hn2, if_pos (n1.mpr c1)]
      unfold b_X12_readCue_119 b_X12_readCue_133
      rw [if_neg (by decide), cK_t (k82 hS'), take_1 hS' h34, a2, Option.bind_some, if_neg i10, if_neg (by decide)]
      unfold b_X12_readCue_169
      rw [if_neg (by decide)]
      rfl
    · rw [a4 r 0 (by omega)]; simp (disch := omega) only [un_1, un_2, un_3, un_4, es, up2_self]
    · rw [a4 r 1 (by omega), es]; rfl
  · have c1f : wqB 1 (tkS b t a) b (tkP b t a) (tkE b t a - tkP b t a) = false := by simpa using c1
    rw [c1f, if_pos bI_f]
    have m1 : ¬ lg_cmp X 1684107883 = 0 := fun q => c1 (n1.mp q)
    by_cases c2 : wqB 2 (tkS b t a) b (tkP b t a) (tkE b t a - tkP b t a) = true
    · -- show
      obtain ⟨A, B, a1, a2, a3, a4, a5⟩ := nxt_2 (w := w) hS hS' (h.J1 (r := r) (pl := 1) (v := 0) hr hr7)
      have e34 := a3.2.2.2.2.2.2.2.2.2.2.2
      rw [c2, if_neg (show ¬ bI true = 0 by decide), a1, Option.bind_some, if_pos (n2.mpr c2)]
      unfold b_X12_readCue_119 b_X12_readCue_133
      rw [if_neg (by decide), cK_t (k82 hS'), take_1 hS' h34, a2, Option.bind_some, if_pos rfl, cK_t (k82 hS')]
      rcases num_2 (w := w) (pl := 2) (l := 0) (u := 9999) hS hS' a3 kr hr hr7 (by decide) (by decide) (by decide) (x2 := 2) (lo := 0) (hi := 9999) rfl rfl rfl with ⟨v, A', B', v1, v2, d1, d2, d3, d4, d5⟩ | ⟨c, x, cc, d1, d2⟩
      · refine Or.inl ⟨0, v, 0, tkE b t (tkE b t a), A', B', by decide, v2, by decide, fun q => by omega, ?_, ?_, d3, ?_, ?_, fun _ => ?_, fun q => by omega, fun o q p1 p2 => ?_, fun o q p1 => ?_⟩
        · rw [d1, Option.bind_some]; simp only [cK_t (k36 hS)]
        · rw [d2, Option.bind_some]
          unfold b_X12_readCue_169
          rw [if_neg (by decide)]
          rfl
        · rw [d4 r 0 (by omega), un_1 (Or.inr (by decide)), a4 r 0 (by omega)]; simp (disch := omega) only [un_1, un_2, un_3, un_4, es, up2_self]
        · rw [d4 r 1 (by omega), un_1 (Or.inr (by decide)), a4 r 1 (by omega), es]; rfl
        · rw [d4 r 2 (by omega), es]
        · rw [d4 o q p1, un_1 (Or.inl p2)]; exact fJs 0 A a4 o q p1 p2
        · rw [d5 o q p1]; exact a5 o q p1
      · have hTF := a3.tf (c := c) (by omega) (by omega)
        refine Or.inr ⟨c, tkE b t a, A, up2 (up2 B (z + 82) 34 (nI c)) (z + 82) 35 (nI (tkP b t (tkE b t a))), a3.1, cc, ?_, ?_, a3.2.2.2.2.2.1, ?_, ?_, fJs 0 A a4, fun o q p1 => ?_⟩
        · rw [d1, Option.bind_some]; simp only [cK_t (k36 hS)]
        · rw [d2, Option.bind_some]
          exact f169 hS' hTF x1 0 x
        · simp (disch := omega) only [un_1, un_2, un_3, un_4, es, up2_self]
        · simp (disch := omega) only [un_1, un_2, un_3, un_4, es, up2_self]
        · simp (disch := omega) only [un_1, un_2, un_3, un_4, es, up2_self]; exact a5 o q (by omega)
    · have c2f : wqB 2 (tkS b t a) b (tkP b t a) (tkE b t a - tkP b t a) = false := by simpa using c2
      have m2 : ¬ lg_cmp X 1936224119 = 0 := fun q => c2 (n2.mp q)
      rw [c2f, if_pos bI_f, if_neg m2, if_neg m1]
      by_cases c3 : wqB 3 (tkS b t a) b (tkP b t a) (tkE b t a - tkP b t a) = true
      · -- fade
        obtain ⟨A, B, a1, a2, a3, a4, a5⟩ := nxt_2 (w := w) hS hS' (h.J1 (r := r) (pl := 1) (v := 2) hr hr7)
        rw [c3, if_neg (show ¬ bI true = 0 by decide), a1, Option.bind_some, if_pos (n3.mpr c3)]
        unfold b_X12_readCue_119 b_X12_readCue_133
        rw [if_neg (by decide), cK_t (k82 hS'), take_1 hS' h34, a2, Option.bind_some, if_neg (show ¬ (2 : Int32) = 0 by decide), if_pos rfl, cK_t (k82 hS')]
        rcases num_2 (w := w) (pl := 2) (l := 0) (u := 100) hS hS' a3 kr hr hr7 (by decide) (by decide) (by decide) (x2 := 2) (lo := 0) (hi := 100) rfl rfl rfl with ⟨v, A', B', v1, v2, d1, d2, d3, d4, d5⟩ | ⟨c, x, cc, d1, d2⟩
        · rw [d1, Option.bind_some, if_pos rfl, d2, Option.bind_some]
          unfold b_X12_readCue_169
          rw [if_pos rfl, cK_t (k82 hS')]
          rcases num_2 (w := w) (pl := 3) (l := 0) (u := 9999) hS hS' d3 kr hr hr7 (by decide) (by decide) (by decide) (x2 := 3) (lo := 0) (hi := 9999) rfl rfl rfl with ⟨v', A'', B'', v1', v2', g1, g2, g3, g4, g5⟩ | ⟨c, x, cc, g1, g2⟩
          · refine Or.inl ⟨2, v, v', tkE b t (tkE b t (tkE b t a)), A'', B'', by decide, by omega, v2', fun _ => v2, ?_, ?_, g3, ?_, ?_, fun _ => ?_, fun _ => ?_, fun o q p1 p2 => ?_, fun o q p1 => ?_⟩
            · rw [g1, Option.bind_some]; simp only [cK_t (k36 hS)]
            · rw [g2, Option.bind_some]; rfl
            · rw [g4 r 0 (by omega), un_1 (Or.inr (by decide)), d4 r 0 (by omega), un_1 (Or.inr (by decide)), a4 r 0 (by omega)]; simp (disch := omega) only [un_1, un_2, un_3, un_4, es, up2_self]
            · rw [g4 r 1 (by omega), un_1 (Or.inr (by decide)), d4 r 1 (by omega), un_1 (Or.inr (by decide)), a4 r 1 (by omega), es]; rfl
            · rw [g4 r 2 (by omega), un_1 (Or.inr (by decide)), d4 r 2 (by omega), es]
            · rw [g4 r 3 (by omega), es]
            · rw [g4 o q p1, un_1 (Or.inl p2), d4 o q p1, un_1 (Or.inl p2)]; exact fJs 2 A a4 o q p1 p2
            · rw [g5 o q p1, d5 o q p1]; exact a5 o q p1
          · have hTF := d3.tf (c := c) (by omega) (by omega)
            have e34 := hTF.2.2.2.2.2.2
            refine Or.inr ⟨c, tkE b t (tkE b t a), A', up2 (up2 B' (z + 82) 34 (nI c)) (z + 82) 35 (nI (tkP b t (tkE b t (tkE b t a)))), d3.1, cc, ?_, ?_, d3.2.2.2.2.2.1, ?_, ?_, fun o q p1 p2 => ?_, fun o q p1 => ?_⟩
            · rw [g1, Option.bind_some]; simp only [cK_t (k36 hS)]
            · rw [g2, Option.bind_some]
              exact f189 hS' e34 x1 2 _ x
            · simp (disch := omega) only [un_1, un_2, un_3, un_4, es, up2_self]
            · simp (disch := omega) only [un_1, un_2, un_3, un_4, es, up2_self]
            · rw [d4 o q p1, un_1 (Or.inl p2)]; exact fJs 2 A a4 o q p1 p2
            · simp (disch := omega) only [un_1, un_2, un_3, un_4, es, up2_self]; rw [d5 o q (by omega)]; exact a5 o q (by omega)
        · have hTF := a3.tf (c := c) (by omega) (by omega)
          refine Or.inr ⟨c, tkE b t a, A, up2 (up2 B (z + 82) 34 (nI c)) (z + 82) 35 (nI (tkP b t (tkE b t a))), a3.1, cc, ?_, ?_, a3.2.2.2.2.2.1, ?_, ?_, fJs 2 A a4, fun o q p1 => ?_⟩
          · rw [d1, Option.bind_some, if_neg (nI_ne0 (by omega) (by omega))]; simp only [cK_t (k36 hS)]
          · rw [d2, Option.bind_some]
            exact f169 hS' hTF x1 2 x
          · simp (disch := omega) only [un_1, un_2, un_3, un_4, es, up2_self]
          · simp (disch := omega) only [un_1, un_2, un_3, un_4, es, up2_self]
          · simp (disch := omega) only [un_1, un_2, un_3, un_4, es, up2_self]; exact a5 o q (by omega)
      · -- no deed
        have c3f : wqB 3 (tkS b t a) b (tkP b t a) (tkE b t a - tkP b t a) = false := by simpa using c3
        have m3 : ¬ lg_cmp X 1717658725 = 0 := fun q => c3 (n3.mp q)
        have hTF := h.tf (c := 1) (by decide) (by decide)
        rw [c3f, if_pos bI_f, if_neg m3]
        refine Or.inr ⟨1, a, J, up2 (up2 M (z + 82) 34 (nI 1)) (z + 82) 35 (nI (tkP b t a)), h.1, Or.inl rfl, rfl, ?_, h.2.2.2.2.2.1, ?_, ?_, fun _ _ _ _ => rfl, fun o q p1 => ?_⟩
        · unfold b_X12_readCue_119 b_X12_readCue_133
          rw [if_pos (by decide), cK_t (k82 hS'), take_0 hS' h34 h32, Option.bind_some, if_neg (by decide), if_neg (by decide)]
          exact f169 hS' hTF x1 3 0
        · simp (disch := omega) only [un_1, un_2, un_3, un_4, es, up2_self]
        · simp (disch := omega) only [un_1, un_2, un_3, un_4, es, up2_self]
        · simp (disch := omega) only [un_1, un_2, un_3, un_4, es, up2_self]
end C6
