section B3
variable {z h k n m t q : Nat} {K : Nat → Nat × Nat} {I J : Nat → Nat → Int32} {R : Nat → Nat → Option Nat} {w : Nat}
theorem pb_X1 (hS : Shp z K R) (h8 : h ≤ 8) (hs : RStrokes z h K I R) (hb : TB z h I) (hW : ∀ g, 0 < g → g < 2 ^ h → ∀ t, t < 2 * h → g.testBit (t / 2) = true → I (z + 9) (g * 16 + t) = nI (WlF (2 * h) (tC z I) (tE z I) (rmB h g) g t)) : ∀ fu k (J : Nat → Nat → Int32), k ≤ h → h < fu + k → (∀ o q, o ≠ 4 → o ≠ 5 → J (z + o) q = I (z + o) q) → (∀ j, j < k → J (z + 4) j = nI (tnK z h I j / 2) ∧ J (z + 5) j = nI (tnK z h I j % 2)) → ∃ A, b_X4_putBest_38 fu (some (z + 6)) (some (z + 2)) (nI (sq z h I k).1) (oX z I (sq z h I k).2) (oY z I (sq z h I k).2) (nI k) (K, J, R, w) = some (K, A, R, w) ∧ (∀ o q, o ≠ 4 → o ≠ 5 → A (z + o) q = I (z + o) q) ∧ ∀ j, j < h → A (z + 4) j = nI (tnK z h I j / 2) ∧ A (z + 5) j = nI (tnK z h I j % 2) := by
  have k6 : (K (z + 6)).1 = 4 + 1 := by rw [kz6 hS]
  have k2' : (K (z + 2)).1 = 8 + 1 := by rw [kz2 hS]
  have p2 := p256 h8
  intro fu
  induction fu with
  | zero => intro k J a b; omega
  | succ fu ih =>
    intro k J a b hF hJ
    rw [b_X4_putBest_38, gI_t k2', Option.bind_some, hF 2 3 (by omega) (by omega), hs.1]
    by_cases e : k = h
    · subst e
      rw [if_pos (nI_le (Nat.le_refl _) (by omega))]
      exact ⟨J, rfl, hF, hJ⟩
    · have hk : k < h := by omega
      obtain ⟨g1, g2, g3, g4⟩ := sq_ok (z := z) (I := I) h8 k (by omega)
      obtain ⟨b1, b2, b3, b4, b5⟩ := sq_k (z := z) (I := I) h8 hk
      have eX : tuX z J = tuX z I := tuX_fr (funext fun j => hF 86 j (by omega) (by omega)) (funext fun j => hF 87 j (by omega) (by omega))
      have eY : tuY z J = tuY z I := tuY_fr (funext fun j => hF 86 j (by omega) (by omega)) (funext fun j => hF 88 j (by omega) (by omega))
      have hbJ : TB z h J := ⟨by rw [hF 6 3 (by omega) (by omega)]; exact hb.1, fun t ht => by rw [hF 7 t (by omega) (by omega), hF 8 t (by omega) (by omega), eX, eY]; exact hb.2 t ht⟩
      have hg2 : (sq z h I k).1 < 256 := by omega
      have hl : ∀ u, u < 2 * h → oC z I (sq z h I k).2 u + VV z h I (sq z h I k).1 u ≤ 100000 := fun u hu => by
        have := (oC_n hs g3 hu).2
        have := VV_le (g := (sq z h I k).1) h8 hs hu
        omega
      have hV : ∀ u, u < 2 * h → (sq z h I k).1.testBit (u / 2) = false → J (z + 9) (((sq z h I k).1 ||| 2 ^ (u / 2)) * 16 + u) = nI (VV z h I (sq z h I k).1 u) := fun u hu hbu => by
        rw [hF 9 _ (by omega) (by omega)]
        have := (bt6 _ hg2 (u / 2) (by omega)).2 hbu
        exact hW _ (by omega) (bt10 h (by omega) _ g1 (u / 2) (by omega)) u hu (by rw [Nat.testBit_or, Nat.testBit_two_pow_self]; simp)
      have hc : ∀ u, u < 2 * h → wayI (oX z I (sq z h I k).2) (oY z I (sq z h I k).2) (tuX z J u) (tuY z J u) = nI (oC z I (sq z h I k).2 u) := fun u hu => by rw [eX, eY]; exact (oC_n hs g3 hu).1
      have bt := bt_X (w := w) hS h8 hbJ hg2 hc hV hl
      have hbs : mnF (fun u => !(sq z h I k).1.testBit (u / 2)) (fun u => oC z I (sq z h I k).2 u + VV z h I (sq z h I k).1 u) (2 * h) = some (tnK z h I k, lnK z h I k) := b1
      rw [hbs] at bt
      obtain ⟨A1, hA1⟩ : ∃ A1, A1 = up2 (up2 J (z + 4) k (nI (tnK z h I k / 2))) (z + 5) k (nI (tnK z h I k % 2)) := ⟨_, rfl⟩
      have hO := tuO_lt b2
      have a7 : aI (K, A1, R, w) (some (z + 7)) 14 (nI (tuO (tnK z h I k))) = some (tuX z I (tuO (tnK z h I k))) := (aI_t (kz7 hS) (show tuO (tnK z h I k) < 16 by omega) (by decide)).trans (by
        rw [hA1]; simp (disch := omega) only [un_1, un_2, un_3, un_4, es, up2_self]; rw [hF 7 _ (by omega) (by omega), (hb.2 _ hO).1])
      have a8 : aI (K, A1, R, w) (some (z + 8)) 14 (nI (tuO (tnK z h I k))) = some (tuY z I (tuO (tnK z h I k))) := (aI_t (kz8 hS) (show tuO (tnK z h I k) < 16 by omega) (by decide)).trans (by
        rw [hA1]; simp (disch := omega) only [un_1, un_2, un_3, un_4, es, up2_self]; rw [hF 8 _ (by omega) (by omega), (hb.2 _ hO).2])
      obtain ⟨A, q1, q2, q3⟩ := ih (k + 1) A1 (by omega) (by omega) (fun o q p1 p2 => by rw [hA1]; simp (disch := omega) only [un_1, un_2, un_3, un_4, es, up2_self]; exact hF o q p1 p2) (fun j hj => by
        by_cases ej : j = k
        · subst ej
          rw [hA1]; simp (disch := omega) only [un_1, un_2, un_3, un_4, es, up2_self]; exact ⟨trivial, trivial⟩
        · rw [hA1]; simp (disch := omega) only [un_1, un_2, un_3, un_4, es, up2_self]; exact hJ j (by omega))
      refine ⟨A, ?_, q2, q3⟩
      rw [b5] at q1
      have pl : f_X9_planAt (some (z + 2)) (nI k) (nI (tnK z h I k / 2)) (nI (tnK z h I k % 2)) (K, J, R, w) = some (K, A1, R, w) := by
        unfold f_X9_planAt
        rw [if_neg (nI_pos (by omega)), if_neg (show ¬ (8 : Int32) ≤ _ from nI_ge (b := 8) (by omega) (by decide)), gR_t k2', Option.bind_some, rz2_1 hS, sI_t (kz4 hS) (by omega) (by decide), Option.bind_some, gR_t k2', Option.bind_some, rz2_2 hS, sI_t (kz5 hS) (by omega) (by decide), Option.bind_some, nar14, nar14, ← hA1]
      rw [if_neg (nI_ge hk (by omega)), cK_t k6, bt, Option.bind_some]
      rw [rp_s1, if_neg (show ¬ nI (tnK z h I k) < 0 from nI_pos (by omega)), if_neg (show ¬ (16 : Int32) ≤ _ from nI_ge (b := 16) (by omega) (by decide)), dv2 (by omega), Option.bind_some, rm2 (by omega), Option.bind_some, cK_t k2', pl, Option.bind_some, Option.bind_some]
      unfold lt1
      try dsimp only
      rw [bt2 _ hg2 _ (by omega), gR_t k6, Option.bind_some, rz6_0 hS, bt5 _ (by omega), a7, Option.bind_some, gR_t k6, Option.bind_some, rz6_1 hS, a8, Option.bind_some]
      unfold b_X4_putBest_113 lt1
      try dsimp only
      rw [nI_1]
      exact q1
theorem pb_X (hS : Shp z K R) (h8 : h ≤ 8) (h0 : 0 < h) (hs : RStrokes z h K I R) (hbe : RBest z h I) : ∃ A, f_X4_putBest (some (z + 6)) (some (z + 2)) (K, I, R, w) = some (K, A, R, w) ∧ (∀ o q, ¬ (o = 6 ∧ (q = 3 ∨ q = 4)) → o ≠ 4 → o ≠ 5 → o ≠ 7 → o ≠ 8 → o ≠ 9 → A (z + o) q = I (z + o) q) ∧ RBest z h A ∧ ∀ j, j < h → A (z + 4) j = nI (tnK z h I j / 2) ∧ A (z + 5) j = nI (tnK z h I j % 2) := by
  have k6 : (K (z + 6)).1 = 4 + 1 := by rw [kz6 hS]
  have k2' : (K (z + 2)).1 = 8 + 1 := by rw [kz2 hS]
  unfold f_X4_putBest
  rw [gI_t k6, Option.bind_some, gI_t k2', Option.bind_some, hs.1]
  by_cases c : I (z + 6) 4 = nI h
  · obtain ⟨r1, r2, r3⟩ := hbe.2 h0 c
    obtain ⟨A, q1, q2, q3⟩ := pb_X1 (w := w) hS h8 hs ⟨r1, r2⟩ r3 FU 0 I (by omega) (by unfold FU; omega) (fun _ _ _ _ => rfl) (fun j hj => by omega)
    refine ⟨A, ?_, fun o q p1 p2 p3 p4 p5 p6 => q2 o q p2 p3, hbe.fr fun o q p => by unfold fpBest at p; exact q2 o q (by omega) (by omega), q3⟩
    rw [if_pos c]
    unfold b_X4_putBest_28
    exact q1
  · obtain ⟨A1, t1, t2, t3⟩ := te_X (w := w) hS h8 hs
    have hs1 : RStrokes z h K A1 R := hs.fr fun o q p => by unfold fpStrokes at p; exact t2 o q (by omega) (by omega) (by omega)
    obtain ⟨A2, f1, f2⟩ := fw_X (w := w) hS h8 hs1 t3
    obtain ⟨B, hB⟩ : ∃ B, B = up2 A2 (z + 6) 4 (nI h) := ⟨_, rfl⟩
    have fB : ∀ o q, ¬ (o = 6 ∧ q = 4) → o ≠ 9 → B (z + o) q = A1 (z + o) q := fun o q p1 p2 => by rw [hB]; simp (disch := omega) only [un_1, un_2, un_3, un_4, es, up2_self]; exact f2.1 o q p2
    have fI : ∀ o q, ¬ (o = 6 ∧ (q = 3 ∨ q = 4)) → o ≠ 7 → o ≠ 8 → o ≠ 9 → B (z + o) q = I (z + o) q := fun o q p1 p2 p3 p4 => by rw [fB o q (by omega) p4]; exact t2 o q (by omega) p2 p3
    have eX : tuX z B = tuX z A1 := tuX_fr (funext fun j => fB 86 j (by omega) (by omega)) (funext fun j => fB 87 j (by omega) (by omega))
    have eY : tuY z B = tuY z A1 := tuY_fr (funext fun j => fB 86 j (by omega) (by omega)) (funext fun j => fB 88 j (by omega) (by omega))
    have eX' : tuX z B = tuX z I := tuX_fr (funext fun j => fI 86 j (by omega) (by omega) (by omega) (by omega)) (funext fun j => fI 87 j (by omega) (by omega) (by omega) (by omega))
    have eY' : tuY z B = tuY z I := tuY_fr (funext fun j => fI 86 j (by omega) (by omega) (by omega) (by omega)) (funext fun j => fI 88 j (by omega) (by omega) (by omega) (by omega))
    have hsB : RStrokes z h K B R := hs.fr fun o q p => by unfold fpStrokes at p; exact fI o q (by omega) (by omega) (by omega) (by omega)
    have hbB : TB z h B := ⟨by rw [fB 6 3 (by omega) (by omega)]; exact t3.1, fun t ht => by rw [fB 7 t (by omega) (by omega), fB 8 t (by omega) (by omega), eX, eY]; exact t3.2 t ht⟩
    have hWB : ∀ g, 0 < g → g < 2 ^ h → ∀ t, t < 2 * h → g.testBit (t / 2) = true → B (z + 9) (g * 16 + t) = nI (WlF (2 * h) (tC z B) (tE z B) (rmB h g) g t) := fun g g0 g1 t ht hbt => by
      rw [tC_fr eX eY, tE_fr eX eY, hB]
      simp (disch := omega) only [un_1, un_2, un_3, un_4, es, up2_self]
      exact f2.2 g g0 g1 t ht hbt
    obtain ⟨A, q1, q2, q3⟩ := pb_X1 (w := w) hS h8 hsB hbB hWB FU 0 B (by omega) (by unfold FU; omega) (fun _ _ _ _ => rfl) (fun j hj => by omega)
    have hRB : RBest z h B := ⟨⟨h, Nat.le_refl h, by rw [hB, es]⟩, fun _ _ => ⟨hbB.1, hbB.2, hWB⟩⟩
    have eC : oC z B = oC z I := by
      funext o u
      unfold oC
      cases o with
      | none => simp only [oX, oY, eX', eY']
      | some t => simp only [oX, oY, eX', eY']
    have eV : VV z h B = VV z h I := by funext g u; unfold VV; rw [tC_fr eX' eY', tE_fr eX' eY']
    have eb : bsF z h B = bsF z h I := by funext g o; unfold bsF; rw [eC, eV]
    have es : ∀ k, sq z h B k = sq z h I k := fun k => by
      induction k with
      | zero => rfl
      | succ k ih => rw [sq, sq, ih, eb]
    have et : ∀ k, tnK z h B k = tnK z h I k := fun k => by unfold tnK; rw [es, eb]
    refine ⟨A, ?_, fun o q p1 p2 p3 p4 p5 p6 => by rw [q2 o q p2 p3]; exact fI o q p1 p4 p5 p6, hRB.fr fun o q p => by unfold fpBest at p; exact q2 o q (by omega) (by omega), fun j hj => by rw [← et]; exact q3 j hj⟩
    have e23 : A2 (z + 2) 3 = nI h := by rw [f2.1 2 3 (by omega), t2 2 3 (by omega) (by omega) (by omega)]; exact hs.1
    rw [if_neg c, cK_t k6, t1, Option.bind_some, cK_t k6, f1, Option.bind_some, gI_t k2', Option.bind_some, e23, pI_t k6, Option.bind_some, ← hB]
    unfold b_X4_putBest_28
    exact q1
/-- the dark way of the best plan -/
theorem dk_best (h8 : h ≤ 8) (h0 : 0 < h) (hs : RStrokes z h K I R) {od bk : Nat → Int32} (hod : ∀ j, j < h → od j = nI (tnK z h I j / 2) ∧ bk j = nI (tnK z h I j % 2)) : dkW (I (z + 86)) (I (z + 87)) (I (z + 88)) od bk h = nI (lnK z h I 0) := by
  have ep : ∀ j, j < h → ePt (I (z + 86)) (I (z + 87)) od bk j 0 = tuX z I (tnK z h I j) ∧ ePt (I (z + 86)) (I (z + 88)) od bk j 0 = tuY z I (tnK z h I j) ∧ pre (I (z + 86)) (I (z + 87)) od bk (j + 1) = tuX z I (tuO (tnK z h I j)) ∧ pre (I (z + 86)) (I (z + 88)) od bk (j + 1) = tuY z I (tuO (tnK z h I j)) := by
    intro j hj
    obtain ⟨_, b2, _⟩ := sq_k (z := z) (I := I) h8 hj
    obtain ⟨n, hn⟩ := hs.2.2 (tnK z h I j / 2) (by omega)
    have hn1 := hn.1
    have hn8 := hn.2.1
    have h86 := hn.2.2.1
    obtain ⟨t, ht⟩ : ∃ t, t = tnK z h I j := ⟨_, rfl⟩
    rw [← ht] at b2 hn h86 ⊢
    have e1 := (hod j hj).1
    have e2 := (hod j hj).2
    rw [← ht] at e1 e2
    have hO2 : tuO t / 2 = t / 2 := by unfold tuO; split <;> omega
    have hOm : tuO t % 2 = 1 - t % 2 := by unfold tuO; split <;> omega
    have p0 : pt (nI (t % 2)) n 0 = if t % 2 = 0 then 0 else n - 1 := by
      unfold pt
      by_cases c : t % 2 = 0
      · rw [c, if_pos rfl, if_pos (by decide)]
      · rw [if_neg c, if_neg (nI_ne0 (by omega) (by omega))]; rfl
    have p1 : pt (nI (t % 2)) n (n - 1) = if (1 - t % 2) = 0 then 0 else n - 1 := by
      unfold pt
      by_cases c : t % 2 = 0
      · rw [c, if_pos (show nI 0 = 0 from rfl), if_neg (show ¬ (1 - 0 = 0) by decide)]
      · rw [if_neg (nI_ne0 (by omega) (by omega)), if_pos (by omega)]; omega
    have q1 : pre (I (z + 86)) (I (z + 87)) od bk (j + 1) = ePt (I (z + 86)) (I (z + 87)) od bk j (eN (I (z + 86)) od j - 1) := rfl
    have q2 : pre (I (z + 86)) (I (z + 88)) od bk (j + 1) = ePt (I (z + 86)) (I (z + 88)) od bk j (eN (I (z + 86)) od j - 1) := rfl
    rw [q1, q2]
    unfold eN ePt tuX tuY
    rw [e1, e2, nI_clamp (by omega), h86, nI_clamp (by omega), hO2, hOm, h86, nI_clamp (by omega), p0, p1]
    exact ⟨rfl, rfl, rfl, rfl⟩
  have st : ∀ k, k < h → dkS (I (z + 86)) (I (z + 87)) (I (z + 88)) od bk k + nI (lnK z h I k) = nI (lnK z h I 0) ∧ pre (I (z + 86)) (I (z + 87)) od bk k = oX z I (sq z h I k).2 ∧ pre (I (z + 86)) (I (z + 88)) od bk k = oY z I (sq z h I k).2 := by
    intro k
    induction k with
    | zero =>
      intro _
      refine ⟨?_, rfl, rfl⟩
      show (0 : Int32) + _ = _
      rw [Int32.zero_add]
    | succ k ih =>
      intro hk
      obtain ⟨i1, i2, i3⟩ := ih (by omega)
      obtain ⟨x1, x2, x3, x4⟩ := ep k (by omega)
      obtain ⟨_, b2, _, _, b5⟩ := sq_k (z := z) (I := I) h8 (show k < h by omega)
      refine ⟨?_, ?_, ?_⟩
      · rw [ln_eq h8 (show k < h by omega), if_pos hk, ← nI_add] at i1
        rw [dkS, i2, i3, x1, x2, (oC_n hs (sq_ok (z := z) (I := I) h8 k (by omega)).2.2.1 b2).1, Int32.add_assoc]
        exact i1
      · rw [x3, b5]; rfl
      · rw [x4, b5]; rfl
  obtain ⟨g, rfl⟩ : ∃ g, h = g + 1 := ⟨h - 1, by omega⟩
  obtain ⟨i1, i2, i3⟩ := st g (by omega)
  obtain ⟨x1, x2, x3, x4⟩ := ep g (by omega)
  obtain ⟨_, b2, _, _, b5⟩ := sq_k (z := z) (I := I) h8 (show g < g + 1 by omega)
  unfold dkW
  rw [dkS, i2, i3, x1, x2, x3, x4, (oC_n hs (sq_ok (z := z) (I := I) h8 g (by omega)).2.2.1 b2).1, (tE_n hs b2).1, Int32.add_assoc, nI_add]
  rw [ln_eq h8 (show g < g + 1 by omega), if_neg (by omega)] at i1
  exact i1
end B3
