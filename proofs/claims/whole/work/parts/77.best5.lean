section B5
variable {z h k n m t q : Nat} {K : Nat → Nat × Nat} {I J : Nat → Nat → Int32} {R : Nat → Nat → Option Nat} {w : Nat}
theorem tn_fr (eX : tuX z J = tuX z I) (eY : tuY z J = tuY z I) : tnK z h J = tnK z h I ∧ lnK z h J = lnK z h I := by
  have eC : oC z J = oC z I := by
    funext o u
    unfold oC
    cases o with
    | none => simp only [oX, oY, eX, eY]
    | some t => simp only [oX, oY, eX, eY]
  have eV : VV z h J = VV z h I := by funext g u; unfold VV; rw [tC_fr eX eY, tE_fr eX eY]
  have eb : bsF z h J = bsF z h I := by funext g o; unfold bsF; rw [eC, eV]
  have es : ∀ k, sq z h J k = sq z h I k := fun k => by
    induction k with
    | zero => rfl
    | succ k ih => rw [sq, sq, ih, eb]
  exact ⟨funext fun k => by unfold tnK; rw [es, eb], funext fun k => by unfold lnK; rw [es, eb]⟩
theorem agr_best : Agr (Rel z) z (f_X11_best (some z)) (f_X12_best (some (z + 82))) := by
  rintro ⟨K, I, R, w⟩ hR
  obtain ⟨h, h1, h2, h3, h4, h5, h6, h7, h8, h9, h10, h11, h12, h13, h14, h15⟩ := hR.opn
  have k0 : (K z).1 = 10 + 1 := by rw [kz0 h4]
  have k2' : (K (z + 2)).1 = 8 + 1 := by rw [kz2 h4]
  have k6 : (K (z + 6)).1 = 4 + 1 := by rw [kz6 h4]
  have k10 : (K (z + 10)).1 = 6 + 1 := by rw [kz10 h4]
  by_cases c : h = 0
  · subst c
    refine ⟨-1000002, (K, I, R, w), (K, up2 I (z + 82) 0 0, R, w), ?_, k82 h4, ?_, hR.thr 0⟩
    · unfold f_X11_best
      rw [gR_t k0, Option.bind_some, rz0_1 h4, gI_t k2', Option.bind_some, h8.1, if_pos (show nI 0 = 0 from rfl)]
    · unfold f_X12_best
      rw [pI_t (k82 h4), Option.bind_some, gI_t (k82 h4), Option.bind_some, un_1 (Or.inr (by decide)), h8.2.1, if_pos (show nI 0 = 0 from rfl)]
  · have h0 : 0 < h := by omega
    obtain ⟨A, a1, a2, a3, a4⟩ := pb_X (w := w) h4 h1 h0 h8 h10
    obtain ⟨B, hB⟩ : ∃ B, B = up2 A (z + 10) 12 0 := ⟨_, rfl⟩
    obtain ⟨C, hC⟩ : ∃ C, C = up2 B (z + 82) 0 0 := ⟨_, rfl⟩
    have fB : ∀ o q, ¬ (o = 6 ∧ (q = 3 ∨ q = 4)) → ¬ (o = 10 ∧ q = 12) → o ≠ 4 → o ≠ 5 → o ≠ 7 → o ≠ 8 → o ≠ 9 → B (z + o) q = I (z + o) q := fun o q p1 p2 p3 p4 p5 p6 p7 => by rw [hB]; simp (disch := omega) only [un_1, un_2, un_3, un_4, es, up2_self]; exact a2 o q p1 p3 p4 p5 p6 p7
    have fC : ∀ o q, ¬ (o = 82 ∧ q = 0) → C (z + o) q = B (z + o) q := fun o q p1 => by rw [hC]; simp (disch := omega) only [un_1, un_2, un_3, un_4, es, up2_self]
    have b4 : ∀ j, j < h → B (z + 4) j = nI (tnK z h I j / 2) ∧ B (z + 5) j = nI (tnK z h I j % 2) := fun j hj => by rw [hB]; simp (disch := omega) only [un_1, un_2, un_3, un_4, es, up2_self]; exact a4 j hj
    have hsB : RStrokes z h K B R := h8.fr fun o q p => by unfold fpStrokes at p; exact fB o q (by omega) (by omega) (by omega) (by omega) (by omega) (by omega) (by omega)
    have hsC : RStrokes z h K C R := hsB.fr fun o q p => by unfold fpStrokes at p; exact fC o q (by omega)
    have rowB : ∀ o, 86 ≤ o → o ≤ 88 → B (z + o) = I (z + o) := fun o p1 p2 => funext fun j => fB o j (by omega) (by omega) (by omega) (by omega) (by omega) (by omega) (by omega)
    have rowC : ∀ o, 86 ≤ o → o ≤ 88 → C (z + o) = I (z + o) := fun o p1 p2 => (funext fun j => fC o j (by omega)).trans (rowB o p1 p2)
    have tC := tn_fr (h := h) (tuX_fr (rowC 86 (by omega) (by omega)) (rowC 87 (by omega) (by omega))) (tuY_fr (rowC 86 (by omega) (by omega)) (rowC 88 (by omega) (by omega)))
    obtain ⟨D, d1, d2, d3⟩ := best_M (w := w) h4 h1 h0 hsC
    rw [tC.2] at d1
    rw [tC.1] at d3
    have dk : dkW (B (z + 86)) (B (z + 87)) (B (z + 88)) (B (z + 4)) (B (z + 5)) h = nI (lnK z h I 0) := by
      rw [rowB 86 (by omega) (by omega), rowB 87 (by omega) (by omega), rowB 88 (by omega) (by omega)]
      exact dk_best h1 h0 h8 b4
    have hpB : ∀ k, k < h → ∃ q, q < h ∧ B (z + 4) k = nI q := fun k hk => ⟨tnK z h I k / 2, by have := (sq_k (z := z) (I := I) h1 hk).2.1; omega, (b4 k hk).1⟩
    have fD : ∀ o q, ¬ (o = 6 ∧ (q = 3 ∨ q = 4)) → ¬ (o = 10 ∧ q = 12) → ¬ (o = 82 ∧ q = 0) → o ≠ 4 → o ≠ 5 → o ≠ 7 → o ≠ 8 → o ≠ 9 → o ≠ 89 → o ≠ 90 → o ≠ 91 → D (z + o) q = I (z + o) q := fun o q p1 p2 p3 p4 p5 p6 p7 p8 p9 p10 p11 => by
      rw [d2 o q p9 p10 p11, fC o q p3]; exact fB o q p1 p2 p4 p5 p6 p7 p8
    have fA : ∀ fp : Nat → Nat → Prop, (∀ o q, fp o q → ¬ (o = 6 ∧ (q = 3 ∨ q = 4)) ∧ ¬ (o = 10 ∧ q = 12) ∧ ¬ (o = 82 ∧ q = 0) ∧ o ≠ 4 ∧ o ≠ 5 ∧ o ≠ 7 ∧ o ≠ 8 ∧ o ≠ 9 ∧ o ≠ 89 ∧ o ≠ 90 ∧ o ≠ 91) → Fr fp z I D := fun fp hq o q p => by
      obtain ⟨p1, p2, p3, p4, p5, p6, p7, p8, p9, p10, p11⟩ := hq o q p
      exact fD o q p1 p2 p3 p4 p5 p6 p7 p8 p9 p10 p11
    have dA : ∀ o q, ¬ (o = 10 ∧ q = 12) → ¬ (o = 82 ∧ q = 0) → o ≠ 89 → o ≠ 90 → o ≠ 91 → D (z + o) q = A (z + o) q := fun o q p1 p2 p3 p4 p5 => by
      rw [d2 o q p3 p4 p5, fC o q p2, hB]; simp (disch := omega) only [un_1, un_2, un_3, un_4, es, up2_self]
    refine ⟨nI (lnK z h I 0), (K, B, R, w), (K, D, R, w), ?_, k82 h4, ?_, Rel.mk (h := h) ⟨h1, h2, h3, h4, h5, ?_, h7.fr (fA fpSheets (by intro o q p; unfold fpSheets at p; omega)), h8.fr (fA fpStrokes (by intro o q p; unfold fpStrokes at p; omega)), fun k hk => ?_, a3.fr fun o q p => by unfold fpBest at p; exact dA o q (by omega) (by omega) (by omega) (by omega) (by omega), h11.fr (fA fpRules (by intro o q p; unfold fpRules at p; omega)), h12.fr (fA fpZones (by intro o q p; unfold fpZones at p; omega)), ?_, h14.fr (fA fpCues (by intro o q p; unfold fpCues at p; omega)), h15.fr (fA fpTrace (by intro o q p; unfold fpTrace at p; omega))⟩⟩
    · unfold f_X11_best
      rw [gR_t k0, Option.bind_some, rz0_1 h4, gI_t k2', Option.bind_some, h8.1, if_neg (nI_ne0 h0 (by omega)), gR_t k0, Option.bind_some, rz0_2 h4, Option.bind_some, cK_t k6, a1, Option.bind_some, gR_t k0, Option.bind_some, rz0_3 h4, cK_t k10]
      unfold f_X6_pathIsStale
      rw [pI_t k10, Option.bind_some, Option.bind_some, gR_t k0, Option.bind_some, rz0_1 h4, cK_t k2', ← hB, dark_X h4 h1 hsB hpB, Option.bind_some, dk]
    · unfold f_X12_best
      rw [pI_t (k82 h4), Option.bind_some, ← hC, gI_t (k82 h4), Option.bind_some, hsC.2.1, if_neg (nI_ne0 h0 (by omega))]
      exact d1
    · have e0 : D z 6 = I z 6 := fD 0 6 (by omega) (by omega) (by omega) (by omega) (by omega) (by omega) (by omega) (by omega) (by omega) (by omega) (by omega)
      rw [e0, fD 82 1 (by omega) (by omega) (by omega) (by omega) (by omega) (by omega) (by omega) (by omega) (by omega) (by omega) (by omega)]
      exact h6
    · have t2 := (sq_k (z := z) (I := I) h1 hk).2.1
      refine ⟨tnK z h I k / 2, by omega, ?_, (d3 k hk).1, ?_, ?_⟩
      · rw [d2 4 k (by omega) (by omega) (by omega), fC 4 k (by omega)]; exact (b4 k hk).1
      · rw [d2 5 k (by omega) (by omega) (by omega), fC 5 k (by omega), (b4 k hk).2]
        rcases (show tnK z h I k % 2 = 0 ∨ tnK z h I k % 2 = 1 by omega) with e | e <;> rw [e]
        · exact Or.inl rfl
        · exact Or.inr rfl
      · rw [d2 5 k (by omega) (by omega) (by omega), fC 5 k (by omega), (b4 k hk).2, (d3 k hk).2]
    · refine ⟨0, by omega, ?_, fun q => by omega, fun q => by omega, fun q => by omega⟩
      rw [d2 10 12 (by omega) (by omega) (by omega), fC 10 12 (by omega), hB, es]; rfl
end B5
