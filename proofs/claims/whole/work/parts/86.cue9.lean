section C9
variable {z h k n m t q : Nat} {K : Nat → Nat × Nat} {I J M X : Nat → Nat → Int32} {R R' : Nat → Nat → Option Nat} {w : Nat} {b : Nat → Nat}
theorem swp_S {p q : Nat} (hS : Shp z K R) : Shp z K (swp z p q R) := by
  refine ⟨hS.1, fun u hu => ?_⟩
  have hne : ∀ u ∈ rsl, ¬ (u.1 = 36 ∧ (u.2.1 = 4 ∨ u.2.1 = 5)) := by decide
  have := hne u hu
  unfold swp
  rw [up2_ne _ _ (show z + u.1 ≠ z + 36 ∨ u.2.1 ≠ 5 by omega), up2_ne _ _ (show z + u.1 ≠ z + 36 ∨ u.2.1 ≠ 4 by omega)]
  exact hS.2 u hu
theorem swp_C {p q : Nat} (h0 : 0 < z) (hc : RCst R) : RCst (swp z p q R) := by
  have e : ∀ k, swp z p q R 0 k = R 0 k := fun k => by
    unfold swp
    rw [up2_ne _ _ (Or.inl (by omega)), up2_ne _ _ (Or.inl (by omega))]
  unfold RCst
  simp only [e]
  exact hc
theorem swp_n {p q : Nat} {o l : Nat} (ho : o ≠ 36) : swp z p q R (z + o) l = R (z + o) l := by
  unfold swp
  rw [up2_ne _ _ (Or.inl (by omega)), up2_ne _ _ (Or.inl (by omega))]
theorem neg_no {n ps : Nat} (hn : n ≤ 12) (hp : ps ≤ 300) : ¬ nI n = -1000100 - nI ps := fun e => by
  have := congrArg Int32.toInt e
  have t1 : (-1000100 : Int32).toInt = -1000100 := by decide
  rw [ti_sub (by rw [t1, nI_toInt (by omega)]; omega) (by rw [t1, nI_toInt (by omega)]; omega), t1, nI_toInt (by omega), nI_toInt (by omega)] at this
  omega
theorem agr_cues : Agr (Rel z) z (f_X11_cues (some z)) (f_X12_cues (some (z + 82))) := by
  rintro ⟨K, I, R, w⟩ hR
  obtain ⟨h, h1, h2, h3, h4, h5, h6, h7, h8, h9, h10, h11, h12, h13, h14, h15⟩ := hR.opn
  have k0 : (K z).1 = 10 + 1 := by rw [kz0 h4]
  obtain ⟨⟨t, t1, t2, t3, t4⟩, hf, q, p, n0, hq, r4, r5, nn1, nn2, nn3, hrow, hasc⟩ := h14
  have hp : p = 38 ∨ p = 51 := by omega
  obtain ⟨b, hb⟩ : ∃ b : Nat → Nat, b = fun k => (I (z + 102) k).toNatClampNeg := ⟨_, rfl⟩
  have hbk : ∀ k, k < t → b k < 256 ∧ I (z + 102) k = nI (b k) ∧ I (z + 37) k = (nI (b k)).toInt8.toInt32 := fun k hk => by
    obtain ⟨c, c1, c2, c3⟩ := t4 k hk
    have : b k = c := by rw [hb]; show (I (z + 102) k).toNatClampNeg = c; rw [c2, nI_clamp (by omega)]
    rw [this]; exact ⟨c1, c2, c3⟩
  have hT : TX z t b I := ⟨t2, fun k hk => ⟨(hbk k hk).1, (hbk k hk).2.2⟩⟩
  have eF : ∀ S r, f_X0_readTape (some (z + 36)) (K, I, R, w) = some (r, S) → f_X11_cues (some z) (K, I, R, w) = some (r, S) := fun S r e => by
    unfold f_X11_cues
    rw [gR_t k0, Option.bind_some, rz0_4 h4, cK_t (k36 h4), e, Option.bind_some]
  rcases run_2 (w := w) (X := I) h4 h4 h5 hp r4 r5 t1 hT t3 (fun k hk => (hbk k hk).2.1) with ⟨n, A, B, D0, n12, g1, _, _, _, _, _, _, fa, _⟩ | ⟨c, ps, A, D0, c1, c3, hps, g1, _, _, _, _, _, fa, _⟩
  · -- read
    obtain ⟨A1, hA1⟩ : ∃ A1, A1 = up2 (up2 A (z + 36) 1 0) (z + 36) 2 (nI n) := ⟨_, rfl⟩
    rw [← hA1] at g1
    have fA1 : ∀ o l, ¬ (o = 36 ∧ ((1 ≤ l ∧ l ≤ 2) ∨ (6 ≤ l ∧ l ≤ 9))) → ¬ (p + 1 ≤ o ∧ o ≤ p + 12) → A1 (z + o) l = I (z + o) l := fun o l p1 p2 => by rw [hA1]; simp (disch := omega) only [un_1, un_2, un_3, un_4, es, up2_self]; exact fa o l (by omega) p2
    have S' : Shp z K (swp z p q R) := swp_S h4
    rcases run_2 (w := w) (X := A1) h4 S' h5 hp r4 r5 t1 hT (by rw [fA1 82 27 (by omega) (by omega)]; exact t3) (fun k hk => by rw [fA1 102 k (by omega) (by omega)]; exact (hbk k hk).2.1) with ⟨n', A', B', D, n12', g1', g2', g3', g4', g5', g6', g7', fa', fy⟩ | ⟨c, ps, A', D, c1, c3, hps, g1', _⟩
    · rw [g1] at g1'
      have e1 : nI n = nI n' ∧ A1 = up2 (up2 A' (z + 36) 1 0) (z + 36) 2 (nI n') := by
        have e := Prod.mk.inj (Option.some.inj g1')
        exact ⟨e.1, (Prod.mk.inj (Prod.mk.inj e.2).2).1⟩
      have en : n = n' := (nI_eq (by omega) (by omega)).mp e1.1
      subst en
      have eA := e1.2
      have dA : ∀ o l, ¬ (o = 82 ∧ (l = 0 ∨ (27 ≤ l ∧ l ≤ 36) ∨ l = 38)) → o ≠ 103 → o ≠ 104 → D (z + o) l = A1 (z + o) l := fy
      have fD : ∀ o l, ¬ (o = 82 ∧ (l = 0 ∨ (27 ≤ l ∧ l ≤ 36) ∨ l = 38)) → o ≠ 103 → o ≠ 104 → ¬ (o = 36 ∧ ((1 ≤ l ∧ l ≤ 2) ∨ (6 ≤ l ∧ l ≤ 9))) → ¬ (p + 1 ≤ o ∧ o ≤ p + 12) → D (z + o) l = I (z + o) l := fun o l p1 p2 p3 p4 p5 => by rw [fy o l p1 p2 p3]; exact fA1 o l p4 p5
      have fA : ∀ fp : Nat → Nat → Prop, (∀ o l, fp o l → ¬ (o = 82 ∧ (l = 0 ∨ (27 ≤ l ∧ l ≤ 36) ∨ l = 38)) ∧ o ≠ 103 ∧ o ≠ 104 ∧ ¬ (o = 36 ∧ ((1 ≤ l ∧ l ≤ 2) ∨ (6 ≤ l ∧ l ≤ 9))) ∧ ¬ (p + 1 ≤ o ∧ o ≤ p + 12)) → Fr fp z I D := fun fp hq o l pp => by
        obtain ⟨p1, p2, p3, p4, p5⟩ := hq o l pp
        exact fD o l p1 p2 p3 p4 p5
      have hsD : RStrokes z h K D R := h8.fr (fA fpStrokes (by intro o q p; unfold fpStrokes at p; omega))
      have hsD' : RStrokes z h K D (swp z p q R) := ⟨hsD.1, hsD.2.1, fun k hk => by
        obtain ⟨m, hm⟩ := hsD.2.2 k hk
        exact ⟨m, hm.ext (fun _ _ _ => rfl) (swp_n (by omega)) (fun _ => swp_n (by omega)) rfl (fun _ _ _ => rfl) (fun _ _ => ⟨rfl, rfl⟩)⟩⟩
      refine ⟨nI n, (K, A1, swp z p q R, w), (K, D, swp z p q R, w), eF _ _ g1, k82 S', g2', Rel.mk (h := h) ⟨h1, h2, h3, S', swp_C h2 h5, ?_, h7.fr (fA fpSheets (by intro o q p; unfold fpSheets at p; omega)), hsD', h9.fr (fA fpPlan (by intro o q p; unfold fpPlan at p; omega)), h10.fr (fA fpBest (by intro o q p; unfold fpBest at p; omega)), h11.fr (fA fpRules (by intro o q p; unfold fpRules at p; omega)), h12.fr (fA fpZones (by intro o q p; unfold fpZones at p; omega)), h13.fr (fA fpShow (by intro o q p; unfold fpShow at p; omega)), ?_, h15.fr (fA fpTrace (by intro o q p; unfold fpTrace at p; omega))⟩⟩
      · have e0 : D z 6 = I z 6 := fD 0 6 (by omega) (by omega) (by omega) (by omega) (by omega)
        rw [e0, fD 82 1 (by omega) (by omega) (by omega) (by omega) (by omega)]
        exact h6
      · have rD : ∀ i l, i < 12 → D (z + (p + 1 + i)) l = A' (z + (p + 1 + i)) l := fun i l hi => by
          rw [dA _ l (by omega) (by omega) (by omega), eA]; simp (disch := omega) only [un_1, un_2, un_3, un_4, es, up2_self]
        refine ⟨⟨0, by decide, ?_, g5', fun k hk => by omega⟩, ?_, p, q, n, by omega, ?_, ?_, n12, ?_, g7', fun i hi => ?_, fun i hi => ?_⟩
        · rw [dA 36 1 (by omega) (by omega) (by omega), eA]; simp (disch := omega) only [un_1, un_2, un_3, un_4, es, up2_self]; rfl
        · rw [g6', fD 36 3 (by omega) (by omega) (by omega) (by omega) (by omega), fA1 82 28 (by omega) (by omega)]; exact hf
        · unfold swp; rw [up2_ne _ _ (Or.inr (by decide)), up2_self]
        · unfold swp; rw [up2_self]
        · rw [dA 36 2 (by omega) (by omega) (by omega), eA, es]
        · rw [g4' (4 * i) (by omega), g4' (4 * i + 1) (by omega), g4' (4 * i + 2) (by omega), g4' (4 * i + 3) (by omega), rD i 0 (by omega), rD i 1 (by omega), rD i 2 (by omega), rD i 3 (by omega)]
          exact g3'.1 i hi
        · rw [g4' (4 * i) (by omega), g4' (4 * (i + 1)) (by omega)]
          exact g3'.2 i hi
    · rw [g1] at g1'
      exact absurd (Prod.mk.inj (Option.some.inj g1')).1 (neg_no n12 hps)
  · -- a fault
    obtain ⟨A1, hA1⟩ : ∃ A1, A1 = up2 (up2 A (z + 36) 1 0) (z + 36) 3 (nI c) := ⟨_, rfl⟩
    rw [← hA1] at g1
    have fA1 : ∀ o l, ¬ (o = 36 ∧ (l = 1 ∨ l = 3 ∨ (6 ≤ l ∧ l ≤ 9))) → ¬ (p + 1 ≤ o ∧ o ≤ p + 12) → A1 (z + o) l = I (z + o) l := fun o l p1 p2 => by rw [hA1]; simp (disch := omega) only [un_1, un_2, un_3, un_4, es, up2_self]; exact fa o l (by omega) p2
    rcases run_2 (w := w) (X := A1) h4 h4 h5 hp r4 r5 t1 hT (by rw [fA1 82 27 (by omega) (by omega)]; exact t3) (fun k hk => by rw [fA1 102 k (by omega) (by omega)]; exact (hbk k hk).2.1) with ⟨n', A', B', D, n12', g1', _⟩ | ⟨c', ps', A', D, c1', c3', hps', g1', g2', g5', g6', g7', g8', fa', fy⟩
    · rw [g1] at g1'
      exact absurd (Prod.mk.inj (Option.some.inj g1')).1.symm (neg_no n12' hps)
    · rw [g1] at g1'
      have e1 : (-1000100 - nI ps : Int32) = -1000100 - nI ps' ∧ A1 = up2 (up2 A' (z + 36) 1 0) (z + 36) 3 (nI c') := by
        have e := Prod.mk.inj (Option.some.inj g1')
        exact ⟨e.1, (Prod.mk.inj (Prod.mk.inj e.2).2).1⟩
      have eA := e1.2
      have fD : ∀ o l, ¬ (o = 82 ∧ (l = 0 ∨ (27 ≤ l ∧ l ≤ 36) ∨ l = 38)) → o ≠ 103 → o ≠ 104 → ¬ (o = 36 ∧ (l = 1 ∨ l = 3 ∨ (6 ≤ l ∧ l ≤ 9))) → ¬ (p + 1 ≤ o ∧ o ≤ p + 12) → D (z + o) l = I (z + o) l := fun o l p1 p2 p3 p4 p5 => by rw [fy o l p1 p2 p3]; exact fA1 o l p4 p5
      have fA : ∀ fp : Nat → Nat → Prop, (∀ o l, fp o l → ¬ (o = 82 ∧ (l = 0 ∨ (27 ≤ l ∧ l ≤ 36) ∨ l = 38)) ∧ o ≠ 103 ∧ o ≠ 104 ∧ ¬ (o = 36 ∧ (l = 1 ∨ l = 3 ∨ (6 ≤ l ∧ l ≤ 9))) ∧ ¬ (p + 1 ≤ o ∧ o ≤ p + 12)) → Fr fp z I D := fun fp hq o l pp => by
        obtain ⟨p1, p2, p3, p4, p5⟩ := hq o l pp
        exact fD o l p1 p2 p3 p4 p5
      refine ⟨-1000100 - nI ps, (K, A1, R, w), (K, D, R, w), eF _ _ g1, k82 h4, by rw [e1.1]; exact g2', Rel.mk (h := h) ⟨h1, h2, h3, h4, h5, ?_, h7.fr (fA fpSheets (by intro o q p; unfold fpSheets at p; omega)), h8.fr (fA fpStrokes (by intro o q p; unfold fpStrokes at p; omega)), h9.fr (fA fpPlan (by intro o q p; unfold fpPlan at p; omega)), h10.fr (fA fpBest (by intro o q p; unfold fpBest at p; omega)), h11.fr (fA fpRules (by intro o q p; unfold fpRules at p; omega)), h12.fr (fA fpZones (by intro o q p; unfold fpZones at p; omega)), h13.fr (fA fpShow (by intro o q p; unfold fpShow at p; omega)), ?_, h15.fr (fA fpTrace (by intro o q p; unfold fpTrace at p; omega))⟩⟩
      · have e0 : D z 6 = I z 6 := fD 0 6 (by omega) (by omega) (by omega) (by omega) (by omega)
        rw [e0, fD 82 1 (by omega) (by omega) (by omega) (by omega) (by omega)]
        exact h6
      · have d103 : ∀ j, D (z + 103) j = I (z + 103) j := fun j => by rw [g8', fA1 103 j (by omega) (by omega)]
        refine ⟨⟨0, by decide, ?_, g5', fun k hk => by omega⟩, ?_, q, p, n0, hq, r4, r5, nn1, ?_, ?_, fun i hi => ?_, fun i hi => ?_⟩
        · rw [fy 36 1 (by omega) (by omega) (by omega), eA]; simp (disch := omega) only [un_1, un_2, un_3, un_4, es, up2_self]; rfl
        · rw [fy 36 3 (by omega) (by omega) (by omega), eA, es, g6']
        · rw [fD 36 2 (by omega) (by omega) (by omega) (by omega) (by omega)]; exact nn2
        · rw [g7', fA1 82 36 (by omega) (by omega)]; exact nn3
        · have er : D (z + (q + 1 + i)) = I (z + (q + 1 + i)) := funext fun l => fD _ l (by omega) (by omega) (by omega) (by omega) (by omega)
          rw [er, d103, d103, d103, d103]
          exact hrow i hi
        · rw [d103, d103]; exact hasc i hi
end C9
