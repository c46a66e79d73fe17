section O5
variable {z h : Nat} {K : Nat → Nat × Nat} {I J : Nat → Nat → Int32} {R : Nat → Nat → Option Nat} {w : Nat}
def fpT (o k : Nat) : Prop := (o = 92 ∧ k ≤ 1) ∨ (86 ≤ o ∧ o ≤ 90)
def fpP (o k : Nat) : Prop := fpT o k ∨ (o = 12 ∧ (k = 3 ∨ k = 4)) ∨ (13 ≤ o ∧ o ≤ 15)
def fpM (o k : Nat) : Prop := fpT o k ∨ (o = 92 ∧ (k = 2 ∨ k = 3)) ∨ o = 13 ∨ o = 14 ∨ o = 16 ∨ o = 17
def fpU (o k : Nat) : Prop := fpT o k ∨ (o = 92 ∧ k = 4) ∨ (13 ≤ o ∧ o ≤ 17) ∨ o = 93 ∨ o = 94 ∨ (o = 10 ∧ 5 ≤ k ∧ k ≤ 9) ∨ (19 ≤ o ∧ o ≤ 29)
theorem TKL_fr (e : Fr fpT z I J) : TKL z h J = TKL z h I := by
  have e86 : J (z + 86) = I (z + 86) := funext fun j => e 86 j (by unfold fpT; omega)
  have e87 : J (z + 87) = I (z + 87) := funext fun j => e 87 j (by unfold fpT; omega)
  have e88 : J (z + 88) = I (z + 88) := funext fun j => e 88 j (by unfold fpT; omega)
  have e89 : J (z + 89) = I (z + 89) := funext fun j => e 89 j (by unfold fpT; omega)
  have e90 : J (z + 90) = I (z + 90) := funext fun j => e 90 j (by unfold fpT; omega)
  simp only [TKL, e86, e87, e88, e89, e90, e 92 0 (by unfold fpT; omega), e 92 1 (by unfold fpT; omega)]
theorem RPath.fr (hr : RPath z h I) (e : Fr fpP z I J) : RPath z h J := by
  have eT : TKL z h J = TKL z h I := TKL_fr fun o k q => e o k (Or.inl q)
  have e13 : J (z + 13) = I (z + 13) := funext fun j => e 13 j (by unfold fpP; omega)
  have e14 : J (z + 14) = I (z + 14) := funext fun j => e 14 j (by unfold fpP; omega)
  have e15 : J (z + 15) = I (z + 15) := funext fun j => e 15 j (by unfold fpP; omega)
  unfold RPath at hr ⊢
  rw [eT, e13, e14, e15, e 12 3 (by unfold fpP; omega), e 12 4 (by unfold fpP; omega)]
  exact hr
theorem RMir.fr (hr : RMir z h I) (e : Fr fpM z I J) : RMir z h J := by
  have eT : TKL z h J = TKL z h I := TKL_fr fun o k q => e o k (Or.inl q)
  have e13 : J (z + 13) = I (z + 13) := funext fun j => e 13 j (by unfold fpM; omega)
  have e14 : J (z + 14) = I (z + 14) := funext fun j => e 14 j (by unfold fpM; omega)
  have e16 : J (z + 16) = I (z + 16) := funext fun j => e 16 j (by unfold fpM; omega)
  have e17 : J (z + 17) = I (z + 17) := funext fun j => e 17 j (by unfold fpM; omega)
  unfold RMir at hr ⊢
  rw [eT, e13, e14, e16, e17, e 92 2 (by unfold fpM; omega), e 92 3 (by unfold fpM; omega)]
  exact hr
theorem RSum.fr (hr : RSum z h I) (e : Fr fpU z I J) : RSum z h J := by
  have eT : TKL z h J = TKL z h I := TKL_fr fun o k q => e o k (Or.inl q)
  have e13 : J (z + 13) = I (z + 13) := funext fun j => e 13 j (by unfold fpU; omega)
  have e14 : J (z + 14) = I (z + 14) := funext fun j => e 14 j (by unfold fpU; omega)
  have e15 : J (z + 15) = I (z + 15) := funext fun j => e 15 j (by unfold fpU; omega)
  have e16 : J (z + 16) = I (z + 16) := funext fun j => e 16 j (by unfold fpU; omega)
  have e17 : J (z + 17) = I (z + 17) := funext fun j => e 17 j (by unfold fpU; omega)
  have e93 : J (z + 93) = I (z + 93) := funext fun j => e 93 j (by unfold fpU; omega)
  have e94 : J (z + 94) = I (z + 94) := funext fun j => e 94 j (by unfold fpU; omega)
  have eS : seenF z J = seenF z I := by funext i; simp only [seenF, e15, e16, e17, e 92 4 (by unfold fpU; omega), e93, e94]
  have eL : lagF z J = lagF z I := by funext i; simp only [lagF, e13, e14, e15, e16, e17]
  have eB : burnF z J = burnF z I := by funext a b n; simp only [burnF, eS, e16, e17]
  unfold RSum at hr ⊢
  rw [eT, eS, eL, eB, e15, e16, e17, e93, e94, e 10 5 (by unfold fpU; omega), e 10 6 (by unfold fpU; omega), e 10 7 (by unfold fpU; omega), e 10 8 (by unfold fpU; omega), e 10 9 (by unfold fpU; omega)]
  obtain ⟨a1, a2, a3, a4, a5, a6⟩ := hr
  exact ⟨a1, a2, a3, a4, fun a b ha hb => by rw [e (19 + a) b (by unfold fpU; omega)]; exact a5 a b ha hb, a6⟩
/-- a change that ends the stage at c -/
theorem RShow.cut (hr : RShow z h I) (c : Nat) (hst : J (z + 10) 12 = (if nI c < I (z + 10) 12 then nI c else I (z + 10) 12)) (hc : c ≤ 3) (eP : 1 ≤ c → Fr fpP z I J) (eM : 2 ≤ c → Fr fpM z I J) (eU : 3 ≤ c → Fr fpU z I J) : RShow z h J := by
  obtain ⟨sg, h1, h2, h3, h4, h5⟩ := hr
  have hT : 1 ≤ c → TKL z h J = TKL z h I := fun q => TKL_fr fun o k p => eP q o k (Or.inl p)
  by_cases q : c < sg
  · refine ⟨c, by omega, ?_, fun p => (h3 (by omega)).fr (eP p), fun p l => (h4 (by omega) (by rw [← hT (by omega)]; exact l)).fr (eM p), fun p l => (h5 (by omega) (by rw [← hT (by omega)]; exact l)).fr (eU p)⟩
    rw [hst, h2, if_pos (nI_lt q (by omega))]
  · refine ⟨sg, h1, ?_, fun p => (h3 p).fr (eP (by omega)), fun p l => (h4 p (by rw [← hT (by omega)]; exact l)).fr (eM (by omega)), fun p l => (h5 p (by rw [← hT (by omega)]; exact l)).fr (eU (by omega))⟩
    rw [hst, h2, if_neg (nI_nlt (by omega) (by omega))]
theorem ends_X (hS : Shp z K R) (c : Int32) : f_X6_stageEndsAt (some (z + 10)) c (K, I, R, w) = some (K, up2 I (z + 10) 12 (if c < I (z + 10) 12 then c else I (z + 10) 12), R, w) := by
  simp [f_X6_stageEndsAt, gI_t, pI_t, kz10 hS]
theorem ix4 (i : Nat) : (4 : Int32) * nI i = nI (4 * i) := by rw [show (4 : Int32) = nI 4 from rfl, pk_mul]
theorem narZ0 : nar 15 0 = 0 := by decide
theorem narZ1 : nar 15 1 = 1 := by decide
/-- parts that look neither at zones nor at the show -/
def fpNZ (o k : Nat) : Prop := fpSheets o k ∨ fpStat o k ∨ fpStrokes o k ∨ fpPlan o k ∨ fpBest o k ∨ fpRules o k ∨ fpCues o k ∨ fpTrace o k
theorem Rel.zones (hR : Rel z (K, I, R, w)) (hz : RZones z J) (hs : ∀ h, RShow z h I → RShow z h J) (e : Fr fpNZ z I J) : Rel z (K, J, R, w) := by
  obtain ⟨h, h1, h2, h3, h4, h5, h6, h7, h8, h9, h10, h11, h12, h13, h14, h15⟩ := hR.opn
  have e0 : J z 6 = I z 6 := e 0 6 (by unfold fpNZ fpStat; omega)
  have e1 : J (z + 82) 1 = I (z + 82) 1 := e 82 1 (by unfold fpNZ fpStat; omega)
  exact Rel.mk (h := h) ⟨h1, h2, h3, h4, h5, by rw [e0, e1]; exact h6, h7.fr fun o k q => e o k (by unfold fpNZ; simp [q]), h8.fr fun o k q => e o k (by unfold fpNZ; simp [q]), h9.fr fun o k q => e o k (by unfold fpNZ; simp [q]), h10.fr fun o k q => e o k (by unfold fpNZ; simp [q]), h11.fr fun o k q => e o k (by unfold fpNZ; simp [q]), hz, hs h h13, h14.fr fun o k q => e o k (by unfold fpNZ; simp [q]), h15.fr fun o k q => e o k (by unfold fpNZ; simp [q])⟩
def fpZ1 (i : Nat) (o k : Nat) : Prop := (31 ≤ o ∧ o < 35 ∧ o ≠ 31 + i) ∨ (o = 35 ∧ k ≠ i) ∨ (o = 93 ∧ k ≠ i) ∨ (o = 94 ∧ (k < 4 * i ∨ 4 * i + 4 ≤ k))
theorem RZones.one (hr : RZones z I) {i0 : Nat} (e : Fr (fpZ1 i0) z I J) (hn : J (z + 35) i0 = J (z + 93) i0 ∧ (J (z + 93) i0 = 0 ∨ J (z + 93) i0 = 1) ∧ ∀ c, c < 4 → J (z + (31 + i0)) c = J (z + 94) (4 * i0 + c)) : RZones z J := by
  intro i hi
  by_cases hne : i = i0
  · subst hne; exact hn
  · obtain ⟨g1, g2, g3⟩ := hr i hi
    rw [e 35 i (by unfold fpZ1; omega), e 93 i (by unfold fpZ1; omega)]
    refine ⟨g1, g2, fun c hc => ?_⟩
    rw [e (31 + i) c (by unfold fpZ1; omega), e 94 (4 * i + c) (by unfold fpZ1; omega)]
    exact g3 c hc
theorem agr_open (v1 : Int32) : Agr (Rel z) z (f_X11_open (some z) v1) (f_X12_open (some (z + 82)) v1) := by
  rintro ⟨K, I, R, w⟩ hR
  obtain ⟨h, h1, h2, h3, h4, h5, h6, h7, h8, h9, h10, h11, h12, h13, h14, h15⟩ := hR.opn
  by_cases c1 : 0 ≤ v1 ∧ v1 ≤ 3
  · obtain ⟨i, hi, rfl⟩ := ix_le (n := 3) (by decide) c1
    have hi4 : i < 4 := by omega
    obtain ⟨g1, g2, g3⟩ := h12 i hi4
    have n0 : ¬ nI i < 0 := nI_pos (by omega)
    have n4 : ¬ (4 : Int32) ≤ nI i := nI_ge (b := 4) hi4 (by decide)
    by_cases c2 : I (z + 93) i = 0
    · have c2' : I (z + 35) i = 0 := g1.trans c2
      refine ⟨0, (K, I, R, w), (K, up2 (up2 I (z + 82) 0 0) (z + 93) i 0, R, w), ?_, k82 h4, ?_, ?_⟩
      · simp [f_X11_open, isZo, wi1 c1, gR_t, kz0 h4, rz0_3 h4, cK_t, kz10 h4, f_X6_openZone, n0, n4, rz10_11 h4, aI_t (kz35 h4) hi4, c2', b_X6_openZone_22, b_X6_openZone_23, b_X6_openZone_40, zr_0]
      · have e93 : up2 I (z + 82) 0 0 (z + 93) i = 0 := ev c2 (by omega)
        simp [f_X12_open, in_03, wi1 c1, pI_t, gR_t, kz82 h4, rz82_13 h4, aI_t (kz93 h4) hi4, sI_t (kz93 h4) hi4, narZ0, e93]
      · have : up2 (up2 I (z + 82) 0 0) (z + 93) i 0 = up2 I (z + 82) 0 0 := by
          funext b k
          by_cases q : b = z + 93 ∧ k = i
          · obtain ⟨rfl, rfl⟩ := q
            rw [up2_self]; exact (ev c2 (by omega)).symm
          · rw [up2_ne _ _ (by omega)]
        rw [this]
        exact hR.thr 0
    · have c2' : ¬ I (z + 35) i = 0 := fun q => c2 (g1.symm.trans q)
      obtain ⟨A, hA⟩ : ∃ A, A = up2 (up2 I (z + 35) i 0) (z + 10) 12 (if 2 < up2 I (z + 35) i 0 (z + 10) 12 then 2 else up2 I (z + 35) i 0 (z + 10) 12) := ⟨_, rfl⟩
      refine ⟨1, (K, A, R, w), (K, up2 (up2 A (z + 82) 0 0) (z + 93) i 0, R, w), ?_, k82 h4, ?_, ?_⟩
      · simp [f_X11_open, isZo, wi1 c1, gR_t, kz0 h4, rz0_3 h4, cK_t, kz10 h4, f_X6_openZone, n0, n4, rz10_11 h4, aI_t (kz35 h4) hi4, c2', b_X6_openZone_23, sI_t (kz35 h4) hi4, narZ0, ends_X h4, b_X6_openZone_40, zr_1, hA]
      · have e93 : up2 A (z + 82) 0 0 (z + 93) i = I (z + 93) i := by rw [hA]; exact ev (ev (ev rfl (by omega)) (by omega)) (by omega)
        simp [f_X12_open, in_03, wi1 c1, pI_t, gR_t, kz82 h4, rz82_13 h4, aI_t (kz93 h4) hi4, sI_t (kz93 h4) hi4, narZ0, e93, c2]
      · have fA : ∀ fp : Nat → Nat → Prop, (∀ o q, fp o q → ¬ (o = 35 ∧ q = i) ∧ ¬ (o = 10 ∧ q = 12) ∧ ¬ (o = 82 ∧ q = 0) ∧ ¬ (o = 93 ∧ q = i)) → Fr fp z I (up2 (up2 A (z + 82) 0 0) (z + 93) i 0) := by
          intro fp hq
          rw [hA]
          exact (((Fr.rf.up (fun o l p => by have := hq o l p; omega)).up (fun o l p => by have := hq o l p; omega)).up (fun o l p => by have := hq o l p; omega)).up (fun o l p => by have := hq o l p; omega)
        refine hR.zones (h12.one (i0 := i) ?_ ⟨?_, ?_, ?_⟩) (fun h hs => hs.cut 2 ?_ (by omega) (fun _ => ?_) (fun _ => ?_) (fun q => absurd q (by omega))) ?_
        · exact fA _ (by intro o q p; unfold fpZ1 at p; omega)
        · rw [es]; rw [hA]; exact ev (ev (ev es (by omega)) (by omega)) (by omega)
        · exact Or.inl es
        · intro c hc
          have := fA (fun o q => o = 94 ∨ o = 31 + i) (by intro o q p; omega)
          rw [this (31 + i) c (Or.inr rfl), this 94 _ (Or.inl rfl)]
          exact g3 c hc
        · rw [hA]
          refine (ev (ev es (by omega)) (by omega)).trans ?_
          rw [show up2 I (z + 35) i 0 (z + 10) 12 = I (z + 10) 12 from ev rfl (by omega)]
          rfl
        · exact fA _ (by intro o q p; unfold fpP fpT at p; omega)
        · exact fA _ (by intro o q p; unfold fpM fpT at p; omega)
        · exact fA _ (by intro o q p; unfold fpNZ fpSheets fpStat fpStrokes fpPlan fpBest fpRules fpCues fpTrace at p; omega)
  · refine ⟨-1000001, (K, I, R, w), (K, up2 I (z + 82) 0 0, R, w), ?_, k82 h4, ?_, hR.thr 0⟩
    · simp [f_X11_open, isZo, wi0 c1]
    · simp [f_X12_open, in_03, wi0 c1, pI_t, kz82 h4]
end O5
