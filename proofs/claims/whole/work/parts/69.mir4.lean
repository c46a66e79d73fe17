section M4
variable {z h k n m t q sg wn : Nat} {K : Nat → Nat × Nat} {I J A : Nat → Nat → Int32} {R : Nat → Nat → Option Nat} {w : Nat}
/-- what a working out leaves alone -/
def FS (z : Nat) (I A : Nat → Nat → Int32) : Prop := ∀ o q, ¬ (o = 10 ∧ ((5 ≤ q ∧ q ≤ 9) ∨ q = 12)) → ¬ (o = 12 ∧ 3 ≤ q ∧ q ≤ 6) → ¬ (13 ≤ o ∧ o ≤ 17) → ¬ (19 ≤ o ∧ o ≤ 29) → A (z + o) q = I (z + o) q
theorem FS.rf : FS z I I := fun _ _ _ _ _ _ => rfl
theorem FS.tr {B : Nat → Nat → Int32} (h1 : FS z I A) (h2 : FS z A B) : FS z I B := fun o q a b c d => (h2 o q a b c d).trans (h1 o q a b c d)
theorem FS.tkl (e : FS z I A) : TKL z h A = TKL z h I := TKL_fr fun o q p => by unfold fpT at p; exact e o q (by omega) (by omega) (by omega) (by omega)
theorem FS.zo (e : FS z I A) (hz : RZones z I) : RZones z A := hz.fr fun o q p => by unfold fpZones at p; exact e o q (by omega) (by omega) (by omega) (by omega)
theorem FS.ru (e : FS z I A) (hr : RRules z I) : RRules z A := hr.fr fun o q p => by unfold fpRules at p; exact e o q (by omega) (by omega) (by omega) (by omega)
def GS (z h : Nat) (J : Nat → Nat → Int32) (sg : Nat) : Prop := J (z + 10) 12 = nI sg ∧ 1 ≤ sg ∧ sg ≤ 3 ∧ RPath z h J ∧ (2 ≤ sg → RMir z h J) ∧ (3 ≤ sg → RSum z h J)
theorem ru_of (hr : RRules z I) : ∃ p wt dl, 1 ≤ p ∧ p ≤ 1000 ∧ wt ≤ 5 ∧ dl ≤ 5 ∧ I (z + 92) 0 = nI p ∧ I (z + 92) 1 = nI wt ∧ I (z + 92) 4 = nI dl := by
  obtain ⟨p, p1, p2, p3⟩ := hr.2 0 (by decide)
  obtain ⟨wt, w1, w2, w3⟩ := hr.2 1 (by decide)
  obtain ⟨dl, d1, d2, d3⟩ := hr.2 4 (by decide)
  have t0 : (tbL.getD 0 0).toNatClampNeg = 1 := by decide
  have t1 : (tbM.getD 0 0).toNatClampNeg = 1000 := by decide
  have t2 : (tbM.getD 1 0).toNatClampNeg = 5 := by decide
  have t3 : (tbM.getD 4 0).toNatClampNeg = 5 := by decide
  exact ⟨p, wt, dl, by omega, by omega, by omega, by omega, p3, w3, d3⟩
theorem sum_R (e : SUx z J (TKL z h J).length I) (eA : A = up2 I (z + 10) 12 3) : RSum z h A ∧ FS z J A ∧ (RPath z h J → RPath z h A) ∧ (RMir z h J → RMir z h A) := by
  obtain ⟨f, s5, s6, s7, s8, sb, s9⟩ := e
  have fA : ∀ o q, ¬ (o = 10 ∧ ((5 ≤ q ∧ q ≤ 9) ∨ q = 12)) → ¬ (19 ≤ o ∧ o ≤ 29) → A (z + o) q = J (z + o) q := fun o q p1 p2 => by rw [eA]; simp (disch := omega) only [un_1, un_2, un_3, un_4, es, up2_self]; exact f o q (by omega) p2
  have eT : TKL z h A = TKL z h J := TKL_fr fun o q p => by unfold fpT at p; exact fA o q (by omega) (by omega)
  have e13 : A (z + 13) = J (z + 13) := funext fun j => fA 13 j (by omega) (by omega)
  have e14 : A (z + 14) = J (z + 14) := funext fun j => fA 14 j (by omega) (by omega)
  have e15 : A (z + 15) = J (z + 15) := funext fun j => fA 15 j (by omega) (by omega)
  have e16 : A (z + 16) = J (z + 16) := funext fun j => fA 16 j (by omega) (by omega)
  have e17 : A (z + 17) = J (z + 17) := funext fun j => fA 17 j (by omega) (by omega)
  have e93 : A (z + 93) = J (z + 93) := funext fun j => fA 93 j (by omega) (by omega)
  have e94 : A (z + 94) = J (z + 94) := funext fun j => fA 94 j (by omega) (by omega)
  have eS : seenF z A = seenF z J := by funext i; simp only [seenF, e15, e16, e17, fA 92 4 (by omega) (by omega), e93, e94]
  have eL : lagF z A = lagF z J := by funext i; simp only [lagF, e13, e14, e15, e16, e17]
  have eB : burnF z A = burnF z J := by funext a b n; simp only [burnF, eS, e16, e17]
  refine ⟨?_, fun o q p1 _ _ p4 => fA o q p1 p4, fun hp => hp.fr fun o q p => by unfold fpP fpT at p; exact fA o q (by omega) (by omega), fun hp => hp.fr fun o q p => by unfold fpM fpT at p; exact fA o q (by omega) (by omega)⟩
  unfold RSum
  rw [eT, eS, eL, eB, e15, e16, e17, e93, e94]
  refine ⟨?_, ?_, ?_, ?_, fun a b ha hb => ?_, ?_⟩
  · rw [eA]; simp (disch := omega) only [un_1, un_2, un_3, un_4, es, up2_self]; exact s5
  · rw [eA]; simp (disch := omega) only [un_1, un_2, un_3, un_4, es, up2_self]; exact s6
  · rw [eA]; simp (disch := omega) only [un_1, un_2, un_3, un_4, es, up2_self]; exact s7
  · rw [eA]; simp (disch := omega) only [un_1, un_2, un_3, un_4, es, up2_self]; exact s8
  · rw [eA]; simp (disch := omega) only [un_1, un_2, un_3, un_4, es, up2_self]; exact sb a b ha hb
  · rw [eA]; simp (disch := omega) only [un_1, un_2, un_3, un_4, es, up2_self]; exact s9
theorem r93 (hS : Shp z K R) (hz : RZones z J) (hru : RRules z J) (hl : (TKL z h J).length ≤ 2000) (hg : GS z h J sg) (h3 : wn ≤ 3) (h2 : 2 ≤ wn → 2 ≤ sg) : ∃ A sg', b_X6_reaches_93 (some (z + 10)) (nI wn) (K, J, R, w) = some (1, K, A, R, w) ∧ FS z J A ∧ GS z h A sg' ∧ wn ≤ sg' := by
  have k10 : (K (z + 10)).1 = 6 + 1 := by rw [kz10 hS]
  obtain ⟨g1, g2, g3, g4, g5, g6⟩ := hg
  unfold b_X6_reaches_93
  by_cases c : wn < 3
  · rw [if_pos (show _ < (3 : Int32) from nI_lt (b := 3) c (by decide)), zr_1]
    exact ⟨J, sg, rfl, FS.rf, ⟨g1, g2, g3, g4, g5, g6⟩, by omega⟩
  · rw [if_neg (show ¬ _ < (3 : Int32) from nI_nlt (b := 3) (by omega) (by omega)), gI_t k10, Option.bind_some, g1]
    by_cases c2 : 3 ≤ sg
    · rw [if_pos (show (3 : Int32) ≤ _ from nI_le (a := 3) c2 (by omega)), zr_1]
      exact ⟨J, sg, rfl, FS.rf, ⟨g1, g2, g3, g4, g5, g6⟩, by omega⟩
    · obtain ⟨p, wt, dl, _, _, _, hd, _, _, e4⟩ := ru_of hru
      obtain ⟨B, r1, r2⟩ := sum_X (w := w) hS hz hl hd (g4.1 hl).1 (by rw [hru.1 4 (by decide), e4]) e4
      obtain ⟨q1, q2, q3, q4⟩ := sum_R r2 rfl
      rw [if_neg (show ¬ (3 : Int32) ≤ _ from nI_ge (b := 3) (by omega) (by decide)), cK_t k10, r1, Option.bind_some, pI_t k10, Option.bind_some, zr_1]
      exact ⟨_, 3, rfl, q2, ⟨es, by omega, by omega, q3 g4, fun _ => q4 (g5 (h2 (by omega))), fun _ => q1⟩, h3⟩
theorem r33 (hS : Shp z K R) (hz : RZones z J) (hru : RRules z J) (hsg : J (z + 10) 12 = nI sg) (s1 : 1 ≤ sg) (s3 : sg ≤ 3) (hp : RPath z h J) (hm : 2 ≤ sg → (TKL z h J).length ≤ 2000 → RMir z h J) (hu : 3 ≤ sg → (TKL z h J).length ≤ 2000 → RSum z h J) (h3 : wn ≤ 3) : ∃ A sg', b_X6_reaches_33 (some (z + 10)) (nI wn) (K, J, R, w) = some (bI (decide ((TKL z h J).length ≤ 2000)), K, A, R, w) ∧ FS z J A ∧ RShow z h A ∧ ((TKL z h J).length ≤ 2000 → GS z h A sg' ∧ wn ≤ sg') := by
  have k10 : (K (z + 10)).1 = 6 + 1 := by rw [kz10 hS]
  have k12 : (K (z + 12)).1 = 3 + 1 := by rw [kz12 hS]
  unfold b_X6_reaches_33
  rw [gR_t k10, Option.bind_some, rz10_1 hS, gI_t k12, Option.bind_some]
  by_cases hl : (TKL z h J).length ≤ 2000
  · have shw : ∀ {A : Nat → Nat → Int32} {sg' : Nat}, GS z h A sg' → RShow z h A := fun {A sg'} g => ⟨sg', g.2.2.1, g.1, fun _ => g.2.2.2.1, fun q _ => g.2.2.2.2.1 q, fun q _ => g.2.2.2.2.2 q⟩
    have hd1 : bI (decide ((TKL z h J).length ≤ 2000)) = 1 := by simp [hl, bI]
    rw [hd1, (hp.1 hl).2.1, if_pos rfl]
    have g0 : GS z h J sg := ⟨hsg, s1, s3, hp, fun q => hm q hl, fun q => hu q hl⟩
    by_cases c : wn < 2
    · rw [if_pos (show _ < (2 : Int32) from nI_lt (b := 2) c (by decide))]
      obtain ⟨A, sg', r1, r2, r3, r4⟩ := r93 (w := w) hS hz hru hl g0 h3 (fun q => by omega)
      exact ⟨A, sg', r1, r2, shw r3, fun _ => ⟨r3, r4⟩⟩
    · rw [if_neg (show ¬ _ < (2 : Int32) from nI_nlt (b := 2) (by omega) (by omega)), gI_t k10, Option.bind_some, hsg]
      by_cases c2 : 2 ≤ sg
      · rw [if_pos (show (2 : Int32) ≤ _ from nI_le (a := 2) c2 (by omega))]
        obtain ⟨A, sg', r1, r2, r3, r4⟩ := r93 (w := w) hS hz hru hl g0 h3 (fun q => c2)
        exact ⟨A, sg', r1, r2, shw r3, fun _ => ⟨r3, r4⟩⟩
      · obtain ⟨A1, a1, a2, a3⟩ := fol_X (w := w) (t := 13) (m := 16) hS hl (Or.inl rfl) (Or.inl rfl) (kz13 hS) (kz16 hS) (hp.1 hl).1
        obtain ⟨A2, b1, b2, b3⟩ := fol_X (I := A1) (w := w) (t := 14) (m := 17) hS hl (Or.inr rfl) (Or.inr rfl) (kz14 hS) (kz17 hS) (by rw [a2 12 3 (by omega)]; exact (hp.1 hl).1)
        obtain ⟨B, hB⟩ : ∃ B, B = up2 A2 (z + 10) 12 2 := ⟨_, rfl⟩
        have fB : ∀ o q, o ≠ 16 → o ≠ 17 → ¬ (o = 10 ∧ q = 12) → B (z + o) q = J (z + o) q := fun o q p1 p2 p3 => by rw [hB]; simp (disch := omega) only [un_1, un_2, un_3, un_4, es, up2_self]; rw [b2 o q p2, a2 o q p1]
        have FB : FS z J B := fun o q p1 p2 p3 p4 => fB o q (by omega) (by omega) (by omega)
        have eT : TKL z h B = TKL z h J := FB.tkl
        have gB : GS z h B 2 := by
          refine ⟨by rw [hB]; simp (disch := omega) only [un_1, un_2, un_3, un_4, es, up2_self]; rfl, by omega, by omega, hp.fr fun o q p => by unfold fpP fpT at p; exact fB o q (by omega) (by omega) (by omega), fun _ => ?_, fun q => by omega⟩
          unfold RMir
          intro i hi
          rw [eT] at hi
          have e13 : B (z + 13) = J (z + 13) := funext fun q => fB 13 q (by omega) (by omega) (by omega)
          have e14 : B (z + 14) = J (z + 14) := funext fun q => fB 14 q (by omega) (by omega) (by omega)
          have e14' : A1 (z + 14) = J (z + 14) := funext fun q => a2 14 q (by omega)
          rw [e13, e14, fB 92 2 (by omega) (by omega) (by omega), fB 92 3 (by omega) (by omega) (by omega), ← hru.1 2 (by decide), ← hru.1 3 (by decide)]
          constructor
          · rw [hB]; simp (disch := omega) only [un_1, un_2, un_3, un_4, es, up2_self]; rw [b2 16 i (by omega)]; exact a3 i hi
          · rw [hB]; simp (disch := omega) only [un_1, un_2, un_3, un_4, es, up2_self]; rw [b3 i hi, e14', a2 11 2 (by omega), a2 11 3 (by omega)]
        obtain ⟨A, sg', r1, r2, r3, r4⟩ := r93 (w := w) hS (FB.zo hz) (FB.ru hru) (by rw [eT]; exact hl) gB h3 (fun q => Nat.le_refl 2)
        refine ⟨A, sg', ?_, FB.tr r2, shw r3, fun _ => ⟨r3, r4⟩⟩
        rw [if_neg (show ¬ (2 : Int32) ≤ _ from nI_ge (b := 2) (by omega) (by decide))]
        simp only [gR_t k10, gR_t k12, Option.bind_some, rz10_1 hS, rz12_0 hS, rz12_1 hS, rz10_2 hS, rz10_3 hS, cK_t k10, a1, b1, pI_t k10, ← hB]
        exact r1
  · have hd0 : bI (decide ((TKL z h J).length ≤ 2000)) = 0 := by simp [hl, bI]
    rw [hd0, hp.2 (by omega), if_neg i10, zr_0]
    exact ⟨J, sg, rfl, FS.rf, ⟨sg, s3, hsg, fun _ => hp, hm, hu⟩, fun q => absurd q hl⟩
theorem reach_X (hS : Shp z K R) (h8 : h ≤ 8) (hs : RStrokes z h K I R) (hp : RPlan z h I) (hru : RRules z I) (hz : RZones z I) (hw : RShow z h I) (h3 : wn ≤ 3) : ∃ A sg', f_X6_reaches (some (z + 10)) (nI wn) (some (z + 2)) (K, I, R, w) = some (bI (decide ((TKL z h I).length ≤ 2000)), K, A, R, w) ∧ FS z I A ∧ RShow z h A ∧ ((TKL z h I).length ≤ 2000 → GS z h A sg' ∧ wn ≤ sg') := by
  have k10 : (K (z + 10)).1 = 6 + 1 := by rw [kz10 hS]
  have k12 : (K (z + 12)).1 = 3 + 1 := by rw [kz12 hS]
  obtain ⟨sg, s1, s2, s3, s4, s5⟩ := hw
  unfold f_X6_reaches
  rw [gI_t k10, Option.bind_some, s2]
  by_cases c : 1 ≤ sg
  · rw [if_pos (show (1 : Int32) ≤ _ from nI_le (a := 1) c (by omega))]
    exact r33 hS hz hru s2 c s1 (s3 c) s4 s5 h3
  · obtain ⟨p, wt, dl, p1, p2, w1, hd, e0, e1, e4⟩ := ru_of hru
    obtain ⟨A0, ax, ay, r1, r2, r3⟩ := draw_X (w := w) hS h8 hs hp p1 p2 w1 e0 e1
    obtain ⟨B, hB⟩ : ∃ B, B = up2 A0 (z + 10) 12 1 := ⟨_, rfl⟩
    have fB : ∀ o q, ¬ (o = 10 ∧ q = 12) → ¬ (o = 12 ∧ 3 ≤ q ∧ q ≤ 6) → ¬ (13 ≤ o ∧ o ≤ 15) → B (z + o) q = I (z + o) q := fun o q q1 q2 q3 => by rw [hB]; simp (disch := omega) only [un_1, un_2, un_3, un_4, es, up2_self]; exact r3 o q (by omega) (by omega) (by omega) (by omega)
    have FB : FS z I B := fun o q q1 q2 q3 q4 => fB o q (by omega) (by omega) (by omega)
    have eT : TKL z h B = TKL z h I := FB.tkl
    have hpB : RPath z h B := by
      unfold RPath
      rw [eT]
      refine ⟨fun q => ?_, fun q => ?_⟩
      · obtain ⟨x1, x2, _, _, x5⟩ := r2.1 q
        refine ⟨by rw [hB]; simp (disch := omega) only [un_1, un_2, un_3, un_4, es, up2_self]; exact x1, by rw [hB]; simp (disch := omega) only [un_1, un_2, un_3, un_4, es, up2_self]; exact x2, fun i hi => ?_⟩
        rw [hB]; simp (disch := omega) only [un_1, un_2, un_3, un_4, es, up2_self]; exact x5 i hi
      · rw [hB]; simp (disch := omega) only [un_1, un_2, un_3, un_4, es, up2_self]; exact r2.2 q
    have a0 : aI (K, I, R, w) (some (z + 11)) 14 0 = some (nI p) := (aI_t (j := 0) (kz11 hS) (by decide) (by decide)).trans (by rw [hru.1 0 (by decide), e0])
    have a1 : aI (K, I, R, w) (some (z + 11)) 14 1 = some (nI wt) := (aI_t (j := 1) (kz11 hS) (by decide) (by decide)).trans (by rw [hru.1 1 (by decide), e1])
    obtain ⟨A, sg', t1, t2, t3, t4⟩ := r33 (w := w) (sg := 1) hS (FB.zo hz) (FB.ru hru) (by rw [hB]; simp (disch := omega) only [un_1, un_2, un_3, un_4, es, up2_self]; rfl) (by omega) (by omega) hpB (fun q => by omega) (fun q => by omega) h3
    rw [eT] at t1 t4
    refine ⟨A, sg', ?_, FB.tr t2, t3, t4⟩
    rw [if_neg (show ¬ (1 : Int32) ≤ _ from nI_ge (b := 1) (by omega) (by decide))]
    simp only [gR_t k10, Option.bind_some, rz10_1 hS, rz10_0 hS, a0, a1, cK_t k12, r1, pI_t k10, ← hB]
    exact t1
-- the reference's working out
def FD (z : Nat) (A D : Nat → Nat → Int32) : Prop := ∀ o q, ¬ (o = 82 ∧ (q = 0 ∨ q = 15 ∨ q = 16 ∨ q = 24 ∨ q = 25)) → ¬ (95 ≤ o ∧ o ≤ 101) → D (z + o) q = A (z + o) q
theorem TMr.sw {dl T : Nat} {C D : Nat → Nat → Int32} (e : TMr z dl C T D) : TMr z dl D T D := by
  obtain ⟨f, a, b⟩ := e
  have e95 : D (z + 95) = C (z + 95) := funext fun q => f 95 q (by omega)
  have e96 : D (z + 96) = C (z + 96) := funext fun q => f 96 q (by omega)
  have e97 : D (z + 97) = C (z + 97) := funext fun q => f 97 q (by omega)
  have e93 : D (z + 93) = C (z + 93) := funext fun q => f 93 q (by omega)
  have e94 : D (z + 94) = C (z + 94) := funext fun q => f 94 q (by omega)
  have eX : MX z D = MX z C := by funext j; simp only [MX, e95, f 92 2 (by omega), f 92 3 (by omega)]
  have eY : MY z D = MY z C := by funext j; simp only [MY, e96, f 92 2 (by omega), f 92 3 (by omega)]
  have eS : MS z D = MS z C := by funext j; simp only [MS, e93, e94, eX, eY]
  have eL : ML z dl D = ML z dl C := by funext j; simp only [ML, e97, eS]
  unfold TMr
  rw [eX, eY, eS, eL]
  exact ⟨fun _ _ _ => rfl, a, b⟩
theorem mk_M (hS : Shp z K R) (h8 : h ≤ 8) (hs : RStrokes z h K A R) (hp : RPlan z h A) (hru : RRules z A) : ∃ D T dl, T ≤ 2000 ∧ dl ≤ 5 ∧ f_X12_make (some (z + 82)) (K, up2 A (z + 82) 0 0, R, w) = some (K, D, R, w) ∧ FD z A D ∧ TMr z dl D T D ∧ D (z + 92) 4 = nI dl ∧ D (z + 82) 15 = nI T ∧ ((TKL z h A).length ≤ 2000 → T = (TKL z h A).length ∧ D (z + 82) 16 = 0 ∧ ∀ i, i < (TKL z h A).length → (TKL z h A)[i]? = some (D (z + 95) i, D (z + 96) i, D (z + 97) i)) ∧ (2000 < (TKL z h A).length → D (z + 82) 16 = 1) := by
  obtain ⟨B, hB⟩ : ∃ B, B = up2 A (z + 82) 0 0 := ⟨_, rfl⟩
  have fB : ∀ o q, ¬ (o = 82 ∧ q = 0) → B (z + o) q = A (z + o) q := fun o q p => by rw [hB]; simp (disch := omega) only [un_1, un_2, un_3, un_4, es, up2_self]
  have eT : TKL z h B = TKL z h A := TKL_fr fun o q p => by unfold fpT at p; exact fB o q (by omega)
  have hruB : RRules z B := hru.fr fun o q p => by unfold fpRules at p; exact fB o q (by omega)
  obtain ⟨p, wt, dl, p1, p2, w1, hd, e0, e1, e4⟩ := ru_of hruB
  obtain ⟨C, r1, r2, r3⟩ := make_M (w := w) hS h8 (hs.fr fun o q p => by unfold fpStrokes at p; exact fB o q (by omega)) (hp.fr fun o q p => by unfold fpPlan at p; exact fB o q (by omega)) p1 p2 w1 e0 e1
  rw [eT] at r2
  have c4 : C (z + 92) 4 = nI dl := by rw [r3 92 4 (by omega) (by omega) (by omega) (by omega)]; exact e4
  by_cases hl : (TKL z h A).length ≤ 2000
  · obtain ⟨x1, x2, x3⟩ := r2.1 hl
    obtain ⟨D, t1, t2⟩ := thr_M (w := w) hS hl hd x1 c4
    have f := t2.1
    refine ⟨D, (TKL z h A).length, dl, hl, hd, ?_, fun o q q1 q2 => ?_, t2.sw, ?_, ?_, fun _ => ⟨rfl, ?_, fun i hi => ?_⟩, fun q => by omega⟩
    · rw [← hB, r1]; exact t1
    · rw [f o q (by omega), r3 o q (by omega) (by omega) (by omega) (by omega), fB o q (by omega)]
    · rw [f 92 4 (by omega)]; exact c4
    · rw [f 82 15 (by omega)]; exact x1
    · rw [f 82 16 (by omega)]; exact x2
    · rw [f 95 i (by omega), f 96 i (by omega), f 97 i (by omega)]; exact x3 i hi
  · obtain ⟨x1, x2⟩ := r2.2.1 (by omega)
    obtain ⟨D, t1, t2⟩ := thr_M (w := w) hS (Nat.le_refl 2000) hd x1 c4
    have f := t2.1
    refine ⟨D, 2000, dl, Nat.le_refl _, hd, ?_, fun o q q1 q2 => ?_, t2.sw, ?_, ?_, fun q => absurd q hl, fun q => ?_⟩
    · rw [← hB, r1]; exact t1
    · rw [f o q (by omega), r3 o q (by omega) (by omega) (by omega) (by omega), fB o q (by omega)]
    · rw [f 92 4 (by omega)]; exact c4
    · rw [f 82 15 (by omega)]; exact x1
    · rw [f 82 16 (by omega)]; exact x2
theorem Rel.fd {D : Nat → Nat → Int32} (hR : Rel z (K, A, R, w)) (e : FD z A D) : Rel z (K, D, R, w) := hR.fr fun o q p => by
  unfold fpAll fpSheets fpStat fpStrokes fpPlan fpBest fpRules fpZones fpShow fpCues fpTrace at p
  exact e o q (by omega) (by omega)
theorem mirF_c {a b : Int32} {T T' : Nat → Int32} : ∀ n, (∀ j, j < n → T j = T' j) → mirF a b T n = mirF a b T' n := by
  intro n
  induction n with
  | zero => intro _; rfl
  | succ n ih => intro e; rw [mirF, mirF, ih fun j hj => e j (by omega), e n (by omega)]
end M4
