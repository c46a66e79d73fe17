section M5
variable {z h k n m t q sg wn : Nat} {K : Nat → Nat × Nat} {I J A : Nat → Nat → Int32} {R : Nat → Nat → Option Nat} {w : Nat}
/-- both have worked it out -/
theorem both (hR : Rel z (K, I, R, w)) (h3 : wn ≤ 3) : ∃ h A D T dl c, Shp z K R ∧ T ≤ 2000 ∧ dl ≤ 5 ∧ f_X6_reaches (some (z + 10)) (nI wn) (some (z + 2)) (K, I, R, w) = some (bI c, K, A, R, w) ∧ f_X12_make (some (z + 82)) (K, up2 A (z + 82) 0 0, R, w) = some (K, D, R, w) ∧ Rel z (K, D, R, w) ∧ RZones z A ∧ RRules z A ∧ FD z A D ∧ TMr z dl D T D ∧ D (z + 92) 4 = nI dl ∧ D (z + 82) 15 = nI T ∧ D (z + 82) 16 = bI (!c) ∧ (c = true → A (z + 12) 3 = nI T ∧ T = (TKL z h A).length ∧ (∀ i, i < T → A (z + 13) i = D (z + 95) i ∧ A (z + 14) i = D (z + 96) i ∧ A (z + 15) i = D (z + 97) i) ∧ (2 ≤ wn → ∀ i, i < T → A (z + 16) i = D (z + 98) i ∧ A (z + 17) i = D (z + 99) i) ∧ (3 ≤ wn → RSum z h A)) := by
  obtain ⟨h, h1, h2, h3', h4, h5, h6, h7, h8, h9, h10, h11, h12, h13, h14, h15⟩ := hR.opn
  obtain ⟨A, sg, r1, r2, r3, r4⟩ := reach_X (w := w) h4 h1 h8 h9 h11 h12 h13 h3
  have fA : ∀ fp : Nat → Nat → Prop, (∀ o q, fp o q → ¬ (o = 10 ∧ ((5 ≤ q ∧ q ≤ 9) ∨ q = 12)) ∧ ¬ (o = 12 ∧ 3 ≤ q ∧ q ≤ 6) ∧ ¬ (13 ≤ o ∧ o ≤ 17) ∧ ¬ (19 ≤ o ∧ o ≤ 29)) → Fr fp z I A := fun fp hq o q p => by
    have := hq o q p
    exact r2 o q this.1 this.2.1 this.2.2.1 this.2.2.2
  have hsA : RStrokes z h K A R := h8.fr (fA fpStrokes (by intro o q p; unfold fpStrokes at p; omega))
  have hpA : RPlan z h A := h9.fr (fA fpPlan (by intro o q p; unfold fpPlan at p; omega))
  have hruA : RRules z A := r2.ru h11
  have hzA : RZones z A := r2.zo h12
  have eT : TKL z h A = TKL z h I := r2.tkl
  have RA : Rel z (K, A, R, w) := Rel.mk (h := h) ⟨h1, h2, h3', h4, h5, by
    have e0 : A z 6 = I z 6 := r2 0 6 (by omega) (by omega) (by omega) (by omega)
    rw [e0, r2 82 1 (by omega) (by omega) (by omega) (by omega)]; exact h6, h7.fr (fA fpSheets (by intro o q p; unfold fpSheets at p; omega)), hsA, hpA, h10.fr (fA fpBest (by intro o q p; unfold fpBest at p; omega)), hruA, hzA, r3, h14.fr (fA fpCues (by intro o q p; unfold fpCues at p; omega)), h15.fr (fA fpTrace (by intro o q p; unfold fpTrace at p; omega))⟩
  obtain ⟨D, T, dl, hT, hd, m1, m2, m3, m4, m5, m6, m7⟩ := mk_M (w := w) h4 h1 hsA hpA hruA
  refine ⟨h, A, D, T, dl, decide ((TKL z h I).length ≤ 2000), h4, hT, hd, r1, m1, RA.fd m2, hzA, hruA, m2, m3, m4, m5, ?_, ?_⟩
  · by_cases c : (TKL z h I).length ≤ 2000
    · rw [(m6 (by rw [eT]; exact c)).2.1]; simp [c, bI]
    · rw [m7 (by rw [eT]; omega)]; simp [c, bI]
  · intro c
    have c : (TKL z h I).length ≤ 2000 := by simpa using c
    obtain ⟨x1, x2, x3⟩ := m6 (by rw [eT]; exact c)
    obtain ⟨⟨g1, g2, g3, g4, g5, g6⟩, g7⟩ := r4 c
    obtain ⟨y1, y2, y3⟩ := g4.1 (by rw [eT]; exact c)
    have e1 : ∀ i, i < T → A (z + 13) i = D (z + 95) i ∧ A (z + 14) i = D (z + 96) i ∧ A (z + 15) i = D (z + 97) i := fun i hi => by
      rw [x1] at hi
      have e := (y3 i hi).symm.trans (x3 i hi)
      injection e with e
      injection e with ea eb
      injection eb with eb ec
      exact ⟨ea, eb, ec⟩
    refine ⟨by rw [y1, x1], x1, e1, fun q i hi => ?_, fun q => g6 (by omega)⟩
    obtain ⟨u1, u2⟩ := g5 (by omega) i (by rw [← x1]; exact hi)
    obtain ⟨v1, v2, _⟩ := m3.2.1 i hi
    rw [u1, u2, v1, v2]
    unfold MX MY
    rw [m2 92 2 (by omega) (by omega), m2 92 3 (by omega) (by omega), mirF_c (T := A (z + 13)) (T' := D (z + 95)) (i + 1) fun j hj => (e1 j (by omega)).1, mirF_c (T := A (z + 14)) (T' := D (z + 96)) (i + 1) fun j hj => (e1 j (by omega)).2.1]
    exact ⟨rfl, rfl⟩
theorem agr_ticks : Agr (Rel z) z (f_X11_ticks (some z)) (f_X12_ticks (some (z + 82))) := by
  rintro ⟨K, I, R, w⟩ hR
  obtain ⟨h, A, D, T, dl, c, hS, hT, hd, r1, r2, RD, hz, hru, fD, tm, e4, e15, e16, hc⟩ := both (wn := 1) hR (by decide)
  have k0 : (K z).1 = 10 + 1 := by rw [kz0 hS]
  have k10 : (K (z + 10)).1 = 6 + 1 := by rw [kz10 hS]
  have k12 : (K (z + 12)).1 = 3 + 1 := by rw [kz12 hS]
  rw [show nI 1 = 1 from rfl] at r1
  refine ⟨if c = true then nI T else -1000003, (K, A, R, w), (K, D, R, w), ?_, k82 hS, ?_, RD⟩
  · unfold f_X11_ticks
    rw [gR_t k0, Option.bind_some, gR_t k0, Option.bind_some, rz0_3 hS, rz0_1 hS, cK_t k10, r1, Option.bind_some]
    cases c with
    | false => simp only [bI_f, if_true]; rfl
    | true => simp only [bI_t, i10, if_false, gR_t k0, gR_t k10, rz0_3 hS, rz10_1 hS, Option.bind_some, gI_t k12, (hc rfl).1]; rfl
  · unfold f_X12_ticks
    rw [pI_t (k82 hS), Option.bind_some, cK_t (k82 hS), r2, Option.bind_some, gI_t (k82 hS), Option.bind_some, e16]
    cases c with
    | false => rw [if_neg (show ¬ bI (!false) = 0 by decide)]; rfl
    | true => rw [if_pos (show bI (!true) = 0 by decide), gI_t (k82 hS), Option.bind_some, e15]; rfl
theorem agr_burn (v1 v2 : Int32) : Agr (Rel z) z (f_X11_burn (some z) v1 v2) (f_X12_burn (some (z + 82)) v1 v2) := by
  rintro ⟨K, I, R, w⟩ hR
  obtain ⟨h, h1, h2, h3, h4, _⟩ := hR.opn
  by_cases c1 : 0 ≤ v1 ∧ v1 ≤ 10
  · by_cases c2 : 0 ≤ v2 ∧ v2 ≤ 10
    · obtain ⟨a, ha, rfl⟩ := ix_le (n := 10) (by decide) c1
      obtain ⟨b, hb, rfl⟩ := ix_le (n := 10) (by decide) c2
      obtain ⟨h, A, D, T, dl, c, hS, hT, hd, r1, r2, RD, hz, hru, fD, tm, e4, e15, e16, hc⟩ := both (wn := 3) hR (by decide)
      have k0 : (K z).1 = 10 + 1 := by rw [kz0 hS]
      have k10 : (K (z + 10)).1 = 6 + 1 := by rw [kz10 hS]
      rw [show nI 3 = 3 from rfl] at r1
      have ha' : a < 11 := by omega
      have hb' : b < 11 := by omega
      refine ⟨if c = true then A (z + (19 + a)) b else -1000003, (K, A, R, w), (K, D, R, w), ?_, k82 hS, ?_, RD⟩
      · unfold f_X11_burn
        rw [isW, Option.bind_some, wi1 c1, if_neg i10, isW, Option.bind_some, wi1 c2, if_neg i10, gR_t k0, Option.bind_some, gR_t k0, Option.bind_some, rz0_3 hS, rz0_1 hS, cK_t k10, r1, Option.bind_some]
        cases c with
        | false => simp only [bI_f, if_true]; rfl
        | true => simp only [bI_t, i10, if_false, gR_t k0, gR_t k10, rz0_3 hS, rz10_4 hS, Option.bind_some, aR_t (kz18 hS) ha' (by decide), rzB hS ha', aI_t (kzB hS ha') hb' (by decide)]; rfl
      · unfold f_X12_burn
        rw [pI_t (k82 hS), Option.bind_some, in_077, Option.bind_some, wi1 c1, if_neg i10, in_077, Option.bind_some, wi1 c2, if_neg i10, cK_t (k82 hS), r2, Option.bind_some, gI_t (k82 hS), Option.bind_some, e16]
        cases c with
        | false => rw [if_neg (show ¬ bI (!false) = 0 by decide)]; rfl
        | true =>
          rw [if_pos (show bI (!true) = 0 by decide), gR_t (k82 hS), Option.bind_some, rz82_23 hS, ix11, aI_t (kz101 hS) (by omega) (by decide), Option.bind_some]
          obtain ⟨y1, y2, y3, y4, y5⟩ := hc rfl
          have su := (y5 (by decide)).2.2.2.2.1 a b ha' hb'
          rw [if_pos rfl, su, tm.2.2 a b ha' hb', ← y2]
          have : burnF z A a b T = cntB (fun j => ML z dl D j && cellF (MX z D j) (MY z D j) a b) T := by
            unfold burnF
            refine cntB_c T fun j hj => ?_
            obtain ⟨u1, u2⟩ := y4 (by decide) j hj
            obtain ⟨v1, v2, _⟩ := tm.2.1 j hj
            have e93 : A (z + 93) = D (z + 93) := funext fun q => (fD 93 q (by omega) (by omega)).symm
            have e94 : A (z + 94) = D (z + 94) := funext fun q => (fD 94 q (by omega) (by omega)).symm
            rw [v1] at u1
            rw [v2] at u2
            have ed : A (z + 92) 4 = nI dl := by rw [← fD 92 4 (by omega) (by omega)]; exact e4
            have ec : comesF dl (A (z + 15)) j = comesF dl (D (z + 97)) j := by
              unfold comesF; rw [(y3 (j - dl) (by omega)).2.2]
            unfold seenF ML MS
            rw [u1, u2, e93, e94, ed, nI_clamp (by omega), ec]
          rw [this]
    · refine ⟨-1000001, (K, I, R, w), (K, up2 I (z + 82) 0 0, R, w), ?_, k82 h4, ?_, hR.thr 0⟩
      · simp only [f_X11_burn, isW, Option.bind_some, wi1 c1, i10, if_false, wi0 c2, if_true]
      · simp only [f_X12_burn, pI_t (k82 h4), Option.bind_some, in_077, wi1 c1, i10, if_false, wi0 c2, if_true]
  · refine ⟨-1000001, (K, I, R, w), (K, up2 I (z + 82) 0 0, R, w), ?_, k82 h4, ?_, hR.thr 0⟩
    · simp only [f_X11_burn, isW, Option.bind_some, wi0 c1, if_true]
    · simp only [f_X12_burn, pI_t (k82 h4), Option.bind_some, in_077, wi0 c1, if_true]
/-- what is seen, shut and lags, in both -/
theorem bth (fD : FD z A J) {T dl : Nat} (tm : TMr z dl J T J) (e4 : J (z + 92) 4 = nI dl) (hd : dl ≤ 5) (y3 : ∀ i, i < T → A (z + 13) i = J (z + 95) i ∧ A (z + 14) i = J (z + 96) i ∧ A (z + 15) i = J (z + 97) i) (y4 : ∀ i, i < T → A (z + 16) i = J (z + 98) i ∧ A (z + 17) i = J (z + 99) i) {j : Nat} (hj : j < T) : shutF (A (z + 93)) (A (z + 94)) (A (z + 16) j) (A (z + 17) j) 4 = MS z J j ∧ comesF dl (A (z + 15)) j = comesF dl (J (z + 97)) j ∧ seenF z A j = ML z dl J j ∧ J (z + 100) j = bI (MS z J j) ∧ lagF z A j = (if J (z + 97) j = 0 then 0 else wayI (J (z + 95) j) (J (z + 96) j) (J (z + 98) j) (J (z + 99) j)) := by
  obtain ⟨u1, u2⟩ := y4 j hj
  obtain ⟨v1, v2, v3⟩ := tm.2.1 j hj
  obtain ⟨p1, p2, p3⟩ := y3 j hj
  have e93 : A (z + 93) = J (z + 93) := funext fun q => (fD 93 q (by omega) (by omega)).symm
  have e94 : A (z + 94) = J (z + 94) := funext fun q => (fD 94 q (by omega) (by omega)).symm
  have ed : A (z + 92) 4 = nI dl := by rw [← fD 92 4 (by omega) (by omega)]; exact e4
  have ec : comesF dl (A (z + 15)) j = comesF dl (J (z + 97)) j := by
    unfold comesF; rw [(y3 (j - dl) (by omega)).2.2]
  have es : shutF (A (z + 93)) (A (z + 94)) (A (z + 16) j) (A (z + 17) j) 4 = MS z J j := by
    unfold MS; rw [u1, u2, v1, v2, e93, e94]
  refine ⟨es, ec, ?_, v3, ?_⟩
  · unfold seenF ML
    rw [es, ed, nI_clamp (by omega), ec]
  · unfold lagF
    rw [p1, p2, p3, u1, u2]
end M5
