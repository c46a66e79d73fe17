-- what each part of the invariant looks at (offset, place)
def fpSheets (o _k : Nat) : Prop := (66 ≤ o ∧ o < 82) ∨ (83 ≤ o ∧ o ≤ 85)
def fpStat (o k : Nat) : Prop := (o = 0 ∧ k = 6) ∨ (o = 82 ∧ k = 1)
def fpStrokes (o k : Nat) : Prop := (o = 2 ∧ k = 3) ∨ (o = 82 ∧ k = 5) ∨ (86 ≤ o ∧ o ≤ 88) ∨ 106 ≤ o
def fpPlan (o _k : Nat) : Prop := o = 4 ∨ o = 5 ∨ o = 89 ∨ o = 90
def fpBest (o k : Nat) : Prop := (o = 6 ∧ (k = 3 ∨ k = 4)) ∨ (7 ≤ o ∧ o ≤ 9) ∨ (86 ≤ o ∧ o ≤ 88)
def fpRules (o _k : Nat) : Prop := o = 11 ∨ o = 92
def fpZones (o _k : Nat) : Prop := (31 ≤ o ∧ o ≤ 35) ∨ o = 93 ∨ o = 94
def fpShow (o k : Nat) : Prop := (o = 10 ∧ ((5 ≤ k ∧ k ≤ 9) ∨ k = 12)) ∨ (o = 12 ∧ (k = 3 ∨ k = 4)) ∨ (13 ≤ o ∧ o ≤ 17) ∨ (19 ≤ o ∧ o ≤ 29) ∨ (86 ≤ o ∧ o ≤ 90) ∨ (92 ≤ o ∧ o ≤ 94)
def fpCues (o k : Nat) : Prop := (o = 36 ∧ (1 ≤ k ∧ k ≤ 3)) ∨ (o = 82 ∧ (k = 27 ∨ k = 28 ∨ k = 36)) ∨ o = 37 ∨ (39 ≤ o ∧ o ≤ 50) ∨ (52 ≤ o ∧ o ≤ 63) ∨ o = 102 ∨ o = 103
def fpTrace (o k : Nat) : Prop := (o = 64 ∧ k = 1) ∨ (o = 82 ∧ k = 41) ∨ o = 65 ∨ o = 105
def Fr (fp : Nat → Nat → Prop) (z : Nat) (I J : Nat → Nat → Int32) : Prop := ∀ o k, fp o k → J (z + o) k = I (z + o) k
section FR
variable {z h : Nat} {K : Nat → Nat × Nat} {I J : Nat → Nat → Int32} {R : Nat → Nat → Option Nat}
theorem RSheets.fr (hr : RSheets z I) (e : Fr fpSheets z I J) : RSheets z J := by
  intro i hi
  obtain ⟨h1, h2, h3, h4, h5⟩ := hr i hi
  rw [e (66 + 2 * i) 1 (by unfold fpSheets; omega), e (66 + 2 * i) 2 (by unfold fpSheets; omega), e 83 i (by unfold fpSheets; omega), e 84 i (by unfold fpSheets; omega)]
  refine ⟨h1, h2, h3, h4, fun j hj => ?_⟩
  rw [e (67 + 2 * i) j (by unfold fpSheets; omega), e 85 (40 * i + j) (by unfold fpSheets; omega)]
  exact h5 j hj
theorem RStroke.fr {k n : Nat} (hr : RStroke z K I R k n) (e : Fr fpStrokes z I J) : RStroke z K J R k n := by
  obtain ⟨h1, h2, h3, h4, h5, h6, h7, h8, h9, h10⟩ := hr
  have ex : J (z + (106 + 3 * k)) = I (z + (106 + 3 * k)) := funext fun j => e _ j (by unfold fpStrokes; omega)
  have ey : J (z + (107 + 3 * k)) = I (z + (107 + 3 * k)) := funext fun j => e _ j (by unfold fpStrokes; omega)
  refine ⟨h1, h2, by rw [e 86 k (by unfold fpStrokes; omega)]; exact h3, h4, h5, h6, h7, h8, by rw [ex, ey]; exact h9, fun j hj => ?_⟩
  rw [ex, ey, e 87 (8 * k + j) (by unfold fpStrokes; omega), e 88 (8 * k + j) (by unfold fpStrokes; omega)]
  exact h10 j hj
theorem RStrokes.fr (hr : RStrokes z h K I R) (e : Fr fpStrokes z I J) : RStrokes z h K J R := by
  obtain ⟨h1, h2, h3⟩ := hr
  refine ⟨by rw [e 2 3 (by unfold fpStrokes; omega)]; exact h1, by rw [e 82 5 (by unfold fpStrokes; omega)]; exact h2, fun k hk => ?_⟩
  obtain ⟨n, hn⟩ := h3 k hk
  exact ⟨n, hn.fr e⟩
theorem RPlan.fr (hr : RPlan z h I) (e : Fr fpPlan z I J) : RPlan z h J := by
  intro k hk
  rw [e 4 k (by unfold fpPlan; omega), e 5 k (by unfold fpPlan; omega), e 89 k (by unfold fpPlan; omega), e 90 k (by unfold fpPlan; omega)]
  exact hr k hk
theorem tuX_fr (e86 : J (z + 86) = I (z + 86)) (e87 : J (z + 87) = I (z + 87)) : tuX z J = tuX z I := by funext t; simp only [tuX, e86, e87]
theorem tuY_fr (e86 : J (z + 86) = I (z + 86)) (e88 : J (z + 88) = I (z + 88)) : tuY z J = tuY z I := by funext t; simp only [tuY, e86, e88]
theorem tC_fr (eX : tuX z J = tuX z I) (eY : tuY z J = tuY z I) : tC z J = tC z I := by funext t u; simp only [tC, eX, eY]
theorem tE_fr (eX : tuX z J = tuX z I) (eY : tuY z J = tuY z I) : tE z J = tE z I := by funext t; simp only [tE, eX, eY]
theorem RBest.fr (hr : RBest z h I) (e : Fr fpBest z I J) : RBest z h J := by
  have e86 : J (z + 86) = I (z + 86) := funext fun j => e 86 j (by unfold fpBest; omega)
  have e87 : J (z + 87) = I (z + 87) := funext fun j => e 87 j (by unfold fpBest; omega)
  have e88 : J (z + 88) = I (z + 88) := funext fun j => e 88 j (by unfold fpBest; omega)
  have e7 : J (z + 7) = I (z + 7) := funext fun j => e 7 j (by unfold fpBest; omega)
  have e8 : J (z + 8) = I (z + 8) := funext fun j => e 8 j (by unfold fpBest; omega)
  have e9 : J (z + 9) = I (z + 9) := funext fun j => e 9 j (by unfold fpBest; omega)
  have eX := tuX_fr (z := z) e86 e87
  have eY := tuY_fr (z := z) e86 e88
  unfold RBest at hr ⊢
  rw [e 6 4 (by unfold fpBest; omega), e 6 3 (by unfold fpBest; omega), e7, e8, e9, tC_fr eX eY, tE_fr eX eY, eX, eY]
  exact hr
theorem RRules.fr (hr : RRules z I) (e : Fr fpRules z I J) : RRules z J := by
  have e1 : J (z + 11) = I (z + 11) := funext fun j => e 11 j (by unfold fpRules; omega)
  have e2 : J (z + 92) = I (z + 92) := funext fun j => e 92 j (by unfold fpRules; omega)
  unfold RRules at hr ⊢
  rw [e1, e2]
  exact hr
theorem RZones.fr (hr : RZones z I) (e : Fr fpZones z I J) : RZones z J := by
  intro k hk
  obtain ⟨h1, h2, h3⟩ := hr k hk
  rw [e 35 k (by unfold fpZones; omega), e 93 k (by unfold fpZones; omega)]
  refine ⟨h1, h2, fun c hc => ?_⟩
  rw [e (31 + k) c (by unfold fpZones; omega), e 94 (4 * k + c) (by unfold fpZones; omega)]
  exact h3 c hc
theorem RShow.fr (hr : RShow z h I) (e : Fr fpShow z I J) : RShow z h J := by
  have e13 : J (z + 13) = I (z + 13) := funext fun j => e 13 j (by unfold fpShow; omega)
  have e14 : J (z + 14) = I (z + 14) := funext fun j => e 14 j (by unfold fpShow; omega)
  have e15 : J (z + 15) = I (z + 15) := funext fun j => e 15 j (by unfold fpShow; omega)
  have e16 : J (z + 16) = I (z + 16) := funext fun j => e 16 j (by unfold fpShow; omega)
  have e17 : J (z + 17) = I (z + 17) := funext fun j => e 17 j (by unfold fpShow; omega)
  have e86 : J (z + 86) = I (z + 86) := funext fun j => e 86 j (by unfold fpShow; omega)
  have e87 : J (z + 87) = I (z + 87) := funext fun j => e 87 j (by unfold fpShow; omega)
  have e88 : J (z + 88) = I (z + 88) := funext fun j => e 88 j (by unfold fpShow; omega)
  have e89 : J (z + 89) = I (z + 89) := funext fun j => e 89 j (by unfold fpShow; omega)
  have e90 : J (z + 90) = I (z + 90) := funext fun j => e 90 j (by unfold fpShow; omega)
  have e92 : J (z + 92) = I (z + 92) := funext fun j => e 92 j (by unfold fpShow; omega)
  have e93 : J (z + 93) = I (z + 93) := funext fun j => e 93 j (by unfold fpShow; omega)
  have e94 : J (z + 94) = I (z + 94) := funext fun j => e 94 j (by unfold fpShow; omega)
  have eT : TKL z h J = TKL z h I := by simp only [TKL, e86, e87, e88, e89, e90, e92]
  have eS : seenF z J = seenF z I := by funext i; simp only [seenF, e15, e16, e17, e92, e93, e94]
  have eL : lagF z J = lagF z I := by funext i; simp only [lagF, e13, e14, e15, e16, e17]
  have eB : burnF z J = burnF z I := by funext a b n; simp only [burnF, eS, e16, e17]
  obtain ⟨sg, h1, h2, h3, h4, h5⟩ := hr
  refine ⟨sg, h1, by rw [e 10 12 (by unfold fpShow; omega)]; exact h2, fun q => ?_, fun q => ?_, fun q => ?_⟩
  · have := h3 q
    unfold RPath at this ⊢
    rw [eT, e13, e14, e15, e 12 3 (by unfold fpShow; omega), e 12 4 (by unfold fpShow; omega)]
    exact this
  · have := h4 q
    unfold RMir at this ⊢
    rw [eT, e13, e14, e16, e17, e92]
    exact this
  · have := h5 q
    unfold RSum at this ⊢
    rw [eT, eS, eL, eB, e15, e16, e17, e93, e94, e 10 5 (by unfold fpShow; omega), e 10 6 (by unfold fpShow; omega), e 10 7 (by unfold fpShow; omega), e 10 8 (by unfold fpShow; omega), e 10 9 (by unfold fpShow; omega)]
    intro q2
    obtain ⟨a1, a2, a3, a4, a5, a6⟩ := this q2
    exact ⟨a1, a2, a3, a4, fun a b ha hb => by rw [e (19 + a) b (by unfold fpShow; omega)]; exact a5 a b ha hb, a6⟩
theorem RCues.fr (hr : RCues z I R) (e : Fr fpCues z I J) : RCues z J R := by
  obtain ⟨⟨t, t1, t2, t3, t4⟩, hf, q, p, n, hq, r1, r2, n1, n2, n3, hc, ha⟩ := hr
  refine ⟨⟨t, t1, by rw [e 36 1 (by unfold fpCues; omega)]; exact t2, by rw [e 82 27 (by unfold fpCues; omega)]; exact t3, fun k hk => ?_⟩, by rw [e 36 3 (by unfold fpCues; omega), e 82 28 (by unfold fpCues; omega)]; exact hf, q, p, n, hq, r1, r2, n1, by rw [e 36 2 (by unfold fpCues; omega)]; exact n2, by rw [e 82 36 (by unfold fpCues; omega)]; exact n3, fun i hi => ?_, fun i hi => by rw [e 103 (4 * i) (by unfold fpCues; omega), e 103 (4 * (i + 1)) (by unfold fpCues; omega)]; exact ha i hi⟩
  · rw [e 102 k (by unfold fpCues; omega), e 37 k (by unfold fpCues; omega)]
    exact t4 k hk
  · have e103 : J (z + 103) = I (z + 103) := funext fun j => e 103 j (by unfold fpCues; omega)
    have er : J (z + (q + 1 + i)) = I (z + (q + 1 + i)) := funext fun j => e _ j (by unfold fpCues; omega)
    rw [e103, er]
    exact hc i hi
theorem RTrace.fr (hr : RTrace z I) (e : Fr fpTrace z I J) : RTrace z J := by
  obtain ⟨t, t1, t2, t3, t4⟩ := hr
  refine ⟨t, t1, by rw [e 64 1 (by unfold fpTrace; omega)]; exact t2, by rw [e 82 41 (by unfold fpTrace; omega)]; exact t3, fun k hk => ?_⟩
  rw [e 65 k (by unfold fpTrace; omega), e 105 k (by unfold fpTrace; omega)]
  exact t4 k hk
end FR
/-- what no part looks at may change -/
def fpAll (o k : Nat) : Prop := fpSheets o k ∨ fpStat o k ∨ fpStrokes o k ∨ fpPlan o k ∨ fpBest o k ∨ fpRules o k ∨ fpZones o k ∨ fpShow o k ∨ fpCues o k ∨ fpTrace o k
theorem Rel.fr {z w : Nat} {K : Nat → Nat × Nat} {I J : Nat → Nat → Int32} {R : Nat → Nat → Option Nat} (hr : Rel z (K, I, R, w)) (e : Fr fpAll z I J) : Rel z (K, J, R, w) := by
  obtain ⟨h, h1, h2, h3, h4, h5, h6, h7, h8, h9, h10, h11, h12, h13, h14, h15⟩ := hr
  have e0 : J z 6 = I z 6 := e 0 6 (by unfold fpAll fpStat; omega)
  have e1 : J (z + 82) 1 = I (z + 82) 1 := e 82 1 (by unfold fpAll fpStat; omega)
  exact ⟨h, h1, h2, h3, h4, h5, by show J z 6 = J (z + 82) 1; rw [e0, e1]; exact h6, h7.fr fun o k q => e o k (Or.inl q), h8.fr fun o k q => e o k (by unfold fpAll; simp [q]), h9.fr fun o k q => e o k (by unfold fpAll; simp [q]), h10.fr fun o k q => e o k (by unfold fpAll; simp [q]), h11.fr fun o k q => e o k (by unfold fpAll; simp [q]), h12.fr fun o k q => e o k (by unfold fpAll; simp [q]), h13.fr fun o k q => e o k (by unfold fpAll; simp [q]), h14.fr fun o k q => e o k (by unfold fpAll; simp [q]), h15.fr fun o k q => e o k (by unfold fpAll; simp [q])⟩
