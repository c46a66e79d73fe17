section N4
variable {z : Nat} {cy : Nat → ClassId}
theorem iF_sh : ∀ i, i < 8 → lkI iS16 (66 + 2 * i) 1 = -1 ∧ lkI iS16 83 i = -1 ∧ lkI iS16 (66 + 2 * i) 2 = 0 ∧ lkI iS16 84 i = 0 ∧ ∀ j, j < 40 → lkI iS16 (67 + 2 * i) j = lkI iS16 85 (40 * i + j) := by decide +kernel
theorem iF_ru : ∀ k, k < 6 → lkI iS16 11 k = lkI iS16 92 k ∧ lkI iS16 92 k = nI ([50, 1, 8, 10, 0, 40].getD k 0) ∧ (tbL.getD k 0).toNatClampNeg ≤ [50, 1, 8, 10, 0, 40].getD k 0 ∧ [50, 1, 8, 10, 0, 40].getD k 0 ≤ (tbM.getD k 0).toNatClampNeg := by decide +kernel
theorem iF_zo : ∀ k, k < 4 → lkI iS16 35 k = lkI iS16 93 k ∧ lkI iS16 93 k = 0 ∧ ∀ c, c < 4 → lkI iS16 (31 + k) c = lkI iS16 94 (4 * k + c) := by decide +kernel
theorem kF16 : ∀ t ∈ ksl, kL kS16 t.1 = t.2 := by decide +kernel
theorem rF16 : ∀ t ∈ rsl, lkR rS16 t.1 t.2.1 = some t.2.2 := by decide +kernel
theorem Rel_0 (hz : 0 < z) (c4 : ∀ i j : Nat, i < 4 → j < 4 → cy (100 + i) = cy (100 + j) → i = j) (c5 : cy 104 ≠ cy 105) (c6 : ∀ i j : Nat, i < 4 → j < 4 → cy (110 + i) = cy (110 + j) → i = j) : Rel z (CS cy z kS16 iS16 rS16) := by
  have eI : ∀ o k, (CS cy z kS16 iS16 rS16).2.1 (z + o) k = lkI iS16 o k := fun o k => CS_I
  have eR : ∀ o k, (CS cy z kS16 iS16 rS16).2.2.1 (z + o) k = (lkR rS16 o k).map (fun o => z + o) := fun o k => CS_R hz
  have eR0 : ∀ k, (CS cy z kS16 iS16 rS16).2.2.1 0 k = cx cy k := fun k => by
    show (if (0 : Nat) = 0 then cx cy k else if 0 < z then none else (lkR rS16 (0 - z) k).map (fun o => z + o)) = cx cy k
    rw [if_pos rfl]
  have ec : ∀ k, k ≠ 16 → cx cy k = some (cy (100 + k)) := fun k hk => by simp [cx, hk]
  refine ⟨0, by omega, hz, ?_, ⟨fun t ht => ?_, fun t ht => ?_⟩, ⟨?_, fun i j hi hj e => ?_, fun i j hi hj e => ?_⟩, ?_, fun i hi => ?_, ⟨?_, ?_, fun k hk => by omega⟩, fun k hk => by omega, ⟨⟨0, Nat.le_refl 0, ?_⟩, fun q => by omega⟩, ⟨fun k hk => ?_, fun k hk => ?_⟩, fun k hk => ?_, ⟨0, by omega, ?_, fun q => by omega, fun q => by omega, fun q => by omega⟩, ⟨⟨0, by omega, ?_, ?_, fun k hk => by omega⟩, ?_, 38, 51, 0, Or.inl ⟨rfl, rfl⟩, ?_, ?_, by omega, ?_, ?_, fun i hi => by omega, fun i hi => by omega⟩, ⟨0, by omega, ?_, ?_, fun k hk => by omega⟩⟩
  · rw [CS_w, lS16]
  · rw [CS_K]; exact kF16 t ht
  · rw [eR, rF16 t ht]; rfl
  · rw [eR0, eR0, ec 4 (by decide), ec 5 (by decide)]
    intro e
    exact c5 (Option.some.inj e)
  · rw [eR0, eR0, ec i (by omega), ec j (by omega)] at e
    exact c4 i j hi hj (Option.some.inj e)
  · rw [eR0, eR0, ec (10 + i) (by omega), ec (10 + j) (by omega)] at e
    refine c6 i j hi hj ?_
    have := Option.some.inj e
    rw [show 110 + i = 100 + (10 + i) by omega, show 110 + j = 100 + (10 + j) by omega]
    exact this
  · show (CS cy z kS16 iS16 rS16).2.1 (z + 0) 6 = _
    rw [eI, eI]
    decide +kernel
  · obtain ⟨x1, x2, x3, x4, x5⟩ := iF_sh i hi
    rw [eI, eI, eI, eI, x1, x2, x3, x4]
    refine ⟨rfl, rfl, Or.inl rfl, ⟨0, by omega, rfl⟩, fun j hj => ?_⟩
    rw [eI, eI]
    exact x5 j hj
  · rw [eI]; decide +kernel
  · rw [eI]; decide +kernel
  · rw [eI]; decide +kernel
  · rw [eI, eI]; exact (iF_ru k hk).1
  · rw [eI]
    obtain ⟨x1, x2, x3, x4⟩ := iF_ru k hk
    exact ⟨_, x3, x4, x2⟩
  · obtain ⟨x1, x2, x3⟩ := iF_zo k hk
    rw [eI, eI]
    refine ⟨x1, Or.inl x2, fun c hc => ?_⟩
    rw [eI, eI]
    exact x3 c hc
  · rw [eI]; decide +kernel
  · rw [eI]; decide +kernel
  · rw [eI]; decide +kernel
  · rw [eI, eI]; decide +kernel
  · rw [eR]; rfl
  · rw [eR]; rfl
  · rw [eI]; decide +kernel
  · rw [eI]; decide +kernel
  · rw [eI]; decide +kernel
  · rw [eI]; decide +kernel
theorem hpure_0 (b L : Nat) (xs : Nat → Int32) (cy : Nat → ClassId) (z : Nat) (hL : L ≤ 3072) (hz : 0 < z) (c4 : ∀ i j : Nat, i < 4 → j < 4 → cy (100 + i) = cy (100 + j) → i = j) (c5 : cy 104 ≠ cy 105) (c6 : ∀ i j : Nat, i < 4 → j < 4 → cy (110 + i) = cy (110 + j) → i = j) : ∃ S, f_L_law b L xs (S00 cy z) = some (1, S) := by
  obtain ⟨S, hS⟩ := law_pure (Rel := Rel z) (z := z) (fun S hR => by
    obtain ⟨K, I, R, w⟩ := S
    obtain ⟨h, h1, h2, h3, h4, _⟩ := hR.opn
    show (K z).1 = 11
    rw [kz0 h4]) agr_sheet agr_set agr_copy agr_drop agr_stroke agr_point agr_plan agr_best agr_order agr_rule agr_zone agr_open agr_ticks agr_tick agr_all agr_burn agr_feed agr_cues agr_fault agr_frame agr_kind agr_as agr_ask agr_trace agr_count agr_status (b := b) (L := L) (xs := xs) hL FU 0 (CS cy z kS16 iS16 rS16) (Rel_0 hz c4 c5 c6) (by unfold FU; omega) (by omega)
  refine ⟨S, ?_⟩
  have e0 : nw (S00 cy z) 11 0 = CS cy z kS0 iS0 rS0 := by rw [CS_0, nw_C hz (by decide +kernel)]; rfl
  have e1 : nw (CS cy z kS13 iS13 rS13) 12 0 = CS cy z kS14 iS14 rS14 := by rw [nw_C hz (by decide +kernel)]; rfl
  have w0 : (S00 cy z).2.2.2 = z := rfl
  have w1 : (CS cy z kS13 iS13 rS13).2.2.2 = z + 82 := by rw [CS_w, lS13]
  simp only [f_L_law, lt1, e0, w0, in11 hz, Option.bind_some, e1, w1, in12 hz]
  exact hS
end N4
