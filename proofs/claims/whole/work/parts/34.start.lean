theorem nest_in : ∀ w ∈ nestW, w ∈ lw_tbl := by decide +kernel
theorem arrOver_A {args : Array Value} {s : State} {t : FieldType} (h : (Cond.arrayOver (.array t)).before args s = true) : ∃ c k comp, s.vm.findClass ("[" ++ (FieldType.array t).toString) = some c ∧ s.vm.classes[c]? = some k ∧ k.kind = .array comp (.array t) := by
  unfold Cond.before Cond.holds at h
  simp only [Cond.value, beq_iff_eq] at h
  cases hc : s.vm.findClass (FieldType.array t).toString with
  | none => simp [hc] at h
  | some comp =>
    simp only [hc, Option.bind_some, Option.bind_eq_some_iff, Option.map_eq_some_iff] at h
    obtain ⟨c, hi, k, hk, hb⟩ := h
    cases hkind : k.kind with
    | array component ty =>
      rw [hkind] at hb
      simp at hb
      exact ⟨c, k, component, hb.2, hk, by rw [hkind, hb.1]⟩
    | _ => rw [hkind] at hb; simp at hb
theorem arrT_of {s : State} {c comp : ClassId} {k : Class} {ty : FieldType} (hk : s.vm.classes[c]? = some k) (hd : k.kind = .array comp ty) : ArrOfT s c ty := fun _ _ => ⟨fun _ h => (by cases h), k, hk, comp, hd⟩
set_option maxHeartbeats 4000000 in
set_option maxRecDepth 100000 in
/-- what holds of the tables and the constants when the law begins -/
theorem start_Sf {p : Program} {s : State} {m : MethodId} {meth : Method} {c : Code} {b L : Nat} {xs : Nat → Int32} (C0 : lw_At p s m meth c b L xs) : ∃ (D : va_G) (cy : Nat → ClassId), Sf D cy s.heap s := by
  obtain ⟨hx, hb, hr, hml, hown, hts, hX, hbl, hlocks, hgv⟩ := C0
  have hg := flat_of_before _ hgv
  have hA : ∀ a : Nat, a < s.heap.size → ¬ (fun q : Nat => s.heap.size ≤ q) a := fun a h => Nat.not_le.mpr h
  obtain ⟨c0, i0, k0⟩ := u_known (C := RX0) (T := TX0) (N := 10) (n := 10) hts inX0 (hts (.instantiable RX0 10) (by decide +kernel))
  obtain ⟨c1, i1, k1⟩ := u_known (C := RX1) (T := TX1) (N := 2) (n := 2) hts inX1 (hts (.instantiable RX1 2) (by decide +kernel))
  obtain ⟨c2, i2, k2⟩ := u_known (C := RX2) (T := TX2) (N := 2) (n := 2) hts inX2 (hts (.instantiable RX2 2) (by decide +kernel))
  obtain ⟨c3, i3, k3⟩ := u_known (C := RX3) (T := TX3) (N := 7) (n := 7) hts inX3 (hts (.instantiable RX3 7) (by decide +kernel))
  obtain ⟨c4, i4, k4⟩ := u_known (C := RX4) (T := TX4) (N := 5) (n := 5) hts inX4 (hts (.instantiable RX4 5) (by decide +kernel))
  obtain ⟨c5, i5, k5⟩ := u_known (C := RX5) (T := TX5) (N := 3) (n := 3) hts inX5 (hts (.instantiable RX5 3) (by decide +kernel))
  obtain ⟨c6, i6, k6⟩ := u_known (C := RX6) (T := TX6) (N := 13) (n := 13) hts inX6 (hts (.instantiable RX6 13) (by decide +kernel))
  obtain ⟨c7, i7, k7⟩ := u_known (C := RX7) (T := TX7) (N := 2) (n := 2) hts inX7 (hts (.instantiable RX7 2) (by decide +kernel))
  obtain ⟨c8, i8, k8⟩ := u_known (C := RX9) (T := TX9) (N := 4) (n := 4) hts inX9 (hts (.instantiable RX9 4) (by decide +kernel))
  obtain ⟨c9, i9, k9⟩ := u_known (C := RX10) (T := TX10) (N := 2) (n := 2) hts inX10 (hts (.instantiable RX10 2) (by decide +kernel))
  obtain ⟨c10, i10, k10⟩ := u_known (C := RX11) (T := TX11) (N := 7) (n := 7) hts inX11 (hts (.instantiable RX11 7) (by decide +kernel))
  obtain ⟨c11, i11, k11⟩ := u_known (C := RX12) (T := TX12) (N := 42) (n := 42) hts inX12 (hts (.instantiable RX12 42) (by decide +kernel))
  obtain ⟨aB, qB, pB, fB, gB, tB⟩ := Cond.arrayClass_spec (hts (.arrayClass .byte) (by decide +kernel))
  obtain ⟨aI9, qI, pI9, fI, gI9, tI⟩ := Cond.arrayClass_spec (hts (.arrayClass .int) (by decide +kernel))
  obtain ⟨aZ, qZ, pZ, fZ, gZ, tZ⟩ := Cond.arrayClass_spec (hts (.arrayClass .boolean) (by decide +kernel))
  have oS := hts (.arrayOver (.object "LightLines$Sheet")) (by decide +kernel)
  have oT := hts (.arrayOver (.object "LightLines$Stroke")) (by decide +kernel)
  have oA := hts (.arrayOver (.array .int)) (by decide +kernel)
  obtain ⟨pS9, aS, qS, eS, -, gS9, tS, fS⟩ := Cond.arrayOver_spec oS
  obtain ⟨pT, aT, qT, eT, -, gT, tT, fT⟩ := Cond.arrayOver_spec oT
  obtain ⟨aA, qA, pA, fA, gA, tA⟩ := arrOver_A oA
  obtain ⟨tL, vL, zL⟩ := va_Tof (N := 6) (f := fun j => .int (tbL.getD j 0)) (A := fun q => s.heap.size ≤ q) (by decide) (hg (.arrayOf (.static "LightLines$Show" "LEAST" "[I") .int) (by decide +kernel)) (va_eqt (hg (.eq (.length (.static "LightLines$Show" "LEAST" "[I")) (.int 6)) (by decide +kernel))) (fun j hj => by
    rcases (show j = 0 ∨ j = 1 ∨ j = 2 ∨ j = 3 ∨ j = 4 ∨ j = 5 by omega) with rfl | rfl | rfl | rfl | rfl | rfl
    · exact va_eqt (hg (.eq (.elem (.static "LightLines$Show" "LEAST" "[I") (.int 0)) (.int 1)) (by decide +kernel))
    · exact va_eqt (hg (.eq (.elem (.static "LightLines$Show" "LEAST" "[I") (.int 1)) (.int 0)) (by decide +kernel))
    · exact va_eqt (hg (.eq (.elem (.static "LightLines$Show" "LEAST" "[I") (.int 2)) (.int 1)) (by decide +kernel))
    · exact va_eqt (hg (.eq (.elem (.static "LightLines$Show" "LEAST" "[I") (.int 3)) (.int 0)) (by decide +kernel))
    · exact va_eqt (hg (.eq (.elem (.static "LightLines$Show" "LEAST" "[I") (.int 4)) (.int 0)) (by decide +kernel))
    · exact va_eqt (hg (.eq (.elem (.static "LightLines$Show" "LEAST" "[I") (.int 5)) (.int 1)) (by decide +kernel))) hA
  obtain ⟨tM, vM, zM⟩ := va_Tof (N := 6) (f := fun j => .int (tbM.getD j 0)) (A := fun q => s.heap.size ≤ q) (by decide) (hg (.arrayOf (.static "LightLines$Show" "MOST" "[I") .int) (by decide +kernel)) (va_eqt (hg (.eq (.length (.static "LightLines$Show" "MOST" "[I")) (.int 6)) (by decide +kernel))) (fun j hj => by
    rcases (show j = 0 ∨ j = 1 ∨ j = 2 ∨ j = 3 ∨ j = 4 ∨ j = 5 by omega) with rfl | rfl | rfl | rfl | rfl | rfl
    · exact va_eqt (hg (.eq (.elem (.static "LightLines$Show" "MOST" "[I") (.int 0)) (.int 1000)) (by decide +kernel))
    · exact va_eqt (hg (.eq (.elem (.static "LightLines$Show" "MOST" "[I") (.int 1)) (.int 5)) (by decide +kernel))
    · exact va_eqt (hg (.eq (.elem (.static "LightLines$Show" "MOST" "[I") (.int 2)) (.int 16)) (by decide +kernel))
    · exact va_eqt (hg (.eq (.elem (.static "LightLines$Show" "MOST" "[I") (.int 3)) (.int 16)) (by decide +kernel))
    · exact va_eqt (hg (.eq (.elem (.static "LightLines$Show" "MOST" "[I") (.int 4)) (.int 5)) (by decide +kernel))
    · exact va_eqt (hg (.eq (.elem (.static "LightLines$Show" "MOST" "[I") (.int 5)) (.int 1000)) (by decide +kernel))) hA
  have sL := va_Zref (A := fun q => s.heap.size ≤ q) (hts (.laysStatic "LightLines$Show" "LEAST" "[I") (by decide +kernel)) (hts (.initialized "LightLines$Show") (by decide +kernel)) vL hA
  have sM := va_Zref (A := fun q => s.heap.size ≤ q) (hts (.laysStatic "LightLines$Show" "MOST" "[I") (by decide +kernel)) (hts (.initialized "LightLines$Show") (by decide +kernel)) vM hA
  have sC := va_Zof (A := fun q => s.heap.size ≤ q) (hts (.laysStatic "java/lang/String" "COMPACT_STRINGS" "Z") (by decide +kernel)) (hts (.initialized "java/lang/String") (by decide +kernel)) (va_eqi (z := 1) (hg (.eq (.static "java/lang/String" "COMPACT_STRINGS" "Z") (.int 1)) (by decide +kernel))) hA
  have sF := va_Zqof (A := fun q => s.heap.size ≤ q) (hts (.laysStatic "jdk/internal/util/Preconditions" "SIOOBE_FORMATTER" "Ljava/util/function/BiFunction;") (by decide +kernel)) (hts (.initialized "jdk/internal/util/Preconditions") (by decide +kernel)) (hg (.isRef (.static "jdk/internal/util/Preconditions" "SIOOBE_FORMATTER" "Ljava/util/function/BiFunction;")) (by decide +kernel)) hA
  have four : ∀ i : Nat, i < 4 → i = 0 ∨ i = 1 ∨ i = 2 ∨ i = 3 := fun i h => by omega
  obtain ⟨adK, adV, hv, hk⟩ := vk_Sof (N := 4) (tm := fun i => .string "LightLines$Cues" ([53, 67, 69, 71].getD i 0)) (len := stLen) (byt := stByt) (A := fun q => s.heap.size ≤ q) (args := #[Value.ref b]) (s := s) (by decide)
    (fun i hi => by rcases four i hi with rfl | rfl | rfl | rfl <;> exact hg _ (by decide +kernel))
    (fun i hi => by rcases four i hi with rfl | rfl | rfl | rfl <;> exact hg _ (by decide +kernel))
    (fun i hi => by rcases four i hi with rfl | rfl | rfl | rfl <;> exact hg _ (by decide +kernel))
    (fun i hi => by rcases four i hi with rfl | rfl | rfl | rfl <;> exact hg _ (by decide +kernel))
    (fun i hi j hj => by
      rcases four i hi with rfl | rfl | rfl | rfl
      · rcases (show j = 0 ∨ j = 1 by have : j < 2 := hj; omega) with rfl | rfl <;> exact hg _ (by decide +kernel)
      · rcases four j hj with rfl | rfl | rfl | rfl <;> exact hg _ (by decide +kernel)
      · rcases four j hj with rfl | rfl | rfl | rfl <;> exact hg _ (by decide +kernel)
      · rcases four j hj with rfl | rfl | rfl | rfl <;> exact hg _ (by decide +kernel))
    (fun i j hi hj hne => by
      rcases four i hi with rfl | rfl | rfl | rfl <;> rcases four j hj with rfl | rfl | rfl | rfl <;> first | exact absurd rfl hne | exact Or.inl (hg _ (by decide +kernel)) | exact Or.inr (hg _ (by decide +kernel))) hA
  obtain ⟨fm, hfm⟩ : ∃ fm : Nat, va_Z "jdk/internal/util/Preconditions" "SIOOBE_FORMATTER" "Ljava/util/function/BiFunction;" (va_rf (if fm = 0 then none else some (fm - 1))) (fun q => s.heap.size ≤ q) s s.heap := by
    rcases sF with h | ⟨t, h⟩
    · exact ⟨0, h⟩
    · exact ⟨t + 1, h⟩
  refine ⟨(fun k => [c0, c1, c2, c3, c4, c5, c6, c7, c8, c9, c10, c11].getD k 0, fun k => [i0, i1, i2, i3, i4, i5, i6, i7, i8, i9, i10, i11].getD k (fun _ => 0)), fun k => if k = 13 then aB else if k = 14 then aI9 else if k = 15 then aZ else if k = 16 then aS else if k = 17 then aT else if k = 18 then aA else if k = 104 then tL else if k = 105 then tM else if k = 116 then fm else if 110 ≤ k then adV (k - 110) else adK (k - 100), ?_⟩
  refine ⟨⟨?_, ?_⟩, ?_, ?_, ?_, ?_⟩
  · intro k q hq
    have hk12 : k < 12 := (List.getElem?_eq_some_iff.mp hq).1
    rcases (show k = 0 ∨ k = 1 ∨ k = 2 ∨ k = 3 ∨ k = 4 ∨ k = 5 ∨ k = 6 ∨ k = 7 ∨ k = 8 ∨ k = 9 ∨ k = 10 ∨ k = 11 by omega) with rfl | rfl | rfl | rfl | rfl | rfl | rfl | rfl | rfl | rfl | rfl | rfl <;> cases hq <;> assumption
  · intro k q hq
    have hk6 : k < 6 := (List.getElem?_eq_some_iff.mp hq).1
    rcases (show k = 0 ∨ k = 1 ∨ k = 2 ∨ k = 3 ∨ k = 4 ∨ k = 5 by omega) with rfl | rfl | rfl | rfl | rfl | rfl <;> cases hq
    · exact ⟨arrT_of gB tB, fB⟩
    · exact ⟨arrT_of gI9 tI, fI⟩
    · exact ⟨arrT_of gZ tZ, fZ⟩
    · exact ⟨arrT_of gS9 tS, qS, pS9, gS9, tS, eS, fS⟩
    · exact ⟨arrT_of gT tT, qT, pT, gT, tT, eT, fT⟩
    · exact ⟨arrT_of gA tA, fA⟩
  · intro w hw
    exact va_Nw.of (nestW_nt w hw) (hts w (nest_in w hw))
  · exact ⟨va_Nw.of rfl (hts (.castable "LightLines$Loop" "LightLines$Line") (by decide +kernel)), va_Nc.of (hg (.not (.castable "LightLines$Line" "LightLines$Loop")) (by decide +kernel)), va_Nc.of (hg (.not (.castable "LightLines$Line" "LightLines$Spot")) (by decide +kernel)), va_Nc.of (hg (.not (.castable "LightLines$Loop" "LightLines$Spot")) (by decide +kernel)), va_Nc.of (hg (.not (.castable "LightLines$Spot" "LightLines$Line")) (by decide +kernel)), va_Nc.of (hg (.not (.castable "LightLines$Spot" "LightLines$Loop")) (by decide +kernel)), va_Nw.of rfl (hts (.castable "LightLines$Line" "LightLines$Stroke") (by decide +kernel)), va_Nw.of rfl (hts (.castable "LightLines$Loop" "LightLines$Stroke") (by decide +kernel)), va_Nw.of rfl (hts (.castable "LightLines$Spot" "LightLines$Stroke") (by decide +kernel))⟩
  · refine ⟨sL, sM, zL, zM, sC, hfm, ?_, ?_, ?_, ?_, ?_⟩
    · exact vk_R.of (hts (.stringRef "LightLines$Cues" 53 "at") (by decide +kernel)) (hk 0 (by decide))
    · exact vk_R.of (hts (.stringRef "LightLines$Cues" 67 "dark") (by decide +kernel)) (hk 1 (by decide))
    · exact vk_R.of (hts (.stringRef "LightLines$Cues" 69 "show") (by decide +kernel)) (hk 2 (by decide))
    · exact vk_R.of (hts (.stringRef "LightLines$Cues" 71 "fade") (by decide +kernel)) (hk 3 (by decide))
    · refine ⟨fun i hi => ?_, fun i j hi hj e => ?_⟩
      · have := hv.1 i hi
        rcases four i hi with rfl | rfl | rfl | rfl <;> exact this
      · refine hv.2 i j hi hj ?_
        rcases four i hi with rfl | rfl | rfl | rfl <;> rcases four j hj with rfl | rfl | rfl | rfl <;> exact e
  · exact ⟨va_AO.of oS, va_AO.of oT, oA⟩
theorem W.mono {p : Program} {l : Launch} {e : Env} {R : Room} {s : State} {m : MethodId} {args : Array Value} {below : List Frame} {meth : Method} {c : Code} {H : Heap} {locs : List Loc} {cells slots : Nat} {Q Q2 : State → Prop} {g : JFrame} (h : W p l e R s m args below meth c H locs cells slots Q g) (hq : ∀ t, Q t → Q2 t) : W p l e R s m args below meth c H locs cells slots Q2 g := fun T hT X => by
  obtain ⟨t, a, b⟩ := h T hT X
  exact ⟨t, a, hq t b⟩
/-- the state in which the law begins -/
def S00 (cy : Nat → ClassId) (z : Nat) : St := (fun _ => (0, 0), fun _ _ => 0, fun a k => if a = 0 then cx cy k else none, z)
set_option maxHeartbeats 4000000 in
set_option maxRecDepth 100000 in
/-- THE LAW, from its entry, if its pure function answers 1 -/
theorem whole_start_open (hpure : ∀ (b L : Nat) (xs : Nat → Int32) (cy : Nat → ClassId) (z : Nat), L ≤ 3072 → 0 < z → (∀ i j : Nat, i < 4 → j < 4 → cy (100 + i) = cy (100 + j) → i = j) → ∃ S, f_L_law b L xs (S00 cy z) = some (1, S)) {p : Program} {e : Env} {s : State} {m : MethodId} {below : List Frame} {meth : Method} {c : Code} (l : Launch) {b L : Nat} {xs : Nat → Int32} (hL : L ≤ 3072) (C0 : lw_At p s m meth c b L xs) : W p l e room_1 s m #[Value.ref b] below meth c s.heap [] 0 0 (lw_Z below #[Value.ref b] s) (entryFrame m ([Value.ref b] : List Value).toArray 4) := by
  obtain ⟨D, cy, hSf⟩ := start_Sf C0
  obtain ⟨hx, hb, hr, hml, hown, hts, hX, hbl, hlocks, hgv⟩ := C0
  obtain ⟨S, hS⟩ := hpure b L xs cy s.heap.size hL (by omega) hSf.2.2.2.1.2.2.2.2.2.2.2.2.2.2.2
  have hl := lv_entry ([.ref b]) (n := 4) (Nat.le_of_ble_eq_true rfl)
  rw [lg_entry_eq]
  have hl : lv_has _ 4 [(0, va_rf (some b))] := hl
  have hw : Wd D cy s.heap (S00 cy s.heap.size) s.heap := ⟨rfl, Nat.le_refl _, fun _ _ => rfl, fun a ha => absurd rfl ha, by omega, fun k hk => rfl⟩
  have key := law_G (Γ := (p, l, e, room_1, s, m, #[Value.ref b], below, meth, c, D, cy, s.heap, 600000, 7302250)) (b := b) (L := L) (xs := xs) ⟨⟨hx, hb, hml, hown, fun w hw => hts w (wsL_law_in w hw)⟩, hlocks, hr, rfl, hSf, rfl, rfl⟩ ⟨hX, hbl⟩ (S00 cy s.heap.size) _ s.heap [] (1, S) hl hw (fun q hq => by cases hq) hS
  refine key.mono fun t ht => ?_
  obtain ⟨o, h1, h2, ⟨ho, -⟩, L2, hF, hL2⟩ := ht
  exact ⟨o, h1, h2, ho, hF.1, hF.2.1, hF.2.2.weaken (fun y hy hlt => absurd hlt (Nat.not_lt.mpr (hL2 y hy))) (Nat.le_refl _) (Nat.le_refl _)⟩
