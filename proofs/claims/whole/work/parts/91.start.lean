theorem va_T0 {ty ty' : FieldType} {t N N' : Nat} {f f' : Nat → Value} {A A' : Nat → Prop} {U U' : State} {H : Heap} (h : va_T ty t N f A U H) (h' : va_T ty' t N' f' A' U' H) (h0 : 0 < N) (h0' : 0 < N') : f 0 = f' 0 := by
  obtain ⟨c, c1, _, _, _, _, c6, _⟩ := h
  obtain ⟨d, d1, _, _, _, _, d6, _⟩ := h'
  have e : c = d := Option.some.inj (c1.symm.trans d1)
  subst e
  exact Option.some.inj ((c6 0 h0).symm.trans (d6 0 h0'))
theorem fb_0 : ∀ i, i < 4 → ∀ j, j < 4 → (stByt.getD i []).getD 0 0 = (stByt.getD j []).getD 0 0 → i = j := by decide +kernel
theorem len_0 : ∀ i, i < 4 → 0 < stLen.getD i 0 := by decide +kernel
theorem tb_0 : ¬ (tbL.getD 0 0) = (tbM.getD 0 0) := by decide +kernel
set_option maxHeartbeats 4000000 in
set_option maxRecDepth 100000 in
theorem whole_start {p : Program} {e : Env} {s : State} {m : MethodId} {below : List Frame} {meth : Method} {c : Code} (l : Launch) (hflags : l.flags = flags0) {b L : Nat} {xs : Nat → Int32} (hL : L ≤ 3072) (C0 : lw_At p s m meth c b L xs) : W p l e room_1 s m #[Value.ref b] below meth c s.heap [] 0 0 (lw_Z below #[Value.ref b] s) (entryFrame m ([Value.ref b] : List Value).toArray 4) := by
  obtain ⟨D, cy, hSf⟩ := start_Sf C0
  obtain ⟨hx, hb, hr, hml, hown, hts, hX, hbl, hlocks, hgv⟩ := C0
  have hst := hSf.2.2.2.1
  have hvS := hst.2.2.2.2.2.2.2.2.2.2
  have c5 : cy 104 ≠ cy 105 := fun q => by
    have h1 := hst.2.2.1
    have h2 := hst.2.2.2.1
    rw [← q] at h2
    have := va_T0 h1 h2 (by decide) (by decide)
    simp only [Value.int.injEq] at this
    exact tb_0 this
  have c6 : ∀ i j : Nat, i < 4 → j < 4 → cy (110 + i) = cy (110 + j) → i = j := fun i j hi hj q => by
    have h1 : va_T .byte (cy (110 + i)) (stLen.getD i 0) (fun k => .int ((stByt.getD i []).getD k 0)) (fun q => s.heap.size ≤ q) s s.heap := (hvS.1 i hi).2.2.2
    have h2 : va_T .byte (cy (110 + j)) (stLen.getD j 0) (fun k => .int ((stByt.getD j []).getD k 0)) (fun q => s.heap.size ≤ q) s s.heap := (hvS.1 j hj).2.2.2
    rw [← q] at h2
    have := va_T0 h1 h2 (len_0 i hi) (len_0 j hj)
    simp only [Value.int.injEq] at this
    exact fb_0 i hi j hj this
  obtain ⟨S, hS⟩ := hpure_0 b L xs cy s.heap.size hL (by omega) hvS.2 c5 c6
  have hl := lv_entry ([.ref b]) (n := 4) (Nat.le_of_ble_eq_true rfl)
  rw [lg_entry_eq]
  have hl : lv_has _ 4 [(0, va_rf (some b))] := hl
  have hw : Wd D cy s.heap (S00 cy s.heap.size) s.heap := ⟨rfl, Nat.le_refl _, fun _ _ => rfl, fun a ha => absurd rfl ha, by omega, fun k hk => rfl⟩
  have key := law_G (Γ := (p, l, e, room_1, s, m, #[Value.ref b], below, meth, c, D, cy, s.heap, 600000, 7302250)) (b := b) (L := L) (xs := xs) ⟨⟨hx, hb, hml, hown, fun w hw => hts w (wsL_law_in w hw)⟩, hlocks, hr, rfl, hSf, rfl, rfl⟩ ⟨hX, hbl⟩ (S00 cy s.heap.size) _ s.heap [] (1, S) hl hw (fun q hq => by cases hq) hS
  refine key.mono fun t ht => ?_
  obtain ⟨o, h1, h2, ⟨ho, -⟩, L2, hF, hL2⟩ := ht
  exact ⟨o, h1, h2, ho, hF.1, hF.2.1, hF.2.2.weaken (fun y hy hlt => absurd hlt (Nat.not_lt.mpr (hL2 y hy))) (Nat.le_refl _) (Nat.le_refl _)⟩
