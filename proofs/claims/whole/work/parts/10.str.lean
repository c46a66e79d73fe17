/-- which text constant, which text's row -/
def stK (S : St) (r : Option Nat) : Option Nat := if r = S.2.2.1 0 0 then some 0 else if r = S.2.2.1 0 1 then some 1 else if r = S.2.2.1 0 2 then some 2 else if r = S.2.2.1 0 3 then some 3 else none
def svK (S : St) (r : Option Nat) : Option Nat := if r = S.2.2.1 0 10 then some 0 else if r = S.2.2.1 0 11 then some 1 else if r = S.2.2.1 0 12 then some 2 else if r = S.2.2.1 0 13 then some 3 else none
theorem stK_ok {S : St} {r : Option Nat} {k : Nat} (h : stK S r = some k) : k < 4 ∧ r = S.2.2.1 0 k := by
  unfold stK at h
  split at h
  · cases h; exact ⟨by decide, by assumption⟩
  · split at h
    · cases h; exact ⟨by decide, by assumption⟩
    · split at h
      · cases h; exact ⟨by decide, by assumption⟩
      · split at h
        · cases h; exact ⟨by decide, by assumption⟩
        · cases h
theorem svK_ok {S : St} {r : Option Nat} {k : Nat} (h : svK S r = some k) : k < 4 ∧ r = S.2.2.1 0 (10 + k) := by
  unfold svK at h
  split at h
  · cases h; exact ⟨by decide, by assumption⟩
  · split at h
    · cases h; exact ⟨by decide, by assumption⟩
    · split at h
      · cases h; exact ⟨by decide, by assumption⟩
      · split at h
        · cases h; exact ⟨by decide, by assumption⟩
        · cases h
def gSv (S : St) (r : Option Nat) : Option (Option Nat) := (stK S r).bind fun k => some (S.2.2.1 0 (10 + k))
def gSc (S : St) (r : Option Nat) : Option Int32 := (stK S r).bind fun _ => some 0
def svL (S : St) (r : Option Nat) : Option Int32 := (svK S r).bind fun k => some (Int32.ofNat (stLen.getD k 0))
def svB (S : St) (r : Option Nat) (i : Int32) : Option Int32 := (svK S r).bind fun k => if ¬ (i < 0 ∨ stLen.getD k 0 ≤ i.toNatClampNeg) then some ((stByt.getD k []).getD i.toNatClampNeg 0) else none
/-- the static rows -/
def tbI (S : St) (r : Option Nat) (i : Int32) : Option Int32 := if i < 0 ∨ 6 ≤ i.toNatClampNeg then none else if r = S.2.2.1 0 4 then some (tbL.getD i.toNatClampNeg 0) else if r = S.2.2.1 0 5 then some (tbM.getD i.toNatClampNeg 0) else none
def tbN (S : St) (r : Option Nat) : Option Int32 := if r = S.2.2.1 0 4 ∨ r = S.2.2.1 0 5 then some 6 else none
/-- a char's answer -/
def chr (v : Int32) (S : St) : Option (Int32 × St) := if (v.toUInt32 % 65536).toInt32 = v then some (v, S) else none
/-- items copied -/
def acp (S : St) (r1 : Option Nat) (i : Int32) (r2 : Option Nat) (j n : Int32) : Option St := r1.bind fun a => r2.bind fun b => if (S.1 a).1 = 14 ∧ (S.1 b).1 = 14 ∧ ¬ i < 0 ∧ ¬ j < 0 ∧ ¬ n < 0 ∧ i.toNatClampNeg + n.toNatClampNeg ≤ (S.1 a).2 ∧ j.toNatClampNeg + n.toNatClampNeg ≤ (S.1 b).2 then some (S.1, va_up S.2.1 b (va_cpy (S.2.1 a) (S.2.1 b) i.toNatClampNeg j.toNatClampNeg n.toNatClampNeg), S.2.2) else none
theorem Wd.cst {D : va_G} {cy : Nat → ClassId} {H0 : Heap} {S : St} {H : Heap} (hw : Wd D cy H0 S H) {k : Nat} (hk : k < 20) (h16 : k ≠ 16) : S.2.2.1 0 k = some (cy (100 + k)) := by
  rw [hw.2.2.2.2.2 k hk]
  simp [cx, h16]
theorem Wd.old {D : va_G} {cy : Nat → ClassId} {H0 : Heap} {S : St} {H : Heap} (hw : Wd D cy H0 S H) : ∀ a : Nat, a < H0.size → ¬ (fun q => H0.size ≤ q) a → H[a]? = H0[a]? := fun a h _ => hw.2.2.1 a h
section ST
variable {α β : Type} {Γ : Cx} {cv : α → Option Value × St} {nL cells slots pc : Nat} {lv : List (Nat × Value)} {stk : List Value} {S : St} {f : Option α} {cc : ByteArray} {ret : Option FieldType} {Ts : List Cond} {own : String} {rm : Room} {mc ms : Nat} {r : Option Nat}
theorem g_i2c (C : CF Γ cc nL ret Ts own rm mc ms) {x : Int32} (hd : decode cc pc = .ok (.i2c, 1)) (h : G Γ cv nL cells slots (pc + 1) lv (.int (x.toUInt32 % 65536).toInt32 :: stk) S f) : G Γ cv nL cells slots pc lv (.int x :: stk) S f := by
  obtain ⟨p, l, e, R, s, m, args, below, meth, c, D, cy, H0, mc, ms⟩ := Γ
  intro ls H locs o hl hw hc hf
  exact lv_i2c C.1.1 C.1.2.1 hd rfl (h ls H locs o hl hw hc hf)
theorem g_popi (C : CF Γ cc nL ret Ts own rm mc ms) {x : Int32} (hd : decode cc pc = .ok (.pop, 1)) (h : G Γ cv nL cells slots (pc + 1) lv stk S f) : G Γ cv nL cells slots pc lv (.int x :: stk) S f := by
  obtain ⟨p, l, e, R, s, m, args, below, meth, c, D, cy, H0, mc, ms⟩ := Γ
  intro ls H locs o hl hw hc hf
  exact lv_pop C.1.1 C.1.2.1 hd rfl (h ls H locs o hl hw hc hf)
theorem g_strV (C : CF Γ cc nL ret Ts own rm mc ms) {idx : Nat} {kk : Option Nat → Option α} (hd : decode cc pc = .ok (.getfield idx, 3)) (hlink : Cond.fieldLink own idx "java/lang/String" "value" "[B" ∈ Ts) (h : ∀ v, gSv S r = some v → G Γ cv nL cells slots (pc + 3) lv (va_rf v :: stk) S (kk v)) : G Γ cv nL cells slots pc lv (va_rf r :: stk) S ((gSv S r).bind kk) := by
  obtain ⟨p, l, e, R, s, m, args, below, meth, c, D, cy, H0, mc, ms⟩ := Γ
  intro ls H locs o hl hw hc hf
  obtain ⟨v, e1, e2⟩ := Option.bind_eq_some_iff.mp hf
  obtain ⟨k, e3, e4⟩ := Option.bind_eq_some_iff.mp e1
  obtain ⟨hk, hr⟩ := stK_ok e3
  cases e4
  have hT := (((C.2.2.2.2.1.2.2.2.1).2.2.2.2.2.2.2.2.2.2).kept hw.old).1 k hk
  obtain ⟨-, -, ⟨cf, kf, i, fd, cell, q1, q2, q3, q4, q5, -⟩, -⟩ := hT
  have h9 := h _ e1 ls H locs o hl hw hc e2
  rw [hr, hw.cst (k := k) (by omega) (by omega)]
  rw [hw.cst (k := 10 + k) (by omega) (by omega)] at h9
  rw [show 100 + (10 + k) = 110 + k by omega] at h9
  exact W.getf C.1.1 C.1.2.1 C.1.2.2.2.1 (C.1.2.2.2.2 _ hlink) q1 q2 q3 q4 q5 rfl rfl hd h9
theorem g_strC (C : CF Γ cc nL ret Ts own rm mc ms) {idx : Nat} {kk : Int32 → Option α} (hd : decode cc pc = .ok (.getfield idx, 3)) (hlink : Cond.fieldLink own idx "java/lang/String" "coder" "B" ∈ Ts) (h : ∀ v, gSc S r = some v → G Γ cv nL cells slots (pc + 3) lv (.int v :: stk) S (kk v)) : G Γ cv nL cells slots pc lv (va_rf r :: stk) S ((gSc S r).bind kk) := by
  obtain ⟨p, l, e, R, s, m, args, below, meth, c, D, cy, H0, mc, ms⟩ := Γ
  intro ls H locs o hl hw hc hf
  obtain ⟨v, e1, e2⟩ := Option.bind_eq_some_iff.mp hf
  obtain ⟨k, e3, e4⟩ := Option.bind_eq_some_iff.mp e1
  obtain ⟨hk, hr⟩ := stK_ok e3
  cases e4
  have hT := (((C.2.2.2.2.1.2.2.2.1).2.2.2.2.2.2.2.2.2.2).kept hw.old).1 k hk
  obtain ⟨-, ⟨cf, kf, i, fd, cell, q1, q2, q3, q4, q5, -⟩, -, -⟩ := hT
  have h9 := h _ e1 ls H locs o hl hw hc e2
  rw [hr, hw.cst (k := k) (by omega) (by omega)]
  exact W.getf C.1.1 C.1.2.1 C.1.2.2.2.1 (C.1.2.2.2.2 _ hlink) q1 q2 q3 q4 q5 rfl rfl hd h9
theorem g_strL (C : CF Γ cc nL ret Ts own rm mc ms) {kk : Int32 → Option α} (hd : decode cc pc = .ok (.arraylength, 1)) (h : ∀ v, svL S r = some v → G Γ cv nL cells slots (pc + 1) lv (.int v :: stk) S (kk v)) : G Γ cv nL cells slots pc lv (va_rf r :: stk) S ((svL S r).bind kk) := by
  obtain ⟨p, l, e, R, s, m, args, below, meth, c, D, cy, H0, mc, ms⟩ := Γ
  intro ls H locs o hl hw hc hf
  obtain ⟨v, e1, e2⟩ := Option.bind_eq_some_iff.mp hf
  obtain ⟨k, e3, e4⟩ := Option.bind_eq_some_iff.mp e1
  obtain ⟨hk, hr⟩ := svK_ok e3
  cases e4
  have hT := (((C.2.2.2.2.1.2.2.2.1).2.2.2.2.2.2.2.2.2.2).kept hw.old).1 k hk
  obtain ⟨-, -, -, cell, q1, q2, q3, q4, q5, q6, -⟩ := hT
  have h9 := h _ e1 ls H locs o hl hw hc e2
  rw [hr, hw.cst (k := 10 + k) (by omega) (by omega), show 100 + (10 + k) = 110 + k by omega]
  exact W.alen C.1.1 C.1.2.1 q1 q2 q5 rfl rfl hd h9
theorem g_strB (C : CF Γ cc nL ret Ts own rm mc ms) {i : Int32} {kk : Int32 → Option α} (hd : decode cc pc = .ok (.baload, 1)) (h : ∀ v, svB S r i = some v → G Γ cv nL cells slots (pc + 1) lv (.int v :: stk) S (kk v)) : G Γ cv nL cells slots pc lv (.int i :: va_rf r :: stk) S ((svB S r i).bind kk) := by
  obtain ⟨p, l, e, R, s, m, args, below, meth, c, D, cy, H0, mc, ms⟩ := Γ
  intro ls H locs o hl hw hc hf
  obtain ⟨v, e1, e2⟩ := Option.bind_eq_some_iff.mp hf
  obtain ⟨k, e3, e4⟩ := Option.bind_eq_some_iff.mp e1
  obtain ⟨hk, hr⟩ := svK_ok e3
  by_cases hi : ¬ (i < 0 ∨ stLen.getD k 0 ≤ i.toNatClampNeg)
  · have e4 : some ((stByt.getD k []).getD i.toNatClampNeg 0) = some v := by simpa only [if_pos hi] using e4
    have hT := (((C.2.2.2.2.1.2.2.2.1).2.2.2.2.2.2.2.2.2.2).kept hw.old).1 k hk
    obtain ⟨-, -, -, cell, q1, q2, q3, q4, q5, q6, -⟩ := hT
    have h9 := h _ e1 ls H locs o hl hw hc e2
    rw [hr, hw.cst (k := 10 + k) (by omega) (by omega), show 100 + (10 + k) = 110 + k by omega]
    have hlt : i.toNatClampNeg < stLen.getD k 0 := Nat.not_le.mp fun q => hi (Or.inr q)
    refine W.bald (v := .int v) C.1.1 C.1.2.1 q1 q2 q3 (fun q => ?_) ?_ rfl rfl hd h9
    · rcases q with q | q
      · exact hi (Or.inl q)
      · omega
    · rw [q6 _ hlt, ← Option.some.inj e4]
  · rw [if_neg hi] at e4; cases e4
theorem g_gsCS (C : CF Γ cc nL ret Ts own rm mc ms) {idx : Nat} (hd : decode cc pc = .ok (.getstatic idx, 3)) (hlink : Cond.fieldLink own idx "java/lang/String" "COMPACT_STRINGS" "Z" ∈ Ts) (h : G Γ cv nL cells slots (pc + 3) lv (.int 1 :: stk) S f) : G Γ cv nL cells slots pc lv stk S f := by
  obtain ⟨p, l, e, R, s, m, args, below, meth, c, D, cy, H0, mc, ms⟩ := Γ
  intro ls H locs o hl hw hc hf
  obtain ⟨cf, kf, fi, fd, a, cell, h1, h2, h3, h4, h5, h6, h7, h8⟩ := (C.2.2.2.2.1.2.2.2.1).2.2.2.2.1.kept hw.old
  exact W.gets C.1.1 C.1.2.1 C.1.2.2.2.1 (C.1.2.2.2.2 _ hlink) h1 h2 h3 h4 h5 (fun e => by rw [e] at h6; cases h6) h7 rfl hd (h ls H locs o hl hw hc hf)
theorem g_gsFm (C : CF Γ cc nL ret Ts own rm mc ms) {idx : Nat} (hd : decode cc pc = .ok (.getstatic idx, 3)) (hlink : Cond.fieldLink own idx "jdk/internal/util/Preconditions" "SIOOBE_FORMATTER" "Ljava/util/function/BiFunction;" ∈ Ts) (h : G Γ cv nL cells slots (pc + 3) lv (va_rf (S.2.2.1 0 16) :: stk) S f) : G Γ cv nL cells slots pc lv stk S f := by
  obtain ⟨p, l, e, R, s, m, args, below, meth, c, D, cy, H0, mc, ms⟩ := Γ
  intro ls H locs o hl hw hc hf
  obtain ⟨cf, kf, fi, fd, a, cell, h1, h2, h3, h4, h5, h6, h7, h8⟩ := (C.2.2.2.2.1.2.2.2.1).2.2.2.2.2.1.kept hw.old
  have h9 := h ls H locs o hl hw hc hf
  rw [hw.2.2.2.2.2 16 (by decide)] at h9
  exact W.gets C.1.1 C.1.2.1 C.1.2.2.2.1 (C.1.2.2.2.2 _ hlink) h1 h2 h3 h4 h5 (fun e => by rw [e] at h6; cases h6) h7 rfl hd h9
theorem g_gsL (C : CF Γ cc nL ret Ts own rm mc ms) {idx : Nat} (hd : decode cc pc = .ok (.getstatic idx, 3)) (hlink : Cond.fieldLink own idx "LightLines$Show" "LEAST" "[I" ∈ Ts) (h : G Γ cv nL cells slots (pc + 3) lv (va_rf (S.2.2.1 0 4) :: stk) S f) : G Γ cv nL cells slots pc lv stk S f := by
  obtain ⟨p, l, e, R, s, m, args, below, meth, c, D, cy, H0, mc, ms⟩ := Γ
  intro ls H locs o hl hw hc hf
  obtain ⟨cf, kf, fi, fd, a, cell, h1, h2, h3, h4, h5, h6, h7, h8⟩ := (C.2.2.2.2.1.2.2.2.1).1.kept hw.old
  have h9 := h ls H locs o hl hw hc hf
  rw [hw.cst (k := 4) (by decide) (by decide)] at h9
  exact W.gets C.1.1 C.1.2.1 C.1.2.2.2.1 (C.1.2.2.2.2 _ hlink) h1 h2 h3 h4 h5 (fun e => by rw [e] at h6; cases h6) h7 rfl hd h9
theorem g_gsM (C : CF Γ cc nL ret Ts own rm mc ms) {idx : Nat} (hd : decode cc pc = .ok (.getstatic idx, 3)) (hlink : Cond.fieldLink own idx "LightLines$Show" "MOST" "[I" ∈ Ts) (h : G Γ cv nL cells slots (pc + 3) lv (va_rf (S.2.2.1 0 5) :: stk) S f) : G Γ cv nL cells slots pc lv stk S f := by
  obtain ⟨p, l, e, R, s, m, args, below, meth, c, D, cy, H0, mc, ms⟩ := Γ
  intro ls H locs o hl hw hc hf
  obtain ⟨cf, kf, fi, fd, a, cell, h1, h2, h3, h4, h5, h6, h7, h8⟩ := (C.2.2.2.2.1.2.2.2.1).2.1.kept hw.old
  have h9 := h ls H locs o hl hw hc hf
  rw [hw.cst (k := 5) (by decide) (by decide)] at h9
  exact W.gets C.1.1 C.1.2.1 C.1.2.2.2.1 (C.1.2.2.2.2 _ hlink) h1 h2 h3 h4 h5 (fun e => by rw [e] at h6; cases h6) h7 rfl hd h9
theorem g_tbI (C : CF Γ cc nL ret Ts own rm mc ms) {i : Int32} {kk : Int32 → Option α} (hd : decode cc pc = .ok (.iaload, 1)) (h : ∀ v, tbI S r i = some v → G Γ cv nL cells slots (pc + 1) lv (.int v :: stk) S (kk v)) : G Γ cv nL cells slots pc lv (.int i :: va_rf r :: stk) S ((tbI S r i).bind kk) := by
  obtain ⟨p, l, e, R, s, m, args, below, meth, c, D, cy, H0, mc, ms⟩ := Γ
  intro ls H locs o hl hw hc hf
  obtain ⟨v, e1, e2⟩ := Option.bind_eq_some_iff.mp hf
  have h9 := h _ e1 ls H locs o hl hw hc e2
  unfold tbI at e1
  by_cases hi : i < 0 ∨ 6 ≤ i.toNatClampNeg
  · rw [if_pos hi] at e1; cases e1
  · rw [if_neg hi] at e1
    have hlt : i.toNatClampNeg < 6 := Nat.not_le.mp fun q => hi (Or.inr q)
    by_cases h4 : r = S.2.2.1 0 4
    · rw [if_pos h4] at e1
      obtain ⟨cell, q1, q2, q3, q4, q5, q6, -⟩ := (C.2.2.2.2.1.2.2.2.1).2.2.1.kept hw.old
      rw [h4, hw.cst (k := 4) (by decide) (by decide)]
      refine W.iald (v := .int v) C.1.1 C.1.2.1 q1 q2 q3 (fun q => ?_) ?_ rfl rfl hd h9
      · rcases q with q | q
        · exact hi (Or.inl q)
        · omega
      · rw [q6 _ hlt, ← Option.some.inj e1]
    · rw [if_neg h4] at e1
      by_cases h5 : r = S.2.2.1 0 5
      · rw [if_pos h5] at e1
        obtain ⟨cell, q1, q2, q3, q4, q5, q6, -⟩ := (C.2.2.2.2.1.2.2.2.1).2.2.2.1.kept hw.old
        rw [h5, hw.cst (k := 5) (by decide) (by decide)]
        refine W.iald (v := .int v) C.1.1 C.1.2.1 q1 q2 q3 (fun q => ?_) ?_ rfl rfl hd h9
        · rcases q with q | q
          · exact hi (Or.inl q)
          · omega
        · rw [q6 _ hlt, ← Option.some.inj e1]
      · rw [if_neg h5] at e1; cases e1
theorem g_tbN (C : CF Γ cc nL ret Ts own rm mc ms) {kk : Int32 → Option α} (hd : decode cc pc = .ok (.arraylength, 1)) (h : ∀ v, tbN S r = some v → G Γ cv nL cells slots (pc + 1) lv (.int v :: stk) S (kk v)) : G Γ cv nL cells slots pc lv (va_rf r :: stk) S ((tbN S r).bind kk) := by
  obtain ⟨p, l, e, R, s, m, args, below, meth, c, D, cy, H0, mc, ms⟩ := Γ
  intro ls H locs o hl hw hc hf
  obtain ⟨v, e1, e2⟩ := Option.bind_eq_some_iff.mp hf
  have h9 := h _ e1 ls H locs o hl hw hc e2
  unfold tbN at e1
  by_cases h4 : r = S.2.2.1 0 4
  · rw [if_pos (Or.inl h4)] at e1
    cases e1
    obtain ⟨cell, q1, q2, q3, q4, q5, q6, -⟩ := (C.2.2.2.2.1.2.2.2.1).2.2.1.kept hw.old
    rw [h4, hw.cst (k := 4) (by decide) (by decide)]
    exact W.alen C.1.1 C.1.2.1 q1 q2 q5 rfl rfl hd h9
  · by_cases h5 : r = S.2.2.1 0 5
    · rw [if_pos (Or.inr h5)] at e1
      cases e1
      obtain ⟨cell, q1, q2, q3, q4, q5, q6, -⟩ := (C.2.2.2.2.1.2.2.2.1).2.2.2.1.kept hw.old
      rw [h5, hw.cst (k := 5) (by decide) (by decide)]
      exact W.alen C.1.1 C.1.2.1 q1 q2 q5 rfl rfl hd h9
    · rw [if_neg (by rintro (q | q); exact h4 q; exact h5 q)] at e1; cases e1
theorem g_ldcS (C : CF Γ cc nL ret Ts own rm mc ms) {idx k : Nat} {tx : String} (hd : decode cc pc = .ok (.ldc idx, 2)) (hk : k < 4) (hz : ∀ (D : va_G) (cy : Nat → ClassId) (H0 : Heap) (s : State), Sf D cy H0 s → vk_R own idx tx (cy (100 + k)) s) (h : G Γ cv nL cells slots (pc + 2) lv (va_rf (S.2.2.1 0 k) :: stk) S f) : G Γ cv nL cells slots pc lv stk S f := by
  obtain ⟨p, l, e, R, s, m, args, below, meth, c, D, cy, H0, mc, ms⟩ := Γ
  intro ls H locs o hl hw hc hf
  have h9 := h ls H locs o hl hw hc hf
  rw [hw.cst (k := k) (by omega) (by omega)] at h9
  exact va_ldcS C.1.1 C.1.2.1 C.1.2.2.2.1 (hz D cy H0 s C.2.2.2.2.1) hd h9
theorem g_callStr (C : CF Γ cc nL ret Ts own rm mc ms) (As rest : List Value) {y : MethodName} {wsy wsy' : List Cond} {rmy : Room} {bytes : ByteArray} {maxL mcy msy n idx : Nat} {rety : Option FieldType} {fy : Option β} {cvy : β → Option Value × St} {kk : β → Option α} (M : ∀ l D cy H0 o, fy = some o → Met l y wsy rmy (Pq D cy H0 (va_rf r :: As) S) (Qx D cy H0 (cvy o)) mcy msy (fun q => H0.size ≤ q)) (hd : decode cc pc = .ok (.invokevirtual idx, 3)) (hg : GoodIn Ts (wsV own idx RJ0 y wsy)) (hw : wsy = Cond.code y bytes maxL rety :: wsy') (hrm : rmy.cells = mcy ∧ rmy.slots = msy) (hy : y.cls = RJ0 ∧ y.cls ≠ "java/lang/invoke/MethodHandle" ∧ y.cls ≠ "java/lang/invoke/VarHandle" ∧ (parseMethodDescriptor y.desc).map (fun d => d.parameters.length) = some n) (hR : rmy.frames + 1 ≤ rm.frames ∧ 8 + (maxL + 11) + rmy.locals ≤ rm.locals) (hcs : cells + mcy ≤ rm.cells ∧ slots + msy ≤ rm.slots) (hn : As.length = n) (hst : As.reverse ++ va_rf r :: rest = stk) (hW : (rest.map fun v => v.category).sum ≤ 8)
    (h : ∀ o, fy = some o → G Γ cv nL (cells + mcy) (slots + msy) (pc + 3) lv ((cvy o).1.toList ++ rest) (cvy o).2 (kk o)) : G Γ cv nL cells slots pc lv stk S ((stK S r).bind fun _ => fy.bind kk) := by
  obtain ⟨p, l, e, R, s, m, args, below, meth, c, D, cy, H0, mc, ms⟩ := Γ
  intro ls H locs o hl hw2 hco hf
  obtain ⟨k, e3, hf9⟩ := Option.bind_eq_some_iff.mp hf
  have hf2 : fy.bind kk = some o := hf9
  obtain ⟨hk, hr⟩ := stK_ok e3
  have hRm : R = rm := C.2.2.2.1
  subst hRm
  have hr2 : r = some (cy (100 + k)) := by rw [hr]; exact hw2.cst (by omega) (by omega)
  subst hr2
  have hT := (((C.2.2.2.2.1.2.2.2.1).2.2.2.2.2.2.2.2.2.2).kept hw2.old).1 k hk
  obtain ⟨⟨cell, q1, q2, q3, -⟩, -, -, -⟩ := hT
  exact after_run hf2 (fun o2 e2 => va_runV (As := As) (rest := rest) C.1 (M l D cy H0 o2 e2) (cwV n C.1.2.2.2.2 hg hw hrm.1 hrm.2 hy hR) ⟨fb_Pq D cy H0 _ S, ⟨cell, q1, q2, q3⟩, fun U hU hW3 => at_Pq hw2 C.2.2.2.2.1 hU hW3 _⟩ rfl hn hl.1 hst.symm (lv_room hW) hd hcs) hco (fun o2 e2 e3 H2 locs2 hw3 hco2 => h o2 e2 ls H2 locs2 o hl hw3 hco2 e3)
theorem g_bret (C : CF Γ cc nL (some .byte) Ts own rm mc ms) {v : Int32} (hd : decode cc pc = .ok (.ireturn, 1)) (hcs : cells ≤ mc ∧ slots ≤ ms) : G Γ cvI nL cells slots pc lv [.int v] S (zr v S) := by
  obtain ⟨p, l, e, R, s, m, args, below, meth, c, D, cy, H0, mc2, ms2⟩ := Γ
  intro ls H locs o hl hw hco hf
  have e1 : mc2 = mc := C.2.2.2.2.2.1
  have e2 : ms2 = ms := C.2.2.2.2.2.2
  subst e1; subst e2
  by_cases hv : v = 0 ∨ v = 1
  · have hf : some (v, S) = some o := by simpa [zr, hv] using hf
    cases hf
    refine W.widen hcs.1 hcs.2 ?_
    exact W.zret C.1.1 C.1.2.1 C.2.2.1 (by rcases hv with rfl | rfl <;> rfl) (fun t ht hW => ⟨rfl, by rw [ht]; exact hw⟩) hco hd C.2.1
  · simp [zr, hv] at hf
theorem g_cret (C : CF Γ cc nL (some .char) Ts own rm mc ms) {v : Int32} (hd : decode cc pc = .ok (.ireturn, 1)) (hcs : cells ≤ mc ∧ slots ≤ ms) : G Γ cvI nL cells slots pc lv [.int v] S (chr v S) := by
  obtain ⟨p, l, e, R, s, m, args, below, meth, c, D, cy, H0, mc2, ms2⟩ := Γ
  intro ls H locs o hl hw hco hf
  have e1 : mc2 = mc := C.2.2.2.2.2.1
  have e2 : ms2 = ms := C.2.2.2.2.2.2
  subst e1; subst e2
  by_cases hv : (v.toUInt32 % 65536).toInt32 = v
  · have hf : some (v, S) = some o := by simpa [chr, hv] using hf
    cases hf
    refine W.widen hcs.1 hcs.2 ?_
    exact W.zret C.1.1 C.1.2.1 C.2.2.1 (by have := pk_nc v; rw [hv] at this; exact this) (fun t ht hW => ⟨rfl, by rw [ht]; exact hw⟩) hco hd C.2.1
  · simp [chr, hv] at hf
end ST
