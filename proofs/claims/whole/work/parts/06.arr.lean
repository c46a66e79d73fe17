section AR
variable {α : Type} {Γ : Cx} {cv : α → Option Value × St} {nL cells slots pc : Nat} {lv : List (Nat × Value)} {stk : List Value} {S : St} {cc : ByteArray} {ret : Option FieldType} {Ts : List Cond} {own : String} {rm : Room} {mc ms : Nat}
theorem aI_ok {S : St} {a kd : Nat} {i : Int32} (h : (S.1 a).1 = kd ∧ ¬ (i < 0 ∨ (S.1 a).2 ≤ i.toNatClampNeg)) : aI S (some a) kd i = some (S.2.1 a i.toNatClampNeg) := by
  show (if _ then _ else _) = _
  rw [if_pos h]
theorem aI_no {S : St} {a kd : Nat} {i : Int32} (h : ¬ ((S.1 a).1 = kd ∧ ¬ (i < 0 ∨ (S.1 a).2 ≤ i.toNatClampNeg))) : aI S (some a) kd i = none := by
  show (if _ then _ else _) = _
  rw [if_neg h]
theorem aR_ok {S : St} {a kd : Nat} {i : Int32} (h : (S.1 a).1 = kd ∧ ¬ (i < 0 ∨ (S.1 a).2 ≤ i.toNatClampNeg)) : aR S (some a) kd i = some (S.2.2.1 a i.toNatClampNeg) := by
  show (if _ then _ else _) = _
  rw [if_pos h]
theorem aR_no {S : St} {a kd : Nat} {i : Int32} (h : ¬ ((S.1 a).1 = kd ∧ ¬ (i < 0 ∨ (S.1 a).2 ≤ i.toNatClampNeg))) : aR S (some a) kd i = none := by
  show (if _ then _ else _) = _
  rw [if_neg h]
theorem sI_ok {S : St} {a kd : Nat} {i v : Int32} (h : (S.1 a).1 = kd ∧ ¬ (i < 0 ∨ (S.1 a).2 ≤ i.toNatClampNeg)) : sI S (some a) kd i v = some (S.1, up2 S.2.1 a i.toNatClampNeg (nar kd v), S.2.2) := by
  show (if _ then _ else _) = _
  rw [if_pos h]
theorem sI_no {S : St} {a kd : Nat} {i v : Int32} (h : ¬ ((S.1 a).1 = kd ∧ ¬ (i < 0 ∨ (S.1 a).2 ≤ i.toNatClampNeg))) : sI S (some a) kd i v = none := by
  show (if _ then _ else _) = _
  rw [if_neg h]
theorem g_ild (C : CF Γ cc nL ret Ts own rm mc ms) {r : Option Nat} {i : Int32} {kk : Int32 → Option α} (hd : decode cc pc = .ok (.iaload, 1)) (h : ∀ v, aI S r 14 i = some v → G Γ cv nL cells slots (pc + 1) lv (.int v :: stk) S (kk v)) : G Γ cv nL cells slots pc lv (.int i :: va_rf r :: stk) S ((aI S r 14 i).bind kk) := by
  obtain ⟨p, l, e, R, s, m, args, below, meth, c, D, cy, H0, mc, ms⟩ := Γ
  intro ls H locs o hl hw hco hf
  cases r with
  | none => simp [aI] at hf
  | some a =>
    by_cases hq : (S.1 a).1 = 14 ∧ ¬ (i < 0 ∨ (S.1 a).2 ≤ i.toNatClampNeg)
    · rw [aI_ok hq] at hf
      have hP := hw.one (a := a) (by omega)
      rw [ce_i hq.1 (by decide) (by decide)] at hP
      exact va_iald C.1.1 C.1.2.1 C.2.2.2.2.1.1 hP 0 1 rfl rfl hq.2 hd (h _ (aI_ok hq) ls H locs o hl hw hco hf)
    · rw [aI_no hq] at hf; cases hf
theorem g_bld (C : CF Γ cc nL ret Ts own rm mc ms) {r : Option Nat} {i : Int32} {kk : Int32 → Option α} (hd : decode cc pc = .ok (.baload, 1)) (h : ∀ v, aI S r 13 i = some v → G Γ cv nL cells slots (pc + 1) lv (.int v :: stk) S (kk v)) : G Γ cv nL cells slots pc lv (.int i :: va_rf r :: stk) S ((aI S r 13 i).bind kk) := by
  obtain ⟨p, l, e, R, s, m, args, below, meth, c, D, cy, H0, mc, ms⟩ := Γ
  intro ls H locs o hl hw hco hf
  cases r with
  | none => simp [aI] at hf
  | some a =>
    by_cases hq : (S.1 a).1 = 13 ∧ ¬ (i < 0 ∨ (S.1 a).2 ≤ i.toNatClampNeg)
    · rw [aI_ok hq] at hf
      have hP := hw.one (a := a) (by omega)
      rw [ce_i hq.1 (by decide) (by decide)] at hP
      exact va_bald C.1.1 C.1.2.1 C.2.2.2.2.1.1 hP 0 0 rfl rfl hq.2 hd (h _ (aI_ok hq) ls H locs o hl hw hco hf)
    · rw [aI_no hq] at hf; cases hf
theorem g_zld (C : CF Γ cc nL ret Ts own rm mc ms) {r : Option Nat} {i : Int32} {kk : Int32 → Option α} (hd : decode cc pc = .ok (.baload, 1)) (h : ∀ v, aI S r 15 i = some v → G Γ cv nL cells slots (pc + 1) lv (.int v :: stk) S (kk v)) : G Γ cv nL cells slots pc lv (.int i :: va_rf r :: stk) S ((aI S r 15 i).bind kk) := by
  obtain ⟨p, l, e, R, s, m, args, below, meth, c, D, cy, H0, mc, ms⟩ := Γ
  intro ls H locs o hl hw hco hf
  cases r with
  | none => simp [aI] at hf
  | some a =>
    by_cases hq : (S.1 a).1 = 15 ∧ ¬ (i < 0 ∨ (S.1 a).2 ≤ i.toNatClampNeg)
    · rw [aI_ok hq] at hf
      have hP := hw.one (a := a) (by omega)
      rw [ce_i hq.1 (by decide) (by decide)] at hP
      exact va_zald C.1.1 C.1.2.1 C.2.2.2.2.1.1 hP 0 2 rfl rfl hq.2 hd (h _ (aI_ok hq) ls H locs o hl hw hco hf)
    · rw [aI_no hq] at hf; cases hf
theorem g_ist (C : CF Γ cc nL ret Ts own rm mc ms) {r : Option Nat} {i v : Int32} {kk : St → Option α} (hd : decode cc pc = .ok (.iastore, 1)) (h : ∀ S2, sI S r 14 i v = some S2 → G Γ cv nL cells slots (pc + 1) lv stk S2 (kk S2)) : G Γ cv nL cells slots pc lv (.int v :: .int i :: va_rf r :: stk) S ((sI S r 14 i v).bind kk) := by
  obtain ⟨p, l, e, R, s, m, args, below, meth, c, D, cy, H0, mc, ms⟩ := Γ
  intro ls H locs o hl hw hco hf
  cases r with
  | none => simp [sI] at hf
  | some a =>
    by_cases hq : (S.1 a).1 = 14 ∧ ¬ (i < 0 ∨ (S.1 a).2 ≤ i.toNatClampNeg)
    · rw [sI_ok hq] at hf
      have hA := (hw.2.2.2.1 a (by omega)).1
      have hat := (hw.2.2.2.1 a (by omega)).2
      rw [ce_i hq.1 (by decide) (by decide)] at hat
      have hat : H[a]? = some (arrV (cy 14) (S.1 a).2 (fun j => .int (S.2.1 a j))) := hat
      refine W.iast C.1.1 C.1.2.1 hat ((C.2.2.2.2.1.1.2 1 _ rfl).1 _ _) (fun q => by cases q) (by rw [arrV_size]; exact hq.2) rfl rfl hd fun H2 e2 e3 e4 => ?_
      refine h _ (sI_ok hq) ls H2 _ o hl ?_ (locs_ok hco hA) hf
      refine hw.put (a := a) (by omega) rfl rfl (fun b hb => up2_na _ _ hb) (fun b hb => rfl) e3 e4 ?_
      rw [ce_i (S := (S.1, up2 S.2.1 a i.toNatClampNeg (nar 14 v), S.2.2)) hq.1 (by decide) (by decide)]
      show H2[a]? = some (arrV (cy 14) (S.1 a).2 (fun j => .int (up2 S.2.1 a i.toNatClampNeg (nar 14 v) a j)))
      rw [e2, arrV_store]
      congr 2
      funext j
      by_cases ej : j = i.toNatClampNeg
      · subst ej; simp [updV, up2, nar, vp_nar]; try rfl
      · simp [updV, up2, ej]
    · rw [sI_no hq] at hf; cases hf
theorem g_bst (C : CF Γ cc nL ret Ts own rm mc ms) {r : Option Nat} {i v : Int32} {kk : St → Option α} (hd : decode cc pc = .ok (.bastore, 1)) (h : ∀ S2, sI S r 13 i v = some S2 → G Γ cv nL cells slots (pc + 1) lv stk S2 (kk S2)) : G Γ cv nL cells slots pc lv (.int v :: .int i :: va_rf r :: stk) S ((sI S r 13 i v).bind kk) := by
  obtain ⟨p, l, e, R, s, m, args, below, meth, c, D, cy, H0, mc, ms⟩ := Γ
  intro ls H locs o hl hw hco hf
  cases r with
  | none => simp [sI] at hf
  | some a =>
    by_cases hq : (S.1 a).1 = 13 ∧ ¬ (i < 0 ∨ (S.1 a).2 ≤ i.toNatClampNeg)
    · rw [sI_ok hq] at hf
      have hA := (hw.2.2.2.1 a (by omega)).1
      have hat := (hw.2.2.2.1 a (by omega)).2
      rw [ce_i hq.1 (by decide) (by decide)] at hat
      have hat : H[a]? = some (arrV (cy 13) (S.1 a).2 (fun j => .int (S.2.1 a j))) := hat
      refine W.bast C.1.1 C.1.2.1 hat ((C.2.2.2.2.1.1.2 0 _ rfl).1 _ _) (fun q => by cases q) (by rw [arrV_size]; exact hq.2) rfl rfl hd fun H2 e2 e3 e4 => ?_
      refine h _ (sI_ok hq) ls H2 _ o hl ?_ (locs_ok hco hA) hf
      refine hw.put (a := a) (by omega) rfl rfl (fun b hb => up2_na _ _ hb) (fun b hb => rfl) e3 e4 ?_
      rw [ce_i (S := (S.1, up2 S.2.1 a i.toNatClampNeg (nar 13 v), S.2.2)) hq.1 (by decide) (by decide)]
      show H2[a]? = some (arrV (cy 13) (S.1 a).2 (fun j => .int (up2 S.2.1 a i.toNatClampNeg (nar 13 v) a j)))
      rw [e2, arrV_store]
      congr 2
      funext j
      by_cases ej : j = i.toNatClampNeg
      · subst ej; simp [updV, up2, nar, vp_nar]; try rfl
      · simp [updV, up2, ej]
    · rw [sI_no hq] at hf; cases hf
theorem g_zst (C : CF Γ cc nL ret Ts own rm mc ms) {r : Option Nat} {i v : Int32} {kk : St → Option α} (hd : decode cc pc = .ok (.bastore, 1)) (h : ∀ S2, sI S r 15 i v = some S2 → G Γ cv nL cells slots (pc + 1) lv stk S2 (kk S2)) : G Γ cv nL cells slots pc lv (.int v :: .int i :: va_rf r :: stk) S ((sI S r 15 i v).bind kk) := by
  obtain ⟨p, l, e, R, s, m, args, below, meth, c, D, cy, H0, mc, ms⟩ := Γ
  intro ls H locs o hl hw hco hf
  cases r with
  | none => simp [sI] at hf
  | some a =>
    by_cases hq : (S.1 a).1 = 15 ∧ ¬ (i < 0 ∨ (S.1 a).2 ≤ i.toNatClampNeg)
    · rw [sI_ok hq] at hf
      have hA := (hw.2.2.2.1 a (by omega)).1
      have hat := (hw.2.2.2.1 a (by omega)).2
      rw [ce_i hq.1 (by decide) (by decide)] at hat
      have hat : H[a]? = some (arrV (cy 15) (S.1 a).2 (fun j => .int (S.2.1 a j))) := hat
      refine W.zast C.1.1 C.1.2.1 hat ((C.2.2.2.2.1.1.2 2 _ rfl).1 _ _) (fun q => by cases q) (by rw [arrV_size]; exact hq.2) rfl rfl hd fun H2 e2 e3 e4 => ?_
      refine h _ (sI_ok hq) ls H2 _ o hl ?_ (locs_ok hco hA) hf
      refine hw.put (a := a) (by omega) rfl rfl (fun b hb => up2_na _ _ hb) (fun b hb => rfl) e3 e4 ?_
      rw [ce_i (S := (S.1, up2 S.2.1 a i.toNatClampNeg (nar 15 v), S.2.2)) hq.1 (by decide) (by decide)]
      show H2[a]? = some (arrV (cy 15) (S.1 a).2 (fun j => .int (up2 S.2.1 a i.toNatClampNeg (nar 15 v) a j)))
      rw [e2, arrV_store]
      congr 2
      funext j
      by_cases ej : j = i.toNatClampNeg
      · subst ej; simp [updV, up2, nar, vp_nar]; try rfl
      · simp [updV, up2, ej]
    · rw [sI_no hq] at hf; cases hf
theorem g_ald16 (C : CF Γ cc nL ret Ts own rm mc ms) {r : Option Nat} {i : Int32} {kk : Option Nat → Option α} (hd : decode cc pc = .ok (.aaload, 1)) (h : ∀ v, aR S r 16 i = some v → G Γ cv nL cells slots (pc + 1) lv (va_rf v :: stk) S (kk v)) : G Γ cv nL cells slots pc lv (.int i :: va_rf r :: stk) S ((aR S r 16 i).bind kk) := by
  obtain ⟨p, l, e, R, s, m, args, below, meth, c, D, cy, H0, mc, ms⟩ := Γ
  intro ls H locs o hl hw hco hf
  cases r with
  | none => simp [aR] at hf
  | some a =>
    by_cases hq : (S.1 a).1 = 16 ∧ ¬ (i < 0 ∨ (S.1 a).2 ≤ i.toNatClampNeg)
    · rw [aR_ok hq] at hf
      have hat := (hw.2.2.2.1 a (by omega)).2
      rw [ce_r hq.1 (by decide)] at hat
      have hat : H[a]? = some (arrV (cy 16) (S.1 a).2 (fun j => va_rf (S.2.2.1 a j))) := hat
      have hlt : i.toNatClampNeg < (S.1 a).2 := Nat.not_le.mp fun q => hq.2 (Or.inr q)
      exact W.aald (v := va_rf (S.2.2.1 a i.toNatClampNeg)) C.1.1 C.1.2.1 hat ((C.2.2.2.2.1.1.2 3 _ rfl).1 _ _) rfl (fun q => by cases q) (by rw [arrV_size]; exact hq.2) (by rw [arrV_read _ _ hlt]) rfl rfl hd (h _ (aR_ok hq) ls H locs o hl hw hco hf)
    · rw [aR_no hq] at hf; cases hf
theorem g_ald17 (C : CF Γ cc nL ret Ts own rm mc ms) {r : Option Nat} {i : Int32} {kk : Option Nat → Option α} (hd : decode cc pc = .ok (.aaload, 1)) (h : ∀ v, aR S r 17 i = some v → G Γ cv nL cells slots (pc + 1) lv (va_rf v :: stk) S (kk v)) : G Γ cv nL cells slots pc lv (.int i :: va_rf r :: stk) S ((aR S r 17 i).bind kk) := by
  obtain ⟨p, l, e, R, s, m, args, below, meth, c, D, cy, H0, mc, ms⟩ := Γ
  intro ls H locs o hl hw hco hf
  cases r with
  | none => simp [aR] at hf
  | some a =>
    by_cases hq : (S.1 a).1 = 17 ∧ ¬ (i < 0 ∨ (S.1 a).2 ≤ i.toNatClampNeg)
    · rw [aR_ok hq] at hf
      have hat := (hw.2.2.2.1 a (by omega)).2
      rw [ce_r hq.1 (by decide)] at hat
      have hat : H[a]? = some (arrV (cy 17) (S.1 a).2 (fun j => va_rf (S.2.2.1 a j))) := hat
      have hlt : i.toNatClampNeg < (S.1 a).2 := Nat.not_le.mp fun q => hq.2 (Or.inr q)
      exact W.aald (v := va_rf (S.2.2.1 a i.toNatClampNeg)) C.1.1 C.1.2.1 hat ((C.2.2.2.2.1.1.2 4 _ rfl).1 _ _) rfl (fun q => by cases q) (by rw [arrV_size]; exact hq.2) (by rw [arrV_read _ _ hlt]) rfl rfl hd (h _ (aR_ok hq) ls H locs o hl hw hco hf)
    · rw [aR_no hq] at hf; cases hf
theorem g_ald18 (C : CF Γ cc nL ret Ts own rm mc ms) {r : Option Nat} {i : Int32} {kk : Option Nat → Option α} (hd : decode cc pc = .ok (.aaload, 1)) (h : ∀ v, aR S r 18 i = some v → G Γ cv nL cells slots (pc + 1) lv (va_rf v :: stk) S (kk v)) : G Γ cv nL cells slots pc lv (.int i :: va_rf r :: stk) S ((aR S r 18 i).bind kk) := by
  obtain ⟨p, l, e, R, s, m, args, below, meth, c, D, cy, H0, mc, ms⟩ := Γ
  intro ls H locs o hl hw hco hf
  cases r with
  | none => simp [aR] at hf
  | some a =>
    by_cases hq : (S.1 a).1 = 18 ∧ ¬ (i < 0 ∨ (S.1 a).2 ≤ i.toNatClampNeg)
    · rw [aR_ok hq] at hf
      have hat := (hw.2.2.2.1 a (by omega)).2
      rw [ce_r hq.1 (by decide)] at hat
      have hat : H[a]? = some (arrV (cy 18) (S.1 a).2 (fun j => va_rf (S.2.2.1 a j))) := hat
      have hlt : i.toNatClampNeg < (S.1 a).2 := Nat.not_le.mp fun q => hq.2 (Or.inr q)
      exact W.aald (v := va_rf (S.2.2.1 a i.toNatClampNeg)) C.1.1 C.1.2.1 hat ((C.2.2.2.2.1.1.2 5 _ rfl).1 _ _) rfl (fun q => by cases q) (by rw [arrV_size]; exact hq.2) (by rw [arrV_read _ _ hlt]) rfl rfl hd (h _ (aR_ok hq) ls H locs o hl hw hco hf)
    · rw [aR_no hq] at hf; cases hf
theorem g_len13 (C : CF Γ cc nL ret Ts own rm mc ms) {r : Option Nat} {kk : Int32 → Option α} (hd : decode cc pc = .ok (.arraylength, 1)) (h : ∀ v, aL S r 13 = some v → G Γ cv nL cells slots (pc + 1) lv (.int v :: stk) S (kk v)) : G Γ cv nL cells slots pc lv (va_rf r :: stk) S ((aL S r 13).bind kk) := by
  obtain ⟨p, l, e, R, s, m, args, below, meth, c, D, cy, H0, mc, ms⟩ := Γ
  intro ls H locs o hl hw hco hf
  cases r with
  | none => simp [aL] at hf
  | some a =>
    by_cases hq : (S.1 a).1 = 13
    · have e1 : aL S (some a) 13 = some (Int32.ofNat (S.1 a).2) := by simp [aL, hq]
      rw [e1] at hf
      have hP := hw.one (a := a) (by omega)
      rw [ce_i hq (by decide) (by decide)] at hP
      exact va_alen C.1.1 C.1.2.1 C.2.2.2.2.1.1 hP 0 0 rfl rfl rfl hd (h _ e1 ls H locs o hl hw hco hf)
    · simp [aL, hq] at hf
theorem g_len14 (C : CF Γ cc nL ret Ts own rm mc ms) {r : Option Nat} {kk : Int32 → Option α} (hd : decode cc pc = .ok (.arraylength, 1)) (h : ∀ v, aL S r 14 = some v → G Γ cv nL cells slots (pc + 1) lv (.int v :: stk) S (kk v)) : G Γ cv nL cells slots pc lv (va_rf r :: stk) S ((aL S r 14).bind kk) := by
  obtain ⟨p, l, e, R, s, m, args, below, meth, c, D, cy, H0, mc, ms⟩ := Γ
  intro ls H locs o hl hw hco hf
  cases r with
  | none => simp [aL] at hf
  | some a =>
    by_cases hq : (S.1 a).1 = 14
    · have e1 : aL S (some a) 14 = some (Int32.ofNat (S.1 a).2) := by simp [aL, hq]
      rw [e1] at hf
      have hP := hw.one (a := a) (by omega)
      rw [ce_i hq (by decide) (by decide)] at hP
      exact va_alen C.1.1 C.1.2.1 C.2.2.2.2.1.1 hP 0 1 rfl rfl rfl hd (h _ e1 ls H locs o hl hw hco hf)
    · simp [aL, hq] at hf
end AR
