def mx (x y : Int32) : Int32 := if x < y then y else x
def ab (x : Int32) : Int32 := if 0 ≤ x then x else 0 - x
/-- a stroke's field, whatever kind of stroke it is -/
def gS (S : St) (r : Option Nat) (k : Nat) : Option (Option Nat) := r.bind fun a => if (S.1 a).1 = 2 ∨ (S.1 a).1 = 3 ∨ (S.1 a).1 = 8 then some (S.2.2.1 a k) else none
/-- by the kind of stroke: line, loop, spot -/
def k3 {β : Type} (S : St) (r : Option Nat) (f1 f2 f7 : Option β) : Option β := r.bind fun a => if (S.1 a).1 = 2 then f1 else if (S.1 a).1 = 3 then f2 else if (S.1 a).1 = 8 then f7 else none
def k2 {β : Type} (S : St) (r : Option Nat) (f1 f2 : Option β) : Option β := r.bind fun a => if (S.1 a).1 = 2 then f1 else if (S.1 a).1 = 3 then f2 else none
/-- instanceof, of null or a stroke -/
def iO (S : St) (r : Option Nat) (v1 v2 v7 : Int32) : Option Int32 := if r = none then some 0 else k3 S r (some v1) (some v2) (some v7)
section XR
variable {α β : Type} {Γ : Cx} {cv : α → Option Value × St} {nL cells slots pc : Nat} {lv : List (Nat × Value)} {stk : List Value} {S : St} {f : Option α} {cc : ByteArray} {ret : Option FieldType} {Ts : List Cond} {own : String} {rm : Room} {mc ms : Nat} {r : Option Nat}
theorem g_mmax (C : CF Γ cc nL ret Ts own rm mc ms) {idx : Nat} {x y : Int32} (hd : decode cc pc = .ok (.invokestatic idx, 3)) (h1 : Cond.methodLink own idx Lib.Math.max.name ∈ Ts) (h2 : Cond.static Lib.Math.max.name ∈ Ts) (h3 : Cond.initialized "java/lang/Math" ∈ Ts) (h4 : Cond.code Lib.Math.max.name Lib.Math.max.code 2 (some .int) ∈ Ts) (hR : 1 ≤ rm.frames ∧ 24 ≤ rm.locals) (hcs : cells ≤ rm.cells ∧ slots ≤ rm.slots) (hW : (stk.map fun v => v.category).sum ≤ 8) (h : G Γ cv nL cells slots (pc + 3) lv (.int (mx x y) :: stk) S f) : G Γ cv nL cells slots pc lv (.int y :: .int x :: stk) S f := by
  obtain ⟨p, l, e, R, s, m, args, below, meth, c, D, cy, H0, mc, ms⟩ := Γ
  intro ls H locs o hl hw hc hf
  have hRm : R = rm := C.2.2.2.1
  subst hRm
  exact va_mmax C.1.1 C.1.2.1 (C.1.2.2.1.trans hl.1.symm) C.1.2.2.2.1 (C.1.2.2.2.2 _ h1) (C.1.2.2.2.2 _ h2) (C.1.2.2.2.2 _ h3) (C.1.2.2.2.2 _ h4) hR.1 (by omega) hcs.1 hcs.2 hd (h ls H locs o hl hw hc hf)
theorem g_mmin (C : CF Γ cc nL ret Ts own rm mc ms) {idx : Nat} {x y : Int32} (hd : decode cc pc = .ok (.invokestatic idx, 3)) (h1 : Cond.methodLink own idx Lib.Math.min.name ∈ Ts) (h2 : Cond.static Lib.Math.min.name ∈ Ts) (h3 : Cond.initialized "java/lang/Math" ∈ Ts) (h4 : Cond.code Lib.Math.min.name Lib.Math.min.code 2 (some .int) ∈ Ts) (hR : 1 ≤ rm.frames ∧ 24 ≤ rm.locals) (hcs : cells ≤ rm.cells ∧ slots ≤ rm.slots) (hW : (stk.map fun v => v.category).sum ≤ 8) (h : G Γ cv nL cells slots (pc + 3) lv (.int (if y < x then y else x) :: stk) S f) : G Γ cv nL cells slots pc lv (.int y :: .int x :: stk) S f := by
  obtain ⟨p, l, e, R, s, m, args, below, meth, c, D, cy, H0, mc, ms⟩ := Γ
  intro ls H locs o hl hw hc hf
  have hRm : R = rm := C.2.2.2.1
  subst hRm
  exact va_mmin C.1.1 C.1.2.1 (C.1.2.2.1.trans hl.1.symm) C.1.2.2.2.1 (C.1.2.2.2.2 _ h1) (C.1.2.2.2.2 _ h2) (C.1.2.2.2.2 _ h3) (C.1.2.2.2.2 _ h4) hR.1 (by omega) hcs.1 hcs.2 hd (h ls H locs o hl hw hc hf)
theorem g_mabs (C : CF Γ cc nL ret Ts own rm mc ms) {idx : Nat} {x : Int32} (hd : decode cc pc = .ok (.invokestatic idx, 3)) (h1 : Cond.methodLink own idx Lib.Math.abs.name ∈ Ts) (h2 : Cond.static Lib.Math.abs.name ∈ Ts) (h3 : Cond.initialized "java/lang/Math" ∈ Ts) (h4 : Cond.code Lib.Math.abs.name Lib.Math.abs.code 1 (some .int) ∈ Ts) (hR : 1 ≤ rm.frames ∧ 24 ≤ rm.locals) (hcs : cells ≤ rm.cells ∧ slots ≤ rm.slots) (hW : (stk.map fun v => v.category).sum ≤ 8) (h : G Γ cv nL cells slots (pc + 3) lv (.int (ab x) :: stk) S f) : G Γ cv nL cells slots pc lv (.int x :: stk) S f := by
  obtain ⟨p, l, e, R, s, m, args, below, meth, c, D, cy, H0, mc, ms⟩ := Γ
  intro ls H locs o hl hw hc hf
  have hRm : R = rm := C.2.2.2.1
  subst hRm
  exact va_mabs C.1.1 C.1.2.1 (C.1.2.2.1.trans hl.1.symm) C.1.2.2.2.1 (C.1.2.2.2.2 _ h1) (C.1.2.2.2.2 _ h2) (C.1.2.2.2.2 _ h3) (C.1.2.2.2.2 _ h4) hR.1 (by omega) hcs.1 hcs.2 hd (h ls H locs o hl hw hc hf)
theorem g_getS (C : CF Γ cc nL ret Ts own rm mc ms) {k idx : Nat} {kk : Option Nat → Option α} {ref : String} (hd : decode cc pc = .ok (.getfield idx, 3)) (hk : k < 2) (u1 : ∀ w ∈ u_ws RX1 TX1 2, w ∈ Ts) (u2 : ∀ w ∈ u_ws RX2 TX2 2, w ∈ Ts) (u7 : ∀ w ∈ u_ws RX7 TX7 2, w ∈ Ts) (f1 : Cond.fieldLink own idx ref (TX1 k).2.1 (TX1 k).2.2.1 ∈ Ts) (f2 : Cond.fieldLink own idx ref (TX2 k).2.1 (TX2 k).2.2.1 ∈ Ts) (f7 : Cond.fieldLink own idx ref (TX7 k).2.1 (TX7 k).2.2.1 ∈ Ts) (r1 : (TX1 k).1 = ref) (r2 : (TX2 k).1 = ref) (r7 : (TX7 k).1 = ref) (h : ∀ v, gS S r k = some v → G Γ cv nL cells slots (pc + 3) lv (va_rf v :: stk) S (kk v)) : G Γ cv nL cells slots pc lv (va_rf r :: stk) S ((gS S r k).bind kk) := by
  cases r with
  | none => exact g_none
  | some a =>
    have hkk : k = 0 ∨ k = 1 := by omega
    by_cases h2 : (S.1 a).1 = 2
    · have e : gS S (some a) k = gR S (some a) 1 k := by simp [gS, gR, h2]
      rw [e] at h ⊢
      exact g_getR C (ci := 1) hd rfl (by decide) hk (by rcases hkk with rfl | rfl <;> decide) u1 f1 r1 h
    · by_cases h3 : (S.1 a).1 = 3
      · have e : gS S (some a) k = gR S (some a) 2 k := by simp [gS, gR, h3]
        rw [e] at h ⊢
        exact g_getR C (ci := 2) hd rfl (by decide) hk (by rcases hkk with rfl | rfl <;> decide) u2 f2 r2 h
      · by_cases h8 : (S.1 a).1 = 8
        · have e : gS S (some a) k = gR S (some a) 7 k := by simp [gS, gR, h8]
          rw [e] at h ⊢
          exact g_getR C (ci := 7) hd rfl (by decide) hk (by rcases hkk with rfl | rfl <;> decide) u7 f7 r7 h
        · have e : gS S (some a) k = none := by simp [gS, h2, h3, h8]
          rw [e]
          exact g_none
/-- a virtual call whose receiver is any stroke -/
theorem g_call3 (C : CF Γ cc nL ret Ts own rm mc ms) (As rest : List Value) {cvy : β → Option Value × St} {fy1 fy2 fy7 : Option β} {kk : β → Option α} {n idx : Nat} {y1 y2 y7 x1 x2 x7 : MethodName} {w1 w2 w7 : List Cond} {m1 m2 m7 : Room} {o1 o2 o7 : String} {b1 b2 b7 : ByteArray} {l1 l2 l7 : Nat} {t1 t2 t7 : Option FieldType}
    (M1 : ∀ l D cy H0 o, fy1 = some o → Met l y1 w1 m1 (Pq D cy H0 (va_rf r :: As) S) (Qx D cy H0 (cvy o)) 0 0 (fun q => H0.size ≤ q)) (M2 : ∀ l D cy H0 o, fy2 = some o → Met l y2 w2 m2 (Pq D cy H0 (va_rf r :: As) S) (Qx D cy H0 (cvy o)) 0 0 (fun q => H0.size ≤ q)) (M7 : ∀ l D cy H0 o, fy7 = some o → Met l y7 w7 m7 (Pq D cy H0 (va_rf r :: As) S) (Qx D cy H0 (cvy o)) 0 0 (fun q => H0.size ≤ q)) (hd : decode cc pc = .ok (.invokevirtual idx, 3))
    (c1 : ∀ (R : Room) (s : State) (args : Array Value), (∀ w ∈ Ts, w.before args s = true) → R = rm → va_CU R s args own RX1 o1 idx x1 y1 b1 l1 t1 w1 m1 0 0 n) (c2 : ∀ (R : Room) (s : State) (args : Array Value), (∀ w ∈ Ts, w.before args s = true) → R = rm → va_CU R s args own RX2 o2 idx x2 y2 b2 l2 t2 w2 m2 0 0 n) (c7 : ∀ (R : Room) (s : State) (args : Array Value), (∀ w ∈ Ts, w.before args s = true) → R = rm → va_CU R s args own RX7 o7 idx x7 y7 b7 l7 t7 w7 m7 0 0 n)
    (hcs : cells + 0 ≤ rm.cells ∧ slots + 0 ≤ rm.slots) (hn : As.length = n) (hst : As.reverse ++ va_rf r :: rest = stk) (hW : (rest.map fun v => v.category).sum ≤ 8)
    (h : ∀ o, k3 S r fy1 fy2 fy7 = some o → G Γ cv nL (cells + 0) (slots + 0) (pc + 3) lv ((cvy o).1.toList ++ rest) (cvy o).2 (kk o)) : G Γ cv nL cells slots pc lv stk S ((k3 S r fy1 fy2 fy7).bind kk) := by
  cases r with
  | none => exact g_none
  | some a =>
    by_cases h2 : (S.1 a).1 = 2
    · have e : k3 S (some a) fy1 fy2 fy7 = fy1 := by simp [k3, h2]
      have e2 : fy1.bind kk = cK S (some a) 1 (fy1.bind kk) := by simp [cK, h2]
      rw [e] at h ⊢
      rw [e2]
      exact g_callU C As rest M1 hd c1 hcs (ci := 1) rfl (by decide) hn hst hW h
    · by_cases h3 : (S.1 a).1 = 3
      · have e : k3 S (some a) fy1 fy2 fy7 = fy2 := by simp [k3, h3]
        have e2 : fy2.bind kk = cK S (some a) 2 (fy2.bind kk) := by simp [cK, h3]
        rw [e] at h ⊢
        rw [e2]
        exact g_callU C As rest M2 hd c2 hcs (ci := 2) rfl (by decide) hn hst hW h
      · by_cases h8 : (S.1 a).1 = 8
        · have e : k3 S (some a) fy1 fy2 fy7 = fy7 := by simp [k3, h8]
          have e2 : fy7.bind kk = cK S (some a) 7 (fy7.bind kk) := by simp [cK, h8]
          rw [e] at h ⊢
          rw [e2]
          exact g_callU C As rest M7 hd c7 hcs (ci := 7) rfl (by decide) hn hst hW h
        · have e : k3 S (some a) fy1 fy2 fy7 = none := by simp [k3, h2, h3, h8]
          rw [e]
          exact g_none
theorem g_call2 (C : CF Γ cc nL ret Ts own rm mc ms) (As rest : List Value) {cvy : β → Option Value × St} {fy1 fy2 : Option β} {kk : β → Option α} {n idx : Nat} {y1 y2 x1 x2 : MethodName} {w1 w2 : List Cond} {m1 m2 : Room} {o1 o2 : String} {b1 b2 : ByteArray} {l1 l2 : Nat} {t1 t2 : Option FieldType}
    (M1 : ∀ l D cy H0 o, fy1 = some o → Met l y1 w1 m1 (Pq D cy H0 (va_rf r :: As) S) (Qx D cy H0 (cvy o)) 0 0 (fun q => H0.size ≤ q)) (M2 : ∀ l D cy H0 o, fy2 = some o → Met l y2 w2 m2 (Pq D cy H0 (va_rf r :: As) S) (Qx D cy H0 (cvy o)) 0 0 (fun q => H0.size ≤ q)) (hd : decode cc pc = .ok (.invokevirtual idx, 3))
    (c1 : ∀ (R : Room) (s : State) (args : Array Value), (∀ w ∈ Ts, w.before args s = true) → R = rm → va_CU R s args own RX1 o1 idx x1 y1 b1 l1 t1 w1 m1 0 0 n) (c2 : ∀ (R : Room) (s : State) (args : Array Value), (∀ w ∈ Ts, w.before args s = true) → R = rm → va_CU R s args own RX2 o2 idx x2 y2 b2 l2 t2 w2 m2 0 0 n)
    (hcs : cells + 0 ≤ rm.cells ∧ slots + 0 ≤ rm.slots) (hn : As.length = n) (hst : As.reverse ++ va_rf r :: rest = stk) (hW : (rest.map fun v => v.category).sum ≤ 8)
    (h : ∀ o, k2 S r fy1 fy2 = some o → G Γ cv nL (cells + 0) (slots + 0) (pc + 3) lv ((cvy o).1.toList ++ rest) (cvy o).2 (kk o)) : G Γ cv nL cells slots pc lv stk S ((k2 S r fy1 fy2).bind kk) := by
  cases r with
  | none => exact g_none
  | some a =>
    by_cases h2 : (S.1 a).1 = 2
    · have e : k2 S (some a) fy1 fy2 = fy1 := by simp [k2, h2]
      have e2 : fy1.bind kk = cK S (some a) 1 (fy1.bind kk) := by simp [cK, h2]
      rw [e] at h ⊢
      rw [e2]
      exact g_callU C As rest M1 hd c1 hcs (ci := 1) rfl (by decide) hn hst hW h
    · by_cases h3 : (S.1 a).1 = 3
      · have e : k2 S (some a) fy1 fy2 = fy2 := by simp [k2, h3]
        have e2 : fy2.bind kk = cK S (some a) 2 (fy2.bind kk) := by simp [cK, h3]
        rw [e] at h ⊢
        rw [e2]
        exact g_callU C As rest M2 hd c2 hcs (ci := 2) rfl (by decide) hn hst hW h
      · have e : k2 S (some a) fy1 fy2 = none := by simp [k2, h2, h3]
        rw [e]
        exact g_none
theorem g_call2v (C : CF Γ cc nL ret Ts own rm mc ms) (As rest : List Value) {cvy : β → Option Value × St} {fy1 fy2 : Option β} {kk : β → Option α} {n idx : Nat} {y1 y2 x2 : MethodName} {w1 w1' w2 : List Cond} {m1 m2 : Room} {o2 : String} {b1 b2 : ByteArray} {l1 l2 : Nat} {t1 t2 : Option FieldType}
    (M1 : ∀ l D cy H0 o, fy1 = some o → Met l y1 w1 m1 (Pq D cy H0 (va_rf r :: As) S) (Qx D cy H0 (cvy o)) 0 0 (fun q => H0.size ≤ q)) (M2 : ∀ l D cy H0 o, fy2 = some o → Met l y2 w2 m2 (Pq D cy H0 (va_rf r :: As) S) (Qx D cy H0 (cvy o)) 0 0 (fun q => H0.size ≤ q)) (hd : decode cc pc = .ok (.invokevirtual idx, 3))
    (hg1 : GoodIn Ts (wsV own idx RX1 y1 w1)) (hw1 : w1 = Cond.code y1 b1 l1 t1 :: w1') (hrm1 : m1.cells = 0 ∧ m1.slots = 0) (hy1 : y1.cls = RX1 ∧ y1.cls ≠ "java/lang/invoke/MethodHandle" ∧ y1.cls ≠ "java/lang/invoke/VarHandle" ∧ (parseMethodDescriptor y1.desc).map (fun d => d.parameters.length) = some n) (hR1 : m1.frames + 1 ≤ rm.frames ∧ 8 + (l1 + 11) + m1.locals ≤ rm.locals) (c2 : ∀ (R : Room) (s : State) (args : Array Value), (∀ w ∈ Ts, w.before args s = true) → R = rm → va_CU R s args own RX2 o2 idx x2 y2 b2 l2 t2 w2 m2 0 0 n)
    (hcs : cells + 0 ≤ rm.cells ∧ slots + 0 ≤ rm.slots) (hn : As.length = n) (hst : As.reverse ++ va_rf r :: rest = stk) (hW : (rest.map fun v => v.category).sum ≤ 8)
    (h : ∀ o, k2 S r fy1 fy2 = some o → G Γ cv nL (cells + 0) (slots + 0) (pc + 3) lv ((cvy o).1.toList ++ rest) (cvy o).2 (kk o)) : G Γ cv nL cells slots pc lv stk S ((k2 S r fy1 fy2).bind kk) := by
  cases r with
  | none => exact g_none
  | some a =>
    by_cases h2 : (S.1 a).1 = 2
    · have e : k2 S (some a) fy1 fy2 = fy1 := by simp [k2, h2]
      have e2 : fy1.bind kk = cK S (some a) 1 (fy1.bind kk) := by simp [cK, h2]
      rw [e] at h ⊢
      rw [e2]
      exact g_callV C As rest M1 hd hg1 hw1 hrm1 hy1 hR1 hcs (ci := 1) rfl (by decide) hn hst hW h
    · by_cases h3 : (S.1 a).1 = 3
      · have e : k2 S (some a) fy1 fy2 = fy2 := by simp [k2, h3]
        have e2 : fy2.bind kk = cK S (some a) 2 (fy2.bind kk) := by simp [cK, h3]
        rw [e] at h ⊢
        rw [e2]
        exact g_callU C As rest M2 hd c2 hcs (ci := 2) rfl (by decide) hn hst hW h
      · have e : k2 S (some a) fy1 fy2 = none := by simp [k2, h2, h3]
        rw [e]
        exact g_none
/-- a super call of lines and loops -/
theorem g_callSU2 (C : CF Γ cc nL ret Ts own rm mc ms) (As rest : List Value) {y : MethodName} {wsy wsy' : List Cond} {rmy : Room} {bytes : ByteArray} {maxL n idx : Nat} {rety : Option FieldType} {fy : Option β} {cvy : β → Option Value × St} {kk : β → Option α} (M : ∀ l D cy H0 o, fy = some o → Met l y wsy rmy (Pq D cy H0 (va_rf r :: As) S) (Qx D cy H0 (cvy o)) 0 0 (fun q => H0.size ≤ q)) (hd : decode cc pc = .ok (.invokespecial idx, 3)) (hg : GoodIn Ts (va_wsSU own idx y wsy)) (hw : wsy = Cond.code y bytes maxL rety :: wsy') (hrm : rmy.cells = 0 ∧ rmy.slots = 0) (hy : y.name ≠ "<init>" ∧ (parseMethodDescriptor y.desc).map (fun d => d.parameters.length) = some n) (hR : rmy.frames + 1 ≤ rm.frames ∧ 8 + (maxL + 11) + rmy.locals ≤ rm.locals) (hcs : cells + 0 ≤ rm.cells ∧ slots + 0 ≤ rm.slots) (hn : As.length = n) (hst : As.reverse ++ va_rf r :: rest = stk) (hW : (rest.map fun v => v.category).sum ≤ 8)
    (h : ∀ o, k2 S r fy fy = some o → G Γ cv nL (cells + 0) (slots + 0) (pc + 3) lv ((cvy o).1.toList ++ rest) (cvy o).2 (kk o)) : G Γ cv nL cells slots pc lv stk S ((k2 S r fy fy).bind kk) := by
  cases r with
  | none => exact g_none
  | some a =>
    by_cases h2 : (S.1 a).1 = 2
    · have e : k2 S (some a) fy fy = fy := by simp [k2, h2]
      have e2 : fy.bind kk = cK S (some a) 1 (fy.bind kk) := by simp [cK, h2]
      rw [e] at h ⊢
      rw [e2]
      exact g_callSU C As rest M hd hg hw hrm hy hR hcs (ci := 1) rfl (by decide) hn hst hW h
    · by_cases h3 : (S.1 a).1 = 3
      · have e : k2 S (some a) fy fy = fy := by simp [k2, h3]
        have e2 : fy.bind kk = cK S (some a) 2 (fy.bind kk) := by simp [cK, h3]
        rw [e] at h ⊢
        rw [e2]
        exact g_callSU C As rest M hd hg hw hrm hy hR hcs (ci := 2) rfl (by decide) hn hst hW h
      · have e : k2 S (some a) fy fy = none := by simp [k2, h2, h3]
        rw [e]
        exact g_none
theorem g_instSpot (C : CF Γ cc nL ret Ts own rm mc ms) {idx : Nat} {kk : Int32 → Option α} (hd : decode cc pc = .ok (.instanceof idx, 3)) (hl2 : Cond.classLink own idx RX7 ∈ Ts) (h : ∀ v, iO S r 0 0 1 = some v → G Γ cv nL cells slots (pc + 3) lv (.int v :: stk) S (kk v)) : G Γ cv nL cells slots pc lv (va_rf r :: stk) S ((iO S r 0 0 1).bind kk) := by
  obtain ⟨p, l, e, R, s, m, args, below, meth, c, D, cy, H0, mc, ms⟩ := Γ
  intro ls H locs o hl hw hc hf
  have hcl := C.1.2.2.2.2 _ hl2
  have hS := C.2.2.2.2.1
  cases r with
  | none => exact lv_instN C.1.1 C.1.2.1 hd (h 0 rfl ls H locs o hl hw hc hf)
  | some a =>
    by_cases h2 : (S.1 a).1 = 2
    · have e1 : iO S (some a) 0 0 1 = some 0 := by simp [iO, k3, h2]
      rw [e1] at hf
      exact va_instNo C.1.1 C.1.2.1 C.1.2.2.2.1 hcl hS.2.2.1.2.2.1 (hw.recv hS (ci := 1) h2 (by decide) rfl) hd (h 0 e1 ls H locs o hl hw hc hf)
    · by_cases h3 : (S.1 a).1 = 3
      · have e1 : iO S (some a) 0 0 1 = some 0 := by simp [iO, k3, h3]
        rw [e1] at hf
        exact va_instNo C.1.1 C.1.2.1 C.1.2.2.2.1 hcl hS.2.2.1.2.2.2.1 (hw.recv hS (ci := 2) h3 (by decide) rfl) hd (h 0 e1 ls H locs o hl hw hc hf)
      · by_cases h8 : (S.1 a).1 = 8
        · have e1 : iO S (some a) 0 0 1 = some 1 := by simp [iO, k3, h8]
          rw [e1] at hf
          exact va_instS C.1.1 C.1.2.1 C.1.2.2.2.1 hcl (hS.1.1 7 _ rfl).2 (hw.recv hS (ci := 7) h8 (by decide) rfl) hd (h 1 e1 ls H locs o hl hw hc hf)
        · simp [iO, k3, h2, h3, h8] at hf
theorem g_instLoop (C : CF Γ cc nL ret Ts own rm mc ms) {idx : Nat} {kk : Int32 → Option α} (hd : decode cc pc = .ok (.instanceof idx, 3)) (hl2 : Cond.classLink own idx RX2 ∈ Ts) (h : ∀ v, iO S r 0 1 0 = some v → G Γ cv nL cells slots (pc + 3) lv (.int v :: stk) S (kk v)) : G Γ cv nL cells slots pc lv (va_rf r :: stk) S ((iO S r 0 1 0).bind kk) := by
  obtain ⟨p, l, e, R, s, m, args, below, meth, c, D, cy, H0, mc, ms⟩ := Γ
  intro ls H locs o hl hw hc hf
  have hcl := C.1.2.2.2.2 _ hl2
  have hS := C.2.2.2.2.1
  cases r with
  | none => exact lv_instN C.1.1 C.1.2.1 hd (h 0 rfl ls H locs o hl hw hc hf)
  | some a =>
    by_cases h2 : (S.1 a).1 = 2
    · have e1 : iO S (some a) 0 1 0 = some 0 := by simp [iO, k3, h2]
      rw [e1] at hf
      exact va_instNo C.1.1 C.1.2.1 C.1.2.2.2.1 hcl hS.2.2.1.2.1 (hw.recv hS (ci := 1) h2 (by decide) rfl) hd (h 0 e1 ls H locs o hl hw hc hf)
    · by_cases h3 : (S.1 a).1 = 3
      · have e1 : iO S (some a) 0 1 0 = some 1 := by simp [iO, k3, h3]
        rw [e1] at hf
        exact va_instS C.1.1 C.1.2.1 C.1.2.2.2.1 hcl (hS.1.1 2 _ rfl).2 (hw.recv hS (ci := 2) h3 (by decide) rfl) hd (h 1 e1 ls H locs o hl hw hc hf)
      · by_cases h8 : (S.1 a).1 = 8
        · have e1 : iO S (some a) 0 1 0 = some 0 := by simp [iO, k3, h8]
          rw [e1] at hf
          exact va_instNo C.1.1 C.1.2.1 C.1.2.2.2.1 hcl hS.2.2.1.2.2.2.2.2.1 (hw.recv hS (ci := 7) h8 (by decide) rfl) hd (h 0 e1 ls H locs o hl hw hc hf)
        · simp [iO, k3, h2, h3, h8] at hf
theorem g_instLine (C : CF Γ cc nL ret Ts own rm mc ms) {idx : Nat} {kk : Int32 → Option α} (hd : decode cc pc = .ok (.instanceof idx, 3)) (hl2 : Cond.classLink own idx RX1 ∈ Ts) (h : ∀ v, iO S r 1 1 0 = some v → G Γ cv nL cells slots (pc + 3) lv (.int v :: stk) S (kk v)) : G Γ cv nL cells slots pc lv (va_rf r :: stk) S ((iO S r 1 1 0).bind kk) := by
  obtain ⟨p, l, e, R, s, m, args, below, meth, c, D, cy, H0, mc, ms⟩ := Γ
  intro ls H locs o hl hw hc hf
  have hcl := C.1.2.2.2.2 _ hl2
  have hS := C.2.2.2.2.1
  cases r with
  | none => exact lv_instN C.1.1 C.1.2.1 hd (h 0 rfl ls H locs o hl hw hc hf)
  | some a =>
    by_cases h2 : (S.1 a).1 = 2
    · have e1 : iO S (some a) 1 1 0 = some 1 := by simp [iO, k3, h2]
      rw [e1] at hf
      exact va_instS C.1.1 C.1.2.1 C.1.2.2.2.1 hcl (hS.1.1 1 _ rfl).2 (hw.recv hS (ci := 1) h2 (by decide) rfl) hd (h 1 e1 ls H locs o hl hw hc hf)
    · by_cases h3 : (S.1 a).1 = 3
      · have e1 : iO S (some a) 1 1 0 = some 1 := by simp [iO, k3, h3]
        rw [e1] at hf
        exact va_instY C.1.1 C.1.2.1 C.1.2.2.2.1 hcl hS.2.2.1.1 (hw.recv hS (ci := 2) h3 (by decide) rfl) hd (h 1 e1 ls H locs o hl hw hc hf)
      · by_cases h8 : (S.1 a).1 = 8
        · have e1 : iO S (some a) 1 1 0 = some 0 := by simp [iO, k3, h8]
          rw [e1] at hf
          exact va_instNo C.1.1 C.1.2.1 C.1.2.2.2.1 hcl hS.2.2.1.2.2.2.2.1 (hw.recv hS (ci := 7) h8 (by decide) rfl) hd (h 0 e1 ls H locs o hl hw hc hf)
        · simp [iO, k3, h2, h3, h8] at hf
theorem sR_ok {S : St} {a kd : Nat} {i : Int32} {v : Option Nat} (h : (S.1 a).1 = kd ∧ ¬ (i < 0 ∨ (S.1 a).2 ≤ i.toNatClampNeg)) : sR S (some a) kd i v = some (S.1, S.2.1, up2 S.2.2.1 a i.toNatClampNeg v, S.2.2.2) := by
  show (if _ then _ else _) = _
  rw [if_pos h]
theorem sR_no {S : St} {a kd : Nat} {i : Int32} {v : Option Nat} (h : ¬ ((S.1 a).1 = kd ∧ ¬ (i < 0 ∨ (S.1 a).2 ≤ i.toNatClampNeg))) : sR S (some a) kd i v = none := by
  show (if _ then _ else _) = _
  rw [if_neg h]
/-- a reference comes into a row of references -/
theorem g_astE (C : CF Γ cc nL ret Ts own rm mc ms) {kd t0 v : Nat} {E : String} {i : Int32} {kk : St → Option α} (hd : decode cc pc = .ok (.aastore, 1)) (hkd : 16 ≤ kd) (hty : ∀ cy : Nat → ClassId, (tys cy)[t0]? = some (cy kd, .object E)) (hE : ∀ (D : va_G) (cy : Nat → ClassId) (H0 : Heap) (s : State) (H : Heap), Sf D cy H0 s → Wd D cy H0 S H → va_Any E s H v) (h : ∀ S2, sR S r kd i (some v) = some S2 → G Γ cv nL cells slots (pc + 1) lv stk S2 (kk S2)) : G Γ cv nL cells slots pc lv (va_rf (some v) :: .int i :: va_rf r :: stk) S ((sR S r kd i (some v)).bind kk) := by
  obtain ⟨p, l, e, R, s, m, args, below, meth, c, D, cy, H0, mc, ms⟩ := Γ
  intro ls H locs o hl hw hco hf
  cases r with
  | none => simp [sR] at hf
  | some a =>
    by_cases hq : (S.1 a).1 = kd ∧ ¬ (i < 0 ∨ (S.1 a).2 ≤ i.toNatClampNeg)
    · rw [sR_ok hq] at hf
      have hA := (hw.2.2.2.1 a (by omega)).1
      have hat := (hw.2.2.2.1 a (by omega)).2
      rw [ce_r hq.1 hkd] at hat
      have hat : H[a]? = some (arrV (cy kd) (S.1 a).2 (fun j => va_rf (S.2.2.1 a j))) := hat
      have hlt : i.toNatClampNeg < (S.1 a).2 := Nat.not_le.mp fun q => hq.2 (Or.inr q)
      obtain ⟨cellV, g1, g3, ⟨kC, hkC⟩, hasg⟩ := hE D cy H0 s H C.2.2.2.2.1 hw
      obtain ⟨kA, comp, k1, k2, k3, -⟩ := (C.2.2.2.2.1.1.2 t0 _ (hty cy)).2
      obtain ⟨kE, hkE, -⟩ := Vm.findClass_spec k3
      refine W.aast C.1.1 C.1.2.1 hat (fun q h => by cases h) (fun h => by cases h) k1 k2 rfl hkE ⟨fun q => hq.2 (Or.inl q), by rw [arrV_size]; exact hlt⟩ g1 (fun q h => by rw [h] at g3; cases g3) hkC (hasg _ k3) rfl rfl hd fun H2 e2 e3 e4 => ?_
      refine h _ (sR_ok hq) ls H2 _ o hl ?_ (locs_ok hco hA) hf
      refine hw.put (a := a) (by omega) rfl rfl (fun b hb => rfl) (fun b hb => up2_na _ _ hb) e3 e4 ?_
      rw [ce_r (S := (S.1, S.2.1, up2 S.2.2.1 a i.toNatClampNeg (some v), S.2.2.2)) hq.1 hkd]
      show H2[a]? = some (arrV (cy kd) (S.1 a).2 (fun j => va_rf (up2 S.2.2.1 a i.toNatClampNeg (some v) a j)))
      rw [e2, arrV_store]
      congr 2
      funext j
      by_cases ej : j = i.toNatClampNeg
      · subst ej; simp [updV, up2, va_rf]
      · simp [updV, up2, ej]
    · rw [sR_no hq] at hf; cases hf
theorem any_of {S : St} {v ci : Nat} {E Cn : String} {T : u_T} {D : va_G} {cy : Nat → ClassId} {H0 : Heap} {s : State} {H : Heap} (hs : Sf D cy H0 s) (hw : Wd D cy H0 S H) (hq : (S.1 v).1 = ci + 1) (hci : ci ≤ 11) (hc : vwCl[ci]? = some (Cn, T, nF ci)) (hca : va_Nw (.castable Cn E) s) : va_Any E s H v := by
  obtain ⟨cell, h1, h2, h3⟩ := hw.recv hs hq hci hc
  obtain ⟨kC, hkC, -⟩ := Vm.findClass_spec h3
  obtain ⟨c0, t0, f1, f2, f3⟩ := Cond.castable_spec (va_Nw.use (A := #[]) rfl hca)
  refine ⟨cell, h1, h2, ⟨kC, hkC⟩, fun comp h => ?_⟩
  rw [h3] at f1
  rw [h] at f2
  cases f1
  cases f2
  exact f3
/-- a stroke comes into the row of strokes -/
theorem g_ast17 (C : CF Γ cc nL ret Ts own rm mc ms) {w : Option Nat} {i : Int32} {kk : St → Option α} (hd : decode cc pc = .ok (.aastore, 1)) (h : ∀ S2, k3 S w (sR S r 17 i w) (sR S r 17 i w) (sR S r 17 i w) = some S2 → G Γ cv nL cells slots (pc + 1) lv stk S2 (kk S2)) : G Γ cv nL cells slots pc lv (va_rf w :: .int i :: va_rf r :: stk) S ((k3 S w (sR S r 17 i w) (sR S r 17 i w) (sR S r 17 i w)).bind kk) := by
  cases w with
  | none => exact g_none
  | some v =>
    by_cases h2 : (S.1 v).1 = 2
    · have e : k3 S (some v) (sR S r 17 i (some v)) (sR S r 17 i (some v)) (sR S r 17 i (some v)) = sR S r 17 i (some v) := by simp [k3, h2]
      rw [e] at h ⊢
      exact g_astE C (t0 := 4) hd (by decide) (fun _ => rfl) (fun D cy H0 s H hs hw => any_of hs hw (ci := 1) h2 (by decide) rfl hs.2.2.1.2.2.2.2.2.2.1) h
    · by_cases h3 : (S.1 v).1 = 3
      · have e : k3 S (some v) (sR S r 17 i (some v)) (sR S r 17 i (some v)) (sR S r 17 i (some v)) = sR S r 17 i (some v) := by simp [k3, h3]
        rw [e] at h ⊢
        exact g_astE C (t0 := 4) hd (by decide) (fun _ => rfl) (fun D cy H0 s H hs hw => any_of hs hw (ci := 2) h3 (by decide) rfl hs.2.2.1.2.2.2.2.2.2.2.1) h
      · by_cases h8 : (S.1 v).1 = 8
        · have e : k3 S (some v) (sR S r 17 i (some v)) (sR S r 17 i (some v)) (sR S r 17 i (some v)) = sR S r 17 i (some v) := by simp [k3, h8]
          rw [e] at h ⊢
          exact g_astE C (t0 := 4) hd (by decide) (fun _ => rfl) (fun D cy H0 s H hs hw => any_of hs hw (ci := 7) h8 (by decide) rfl hs.2.2.1.2.2.2.2.2.2.2.2) h
        · have e : k3 S (some v) (sR S r 17 i (some v)) (sR S r 17 i (some v)) (sR S r 17 i (some v)) = none := by simp [k3, h2, h3, h8]
          rw [e]
          exact g_none
end XR
