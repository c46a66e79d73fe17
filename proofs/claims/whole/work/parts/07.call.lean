abbrev cvI : Int32 × St → Option Value × St := fun o => (some (.int o.1), o.2)
abbrev cvJ : Int64 × St → Option Value × St := fun o => (some (.long o.1), o.2)
abbrev cvV : St → Option Value × St := fun o => (none, o)
abbrev cvR : Option Nat × St → Option Value × St := fun o => (some (va_rf o.1), o.2)
/-- a boolean answer -/
def zr (v : Int32) (S : St) : Option (Int32 × St) := if v = 0 ∨ v = 1 then some (v, S) else none
theorem va_rf_cat (r : Option Nat) : (va_rf r).category = 1 := by cases r <;> rfl
theorem fb_Pq (D : va_G) (cy : Nat → ClassId) (H0 : Heap) (av : List Value) (S : St) : FrameBlind (Pq D cy H0 av S) := fun a U g mk q => ⟨q.1, q.2.1, Sf.same (s := U) (U := U.calling g mk a) rfl q.2.2⟩
theorem at_Pq {D : va_G} {cy : Nat → ClassId} {H0 : Heap} {S : St} {s U : State} {H : Heap} (hw : Wd D cy H0 S H) (hs : Sf D cy H0 s) (hU : U.heap = H) (hW : s.WarmedH U.vm) (av : List Value) : Pq D cy H0 av S av.toArray U := ⟨rfl, by rw [hU]; exact hw, hs.warm hW⟩
theorem Wd.recv {D : va_G} {cy : Nat → ClassId} {H0 : Heap} {S : St} {H : Heap} {s : State} {a ci : Nat} {Cn : String} {T : u_T} (hw : Wd D cy H0 S H) (hs : Sf D cy H0 s) (hq : (S.1 a).1 = ci + 1) (hci : ci ≤ 11) (hc : vwCl[ci]? = some (Cn, T, nF ci)) : ∃ cell : Cell, H[a]? = some cell ∧ cell.vm.isStatics = false ∧ s.vm.findClass Cn = some cell.cls := by
  have hP := hw.one (a := a) (by omega)
  rw [ce_o hq hci] at hP
  exact va_recv hs.1 hP (q0 := 0) hc rfl
section CL
variable {p : Program} {l : Launch} {e : Env} {R : Room} {s : State} {m : MethodId} {args : Array Value} {below : List Frame} {meth : Method} {c : Code} {H : Heap} {locs : List Loc} {cells slots : Nat} {Q : State → Prop} {D : va_G} {cy : Nat → ClassId} {H0 : Heap}
/-- behind a call -/
theorem after_run {α β : Type} {mcy msy pc : Nat} {ls : Array Slot} {stk rest : List Value} {a : Array Value} {cvy : β → Option Value × St} {fy : Option β} {kk : β → Option α} {o : α} (hf : fy.bind kk = some o)
    (hrun : ∀ o2, fy = some o2 → va_Run p l e R s m args below meth c H locs cells slots mcy msy (F0 m pc ls stk) rest (Qx D cy H0 (cvy o2) a) (fun q => H0.size ≤ q)) (hc : ∀ q ∈ locs, H0.size ≤ q.base)
    (h : ∀ o2, fy = some o2 → kk o2 = some o → ∀ (H2 : Heap) (locs2 : List Loc), Wd D cy H0 (cvy o2).2 H2 → (∀ q ∈ locs2, H0.size ≤ q.base) → W p l e R s m args below meth c H2 locs2 (cells + mcy) (slots + msy) Q (F0 m (pc + 3) ls ((cvy o2).1.toList ++ rest))) : W p l e R s m args below meth c H locs cells slots Q (F0 m pc ls stk) := by
  obtain ⟨o2, e1, e2⟩ := Option.bind_eq_some_iff.mp hf
  intro T hT X
  obtain ⟨v, st₀, t, T', L, h0, X', hL, e3, e4, ⟨hv, hw2⟩, st⟩ := hrun o2 e1 T hT X
  injection hv with hv
  subst hv
  obtain ⟨t2, a1, b1⟩ := h o2 e1 e2 T'.heap (locs ++ L) (by rw [e3]; exact hw2) (fun q hq => by
    rcases List.mem_append.mp hq with h | h
    · exact hc q h
    · exact hL q h) T' rfl X'
  exact ⟨t2, st t2 a1, b1⟩
end CL
section CR
variable {α β : Type} {Γ : Cx} {cv : α → Option Value × St} {nL cells slots pc : Nat} {lv : List (Nat × Value)} {stk : List Value} {S : St} {cc : ByteArray} {ret : Option FieldType} {Ts : List Cond} {own : String} {rm : Room} {mc ms : Nat} {y : MethodName} {wsy wsy' : List Cond} {rmy : Room} {bytes : ByteArray} {maxL mcy msy n idx ci : Nat} {rety : Option FieldType} {Cn : String} {T : u_T} {r : Option Nat} {fy : Option β} {cvy : β → Option Value × St} {kk : β → Option α}
/-- a virtual call of a method of the receiver's own class -/
theorem g_callV (C : CF Γ cc nL ret Ts own rm mc ms) (As rest : List Value) (M : ∀ l D cy H0 o, fy = some o → Met l y wsy rmy (Pq D cy H0 (va_rf r :: As) S) (Qx D cy H0 (cvy o)) mcy msy (fun q => H0.size ≤ q)) (hd : decode cc pc = .ok (.invokevirtual idx, 3)) (hg : GoodIn Ts (wsV own idx Cn y wsy)) (hw : wsy = Cond.code y bytes maxL rety :: wsy') (hrm : rmy.cells = mcy ∧ rmy.slots = msy) (hy : y.cls = Cn ∧ y.cls ≠ "java/lang/invoke/MethodHandle" ∧ y.cls ≠ "java/lang/invoke/VarHandle" ∧ (parseMethodDescriptor y.desc).map (fun d => d.parameters.length) = some n) (hR : rmy.frames + 1 ≤ rm.frames ∧ 8 + (maxL + 11) + rmy.locals ≤ rm.locals) (hcs : cells + mcy ≤ rm.cells ∧ slots + msy ≤ rm.slots) (hc : vwCl[ci]? = some (Cn, T, nF ci)) (hci : ci ≤ 11) (hn : As.length = n) (hst : As.reverse ++ va_rf r :: rest = stk) (hW : (rest.map fun v => v.category).sum ≤ 8)
    (h : ∀ o, fy = some o → G Γ cv nL (cells + mcy) (slots + msy) (pc + 3) lv ((cvy o).1.toList ++ rest) (cvy o).2 (kk o)) : G Γ cv nL cells slots pc lv stk S (cK S r ci (fy.bind kk)) := by
  obtain ⟨p, l, e, R, s, m, args, below, meth, c, D, cy, H0, mc, ms⟩ := Γ
  intro ls H locs o hl hw2 hco hf
  cases r with
  | none => simp [cK] at hf
  | some a =>
    by_cases hq : (S.1 a).1 = ci + 1
    · have hf : fy.bind kk = some o := by simpa [cK, hq] using hf
      have hRm : R = rm := C.2.2.2.1
      subst hRm
      refine after_run hf (fun o2 e2 => va_runV (As := As) (rest := rest) C.1 (M l D cy H0 o2 e2) (cwV n C.1.2.2.2.2 hg hw hrm.1 hrm.2 hy hR) ⟨fb_Pq D cy H0 _ S, hw2.recv C.2.2.2.2.1 hq hci hc, fun U hU hW3 => at_Pq hw2 C.2.2.2.2.1 hU hW3 _⟩ rfl hn hl.1 hst.symm (lv_room hW) hd hcs) hco (fun o2 e2 e3 H2 locs2 hw3 hco2 => h o2 e2 ls H2 locs2 o hl hw3 hco2 e3)
    · simp [cK, hq] at hf
/-- a virtual call of an inherited method -/
theorem g_callU (C : CF Γ cc nL ret Ts own rm mc ms) (As rest : List Value) {x : MethodName} {owner : String} (M : ∀ l D cy H0 o, fy = some o → Met l y wsy rmy (Pq D cy H0 (va_rf r :: As) S) (Qx D cy H0 (cvy o)) mcy msy (fun q => H0.size ≤ q)) (hd : decode cc pc = .ok (.invokevirtual idx, 3)) (hcw : ∀ (R : Room) (s : State) (args : Array Value), (∀ w ∈ Ts, w.before args s = true) → R = rm → va_CU R s args own Cn owner idx x y bytes maxL rety wsy rmy mcy msy n) (hcs : cells + mcy ≤ rm.cells ∧ slots + msy ≤ rm.slots) (hc : vwCl[ci]? = some (Cn, T, nF ci)) (hci : ci ≤ 11) (hn : As.length = n) (hst : As.reverse ++ va_rf r :: rest = stk) (hW : (rest.map fun v => v.category).sum ≤ 8)
    (h : ∀ o, fy = some o → G Γ cv nL (cells + mcy) (slots + msy) (pc + 3) lv ((cvy o).1.toList ++ rest) (cvy o).2 (kk o)) : G Γ cv nL cells slots pc lv stk S (cK S r ci (fy.bind kk)) := by
  obtain ⟨p, l, e, R, s, m, args, below, meth, c, D, cy, H0, mc, ms⟩ := Γ
  intro ls H locs o hl hw2 hco hf
  cases r with
  | none => simp [cK] at hf
  | some a =>
    by_cases hq : (S.1 a).1 = ci + 1
    · have hf : fy.bind kk = some o := by simpa [cK, hq] using hf
      have hRm : R = rm := C.2.2.2.1
      refine after_run hf (fun o2 e2 => va_runU (As := As) (rest := rest) C.1 (M l D cy H0 o2 e2) (hcw R s args C.1.2.2.2.2 hRm) ⟨fb_Pq D cy H0 _ S, hw2.recv C.2.2.2.2.1 hq hci hc, fun U hU hW3 => at_Pq hw2 C.2.2.2.2.1 hU hW3 _⟩ rfl hn hl.1 hst.symm (lv_room hW) hd (by rw [hRm]; exact hcs)) hco (fun o2 e2 e3 H2 locs2 hw3 hco2 => h o2 e2 ls H2 locs2 o hl hw3 hco2 e3)
    · simp [cK, hq] at hf
/-- a super call -/
theorem g_callSU (C : CF Γ cc nL ret Ts own rm mc ms) (As rest : List Value) (M : ∀ l D cy H0 o, fy = some o → Met l y wsy rmy (Pq D cy H0 (va_rf r :: As) S) (Qx D cy H0 (cvy o)) mcy msy (fun q => H0.size ≤ q)) (hd : decode cc pc = .ok (.invokespecial idx, 3)) (hg : GoodIn Ts (va_wsSU own idx y wsy)) (hw : wsy = Cond.code y bytes maxL rety :: wsy') (hrm : rmy.cells = mcy ∧ rmy.slots = msy) (hy : y.name ≠ "<init>" ∧ (parseMethodDescriptor y.desc).map (fun d => d.parameters.length) = some n) (hR : rmy.frames + 1 ≤ rm.frames ∧ 8 + (maxL + 11) + rmy.locals ≤ rm.locals) (hcs : cells + mcy ≤ rm.cells ∧ slots + msy ≤ rm.slots) (hc : vwCl[ci]? = some (Cn, T, nF ci)) (hci : ci ≤ 11) (hn : As.length = n) (hst : As.reverse ++ va_rf r :: rest = stk) (hW : (rest.map fun v => v.category).sum ≤ 8)
    (h : ∀ o, fy = some o → G Γ cv nL (cells + mcy) (slots + msy) (pc + 3) lv ((cvy o).1.toList ++ rest) (cvy o).2 (kk o)) : G Γ cv nL cells slots pc lv stk S (cK S r ci (fy.bind kk)) := by
  obtain ⟨p, l, e, R, s, m, args, below, meth, c, D, cy, H0, mc, ms⟩ := Γ
  intro ls H locs o hl hw2 hco hf
  cases r with
  | none => simp [cK] at hf
  | some a =>
    by_cases hq : (S.1 a).1 = ci + 1
    · have hf : fy.bind kk = some o := by simpa [cK, hq] using hf
      have hRm : R = rm := C.2.2.2.1
      subst hRm
      refine after_run hf (fun o2 e2 => va_runSU (As := As) (rest := rest) (C.2.2.2.2.1.1.1 ci _ hc).2 C.1 (M l D cy H0 o2 e2) (va_cwSU n C.1.2.2.2.2 hg hw hrm.1 hrm.2 hy hR) ⟨fb_Pq D cy H0 _ S, hw2.recv C.2.2.2.2.1 hq hci hc, fun U hU hW3 => at_Pq hw2 C.2.2.2.2.1 hU hW3 _⟩ rfl hn hl.1 hst.symm (lv_room hW) hd hcs) hco (fun o2 e2 e3 H2 locs2 hw3 hco2 => h o2 e2 ls H2 locs2 o hl hw3 hco2 e3)
    · simp [cK, hq] at hf
/-- a static call of the own class -/
theorem g_callS (C : CF Γ cc nL ret Ts own rm mc ms) (As rest : List Value) (M : ∀ l D cy H0 o, fy = some o → Met l y wsy rmy (Pq D cy H0 As S) (Qx D cy H0 (cvy o)) mcy msy (fun q => H0.size ≤ q)) (hd : decode cc pc = .ok (.invokestatic idx, 3)) (hg : GoodIn Ts (va_wsS own idx y wsy)) (hw : wsy = Cond.code y bytes maxL rety :: wsy') (hrm : rmy.cells = mcy ∧ rmy.slots = msy) (hy : y.cls ≠ "java/lang/invoke/MethodHandle" ∧ y.cls ≠ "java/lang/invoke/VarHandle" ∧ (parseMethodDescriptor y.desc).map (fun d => d.parameters.length) = some n) (hR : rmy.frames + 1 ≤ rm.frames ∧ 8 + (maxL + 11) + rmy.locals ≤ rm.locals) (hcs : cells + mcy ≤ rm.cells ∧ slots + msy ≤ rm.slots) (hn : As.length = n) (hst : As.reverse ++ rest = stk) (hW : (rest.map fun v => v.category).sum ≤ 8)
    (h : ∀ o, fy = some o → G Γ cv nL (cells + mcy) (slots + msy) (pc + 3) lv ((cvy o).1.toList ++ rest) (cvy o).2 (kk o)) : G Γ cv nL cells slots pc lv stk S (fy.bind kk) := by
  obtain ⟨p, l, e, R, s, m, args, below, meth, c, D, cy, H0, mc, ms⟩ := Γ
  intro ls H locs o hl hw2 hco hf
  have hRm : R = rm := C.2.2.2.1
  subst hRm
  exact after_run hf (fun o2 e2 => va_runS (As := As) (rest := rest) C.1 (M l D cy H0 o2 e2) (va_cwS n C.1.2.2.2.2 hg hw hrm.1 hrm.2 hy hR) ⟨fb_Pq D cy H0 _ S, fun U hU hW3 => at_Pq hw2 C.2.2.2.2.1 hU hW3 _⟩ rfl hn hl.1 hst.symm (lv_room hW) hd hcs) hco (fun o2 e2 e3 H2 locs2 hw3 hco2 => h o2 e2 ls H2 locs2 o hl hw3 hco2 e3)
/-- a static call of a nest mate's private method -/
theorem g_callSN (C : CF Γ cc nL ret Ts own rm mc ms) (As rest : List Value) {host : String} (M : ∀ l D cy H0 o, fy = some o → Met l y wsy rmy (Pq D cy H0 As S) (Qx D cy H0 (cvy o)) mcy msy (fun q => H0.size ≤ q)) (hd : decode cc pc = .ok (.invokestatic idx, 3)) (hg : GoodIn Ts wsy) (hnl : Cond.methodLinkNest own idx y host ∈ nestW) (hst2 : Cond.static y ∈ Ts) (hini : Cond.initialized y.cls ∈ Ts) (hw : wsy = Cond.code y bytes maxL rety :: wsy') (hrm : rmy.cells = mcy ∧ rmy.slots = msy) (hy : y.cls ≠ "java/lang/invoke/MethodHandle" ∧ y.cls ≠ "java/lang/invoke/VarHandle" ∧ (parseMethodDescriptor y.desc).map (fun d => d.parameters.length) = some n) (hR : rmy.frames + 1 ≤ rm.frames ∧ 8 + (maxL + 11) + rmy.locals ≤ rm.locals) (hcs : cells + mcy ≤ rm.cells ∧ slots + msy ≤ rm.slots) (hn : As.length = n) (hst : As.reverse ++ rest = stk) (hW : (rest.map fun v => v.category).sum ≤ 8)
    (h : ∀ o, fy = some o → G Γ cv nL (cells + mcy) (slots + msy) (pc + 3) lv ((cvy o).1.toList ++ rest) (cvy o).2 (kk o)) : G Γ cv nL cells slots pc lv stk S (fy.bind kk) := by
  obtain ⟨p, l, e, R, s, m, args, below, meth, c, D, cy, H0, mc, ms⟩ := Γ
  intro ls H locs o hl hw2 hco hf
  have hRm : R = rm := C.2.2.2.1
  subst hRm
  exact after_run hf (fun o2 e2 => va_runSN (As := As) (rest := rest) C.1 (M l D cy H0 o2 e2) ⟨va_cnB n C.1.2.2.2.2 hg hw hrm.1 hrm.2 (C.2.2.2.2.1.2.1 _ hnl) (C.1.2.2.2.2 _ hini) hy hR, C.1.2.2.2.2 _ hst2, trivial⟩ ⟨fb_Pq D cy H0 _ S, fun U hU hW3 => at_Pq hw2 C.2.2.2.2.1 hU hW3 _⟩ rfl hn hl.1 hst.symm (lv_room hW) hd hcs) hco (fun o2 e2 e3 H2 locs2 hw3 hco2 => h o2 e2 ls H2 locs2 o hl hw3 hco2 e3)
end CR
section RT
variable {Γ : Cx} {nL cells slots pc : Nat} {lv : List (Nat × Value)} {S : St} {cc : ByteArray} {Ts : List Cond} {own : String} {rm : Room} {mc ms : Nat}
theorem g_iret (C : CF Γ cc nL (some .int) Ts own rm mc ms) {v : Int32} (hd : decode cc pc = .ok (.ireturn, 1)) (hcs : cells ≤ mc ∧ slots ≤ ms) : G Γ cvI nL cells slots pc lv [.int v] S (some (v, S)) := by
  obtain ⟨p, l, e, R, s, m, args, below, meth, c, D, cy, H0, mc2, ms2⟩ := Γ
  intro ls H locs o hl hw hco hf
  have e1 : mc2 = mc := C.2.2.2.2.2.1
  have e2 : ms2 = ms := C.2.2.2.2.2.2
  subst e1; subst e2
  cases hf
  refine W.widen hcs.1 hcs.2 ?_
  exact W.iret C.1.1 C.1.2.1 C.2.2.1 (fun t ht hW => ⟨rfl, by rw [ht]; exact hw⟩) hco hd C.2.1
theorem g_zret (C : CF Γ cc nL (some .boolean) Ts own rm mc ms) {v : Int32} (hd : decode cc pc = .ok (.ireturn, 1)) (hcs : cells ≤ mc ∧ slots ≤ ms) : G Γ cvI nL cells slots pc lv [.int v] S (zr v S) := by
  obtain ⟨p, l, e, R, s, m, args, below, meth, c, D, cy, H0, mc2, ms2⟩ := Γ
  intro ls H locs o hl hw hco hf
  have e1 : mc2 = mc := C.2.2.2.2.2.1
  have e2 : ms2 = ms := C.2.2.2.2.2.2
  subst e1; subst e2
  by_cases hv : v = 0 ∨ v = 1
  · have hf : some (v, S) = some o := by simpa [zr, hv] using hf
    cases hf
    refine W.widen hcs.1 hcs.2 ?_
    exact W.zret C.1.1 C.1.2.1 C.2.2.1 (by rcases hv with rfl | rfl <;> rfl) (fun t ht hW => ⟨rfl, by rw [ht]; exact hw⟩) hco hd C.2.1
  · simp [zr, hv] at hf
theorem g_lret (C : CF Γ cc nL (some .long) Ts own rm mc ms) {v : Int64} (hd : decode cc pc = .ok (.lreturn, 1)) (hcs : cells ≤ mc ∧ slots ≤ ms) : G Γ cvJ nL cells slots pc lv [.long v] S (some (v, S)) := by
  obtain ⟨p, l, e, R, s, m, args, below, meth, c, D, cy, H0, mc2, ms2⟩ := Γ
  intro ls H locs o hl hw hco hf
  have e1 : mc2 = mc := C.2.2.2.2.2.1
  have e2 : ms2 = ms := C.2.2.2.2.2.2
  subst e1; subst e2
  cases hf
  refine W.widen hcs.1 hcs.2 ?_
  exact W.lret C.1.1 C.1.2.1 C.2.2.1 (fun t ht hW => ⟨rfl, by rw [ht]; exact hw⟩) hco hd C.2.1
theorem g_vret (C : CF Γ cc nL none Ts own rm mc ms) (hd : decode cc pc = .ok (.return_, 1)) (hcs : cells ≤ mc ∧ slots ≤ ms) : G Γ cvV nL cells slots pc lv [] S (some S) := by
  obtain ⟨p, l, e, R, s, m, args, below, meth, c, D, cy, H0, mc2, ms2⟩ := Γ
  intro ls H locs o hl hw hco hf
  have e1 : mc2 = mc := C.2.2.2.2.2.1
  have e2 : ms2 = ms := C.2.2.2.2.2.2
  subst e1; subst e2
  cases hf
  refine W.widen hcs.1 hcs.2 ?_
  exact W.vret C.1.1 C.1.2.1 C.2.2.1 (fun t ht hW => ⟨rfl, by rw [ht]; exact hw⟩) hco hd C.2.1
theorem g_aret {rt : FieldType} (C : CF Γ cc nL (some rt) Ts own rm mc ms) (hrt : (∃ n, rt = .object n) ∨ ∃ t, rt = .array t) {r : Option Nat} (hd : decode cc pc = .ok (.areturn, 1)) (hcs : cells ≤ mc ∧ slots ≤ ms) : G Γ cvR nL cells slots pc lv [va_rf r] S (some (r, S)) := by
  obtain ⟨p, l, e, R, s, m, args, below, meth, c, D, cy, H0, mc2, ms2⟩ := Γ
  intro ls H locs o hl hw hco hf
  have e1 : mc2 = mc := C.2.2.2.2.2.1
  have e2 : ms2 = ms := C.2.2.2.2.2.2
  subst e1; subst e2
  cases hf
  refine W.widen hcs.1 hcs.2 ?_
  exact W.aret C.1.1 C.1.2.1 C.2.2.1 hrt (by cases r with
    | none => exact Or.inl rfl
    | some a => exact Or.inr ⟨a, rfl⟩) (fun t ht hW => ⟨rfl, by rw [ht]; exact hw⟩) hco hd C.2.1
end RT
/-- a method's contract out of its walk -/
theorem met_of {α : Type} {y : MethodName} {ws ws' : List Cond} {cc : ByteArray} {maxL mc ms : Nat} {ret : Option FieldType} {rm : Room} {cv : α → Option Value × St} {S : St} {f : Option α} (av : List Value) (lv : List (Nat × Value)) (hy : plainName y.cls = true) (hw : ws = Cond.code y cc maxL ret :: ws') (hrm : (headSpec ws rm).room = rm) (hlen : (lg_sl av).length ≤ maxL) (hlv : lv_args 0 av = lv)
    (h : ∀ Γ : Cx, CF Γ cc maxL ret ws y.cls rm mc ms → G Γ cv maxL 0 0 0 lv [] S f) : ∀ l D cy H0 o, f = some o → Met l y ws rm (Pq D cy H0 av S) (Qx D cy H0 (cv o)) mc ms (fun q => H0.size ≤ q) := by
  intro l D cy H0 o hf
  refine Met.ofW (cc := cc) (maxL := maxL) (ret := ret) hy hw ?_
  intro p e s m args below meth c s₁ B hml hv
  obtain ⟨rfl, hwd, hsf⟩ := hv
  have hl := lv_entry av (n := maxL) hlen
  rw [lg_entry_eq, hrm]
  rw [hlv] at hl
  exact h (p, l, e, rm, s, m, av.toArray, below, meth, c, D, cy, H0, mc, ms) ⟨⟨B.exec, B.bytes, hml, findClass_of_methodNamed B.named, atoms_spec (ws := ws) B.pre⟩, B.notSynchronized, B.returns, rfl, hsf, rfl, rfl⟩ _ _ [] o hl hwd (fun q hq => by cases hq) hf
