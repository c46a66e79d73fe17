/-- a new cell of a kind and length, all 0 and null -/
def nw (S : St) (kd n : Nat) : St := (va_up S.1 S.2.2.2 (kd, n), va_up S.2.1 S.2.2.2 (fun _ => 0), va_up S.2.2.1 S.2.2.2 (fun _ => none), S.2.2.2 + 1)
/-- a new row of at most mx places -/
def nwA (S : St) (kd : Nat) (n : Int32) (mx : Nat) : Option St := if n < 0 ∨ mx < n.toNatClampNeg then none else some (nw S kd n.toNatClampNeg)
/-- a final field of a stroke -/
def pS (S : St) (r : Option Nat) (k : Nat) (v : Option Nat) : Option St := r.bind fun a => if (S.1 a).1 = 2 ∨ (S.1 a).1 = 3 ∨ (S.1 a).1 = 8 then some (S.1, S.2.1, up2 S.2.2.1 a k v, S.2.2.2) else none
def CN (Γ : Cx) : Prop := match Γ with
  | (_, _, _, _, _, _, _, _, meth, _) => meth.name = "<init>"
theorem Wd.new {D : va_G} {cy : Nat → ClassId} {H0 : Heap} {S : St} {H H2 : Heap} {kd n : Nat} (hw : Wd D cy H0 S H) (hs : H2.size = H.size + 1) (ho : ∀ q : Nat, q < H.size → H2[q]? = H[q]?) (hat : va_at D vwCl (H.size, ce cy (nw S kd n) H.size) H2) : Wd D cy H0 (nw S kd n) H2 := by
  obtain ⟨w1, w2, w3, w4, w5, w6⟩ := hw
  have w1' : S.2.2.2 = H.size := w1.symm
  refine ⟨by show H2.size = S.2.2.2 + 1; omega, by omega, fun q hq => by rw [ho q (by omega)]; exact w3 q hq, fun b hb => ?_, w5, fun k hk => ?_⟩
  · by_cases e : b = H.size
    · rw [e]; exact ⟨w2, hat⟩
    · have e2 : b ≠ S.2.2.2 := by omega
      have hk : (nw S kd n).1 b = S.1 b := va_up_ne _ _ e2
      rw [hk] at hb
      refine ⟨(w4 b hb).1, ?_⟩
      rw [ce_eq (S := S) hk (va_up_ne _ _ e2) (va_up_ne _ _ e2)]
      exact (w4 b hb).2.kept (ho b (w4 b hb).2.lt)
  · have e : (nw S kd n).2.2.1 0 = S.2.2.1 0 := va_up_ne _ _ (by omega)
    rw [e]
    exact w6 k hk
section AL
variable {α β : Type} {Γ : Cx} {cv : α → Option Value × St} {nL cells slots pc : Nat} {lv : List (Nat × Value)} {stk : List Value} {S : St} {f : Option α} {cc : ByteArray} {ret : Option FieldType} {Ts : List Cond} {own : String} {rm : Room} {mc ms : Nat} {r : Option Nat}
theorem g_new (C : CF Γ cc nL ret Ts own rm mc ms) {ci idx : Nat} {kk : St → Option α} {Cn : String} {T : u_T} {ty0 : Nat → FieldType} (hd : decode cc pc = .ok (.new idx, 3)) (hc : vwCl[ci]? = some (Cn, T, nF ci)) (hci : ci ≤ 11) (hty : ∀ k, k < nF ci → parseFieldDescriptor (T k).2.2.1 = some (ty0 k)) (hdf : ∀ k, k < nF ci → defaultValue (ty0 k) = if rF ci k = true then .null else .int 0) (hin : ∀ w ∈ u_ws Cn T (nF ci), w ∈ Ts) (h1 : Cond.classLink own idx Cn ∈ Ts) (h2 : Cond.instantiable Cn (nF ci) ∈ Ts) (h3 : Cond.initialized Cn ∈ Ts) (hcs : cells + 1 ≤ rm.cells ∧ slots + nF ci ≤ rm.slots) (h : ∀ S2, G Γ cv nL (cells + 1) (slots + nF ci) (pc + 3) lv (va_rf (some S.2.2.2) :: stk) S2 (kk S2)) : G Γ cv nL cells slots pc lv stk S (lt1 (nw S (ci + 1) 0) kk) := by
  obtain ⟨p, l, e, R, s, m, args, below, meth, c, D, cy, H0, mc, ms⟩ := Γ
  intro ls H locs o hl hw hco hf
  have hRm : R = rm := C.2.2.2.1
  subst hRm
  have hts := C.1.2.2.2.2
  have hKn := C.2.2.2.2.1.1.1 ci _ hc
  refine W.newcK C.1.1 C.1.2.1 C.1.2.2.2.1 (hts _ h1) (hts _ h2) (hts _ h3) rfl hd hcs.1 hcs.2 hKn.2.1 rfl fun H2 kC hkC e1 z1 o1 => ?_
  have hz : S.2.2.2 = H.size := hw.1.symm
  have key : Wd D cy H0 (nw S (ci + 1) 0) H2 := by
    refine hw.new z1 o1 ?_
    have hk : ((nw S (ci + 1) 0).1 H.size).1 = ci + 1 := by rw [← hz]; show (va_up S.1 S.2.2.2 (ci + 1, 0) S.2.2.2).1 = _; rw [va_up_self]
    rw [ce_o hk hci]
    refine ⟨_, hc, (u_born ty0 hts hin hKn hkC e1 hty).to fun j hj => ?_⟩
    rw [vp_V_map hj, hdf j hj]
    have a1 : (nw S (ci + 1) 0).2.1 H.size = fun _ => 0 := by rw [← hz]; exact va_up_self _ _ _
    have a2 : (nw S (ci + 1) 0).2.2.1 H.size = fun _ => none := by rw [← hz]; exact va_up_self _ _ _
    rw [a1, a2]
    rfl
  have hh := h _ ls H2 locs o hl key hco hf
  rw [hz] at hh
  exact hh
theorem g_newa (C : CF Γ cc nL ret Ts own rm mc ms) {atype : ArrayType} {kd t0 mx : Nat} {n : Int32} {kk : St → Option α} {ty : FieldType} (hd : decode cc pc = .ok (.newarray atype, 2)) (hty : newarray.typeOf atype = ty) (hdf : defaultValue ty = .int 0) (hkd : 13 ≤ kd ∧ kd ≤ 15) (ht : ∀ cy : Nat → ClassId, (tys cy)[t0]? = some (cy kd, ty)) (hnm : ∀ (s : State) (cA : ClassId), va_RA s cA ty → s.vm.findClass ("[" ++ ty.toString) = some cA) (hmx : mx * componentBytes ty ≤ 536870912) (h1 : Cond.arrayClass ty ∈ Ts) (hcs : cells + 1 ≤ rm.cells ∧ slots + mx ≤ rm.slots) (h : ∀ S2, nwA S kd n mx = some S2 → G Γ cv nL (cells + 1) (slots + mx) (pc + 2) lv (va_rf (some S.2.2.2) :: stk) S2 (kk S2)) : G Γ cv nL cells slots pc lv (.int n :: stk) S ((nwA S kd n mx).bind kk) := by
  obtain ⟨p, l, e, R, s, m, args, below, meth, c, D, cy, H0, mc, ms⟩ := Γ
  intro ls H locs o hl hw hco hf
  have hRm : R = rm := C.2.2.2.1
  subst hRm
  subst hty
  have hts := C.1.2.2.2.2
  by_cases hq : n < 0 ∨ mx < n.toNatClampNeg
  · have e1 : nwA S kd n mx = none := if_pos hq
    rw [e1] at hf; cases hf
  · have e1 : nwA S kd n mx = some (nw S kd n.toNatClampNeg) := if_neg hq
    rw [e1] at hf
    have hn0 : ¬ n < 0 := fun q => hq (Or.inl q)
    have hn1 : n.toNatClampNeg ≤ mx := Nat.not_lt.mp fun q => hq (Or.inr q)
    refine va_newaK (atype := atype) C.1.1 C.1.2.1 (hts _ h1) rfl hd rfl hn0 rfl (Nat.le_trans (Nat.mul_le_mul_right _ hn1) hmx) hcs.1 (by omega) rfl fun H2 cA e2 z2 o2 hAr hNm => ?_
    have hz : S.2.2.2 = H.size := hw.1.symm
    have hcA : cA = cy kd := by
      have := hnm s _ (C.2.2.2.2.1.1.2 t0 _ (ht cy)).2
      rw [this] at hNm
      exact (Option.some.inj hNm).symm
    have key : Wd D cy H0 (nw S kd n.toNatClampNeg) H2 := by
      refine hw.new z2 o2 ?_
      have hk : ((nw S kd n.toNatClampNeg).1 H.size).1 = kd := by rw [← hz]; show (va_up S.1 S.2.2.2 (kd, n.toNatClampNeg) S.2.2.2).1 = _; rw [va_up_self]
      rw [ce_i hk hkd.1 hkd.2]
      have a0 : ((nw S kd n.toNatClampNeg).1 H.size).2 = n.toNatClampNeg := by rw [← hz]; show (va_up S.1 S.2.2.2 (kd, n.toNatClampNeg) S.2.2.2).2 = _; rw [va_up_self]
      have a1 : (nw S kd n.toNatClampNeg).2.1 H.size = fun _ => 0 := by rw [← hz]; exact va_up_self _ _ _
      rw [a0, a1]
      show H2[H.size]? = some (arrV (cy kd) n.toNatClampNeg (fun _ => .int 0))
      rw [e2, hcA, hdf]
    refine W.widen (k := cells + 1) (n := slots + mx) (Nat.le_refl _) (by omega) ?_
    have hh := h _ e1 ls H2 locs o hl key hco hf
    rw [hz] at hh
    exact hh
theorem g_objInit (C : CF Γ cc nL ret Ts own rm mc ms) {idx : Nat} {a : Nat} (hd : decode cc pc = .ok (.invokespecial idx, 3)) (h1 : Cond.methodLink own idx Lib.objectInit ∈ Ts) (h2 : Cond.instanceMethod Lib.objectInit ∈ Ts) (h3 : Cond.code Lib.objectInit ⟨#[0xb1]⟩ 1 none ∈ Ts) (hR : 1 ≤ rm.frames ∧ 24 ≤ rm.locals) (hW : (stk.map fun v => v.category).sum ≤ 8) (h : G Γ cv nL cells slots (pc + 3) lv stk S f) : G Γ cv nL cells slots pc lv (va_rf (some a) :: stk) S f := by
  obtain ⟨p, l, e, R, s, m, args, below, meth, c, D, cy, H0, mc, ms⟩ := Γ
  intro ls H locs o hl hw hco hf
  have hRm : R = rm := C.2.2.2.1
  subst hRm
  have hts := C.1.2.2.2.2
  exact W.objInit C.1.1 C.1.2.1 C.1.2.2.2.1 (hts _ h1) (hts _ h2) (hts _ h3) rfl (hl.1.trans C.1.2.2.1.symm) rfl hd hR.1 (by have := lv_room (m := m) (pc := pc) (ls := ls) (rest := stk) hW; show 2 * (F0 m pc ls (.ref a :: stk)).monitorRoom + _ + 12 ≤ _; have h9 : (F0 m pc ls (.ref a :: stk)).monitorRoom = (F0 m pc ls stk).monitorRoom := rfl; omega) (h ls H locs o hl hw hco hf)
/-- a constructor's call -/
theorem g_callI (C : CF Γ cc nL ret Ts own rm mc ms) (As rest : List Value) {a : Nat} {y : MethodName} {wsy wsy' : List Cond} {rmy : Room} {bytes : ByteArray} {maxL mcy msy n idx : Nat} {fy : Option St} {kk : St → Option α} (M : ∀ l D cy H0 o, fy = some o → Met l y wsy rmy (Pq D cy H0 (va_rf (some a) :: As) S) (Qx D cy H0 (cvV o)) mcy msy (fun q => H0.size ≤ q)) (hd : decode cc pc = .ok (.invokespecial idx, 3)) (hg : GoodIn Ts wsy) (hw : wsy = Cond.code y bytes maxL none :: wsy') (hrm : rmy.cells = mcy ∧ rmy.slots = msy) (hini : Cond.initialized y.cls ∈ Ts) (hl2 : Cond.methodLink own idx y ∈ Ts) (him : Cond.instanceMethod y ∈ Ts) (hy1 : y.name = "<init>") (hy : y.cls ≠ "java/lang/invoke/MethodHandle" ∧ y.cls ≠ "java/lang/invoke/VarHandle" ∧ (parseMethodDescriptor y.desc).map (fun d => d.parameters.length) = some n) (hR : rmy.frames + 1 ≤ rm.frames ∧ 8 + (maxL + 11) + rmy.locals ≤ rm.locals) (hcs : cells + mcy ≤ rm.cells ∧ slots + msy ≤ rm.slots) (hn : As.length = n) (hst : As.reverse ++ va_rf (some a) :: rest = stk) (hW : (rest.map fun v => v.category).sum ≤ 8)
    (h : ∀ o, fy = some o → G Γ cv nL (cells + mcy) (slots + msy) (pc + 3) lv rest o (kk o)) : G Γ cv nL cells slots pc lv stk S (fy.bind kk) := by
  obtain ⟨p, l, e, R, s, m, args, below, meth, c, D, cy, H0, mc, ms⟩ := Γ
  intro ls H locs o hl hw2 hco hf
  have hRm : R = rm := C.2.2.2.1
  subst hRm
  have hts := C.1.2.2.2.2
  exact after_run hf (fun o2 e2 => va_runI (As := As) (rest := rest) C.1 (M l D cy H0 o2 e2) (cwI n hts hg hw hrm.1 hrm.2 (hts _ hini) (hts _ hl2) (hts _ him) hy1 hy hR) ⟨fb_Pq D cy H0 _ S, fun U hU hW3 => at_Pq hw2 C.2.2.2.2.1 hU hW3 _⟩ rfl hn hl.1 hst.symm (lv_room hW) hd hcs) hco (fun o2 e2 e3 H2 locs2 hw3 hco2 => h o2 e2 ls H2 locs2 o hl hw3 hco2 e3)
/-- a nest mate's constructor -/
theorem g_callIN (C : CF Γ cc nL ret Ts own rm mc ms) (As rest : List Value) {a : Nat} {host : String} {y : MethodName} {wsy wsy' : List Cond} {rmy : Room} {bytes : ByteArray} {maxL mcy msy n idx : Nat} {fy : Option St} {kk : St → Option α} (M : ∀ l D cy H0 o, fy = some o → Met l y wsy rmy (Pq D cy H0 (va_rf (some a) :: As) S) (Qx D cy H0 (cvV o)) mcy msy (fun q => H0.size ≤ q)) (hd : decode cc pc = .ok (.invokespecial idx, 3)) (hg : GoodIn Ts wsy) (hnl : Cond.methodLinkNest own idx y host ∈ nestW) (hw : wsy = Cond.code y bytes maxL none :: wsy') (hrm : rmy.cells = mcy ∧ rmy.slots = msy) (hini : Cond.initialized y.cls ∈ Ts) (him : Cond.instanceMethod y ∈ Ts) (hy1 : y.name = "<init>") (hy : y.cls ≠ "java/lang/invoke/MethodHandle" ∧ y.cls ≠ "java/lang/invoke/VarHandle" ∧ (parseMethodDescriptor y.desc).map (fun d => d.parameters.length) = some n) (hR : rmy.frames + 1 ≤ rm.frames ∧ 8 + (maxL + 11) + rmy.locals ≤ rm.locals) (hcs : cells + mcy ≤ rm.cells ∧ slots + msy ≤ rm.slots) (hn : As.length = n) (hst : As.reverse ++ va_rf (some a) :: rest = stk) (hW : (rest.map fun v => v.category).sum ≤ 8)
    (h : ∀ o, fy = some o → G Γ cv nL (cells + mcy) (slots + msy) (pc + 3) lv rest o (kk o)) : G Γ cv nL cells slots pc lv stk S (fy.bind kk) := by
  obtain ⟨p, l, e, R, s, m, args, below, meth, c, D, cy, H0, mc, ms⟩ := Γ
  intro ls H locs o hl hw2 hco hf
  have hRm : R = rm := C.2.2.2.1
  subst hRm
  have hts := C.1.2.2.2.2
  exact after_run hf (fun o2 e2 => va_runIN (As := As) (rest := rest) C.1 (M l D cy H0 o2 e2) ⟨va_cnB n hts hg hw hrm.1 hrm.2 (C.2.2.2.2.1.2.1 _ hnl) (hts _ hini) hy hR, hy1, hts _ him⟩ ⟨fb_Pq D cy H0 _ S, fun U hU hW3 => at_Pq hw2 C.2.2.2.2.1 hU hW3 _⟩ rfl hn hl.1 hst.symm (lv_room hW) hd hcs) hco (fun o2 e2 e3 H2 locs2 hw3 hco2 => h o2 e2 ls H2 locs2 o hl hw3 hco2 e3)
/-- a final reference field, in a constructor of the class that declares it -/
theorem g_putFR (C : CF Γ cc nL ret Ts own rm mc ms) (hN : CN Γ) {ci k : Nat} {v : Option Nat} {kk : St → Option α} {Cn ref : String} {T : u_T} {idx : Nat} {ty0 : Nat → FieldType} (hd : decode cc pc = .ok (.putfield idx, 3)) (hc : vwCl[ci]? = some (Cn, T, nF ci)) (hci : ci ≤ 11) (hk : k < nF ci) (hrf : rF ci k = true) (hty : ∀ k, k < nF ci → parseFieldDescriptor (T k).2.2.1 = some (ty0 k)) (hnm : ∀ a, a < nF ci → ∀ b, b < nF ci → a ≠ b → (T a).2.1 ≠ (T b).2.1) (hin : ∀ w ∈ u_ws Cn T (nF ci), w ∈ Ts) (hlink : Cond.fieldLink own idx ref (T k).2.1 (T k).2.2.1 ∈ Ts) (href : (T k).1 = ref) (hfin : (T k).2.2.2 = true) (hdecl : (T k).1 = own) (hfit : narrow (ty0 k) (va_rf v) = va_rf v ∧ fits (ty0 k) (va_rf v) = true) (h : ∀ S2, pR S r ci k v = some S2 → G Γ cv nL cells slots (pc + 3) lv stk S2 (kk S2)) : G Γ cv nL cells slots pc lv (va_rf v :: va_rf r :: stk) S ((pR S r ci k v).bind kk) := by
  obtain ⟨p, l, e, R, s, m, args, below, meth, c, D, cy, H0, mc, ms⟩ := Γ
  intro ls H locs o hl hw hco hf
  cases r with
  | none => simp [pR] at hf
  | some a =>
    by_cases hq : (S.1 a).1 = ci + 1
    · have e1 : pR S (some a) ci k v = some (S.1, S.2.1, up2 S.2.2.1 a k v, S.2.2.2) := by simp [pR, hq]
      rw [e1] at hf
      have hA := (hw.2.2.2.1 a (by omega)).1
      have hat := (hw.2.2.2.1 a (by omega)).2
      rw [ce_o hq hci] at hat
      obtain ⟨q, h1, cell, q1, q2, q3, q4⟩ := hat
      have hr : q = (Cn, T, nF ci) := Option.some.inj (h1.symm.trans hc)
      subst hr
      have hts := C.1.2.2.2.2
      have hown := C.1.2.2.2.1
      have hK := C.2.2.2.2.1.1
      have hap := va_apart (own := own) hts hin ty0 hty hnm hK hc
      obtain ⟨hS, hfc, kC, hkC, hkind⟩ := hK.1 ci _ hc
      obtain ⟨cf, kf, fi, fd, hi, hsl⟩ := hS k hk
      have hlay := hts _ (hin _ (u_in_lay hk))
      unfold u_lay at hlay
      rw [if_pos hfin] at hlay
      have hst := (u_facts hfc hkC (u_lays hts hin hk) hi).1
      have hcf : m.cls = cf := by
        obtain ⟨_, _, c', _, _, _, -, -, hf', -, -, -, hown2, -⟩ := Cond.laysFinal_spec hlay
        have e1 : c' = cf := by have := hi.symm.trans hf'; simp at this; exact this.1.symm
        rw [hdecl] at hown2
        rw [← e1]; exact Option.some.inj (hown.symm.trans hown2)
      have h6 := u_fits hfc hkC hkind (Or.inr hlay) hi (hty k hk) hfit.1 hfit.2
      have hlt : fd.slot < cell.slots.size := by rw [hsl]; exact k2_hasslot (q4 k hk)
      refine W.putFinK C.1.1 C.1.2.1 hown (hts _ hlink) (by rw [← href]; exact hi) hst hcf hN (by rw [q2]; exact h6) q1 q3 hlt rfl rfl hd fun H2 e2 e3 e4 => ?_
      refine h _ e1 ls H2 _ o hl ?_ (locs_ok hco hA) hf
      refine hw.put (a := a) (by omega) rfl rfl (fun b hb => rfl) (fun b hb => up2_na _ _ hb) e3 e4 ?_
      rw [ce_o (S := (S.1, S.2.1, up2 S.2.2.1 a k v, S.2.2.2)) hq hci]
      refine ⟨_, hc, t_OB.to (V := updV (vp_V ((List.range (nF ci)).map (fun k => if rF ci k = true then va_rf (S.2.2.1 a k) else .int (S.2.1 a k)))) k (va_rf v)) ⟨_, e2, q2, q3, by rw [hsl]; exact t_set q4 hap hk _⟩ (fun j hj => ?_)⟩
      rw [vp_V_map hj]
      by_cases ej : j = k
      · subst ej; simp [updV, hrf, up2]
      · simp only [updV, if_neg ej, vp_V_map hj, up2]
        simp [ej]
    · simp [pR, hq] at hf
theorem g_putFS (C : CF Γ cc nL ret Ts own rm mc ms) (hN : CN Γ) {k idx : Nat} {v : Option Nat} {kk : St → Option α} {ref : String} (hd : decode cc pc = .ok (.putfield idx, 3)) (hk : k < 2) (u1 : ∀ w ∈ u_ws RX1 TX1 2, w ∈ Ts) (u2 : ∀ w ∈ u_ws RX2 TX2 2, w ∈ Ts) (u7 : ∀ w ∈ u_ws RX7 TX7 2, w ∈ Ts) (f1 : Cond.fieldLink own idx ref (TX1 k).2.1 (TX1 k).2.2.1 ∈ Ts) (f2 : Cond.fieldLink own idx ref (TX2 k).2.1 (TX2 k).2.2.1 ∈ Ts) (f7 : Cond.fieldLink own idx ref (TX7 k).2.1 (TX7 k).2.2.1 ∈ Ts) (r1 : (TX1 k).1 = ref) (r2 : (TX2 k).1 = ref) (r7 : (TX7 k).1 = ref) (hown : ref = own) (h : ∀ S2, pS S r k v = some S2 → G Γ cv nL cells slots (pc + 3) lv stk S2 (kk S2)) : G Γ cv nL cells slots pc lv (va_rf v :: va_rf r :: stk) S ((pS S r k v).bind kk) := by
  cases r with
  | none => exact g_none
  | some a =>
    have hkk : k = 0 ∨ k = 1 := by omega
    have ft : ∀ t : FieldType, narrow (.array t) (va_rf v) = va_rf v ∧ fits (.array t) (va_rf v) = true := fun _ => rf_fit_a v
    by_cases h2 : (S.1 a).1 = 2
    · have e : pS S (some a) k v = pR S (some a) 1 k v := by simp [pS, pR, h2]
      rw [e] at h ⊢
      exact g_putFR C hN (ci := 1) hd rfl (by decide) hk (by rcases hkk with rfl | rfl <;> decide) tyX1_ok nmX1 u1 f1 r1 (by rcases hkk with rfl | rfl <;> rfl) (r1.trans hown) (by rcases hkk with rfl | rfl <;> exact ft .int) h
    · by_cases h3 : (S.1 a).1 = 3
      · have e : pS S (some a) k v = pR S (some a) 2 k v := by simp [pS, pR, h3]
        rw [e] at h ⊢
        exact g_putFR C hN (ci := 2) hd rfl (by decide) hk (by rcases hkk with rfl | rfl <;> decide) tyX2_ok nmX2 u2 f2 r2 (by rcases hkk with rfl | rfl <;> rfl) (r2.trans hown) (by rcases hkk with rfl | rfl <;> exact ft .int) h
      · by_cases h8 : (S.1 a).1 = 8
        · have e : pS S (some a) k v = pR S (some a) 7 k v := by simp [pS, pR, h8]
          rw [e] at h ⊢
          exact g_putFR C hN (ci := 7) hd rfl (by decide) hk (by rcases hkk with rfl | rfl <;> decide) tyX7_ok nmX7 u7 f7 r7 (by rcases hkk with rfl | rfl <;> rfl) (r7.trans hown) (by rcases hkk with rfl | rfl <;> exact ft .int) h
        · have e : pS S (some a) k v = none := by simp [pS, h2, h3, h8]
          rw [e]
          exact g_none
end AL
/-- a constructor's contract out of its walk -/
theorem met_ofI {α : Type} {y : MethodName} {ws ws' : List Cond} {cc : ByteArray} {maxL mc ms : Nat} {ret : Option FieldType} {rm : Room} {cv : α → Option Value × St} {S : St} {f : Option α} (av : List Value) (lv : List (Nat × Value)) (hy : plainName y.cls = true) (hyn : y.name = "<init>") (hw : ws = Cond.code y cc maxL ret :: ws') (hrm : (headSpec ws rm).room = rm) (hlen : (lg_sl av).length ≤ maxL) (hlv : lv_args 0 av = lv)
    (h : ∀ Γ : Cx, CF Γ cc maxL ret ws y.cls rm mc ms → CN Γ → G Γ cv maxL 0 0 0 lv [] S f) : ∀ l D cy H0 o, f = some o → Met l y ws rm (Pq D cy H0 av S) (Qx D cy H0 (cv o)) mc ms (fun q => H0.size ≤ q) := by
  intro l D cy H0 o hf
  refine Met.ofW (cc := cc) (maxL := maxL) (ret := ret) hy hw ?_
  intro p e s m args below meth c s₁ B hml hv
  obtain ⟨rfl, hwd, hsf⟩ := hv
  have hl := lv_entry av (n := maxL) hlen
  rw [lg_entry_eq, hrm]
  rw [hlv] at hl
  exact h (p, l, e, rm, s, m, av.toArray, below, meth, c, D, cy, H0, mc, ms) ⟨⟨B.exec, B.bytes, hml, findClass_of_methodNamed B.named, atoms_spec (ws := ws) B.pre⟩, B.notSynchronized, B.returns, rfl, hsf, rfl, rfl⟩ (by show meth.name = "<init>"; rw [← hyn]; exact (name_of_methodNamed B.named B.method).1) _ _ [] o hl hwd (fun q hq => by cases hq) hf
