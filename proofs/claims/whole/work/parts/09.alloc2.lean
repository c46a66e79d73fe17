/-- new T[n][m]: the outer row, then the inner ones -/
def nwM (S : St) (n m : Nat) : St := (fun a => if a = S.2.2.2 then (18, n) else if S.2.2.2 < a ∧ a < S.2.2.2 + 1 + n then (14, m) else S.1 a, fun a => if S.2.2.2 ≤ a ∧ a < S.2.2.2 + 1 + n then fun _ => 0 else S.2.1 a, fun a => if a = S.2.2.2 then fun i => if i < n then some (S.2.2.2 + 1 + i) else none else if S.2.2.2 < a ∧ a < S.2.2.2 + 1 + n then fun _ => none else S.2.2.1 a, S.2.2.2 + 1 + n)
theorem mOuter (c : ClassId) (N h0 : Nat) : ∀ i : Nat, Jvm.Free.Multi.outerC c N h0 i = arrV c N (fun j => va_rf (if j < i then some (h0 + 1 + j) else none)) := by
  intro i
  induction i with
  | zero => 
    unfold Jvm.Free.Multi.outerC
    have e : (fun j => va_rf (if j < 0 then some (h0 + 1 + j) else none)) = fun _ => Value.null := by funext j; simp [va_rf]
    rw [e]
    first | exact arrV_new _ _ _ | exact (arrV_new _ _ _).symm | rfl
  | succ i ih =>
    have e : Jvm.Free.Multi.outerC c N h0 (i + 1) = (Jvm.Free.Multi.outerC c N h0 i).setSlot i (.ref (h0 + 1 + i)) := rfl
    rw [e, ih, arrV_store]
    congr 1
    funext j
    by_cases hj : j = i
    · subst hj; simp [updV, va_rf]
    · by_cases h : j < i
      · simp [updV, hj, h, Nat.lt_succ_of_lt h]
      · simp [updV, hj, h, show ¬ j < i + 1 by omega]
section AM
variable {α β : Type} {Γ : Cx} {cv : α → Option Value × St} {nL cells slots pc : Nat} {lv : List (Nat × Value)} {stk : List Value} {S : St} {f : Option α} {cc : ByteArray} {ret : Option FieldType} {Ts : List Cond} {own : String} {rm : Room} {mc ms : Nat} {r : Option Nat}
theorem g_newq (C : CF Γ cc nL ret Ts own rm mc ms) {kd t0 N idx : Nat} {n : Int32} {kk : St → Option α} {Cn : String} (hd : decode cc pc = .ok (.anewarray idx, 3)) (hkd : 16 ≤ kd) (ht : ∀ cy : Nat → ClassId, (tys cy)[t0]? = some (cy kd, .object Cn)) (hao : ∀ s : State, aoF s → va_AO Cn s) (hn : ¬ n < 0) (hN : n.toNatClampNeg = N) (hb4 : N * 4 ≤ 536870912) (h1 : Cond.classLink own idx Cn ∈ Ts) (hcs : cells + 1 ≤ rm.cells ∧ slots + N ≤ rm.slots) (h : ∀ S2, G Γ cv nL (cells + 1) (slots + N) (pc + 3) lv (va_rf (some S.2.2.2) :: stk) S2 (kk S2)) : G Γ cv nL cells slots pc lv (.int n :: stk) S (lt1 (nw S kd N) kk) := by
  obtain ⟨p, l, e, R, s, m, args, below, meth, c, D, cy, H0, mc, ms⟩ := Γ
  intro ls H locs o hl hw hco hf
  have hRm : R = rm := C.2.2.2.1
  subst hRm
  subst hN
  have hts := C.1.2.2.2.2
  refine W.anew C.1.1 C.1.2.1 C.1.2.2.2.1 (hts _ h1) (va_AO.use (hao s C.2.2.2.2.1.2.2.2.2)) rfl hd rfl hn hb4 hcs.1 hcs.2 fun cA kA comp f1 f2 f3 f4 => ?_
  generalize hH1 : H.push ({ cls := cA, slots := Array.replicate n.toNatClampNeg .null, vm := .none } : Cell) = H2
  have z1 : H2.size = H.size + 1 := by rw [← hH1, Array.size_push]
  have e1 : H2[H.size]? = some (arrV cA n.toNatClampNeg (fun _ => .null)) := by rw [← hH1, Array.getElem?_push_size, ← arrV_new]
  have o1 : ∀ q : Nat, q < H.size → H2[q]? = H[q]? := fun q hq => by rw [← hH1, Array.getElem?_push, if_neg (Nat.ne_of_lt hq)]
  have hz : S.2.2.2 = H.size := hw.1.symm
  have hcA : cA = cy kd := by
    obtain ⟨_, _, _, _, _, g4⟩ := (C.2.2.2.2.1.1.2 t0 _ (ht cy)).2
    rw [g4] at f1
    exact (Option.some.inj f1).symm
  have key : Wd D cy H0 (nw S kd n.toNatClampNeg) H2 := by
    refine hw.new z1 o1 ?_
    have hk : ((nw S kd n.toNatClampNeg).1 H.size).1 = kd := by rw [← hz]; show (va_up S.1 S.2.2.2 (kd, n.toNatClampNeg) S.2.2.2).1 = _; rw [va_up_self]
    rw [ce_r hk hkd]
    have a0 : ((nw S kd n.toNatClampNeg).1 H.size).2 = n.toNatClampNeg := by rw [← hz]; show (va_up S.1 S.2.2.2 (kd, n.toNatClampNeg) S.2.2.2).2 = _; rw [va_up_self]
    have a1 : (nw S kd n.toNatClampNeg).2.2.1 H.size = fun _ => none := by rw [← hz]; exact va_up_self _ _ _
    rw [a0, a1]
    show H2[H.size]? = some (arrV (cy kd) n.toNatClampNeg (fun _ => .null))
    rw [e1, hcA]
  have hh := h _ ls H2 locs o hl key hco hf
  rw [hz] at hh
  exact hh
theorem g_mna (C : CF Γ cc nL ret Ts own rm mc ms) {N M idx : Nat} {n k : Int32} {kk : St → Option α} (hd : decode cc pc = .ok (.multianewarray idx 2, 4)) (hn : ¬ n < 0) (hk : ¬ k < 0) (hN : n.toNatClampNeg = N) (hM : k.toNatClampNeg = M) (hb1 : N * 4 ≤ 536870912) (hb2 : M * componentBytes .int ≤ 536870912) (hb3 : M ≤ 536870912) (h1 : Cond.classLink own idx ("[" ++ (FieldType.array .int).toString) ∈ Ts) (h2 : Cond.arrayClass .int ∈ Ts) (hcs : cells + (1 + N) ≤ rm.cells ∧ slots + (N + N * M) ≤ rm.slots) (h : ∀ S2, G Γ cv nL (cells + (1 + N)) (slots + (N + N * M)) (pc + 4) lv (va_rf (some S.2.2.2) :: stk) S2 (kk S2)) : G Γ cv nL cells slots pc lv (.int k :: .int n :: stk) S (lt1 (nwM S N M) kk) := by
  obtain ⟨p, l, e, R, s, m, args, below, meth, c, D, cy, H0, mc, ms⟩ := Γ
  intro ls H locs o hl hw hco hf
  have hRm : R = rm := C.2.2.2.1
  subst hRm
  subst hN
  subst hM
  have hts := C.1.2.2.2.2
  have hS := C.2.2.2.2.1
  intro T hT Xs
  obtain ⟨vm₁, cA, comp, -, fA, fC, hO, -, X', step⟩ := Xs.multianewarray2F C.1.1 C.1.2.2.2.1 (hts _ h1) hS.2.2.2.2.2.2 (hts _ h2) (g := F0 m pc ls (.int k :: .int n :: stk)) rfl (by rw [C.1.2.1]; exact hd) rfl hn hk hb1 hb2 hb3 rfl rfl hcs.1 hcs.2
  have g14 := (hS.1.2 1 _ rfl).2
  have g18 := (hS.1.2 5 _ rfl).2
  have e14 : comp = cy 14 := by
    have q : s.vm.findClass (FieldType.array .int).toString = some (cy 14) := g14
    rw [q] at fC
    exact (Option.some.inj fC).symm
  have e18 : cA = cy 18 := by
    have q : s.vm.findClass ("[" ++ (FieldType.array .int).toString) = some (cy 18) := g18
    rw [q] at fA
    exact (Option.some.inj fA).symm
  subst e14
  subst e18
  generalize hF : Jvm.Free.Multi.fill (T.setVm vm₁) (cy 18) (cy 14) n.toNatClampNeg k.toNatClampNeg (defaultValue .int) n.toNatClampNeg = F at X' step
  have hTh : (T.setVm vm₁).heap = H := hT
  obtain ⟨f1, f2, -, -⟩ := Jvm.Free.Multi.fill_facts (T.setVm vm₁) (cy 18) (cy 14) n.toNatClampNeg k.toNatClampNeg (defaultValue .int) n.toNatClampNeg
  rw [hF, hTh] at f1 f2
  have hold : ∀ x : Nat, x < H.size → F.heap[x]? = H[x]? := fun x hx => by
    have := Jvm.Free.Multi.fill_old (T.setVm vm₁) (cy 18) (cy 14) n.toNatClampNeg k.toNatClampNeg (defaultValue .int) (a := x) (by rw [hTh]; exact hx) n.toNatClampNeg
    rw [hF, hTh] at this
    exact this
  have hrow : ∀ j : Nat, j < n.toNatClampNeg → F.heap[H.size + 1 + j]? = some (Jvm.Free.Multi.innerC (cy 14) k.toNatClampNeg (defaultValue .int)) := fun j hj => by
    have := Jvm.Free.Multi.fill_inner (T.setVm vm₁) (cy 18) (cy 14) n.toNatClampNeg k.toNatClampNeg (defaultValue .int) n.toNatClampNeg j hj
    rw [hF, hTh] at this
    exact this
  rw [mOuter] at f2
  have hz : S.2.2.2 = H.size := hw.1.symm
  obtain ⟨w1, w2, w3, w4, w5, w6⟩ := hw
  have key : Wd D cy H0 (nwM S n.toNatClampNeg k.toNatClampNeg) F.heap := by
    refine ⟨by show F.heap.size = S.2.2.2 + 1 + n.toNatClampNeg; omega, by omega, fun q hq => by rw [hold q (by omega)]; exact w3 q hq, fun b hb => ?_, w5, fun j hj => ?_⟩
    · by_cases eb : b = H.size
      · subst eb
        refine ⟨w2, ?_⟩
        have hk1 : (nwM S n.toNatClampNeg k.toNatClampNeg).1 H.size = (18, n.toNatClampNeg) := by simp [nwM, hz]
        rw [ce_r (kd := 18) (by rw [hk1]) (by decide), hk1]
        show F.heap[H.size]? = some (arrV (cy 18) n.toNatClampNeg (fun j => va_rf ((nwM S n.toNatClampNeg k.toNatClampNeg).2.2.1 H.size j)))
        rw [f2]
        simp [nwM, hz]
      · by_cases eb2 : S.2.2.2 < b ∧ b < S.2.2.2 + 1 + n.toNatClampNeg
        · have hk1 : (nwM S n.toNatClampNeg k.toNatClampNeg).1 b = (14, k.toNatClampNeg) := by simp only [nwM]; rw [if_neg (by omega), if_pos eb2]
          have hi1 : (nwM S n.toNatClampNeg k.toNatClampNeg).2.1 b = fun _ => 0 := by simp only [nwM]; rw [if_pos ⟨by omega, eb2.2⟩]
          refine ⟨by omega, ?_⟩
          rw [ce_i (kd := 14) (by rw [hk1]) (by decide) (by decide), hk1, hi1]
          have := hrow (b - H.size - 1) (by omega)
          rw [show H.size + 1 + (b - H.size - 1) = b by omega] at this
          show F.heap[b]? = some (arrV (cy 14) k.toNatClampNeg (fun _ => .int 0))
          rw [this]
          first | rfl | (congr 1; exact arrV_new _ _ _) | (congr 1; exact (arrV_new _ _ _).symm) | simp [Jvm.Free.Multi.innerC, arrV]
        · have hk1 : (nwM S n.toNatClampNeg k.toNatClampNeg).1 b = S.1 b := by simp only [nwM]; rw [if_neg (by omega), if_neg eb2]
          have hi1 : (nwM S n.toNatClampNeg k.toNatClampNeg).2.1 b = S.2.1 b := by simp only [nwM]; rw [if_neg (by omega)]
          have hr1 : (nwM S n.toNatClampNeg k.toNatClampNeg).2.2.1 b = S.2.2.1 b := by simp only [nwM]; rw [if_neg (by omega), if_neg eb2]
          rw [hk1] at hb
          refine ⟨(w4 b hb).1, ?_⟩
          rw [ce_eq (S := S) hk1 hi1 hr1]
          exact (w4 b hb).2.kept (hold b (w4 b hb).2.lt)
    · have e : (nwM S n.toNatClampNeg k.toNatClampNeg).2.2.1 0 = S.2.2.1 0 := by simp only [nwM]; rw [if_neg (by omega), if_neg (by omega)]
      rw [e]
      exact w6 j hj
  have hh := h _ ls F.heap locs o hl key hco hf
  rw [hz] at hh
  have X2 : Stand p l e R s m args below meth c F locs (cells + (1 + n.toNatClampNeg)) (slots + (n.toNatClampNeg + n.toNatClampNeg * k.toNatClampNeg)) := by
    rw [← Nat.add_assoc, ← Nat.add_assoc]
    exact X'
  obtain ⟨t, a1, b1⟩ := hh F rfl X2
  rw [← hT] at a1
  exact ⟨t, step _ a1, b1⟩
end AM
theorem any_same {S : St} {v ci : Nat} {Cn : String} {T : u_T} {D : va_G} {cy : Nat → ClassId} {H0 : Heap} {s : State} {H : Heap} (hs : Sf D cy H0 s) (hw : Wd D cy H0 S H) (hq : (S.1 v).1 = ci + 1) (hci : ci ≤ 11) (hc : vwCl[ci]? = some (Cn, T, nF ci)) : va_Any Cn s H v := by
  obtain ⟨cell, h1, h2, h3⟩ := hw.recv hs hq hci hc
  obtain ⟨kC, hkC, -⟩ := Vm.findClass_spec h3
  refine ⟨cell, h1, h2, ⟨kC, hkC⟩, fun comp h => ?_⟩
  have hca := (hs.1.1 ci _ hc).2
  have e1 : D.1 ci = cell.cls := Option.some.inj (hca.1.symm.trans h3)
  have e2 : D.1 ci = comp := Option.some.inj (hca.1.symm.trans h)
  rw [← e1, ← e2]
  exact va_assign hca
section A6
variable {α β : Type} {Γ : Cx} {cv : α → Option Value × St} {nL cells slots pc : Nat} {lv : List (Nat × Value)} {stk : List Value} {S : St} {f : Option α} {cc : ByteArray} {ret : Option FieldType} {Ts : List Cond} {own : String} {rm : Room} {mc ms : Nat} {r : Option Nat}
theorem g_ast16 (C : CF Γ cc nL ret Ts own rm mc ms) {v : Nat} {i : Int32} {kk : St → Option α} (hd : decode cc pc = .ok (.aastore, 1)) (h : ∀ S2, sR S r 16 i (some v) = some S2 → G Γ cv nL cells slots (pc + 1) lv stk S2 (kk S2)) : G Γ cv nL cells slots pc lv (va_rf (some v) :: .int i :: va_rf r :: stk) S (cK S (some v) 5 ((sR S r 16 i (some v)).bind kk)) := by
  by_cases hq : (S.1 v).1 = 6
  · have e : cK S (some v) 5 ((sR S r 16 i (some v)).bind kk) = (sR S r 16 i (some v)).bind kk := by simp [cK, hq]
    rw [e]
    exact g_astE C (t0 := 3) hd (by decide) (fun _ => rfl) (fun D cy H0 s H hs hw => any_same hs hw (ci := 5) hq (by decide) rfl) h
  · have e : cK S (some v) 5 ((sR S r 16 i (some v)).bind kk) = none := by simp [cK, hq]
    rw [e]
    exact g_none
end A6
