theorem ce_o {cy : Nat → ClassId} {S : St} {a ci : Nat} (h : (S.1 a).1 = ci + 1) (hc : ci ≤ 11) : ce cy S a = .inr (ci, (List.range (nF ci)).map (fun k => if rF ci k = true then va_rf (S.2.2.1 a k) else .int (S.2.1 a k))) := by
  unfold ce
  rw [if_pos (by omega), h]
  rfl
theorem ce_i {cy : Nat → ClassId} {S : St} {a kd : Nat} (h : (S.1 a).1 = kd) (h1 : 13 ≤ kd) (h2 : kd ≤ 15) : ce cy S a = .inl (cy kd, (S.1 a).2, .inl (S.2.1 a)) := by
  unfold ce
  rw [if_neg (by omega), if_pos (by omega), h]
theorem ce_r {cy : Nat → ClassId} {S : St} {a kd : Nat} (h : (S.1 a).1 = kd) (h1 : 16 ≤ kd) : ce cy S a = .inl (cy kd, (S.1 a).2, .inr (.inr (.inr (.inr (S.2.2.1 a))))) := by
  unfold ce
  rw [if_neg (by omega), if_neg (by omega), h]
theorem ce_eq {cy : Nat → ClassId} {S S2 : St} {b : Nat} (h1 : S2.1 b = S.1 b) (h2 : S2.2.1 b = S.2.1 b) (h3 : S2.2.2.1 b = S.2.2.1 b) : ce cy S2 b = ce cy S b := by
  unfold ce
  rw [h1, h2, h3]
theorem vp_V_map {N j : Nat} {g : Nat → Value} (h : j < N) : vp_V ((List.range N).map g) j = g j := by
  simp [vp_V, List.getD, h]
theorem Wd.one {D : va_G} {cy : Nat → ClassId} {H0 : Heap} {S : St} {H : Heap} {a : Nat} (hw : Wd D cy H0 S H) (h : (S.1 a).1 ≠ 0) : va_P D vwCl [(a, ce cy S a)] H := by
  intro k q hq
  have hz : k < 1 := (List.getElem?_eq_some_iff.mp hq).1
  rw [show k = 0 by omega] at hq
  cases hq
  exact (hw.2.2.2.1 a h).2
/-- one cell is written -/
theorem Wd.put {D : va_G} {cy : Nat → ClassId} {H0 : Heap} {S S2 : St} {H H2 : Heap} {a : Nat} (hw : Wd D cy H0 S H) (ha : (S.1 a).1 ≠ 0) (hk : S2.1 = S.1) (hz : S2.2.2.2 = S.2.2.2) (h2 : ∀ b, b ≠ a → S2.2.1 b = S.2.1 b) (h3 : ∀ b, b ≠ a → S2.2.2.1 b = S.2.2.1 b) (hs : H2.size = H.size) (ho : ∀ q : Nat, q ≠ a → H2[q]? = H[q]?) (hat : va_at D vwCl (a, ce cy S2 a) H2) : Wd D cy H0 S2 H2 := by
  obtain ⟨w1, w2, w3, w4, w5, w6⟩ := hw
  have hA := (w4 a ha).1
  refine ⟨by rw [hs, hz]; exact w1, by rw [hs]; exact w2, fun q hq => by rw [ho q (by omega)]; exact w3 q hq, fun b hb => ?_, w5, fun k hk => by rw [h3 0 (by omega)]; exact w6 k hk⟩
  rw [hk] at hb
  refine ⟨(w4 b hb).1, ?_⟩
  by_cases e : b = a
  · rw [e]; exact hat
  · rw [ce_eq (S := S) (by rw [hk]) (h2 b e) (h3 b e)]
    exact (w4 b hb).2.kept (ho b e)
theorem locs_ok {H0 : Heap} {locs : List Loc} {a k : Nat} (hc : ∀ q ∈ locs, H0.size ≤ q.base) (ha : H0.size ≤ a) : ∀ q ∈ locs ++ [(⟨a, k⟩ : Loc)], H0.size ≤ q.base := by
  intro q hq
  rcases List.mem_append.mp hq with h | h
  · exact hc q h
  · rw [List.mem_singleton.mp h]; exact ha
section HP
variable {α : Type} {Γ : Cx} {cv : α → Option Value × St} {nL cells slots pc : Nat} {lv : List (Nat × Value)} {stk : List Value} {S : St} {cc : ByteArray} {ret : Option FieldType} {Ts : List Cond} {own : String} {rm : Room} {mc ms : Nat}
theorem g_getI (C : CF Γ cc nL ret Ts own rm mc ms) {r : Option Nat} {ci k : Nat} {kk : Int32 → Option α} {Cn ref : String} {T : u_T} {idx : Nat} (hd : decode cc pc = .ok (.getfield idx, 3)) (hc : vwCl[ci]? = some (Cn, T, nF ci)) (hci : ci ≤ 11) (hk : k < nF ci) (hrf : rF ci k = false) (hin : ∀ w ∈ u_ws Cn T (nF ci), w ∈ Ts) (hlink : Cond.fieldLink own idx ref (T k).2.1 (T k).2.2.1 ∈ Ts) (href : (T k).1 = ref) (h : ∀ v, gI S r ci k = some v → G Γ cv nL cells slots (pc + 3) lv (.int v :: stk) S (kk v)) : G Γ cv nL cells slots pc lv (va_rf r :: stk) S ((gI S r ci k).bind kk) := by
  obtain ⟨p, l, e, R, s, m, args, below, meth, c, D, cy, H0, mc, ms⟩ := Γ
  intro ls H locs o hl hw hco hf
  cases r with
  | none => simp [gI] at hf
  | some a =>
    by_cases hq : (S.1 a).1 = ci + 1
    · have e1 : gI S (some a) ci k = some (S.2.1 a k) := by simp [gI, hq]
      rw [e1] at hf
      have hP := hw.one (a := a) (by omega)
      rw [ce_o hq hci] at hP
      exact va_get (D := D) (ci := ci) (v := .int (S.2.1 a k)) C.1.1 C.1.2.1 C.1.2.2.2.2 hin C.1.2.2.2.1 C.2.2.2.2.1.1 hP 0 rfl hc k hk (C.1.2.2.2.2 _ hlink) (fun _ h9 => by rw [← href]; exact h9) (by simp [hk, hrf]) hd (h _ e1 ls H locs o hl hw hco hf)
    · simp [gI, hq] at hf
theorem g_getR (C : CF Γ cc nL ret Ts own rm mc ms) {r : Option Nat} {ci k : Nat} {kk : Option Nat → Option α} {Cn ref : String} {T : u_T} {idx : Nat} (hd : decode cc pc = .ok (.getfield idx, 3)) (hc : vwCl[ci]? = some (Cn, T, nF ci)) (hci : ci ≤ 11) (hk : k < nF ci) (hrf : rF ci k = true) (hin : ∀ w ∈ u_ws Cn T (nF ci), w ∈ Ts) (hlink : Cond.fieldLink own idx ref (T k).2.1 (T k).2.2.1 ∈ Ts) (href : (T k).1 = ref) (h : ∀ v, gR S r ci k = some v → G Γ cv nL cells slots (pc + 3) lv (va_rf v :: stk) S (kk v)) : G Γ cv nL cells slots pc lv (va_rf r :: stk) S ((gR S r ci k).bind kk) := by
  obtain ⟨p, l, e, R, s, m, args, below, meth, c, D, cy, H0, mc, ms⟩ := Γ
  intro ls H locs o hl hw hco hf
  cases r with
  | none => simp [gR] at hf
  | some a =>
    by_cases hq : (S.1 a).1 = ci + 1
    · have e1 : gR S (some a) ci k = some (S.2.2.1 a k) := by simp [gR, hq]
      rw [e1] at hf
      have hP := hw.one (a := a) (by omega)
      rw [ce_o hq hci] at hP
      exact va_get (D := D) (ci := ci) (v := va_rf (S.2.2.1 a k)) C.1.1 C.1.2.1 C.1.2.2.2.2 hin C.1.2.2.2.1 C.2.2.2.2.1.1 hP 0 rfl hc k hk (C.1.2.2.2.2 _ hlink) (fun _ h9 => by rw [← href]; exact h9) (by simp [hk, hrf]) hd (h _ e1 ls H locs o hl hw hco hf)
    · simp [gR, hq] at hf
theorem g_putI (C : CF Γ cc nL ret Ts own rm mc ms) {r : Option Nat} {ci k : Nat} {v : Int32} {kk : St → Option α} {Cn ref : String} {T : u_T} {idx : Nat} {ty0 : Nat → FieldType} (hd : decode cc pc = .ok (.putfield idx, 3)) (hc : vwCl[ci]? = some (Cn, T, nF ci)) (hci : ci ≤ 11) (hk : k < nF ci) (hrf : rF ci k = false) (hty : ∀ k, k < nF ci → parseFieldDescriptor (T k).2.2.1 = some (ty0 k)) (hnm : ∀ a, a < nF ci → ∀ b, b < nF ci → a ≠ b → (T a).2.1 ≠ (T b).2.1) (hin : ∀ w ∈ u_ws Cn T (nF ci), w ∈ Ts) (hlink : Cond.fieldLink own idx ref (T k).2.1 (T k).2.2.1 ∈ Ts) (href : (T k).1 = ref) (hfin : (T k).2.2.2 = false) (hfit : narrow (ty0 k) (.int v) = .int v ∧ fits (ty0 k) (.int v) = true) (h : ∀ S2, pI S r ci k v = some S2 → G Γ cv nL cells slots (pc + 3) lv stk S2 (kk S2)) : G Γ cv nL cells slots pc lv (.int v :: va_rf r :: stk) S ((pI S r ci k v).bind kk) := by
  obtain ⟨p, l, e, R, s, m, args, below, meth, c, D, cy, H0, mc, ms⟩ := Γ
  intro ls H locs o hl hw hco hf
  cases r with
  | none => simp [pI] at hf
  | some a =>
    by_cases hq : (S.1 a).1 = ci + 1
    · have e1 : pI S (some a) ci k v = some (S.1, up2 S.2.1 a k v, S.2.2) := by simp [pI, hq]
      rw [e1] at hf
      have hA := (hw.2.2.2.1 a (by omega)).1
      have hat := (hw.2.2.2.1 a (by omega)).2
      rw [ce_o hq hci] at hat
      obtain ⟨q, h1, cell, q1, q2, q3, q4⟩ := hat
      have hr : q = (Cn, T, nF ci) := Option.some.inj (h1.symm.trans hc)
      subst hr
      have hts := C.1.2.2.2.2
      have hK := C.2.2.2.2.1.1
      have hap := va_apart (own := own) hts hin ty0 hty hnm hK hc
      obtain ⟨hS, hfc, kC, hkC, hkind⟩ := hK.1 ci _ hc
      obtain ⟨cf, kf, fi, fd, hi, hsl⟩ := hS k hk
      have hlay := hts _ (hin _ (u_in_lay hk))
      unfold u_lay at hlay
      rw [if_neg (by rw [hfin]; decide)] at hlay
      have hst := (u_facts hfc hkC (u_lays hts hin hk) hi).1
      have h6 := u_store hfc hkC hkind hlay hi (hty k hk) hfit.1 hfit.2
      have hlt : fd.slot < cell.slots.size := by rw [hsl]; exact k2_hasslot (q4 k hk)
      refine W.putK C.1.1 C.1.2.1 (f := fd) ⟨C.1.2.2.2.1, hts _ hlink, ⟨_, _, _, by rw [← href]; exact hi⟩, hst⟩ (by rw [q2]; exact h6) q1 q3 hlt rfl rfl hd fun H2 e2 e3 e4 => ?_
      refine h _ e1 ls H2 _ o hl ?_ (locs_ok hco hA) hf
      refine hw.put (a := a) (by omega) rfl rfl (fun b hb => up2_na _ _ hb) (fun b hb => rfl) e3 e4 ?_
      rw [ce_o (S := (S.1, up2 S.2.1 a k v, S.2.2)) hq hci]
      refine ⟨_, hc, t_OB.to (V := updV (vp_V ((List.range (nF ci)).map (fun k => if rF ci k = true then va_rf (S.2.2.1 a k) else .int (S.2.1 a k)))) k (.int v)) ⟨_, e2, q2, q3, by rw [hsl]; exact t_set q4 hap hk _⟩ (fun j hj => ?_)⟩
      rw [vp_V_map hj]
      by_cases ej : j = k
      · subst ej; simp [updV, hrf, up2]
      · simp only [updV, if_neg ej, vp_V_map hj, up2]
        simp [ej]
    · simp [pI, hq] at hf
theorem g_putR (C : CF Γ cc nL ret Ts own rm mc ms) {r : Option Nat} {ci k : Nat} {v : Option Nat} {kk : St → Option α} {Cn ref : String} {T : u_T} {idx : Nat} {ty0 : Nat → FieldType} (hd : decode cc pc = .ok (.putfield idx, 3)) (hc : vwCl[ci]? = some (Cn, T, nF ci)) (hci : ci ≤ 11) (hk : k < nF ci) (hrf : rF ci k = true) (hty : ∀ k, k < nF ci → parseFieldDescriptor (T k).2.2.1 = some (ty0 k)) (hnm : ∀ a, a < nF ci → ∀ b, b < nF ci → a ≠ b → (T a).2.1 ≠ (T b).2.1) (hin : ∀ w ∈ u_ws Cn T (nF ci), w ∈ Ts) (hlink : Cond.fieldLink own idx ref (T k).2.1 (T k).2.2.1 ∈ Ts) (href : (T k).1 = ref) (hfin : (T k).2.2.2 = false) (hfit : narrow (ty0 k) (va_rf v) = va_rf v ∧ fits (ty0 k) (va_rf v) = true) (h : ∀ S2, pR S r ci k v = some S2 → G Γ cv nL cells slots (pc + 3) lv stk S2 (kk S2)) : G Γ cv nL cells slots pc lv (va_rf v :: va_rf r :: stk) S ((pR S r ci k v).bind kk) := by
  obtain ⟨p, l, e, R, s, m, args, below, meth, c, D, cy, H0, mc, ms⟩ := Γ
  intro ls H locs o hl hw hco hf
  cases r with
  | none => simp [pR] at hf
  | some a =>
    by_cases hq : (S.1 a).1 = ci + 1
    · have e1 : pR S (some a) ci k v = some (S.1, S.2.1, up2 S.2.2.1 a k v, S.2.2.2) := by simp [pR, hq]
      rw [e1] at hf
      have hA := (hw.2.2.2.1 a (by omega)).1
      have hat := (hw.2.2.2.1 a (by omega)).2
      rw [ce_o hq hci] at hat
      obtain ⟨q, h1, cell, q1, q2, q3, q4⟩ := hat
      have hr : q = (Cn, T, nF ci) := Option.some.inj (h1.symm.trans hc)
      subst hr
      have hts := C.1.2.2.2.2
      have hK := C.2.2.2.2.1.1
      have hap := va_apart (own := own) hts hin ty0 hty hnm hK hc
      obtain ⟨hS, hfc, kC, hkC, hkind⟩ := hK.1 ci _ hc
      obtain ⟨cf, kf, fi, fd, hi, hsl⟩ := hS k hk
      have hlay := hts _ (hin _ (u_in_lay hk))
      unfold u_lay at hlay
      rw [if_neg (by rw [hfin]; decide)] at hlay
      have hst := (u_facts hfc hkC (u_lays hts hin hk) hi).1
      have h6 := u_store hfc hkC hkind hlay hi (hty k hk) hfit.1 hfit.2
      have hlt : fd.slot < cell.slots.size := by rw [hsl]; exact k2_hasslot (q4 k hk)
      refine W.putK C.1.1 C.1.2.1 (f := fd) ⟨C.1.2.2.2.1, hts _ hlink, ⟨_, _, _, by rw [← href]; exact hi⟩, hst⟩ (by rw [q2]; exact h6) q1 q3 hlt rfl rfl hd fun H2 e2 e3 e4 => ?_
      refine h _ e1 ls H2 _ o hl ?_ (locs_ok hco hA) hf
      refine hw.put (a := a) (by omega) rfl rfl (fun b hb => rfl) (fun b hb => up2_na _ _ hb) e3 e4 ?_
      rw [ce_o (S := (S.1, S.2.1, up2 S.2.2.1 a k v, S.2.2.2)) hq hci]
      refine ⟨_, hc, t_OB.to (V := updV (vp_V ((List.range (nF ci)).map (fun k => if rF ci k = true then va_rf (S.2.2.1 a k) else .int (S.2.1 a k)))) k (va_rf v)) ⟨_, e2, q2, q3, by rw [hsl]; exact t_set q4 hap hk _⟩ (fun j hj => ?_)⟩
      rw [vp_V_map hj]
      by_cases ej : j = k
      · subst ej; simp [updV, hrf, up2]
      · simp only [updV, if_neg ej, vp_V_map hj, up2]
        simp [ej]
    · simp [pR, hq] at hf
end HP
