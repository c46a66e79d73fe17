theorem vi_cat (x : Int32) : (Value.int x).category = 1 := rfl
theorem vl_cat (x : Int64) : (Value.long x).category = 2 := rfl
/-- fuel for every loop -/
def FU : Nat := 5000
theorem g_ite {α : Type} {Γ : Cx} {cv : α → Option Value × St} {nL cells slots pc : Nat} {lv : List (Nat × Value)} {stk : List Value} {S : St} {c : Prop} [Decidable c] {f g : Option α} (h1 : c → G Γ cv nL cells slots pc lv stk S f) (h2 : ¬ c → G Γ cv nL cells slots pc lv stk S g) : G Γ cv nL cells slots pc lv stk S (if c then f else g) := by
  by_cases h : c
  · rw [if_pos h]; exact h1 h
  · rw [if_neg h]; exact h2 h
theorem g_lveq {α : Type} {Γ : Cx} {cv : α → Option Value × St} {nL cells slots pc : Nat} {lv lv2 : List (Nat × Value)} {stk : List Value} {S : St} {f : Option α} (hq : lv = lv2) (h : G Γ cv nL cells slots pc lv2 stk S f) : G Γ cv nL cells slots pc lv stk S f := hq ▸ h
theorem sw_n {x v : Int32} {k : Int} (hk : v.toInt = k) (h : ¬ x = v) : x.toInt ≠ k := fun e => h (Int32.toInt_inj.mp (e.trans hk.symm))
theorem rf_fit_a {t : FieldType} (v : Option Nat) : narrow (.array t) (va_rf v) = va_rf v ∧ fits (.array t) (va_rf v) = true := by cases v <;> exact ⟨rfl, rfl⟩
theorem rf_fit_o {n : String} (v : Option Nat) : narrow (.object n) (va_rf v) = va_rf v ∧ fits (.object n) (va_rf v) = true := by cases v <;> exact ⟨rfl, rfl⟩
section MR
variable {α : Type} {Γ : Cx} {cv : α → Option Value × St} {nL cells slots pc : Nat} {lv : List (Nat × Value)} {stk : List Value} {S : St} {f : Option α} {cc : ByteArray} {ret : Option FieldType} {Ts : List Cond} {own : String} {rm : Room} {mc ms : Nat}
theorem g_iinc1 (C : CF Γ cc nL ret Ts own rm mc ms) {i : Nat} {n : Int} {x w : Int32} {kk : Int32 → Option α} (hd : decode cc pc = .ok (.iinc i n, 3)) (k : Nat) (hk : lv[k]? = some (i, .int x)) (hw : Int32.ofInt n = w) (hn : i < nL) (h : ∀ v, G Γ cv nL cells slots (pc + 3) ((i, Value.int v) :: lv.filter (fun q => !(q.1 == i) && !(q.1 + 1 == i && q.2.category == 2))) stk S (kk v)) : G Γ cv nL cells slots pc lv stk S (lt1 (x + w) kk) := g_iinc C hd k hk (by rw [hw]) hn rfl (h (x + w))
theorem g_tableIn (C : CF Γ cc nL ret Ts own rm mc ms) {dflt lo hi : Int} {offs : Array Int} {len : Nat} {x v : Int32} {off : Int} {tgt : Nat} (hd : decode cc pc = .ok (.tableswitch dflt lo hi offs, len)) (hx : x = v) (h1 : ¬ v.toInt < lo) (h2 : ¬ hi < v.toInt) (ho : offs[(v.toInt - lo).toNat]? = some off) (ht : (pc : Int) + off = (tgt : Int)) (h : G Γ cv nL cells slots tgt lv stk S f) : G Γ cv nL cells slots pc lv (.int x :: stk) S f := by
  subst hx
  obtain ⟨p, l, e, R, s, m, args, below, meth, c, D, cy, H0, mc, ms⟩ := Γ
  intro ls H locs o hl hw hc hf
  exact lv_tableIn C.1.1 C.1.2.1 hd h1 h2 ho ht (h ls H locs o hl hw hc hf)
theorem g_tableOut (C : CF Γ cc nL ret Ts own rm mc ms) {dflt lo hi : Int} {offs : Array Int} {len : Nat} {x : Int32} {tgt : Nat} (hd : decode cc pc = .ok (.tableswitch dflt lo hi offs, len)) (h1 : x.toInt < lo ∨ hi < x.toInt) (ht : (pc : Int) + dflt = (tgt : Int)) (h : G Γ cv nL cells slots tgt lv stk S f) : G Γ cv nL cells slots pc lv (.int x :: stk) S f := by
  obtain ⟨p, l, e, R, s, m, args, below, meth, c, D, cy, H0, mc, ms⟩ := Γ
  intro ls H locs o hl hw hc hf
  exact lv_tableOut C.1.1 C.1.2.1 hd h1 ht (h ls H locs o hl hw hc hf)
theorem g_look (C : CF Γ cc nL ret Ts own rm mc ms) {dflt : Int} {ps : Array (Int × Int)} {len : Nat} {x : Int32} {off : Int} {tgt : Nat} (hd : decode cc pc = .ok (.lookupswitch dflt ps, len)) (hp : (ps.toList.zip (ps.toList.drop 1)).all (fun (a, next) => a.1 < next.1) = true) (ho : Op.lookupswitch.offset ps.toList dflt x.toInt = off) (ht : (pc : Int) + off = (tgt : Int)) (h : G Γ cv nL cells slots tgt lv stk S f) : G Γ cv nL cells slots pc lv (.int x :: stk) S f := by
  obtain ⟨p, l, e, R, s, m, args, below, meth, c, D, cy, H0, mc, ms⟩ := Γ
  intro ls H locs o hl hw hc hf
  exact lv_lookup C.1.1 C.1.2.1 hd hp ho ht (h ls H locs o hl hw hc hf)
theorem g_dup2 (C : CF Γ cc nL ret Ts own rm mc ms) {x : Int32} {r : Option Nat} (hd : decode cc pc = .ok (.dup2, 1)) (h : G Γ cv nL cells slots (pc + 1) lv (.int x :: va_rf r :: .int x :: va_rf r :: stk) S f) : G Γ cv nL cells slots pc lv (.int x :: va_rf r :: stk) S f := by
  obtain ⟨p, l, e, R, s, m, args, below, meth, c, D, cy, H0, mc, ms⟩ := Γ
  intro ls H locs o hl hw hc hf
  exact lv_dup2_11 C.1.1 C.1.2.1 hd rfl (va_rf_cat r) (h ls H locs o hl hw hc hf)
end MR
