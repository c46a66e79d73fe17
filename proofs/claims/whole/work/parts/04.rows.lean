theorem g_iconst {α : Type} {Γ : Cx} {cv : α → Option Value × St} {nL cells slots pc : Nat} {lv : List (Nat × Value)} {stk : List Value} {S : St} {f : Option α} {cc : ByteArray} {ret : Option FieldType} {Ts : List Cond} {own : String} {rm : Room} {mc ms : Nat} (C : CF Γ cc nL ret Ts own rm mc ms) {n : Int} {v : Int32} (hd : decode cc pc = .ok (.iconst n, 1)) (hv : Int32.ofInt n = v) (h : G Γ cv nL cells slots (pc + 1) lv (.int v :: stk) S f) : G Γ cv nL cells slots (pc) lv (stk) S f := by
  obtain ⟨p, l, e, R, s, m, args, below, meth, c, D, cy, H0, mc, ms⟩ := Γ
  intro ls H locs o hl hw hc hf
  exact lv_iconst C.1.1 C.1.2.1 hd hv (h ls H locs o hl hw hc hf)
theorem g_bipush {α : Type} {Γ : Cx} {cv : α → Option Value × St} {nL cells slots pc : Nat} {lv : List (Nat × Value)} {stk : List Value} {S : St} {f : Option α} {cc : ByteArray} {ret : Option FieldType} {Ts : List Cond} {own : String} {rm : Room} {mc ms : Nat} (C : CF Γ cc nL ret Ts own rm mc ms) {n : Int} {v : Int32} (hd : decode cc pc = .ok (.bipush n, 2)) (hv : (Int8.ofInt n).toInt32 = v) (h : G Γ cv nL cells slots (pc + 2) lv (.int v :: stk) S f) : G Γ cv nL cells slots (pc) lv (stk) S f := by
  obtain ⟨p, l, e, R, s, m, args, below, meth, c, D, cy, H0, mc, ms⟩ := Γ
  intro ls H locs o hl hw hc hf
  exact lv_bipush C.1.1 C.1.2.1 hd hv (h ls H locs o hl hw hc hf)
theorem g_sipush {α : Type} {Γ : Cx} {cv : α → Option Value × St} {nL cells slots pc : Nat} {lv : List (Nat × Value)} {stk : List Value} {S : St} {f : Option α} {cc : ByteArray} {ret : Option FieldType} {Ts : List Cond} {own : String} {rm : Room} {mc ms : Nat} (C : CF Γ cc nL ret Ts own rm mc ms) {n : Int} {v : Int32} (hd : decode cc pc = .ok (.sipush n, 3)) (hv : (Int16.ofInt n).toInt32 = v) (h : G Γ cv nL cells slots (pc + 3) lv (.int v :: stk) S f) : G Γ cv nL cells slots (pc) lv (stk) S f := by
  obtain ⟨p, l, e, R, s, m, args, below, meth, c, D, cy, H0, mc, ms⟩ := Γ
  intro ls H locs o hl hw hc hf
  exact lv_sipush C.1.1 C.1.2.1 hd hv (h ls H locs o hl hw hc hf)
theorem g_lconst {α : Type} {Γ : Cx} {cv : α → Option Value × St} {nL cells slots pc : Nat} {lv : List (Nat × Value)} {stk : List Value} {S : St} {f : Option α} {cc : ByteArray} {ret : Option FieldType} {Ts : List Cond} {own : String} {rm : Room} {mc ms : Nat} (C : CF Γ cc nL ret Ts own rm mc ms) {n : Fin 2} {v : Int64} (hd : decode cc pc = .ok (.lconst n, 1)) (hv : Int64.ofNat (n : Nat) = v) (h : G Γ cv nL cells slots (pc + 1) lv (.long v :: stk) S f) : G Γ cv nL cells slots (pc) lv (stk) S f := by
  obtain ⟨p, l, e, R, s, m, args, below, meth, c, D, cy, H0, mc, ms⟩ := Γ
  intro ls H locs o hl hw hc hf
  exact lv_lconst C.1.1 C.1.2.1 hd hv (h ls H locs o hl hw hc hf)
theorem g_ldc {α : Type} {Γ : Cx} {cv : α → Option Value × St} {nL cells slots pc : Nat} {lv : List (Nat × Value)} {stk : List Value} {S : St} {f : Option α} {cc : ByteArray} {ret : Option FieldType} {Ts : List Cond} {own : String} {rm : Room} {mc ms : Nat} (C : CF Γ cc nL ret Ts own rm mc ms) {i : Nat} {v : Int32} (hd : decode cc pc = .ok (.ldc i, 2)) (hk : Cond.constant own i v ∈ Ts) (h : G Γ cv nL cells slots (pc + 2) lv (.int v :: stk) S f) : G Γ cv nL cells slots (pc) lv (stk) S f := by
  obtain ⟨p, l, e, R, s, m, args, below, meth, c, D, cy, H0, mc, ms⟩ := Γ
  intro ls H locs o hl hw hc hf
  exact lv_ldc C.1.1 C.1.2.1 C.1.2.2.2.1 (C.1.2.2.2.2 _ hk) hd (h ls H locs o hl hw hc hf)
theorem g_ldcw {α : Type} {Γ : Cx} {cv : α → Option Value × St} {nL cells slots pc : Nat} {lv : List (Nat × Value)} {stk : List Value} {S : St} {f : Option α} {cc : ByteArray} {ret : Option FieldType} {Ts : List Cond} {own : String} {rm : Room} {mc ms : Nat} (C : CF Γ cc nL ret Ts own rm mc ms) {i : Nat} {v : Int32} (hd : decode cc pc = .ok (.ldc_w i, 3)) (hk : Cond.constant own i v ∈ Ts) (h : G Γ cv nL cells slots (pc + 3) lv (.int v :: stk) S f) : G Γ cv nL cells slots (pc) lv (stk) S f := by
  obtain ⟨p, l, e, R, s, m, args, below, meth, c, D, cy, H0, mc, ms⟩ := Γ
  intro ls H locs o hl hw hc hf
  exact lv_ldcw C.1.1 C.1.2.1 C.1.2.2.2.1 (C.1.2.2.2.2 _ hk) hd (h ls H locs o hl hw hc hf)
theorem g_ldc2 {α : Type} {Γ : Cx} {cv : α → Option Value × St} {nL cells slots pc : Nat} {lv : List (Nat × Value)} {stk : List Value} {S : St} {f : Option α} {cc : ByteArray} {ret : Option FieldType} {Ts : List Cond} {own : String} {rm : Room} {mc ms : Nat} (C : CF Γ cc nL ret Ts own rm mc ms) {i : Nat} {v : Int64} (hd : decode cc pc = .ok (.ldc2_w i, 3)) (hk : Cond.constantLong own i v ∈ Ts) (h : G Γ cv nL cells slots (pc + 3) lv (.long v :: stk) S f) : G Γ cv nL cells slots (pc) lv (stk) S f := by
  obtain ⟨p, l, e, R, s, m, args, below, meth, c, D, cy, H0, mc, ms⟩ := Γ
  intro ls H locs o hl hw hc hf
  exact lv_ldc2 C.1.1 C.1.2.1 C.1.2.2.2.1 (C.1.2.2.2.2 _ hk) hd (h ls H locs o hl hw hc hf)
theorem g_iload_n {α : Type} {Γ : Cx} {cv : α → Option Value × St} {nL cells slots pc : Nat} {lv : List (Nat × Value)} {stk : List Value} {S : St} {f : Option α} {cc : ByteArray} {ret : Option FieldType} {Ts : List Cond} {own : String} {rm : Room} {mc ms : Nat} (C : CF Γ cc nL ret Ts own rm mc ms) {j : Fin 4} {i : Nat} {x : Int32} (hd : decode cc pc = .ok (.iload_n j, 1)) (hi : (j : Nat) = i) (k : Nat) (hk : lv[k]? = some (i, .int x)) (h : G Γ cv nL cells slots (pc + 1) lv (.int x :: stk) S f) : G Γ cv nL cells slots (pc) lv (stk) S f := by
  obtain ⟨p, l, e, R, s, m, args, below, meth, c, D, cy, H0, mc, ms⟩ := Γ
  intro ls H locs o hl hw hc hf
  exact lv_iload_n C.1.1 C.1.2.1 hd hi (lv_at hl k hk) (h ls H locs o hl hw hc hf)
theorem g_iload {α : Type} {Γ : Cx} {cv : α → Option Value × St} {nL cells slots pc : Nat} {lv : List (Nat × Value)} {stk : List Value} {S : St} {f : Option α} {cc : ByteArray} {ret : Option FieldType} {Ts : List Cond} {own : String} {rm : Room} {mc ms : Nat} (C : CF Γ cc nL ret Ts own rm mc ms) {i : Nat} {x : Int32} (hd : decode cc pc = .ok (.iload i, 2)) (k : Nat) (hk : lv[k]? = some (i, .int x)) (h : G Γ cv nL cells slots (pc + 2) lv (.int x :: stk) S f) : G Γ cv nL cells slots (pc) lv (stk) S f := by
  obtain ⟨p, l, e, R, s, m, args, below, meth, c, D, cy, H0, mc, ms⟩ := Γ
  intro ls H locs o hl hw hc hf
  exact lv_iload C.1.1 C.1.2.1 hd (lv_at hl k hk) (h ls H locs o hl hw hc hf)
theorem g_lload_n {α : Type} {Γ : Cx} {cv : α → Option Value × St} {nL cells slots pc : Nat} {lv : List (Nat × Value)} {stk : List Value} {S : St} {f : Option α} {cc : ByteArray} {ret : Option FieldType} {Ts : List Cond} {own : String} {rm : Room} {mc ms : Nat} (C : CF Γ cc nL ret Ts own rm mc ms) {j : Fin 4} {i : Nat} {x : Int64} (hd : decode cc pc = .ok (.lload_n j, 1)) (hi : (j : Nat) = i) (k : Nat) (hk : lv[k]? = some (i, .long x)) (h : G Γ cv nL cells slots (pc + 1) lv (.long x :: stk) S f) : G Γ cv nL cells slots (pc) lv (stk) S f := by
  obtain ⟨p, l, e, R, s, m, args, below, meth, c, D, cy, H0, mc, ms⟩ := Γ
  intro ls H locs o hl hw hc hf
  exact lv_lload_n C.1.1 C.1.2.1 hd hi (lv_at hl k hk) (h ls H locs o hl hw hc hf)
theorem g_lload {α : Type} {Γ : Cx} {cv : α → Option Value × St} {nL cells slots pc : Nat} {lv : List (Nat × Value)} {stk : List Value} {S : St} {f : Option α} {cc : ByteArray} {ret : Option FieldType} {Ts : List Cond} {own : String} {rm : Room} {mc ms : Nat} (C : CF Γ cc nL ret Ts own rm mc ms) {i : Nat} {x : Int64} (hd : decode cc pc = .ok (.lload i, 2)) (k : Nat) (hk : lv[k]? = some (i, .long x)) (h : G Γ cv nL cells slots (pc + 2) lv (.long x :: stk) S f) : G Γ cv nL cells slots (pc) lv (stk) S f := by
  obtain ⟨p, l, e, R, s, m, args, below, meth, c, D, cy, H0, mc, ms⟩ := Γ
  intro ls H locs o hl hw hc hf
  exact lv_lload C.1.1 C.1.2.1 hd (lv_at hl k hk) (h ls H locs o hl hw hc hf)
theorem g_aload_n {α : Type} {Γ : Cx} {cv : α → Option Value × St} {nL cells slots pc : Nat} {lv : List (Nat × Value)} {stk : List Value} {S : St} {f : Option α} {cc : ByteArray} {ret : Option FieldType} {Ts : List Cond} {own : String} {rm : Room} {mc ms : Nat} (C : CF Γ cc nL ret Ts own rm mc ms) {j : Fin 4} {i : Nat} {r : Option Nat} (hd : decode cc pc = .ok (.aload_n j, 1)) (hi : (j : Nat) = i) (k : Nat) (hk : lv[k]? = some (i, va_rf r)) (h : G Γ cv nL cells slots (pc + 1) lv (va_rf r :: stk) S f) : G Γ cv nL cells slots (pc) lv (stk) S f := by
  obtain ⟨p, l, e, R, s, m, args, below, meth, c, D, cy, H0, mc, ms⟩ := Γ
  intro ls H locs o hl hw hc hf
  cases r with
  | none => exact lv_aload_nN C.1.1 C.1.2.1 hd hi (lv_at hl k hk) (h ls H locs o hl hw hc hf)
  | some a => exact lv_aload_n C.1.1 C.1.2.1 hd hi (lv_at hl k hk) (h ls H locs o hl hw hc hf)
theorem g_aload {α : Type} {Γ : Cx} {cv : α → Option Value × St} {nL cells slots pc : Nat} {lv : List (Nat × Value)} {stk : List Value} {S : St} {f : Option α} {cc : ByteArray} {ret : Option FieldType} {Ts : List Cond} {own : String} {rm : Room} {mc ms : Nat} (C : CF Γ cc nL ret Ts own rm mc ms) {i : Nat} {r : Option Nat} (hd : decode cc pc = .ok (.aload i, 2)) (k : Nat) (hk : lv[k]? = some (i, va_rf r)) (h : G Γ cv nL cells slots (pc + 2) lv (va_rf r :: stk) S f) : G Γ cv nL cells slots (pc) lv (stk) S f := by
  obtain ⟨p, l, e, R, s, m, args, below, meth, c, D, cy, H0, mc, ms⟩ := Γ
  intro ls H locs o hl hw hc hf
  cases r with
  | none => exact lv_aloadN C.1.1 C.1.2.1 hd (lv_at hl k hk) (h ls H locs o hl hw hc hf)
  | some a => exact lv_aload C.1.1 C.1.2.1 hd (lv_at hl k hk) (h ls H locs o hl hw hc hf)
theorem g_istore_n {α : Type} {Γ : Cx} {cv : α → Option Value × St} {nL cells slots pc : Nat} {lv : List (Nat × Value)} {stk : List Value} {S : St} {f : Option α} {cc : ByteArray} {ret : Option FieldType} {Ts : List Cond} {own : String} {rm : Room} {mc ms : Nat} (C : CF Γ cc nL ret Ts own rm mc ms) {j : Fin 4} {i : Nat} {x : Int32} {lv2 : List (Nat × Value)} (hd : decode cc pc = .ok (.istore_n j, 1)) (hi : (j : Nat) = i) (hn : i < nL) (hq : (i, Value.int x) :: lv.filter (fun q => !(q.1 == i) && !(q.1 + 1 == i && q.2.category == 2)) = lv2) (h : G Γ cv nL cells slots (pc + 1) lv2 (stk) S f) : G Γ cv nL cells slots (pc) lv (.int x :: stk) S f := by
  obtain ⟨p, l, e, R, s, m, args, below, meth, c, D, cy, H0, mc, ms⟩ := Γ
  intro ls H locs o hl hw hc hf
  exact lv_istore_n C.1.1 C.1.2.1 hd hi hl hn hq (fun ls2 hl2 => h ls2 H locs o hl2 hw hc hf)
theorem g_istore {α : Type} {Γ : Cx} {cv : α → Option Value × St} {nL cells slots pc : Nat} {lv : List (Nat × Value)} {stk : List Value} {S : St} {f : Option α} {cc : ByteArray} {ret : Option FieldType} {Ts : List Cond} {own : String} {rm : Room} {mc ms : Nat} (C : CF Γ cc nL ret Ts own rm mc ms) {i : Nat} {x : Int32} {lv2 : List (Nat × Value)} (hd : decode cc pc = .ok (.istore i, 2)) (hn : i < nL) (hq : (i, Value.int x) :: lv.filter (fun q => !(q.1 == i) && !(q.1 + 1 == i && q.2.category == 2)) = lv2) (h : G Γ cv nL cells slots (pc + 2) lv2 (stk) S f) : G Γ cv nL cells slots (pc) lv (.int x :: stk) S f := by
  obtain ⟨p, l, e, R, s, m, args, below, meth, c, D, cy, H0, mc, ms⟩ := Γ
  intro ls H locs o hl hw hc hf
  exact lv_istore C.1.1 C.1.2.1 hd hl hn hq (fun ls2 hl2 => h ls2 H locs o hl2 hw hc hf)
theorem g_lstore_n {α : Type} {Γ : Cx} {cv : α → Option Value × St} {nL cells slots pc : Nat} {lv : List (Nat × Value)} {stk : List Value} {S : St} {f : Option α} {cc : ByteArray} {ret : Option FieldType} {Ts : List Cond} {own : String} {rm : Room} {mc ms : Nat} (C : CF Γ cc nL ret Ts own rm mc ms) {j : Fin 4} {i : Nat} {x : Int64} {lv2 : List (Nat × Value)} (hd : decode cc pc = .ok (.lstore_n j, 1)) (hi : (j : Nat) = i) (hn : i + 1 < nL) (hq : (i, Value.long x) :: lv.filter (fun q => !(q.1 == i) && (!(q.1 == i + 1) && !(q.1 + 1 == i && q.2.category == 2))) = lv2) (h : G Γ cv nL cells slots (pc + 1) lv2 (stk) S f) : G Γ cv nL cells slots (pc) lv (.long x :: stk) S f := by
  obtain ⟨p, l, e, R, s, m, args, below, meth, c, D, cy, H0, mc, ms⟩ := Γ
  intro ls H locs o hl hw hc hf
  exact lv_lstore_n C.1.1 C.1.2.1 hd hi hl hn hq (fun ls2 hl2 => h ls2 H locs o hl2 hw hc hf)
theorem g_astore_n {α : Type} {Γ : Cx} {cv : α → Option Value × St} {nL cells slots pc : Nat} {lv : List (Nat × Value)} {stk : List Value} {S : St} {f : Option α} {cc : ByteArray} {ret : Option FieldType} {Ts : List Cond} {own : String} {rm : Room} {mc ms : Nat} (C : CF Γ cc nL ret Ts own rm mc ms) {j : Fin 4} {i : Nat} {r : Option Nat} {lv2 : List (Nat × Value)} (hd : decode cc pc = .ok (.astore_n j, 1)) (hi : (j : Nat) = i) (hn : i < nL) (hq : (i, va_rf r) :: lv.filter (fun q => !(q.1 == i) && !(q.1 + 1 == i && q.2.category == 2)) = lv2) (h : G Γ cv nL cells slots (pc + 1) lv2 (stk) S f) : G Γ cv nL cells slots (pc) lv (va_rf r :: stk) S f := by
  obtain ⟨p, l, e, R, s, m, args, below, meth, c, D, cy, H0, mc, ms⟩ := Γ
  intro ls H locs o hl hw hc hf
  cases r with
  | none => exact lv_astore_nN C.1.1 C.1.2.1 hd hi hl hn hq (fun ls2 hl2 => h ls2 H locs o hl2 hw hc hf)
  | some a => exact lv_astore_n C.1.1 C.1.2.1 hd hi hl hn hq (fun ls2 hl2 => h ls2 H locs o hl2 hw hc hf)
theorem g_astore {α : Type} {Γ : Cx} {cv : α → Option Value × St} {nL cells slots pc : Nat} {lv : List (Nat × Value)} {stk : List Value} {S : St} {f : Option α} {cc : ByteArray} {ret : Option FieldType} {Ts : List Cond} {own : String} {rm : Room} {mc ms : Nat} (C : CF Γ cc nL ret Ts own rm mc ms) {i : Nat} {r : Option Nat} {lv2 : List (Nat × Value)} (hd : decode cc pc = .ok (.astore i, 2)) (hn : i < nL) (hq : (i, va_rf r) :: lv.filter (fun q => !(q.1 == i) && !(q.1 + 1 == i && q.2.category == 2)) = lv2) (h : G Γ cv nL cells slots (pc + 2) lv2 (stk) S f) : G Γ cv nL cells slots (pc) lv (va_rf r :: stk) S f := by
  obtain ⟨p, l, e, R, s, m, args, below, meth, c, D, cy, H0, mc, ms⟩ := Γ
  intro ls H locs o hl hw hc hf
  cases r with
  | none => exact lv_astoreN C.1.1 C.1.2.1 hd hl hn hq (fun ls2 hl2 => h ls2 H locs o hl2 hw hc hf)
  | some a => exact lv_astore C.1.1 C.1.2.1 hd hl hn hq (fun ls2 hl2 => h ls2 H locs o hl2 hw hc hf)
theorem g_iinc {α : Type} {Γ : Cx} {cv : α → Option Value × St} {nL cells slots pc : Nat} {lv : List (Nat × Value)} {stk : List Value} {S : St} {f : Option α} {cc : ByteArray} {ret : Option FieldType} {Ts : List Cond} {own : String} {rm : Room} {mc ms : Nat} (C : CF Γ cc nL ret Ts own rm mc ms) {i : Nat} {n : Int} {x v : Int32} {lv2 : List (Nat × Value)} (hd : decode cc pc = .ok (.iinc i n, 3)) (k : Nat) (hk : lv[k]? = some (i, .int x)) (hv : x + Int32.ofInt n = v) (hn : i < nL) (hq : (i, Value.int v) :: lv.filter (fun q => !(q.1 == i) && !(q.1 + 1 == i && q.2.category == 2)) = lv2) (h : G Γ cv nL cells slots (pc + 3) lv2 (stk) S f) : G Γ cv nL cells slots (pc) lv (stk) S f := by
  obtain ⟨p, l, e, R, s, m, args, below, meth, c, D, cy, H0, mc, ms⟩ := Γ
  intro ls H locs o hl hw hc hf
  exact lv_iinc C.1.1 C.1.2.1 hd hl hk hv hn hq (fun ls2 hl2 => h ls2 H locs o hl2 hw hc hf)
theorem g_iadd {α : Type} {Γ : Cx} {cv : α → Option Value × St} {nL cells slots pc : Nat} {lv : List (Nat × Value)} {stk : List Value} {S : St} {f : Option α} {cc : ByteArray} {ret : Option FieldType} {Ts : List Cond} {own : String} {rm : Room} {mc ms : Nat} (C : CF Γ cc nL ret Ts own rm mc ms) {x y : Int32} (hd : decode cc pc = .ok (.iadd, 1)) (h : G Γ cv nL cells slots (pc + 1) lv (.int (x + y) :: stk) S f) : G Γ cv nL cells slots (pc) lv (.int y :: .int x :: stk) S f := by
  obtain ⟨p, l, e, R, s, m, args, below, meth, c, D, cy, H0, mc, ms⟩ := Γ
  intro ls H locs o hl hw hc hf
  exact lv_iadd C.1.1 C.1.2.1 hd (h ls H locs o hl hw hc hf)
theorem g_isub {α : Type} {Γ : Cx} {cv : α → Option Value × St} {nL cells slots pc : Nat} {lv : List (Nat × Value)} {stk : List Value} {S : St} {f : Option α} {cc : ByteArray} {ret : Option FieldType} {Ts : List Cond} {own : String} {rm : Room} {mc ms : Nat} (C : CF Γ cc nL ret Ts own rm mc ms) {x y : Int32} (hd : decode cc pc = .ok (.isub, 1)) (h : G Γ cv nL cells slots (pc + 1) lv (.int (x - y) :: stk) S f) : G Γ cv nL cells slots (pc) lv (.int y :: .int x :: stk) S f := by
  obtain ⟨p, l, e, R, s, m, args, below, meth, c, D, cy, H0, mc, ms⟩ := Γ
  intro ls H locs o hl hw hc hf
  exact lv_isub C.1.1 C.1.2.1 hd (h ls H locs o hl hw hc hf)
theorem g_imul {α : Type} {Γ : Cx} {cv : α → Option Value × St} {nL cells slots pc : Nat} {lv : List (Nat × Value)} {stk : List Value} {S : St} {f : Option α} {cc : ByteArray} {ret : Option FieldType} {Ts : List Cond} {own : String} {rm : Room} {mc ms : Nat} (C : CF Γ cc nL ret Ts own rm mc ms) {x y : Int32} (hd : decode cc pc = .ok (.imul, 1)) (h : G Γ cv nL cells slots (pc + 1) lv (.int (x * y) :: stk) S f) : G Γ cv nL cells slots (pc) lv (.int y :: .int x :: stk) S f := by
  obtain ⟨p, l, e, R, s, m, args, below, meth, c, D, cy, H0, mc, ms⟩ := Γ
  intro ls H locs o hl hw hc hf
  exact lv_imul C.1.1 C.1.2.1 hd (h ls H locs o hl hw hc hf)
theorem g_iand {α : Type} {Γ : Cx} {cv : α → Option Value × St} {nL cells slots pc : Nat} {lv : List (Nat × Value)} {stk : List Value} {S : St} {f : Option α} {cc : ByteArray} {ret : Option FieldType} {Ts : List Cond} {own : String} {rm : Room} {mc ms : Nat} (C : CF Γ cc nL ret Ts own rm mc ms) {x y : Int32} (hd : decode cc pc = .ok (.iand, 1)) (h : G Γ cv nL cells slots (pc + 1) lv (.int (x &&& y) :: stk) S f) : G Γ cv nL cells slots (pc) lv (.int y :: .int x :: stk) S f := by
  obtain ⟨p, l, e, R, s, m, args, below, meth, c, D, cy, H0, mc, ms⟩ := Γ
  intro ls H locs o hl hw hc hf
  exact lv_iand C.1.1 C.1.2.1 hd (h ls H locs o hl hw hc hf)
theorem g_ior {α : Type} {Γ : Cx} {cv : α → Option Value × St} {nL cells slots pc : Nat} {lv : List (Nat × Value)} {stk : List Value} {S : St} {f : Option α} {cc : ByteArray} {ret : Option FieldType} {Ts : List Cond} {own : String} {rm : Room} {mc ms : Nat} (C : CF Γ cc nL ret Ts own rm mc ms) {x y : Int32} (hd : decode cc pc = .ok (.ior, 1)) (h : G Γ cv nL cells slots (pc + 1) lv (.int (x ||| y) :: stk) S f) : G Γ cv nL cells slots (pc) lv (.int y :: .int x :: stk) S f := by
  obtain ⟨p, l, e, R, s, m, args, below, meth, c, D, cy, H0, mc, ms⟩ := Γ
  intro ls H locs o hl hw hc hf
  exact lv_ior C.1.1 C.1.2.1 hd (h ls H locs o hl hw hc hf)
theorem g_ixor {α : Type} {Γ : Cx} {cv : α → Option Value × St} {nL cells slots pc : Nat} {lv : List (Nat × Value)} {stk : List Value} {S : St} {f : Option α} {cc : ByteArray} {ret : Option FieldType} {Ts : List Cond} {own : String} {rm : Room} {mc ms : Nat} (C : CF Γ cc nL ret Ts own rm mc ms) {x y : Int32} (hd : decode cc pc = .ok (.ixor, 1)) (h : G Γ cv nL cells slots (pc + 1) lv (.int (x ^^^ y) :: stk) S f) : G Γ cv nL cells slots (pc) lv (.int y :: .int x :: stk) S f := by
  obtain ⟨p, l, e, R, s, m, args, below, meth, c, D, cy, H0, mc, ms⟩ := Γ
  intro ls H locs o hl hw hc hf
  exact lv_ixor C.1.1 C.1.2.1 hd (h ls H locs o hl hw hc hf)
theorem g_ishl {α : Type} {Γ : Cx} {cv : α → Option Value × St} {nL cells slots pc : Nat} {lv : List (Nat × Value)} {stk : List Value} {S : St} {f : Option α} {cc : ByteArray} {ret : Option FieldType} {Ts : List Cond} {own : String} {rm : Room} {mc ms : Nat} (C : CF Γ cc nL ret Ts own rm mc ms) {x y : Int32} (hd : decode cc pc = .ok (.ishl, 1)) (h : G Γ cv nL cells slots (pc + 1) lv (.int (x <<< (y &&& 31)) :: stk) S f) : G Γ cv nL cells slots (pc) lv (.int y :: .int x :: stk) S f := by
  obtain ⟨p, l, e, R, s, m, args, below, meth, c, D, cy, H0, mc, ms⟩ := Γ
  intro ls H locs o hl hw hc hf
  exact lv_ishl C.1.1 C.1.2.1 hd (h ls H locs o hl hw hc hf)
theorem g_ishr {α : Type} {Γ : Cx} {cv : α → Option Value × St} {nL cells slots pc : Nat} {lv : List (Nat × Value)} {stk : List Value} {S : St} {f : Option α} {cc : ByteArray} {ret : Option FieldType} {Ts : List Cond} {own : String} {rm : Room} {mc ms : Nat} (C : CF Γ cc nL ret Ts own rm mc ms) {x y : Int32} (hd : decode cc pc = .ok (.ishr, 1)) (h : G Γ cv nL cells slots (pc + 1) lv (.int (x >>> (y &&& 31)) :: stk) S f) : G Γ cv nL cells slots (pc) lv (.int y :: .int x :: stk) S f := by
  obtain ⟨p, l, e, R, s, m, args, below, meth, c, D, cy, H0, mc, ms⟩ := Γ
  intro ls H locs o hl hw hc hf
  exact lv_ishr C.1.1 C.1.2.1 hd (h ls H locs o hl hw hc hf)
theorem g_ladd {α : Type} {Γ : Cx} {cv : α → Option Value × St} {nL cells slots pc : Nat} {lv : List (Nat × Value)} {stk : List Value} {S : St} {f : Option α} {cc : ByteArray} {ret : Option FieldType} {Ts : List Cond} {own : String} {rm : Room} {mc ms : Nat} (C : CF Γ cc nL ret Ts own rm mc ms) {x y : Int64} (hd : decode cc pc = .ok (.ladd, 1)) (h : G Γ cv nL cells slots (pc + 1) lv (.long (x + y) :: stk) S f) : G Γ cv nL cells slots (pc) lv (.long y :: .long x :: stk) S f := by
  obtain ⟨p, l, e, R, s, m, args, below, meth, c, D, cy, H0, mc, ms⟩ := Γ
  intro ls H locs o hl hw hc hf
  exact lv_ladd C.1.1 C.1.2.1 hd (h ls H locs o hl hw hc hf)
theorem g_land {α : Type} {Γ : Cx} {cv : α → Option Value × St} {nL cells slots pc : Nat} {lv : List (Nat × Value)} {stk : List Value} {S : St} {f : Option α} {cc : ByteArray} {ret : Option FieldType} {Ts : List Cond} {own : String} {rm : Room} {mc ms : Nat} (C : CF Γ cc nL ret Ts own rm mc ms) {x y : Int64} (hd : decode cc pc = .ok (.land, 1)) (h : G Γ cv nL cells slots (pc + 1) lv (.long (x &&& y) :: stk) S f) : G Γ cv nL cells slots (pc) lv (.long y :: .long x :: stk) S f := by
  obtain ⟨p, l, e, R, s, m, args, below, meth, c, D, cy, H0, mc, ms⟩ := Γ
  intro ls H locs o hl hw hc hf
  exact lv_land C.1.1 C.1.2.1 hd (h ls H locs o hl hw hc hf)
theorem g_lor {α : Type} {Γ : Cx} {cv : α → Option Value × St} {nL cells slots pc : Nat} {lv : List (Nat × Value)} {stk : List Value} {S : St} {f : Option α} {cc : ByteArray} {ret : Option FieldType} {Ts : List Cond} {own : String} {rm : Room} {mc ms : Nat} (C : CF Γ cc nL ret Ts own rm mc ms) {x y : Int64} (hd : decode cc pc = .ok (.lor, 1)) (h : G Γ cv nL cells slots (pc + 1) lv (.long (x ||| y) :: stk) S f) : G Γ cv nL cells slots (pc) lv (.long y :: .long x :: stk) S f := by
  obtain ⟨p, l, e, R, s, m, args, below, meth, c, D, cy, H0, mc, ms⟩ := Γ
  intro ls H locs o hl hw hc hf
  exact lv_lor C.1.1 C.1.2.1 hd (h ls H locs o hl hw hc hf)
theorem g_lshl {α : Type} {Γ : Cx} {cv : α → Option Value × St} {nL cells slots pc : Nat} {lv : List (Nat × Value)} {stk : List Value} {S : St} {f : Option α} {cc : ByteArray} {ret : Option FieldType} {Ts : List Cond} {own : String} {rm : Room} {mc ms : Nat} (C : CF Γ cc nL ret Ts own rm mc ms) {x : Int64} {y : Int32} (hd : decode cc pc = .ok (.lshl, 1)) (h : G Γ cv nL cells slots (pc + 1) lv (.long (x <<< (y.toInt64 &&& 63)) :: stk) S f) : G Γ cv nL cells slots (pc) lv (.int y :: .long x :: stk) S f := by
  obtain ⟨p, l, e, R, s, m, args, below, meth, c, D, cy, H0, mc, ms⟩ := Γ
  intro ls H locs o hl hw hc hf
  exact lv_lshl C.1.1 C.1.2.1 hd rfl (h ls H locs o hl hw hc hf)
theorem g_lshr {α : Type} {Γ : Cx} {cv : α → Option Value × St} {nL cells slots pc : Nat} {lv : List (Nat × Value)} {stk : List Value} {S : St} {f : Option α} {cc : ByteArray} {ret : Option FieldType} {Ts : List Cond} {own : String} {rm : Room} {mc ms : Nat} (C : CF Γ cc nL ret Ts own rm mc ms) {x : Int64} {y : Int32} (hd : decode cc pc = .ok (.lshr, 1)) (h : G Γ cv nL cells slots (pc + 1) lv (.long (x >>> (y.toInt64 &&& 63)) :: stk) S f) : G Γ cv nL cells slots (pc) lv (.int y :: .long x :: stk) S f := by
  obtain ⟨p, l, e, R, s, m, args, below, meth, c, D, cy, H0, mc, ms⟩ := Γ
  intro ls H locs o hl hw hc hf
  exact lv_lshr C.1.1 C.1.2.1 hd rfl (h ls H locs o hl hw hc hf)
theorem g_ineg {α : Type} {Γ : Cx} {cv : α → Option Value × St} {nL cells slots pc : Nat} {lv : List (Nat × Value)} {stk : List Value} {S : St} {f : Option α} {cc : ByteArray} {ret : Option FieldType} {Ts : List Cond} {own : String} {rm : Room} {mc ms : Nat} (C : CF Γ cc nL ret Ts own rm mc ms) {x : Int32} (hd : decode cc pc = .ok (.ineg, 1)) (h : G Γ cv nL cells slots (pc + 1) lv (.int (-x) :: stk) S f) : G Γ cv nL cells slots (pc) lv (.int x :: stk) S f := by
  obtain ⟨p, l, e, R, s, m, args, below, meth, c, D, cy, H0, mc, ms⟩ := Γ
  intro ls H locs o hl hw hc hf
  exact lv_ineg C.1.1 C.1.2.1 hd (h ls H locs o hl hw hc hf)
theorem g_i2l {α : Type} {Γ : Cx} {cv : α → Option Value × St} {nL cells slots pc : Nat} {lv : List (Nat × Value)} {stk : List Value} {S : St} {f : Option α} {cc : ByteArray} {ret : Option FieldType} {Ts : List Cond} {own : String} {rm : Room} {mc ms : Nat} (C : CF Γ cc nL ret Ts own rm mc ms) {x : Int32} (hd : decode cc pc = .ok (.i2l, 1)) (h : G Γ cv nL cells slots (pc + 1) lv (.long x.toInt64 :: stk) S f) : G Γ cv nL cells slots (pc) lv (.int x :: stk) S f := by
  obtain ⟨p, l, e, R, s, m, args, below, meth, c, D, cy, H0, mc, ms⟩ := Γ
  intro ls H locs o hl hw hc hf
  exact lv_i2l C.1.1 C.1.2.1 hd rfl (h ls H locs o hl hw hc hf)
theorem g_i2b {α : Type} {Γ : Cx} {cv : α → Option Value × St} {nL cells slots pc : Nat} {lv : List (Nat × Value)} {stk : List Value} {S : St} {f : Option α} {cc : ByteArray} {ret : Option FieldType} {Ts : List Cond} {own : String} {rm : Room} {mc ms : Nat} (C : CF Γ cc nL ret Ts own rm mc ms) {x : Int32} (hd : decode cc pc = .ok (.i2b, 1)) (h : G Γ cv nL cells slots (pc + 1) lv (.int x.toInt8.toInt32 :: stk) S f) : G Γ cv nL cells slots (pc) lv (.int x :: stk) S f := by
  obtain ⟨p, l, e, R, s, m, args, below, meth, c, D, cy, H0, mc, ms⟩ := Γ
  intro ls H locs o hl hw hc hf
  exact lv_i2b C.1.1 C.1.2.1 hd rfl (h ls H locs o hl hw hc hf)
theorem g_i2s {α : Type} {Γ : Cx} {cv : α → Option Value × St} {nL cells slots pc : Nat} {lv : List (Nat × Value)} {stk : List Value} {S : St} {f : Option α} {cc : ByteArray} {ret : Option FieldType} {Ts : List Cond} {own : String} {rm : Room} {mc ms : Nat} (C : CF Γ cc nL ret Ts own rm mc ms) {x : Int32} (hd : decode cc pc = .ok (.i2s, 1)) (h : G Γ cv nL cells slots (pc + 1) lv (.int x.toInt16.toInt32 :: stk) S f) : G Γ cv nL cells slots (pc) lv (.int x :: stk) S f := by
  obtain ⟨p, l, e, R, s, m, args, below, meth, c, D, cy, H0, mc, ms⟩ := Γ
  intro ls H locs o hl hw hc hf
  exact lv_i2s C.1.1 C.1.2.1 hd rfl (h ls H locs o hl hw hc hf)
theorem g_l2i {α : Type} {Γ : Cx} {cv : α → Option Value × St} {nL cells slots pc : Nat} {lv : List (Nat × Value)} {stk : List Value} {S : St} {f : Option α} {cc : ByteArray} {ret : Option FieldType} {Ts : List Cond} {own : String} {rm : Room} {mc ms : Nat} (C : CF Γ cc nL ret Ts own rm mc ms) {x : Int64} (hd : decode cc pc = .ok (.l2i, 1)) (h : G Γ cv nL cells slots (pc + 1) lv (.int x.toInt32 :: stk) S f) : G Γ cv nL cells slots (pc) lv (.long x :: stk) S f := by
  obtain ⟨p, l, e, R, s, m, args, below, meth, c, D, cy, H0, mc, ms⟩ := Γ
  intro ls H locs o hl hw hc hf
  exact lv_l2i C.1.1 C.1.2.1 hd rfl (h ls H locs o hl hw hc hf)
theorem g_lcmp {α : Type} {Γ : Cx} {cv : α → Option Value × St} {nL cells slots pc : Nat} {lv : List (Nat × Value)} {stk : List Value} {S : St} {f : Option α} {cc : ByteArray} {ret : Option FieldType} {Ts : List Cond} {own : String} {rm : Room} {mc ms : Nat} (C : CF Γ cc nL ret Ts own rm mc ms) {x y : Int64} (hd : decode cc pc = .ok (.lcmp, 1)) (h : G Γ cv nL cells slots (pc + 1) lv (.int (lg_cmp x y) :: stk) S f) : G Γ cv nL cells slots (pc) lv (.long y :: .long x :: stk) S f := by
  obtain ⟨p, l, e, R, s, m, args, below, meth, c, D, cy, H0, mc, ms⟩ := Γ
  intro ls H locs o hl hw hc hf
  exact W.lcmp C.1.1 C.1.2.1 hd (h ls H locs o hl hw hc hf)
theorem g_idiv {α : Type} {Γ : Cx} {cv : α → Option Value × St} {nL cells slots pc : Nat} {lv : List (Nat × Value)} {stk : List Value} {S : St} {cc : ByteArray} {ret : Option FieldType} {Ts : List Cond} {own : String} {rm : Room} {mc ms : Nat} (C : CF Γ cc nL ret Ts own rm mc ms) {x y : Int32} {k : Int32 → Option α} (hd : decode cc pc = .ok (.idiv, 1)) (h : ∀ z, dv x y = some z → G Γ cv nL cells slots (pc + 1) lv (.int z :: stk) S (k z)) : G Γ cv nL cells slots (pc) lv (.int y :: .int x :: stk) S ((dv x y).bind k) := by
  obtain ⟨p, l, e, R, s, m, args, below, meth, c, D, cy, H0, mc, ms⟩ := Γ
  intro ls H locs o hl hw hc hf
  by_cases hy : y = 0
  · simp [dv, hy] at hf
  · have e : dv x y = some (x / y) := by simp [dv, hy]
    rw [e] at hf
    exact lv_idiv C.1.1 C.1.2.1 hd hy (h _ e ls H locs o hl hw hc hf)
theorem g_irem {α : Type} {Γ : Cx} {cv : α → Option Value × St} {nL cells slots pc : Nat} {lv : List (Nat × Value)} {stk : List Value} {S : St} {cc : ByteArray} {ret : Option FieldType} {Ts : List Cond} {own : String} {rm : Room} {mc ms : Nat} (C : CF Γ cc nL ret Ts own rm mc ms) {x y : Int32} {k : Int32 → Option α} (hd : decode cc pc = .ok (.irem, 1)) (h : ∀ z, rmn x y = some z → G Γ cv nL cells slots (pc + 1) lv (.int z :: stk) S (k z)) : G Γ cv nL cells slots (pc) lv (.int y :: .int x :: stk) S ((rmn x y).bind k) := by
  obtain ⟨p, l, e, R, s, m, args, below, meth, c, D, cy, H0, mc, ms⟩ := Γ
  intro ls H locs o hl hw hc hf
  by_cases hy : y = 0
  · simp [rmn, hy] at hf
  · have e : rmn x y = some (x - x / y * y) := by simp [rmn, hy]
    rw [e] at hf
    exact lv_irem C.1.1 C.1.2.1 hd hy (h _ e ls H locs o hl hw hc hf)
theorem g_dupi {α : Type} {Γ : Cx} {cv : α → Option Value × St} {nL cells slots pc : Nat} {lv : List (Nat × Value)} {stk : List Value} {S : St} {f : Option α} {cc : ByteArray} {ret : Option FieldType} {Ts : List Cond} {own : String} {rm : Room} {mc ms : Nat} (C : CF Γ cc nL ret Ts own rm mc ms) {x : Int32} (hd : decode cc pc = .ok (.dup, 1)) (h : G Γ cv nL cells slots (pc + 1) lv (.int x :: .int x :: stk) S f) : G Γ cv nL cells slots (pc) lv (.int x :: stk) S f := by
  obtain ⟨p, l, e, R, s, m, args, below, meth, c, D, cy, H0, mc, ms⟩ := Γ
  intro ls H locs o hl hw hc hf
  exact lv_dup C.1.1 C.1.2.1 hd rfl (h ls H locs o hl hw hc hf)
theorem g_dupr {α : Type} {Γ : Cx} {cv : α → Option Value × St} {nL cells slots pc : Nat} {lv : List (Nat × Value)} {stk : List Value} {S : St} {f : Option α} {cc : ByteArray} {ret : Option FieldType} {Ts : List Cond} {own : String} {rm : Room} {mc ms : Nat} (C : CF Γ cc nL ret Ts own rm mc ms) {r : Option Nat} (hd : decode cc pc = .ok (.dup, 1)) (h : G Γ cv nL cells slots (pc + 1) lv (va_rf r :: va_rf r :: stk) S f) : G Γ cv nL cells slots (pc) lv (va_rf r :: stk) S f := by
  obtain ⟨p, l, e, R, s, m, args, below, meth, c, D, cy, H0, mc, ms⟩ := Γ
  intro ls H locs o hl hw hc hf
  cases r with
  | none => exact lv_dup C.1.1 C.1.2.1 hd rfl (h ls H locs o hl hw hc hf)
  | some a => exact lv_dup C.1.1 C.1.2.1 hd rfl (h ls H locs o hl hw hc hf)
theorem g_topi {α : Type} {Γ : Cx} {cv : α → Option Value × St} {nL cells slots pc : Nat} {lv : List (Nat × Value)} {stk : List Value} {S : St} {x : Int32} {k : Int32 → Option α} (h : ∀ y, G Γ cv nL cells slots pc lv (.int y :: stk) S (k y)) : G Γ cv nL cells slots pc lv (.int x :: stk) S (lt1 x k) := h x
theorem g_topl {α : Type} {Γ : Cx} {cv : α → Option Value × St} {nL cells slots pc : Nat} {lv : List (Nat × Value)} {stk : List Value} {S : St} {x : Int64} {k : Int64 → Option α} (h : ∀ y, G Γ cv nL cells slots pc lv (.long y :: stk) S (k y)) : G Γ cv nL cells slots pc lv (.long x :: stk) S (lt1 x k) := h x
theorem g_none {α : Type} {Γ : Cx} {cv : α → Option Value × St} {nL cells slots pc : Nat} {lv : List (Nat × Value)} {stk : List Value} {S : St} : G Γ cv nL cells slots pc lv stk S none := by
  obtain ⟨p, l, e, R, s, m, args, below, meth, c, D, cy, H0, mc, ms⟩ := Γ
  intro ls H locs o hl hw hc hf
  cases hf
theorem g_sub {α : Type} {Γ : Cx} {cv : α → Option Value × St} {nL cells slots pc : Nat} {lv lv2 : List (Nat × Value)} {stk : List Value} {S : St} {f : Option α} (ks : List Nat) (hq : lv_pick lv ks = lv2) (h : G Γ cv nL cells slots pc lv2 stk S f) : G Γ cv nL cells slots pc lv stk S f := by
  obtain ⟨p, l, e, R, s, m, args, below, meth, c, D, cy, H0, mc, ms⟩ := Γ
  intro ls H locs o hl hw hc hf
  exact h ls H locs o (lv_sub hl ks hq) hw hc hf
theorem g_icmp_eq {α : Type} {Γ : Cx} {cv : α → Option Value × St} {nL cells slots pc : Nat} {lv : List (Nat × Value)} {stk : List Value} {S : St} {f g : Option α} {cc : ByteArray} {ret : Option FieldType} {Ts : List Cond} {own : String} {rm : Room} {mc ms : Nat} (C : CF Γ cc nL ret Ts own rm mc ms) {x y : Int32} {off : Int} {tgt : Nat} (hd : decode cc pc = .ok (.if_icmp .eq off, 3)) (ht : (pc : Int) + off = (tgt : Int)) (h1 : x = y → G Γ cv nL cells slots (tgt) lv (stk) S f) (h2 : ¬ x = y → G Γ cv nL cells slots (pc + 3) lv (stk) S g) : G Γ cv nL cells slots (pc) lv (.int y :: .int x :: stk) S (if x = y then f else g) := by
  obtain ⟨p, l, e, R, s, m, args, below, meth, c, D, cy, H0, mc, ms⟩ := Γ
  intro ls H locs o hl hw hc hf
  exact lv_icmp_eq C.1.1 C.1.2.1 hd ht (fun q => h1 q ls H locs o hl hw hc (by rw [if_pos q] at hf; exact hf)) (fun q => h2 q ls H locs o hl hw hc (by rw [if_neg q] at hf; exact hf))
theorem g_icmp_lt {α : Type} {Γ : Cx} {cv : α → Option Value × St} {nL cells slots pc : Nat} {lv : List (Nat × Value)} {stk : List Value} {S : St} {f g : Option α} {cc : ByteArray} {ret : Option FieldType} {Ts : List Cond} {own : String} {rm : Room} {mc ms : Nat} (C : CF Γ cc nL ret Ts own rm mc ms) {x y : Int32} {off : Int} {tgt : Nat} (hd : decode cc pc = .ok (.if_icmp .lt off, 3)) (ht : (pc : Int) + off = (tgt : Int)) (h1 : x < y → G Γ cv nL cells slots (tgt) lv (stk) S f) (h2 : ¬ x < y → G Γ cv nL cells slots (pc + 3) lv (stk) S g) : G Γ cv nL cells slots (pc) lv (.int y :: .int x :: stk) S (if x < y then f else g) := by
  obtain ⟨p, l, e, R, s, m, args, below, meth, c, D, cy, H0, mc, ms⟩ := Γ
  intro ls H locs o hl hw hc hf
  exact lv_icmp_lt C.1.1 C.1.2.1 hd ht (fun q => h1 q ls H locs o hl hw hc (by rw [if_pos q] at hf; exact hf)) (fun q => h2 q ls H locs o hl hw hc (by rw [if_neg q] at hf; exact hf))
theorem g_icmp_ge {α : Type} {Γ : Cx} {cv : α → Option Value × St} {nL cells slots pc : Nat} {lv : List (Nat × Value)} {stk : List Value} {S : St} {f g : Option α} {cc : ByteArray} {ret : Option FieldType} {Ts : List Cond} {own : String} {rm : Room} {mc ms : Nat} (C : CF Γ cc nL ret Ts own rm mc ms) {x y : Int32} {off : Int} {tgt : Nat} (hd : decode cc pc = .ok (.if_icmp .ge off, 3)) (ht : (pc : Int) + off = (tgt : Int)) (h1 : y ≤ x → G Γ cv nL cells slots (tgt) lv (stk) S f) (h2 : ¬ y ≤ x → G Γ cv nL cells slots (pc + 3) lv (stk) S g) : G Γ cv nL cells slots (pc) lv (.int y :: .int x :: stk) S (if y ≤ x then f else g) := by
  obtain ⟨p, l, e, R, s, m, args, below, meth, c, D, cy, H0, mc, ms⟩ := Γ
  intro ls H locs o hl hw hc hf
  exact lv_icmp_ge C.1.1 C.1.2.1 hd ht (fun q => h1 q ls H locs o hl hw hc (by rw [if_pos q] at hf; exact hf)) (fun q => h2 q ls H locs o hl hw hc (by rw [if_neg q] at hf; exact hf))
theorem g_icmp_gt {α : Type} {Γ : Cx} {cv : α → Option Value × St} {nL cells slots pc : Nat} {lv : List (Nat × Value)} {stk : List Value} {S : St} {f g : Option α} {cc : ByteArray} {ret : Option FieldType} {Ts : List Cond} {own : String} {rm : Room} {mc ms : Nat} (C : CF Γ cc nL ret Ts own rm mc ms) {x y : Int32} {off : Int} {tgt : Nat} (hd : decode cc pc = .ok (.if_icmp .gt off, 3)) (ht : (pc : Int) + off = (tgt : Int)) (h1 : y < x → G Γ cv nL cells slots (tgt) lv (stk) S f) (h2 : ¬ y < x → G Γ cv nL cells slots (pc + 3) lv (stk) S g) : G Γ cv nL cells slots (pc) lv (.int y :: .int x :: stk) S (if y < x then f else g) := by
  obtain ⟨p, l, e, R, s, m, args, below, meth, c, D, cy, H0, mc, ms⟩ := Γ
  intro ls H locs o hl hw hc hf
  exact lv_icmp_gt C.1.1 C.1.2.1 hd ht (fun q => h1 q ls H locs o hl hw hc (by rw [if_pos q] at hf; exact hf)) (fun q => h2 q ls H locs o hl hw hc (by rw [if_neg q] at hf; exact hf))
theorem g_icmp_le {α : Type} {Γ : Cx} {cv : α → Option Value × St} {nL cells slots pc : Nat} {lv : List (Nat × Value)} {stk : List Value} {S : St} {f g : Option α} {cc : ByteArray} {ret : Option FieldType} {Ts : List Cond} {own : String} {rm : Room} {mc ms : Nat} (C : CF Γ cc nL ret Ts own rm mc ms) {x y : Int32} {off : Int} {tgt : Nat} (hd : decode cc pc = .ok (.if_icmp .le off, 3)) (ht : (pc : Int) + off = (tgt : Int)) (h1 : x ≤ y → G Γ cv nL cells slots (tgt) lv (stk) S f) (h2 : ¬ x ≤ y → G Γ cv nL cells slots (pc + 3) lv (stk) S g) : G Γ cv nL cells slots (pc) lv (.int y :: .int x :: stk) S (if x ≤ y then f else g) := by
  obtain ⟨p, l, e, R, s, m, args, below, meth, c, D, cy, H0, mc, ms⟩ := Γ
  intro ls H locs o hl hw hc hf
  exact lv_icmp_le C.1.1 C.1.2.1 hd ht (fun q => h1 q ls H locs o hl hw hc (by rw [if_pos q] at hf; exact hf)) (fun q => h2 q ls H locs o hl hw hc (by rw [if_neg q] at hf; exact hf))
theorem g_if_eq {α : Type} {Γ : Cx} {cv : α → Option Value × St} {nL cells slots pc : Nat} {lv : List (Nat × Value)} {stk : List Value} {S : St} {f g : Option α} {cc : ByteArray} {ret : Option FieldType} {Ts : List Cond} {own : String} {rm : Room} {mc ms : Nat} (C : CF Γ cc nL ret Ts own rm mc ms) {x : Int32} {off : Int} {tgt : Nat} (hd : decode cc pc = .ok (.ifCond .eq off, 3)) (ht : (pc : Int) + off = (tgt : Int)) (h1 : x = 0 → G Γ cv nL cells slots (tgt) lv (stk) S f) (h2 : ¬ x = 0 → G Γ cv nL cells slots (pc + 3) lv (stk) S g) : G Γ cv nL cells slots (pc) lv (.int x :: stk) S (if x = 0 then f else g) := by
  obtain ⟨p, l, e, R, s, m, args, below, meth, c, D, cy, H0, mc, ms⟩ := Γ
  intro ls H locs o hl hw hc hf
  exact lv_if_eq C.1.1 C.1.2.1 hd ht (fun q => h1 q ls H locs o hl hw hc (by rw [if_pos q] at hf; exact hf)) (fun q => h2 q ls H locs o hl hw hc (by rw [if_neg q] at hf; exact hf))
theorem g_if_lt {α : Type} {Γ : Cx} {cv : α → Option Value × St} {nL cells slots pc : Nat} {lv : List (Nat × Value)} {stk : List Value} {S : St} {f g : Option α} {cc : ByteArray} {ret : Option FieldType} {Ts : List Cond} {own : String} {rm : Room} {mc ms : Nat} (C : CF Γ cc nL ret Ts own rm mc ms) {x : Int32} {off : Int} {tgt : Nat} (hd : decode cc pc = .ok (.ifCond .lt off, 3)) (ht : (pc : Int) + off = (tgt : Int)) (h1 : x < 0 → G Γ cv nL cells slots (tgt) lv (stk) S f) (h2 : ¬ x < 0 → G Γ cv nL cells slots (pc + 3) lv (stk) S g) : G Γ cv nL cells slots (pc) lv (.int x :: stk) S (if x < 0 then f else g) := by
  obtain ⟨p, l, e, R, s, m, args, below, meth, c, D, cy, H0, mc, ms⟩ := Γ
  intro ls H locs o hl hw hc hf
  exact lv_if_lt C.1.1 C.1.2.1 hd ht (fun q => h1 q ls H locs o hl hw hc (by rw [if_pos q] at hf; exact hf)) (fun q => h2 q ls H locs o hl hw hc (by rw [if_neg q] at hf; exact hf))
theorem g_if_ge {α : Type} {Γ : Cx} {cv : α → Option Value × St} {nL cells slots pc : Nat} {lv : List (Nat × Value)} {stk : List Value} {S : St} {f g : Option α} {cc : ByteArray} {ret : Option FieldType} {Ts : List Cond} {own : String} {rm : Room} {mc ms : Nat} (C : CF Γ cc nL ret Ts own rm mc ms) {x : Int32} {off : Int} {tgt : Nat} (hd : decode cc pc = .ok (.ifCond .ge off, 3)) (ht : (pc : Int) + off = (tgt : Int)) (h1 : 0 ≤ x → G Γ cv nL cells slots (tgt) lv (stk) S f) (h2 : ¬ 0 ≤ x → G Γ cv nL cells slots (pc + 3) lv (stk) S g) : G Γ cv nL cells slots (pc) lv (.int x :: stk) S (if 0 ≤ x then f else g) := by
  obtain ⟨p, l, e, R, s, m, args, below, meth, c, D, cy, H0, mc, ms⟩ := Γ
  intro ls H locs o hl hw hc hf
  exact lv_if_ge C.1.1 C.1.2.1 hd ht (fun q => h1 q ls H locs o hl hw hc (by rw [if_pos q] at hf; exact hf)) (fun q => h2 q ls H locs o hl hw hc (by rw [if_neg q] at hf; exact hf))
theorem g_if_gt {α : Type} {Γ : Cx} {cv : α → Option Value × St} {nL cells slots pc : Nat} {lv : List (Nat × Value)} {stk : List Value} {S : St} {f g : Option α} {cc : ByteArray} {ret : Option FieldType} {Ts : List Cond} {own : String} {rm : Room} {mc ms : Nat} (C : CF Γ cc nL ret Ts own rm mc ms) {x : Int32} {off : Int} {tgt : Nat} (hd : decode cc pc = .ok (.ifCond .gt off, 3)) (ht : (pc : Int) + off = (tgt : Int)) (h1 : 0 < x → G Γ cv nL cells slots (tgt) lv (stk) S f) (h2 : ¬ 0 < x → G Γ cv nL cells slots (pc + 3) lv (stk) S g) : G Γ cv nL cells slots (pc) lv (.int x :: stk) S (if 0 < x then f else g) := by
  obtain ⟨p, l, e, R, s, m, args, below, meth, c, D, cy, H0, mc, ms⟩ := Γ
  intro ls H locs o hl hw hc hf
  exact lv_if_gt C.1.1 C.1.2.1 hd ht (fun q => h1 q ls H locs o hl hw hc (by rw [if_pos q] at hf; exact hf)) (fun q => h2 q ls H locs o hl hw hc (by rw [if_neg q] at hf; exact hf))
theorem g_if_le {α : Type} {Γ : Cx} {cv : α → Option Value × St} {nL cells slots pc : Nat} {lv : List (Nat × Value)} {stk : List Value} {S : St} {f g : Option α} {cc : ByteArray} {ret : Option FieldType} {Ts : List Cond} {own : String} {rm : Room} {mc ms : Nat} (C : CF Γ cc nL ret Ts own rm mc ms) {x : Int32} {off : Int} {tgt : Nat} (hd : decode cc pc = .ok (.ifCond .le off, 3)) (ht : (pc : Int) + off = (tgt : Int)) (h1 : x ≤ 0 → G Γ cv nL cells slots (tgt) lv (stk) S f) (h2 : ¬ x ≤ 0 → G Γ cv nL cells slots (pc + 3) lv (stk) S g) : G Γ cv nL cells slots (pc) lv (.int x :: stk) S (if x ≤ 0 then f else g) := by
  obtain ⟨p, l, e, R, s, m, args, below, meth, c, D, cy, H0, mc, ms⟩ := Γ
  intro ls H locs o hl hw hc hf
  exact lv_if_le C.1.1 C.1.2.1 hd ht (fun q => h1 q ls H locs o hl hw hc (by rw [if_pos q] at hf; exact hf)) (fun q => h2 q ls H locs o hl hw hc (by rw [if_neg q] at hf; exact hf))
theorem g_icmp_ne {α : Type} {Γ : Cx} {cv : α → Option Value × St} {nL cells slots pc : Nat} {lv : List (Nat × Value)} {stk : List Value} {S : St} {f g : Option α} {cc : ByteArray} {ret : Option FieldType} {Ts : List Cond} {own : String} {rm : Room} {mc ms : Nat} (C : CF Γ cc nL ret Ts own rm mc ms) {x y : Int32} {off : Int} {tgt : Nat} (hd : decode cc pc = .ok (.if_icmp .ne off, 3)) (ht : (pc : Int) + off = (tgt : Int)) (h1 : x = y → G Γ cv nL cells slots (pc + 3) lv (stk) S f) (h2 : ¬ x = y → G Γ cv nL cells slots (tgt) lv (stk) S g) : G Γ cv nL cells slots (pc) lv (.int y :: .int x :: stk) S (if x = y then f else g) := by
  obtain ⟨p, l, e, R, s, m, args, below, meth, c, D, cy, H0, mc, ms⟩ := Γ
  intro ls H locs o hl hw hc hf
  exact lv_icmp_ne C.1.1 C.1.2.1 hd ht (fun q => h2 q ls H locs o hl hw hc (by rw [if_neg q] at hf; exact hf)) (fun q => h1 q ls H locs o hl hw hc (by rw [if_pos q] at hf; exact hf))
theorem g_if_ne {α : Type} {Γ : Cx} {cv : α → Option Value × St} {nL cells slots pc : Nat} {lv : List (Nat × Value)} {stk : List Value} {S : St} {f g : Option α} {cc : ByteArray} {ret : Option FieldType} {Ts : List Cond} {own : String} {rm : Room} {mc ms : Nat} (C : CF Γ cc nL ret Ts own rm mc ms) {x : Int32} {off : Int} {tgt : Nat} (hd : decode cc pc = .ok (.ifCond .ne off, 3)) (ht : (pc : Int) + off = (tgt : Int)) (h1 : x = 0 → G Γ cv nL cells slots (pc + 3) lv (stk) S f) (h2 : ¬ x = 0 → G Γ cv nL cells slots (tgt) lv (stk) S g) : G Γ cv nL cells slots (pc) lv (.int x :: stk) S (if x = 0 then f else g) := by
  obtain ⟨p, l, e, R, s, m, args, below, meth, c, D, cy, H0, mc, ms⟩ := Γ
  intro ls H locs o hl hw hc hf
  exact lv_if_ne C.1.1 C.1.2.1 hd ht (fun q => h2 q ls H locs o hl hw hc (by rw [if_neg q] at hf; exact hf)) (fun q => h1 q ls H locs o hl hw hc (by rw [if_pos q] at hf; exact hf))
theorem g_goto {α : Type} {Γ : Cx} {cv : α → Option Value × St} {nL cells slots pc : Nat} {lv : List (Nat × Value)} {stk : List Value} {S : St} {f : Option α} {cc : ByteArray} {ret : Option FieldType} {Ts : List Cond} {own : String} {rm : Room} {mc ms : Nat} (C : CF Γ cc nL ret Ts own rm mc ms) {off : Int} {tgt : Nat} (hd : decode cc pc = .ok (.goto off, 3)) (ht : (pc : Int) + off = (tgt : Int)) (h : G Γ cv nL cells slots (tgt) lv (stk) S f) : G Γ cv nL cells slots (pc) lv (stk) S f := by
  obtain ⟨p, l, e, R, s, m, args, below, meth, c, D, cy, H0, mc, ms⟩ := Γ
  intro ls H locs o hl hw hc hf
  exact lv_goto C.1.1 C.1.2.1 hd ht (h ls H locs o hl hw hc hf)
theorem g_ifnull {α : Type} {Γ : Cx} {cv : α → Option Value × St} {nL cells slots pc : Nat} {lv : List (Nat × Value)} {stk : List Value} {S : St} {f g : Option α} {cc : ByteArray} {ret : Option FieldType} {Ts : List Cond} {own : String} {rm : Room} {mc ms : Nat} (C : CF Γ cc nL ret Ts own rm mc ms) {r : Option Nat} {off : Int} {tgt : Nat} (hd : decode cc pc = .ok (.ifnull off, 3)) (ht : (pc : Int) + off = (tgt : Int)) (h1 : r = none → G Γ cv nL cells slots (tgt) lv (stk) S f) (h2 : ¬ r = none → G Γ cv nL cells slots (pc + 3) lv (stk) S g) : G Γ cv nL cells slots (pc) lv (va_rf r :: stk) S (if r = none then f else g) := by
  obtain ⟨p, l, e, R, s, m, args, below, meth, c, D, cy, H0, mc, ms⟩ := Γ
  intro ls H locs o hl hw hc hf
  cases r with
  | none => exact lv_ifnullN C.1.1 C.1.2.1 hd ht (h1 rfl ls H locs o hl hw hc (by simpa using hf))
  | some a => exact lv_ifnull C.1.1 C.1.2.1 hd (h2 (by simp) ls H locs o hl hw hc (by simpa using hf))
theorem g_ifnonnull {α : Type} {Γ : Cx} {cv : α → Option Value × St} {nL cells slots pc : Nat} {lv : List (Nat × Value)} {stk : List Value} {S : St} {f g : Option α} {cc : ByteArray} {ret : Option FieldType} {Ts : List Cond} {own : String} {rm : Room} {mc ms : Nat} (C : CF Γ cc nL ret Ts own rm mc ms) {r : Option Nat} {off : Int} {tgt : Nat} (hd : decode cc pc = .ok (.ifnonnull off, 3)) (ht : (pc : Int) + off = (tgt : Int)) (h1 : r = none → G Γ cv nL cells slots (pc + 3) lv (stk) S f) (h2 : ¬ r = none → G Γ cv nL cells slots (tgt) lv (stk) S g) : G Γ cv nL cells slots (pc) lv (va_rf r :: stk) S (if r = none then f else g) := by
  obtain ⟨p, l, e, R, s, m, args, below, meth, c, D, cy, H0, mc, ms⟩ := Γ
  intro ls H locs o hl hw hc hf
  cases r with
  | none => exact lv_ifnonnullN C.1.1 C.1.2.1 hd (h1 rfl ls H locs o hl hw hc (by simpa using hf))
  | some a => exact lv_ifnonnull C.1.1 C.1.2.1 hd ht (h2 (by simp) ls H locs o hl hw hc (by simpa using hf))
theorem g_null {α : Type} {Γ : Cx} {cv : α → Option Value × St} {nL cells slots pc : Nat} {lv : List (Nat × Value)} {stk : List Value} {S : St} {f : Option α} {cc : ByteArray} {ret : Option FieldType} {Ts : List Cond} {own : String} {rm : Room} {mc ms : Nat} (C : CF Γ cc nL ret Ts own rm mc ms)  (hd : decode cc pc = .ok (.aconst_null, 1)) (h : G Γ cv nL cells slots (pc + 1) lv (va_rf none :: stk) S f) : G Γ cv nL cells slots (pc) lv (stk) S f := by
  obtain ⟨p, l, e, R, s, m, args, below, meth, c, D, cy, H0, mc, ms⟩ := Γ
  intro ls H locs o hl hw hc hf
  exact lv_null C.1.1 C.1.2.1 hd (h ls H locs o hl hw hc hf)
