/-- the state: kinds and lengths, ints, references, how many cells there are -/
abbrev St : Type := (Nat → Nat × Nat) × (Nat → Nat → Int32) × (Nat → Nat → Option Nat) × Nat
def nF : Nat → Nat := fun c => [10, 2, 2, 7, 5, 3, 13, 2, 4, 2, 7, 42].getD c 0
def up2 {α : Type} (f : Nat → Nat → α) (a k : Nat) (v : α) : Nat → Nat → α := fun b j => if b = a then (if j = k then v else f b j) else f b j
theorem up2_self {α : Type} (f : Nat → Nat → α) (a k : Nat) (v : α) : up2 f a k v a k = v := by simp [up2]
theorem up2_ne {α : Type} (f : Nat → Nat → α) {a k b j : Nat} (v : α) (h : b ≠ a ∨ j ≠ k) : up2 f a k v b j = f b j := by
  rcases h with h | h <;> simp [up2, h]
theorem up2_na {α : Type} (f : Nat → Nat → α) {a k b : Nat} (v : α) (h : b ≠ a) : up2 f a k v b = f b := by
  funext j; simp [up2, h]
/-- which fields are references -/
def rF : Nat → Nat → Bool := fun c k => ([[0, 4, 5], [0, 1], [0, 1], [0, 1, 2], [0, 1, 2], [0], [0, 1, 2, 3, 4, 10, 11], [0, 1], [0, 1, 2], [0], [0, 1, 2, 3, 4, 5], [2, 3, 4, 6, 7, 8, 9, 10, 11, 12, 13, 14, 17, 18, 19, 20, 21, 22, 23, 26, 37, 39, 40]].getD c []).contains k
def ce (cy : Nat → ClassId) (S : St) (a : Nat) : va_E :=
  if (S.1 a).1 ≤ 12 then .inr ((S.1 a).1 - 1, (List.range (nF ((S.1 a).1 - 1))).map (fun k => if rF ((S.1 a).1 - 1) k = true then va_rf (S.2.2.1 a k) else .int (S.2.1 a k)))
  else if (S.1 a).1 ≤ 15 then .inl (cy (S.1 a).1, (S.1 a).2, .inl (S.2.1 a))
  else .inl (cy (S.1 a).1, (S.1 a).2, .inr (.inr (.inr (.inr (S.2.2.1 a)))))
/-- the constants' addresses; the 16th may be null -/
def cx (cy : Nat → ClassId) (k : Nat) : Option Nat := if k = 16 then (if cy 116 = 0 then none else some (cy 116 - 1)) else some (cy (100 + k))
/-- the heap holds the state; what was there before H0's end is as in H0; the references of 'cell 0' are the constants' addresses -/
def Wd (D : va_G) (cy : Nat → ClassId) (H0 : Heap) (S : St) (H : Heap) : Prop :=
  H.size = S.2.2.2 ∧ H0.size ≤ H.size ∧ (∀ q : Nat, q < H0.size → H[q]? = H0[q]?) ∧ (∀ a : Nat, (S.1 a).1 ≠ 0 → H0.size ≤ a ∧ va_at D vwCl (a, ce cy S a) H) ∧ 0 < H0.size ∧ ∀ k, k < 20 → S.2.2.1 0 k = cx cy k
def tys (cy : Nat → ClassId) : List (ClassId × FieldType) := [(cy 13, .byte), (cy 14, .int), (cy 15, .boolean), (cy 16, .object "LightLines$Sheet"), (cy 17, .object "LightLines$Stroke"), (cy 18, .array .int)]
def nestW : List Cond := [.methodLinkNest "LightLines" 17 ⟨"LightLines$Strokes", "<init>", "()V"⟩ "LightLines", .methodLinkNest "LightLines" 24 ⟨"LightLines$PlanSearch", "<init>", "()V"⟩ "LightLines", .methodLinkNest "LightLines" 31 ⟨"LightLines$Show", "<init>", "()V"⟩ "LightLines", .methodLinkNest "LightLines$Show" 17 ⟨"LightLines$Path", "<init>", "()V"⟩ "LightLines", .methodLinkNest "LightLines" 38 ⟨"LightLines$Cues", "<init>", "()V"⟩ "LightLines", .methodLinkNest "LightLines" 45 ⟨"LightLines$Trace", "<init>", "()V"⟩ "LightLines", .methodLinkNest "LightLines" 50 ⟨"LightLines$Sheet", "<init>", "()V"⟩ "LightLines", .methodLinkNest "LightLines$Sheet" 39 ⟨"LightLines", "isWithin", "(III)Z"⟩ "LightLines", .methodLinkNest "LightLines$Strokes" 39 ⟨"LightLines", "isWithin", "(III)Z"⟩ "LightLines", .methodLinkNest "LightLines$Strokes" 61 ⟨"LightLines", "way", "(IIII)I"⟩ "LightLines", .methodLinkNest "LightLines$PlanSearch" 65 ⟨"LightLines", "way", "(IIII)I"⟩ "LightLines", .methodLinkNest "LightLines$Path" 82 ⟨"LightLines", "way", "(IIII)I"⟩ "LightLines", .methodLinkNest "LightLines$Show" 93 ⟨"LightLines", "way", "(IIII)I"⟩ "LightLines", .methodLinkNest "LightLines$Show" 79 ⟨"LightLines", "isWithin", "(III)Z"⟩ "LightLines", .methodLinkNest "LightLines$Cues" 76 ⟨"LightLines", "isWithin", "(III)Z"⟩ "LightLines", .methodLinkNest "LightLines$Line" 30 ⟨"LightLines", "way", "(IIII)I"⟩ "LightLines"]
theorem nestW_nt : ∀ w ∈ nestW, w.onTables = true := by decide +kernel
/-- which classes are which -/
def castF (U : State) : Prop := va_Nw (.castable "LightLines$Loop" "LightLines$Line") U ∧ va_Nc "LightLines$Line" "LightLines$Loop" U ∧ va_Nc "LightLines$Line" "LightLines$Spot" U ∧ va_Nc "LightLines$Loop" "LightLines$Spot" U ∧ va_Nc "LightLines$Spot" "LightLines$Line" U ∧ va_Nc "LightLines$Spot" "LightLines$Loop" U ∧ va_Nw (.castable "LightLines$Line" "LightLines$Stroke") U ∧ va_Nw (.castable "LightLines$Loop" "LightLines$Stroke") U ∧ va_Nw (.castable "LightLines$Spot" "LightLines$Stroke") U
def tbL : List Int32 := [1, 0, 1, 0, 0, 1]
def tbM : List Int32 := [1000, 5, 16, 16, 5, 1000]
def stLen : List Nat := [2, 4, 4, 4]
def stByt : List (List Int32) := [[97, 116], [100, 97, 114, 107], [115, 104, 111, 119], [102, 97, 100, 101]]
/-- the constants: two static rows, a static of String's, four texts -/
def statF (cy : Nat → ClassId) (H0 : Heap) (U : State) : Prop :=
  va_Z "LightLines$Show" "LEAST" "[I" (.ref (cy 104)) (fun q => H0.size ≤ q) U H0 ∧ va_Z "LightLines$Show" "MOST" "[I" (.ref (cy 105)) (fun q => H0.size ≤ q) U H0 ∧ va_T .int (cy 104) 6 (fun j => .int (tbL.getD j 0)) (fun q => H0.size ≤ q) U H0 ∧ va_T .int (cy 105) 6 (fun j => .int (tbM.getD j 0)) (fun q => H0.size ≤ q) U H0 ∧ va_Z "java/lang/String" "COMPACT_STRINGS" "Z" (.int 1) (fun q => H0.size ≤ q) U H0 ∧ va_Z "jdk/internal/util/Preconditions" "SIOOBE_FORMATTER" "Ljava/util/function/BiFunction;" (va_rf (cx cy 16)) (fun q => H0.size ≤ q) U H0 ∧
  vk_R "LightLines$Cues" 53 "at" (cy 100) U ∧ vk_R "LightLines$Cues" 67 "dark" (cy 101) U ∧ vk_R "LightLines$Cues" 69 "show" (cy 102) U ∧ vk_R "LightLines$Cues" 71 "fade" (cy 103) U ∧ vk_S 4 stLen stByt (fun i => cy (100 + i)) (fun i => cy (110 + i)) (fun q => H0.size ≤ q) U H0
/-- the arrays over our classes -/
def aoF (U : State) : Prop := va_AO "LightLines$Sheet" U ∧ va_AO "LightLines$Stroke" U ∧ (Cond.arrayOver (.array .int)).before #[] U = true
theorem aoA_moved {u U : State} (hvm : u.vm.Alike U.vm) (h : (Cond.arrayOver (.array .int)).before #[] u = true) : (Cond.arrayOver (.array .int)).before #[] U = true := by
  have e : (Cond.arrayOver (.array .int)).before #[] U = (Cond.arrayOver (.array .int)).before #[] (u.setVm U.vm) := rfl
  rw [e, Cond.arrayOver_setVmC hvm]
  exact h
theorem aoF.moved {u U : State} (hvm : u.vm.Alike U.vm) (h : aoF u) : aoF U := ⟨va_AO.moved hvm h.1, va_AO.moved hvm h.2.1, aoA_moved hvm h.2.2⟩
/-- what holds of the tables and the constants, at every state -/
def Sf (D : va_G) (cy : Nat → ClassId) (H0 : Heap) (U : State) : Prop := va_K D vwCl (tys cy) U ∧ (∀ w ∈ nestW, va_Nw w U) ∧ castF U ∧ statF cy H0 U ∧ aoF U
theorem nest_warm {w : Cond} (h : w ∈ nestW) {s U : State} (hW : s.WarmedH U.vm) (hz : va_Nw w s) : va_Nw w U := by
  simp only [nestW, List.mem_cons, List.not_mem_nil, or_false] at h
  rcases h with rfl | rfl | rfl | rfl | rfl | rfl | rfl | rfl | rfl | rfl | rfl | rfl | rfl | rfl | rfl | rfl <;> exact va_Nw.warmM hW hz
theorem Sf.warm {D : va_G} {cy : Nat → ClassId} {H0 : Heap} {s U : State} (hW : s.WarmedH U.vm) (h : Sf D cy H0 s) : Sf D cy H0 U := by
  obtain ⟨h1, h2, ⟨k1, k2, k3, k4, k5, k6, k7, k8, k9⟩, ⟨z1, z2, z3, z4, z5, z6, z7, z8, z9, z10, z11⟩, ao⟩ := h
  exact ⟨va_K.moved hW.alike h1, fun w hw => nest_warm hw hW (h2 w hw), ⟨va_Nw.warmC hW k1, va_Nc.moved hW.alike k2, va_Nc.moved hW.alike k3, va_Nc.moved hW.alike k4, va_Nc.moved hW.alike k5, va_Nc.moved hW.alike k6, va_Nw.warmC hW k7, va_Nw.warmC hW k8, va_Nw.warmC hW k9⟩, ⟨z1.moved hW.alike, z2.moved hW.alike, z3.moved hW.alike, z4.moved hW.alike, z5.moved hW.alike, z6.moved hW.alike, z7.warm hW, z8.warm hW, z9.warm hW, z10.warm hW, z11.moved hW.alike⟩, ao.moved hW.alike⟩
theorem Sf.same {D : va_G} {cy : Nat → ClassId} {H0 : Heap} {s U : State} (hW : s.vm = U.vm) (h : Sf D cy H0 s) : Sf D cy H0 U := by
  obtain ⟨h1, h2, ⟨k1, k2, k3, k4, k5, k6, k7, k8, k9⟩, ⟨z1, z2, z3, z4, z5, z6, z7, z8, z9, z10, z11⟩, ao⟩ := h
  have hA : s.vm.Alike U.vm := by rw [hW]; exact Vm.Alike.refl _
  exact ⟨va_K.moved hA h1, fun w hw => va_Nw.same (nestW_nt w hw) hW (h2 w hw), ⟨va_Nw.same rfl hW k1, va_Nc.moved hA k2, va_Nc.moved hA k3, va_Nc.moved hA k4, va_Nc.moved hA k5, va_Nc.moved hA k6, va_Nw.same rfl hW k7, va_Nw.same rfl hW k8, va_Nw.same rfl hW k9⟩, ⟨z1.moved hA, z2.moved hA, z3.moved hA, z4.moved hA, z5.moved hA, z6.moved hA, z7.same hW.symm, z8.same hW.symm, z9.same hW.symm, z10.same hW.symm, z11.moved hA⟩, ao.moved hA⟩
-- getters and setters
def gI (S : St) (r : Option Nat) (ci k : Nat) : Option Int32 := r.bind fun a => if (S.1 a).1 = ci + 1 then some (S.2.1 a k) else none
def gR (S : St) (r : Option Nat) (ci k : Nat) : Option (Option Nat) := r.bind fun a => if (S.1 a).1 = ci + 1 then some (S.2.2.1 a k) else none
def pI (S : St) (r : Option Nat) (ci k : Nat) (v : Int32) : Option St := r.bind fun a => if (S.1 a).1 = ci + 1 then some (S.1, up2 S.2.1 a k v, S.2.2) else none
def pR (S : St) (r : Option Nat) (ci k : Nat) (v : Option Nat) : Option St := r.bind fun a => if (S.1 a).1 = ci + 1 then some (S.1, S.2.1, up2 S.2.2.1 a k v, S.2.2.2) else none
def nar (kd : Nat) (v : Int32) : Int32 := if kd = 13 then vp_nar .byte v else if kd = 15 then vp_nar .boolean v else v
def aI (S : St) (r : Option Nat) (kd : Nat) (i : Int32) : Option Int32 := r.bind fun a => if (S.1 a).1 = kd ∧ ¬ (i < 0 ∨ (S.1 a).2 ≤ i.toNatClampNeg) then some (S.2.1 a i.toNatClampNeg) else none
def aR (S : St) (r : Option Nat) (kd : Nat) (i : Int32) : Option (Option Nat) := r.bind fun a => if (S.1 a).1 = kd ∧ ¬ (i < 0 ∨ (S.1 a).2 ≤ i.toNatClampNeg) then some (S.2.2.1 a i.toNatClampNeg) else none
def sI (S : St) (r : Option Nat) (kd : Nat) (i v : Int32) : Option St := r.bind fun a => if (S.1 a).1 = kd ∧ ¬ (i < 0 ∨ (S.1 a).2 ≤ i.toNatClampNeg) then some (S.1, up2 S.2.1 a i.toNatClampNeg (nar kd v), S.2.2) else none
def sR (S : St) (r : Option Nat) (kd : Nat) (i : Int32) (v : Option Nat) : Option St := r.bind fun a => if (S.1 a).1 = kd ∧ ¬ (i < 0 ∨ (S.1 a).2 ≤ i.toNatClampNeg) then some (S.1, S.2.1, up2 S.2.2.1 a i.toNatClampNeg v, S.2.2.2) else none
def aL (S : St) (r : Option Nat) (kd : Nat) : Option Int32 := r.bind fun a => if (S.1 a).1 = kd then some (Int32.ofNat (S.1 a).2) else none
/-- the receiver is an object of class ci -/
def cK {α : Type} (S : St) (r : Option Nat) (ci : Nat) (f : Option α) : Option α := r.bind fun a => if (S.1 a).1 = ci + 1 then f else none
def dv (x y : Int32) : Option Int32 := if y = 0 then none else some (x / y)
def rmn (x y : Int32) : Option Int32 := if y = 0 then none else some (x - x / y * y)
/-- a number gets a name -/
def lt1 {α β : Type} (x : α) (f : α → Option β) : Option β := f x
-- contracts
def Pq (D : va_G) (cy : Nat → ClassId) (H0 : Heap) (av : List Value) (S : St) : Array Value → State → Prop := va_Pc av (fun U => Wd D cy H0 S U.heap ∧ Sf D cy H0 U)
def Qx (D : va_G) (cy : Nat → ClassId) (H0 : Heap) (o : Option Value × St) : Array Value → State → Outcome → State → Prop := fun _ _ oc t => oc = .returned o.1 ∧ Wd D cy H0 o.2 t.heap
abbrev Cx : Type := Program × Launch × Env × Room × State × MethodId × Array Value × List Frame × Method × Code × va_G × (Nat → ClassId) × Heap × Nat × Nat
def G {α : Type} (Γ : Cx) (cv : α → Option Value × St) (nL cells slots pc : Nat) (lv : List (Nat × Value)) (stk : List Value) (S : St) (f : Option α) : Prop :=
  match Γ with
  | (p, l, e, R, s, m, args, below, meth, c, D, cy, H0, mc, ms) => ∀ (ls : Array Slot) (H : Heap) (locs : List Loc) (o : α), lv_has ls nL lv → Wd D cy H0 S H → (∀ q ∈ locs, H0.size ≤ q.base) → f = some o → W p l e R s m args below meth c H locs cells slots (MQ below (Qx D cy H0 (cv o)) args s mc ms (fun q => H0.size ≤ q)) (F0 m pc ls stk)
/-- what a method's walk stands on -/
def CF (Γ : Cx) (cc : ByteArray) (nL : Nat) (ret : Option FieldType) (Ts : List Cond) (own : String) (rm : Room) (mc ms : Nat) : Prop :=
  match Γ with
  | (p, l, e, R, s, m, args, below, meth, c, D, cy, H0, mc', ms') => CallFix p m c cc nL s args Ts own ∧ meth.locks = false ∧ meth.sig.returnType = ret ∧ R = rm ∧ Sf D cy H0 s ∧ mc' = mc ∧ ms' = ms
