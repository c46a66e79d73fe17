abbrev rmX12_throwMirrors : Room := { frames := 1, cells := 0, slots := 0, locals := 25 }
theorem flX12_throwMirrors_45 : Cond.fieldLink RX12 45 "LightLinesModel" "rule" "[I" ∈ wsX12_throwMirrors := by decide +kernel
theorem flX12_throwMirrors_48 : Cond.fieldLink RX12 48 "LightLinesModel" "isZone" "[Z" ∈ wsX12_throwMirrors := by decide +kernel
theorem flX12_throwMirrors_52 : Cond.fieldLink RX12 52 "LightLinesModel" "zone" "[I" ∈ wsX12_throwMirrors := by decide +kernel
theorem flX12_throwMirrors_55 : Cond.fieldLink RX12 55 "LightLinesModel" "toldX" "[I" ∈ wsX12_throwMirrors := by decide +kernel
theorem flX12_throwMirrors_58 : Cond.fieldLink RX12 58 "LightLinesModel" "toldY" "[I" ∈ wsX12_throwMirrors := by decide +kernel
theorem flX12_throwMirrors_64 : Cond.fieldLink RX12 64 "LightLinesModel" "mirrorX" "[I" ∈ wsX12_throwMirrors := by decide +kernel
theorem flX12_throwMirrors_67 : Cond.fieldLink RX12 67 "LightLinesModel" "mirrorY" "[I" ∈ wsX12_throwMirrors := by decide +kernel
theorem flX12_throwMirrors_70 : Cond.fieldLink RX12 70 "LightLinesModel" "isShut" "[Z" ∈ wsX12_throwMirrors := by decide +kernel
theorem flX12_throwMirrors_73 : Cond.fieldLink RX12 73 "LightLinesModel" "burns" "[I" ∈ wsX12_throwMirrors := by decide +kernel
theorem flX12_throwMirrors_149 : Cond.fieldLink RX12 149 "LightLinesModel" "ticks" "I" ∈ wsX12_throwMirrors := by decide +kernel
set_option maxRecDepth 100000 in
theorem ulX12_throwMirrors_X12 : ∀ w ∈ u_ws RX12 TX12 42, w ∈ wsX12_throwMirrors := by decide +kernel
set_option maxHeartbeats 4000000 in
set_option maxRecDepth 100000 in
theorem t_X12_throwMirrors_242 {Γ : Cx} (C : CF Γ cX12_throwMirrors 7 none wsX12_throwMirrors RX12 rmX12_throwMirrors 0 0) (rc33 : Option Nat → Int32 → Int32 → Int32 → Int32 → Int32 → St → Option (St)) (hrc33 : ∀ (a0 : Option Nat) (x1 : Int32) (x2 : Int32) (x3 : Int32) (x4 : Int32) (x5 : Int32) (S : St), G Γ cvV 7 0 0 33 [(0, va_rf a0), (1, .int x1), (2, .int x2), (3, .int x3), (4, .int x4), (5, .int x5)] [] S (rc33 a0 x1 x2 x3 x4 x5 S)) (rc143 : Option Nat → Int32 → Int32 → Int32 → Int32 → Int32 → Int32 → St → Option (St)) (hrc143 : ∀ (a0 : Option Nat) (x1 : Int32) (x2 : Int32) (x3 : Int32) (x4 : Int32) (x5 : Int32) (x6 : Int32) (S : St), G Γ cvV 7 0 0 143 [(0, va_rf a0), (1, .int x1), (2, .int x2), (3, .int x3), (4, .int x4), (5, .int x5), (6, .int x6)] [] S (rc143 a0 x1 x2 x3 x4 x5 x6 S)) (a0 : Option Nat) (x1 : Int32) (x2 : Int32) (x3 : Int32) (x4 : Int32) (x5 : Int32) (x6 : Int32) (r0 : Option Nat) (s1 : Int32) (s2 : Int32) (S : St) : G Γ cvV 7 0 0 242 [(0, va_rf a0), (1, .int x1), (2, .int x2), (3, .int x3), (4, .int x4), (5, .int x5), (6, .int x6)] [.int s2, .int s1, va_rf r0] S (b_X12_throwMirrors_242 rc33 rc143 a0 x1 x2 x3 x4 x5 x6 r0 s1 s2 S) := by
  unfold b_X12_throwMirrors_242
  refine g_zst C dX12_throwMirrors_242 (fun S1 eS1 => ?_)
  refine g_iinc1 C dX12_throwMirrors_243 6 rfl (by decide) (by decide) (fun y2 => ?_)
  refine g_lveq (lv2 := [(6, .int y2), (0, va_rf a0), (1, .int x1), (2, .int x2), (3, .int x3), (4, .int x4), (5, .int x5)]) (by first | rfl | simp [va_rf_cat, vi_cat, vl_cat]) ?_
  refine g_goto C (tgt := 143) dX12_throwMirrors_246 (by decide) ?_
  exact g_sub (lv2 := [(0, va_rf a0), (1, .int x1), (2, .int x2), (3, .int x3), (4, .int x4), (5, .int x5), (6, .int y2)]) [1, 2, 3, 4, 5, 6, 0] rfl (hrc143 a0 x1 x2 x3 x4 x5 y2 S1)
set_option maxHeartbeats 4000000 in
set_option maxRecDepth 100000 in
theorem t_X12_throwMirrors_237 {Γ : Cx} (C : CF Γ cX12_throwMirrors 7 none wsX12_throwMirrors RX12 rmX12_throwMirrors 0 0) (rc33 : Option Nat → Int32 → Int32 → Int32 → Int32 → Int32 → St → Option (St)) (hrc33 : ∀ (a0 : Option Nat) (x1 : Int32) (x2 : Int32) (x3 : Int32) (x4 : Int32) (x5 : Int32) (S : St), G Γ cvV 7 0 0 33 [(0, va_rf a0), (1, .int x1), (2, .int x2), (3, .int x3), (4, .int x4), (5, .int x5)] [] S (rc33 a0 x1 x2 x3 x4 x5 S)) (rc143 : Option Nat → Int32 → Int32 → Int32 → Int32 → Int32 → Int32 → St → Option (St)) (hrc143 : ∀ (a0 : Option Nat) (x1 : Int32) (x2 : Int32) (x3 : Int32) (x4 : Int32) (x5 : Int32) (x6 : Int32) (S : St), G Γ cvV 7 0 0 143 [(0, va_rf a0), (1, .int x1), (2, .int x2), (3, .int x3), (4, .int x4), (5, .int x5), (6, .int x6)] [] S (rc143 a0 x1 x2 x3 x4 x5 x6 S)) (a0 : Option Nat) (x1 : Int32) (x2 : Int32) (x3 : Int32) (x4 : Int32) (x5 : Int32) (x6 : Int32) (r0 : Option Nat) (s1 : Int32) (S : St) : G Γ cvV 7 0 0 237 [(0, va_rf a0), (1, .int x1), (2, .int x2), (3, .int x3), (4, .int x4), (5, .int x5), (6, .int x6)] [.int s1, va_rf r0] S (b_X12_throwMirrors_237 rc33 rc143 a0 x1 x2 x3 x4 x5 x6 r0 s1 S) := by
  unfold b_X12_throwMirrors_237
  refine g_iconst C (v := (1 : Int32)) dX12_throwMirrors_237 (by decide) ?_
  refine g_goto C (tgt := 242) dX12_throwMirrors_238 (by decide) ?_
  exact g_sub (lv2 := [(0, va_rf a0), (1, .int x1), (2, .int x2), (3, .int x3), (4, .int x4), (5, .int x5), (6, .int x6)]) [0, 1, 2, 3, 4, 5, 6] rfl (t_X12_throwMirrors_242 C rc33 hrc33 rc143 hrc143 a0 x1 x2 x3 x4 x5 x6 r0 s1 (1 : Int32) S)
set_option maxHeartbeats 4000000 in
set_option maxRecDepth 100000 in
theorem t_X12_throwMirrors_241 {Γ : Cx} (C : CF Γ cX12_throwMirrors 7 none wsX12_throwMirrors RX12 rmX12_throwMirrors 0 0) (rc33 : Option Nat → Int32 → Int32 → Int32 → Int32 → Int32 → St → Option (St)) (hrc33 : ∀ (a0 : Option Nat) (x1 : Int32) (x2 : Int32) (x3 : Int32) (x4 : Int32) (x5 : Int32) (S : St), G Γ cvV 7 0 0 33 [(0, va_rf a0), (1, .int x1), (2, .int x2), (3, .int x3), (4, .int x4), (5, .int x5)] [] S (rc33 a0 x1 x2 x3 x4 x5 S)) (rc143 : Option Nat → Int32 → Int32 → Int32 → Int32 → Int32 → Int32 → St → Option (St)) (hrc143 : ∀ (a0 : Option Nat) (x1 : Int32) (x2 : Int32) (x3 : Int32) (x4 : Int32) (x5 : Int32) (x6 : Int32) (S : St), G Γ cvV 7 0 0 143 [(0, va_rf a0), (1, .int x1), (2, .int x2), (3, .int x3), (4, .int x4), (5, .int x5), (6, .int x6)] [] S (rc143 a0 x1 x2 x3 x4 x5 x6 S)) (a0 : Option Nat) (x1 : Int32) (x2 : Int32) (x3 : Int32) (x4 : Int32) (x5 : Int32) (x6 : Int32) (r0 : Option Nat) (s1 : Int32) (S : St) : G Γ cvV 7 0 0 241 [(0, va_rf a0), (1, .int x1), (2, .int x2), (3, .int x3), (4, .int x4), (5, .int x5), (6, .int x6)] [.int s1, va_rf r0] S (b_X12_throwMirrors_241 rc33 rc143 a0 x1 x2 x3 x4 x5 x6 r0 s1 S) := by
  unfold b_X12_throwMirrors_241
  refine g_iconst C (v := (0 : Int32)) dX12_throwMirrors_241 (by decide) ?_
  exact g_sub (lv2 := [(0, va_rf a0), (1, .int x1), (2, .int x2), (3, .int x3), (4, .int x4), (5, .int x5), (6, .int x6)]) [0, 1, 2, 3, 4, 5, 6] rfl (t_X12_throwMirrors_242 C rc33 hrc33 rc143 hrc143 a0 x1 x2 x3 x4 x5 x6 r0 s1 (0 : Int32) S)
set_option maxHeartbeats 4000000 in
set_option maxRecDepth 100000 in
theorem t_X12_throwMirrors_303 {Γ : Cx} (C : CF Γ cX12_throwMirrors 7 none wsX12_throwMirrors RX12 rmX12_throwMirrors 0 0) (rc33 : Option Nat → Int32 → Int32 → Int32 → Int32 → Int32 → St → Option (St)) (hrc33 : ∀ (a0 : Option Nat) (x1 : Int32) (x2 : Int32) (x3 : Int32) (x4 : Int32) (x5 : Int32) (S : St), G Γ cvV 7 0 0 33 [(0, va_rf a0), (1, .int x1), (2, .int x2), (3, .int x3), (4, .int x4), (5, .int x5)] [] S (rc33 a0 x1 x2 x3 x4 x5 S)) (a0 : Option Nat) (x1 : Int32) (x2 : Int32) (x3 : Int32) (x4 : Int32) (x5 : Int32) (S : St) : G Γ cvV 7 0 0 303 [(0, va_rf a0), (1, .int x1), (2, .int x2), (3, .int x3), (4, .int x4), (5, .int x5)] [] S (b_X12_throwMirrors_303 rc33 a0 x1 x2 x3 x4 x5 S) := by
  unfold b_X12_throwMirrors_303
  refine g_iinc1 C dX12_throwMirrors_303 5 rfl (by decide) (by decide) (fun y1 => ?_)
  refine g_lveq (lv2 := [(5, .int y1), (0, va_rf a0), (1, .int x1), (2, .int x2), (3, .int x3), (4, .int x4)]) (by first | rfl | simp [va_rf_cat, vi_cat, vl_cat]) ?_
  refine g_goto C (tgt := 33) dX12_throwMirrors_306 (by decide) ?_
  exact g_sub (lv2 := [(0, va_rf a0), (1, .int x1), (2, .int x2), (3, .int x3), (4, .int x4), (5, .int y1)]) [1, 2, 3, 4, 5, 0] rfl (hrc33 a0 x1 x2 x3 x4 y1 S)
set_option maxHeartbeats 4000000 in
set_option maxRecDepth 100000 in
theorem t_X12_throwMirrors_249 {Γ : Cx} (C : CF Γ cX12_throwMirrors 7 none wsX12_throwMirrors RX12 rmX12_throwMirrors 0 0) (rc33 : Option Nat → Int32 → Int32 → Int32 → Int32 → Int32 → St → Option (St)) (hrc33 : ∀ (a0 : Option Nat) (x1 : Int32) (x2 : Int32) (x3 : Int32) (x4 : Int32) (x5 : Int32) (S : St), G Γ cvV 7 0 0 33 [(0, va_rf a0), (1, .int x1), (2, .int x2), (3, .int x3), (4, .int x4), (5, .int x5)] [] S (rc33 a0 x1 x2 x3 x4 x5 S)) (a0 : Option Nat) (x1 : Int32) (x2 : Int32) (x3 : Int32) (x4 : Int32) (x5 : Int32) (S : St) : G Γ cvV 7 0 0 249 [(0, va_rf a0), (1, .int x1), (2, .int x2), (3, .int x3), (4, .int x4), (5, .int x5)] [] S (b_X12_throwMirrors_249 rc33 a0 x1 x2 x3 x4 x5 S) := by
  unfold b_X12_throwMirrors_249
  refine g_aload_n C dX12_throwMirrors_249 rfl 0 rfl ?_
  refine g_iload C dX12_throwMirrors_250 5 rfl ?_
  refine g_callV C (n := 1) (ci := 11) [.int x5] [] (m_X12_isLit a0 x5 S) dX12_throwMirrors_252 gX12_throwMirrors_X12_isLit rfl ⟨rfl, rfl⟩ (by decide +kernel) ⟨by decide, by decide⟩ ⟨by decide, by decide⟩ rfl (by decide) rfl rfl (by first | exact Nat.le_of_ble_eq_true rfl | simp [va_rf_cat, vi_cat, vl_cat]) (fun o1 eo1 => ?_)
  show G Γ cvV 7 0 0 255 [(0, va_rf a0), (1, .int x1), (2, .int x2), (3, .int x3), (4, .int x4), (5, .int x5)] [.int o1.1] o1.2 _
  refine g_if_eq C (tgt := 303) dX12_throwMirrors_255 (by decide) (fun h2 => ?_) (fun h2 => ?_)
  · exact g_sub (lv2 := [(0, va_rf a0), (1, .int x1), (2, .int x2), (3, .int x3), (4, .int x4), (5, .int x5)]) [0, 1, 2, 3, 4, 5] rfl (t_X12_throwMirrors_303 C rc33 hrc33 a0 x1 x2 x3 x4 x5 o1.2)
  · refine g_iload_n C dX12_throwMirrors_258 rfl 1 rfl ?_
    refine g_i2l C dX12_throwMirrors_259 ?_
    refine g_lconst C (v := (0 : Int64)) dX12_throwMirrors_260 (by decide) ?_
    refine g_ldc2 C (v := (1000 : Int64)) dX12_throwMirrors_261 (by decide +kernel) ?_
    refine g_callS C (n := 3) [.long x1.toInt64, .long (0 : Int64), .long (1000 : Int64)] [] (m_X12_in x1.toInt64 (0 : Int64) (1000 : Int64) o1.2) dX12_throwMirrors_264 gX12_throwMirrors_X12_in rfl ⟨rfl, rfl⟩ (by decide +kernel) ⟨by decide, by decide⟩ ⟨by decide, by decide⟩ rfl rfl (by first | exact Nat.le_of_ble_eq_true rfl | simp [va_rf_cat, vi_cat, vl_cat]) (fun o3 eo3 => ?_)
    show G Γ cvV 7 0 0 267 [(0, va_rf a0), (1, .int x1), (2, .int x2), (3, .int x3), (4, .int x4), (5, .int x5)] [.int o3.1] o3.2 _
    refine g_if_eq C (tgt := 303) dX12_throwMirrors_267 (by decide) (fun h4 => ?_) (fun h4 => ?_)
    · exact g_sub (lv2 := [(0, va_rf a0), (1, .int x1), (2, .int x2), (3, .int x3), (4, .int x4), (5, .int x5)]) [0, 1, 2, 3, 4, 5] rfl (t_X12_throwMirrors_303 C rc33 hrc33 a0 x1 x2 x3 x4 x5 o3.2)
    · refine g_iload_n C dX12_throwMirrors_270 rfl 2 rfl ?_
      refine g_i2l C dX12_throwMirrors_271 ?_
      refine g_lconst C (v := (0 : Int64)) dX12_throwMirrors_272 (by decide) ?_
      refine g_ldc2 C (v := (1000 : Int64)) dX12_throwMirrors_273 (by decide +kernel) ?_
      refine g_callS C (n := 3) [.long x2.toInt64, .long (0 : Int64), .long (1000 : Int64)] [] (m_X12_in x2.toInt64 (0 : Int64) (1000 : Int64) o3.2) dX12_throwMirrors_276 gX12_throwMirrors_X12_in rfl ⟨rfl, rfl⟩ (by decide +kernel) ⟨by decide, by decide⟩ ⟨by decide, by decide⟩ rfl rfl (by first | exact Nat.le_of_ble_eq_true rfl | simp [va_rf_cat, vi_cat, vl_cat]) (fun o5 eo5 => ?_)
      show G Γ cvV 7 0 0 279 [(0, va_rf a0), (1, .int x1), (2, .int x2), (3, .int x3), (4, .int x4), (5, .int x5)] [.int o5.1] o5.2 _
      refine g_if_eq C (tgt := 303) dX12_throwMirrors_279 (by decide) (fun h6 => ?_) (fun h6 => ?_)
      · exact g_sub (lv2 := [(0, va_rf a0), (1, .int x1), (2, .int x2), (3, .int x3), (4, .int x4), (5, .int x5)]) [0, 1, 2, 3, 4, 5] rfl (t_X12_throwMirrors_303 C rc33 hrc33 a0 x1 x2 x3 x4 x5 o5.2)
      · refine g_aload_n C dX12_throwMirrors_282 rfl 0 rfl ?_
        refine g_getR C (ci := 11) (k := 23) dX12_throwMirrors_283 rfl (by decide) (by decide) (by decide) ulX12_throwMirrors_X12 flX12_throwMirrors_73 rfl (fun v7 ev7 => ?_)
        refine g_bipush C (v := (11 : Int32)) dX12_throwMirrors_286 (by decide) ?_
        refine g_iload_n C dX12_throwMirrors_288 rfl 2 rfl ?_
        refine g_bipush C (v := (100 : Int32)) dX12_throwMirrors_289 (by decide) ?_
        refine g_idiv C dX12_throwMirrors_291 (fun v8 ev8 => ?_)
        refine g_imul C dX12_throwMirrors_292 ?_
        refine g_iload_n C dX12_throwMirrors_293 rfl 1 rfl ?_
        refine g_bipush C (v := (100 : Int32)) dX12_throwMirrors_294 (by decide) ?_
        refine g_idiv C dX12_throwMirrors_296 (fun v9 ev9 => ?_)
        refine g_iadd C dX12_throwMirrors_297 ?_
        refine g_dup2 C dX12_throwMirrors_298 ?_
        refine g_ild C dX12_throwMirrors_299 (fun v10 ev10 => ?_)
        refine g_iconst C (v := (1 : Int32)) dX12_throwMirrors_300 (by decide) ?_
        refine g_iadd C dX12_throwMirrors_301 ?_
        refine g_ist C dX12_throwMirrors_302 (fun S11 eS11 => ?_)
        exact g_sub (lv2 := [(0, va_rf a0), (1, .int x1), (2, .int x2), (3, .int x3), (4, .int x4), (5, .int x5)]) [0, 1, 2, 3, 4, 5] rfl (t_X12_throwMirrors_303 C rc33 hrc33 a0 x1 x2 x3 x4 x5 S11)
set_option maxHeartbeats 4000000 in
set_option maxRecDepth 100000 in
theorem t_X12_throwMirrors_143 {Γ : Cx} (C : CF Γ cX12_throwMirrors 7 none wsX12_throwMirrors RX12 rmX12_throwMirrors 0 0) (rc33 : Option Nat → Int32 → Int32 → Int32 → Int32 → Int32 → St → Option (St)) (hrc33 : ∀ (a0 : Option Nat) (x1 : Int32) (x2 : Int32) (x3 : Int32) (x4 : Int32) (x5 : Int32) (S : St), G Γ cvV 7 0 0 33 [(0, va_rf a0), (1, .int x1), (2, .int x2), (3, .int x3), (4, .int x4), (5, .int x5)] [] S (rc33 a0 x1 x2 x3 x4 x5 S)) : ∀ (n : Nat) (a0 : Option Nat) (x1 : Int32) (x2 : Int32) (x3 : Int32) (x4 : Int32) (x5 : Int32) (x6 : Int32) (S : St), G Γ cvV 7 0 0 143 [(0, va_rf a0), (1, .int x1), (2, .int x2), (3, .int x3), (4, .int x4), (5, .int x5), (6, .int x6)] [] S (b_X12_throwMirrors_143 rc33 n a0 x1 x2 x3 x4 x5 x6 S) := by
  intro n
  induction n with
  | zero => intro a0 x1 x2 x3 x4 x5 x6 S; exact g_none
  | succ n ih =>
    intro a0 x1 x2 x3 x4 x5 x6 S
    rw [b_X12_throwMirrors_143]
    refine g_iload C dX12_throwMirrors_143 6 rfl ?_
    refine g_iconst C (v := (4 : Int32)) dX12_throwMirrors_145 (by decide) ?_
    refine g_icmp_ge C (tgt := 249) dX12_throwMirrors_146 (by decide) (fun h1 => ?_) (fun h1 => ?_)
    · exact g_sub (lv2 := [(0, va_rf a0), (1, .int x1), (2, .int x2), (3, .int x3), (4, .int x4), (5, .int x5)]) [0, 1, 2, 3, 4, 5] rfl (t_X12_throwMirrors_249 C rc33 hrc33 a0 x1 x2 x3 x4 x5 S)
    · refine g_aload_n C dX12_throwMirrors_149 rfl 0 rfl ?_
      refine g_getR C (ci := 11) (k := 22) dX12_throwMirrors_150 rfl (by decide) (by decide) (by decide) ulX12_throwMirrors_X12 flX12_throwMirrors_70 rfl (fun v2 ev2 => ?_)
      refine g_iload C dX12_throwMirrors_153 5 rfl ?_
      refine g_aload_n C dX12_throwMirrors_155 rfl 0 rfl ?_
      refine g_getR C (ci := 11) (k := 22) dX12_throwMirrors_156 rfl (by decide) (by decide) (by decide) ulX12_throwMirrors_X12 flX12_throwMirrors_70 rfl (fun v3 ev3 => ?_)
      refine g_iload C dX12_throwMirrors_159 5 rfl ?_
      refine g_zld C dX12_throwMirrors_161 (fun v4 ev4 => ?_)
      refine g_if_ne C (tgt := 237) dX12_throwMirrors_162 (by decide) (fun h5 => ?_) (fun h5 => ?_)
      · refine g_aload_n C dX12_throwMirrors_165 rfl 0 rfl ?_
        refine g_getR C (ci := 11) (k := 13) dX12_throwMirrors_166 rfl (by decide) (by decide) (by decide) ulX12_throwMirrors_X12 flX12_throwMirrors_48 rfl (fun v6 ev6 => ?_)
        refine g_iload C dX12_throwMirrors_169 6 rfl ?_
        refine g_zld C dX12_throwMirrors_171 (fun v7 ev7 => ?_)
        refine g_if_eq C (tgt := 241) dX12_throwMirrors_172 (by decide) (fun h8 => ?_) (fun h8 => ?_)
        · exact g_sub (lv2 := [(0, va_rf a0), (1, .int x1), (2, .int x2), (3, .int x3), (4, .int x4), (5, .int x5), (6, .int x6)]) [0, 1, 2, 3, 4, 5, 6] rfl (t_X12_throwMirrors_241 C rc33 hrc33 (b_X12_throwMirrors_143 rc33 n) ih a0 x1 x2 x3 x4 x5 x6 v2 x5 S)
        · refine g_iload_n C dX12_throwMirrors_175 rfl 1 rfl ?_
          refine g_i2l C dX12_throwMirrors_176 ?_
          refine g_aload_n C dX12_throwMirrors_177 rfl 0 rfl ?_
          refine g_getR C (ci := 11) (k := 14) dX12_throwMirrors_178 rfl (by decide) (by decide) (by decide) ulX12_throwMirrors_X12 flX12_throwMirrors_52 rfl (fun v9 ev9 => ?_)
          refine g_iconst C (v := (4 : Int32)) dX12_throwMirrors_181 (by decide) ?_
          refine g_iload C dX12_throwMirrors_182 6 rfl ?_
          refine g_imul C dX12_throwMirrors_184 ?_
          refine g_ild C dX12_throwMirrors_185 (fun v10 ev10 => ?_)
          refine g_i2l C dX12_throwMirrors_186 ?_
          refine g_aload_n C dX12_throwMirrors_187 rfl 0 rfl ?_
          refine g_getR C (ci := 11) (k := 14) dX12_throwMirrors_188 rfl (by decide) (by decide) (by decide) ulX12_throwMirrors_X12 flX12_throwMirrors_52 rfl (fun v11 ev11 => ?_)
          refine g_iconst C (v := (4 : Int32)) dX12_throwMirrors_191 (by decide) ?_
          refine g_iload C dX12_throwMirrors_192 6 rfl ?_
          refine g_imul C dX12_throwMirrors_194 ?_
          refine g_iconst C (v := (2 : Int32)) dX12_throwMirrors_195 (by decide) ?_
          refine g_iadd C dX12_throwMirrors_196 ?_
          refine g_ild C dX12_throwMirrors_197 (fun v12 ev12 => ?_)
          refine g_i2l C dX12_throwMirrors_198 ?_
          refine g_callS C (n := 3) [.long x1.toInt64, .long v10.toInt64, .long v12.toInt64] [.int x5, va_rf v2] (m_X12_in x1.toInt64 v10.toInt64 v12.toInt64 S) dX12_throwMirrors_199 gX12_throwMirrors_X12_in rfl ⟨rfl, rfl⟩ (by decide +kernel) ⟨by decide, by decide⟩ ⟨by decide, by decide⟩ rfl rfl (by first | exact Nat.le_of_ble_eq_true rfl | simp [va_rf_cat, vi_cat, vl_cat]) (fun o13 eo13 => ?_)
          show G Γ cvV 7 0 0 202 [(0, va_rf a0), (1, .int x1), (2, .int x2), (3, .int x3), (4, .int x4), (5, .int x5), (6, .int x6)] [.int o13.1, .int x5, va_rf v2] o13.2 _
          refine g_if_eq C (tgt := 241) dX12_throwMirrors_202 (by decide) (fun h14 => ?_) (fun h14 => ?_)
          · exact g_sub (lv2 := [(0, va_rf a0), (1, .int x1), (2, .int x2), (3, .int x3), (4, .int x4), (5, .int x5), (6, .int x6)]) [0, 1, 2, 3, 4, 5, 6] rfl (t_X12_throwMirrors_241 C rc33 hrc33 (b_X12_throwMirrors_143 rc33 n) ih a0 x1 x2 x3 x4 x5 x6 v2 x5 o13.2)
          · refine g_iload_n C dX12_throwMirrors_205 rfl 2 rfl ?_
            refine g_i2l C dX12_throwMirrors_206 ?_
            refine g_aload_n C dX12_throwMirrors_207 rfl 0 rfl ?_
            refine g_getR C (ci := 11) (k := 14) dX12_throwMirrors_208 rfl (by decide) (by decide) (by decide) ulX12_throwMirrors_X12 flX12_throwMirrors_52 rfl (fun v15 ev15 => ?_)
            refine g_iconst C (v := (4 : Int32)) dX12_throwMirrors_211 (by decide) ?_
            refine g_iload C dX12_throwMirrors_212 6 rfl ?_
            refine g_imul C dX12_throwMirrors_214 ?_
            refine g_iconst C (v := (1 : Int32)) dX12_throwMirrors_215 (by decide) ?_
            refine g_iadd C dX12_throwMirrors_216 ?_
            refine g_ild C dX12_throwMirrors_217 (fun v16 ev16 => ?_)
            refine g_i2l C dX12_throwMirrors_218 ?_
            refine g_aload_n C dX12_throwMirrors_219 rfl 0 rfl ?_
            refine g_getR C (ci := 11) (k := 14) dX12_throwMirrors_220 rfl (by decide) (by decide) (by decide) ulX12_throwMirrors_X12 flX12_throwMirrors_52 rfl (fun v17 ev17 => ?_)
            refine g_iconst C (v := (4 : Int32)) dX12_throwMirrors_223 (by decide) ?_
            refine g_iload C dX12_throwMirrors_224 6 rfl ?_
            refine g_imul C dX12_throwMirrors_226 ?_
            refine g_iconst C (v := (3 : Int32)) dX12_throwMirrors_227 (by decide) ?_
            refine g_iadd C dX12_throwMirrors_228 ?_
            refine g_ild C dX12_throwMirrors_229 (fun v18 ev18 => ?_)
            refine g_i2l C dX12_throwMirrors_230 ?_
            refine g_callS C (n := 3) [.long x2.toInt64, .long v16.toInt64, .long v18.toInt64] [.int x5, va_rf v2] (m_X12_in x2.toInt64 v16.toInt64 v18.toInt64 o13.2) dX12_throwMirrors_231 gX12_throwMirrors_X12_in rfl ⟨rfl, rfl⟩ (by decide +kernel) ⟨by decide, by decide⟩ ⟨by decide, by decide⟩ rfl rfl (by first | exact Nat.le_of_ble_eq_true rfl | simp [va_rf_cat, vi_cat, vl_cat]) (fun o19 eo19 => ?_)
            show G Γ cvV 7 0 0 234 [(0, va_rf a0), (1, .int x1), (2, .int x2), (3, .int x3), (4, .int x4), (5, .int x5), (6, .int x6)] [.int o19.1, .int x5, va_rf v2] o19.2 _
            refine g_if_eq C (tgt := 241) dX12_throwMirrors_234 (by decide) (fun h20 => ?_) (fun h20 => ?_)
            · exact g_sub (lv2 := [(0, va_rf a0), (1, .int x1), (2, .int x2), (3, .int x3), (4, .int x4), (5, .int x5), (6, .int x6)]) [0, 1, 2, 3, 4, 5, 6] rfl (t_X12_throwMirrors_241 C rc33 hrc33 (b_X12_throwMirrors_143 rc33 n) ih a0 x1 x2 x3 x4 x5 x6 v2 x5 o19.2)
            · exact g_sub (lv2 := [(0, va_rf a0), (1, .int x1), (2, .int x2), (3, .int x3), (4, .int x4), (5, .int x5), (6, .int x6)]) [0, 1, 2, 3, 4, 5, 6] rfl (t_X12_throwMirrors_237 C rc33 hrc33 (b_X12_throwMirrors_143 rc33 n) ih a0 x1 x2 x3 x4 x5 x6 v2 x5 o19.2)
      · exact g_sub (lv2 := [(0, va_rf a0), (1, .int x1), (2, .int x2), (3, .int x3), (4, .int x4), (5, .int x5), (6, .int x6)]) [0, 1, 2, 3, 4, 5, 6] rfl (t_X12_throwMirrors_237 C rc33 hrc33 (b_X12_throwMirrors_143 rc33 n) ih a0 x1 x2 x3 x4 x5 x6 v2 x5 S)
set_option maxHeartbeats 4000000 in
set_option maxRecDepth 100000 in
theorem t_X12_throwMirrors_33 {Γ : Cx} (C : CF Γ cX12_throwMirrors 7 none wsX12_throwMirrors RX12 rmX12_throwMirrors 0 0) : ∀ (n : Nat) (a0 : Option Nat) (x1 : Int32) (x2 : Int32) (x3 : Int32) (x4 : Int32) (x5 : Int32) (S : St), G Γ cvV 7 0 0 33 [(0, va_rf a0), (1, .int x1), (2, .int x2), (3, .int x3), (4, .int x4), (5, .int x5)] [] S (b_X12_throwMirrors_33  n a0 x1 x2 x3 x4 x5 S) := by
  intro n
  induction n with
  | zero => intro a0 x1 x2 x3 x4 x5 S; exact g_none
  | succ n ih =>
    intro a0 x1 x2 x3 x4 x5 S
    rw [b_X12_throwMirrors_33]
    refine g_iload C dX12_throwMirrors_33 5 rfl ?_
    refine g_aload_n C dX12_throwMirrors_35 rfl 0 rfl ?_
    refine g_getI C (ci := 11) (k := 15) dX12_throwMirrors_36 rfl (by decide) (by decide) (by decide) ulX12_throwMirrors_X12 flX12_throwMirrors_149 rfl (fun v1 ev1 => ?_)
    refine g_icmp_ge C (tgt := 309) dX12_throwMirrors_39 (by decide) (fun h2 => ?_) (fun h2 => ?_)
    · exact g_vret C dX12_throwMirrors_309 ⟨by decide, by decide⟩
    · refine g_iload_n C dX12_throwMirrors_42 rfl 3 rfl ?_
      refine g_aload_n C dX12_throwMirrors_43 rfl 0 rfl ?_
      refine g_getR C (ci := 11) (k := 17) dX12_throwMirrors_44 rfl (by decide) (by decide) (by decide) ulX12_throwMirrors_X12 flX12_throwMirrors_55 rfl (fun v3 ev3 => ?_)
      refine g_iload C dX12_throwMirrors_47 5 rfl ?_
      refine g_ild C dX12_throwMirrors_49 (fun v4 ev4 => ?_)
      refine g_iload_n C dX12_throwMirrors_50 rfl 1 rfl ?_
      refine g_isub C dX12_throwMirrors_51 ?_
      refine g_aload_n C dX12_throwMirrors_52 rfl 0 rfl ?_
      refine g_getR C (ci := 11) (k := 12) dX12_throwMirrors_53 rfl (by decide) (by decide) (by decide) ulX12_throwMirrors_X12 flX12_throwMirrors_45 rfl (fun v5 ev5 => ?_)
      refine g_iconst C (v := (2 : Int32)) dX12_throwMirrors_56 (by decide) ?_
      refine g_ild C dX12_throwMirrors_57 (fun v6 ev6 => ?_)
      refine g_imul C dX12_throwMirrors_58 ?_
      refine g_iload_n C dX12_throwMirrors_59 rfl 3 rfl ?_
      refine g_aload_n C dX12_throwMirrors_60 rfl 0 rfl ?_
      refine g_getR C (ci := 11) (k := 12) dX12_throwMirrors_61 rfl (by decide) (by decide) (by decide) ulX12_throwMirrors_X12 flX12_throwMirrors_45 rfl (fun v7 ev7 => ?_)
      refine g_iconst C (v := (3 : Int32)) dX12_throwMirrors_64 (by decide) ?_
      refine g_ild C dX12_throwMirrors_65 (fun v8 ev8 => ?_)
      refine g_imul C dX12_throwMirrors_66 ?_
      refine g_isub C dX12_throwMirrors_67 ?_
      refine g_bipush C (v := (16 : Int32)) dX12_throwMirrors_68 (by decide) ?_
      refine g_idiv C dX12_throwMirrors_70 (fun v9 ev9 => ?_)
      refine g_iadd C dX12_throwMirrors_71 ?_
      refine g_topi (fun y10 => ?_)
      refine g_istore_n C (lv2 := [(3, .int y10), (0, va_rf a0), (1, .int x1), (2, .int x2), (4, .int x4), (5, .int x5)]) dX12_throwMirrors_72 rfl (by decide) (by first | rfl | simp [va_rf_cat, vi_cat, vl_cat]) ?_
      refine g_iload C dX12_throwMirrors_73 4 rfl ?_
      refine g_aload_n C dX12_throwMirrors_75 rfl 1 rfl ?_
      refine g_getR C (ci := 11) (k := 18) dX12_throwMirrors_76 rfl (by decide) (by decide) (by decide) ulX12_throwMirrors_X12 flX12_throwMirrors_58 rfl (fun v11 ev11 => ?_)
      refine g_iload C dX12_throwMirrors_79 5 rfl ?_
      refine g_ild C dX12_throwMirrors_81 (fun v12 ev12 => ?_)
      refine g_iload_n C dX12_throwMirrors_82 rfl 3 rfl ?_
      refine g_isub C dX12_throwMirrors_83 ?_
      refine g_aload_n C dX12_throwMirrors_84 rfl 1 rfl ?_
      refine g_getR C (ci := 11) (k := 12) dX12_throwMirrors_85 rfl (by decide) (by decide) (by decide) ulX12_throwMirrors_X12 flX12_throwMirrors_45 rfl (fun v13 ev13 => ?_)
      refine g_iconst C (v := (2 : Int32)) dX12_throwMirrors_88 (by decide) ?_
      refine g_ild C dX12_throwMirrors_89 (fun v14 ev14 => ?_)
      refine g_imul C dX12_throwMirrors_90 ?_
      refine g_iload C dX12_throwMirrors_91 4 rfl ?_
      refine g_aload_n C dX12_throwMirrors_93 rfl 1 rfl ?_
      refine g_getR C (ci := 11) (k := 12) dX12_throwMirrors_94 rfl (by decide) (by decide) (by decide) ulX12_throwMirrors_X12 flX12_throwMirrors_45 rfl (fun v15 ev15 => ?_)
      refine g_iconst C (v := (3 : Int32)) dX12_throwMirrors_97 (by decide) ?_
      refine g_ild C dX12_throwMirrors_98 (fun v16 ev16 => ?_)
      refine g_imul C dX12_throwMirrors_99 ?_
      refine g_isub C dX12_throwMirrors_100 ?_
      refine g_bipush C (v := (16 : Int32)) dX12_throwMirrors_101 (by decide) ?_
      refine g_idiv C dX12_throwMirrors_103 (fun v17 ev17 => ?_)
      refine g_iadd C dX12_throwMirrors_104 ?_
      refine g_topi (fun y18 => ?_)
      refine g_istore C (lv2 := [(4, .int y18), (3, .int y10), (0, va_rf a0), (1, .int x1), (2, .int x2), (5, .int x5)]) dX12_throwMirrors_105 (by decide) (by first | rfl | simp [va_rf_cat, vi_cat, vl_cat]) ?_
      refine g_iload_n C dX12_throwMirrors_107 rfl 3 rfl ?_
      refine g_iload_n C dX12_throwMirrors_108 rfl 1 rfl ?_
      refine g_iadd C dX12_throwMirrors_109 ?_
      refine g_topi (fun y19 => ?_)
      refine g_istore_n C (lv2 := [(1, .int y19), (4, .int y18), (3, .int y10), (0, va_rf a0), (2, .int x2), (5, .int x5)]) dX12_throwMirrors_110 rfl (by decide) (by first | rfl | simp [va_rf_cat, vi_cat, vl_cat]) ?_
      refine g_iload_n C dX12_throwMirrors_111 rfl 4 rfl ?_
      refine g_iload C dX12_throwMirrors_112 1 rfl ?_
      refine g_iadd C dX12_throwMirrors_114 ?_
      refine g_topi (fun y20 => ?_)
      refine g_istore_n C (lv2 := [(2, .int y20), (1, .int y19), (4, .int y18), (3, .int y10), (0, va_rf a0), (5, .int x5)]) dX12_throwMirrors_115 rfl (by decide) (by first | rfl | simp [va_rf_cat, vi_cat, vl_cat]) ?_
      refine g_aload_n C dX12_throwMirrors_116 rfl 4 rfl ?_
      refine g_getR C (ci := 11) (k := 20) dX12_throwMirrors_117 rfl (by decide) (by decide) (by decide) ulX12_throwMirrors_X12 flX12_throwMirrors_64 rfl (fun v21 ev21 => ?_)
      refine g_iload C dX12_throwMirrors_120 5 rfl ?_
      refine g_iload_n C dX12_throwMirrors_122 rfl 1 rfl ?_
      refine g_ist C dX12_throwMirrors_123 (fun S22 eS22 => ?_)
      refine g_aload_n C dX12_throwMirrors_124 rfl 4 rfl ?_
      refine g_getR C (ci := 11) (k := 21) dX12_throwMirrors_125 rfl (by decide) (by decide) (by decide) ulX12_throwMirrors_X12 flX12_throwMirrors_67 rfl (fun v23 ev23 => ?_)
      refine g_iload C dX12_throwMirrors_128 5 rfl ?_
      refine g_iload_n C dX12_throwMirrors_130 rfl 0 rfl ?_
      refine g_ist C dX12_throwMirrors_131 (fun S24 eS24 => ?_)
      refine g_aload_n C dX12_throwMirrors_132 rfl 4 rfl ?_
      refine g_getR C (ci := 11) (k := 22) dX12_throwMirrors_133 rfl (by decide) (by decide) (by decide) ulX12_throwMirrors_X12 flX12_throwMirrors_70 rfl (fun v25 ev25 => ?_)
      refine g_iload C dX12_throwMirrors_136 5 rfl ?_
      refine g_iconst C (v := (0 : Int32)) dX12_throwMirrors_138 (by decide) ?_
      refine g_zst C dX12_throwMirrors_139 (fun S26 eS26 => ?_)
      refine g_iconst C (v := (0 : Int32)) dX12_throwMirrors_140 (by decide) ?_
      refine g_istore C (lv2 := [(6, .int (0 : Int32)), (2, .int y20), (1, .int y19), (4, .int y18), (3, .int y10), (0, va_rf a0), (5, .int x5)]) dX12_throwMirrors_141 (by decide) (by first | rfl | simp [va_rf_cat, vi_cat, vl_cat]) ?_
      exact g_sub (lv2 := [(0, va_rf a0), (1, .int y19), (2, .int y20), (3, .int y10), (4, .int y18), (5, .int x5), (6, .int (0 : Int32))]) [5, 2, 1, 4, 3, 6, 0] rfl (t_X12_throwMirrors_143 C (b_X12_throwMirrors_33 n) ih FU a0 y19 y20 y10 y18 x5 (0 : Int32) S26)
set_option maxHeartbeats 4000000 in
set_option maxRecDepth 100000 in
theorem t_X12_throwMirrors_21 {Γ : Cx} (C : CF Γ cX12_throwMirrors 7 none wsX12_throwMirrors RX12 rmX12_throwMirrors 0 0) (a0 : Option Nat) (S : St) : G Γ cvV 7 0 0 21 [(0, va_rf a0)] [] S (b_X12_throwMirrors_21  a0 S) := by
  unfold b_X12_throwMirrors_21
  refine g_iconst C (v := (0 : Int32)) dX12_throwMirrors_21 (by decide) ?_
  refine g_istore_n C (lv2 := [(1, .int (0 : Int32)), (0, va_rf a0)]) dX12_throwMirrors_22 rfl (by decide) (by first | rfl | simp [va_rf_cat, vi_cat, vl_cat]) ?_
  refine g_iconst C (v := (0 : Int32)) dX12_throwMirrors_23 (by decide) ?_
  refine g_istore_n C (lv2 := [(2, .int (0 : Int32)), (1, .int (0 : Int32)), (0, va_rf a0)]) dX12_throwMirrors_24 rfl (by decide) (by first | rfl | simp [va_rf_cat, vi_cat, vl_cat]) ?_
  refine g_iconst C (v := (0 : Int32)) dX12_throwMirrors_25 (by decide) ?_
  refine g_istore_n C (lv2 := [(3, .int (0 : Int32)), (2, .int (0 : Int32)), (1, .int (0 : Int32)), (0, va_rf a0)]) dX12_throwMirrors_26 rfl (by decide) (by first | rfl | simp [va_rf_cat, vi_cat, vl_cat]) ?_
  refine g_iconst C (v := (0 : Int32)) dX12_throwMirrors_27 (by decide) ?_
  refine g_istore C (lv2 := [(4, .int (0 : Int32)), (3, .int (0 : Int32)), (2, .int (0 : Int32)), (1, .int (0 : Int32)), (0, va_rf a0)]) dX12_throwMirrors_28 (by decide) (by first | rfl | simp [va_rf_cat, vi_cat, vl_cat]) ?_
  refine g_iconst C (v := (0 : Int32)) dX12_throwMirrors_30 (by decide) ?_
  refine g_istore C (lv2 := [(5, .int (0 : Int32)), (4, .int (0 : Int32)), (3, .int (0 : Int32)), (2, .int (0 : Int32)), (1, .int (0 : Int32)), (0, va_rf a0)]) dX12_throwMirrors_31 (by decide) (by first | rfl | simp [va_rf_cat, vi_cat, vl_cat]) ?_
  exact g_sub (lv2 := [(0, va_rf a0), (1, .int (0 : Int32)), (2, .int (0 : Int32)), (3, .int (0 : Int32)), (4, .int (0 : Int32)), (5, .int (0 : Int32))]) [5, 4, 3, 2, 1, 0] rfl (t_X12_throwMirrors_33 C FU a0 (0 : Int32) (0 : Int32) (0 : Int32) (0 : Int32) (0 : Int32) S)
set_option maxHeartbeats 4000000 in
set_option maxRecDepth 100000 in
theorem t_X12_throwMirrors_2 {Γ : Cx} (C : CF Γ cX12_throwMirrors 7 none wsX12_throwMirrors RX12 rmX12_throwMirrors 0 0) : ∀ (n : Nat) (a0 : Option Nat) (x1 : Int32) (S : St), G Γ cvV 7 0 0 2 [(0, va_rf a0), (1, .int x1)] [] S (b_X12_throwMirrors_2  n a0 x1 S) := by
  intro n
  induction n with
  | zero => intro a0 x1 S; exact g_none
  | succ n ih =>
    intro a0 x1 S
    rw [b_X12_throwMirrors_2]
    refine g_iload_n C dX12_throwMirrors_2 rfl 1 rfl ?_
    refine g_bipush C (v := (121 : Int32)) dX12_throwMirrors_3 (by decide) ?_
    refine g_icmp_ge C (tgt := 21) dX12_throwMirrors_5 (by decide) (fun h1 => ?_) (fun h1 => ?_)
    · exact g_sub (lv2 := [(0, va_rf a0)]) [0] rfl (t_X12_throwMirrors_21 C a0 S)
    · refine g_aload_n C dX12_throwMirrors_8 rfl 0 rfl ?_
      refine g_getR C (ci := 11) (k := 23) dX12_throwMirrors_9 rfl (by decide) (by decide) (by decide) ulX12_throwMirrors_X12 flX12_throwMirrors_73 rfl (fun v2 ev2 => ?_)
      refine g_iload_n C dX12_throwMirrors_12 rfl 1 rfl ?_
      refine g_iconst C (v := (0 : Int32)) dX12_throwMirrors_13 (by decide) ?_
      refine g_ist C dX12_throwMirrors_14 (fun S3 eS3 => ?_)
      refine g_iinc1 C dX12_throwMirrors_15 1 rfl (by decide) (by decide) (fun y4 => ?_)
      refine g_lveq (lv2 := [(1, .int y4), (0, va_rf a0)]) (by first | rfl | simp [va_rf_cat, vi_cat, vl_cat]) ?_
      refine g_goto C (tgt := 2) dX12_throwMirrors_18 (by decide) ?_
      exact g_sub (lv2 := [(0, va_rf a0), (1, .int y4)]) [1, 0] rfl (ih a0 y4 S3)
set_option maxHeartbeats 4000000 in
set_option maxRecDepth 100000 in
theorem m_X12_throwMirrors (a0 : Option Nat) (S : St) : ∀ l D cy H0 o, f_X12_throwMirrors a0 S = some o → Met l yX12_throwMirrors wsX12_throwMirrors rmX12_throwMirrors (Pq D cy H0 [va_rf a0] S) (Qx D cy H0 (cvV o)) 0 0 (fun q => H0.size ≤ q) := by
  refine met_of (cc := cX12_throwMirrors) (maxL := 7) (ret := none) [va_rf a0] [(0, va_rf a0)] (by decide) rfl rfl (by simp [lg_sl, va_rf_cat, vi_cat, vl_cat]) (by simp [lv_args, va_rf_cat, vi_cat, vl_cat]) (fun Γ C => ?_)
  unfold f_X12_throwMirrors
  refine g_iconst C (v := (0 : Int32)) dX12_throwMirrors_0 (by decide) ?_
  refine g_istore_n C (lv2 := [(1, .int (0 : Int32)), (0, va_rf a0)]) dX12_throwMirrors_1 rfl (by decide) (by first | rfl | simp [va_rf_cat, vi_cat, vl_cat]) ?_
  exact g_sub (lv2 := [(0, va_rf a0), (1, .int (0 : Int32))]) [1, 0] rfl (t_X12_throwMirrors_2 C FU a0 (0 : Int32) S)
abbrev rmX12_make : Room := { frames := 3, cells := 0, slots := 0, locals := 71 }
theorem flX12_make_27 : Cond.fieldLink RX12 27 "LightLinesModel" "points" "[I" ∈ wsX12_make := by decide +kernel
theorem flX12_make_30 : Cond.fieldLink RX12 30 "LightLinesModel" "px" "[I" ∈ wsX12_make := by decide +kernel
theorem flX12_make_33 : Cond.fieldLink RX12 33 "LightLinesModel" "py" "[I" ∈ wsX12_make := by decide +kernel
theorem flX12_make_36 : Cond.fieldLink RX12 36 "LightLinesModel" "order" "[I" ∈ wsX12_make := by decide +kernel
theorem flX12_make_39 : Cond.fieldLink RX12 39 "LightLinesModel" "back" "[I" ∈ wsX12_make := by decide +kernel
theorem flX12_make_45 : Cond.fieldLink RX12 45 "LightLinesModel" "rule" "[I" ∈ wsX12_make := by decide +kernel
theorem flX12_make_105 : Cond.fieldLink RX12 105 "LightLinesModel" "strokes" "I" ∈ wsX12_make := by decide +kernel
theorem flX12_make_149 : Cond.fieldLink RX12 149 "LightLinesModel" "ticks" "I" ∈ wsX12_make := by decide +kernel
theorem flX12_make_152 : Cond.fieldLink RX12 152 "LightLinesModel" "isFull" "Z" ∈ wsX12_make := by decide +kernel
theorem flX12_make_156 : Cond.fieldLink RX12 156 "LightLinesModel" "nowX" "I" ∈ wsX12_make := by decide +kernel
theorem flX12_make_159 : Cond.fieldLink RX12 159 "LightLinesModel" "nowY" "I" ∈ wsX12_make := by decide +kernel
set_option maxRecDepth 100000 in
theorem ulX12_make_X12 : ∀ w ∈ u_ws RX12 TX12 42, w ∈ wsX12_make := by decide +kernel
set_option maxHeartbeats 4000000 in
set_option maxRecDepth 100000 in
theorem t_X12_make_185 {Γ : Cx} (C : CF Γ cX12_make 6 none wsX12_make RX12 rmX12_make 0 0) (rc22 : Option Nat → Int32 → St → Option (St)) (hrc22 : ∀ (a0 : Option Nat) (x1 : Int32) (S : St), G Γ cvV 6 0 0 22 [(0, va_rf a0), (1, .int x1)] [] S (rc22 a0 x1 S)) (rc101 : Option Nat → Int32 → Int32 → Int32 → Int32 → Int32 → St → Option (St)) (hrc101 : ∀ (a0 : Option Nat) (x1 : Int32) (x2 : Int32) (x3 : Int32) (x4 : Int32) (x5 : Int32) (S : St), G Γ cvV 6 0 0 101 [(0, va_rf a0), (1, .int x1), (2, .int x2), (3, .int x3), (4, .int x4), (5, .int x5)] [] S (rc101 a0 x1 x2 x3 x4 x5 S)) (a0 : Option Nat) (x1 : Int32) (x2 : Int32) (x3 : Int32) (x4 : Int32) (x5 : Int32) (S : St) : G Γ cvV 6 0 0 185 [(0, va_rf a0), (1, .int x1), (2, .int x2), (3, .int x3), (4, .int x4), (5, .int x5)] [] S (b_X12_make_185 rc22 rc101 a0 x1 x2 x3 x4 x5 S) := by
  unfold b_X12_make_185
  refine g_iinc1 C dX12_make_185 5 rfl (by decide) (by decide) (fun y1 => ?_)
  refine g_lveq (lv2 := [(5, .int y1), (0, va_rf a0), (1, .int x1), (2, .int x2), (3, .int x3), (4, .int x4)]) (by first | rfl | simp [va_rf_cat, vi_cat, vl_cat]) ?_
  refine g_goto C (tgt := 101) dX12_make_188 (by decide) ?_
  exact g_sub (lv2 := [(0, va_rf a0), (1, .int x1), (2, .int x2), (3, .int x3), (4, .int x4), (5, .int y1)]) [1, 2, 3, 4, 5, 0] rfl (hrc101 a0 x1 x2 x3 x4 y1 S)
set_option maxHeartbeats 4000000 in
set_option maxRecDepth 100000 in
theorem t_X12_make_191 {Γ : Cx} (C : CF Γ cX12_make 6 none wsX12_make RX12 rmX12_make 0 0) (rc22 : Option Nat → Int32 → St → Option (St)) (hrc22 : ∀ (a0 : Option Nat) (x1 : Int32) (S : St), G Γ cvV 6 0 0 22 [(0, va_rf a0), (1, .int x1)] [] S (rc22 a0 x1 S)) (a0 : Option Nat) (x1 : Int32) (S : St) : G Γ cvV 6 0 0 191 [(0, va_rf a0), (1, .int x1)] [] S (b_X12_make_191 rc22 a0 x1 S) := by
  unfold b_X12_make_191
  refine g_aload_n C dX12_make_191 rfl 0 rfl ?_
  refine g_aload_n C dX12_make_192 rfl 0 rfl ?_
  refine g_getR C (ci := 11) (k := 12) dX12_make_193 rfl (by decide) (by decide) (by decide) ulX12_make_X12 flX12_make_45 rfl (fun v1 ev1 => ?_)
  refine g_iconst C (v := (1 : Int32)) dX12_make_196 (by decide) ?_
  refine g_ild C dX12_make_197 (fun v2 ev2 => ?_)
  refine g_iconst C (v := (0 : Int32)) dX12_make_198 (by decide) ?_
  refine g_callV C (n := 2) (ci := 11) [.int v2, .int (0 : Int32)] [] (m_X12_stay a0 v2 (0 : Int32) S) dX12_make_199 gX12_make_X12_stay rfl ⟨rfl, rfl⟩ (by decide +kernel) ⟨by decide, by decide⟩ ⟨by decide, by decide⟩ rfl (by decide) rfl rfl (by first | exact Nat.le_of_ble_eq_true rfl | simp [va_rf_cat, vi_cat, vl_cat]) (fun o3 eo3 => ?_)
  show G Γ cvV 6 0 0 202 [(0, va_rf a0), (1, .int x1)] [] o3 _
  refine g_iinc1 C dX12_make_202 1 rfl (by decide) (by decide) (fun y4 => ?_)
  refine g_lveq (lv2 := [(1, .int y4), (0, va_rf a0)]) (by first | rfl | simp [va_rf_cat, vi_cat, vl_cat]) ?_
  refine g_goto C (tgt := 22) dX12_make_205 (by decide) ?_
  exact g_sub (lv2 := [(0, va_rf a0), (1, .int y4)]) [1, 0] rfl (hrc22 a0 y4 o3)
set_option maxHeartbeats 4000000 in
set_option maxRecDepth 100000 in
theorem t_X12_make_101 {Γ : Cx} (C : CF Γ cX12_make 6 none wsX12_make RX12 rmX12_make 0 0) (rc22 : Option Nat → Int32 → St → Option (St)) (hrc22 : ∀ (a0 : Option Nat) (x1 : Int32) (S : St), G Γ cvV 6 0 0 22 [(0, va_rf a0), (1, .int x1)] [] S (rc22 a0 x1 S)) : ∀ (n : Nat) (a0 : Option Nat) (x1 : Int32) (x2 : Int32) (x3 : Int32) (x4 : Int32) (x5 : Int32) (S : St), G Γ cvV 6 0 0 101 [(0, va_rf a0), (1, .int x1), (2, .int x2), (3, .int x3), (4, .int x4), (5, .int x5)] [] S (b_X12_make_101 rc22 n a0 x1 x2 x3 x4 x5 S) := by
  intro n
  induction n with
  | zero => intro a0 x1 x2 x3 x4 x5 S; exact g_none
  | succ n ih =>
    intro a0 x1 x2 x3 x4 x5 S
    rw [b_X12_make_101]
    refine g_iload C dX12_make_101 5 rfl ?_
    refine g_iload C dX12_make_103 4 rfl ?_
    refine g_icmp_ge C (tgt := 191) dX12_make_105 (by decide) (fun h1 => ?_) (fun h1 => ?_)
    · exact g_sub (lv2 := [(0, va_rf a0), (1, .int x1)]) [0, 1] rfl (t_X12_make_191 C rc22 hrc22 a0 x1 S)
    · refine g_aload_n C dX12_make_108 rfl 0 rfl ?_
      refine g_aload_n C dX12_make_109 rfl 0 rfl ?_
      refine g_getR C (ci := 11) (k := 7) dX12_make_110 rfl (by decide) (by decide) (by decide) ulX12_make_X12 flX12_make_30 rfl (fun v2 ev2 => ?_)
      refine g_aload_n C dX12_make_113 rfl 0 rfl ?_
      refine g_iload_n C dX12_make_114 rfl 2 rfl ?_
      refine g_iload_n C dX12_make_115 rfl 3 rfl ?_
      refine g_iload C dX12_make_116 5 rfl ?_
      refine g_callV C (n := 3) (ci := 11) [.int x2, .int x3, .int x5] [va_rf v2, va_rf a0] (m_X12_at a0 x2 x3 x5 S) dX12_make_118 gX12_make_X12_at rfl ⟨rfl, rfl⟩ (by decide +kernel) ⟨by decide, by decide⟩ ⟨by decide, by decide⟩ rfl (by decide) rfl rfl (by first | exact Nat.le_of_ble_eq_true rfl | simp [va_rf_cat, vi_cat, vl_cat]) (fun o3 eo3 => ?_)
      show G Γ cvV 6 0 0 121 [(0, va_rf a0), (1, .int x1), (2, .int x2), (3, .int x3), (4, .int x4), (5, .int x5)] [.int o3.1, va_rf v2, va_rf a0] o3.2 _
      refine g_ild C dX12_make_121 (fun v4 ev4 => ?_)
      refine g_aload_n C dX12_make_122 rfl 0 rfl ?_
      refine g_getR C (ci := 11) (k := 8) dX12_make_123 rfl (by decide) (by decide) (by decide) ulX12_make_X12 flX12_make_33 rfl (fun v5 ev5 => ?_)
      refine g_aload_n C dX12_make_126 rfl 0 rfl ?_
      refine g_iload_n C dX12_make_127 rfl 2 rfl ?_
      refine g_iload_n C dX12_make_128 rfl 3 rfl ?_
      refine g_iload C dX12_make_129 5 rfl ?_
      refine g_callV C (n := 3) (ci := 11) [.int x2, .int x3, .int x5] [va_rf v5, .int v4, va_rf a0] (m_X12_at a0 x2 x3 x5 o3.2) dX12_make_131 gX12_make_X12_at rfl ⟨rfl, rfl⟩ (by decide +kernel) ⟨by decide, by decide⟩ ⟨by decide, by decide⟩ rfl (by decide) rfl rfl (by first | exact Nat.le_of_ble_eq_true rfl | simp [va_rf_cat, vi_cat, vl_cat]) (fun o6 eo6 => ?_)
      show G Γ cvV 6 0 0 134 [(0, va_rf a0), (1, .int x1), (2, .int x2), (3, .int x3), (4, .int x4), (5, .int x5)] [.int o6.1, va_rf v5, .int v4, va_rf a0] o6.2 _
      refine g_ild C dX12_make_134 (fun v7 ev7 => ?_)
      refine g_iconst C (v := (1 : Int32)) dX12_make_135 (by decide) ?_
      refine g_callV C (n := 3) (ci := 11) [.int v4, .int v7, .int (1 : Int32)] [] (m_X12_move a0 v4 v7 (1 : Int32) o6.2) dX12_make_136 gX12_make_X12_move rfl ⟨rfl, rfl⟩ (by decide +kernel) ⟨by decide, by decide⟩ ⟨by decide, by decide⟩ rfl (by decide) rfl rfl (by first | exact Nat.le_of_ble_eq_true rfl | simp [va_rf_cat, vi_cat, vl_cat]) (fun o8 eo8 => ?_)
      show G Γ cvV 6 0 0 139 [(0, va_rf a0), (1, .int x1), (2, .int x2), (3, .int x3), (4, .int x4), (5, .int x5)] [] o8 _
      refine g_iload C dX12_make_139 5 rfl ?_
      refine g_iconst C (v := (1 : Int32)) dX12_make_141 (by decide) ?_
      refine g_iadd C dX12_make_142 ?_
      refine g_iload C dX12_make_143 4 rfl ?_
      refine g_icmp_ge C (tgt := 185) dX12_make_145 (by decide) (fun h9 => ?_) (fun h9 => ?_)
      · exact g_sub (lv2 := [(0, va_rf a0), (1, .int x1), (2, .int x2), (3, .int x3), (4, .int x4), (5, .int x5)]) [0, 1, 2, 3, 4, 5] rfl (t_X12_make_185 C rc22 hrc22 (b_X12_make_101 rc22 n) ih a0 x1 x2 x3 x4 x5 o8)
      · refine g_aload_n C dX12_make_148 rfl 0 rfl ?_
        refine g_aload_n C dX12_make_149 rfl 0 rfl ?_
        refine g_aload_n C dX12_make_150 rfl 0 rfl ?_
        refine g_iload_n C dX12_make_151 rfl 2 rfl ?_
        refine g_iload_n C dX12_make_152 rfl 3 rfl ?_
        refine g_iload C dX12_make_153 5 rfl ?_
        refine g_iconst C (v := (1 : Int32)) dX12_make_155 (by decide) ?_
        refine g_isub C dX12_make_156 ?_
        refine g_callV C (n := 3) (ci := 11) [.int x2, .int x3, .int (x5 - (1 : Int32))] [va_rf a0, va_rf a0] (m_X12_at a0 x2 x3 (x5 - (1 : Int32)) o8) dX12_make_157 gX12_make_X12_at rfl ⟨rfl, rfl⟩ (by decide +kernel) ⟨by decide, by decide⟩ ⟨by decide, by decide⟩ rfl (by decide) rfl rfl (by first | exact Nat.le_of_ble_eq_true rfl | simp [va_rf_cat, vi_cat, vl_cat]) (fun o10 eo10 => ?_)
        show G Γ cvV 6 0 0 160 [(0, va_rf a0), (1, .int x1), (2, .int x2), (3, .int x3), (4, .int x4), (5, .int x5)] [.int o10.1, va_rf a0, va_rf a0] o10.2 _
        refine g_aload_n C dX12_make_160 rfl 0 rfl ?_
        refine g_iload_n C dX12_make_161 rfl 2 rfl ?_
        refine g_iload_n C dX12_make_162 rfl 3 rfl ?_
        refine g_iload C dX12_make_163 5 rfl ?_
        refine g_callV C (n := 3) (ci := 11) [.int x2, .int x3, .int x5] [.int o10.1, va_rf a0, va_rf a0] (m_X12_at a0 x2 x3 x5 o10.2) dX12_make_165 gX12_make_X12_at rfl ⟨rfl, rfl⟩ (by decide +kernel) ⟨by decide, by decide⟩ ⟨by decide, by decide⟩ rfl (by decide) rfl rfl (by first | exact Nat.le_of_ble_eq_true rfl | simp [va_rf_cat, vi_cat, vl_cat]) (fun o11 eo11 => ?_)
        show G Γ cvV 6 0 0 168 [(0, va_rf a0), (1, .int x1), (2, .int x2), (3, .int x3), (4, .int x4), (5, .int x5)] [.int o11.1, .int o10.1, va_rf a0, va_rf a0] o11.2 _
        refine g_aload_n C dX12_make_168 rfl 0 rfl ?_
        refine g_iload_n C dX12_make_169 rfl 2 rfl ?_
        refine g_iload_n C dX12_make_170 rfl 3 rfl ?_
        refine g_iload C dX12_make_171 5 rfl ?_
        refine g_iconst C (v := (1 : Int32)) dX12_make_173 (by decide) ?_
        refine g_iadd C dX12_make_174 ?_
        refine g_callV C (n := 3) (ci := 11) [.int x2, .int x3, .int (x5 + (1 : Int32))] [.int o11.1, .int o10.1, va_rf a0, va_rf a0] (m_X12_at a0 x2 x3 (x5 + (1 : Int32)) o11.2) dX12_make_175 gX12_make_X12_at rfl ⟨rfl, rfl⟩ (by decide +kernel) ⟨by decide, by decide⟩ ⟨by decide, by decide⟩ rfl (by decide) rfl rfl (by first | exact Nat.le_of_ble_eq_true rfl | simp [va_rf_cat, vi_cat, vl_cat]) (fun o12 eo12 => ?_)
        show G Γ cvV 6 0 0 178 [(0, va_rf a0), (1, .int x1), (2, .int x2), (3, .int x3), (4, .int x4), (5, .int x5)] [.int o12.1, .int o11.1, .int o10.1, va_rf a0, va_rf a0] o12.2 _
        refine g_callV C (n := 3) (ci := 11) [.int o10.1, .int o11.1, .int o12.1] [va_rf a0] (m_X12_holds a0 o10.1 o11.1 o12.1 o12.2) dX12_make_178 gX12_make_X12_holds rfl ⟨rfl, rfl⟩ (by decide +kernel) ⟨by decide, by decide⟩ ⟨by decide, by decide⟩ rfl (by decide) rfl rfl (by first | exact Nat.le_of_ble_eq_true rfl | simp [va_rf_cat, vi_cat, vl_cat]) (fun o13 eo13 => ?_)
        show G Γ cvV 6 0 0 181 [(0, va_rf a0), (1, .int x1), (2, .int x2), (3, .int x3), (4, .int x4), (5, .int x5)] [.int o13.1, va_rf a0] o13.2 _
        refine g_iconst C (v := (1 : Int32)) dX12_make_181 (by decide) ?_
        refine g_callV C (n := 2) (ci := 11) [.int o13.1, .int (1 : Int32)] [] (m_X12_stay a0 o13.1 (1 : Int32) o13.2) dX12_make_182 gX12_make_X12_stay rfl ⟨rfl, rfl⟩ (by decide +kernel) ⟨by decide, by decide⟩ ⟨by decide, by decide⟩ rfl (by decide) rfl rfl (by first | exact Nat.le_of_ble_eq_true rfl | simp [va_rf_cat, vi_cat, vl_cat]) (fun o14 eo14 => ?_)
        show G Γ cvV 6 0 0 185 [(0, va_rf a0), (1, .int x1), (2, .int x2), (3, .int x3), (4, .int x4), (5, .int x5)] [] o14 _
        exact g_sub (lv2 := [(0, va_rf a0), (1, .int x1), (2, .int x2), (3, .int x3), (4, .int x4), (5, .int x5)]) [0, 1, 2, 3, 4, 5] rfl (t_X12_make_185 C rc22 hrc22 (b_X12_make_101 rc22 n) ih a0 x1 x2 x3 x4 x5 o14)
set_option maxHeartbeats 4000000 in
set_option maxRecDepth 100000 in
theorem t_X12_make_208 {Γ : Cx} (C : CF Γ cX12_make 6 none wsX12_make RX12 rmX12_make 0 0) (a0 : Option Nat) (S : St) : G Γ cvV 6 0 0 208 [(0, va_rf a0)] [] S (b_X12_make_208  a0 S) := by
  unfold b_X12_make_208
  refine g_aload_n C dX12_make_208 rfl 0 rfl ?_
  refine g_iconst C (v := (0 : Int32)) dX12_make_209 (by decide) ?_
  refine g_iconst C (v := (0 : Int32)) dX12_make_210 (by decide) ?_
  refine g_iconst C (v := (0 : Int32)) dX12_make_211 (by decide) ?_
  refine g_callV C (n := 3) (ci := 11) [.int (0 : Int32), .int (0 : Int32), .int (0 : Int32)] [] (m_X12_move a0 (0 : Int32) (0 : Int32) (0 : Int32) S) dX12_make_212 gX12_make_X12_move rfl ⟨rfl, rfl⟩ (by decide +kernel) ⟨by decide, by decide⟩ ⟨by decide, by decide⟩ rfl (by decide) rfl rfl (by first | exact Nat.le_of_ble_eq_true rfl | simp [va_rf_cat, vi_cat, vl_cat]) (fun o1 eo1 => ?_)
  show G Γ cvV 6 0 0 215 [(0, va_rf a0)] [] o1 _
  refine g_aload_n C dX12_make_215 rfl 0 rfl ?_
  refine g_callV C (n := 0) (ci := 11) [] [] (m_X12_throwMirrors a0 o1) dX12_make_216 gX12_make_X12_throwMirrors rfl ⟨rfl, rfl⟩ (by decide +kernel) ⟨by decide, by decide⟩ ⟨by decide, by decide⟩ rfl (by decide) rfl rfl (by first | exact Nat.le_of_ble_eq_true rfl | simp [va_rf_cat, vi_cat, vl_cat]) (fun o2 eo2 => ?_)
  show G Γ cvV 6 0 0 219 [(0, va_rf a0)] [] o2 _
  exact g_vret C dX12_make_219 ⟨by decide, by decide⟩
set_option maxHeartbeats 4000000 in
set_option maxRecDepth 100000 in
theorem t_X12_make_22 {Γ : Cx} (C : CF Γ cX12_make 6 none wsX12_make RX12 rmX12_make 0 0) : ∀ (n : Nat) (a0 : Option Nat) (x1 : Int32) (S : St), G Γ cvV 6 0 0 22 [(0, va_rf a0), (1, .int x1)] [] S (b_X12_make_22  n a0 x1 S) := by
  intro n
  induction n with
  | zero => intro a0 x1 S; exact g_none
  | succ n ih =>
    intro a0 x1 S
    rw [b_X12_make_22]
    refine g_iload_n C dX12_make_22 rfl 1 rfl ?_
    refine g_aload_n C dX12_make_23 rfl 0 rfl ?_
    refine g_getI C (ci := 11) (k := 5) dX12_make_24 rfl (by decide) (by decide) (by decide) ulX12_make_X12 flX12_make_105 rfl (fun v1 ev1 => ?_)
    refine g_icmp_ge C (tgt := 208) dX12_make_27 (by decide) (fun h2 => ?_) (fun h2 => ?_)
    · exact g_sub (lv2 := [(0, va_rf a0)]) [0] rfl (t_X12_make_208 C a0 S)
    · refine g_aload_n C dX12_make_30 rfl 0 rfl ?_
      refine g_getR C (ci := 11) (k := 9) dX12_make_31 rfl (by decide) (by decide) (by decide) ulX12_make_X12 flX12_make_36 rfl (fun v3 ev3 => ?_)
      refine g_iload_n C dX12_make_34 rfl 1 rfl ?_
      refine g_ild C dX12_make_35 (fun v4 ev4 => ?_)
      refine g_istore_n C (lv2 := [(2, .int v4), (0, va_rf a0), (1, .int x1)]) dX12_make_36 rfl (by decide) (by first | rfl | simp [va_rf_cat, vi_cat, vl_cat]) ?_
      refine g_aload_n C dX12_make_37 rfl 1 rfl ?_
      refine g_getR C (ci := 11) (k := 10) dX12_make_38 rfl (by decide) (by decide) (by decide) ulX12_make_X12 flX12_make_39 rfl (fun v5 ev5 => ?_)
      refine g_iload_n C dX12_make_41 rfl 2 rfl ?_
      refine g_ild C dX12_make_42 (fun v6 ev6 => ?_)
      refine g_istore_n C (lv2 := [(3, .int v6), (2, .int v4), (0, va_rf a0), (1, .int x1)]) dX12_make_43 rfl (by decide) (by first | rfl | simp [va_rf_cat, vi_cat, vl_cat]) ?_
      refine g_aload_n C dX12_make_44 rfl 2 rfl ?_
      refine g_getR C (ci := 11) (k := 6) dX12_make_45 rfl (by decide) (by decide) (by decide) ulX12_make_X12 flX12_make_27 rfl (fun v7 ev7 => ?_)
      refine g_iload_n C dX12_make_48 rfl 1 rfl ?_
      refine g_ild C dX12_make_49 (fun v8 ev8 => ?_)
      refine g_istore C (lv2 := [(4, .int v8), (3, .int v6), (2, .int v4), (0, va_rf a0), (1, .int x1)]) dX12_make_50 (by decide) (by first | rfl | simp [va_rf_cat, vi_cat, vl_cat]) ?_
      refine g_aload_n C dX12_make_52 rfl 3 rfl ?_
      refine g_aload_n C dX12_make_53 rfl 3 rfl ?_
      refine g_getR C (ci := 11) (k := 7) dX12_make_54 rfl (by decide) (by decide) (by decide) ulX12_make_X12 flX12_make_30 rfl (fun v9 ev9 => ?_)
      refine g_aload_n C dX12_make_57 rfl 3 rfl ?_
      refine g_iload_n C dX12_make_58 rfl 2 rfl ?_
      refine g_iload_n C dX12_make_59 rfl 1 rfl ?_
      refine g_iconst C (v := (0 : Int32)) dX12_make_60 (by decide) ?_
      refine g_callV C (n := 3) (ci := 11) [.int v4, .int v6, .int (0 : Int32)] [va_rf v9, va_rf a0] (m_X12_at a0 v4 v6 (0 : Int32) S) dX12_make_61 gX12_make_X12_at rfl ⟨rfl, rfl⟩ (by decide +kernel) ⟨by decide, by decide⟩ ⟨by decide, by decide⟩ rfl (by decide) rfl rfl (by first | exact Nat.le_of_ble_eq_true rfl | simp [va_rf_cat, vi_cat, vl_cat]) (fun o10 eo10 => ?_)
      show G Γ cvV 6 0 0 64 [(4, .int v8), (3, .int v6), (2, .int v4), (0, va_rf a0), (1, .int x1)] [.int o10.1, va_rf v9, va_rf a0] o10.2 _
      refine g_ild C dX12_make_64 (fun v11 ev11 => ?_)
      refine g_aload_n C dX12_make_65 rfl 3 rfl ?_
      refine g_getR C (ci := 11) (k := 8) dX12_make_66 rfl (by decide) (by decide) (by decide) ulX12_make_X12 flX12_make_33 rfl (fun v12 ev12 => ?_)
      refine g_aload_n C dX12_make_69 rfl 3 rfl ?_
      refine g_iload_n C dX12_make_70 rfl 2 rfl ?_
      refine g_iload_n C dX12_make_71 rfl 1 rfl ?_
      refine g_iconst C (v := (0 : Int32)) dX12_make_72 (by decide) ?_
      refine g_callV C (n := 3) (ci := 11) [.int v4, .int v6, .int (0 : Int32)] [va_rf v12, .int v11, va_rf a0] (m_X12_at a0 v4 v6 (0 : Int32) o10.2) dX12_make_73 gX12_make_X12_at rfl ⟨rfl, rfl⟩ (by decide +kernel) ⟨by decide, by decide⟩ ⟨by decide, by decide⟩ rfl (by decide) rfl rfl (by first | exact Nat.le_of_ble_eq_true rfl | simp [va_rf_cat, vi_cat, vl_cat]) (fun o13 eo13 => ?_)
      show G Γ cvV 6 0 0 76 [(4, .int v8), (3, .int v6), (2, .int v4), (0, va_rf a0), (1, .int x1)] [.int o13.1, va_rf v12, .int v11, va_rf a0] o13.2 _
      refine g_ild C dX12_make_76 (fun v14 ev14 => ?_)
      refine g_iconst C (v := (0 : Int32)) dX12_make_77 (by decide) ?_
      refine g_callV C (n := 3) (ci := 11) [.int v11, .int v14, .int (0 : Int32)] [] (m_X12_move a0 v11 v14 (0 : Int32) o13.2) dX12_make_78 gX12_make_X12_move rfl ⟨rfl, rfl⟩ (by decide +kernel) ⟨by decide, by decide⟩ ⟨by decide, by decide⟩ rfl (by decide) rfl rfl (by first | exact Nat.le_of_ble_eq_true rfl | simp [va_rf_cat, vi_cat, vl_cat]) (fun o15 eo15 => ?_)
      show G Γ cvV 6 0 0 81 [(4, .int v8), (3, .int v6), (2, .int v4), (0, va_rf a0), (1, .int x1)] [] o15 _
      refine g_aload_n C dX12_make_81 rfl 3 rfl ?_
      refine g_aload_n C dX12_make_82 rfl 3 rfl ?_
      refine g_getR C (ci := 11) (k := 12) dX12_make_83 rfl (by decide) (by decide) (by decide) ulX12_make_X12 flX12_make_45 rfl (fun v16 ev16 => ?_)
      refine g_iconst C (v := (1 : Int32)) dX12_make_86 (by decide) ?_
      refine g_ild C dX12_make_87 (fun v17 ev17 => ?_)
      refine g_iconst C (v := (0 : Int32)) dX12_make_88 (by decide) ?_
      refine g_callV C (n := 2) (ci := 11) [.int v17, .int (0 : Int32)] [] (m_X12_stay a0 v17 (0 : Int32) o15) dX12_make_89 gX12_make_X12_stay rfl ⟨rfl, rfl⟩ (by decide +kernel) ⟨by decide, by decide⟩ ⟨by decide, by decide⟩ rfl (by decide) rfl rfl (by first | exact Nat.le_of_ble_eq_true rfl | simp [va_rf_cat, vi_cat, vl_cat]) (fun o18 eo18 => ?_)
      show G Γ cvV 6 0 0 92 [(4, .int v8), (3, .int v6), (2, .int v4), (0, va_rf a0), (1, .int x1)] [] o18 _
      refine g_aload_n C dX12_make_92 rfl 3 rfl ?_
      refine g_iconst C (v := (1 : Int32)) dX12_make_93 (by decide) ?_
      refine g_iconst C (v := (1 : Int32)) dX12_make_94 (by decide) ?_
      refine g_callV C (n := 2) (ci := 11) [.int (1 : Int32), .int (1 : Int32)] [] (m_X12_stay a0 (1 : Int32) (1 : Int32) o18) dX12_make_95 gX12_make_X12_stay rfl ⟨rfl, rfl⟩ (by decide +kernel) ⟨by decide, by decide⟩ ⟨by decide, by decide⟩ rfl (by decide) rfl rfl (by first | exact Nat.le_of_ble_eq_true rfl | simp [va_rf_cat, vi_cat, vl_cat]) (fun o19 eo19 => ?_)
      show G Γ cvV 6 0 0 98 [(4, .int v8), (3, .int v6), (2, .int v4), (0, va_rf a0), (1, .int x1)] [] o19 _
      refine g_iconst C (v := (1 : Int32)) dX12_make_98 (by decide) ?_
      refine g_istore C (lv2 := [(5, .int (1 : Int32)), (4, .int v8), (3, .int v6), (2, .int v4), (0, va_rf a0), (1, .int x1)]) dX12_make_99 (by decide) (by first | rfl | simp [va_rf_cat, vi_cat, vl_cat]) ?_
      exact g_sub (lv2 := [(0, va_rf a0), (1, .int x1), (2, .int v4), (3, .int v6), (4, .int v8), (5, .int (1 : Int32))]) [4, 5, 3, 2, 1, 0] rfl (t_X12_make_101 C (b_X12_make_22 n) ih FU a0 x1 v4 v6 v8 (1 : Int32) o19)
set_option maxHeartbeats 4000000 in
set_option maxRecDepth 100000 in
theorem m_X12_make (a0 : Option Nat) (S : St) : ∀ l D cy H0 o, f_X12_make a0 S = some o → Met l yX12_make wsX12_make rmX12_make (Pq D cy H0 [va_rf a0] S) (Qx D cy H0 (cvV o)) 0 0 (fun q => H0.size ≤ q) := by
  refine met_of (cc := cX12_make) (maxL := 6) (ret := none) [va_rf a0] [(0, va_rf a0)] (by decide) rfl rfl (by simp [lg_sl, va_rf_cat, vi_cat, vl_cat]) (by simp [lv_args, va_rf_cat, vi_cat, vl_cat]) (fun Γ C => ?_)
  unfold f_X12_make
  refine g_aload_n C dX12_make_0 rfl 0 rfl ?_
  refine g_iconst C (v := (0 : Int32)) dX12_make_1 (by decide) ?_
  refine g_putI C (ci := 11) (k := 15) (ty0 := tyX12) dX12_make_2 rfl (by decide) (by decide) (by decide) tyX12_ok nmX12 ulX12_make_X12 flX12_make_149 rfl rfl ⟨rfl, rfl⟩ (fun S1 eS1 => ?_)
  refine g_aload_n C dX12_make_5 rfl 0 rfl ?_
  refine g_iconst C (v := (0 : Int32)) dX12_make_6 (by decide) ?_
  refine g_putI C (ci := 11) (k := 16) (ty0 := tyX12) dX12_make_7 rfl (by decide) (by decide) (by decide) tyX12_ok nmX12 ulX12_make_X12 flX12_make_152 rfl rfl ⟨rfl, rfl⟩ (fun S2 eS2 => ?_)
  refine g_aload_n C dX12_make_10 rfl 0 rfl ?_
  refine g_iconst C (v := (0 : Int32)) dX12_make_11 (by decide) ?_
  refine g_putI C (ci := 11) (k := 24) (ty0 := tyX12) dX12_make_12 rfl (by decide) (by decide) (by decide) tyX12_ok nmX12 ulX12_make_X12 flX12_make_156 rfl rfl ⟨rfl, rfl⟩ (fun S3 eS3 => ?_)
  refine g_aload_n C dX12_make_15 rfl 0 rfl ?_
  refine g_iconst C (v := (0 : Int32)) dX12_make_16 (by decide) ?_
  refine g_putI C (ci := 11) (k := 25) (ty0 := tyX12) dX12_make_17 rfl (by decide) (by decide) (by decide) tyX12_ok nmX12 ulX12_make_X12 flX12_make_159 rfl rfl ⟨rfl, rfl⟩ (fun S4 eS4 => ?_)
  refine g_iconst C (v := (0 : Int32)) dX12_make_20 (by decide) ?_
  refine g_istore_n C (lv2 := [(1, .int (0 : Int32)), (0, va_rf a0)]) dX12_make_21 rfl (by decide) (by first | rfl | simp [va_rf_cat, vi_cat, vl_cat]) ?_
  exact g_sub (lv2 := [(0, va_rf a0), (1, .int (0 : Int32))]) [1, 0] rfl (t_X12_make_22 C FU a0 (0 : Int32) S4)
abbrev rmX12_lag : Room := { frames := 2, cells := 0, slots := 0, locals := 45 }
theorem flX12_lag_55 : Cond.fieldLink RX12 55 "LightLinesModel" "toldX" "[I" ∈ wsX12_lag := by decide +kernel
theorem flX12_lag_58 : Cond.fieldLink RX12 58 "LightLinesModel" "toldY" "[I" ∈ wsX12_lag := by decide +kernel
theorem flX12_lag_61 : Cond.fieldLink RX12 61 "LightLinesModel" "isTold" "[Z" ∈ wsX12_lag := by decide +kernel
theorem flX12_lag_64 : Cond.fieldLink RX12 64 "LightLinesModel" "mirrorX" "[I" ∈ wsX12_lag := by decide +kernel
theorem flX12_lag_67 : Cond.fieldLink RX12 67 "LightLinesModel" "mirrorY" "[I" ∈ wsX12_lag := by decide +kernel
set_option maxRecDepth 100000 in
theorem ulX12_lag_X12 : ∀ w ∈ u_ws RX12 TX12 42, w ∈ wsX12_lag := by decide +kernel
set_option maxHeartbeats 4000000 in
set_option maxRecDepth 100000 in
theorem m_X12_lag (a0 : Option Nat) (x1 : Int32) (S : St) : ∀ l D cy H0 o, f_X12_lag a0 x1 S = some o → Met l yX12_lag wsX12_lag rmX12_lag (Pq D cy H0 [va_rf a0, .int x1] S) (Qx D cy H0 (cvI o)) 0 0 (fun q => H0.size ≤ q) := by
  refine met_of (cc := cX12_lag) (maxL := 2) (ret := (some .int)) [va_rf a0, .int x1] [(0, va_rf a0), (1, .int x1)] (by decide) rfl rfl (by simp [lg_sl, va_rf_cat, vi_cat, vl_cat]) (by simp [lv_args, va_rf_cat, vi_cat, vl_cat]) (fun Γ C => ?_)
  unfold f_X12_lag
  refine g_aload_n C dX12_lag_0 rfl 0 rfl ?_
  refine g_getR C (ci := 11) (k := 19) dX12_lag_1 rfl (by decide) (by decide) (by decide) ulX12_lag_X12 flX12_lag_61 rfl (fun v1 ev1 => ?_)
  refine g_iload_n C dX12_lag_4 rfl 1 rfl ?_
  refine g_zld C dX12_lag_5 (fun v2 ev2 => ?_)
  refine g_if_eq C (tgt := 39) dX12_lag_6 (by decide) (fun h3 => ?_) (fun h3 => ?_)
  · refine g_iconst C (v := (0 : Int32)) dX12_lag_39 (by decide) ?_
    exact g_iret C dX12_lag_40 ⟨by decide, by decide⟩
  · refine g_aload_n C dX12_lag_9 rfl 0 rfl ?_
    refine g_getR C (ci := 11) (k := 17) dX12_lag_10 rfl (by decide) (by decide) (by decide) ulX12_lag_X12 flX12_lag_55 rfl (fun v4 ev4 => ?_)
    refine g_iload_n C dX12_lag_13 rfl 1 rfl ?_
    refine g_ild C dX12_lag_14 (fun v5 ev5 => ?_)
    refine g_aload_n C dX12_lag_15 rfl 0 rfl ?_
    refine g_getR C (ci := 11) (k := 18) dX12_lag_16 rfl (by decide) (by decide) (by decide) ulX12_lag_X12 flX12_lag_58 rfl (fun v6 ev6 => ?_)
    refine g_iload_n C dX12_lag_19 rfl 1 rfl ?_
    refine g_ild C dX12_lag_20 (fun v7 ev7 => ?_)
    refine g_aload_n C dX12_lag_21 rfl 0 rfl ?_
    refine g_getR C (ci := 11) (k := 20) dX12_lag_22 rfl (by decide) (by decide) (by decide) ulX12_lag_X12 flX12_lag_64 rfl (fun v8 ev8 => ?_)
    refine g_iload_n C dX12_lag_25 rfl 1 rfl ?_
    refine g_ild C dX12_lag_26 (fun v9 ev9 => ?_)
    refine g_aload_n C dX12_lag_27 rfl 0 rfl ?_
    refine g_getR C (ci := 11) (k := 21) dX12_lag_28 rfl (by decide) (by decide) (by decide) ulX12_lag_X12 flX12_lag_67 rfl (fun v10 ev10 => ?_)
    refine g_iload_n C dX12_lag_31 rfl 1 rfl ?_
    refine g_ild C dX12_lag_32 (fun v11 ev11 => ?_)
    refine g_callS C (n := 4) [.int v5, .int v7, .int v9, .int v11] [] (m_X12_way v5 v7 v9 v11 S) dX12_lag_33 gX12_lag_X12_way rfl ⟨rfl, rfl⟩ (by decide +kernel) ⟨by decide, by decide⟩ ⟨by decide, by decide⟩ rfl rfl (by first | exact Nat.le_of_ble_eq_true rfl | simp [va_rf_cat, vi_cat, vl_cat]) (fun o12 eo12 => ?_)
    show G Γ cvI 2 0 0 36 [(0, va_rf a0), (1, .int x1)] [.int o12.1] o12.2 _
    refine g_goto C (tgt := 40) dX12_lag_36 (by decide) ?_
    exact g_iret C dX12_lag_40 ⟨by decide, by decide⟩
