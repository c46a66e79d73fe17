abbrev rmX12_readCue : Room := { frames := 4, cells := 0, slots := 0, locals := 87 }
theorem flX12_readCue_82 : Cond.fieldLink RX12 82 "LightLinesModel" "reads" "[I" ∈ wsX12_readCue := by decide +kernel
theorem flX12_readCue_207 : Cond.fieldLink RX12 207 "LightLinesModel" "sort" "I" ∈ wsX12_readCue := by decide +kernel
theorem flX12_readCue_219 : Cond.fieldLink RX12 219 "LightLinesModel" "fault" "I" ∈ wsX12_readCue := by decide +kernel
theorem flX12_readCue_242 : Cond.fieldLink RX12 242 "LightLinesModel" "read" "I" ∈ wsX12_readCue := by decide +kernel
set_option maxRecDepth 100000 in
theorem ulX12_readCue_X12 : ∀ w ∈ u_ws RX12 TX12 42, w ∈ wsX12_readCue := by decide +kernel
set_option maxHeartbeats 4000000 in
set_option maxRecDepth 100000 in
theorem t_X12_readCue_205 {Γ : Cx} (C : CF Γ cX12_readCue 7 none wsX12_readCue RX12 rmX12_readCue 0 0) (a0 : Option Nat) (x1 : Int32) (x4 : Int32) (x5 : Int32) (x6 : Int32) (r0 : Option Nat) (s1 : Int32) (S : St) : G Γ cvV 7 0 0 205 [(0, va_rf a0), (1, .int x1), (4, .int x4), (5, .int x5), (6, .int x6)] [.int s1, va_rf r0] S (b_X12_readCue_205  a0 x1 x4 x5 x6 r0 s1 S) := by
  unfold b_X12_readCue_205
  refine g_callV C (n := 1) (ci := 11) [.int s1] [] (m_X12_take r0 s1 S) dX12_readCue_205 gX12_readCue_X12_take rfl ⟨rfl, rfl⟩ (by decide +kernel) ⟨by decide, by decide⟩ ⟨by decide, by decide⟩ rfl (by decide) rfl rfl (by first | exact Nat.le_of_ble_eq_true rfl | simp [va_rf_cat, vi_cat, vl_cat]) (fun o1 eo1 => ?_)
  show G Γ cvV 7 0 0 208 [(0, va_rf a0), (1, .int x1), (4, .int x4), (5, .int x5), (6, .int x6)] [] o1 _
  refine g_aload_n C dX12_readCue_208 rfl 0 rfl ?_
  refine g_getI C (ci := 11) (k := 34) dX12_readCue_209 rfl (by decide) (by decide) (by decide) ulX12_readCue_X12 flX12_readCue_219 rfl (fun v2 ev2 => ?_)
  refine g_if_ne C (tgt := 282) dX12_readCue_212 (by decide) (fun h3 => ?_) (fun h3 => ?_)
  · refine g_aload_n C dX12_readCue_215 rfl 0 rfl ?_
    refine g_getR C (ci := 11) (k := 39) dX12_readCue_216 rfl (by decide) (by decide) (by decide) ulX12_readCue_X12 flX12_readCue_82 rfl (fun v4 ev4 => ?_)
    refine g_iconst C (v := (4 : Int32)) dX12_readCue_219 (by decide) ?_
    refine g_aload_n C dX12_readCue_220 rfl 0 rfl ?_
    refine g_getI C (ci := 11) (k := 38) dX12_readCue_221 rfl (by decide) (by decide) (by decide) ulX12_readCue_X12 flX12_readCue_242 rfl (fun v5 ev5 => ?_)
    refine g_imul C dX12_readCue_224 ?_
    refine g_iload_n C dX12_readCue_225 rfl 1 rfl ?_
    refine g_ist C dX12_readCue_226 (fun S6 eS6 => ?_)
    refine g_aload_n C dX12_readCue_227 rfl 0 rfl ?_
    refine g_getR C (ci := 11) (k := 39) dX12_readCue_228 rfl (by decide) (by decide) (by decide) ulX12_readCue_X12 flX12_readCue_82 rfl (fun v7 ev7 => ?_)
    refine g_iconst C (v := (4 : Int32)) dX12_readCue_231 (by decide) ?_
    refine g_aload_n C dX12_readCue_232 rfl 0 rfl ?_
    refine g_getI C (ci := 11) (k := 38) dX12_readCue_233 rfl (by decide) (by decide) (by decide) ulX12_readCue_X12 flX12_readCue_242 rfl (fun v8 ev8 => ?_)
    refine g_imul C dX12_readCue_236 ?_
    refine g_iconst C (v := (1 : Int32)) dX12_readCue_237 (by decide) ?_
    refine g_iadd C dX12_readCue_238 ?_
    refine g_iload C dX12_readCue_239 2 rfl ?_
    refine g_ist C dX12_readCue_241 (fun S9 eS9 => ?_)
    refine g_aload_n C dX12_readCue_242 rfl 0 rfl ?_
    refine g_getR C (ci := 11) (k := 39) dX12_readCue_243 rfl (by decide) (by decide) (by decide) ulX12_readCue_X12 flX12_readCue_82 rfl (fun v10 ev10 => ?_)
    refine g_iconst C (v := (4 : Int32)) dX12_readCue_246 (by decide) ?_
    refine g_aload_n C dX12_readCue_247 rfl 0 rfl ?_
    refine g_getI C (ci := 11) (k := 38) dX12_readCue_248 rfl (by decide) (by decide) (by decide) ulX12_readCue_X12 flX12_readCue_242 rfl (fun v11 ev11 => ?_)
    refine g_imul C dX12_readCue_251 ?_
    refine g_iconst C (v := (2 : Int32)) dX12_readCue_252 (by decide) ?_
    refine g_iadd C dX12_readCue_253 ?_
    refine g_iload C dX12_readCue_254 3 rfl ?_
    refine g_ist C dX12_readCue_256 (fun S12 eS12 => ?_)
    refine g_aload_n C dX12_readCue_257 rfl 0 rfl ?_
    refine g_getR C (ci := 11) (k := 39) dX12_readCue_258 rfl (by decide) (by decide) (by decide) ulX12_readCue_X12 flX12_readCue_82 rfl (fun v13 ev13 => ?_)
    refine g_iconst C (v := (4 : Int32)) dX12_readCue_261 (by decide) ?_
    refine g_aload_n C dX12_readCue_262 rfl 0 rfl ?_
    refine g_getI C (ci := 11) (k := 38) dX12_readCue_263 rfl (by decide) (by decide) (by decide) ulX12_readCue_X12 flX12_readCue_242 rfl (fun v14 ev14 => ?_)
    refine g_imul C dX12_readCue_266 ?_
    refine g_iconst C (v := (3 : Int32)) dX12_readCue_267 (by decide) ?_
    refine g_iadd C dX12_readCue_268 ?_
    refine g_iload C dX12_readCue_269 4 rfl ?_
    refine g_ist C dX12_readCue_271 (fun S15 eS15 => ?_)
    refine g_aload_n C dX12_readCue_272 rfl 0 rfl ?_
    refine g_dupr C dX12_readCue_273 ?_
    refine g_getI C (ci := 11) (k := 38) dX12_readCue_274 rfl (by decide) (by decide) (by decide) ulX12_readCue_X12 flX12_readCue_242 rfl (fun v16 ev16 => ?_)
    refine g_iconst C (v := (1 : Int32)) dX12_readCue_277 (by decide) ?_
    refine g_iadd C dX12_readCue_278 ?_
    refine g_putI C (ci := 11) (k := 38) (ty0 := tyX12) dX12_readCue_279 rfl (by decide) (by decide) (by decide) tyX12_ok nmX12 ulX12_readCue_X12 flX12_readCue_242 rfl rfl ⟨rfl, rfl⟩ (fun S17 eS17 => ?_)
    exact g_vret C dX12_readCue_282 ⟨by decide, by decide⟩
  · exact g_vret C dX12_readCue_282 ⟨by decide, by decide⟩
set_option maxHeartbeats 4000000 in
set_option maxRecDepth 100000 in
theorem t_X12_readCue_189 {Γ : Cx} (C : CF Γ cX12_readCue 7 none wsX12_readCue RX12 rmX12_readCue 0 0) (a0 : Option Nat) (x1 : Int32) (x4 : Int32) (x5 : Int32) (s0 : Int32) (S : St) : G Γ cvV 7 0 0 189 [(0, va_rf a0), (1, .int x1), (4, .int x4), (5, .int x5)] [.int s0] S (b_X12_readCue_189  a0 x1 x4 x5 s0 S) := by
  unfold b_X12_readCue_189
  refine g_istore C (lv2 := [(6, .int s0), (0, va_rf a0), (1, .int x1), (4, .int x4), (5, .int x5)]) dX12_readCue_189 (by decide) (by first | rfl | simp [va_rf_cat, vi_cat, vl_cat]) ?_
  refine g_aload_n C dX12_readCue_191 rfl 1 rfl ?_
  refine g_aload_n C dX12_readCue_192 rfl 1 rfl ?_
  refine g_getI C (ci := 11) (k := 31) dX12_readCue_193 rfl (by decide) (by decide) (by decide) ulX12_readCue_X12 flX12_readCue_207 rfl (fun v1 ev1 => ?_)
  refine g_iconst C (v := (4 : Int32)) dX12_readCue_196 (by decide) ?_
  refine g_icmp_ne C (tgt := 204) dX12_readCue_197 (by decide) (fun h2 => ?_) (fun h2 => ?_)
  · refine g_iconst C (v := (1 : Int32)) dX12_readCue_200 (by decide) ?_
    refine g_goto C (tgt := 205) dX12_readCue_201 (by decide) ?_
    exact g_sub (lv2 := [(0, va_rf a0), (1, .int x1), (4, .int x4), (5, .int x5), (6, .int s0)]) [1, 2, 3, 4, 0] rfl (t_X12_readCue_205 C a0 x1 x4 x5 s0 a0 (1 : Int32) S)
  · refine g_iconst C (v := (0 : Int32)) dX12_readCue_204 (by decide) ?_
    exact g_sub (lv2 := [(0, va_rf a0), (1, .int x1), (4, .int x4), (5, .int x5), (6, .int s0)]) [1, 2, 3, 4, 0] rfl (t_X12_readCue_205 C a0 x1 x4 x5 s0 a0 (0 : Int32) S)
set_option maxHeartbeats 4000000 in
set_option maxRecDepth 100000 in
theorem t_X12_readCue_169 {Γ : Cx} (C : CF Γ cX12_readCue 7 none wsX12_readCue RX12 rmX12_readCue 0 0) (a0 : Option Nat) (x1 : Int32) (x4 : Int32) (s0 : Int32) (S : St) : G Γ cvV 7 0 0 169 [(0, va_rf a0), (1, .int x1), (4, .int x4)] [.int s0] S (b_X12_readCue_169  a0 x1 x4 s0 S) := by
  unfold b_X12_readCue_169
  refine g_istore C (lv2 := [(5, .int s0), (0, va_rf a0), (1, .int x1), (4, .int x4)]) dX12_readCue_169 (by decide) (by first | rfl | simp [va_rf_cat, vi_cat, vl_cat]) ?_
  refine g_iload C dX12_readCue_171 3 rfl ?_
  refine g_iconst C (v := (2 : Int32)) dX12_readCue_173 (by decide) ?_
  refine g_icmp_ne C (tgt := 188) dX12_readCue_174 (by decide) (fun h1 => ?_) (fun h1 => ?_)
  · refine g_aload_n C dX12_readCue_177 rfl 1 rfl ?_
    refine g_iconst C (v := (0 : Int32)) dX12_readCue_178 (by decide) ?_
    refine g_sipush C (v := (9999 : Int32)) dX12_readCue_179 (by decide) ?_
    refine g_callV C (n := 2) (ci := 11) [.int (0 : Int32), .int (9999 : Int32)] [] (m_X12_numberIn a0 (0 : Int32) (9999 : Int32) S) dX12_readCue_182 gX12_readCue_X12_numberIn rfl ⟨rfl, rfl⟩ (by decide +kernel) ⟨by decide, by decide⟩ ⟨by decide, by decide⟩ rfl (by decide) rfl rfl (by first | exact Nat.le_of_ble_eq_true rfl | simp [va_rf_cat, vi_cat, vl_cat]) (fun o2 eo2 => ?_)
    show G Γ cvV 7 0 0 185 [(5, .int s0), (0, va_rf a0), (1, .int x1), (4, .int x4)] [.int o2.1] o2.2 _
    refine g_goto C (tgt := 189) dX12_readCue_185 (by decide) ?_
    exact g_sub (lv2 := [(0, va_rf a0), (1, .int x1), (4, .int x4), (5, .int s0)]) [1, 2, 3, 0] rfl (t_X12_readCue_189 C a0 x1 x4 s0 o2.1 o2.2)
  · refine g_iconst C (v := (0 : Int32)) dX12_readCue_188 (by decide) ?_
    exact g_sub (lv2 := [(0, va_rf a0), (1, .int x1), (4, .int x4), (5, .int s0)]) [1, 2, 3, 0] rfl (t_X12_readCue_189 C a0 x1 x4 s0 (0 : Int32) S)
set_option maxHeartbeats 4000000 in
set_option maxRecDepth 100000 in
theorem t_X12_readCue_133 {Γ : Cx} (C : CF Γ cX12_readCue 7 none wsX12_readCue RX12 rmX12_readCue 0 0) (a0 : Option Nat) (x1 : Int32) (x4 : Int32) (r0 : Option Nat) (s1 : Int32) (S : St) : G Γ cvV 7 0 0 133 [(0, va_rf a0), (1, .int x1), (4, .int x4)] [.int s1, va_rf r0] S (b_X12_readCue_133  a0 x1 x4 r0 s1 S) := by
  unfold b_X12_readCue_133
  refine g_callV C (n := 1) (ci := 11) [.int s1] [] (m_X12_take r0 s1 S) dX12_readCue_133 gX12_readCue_X12_take rfl ⟨rfl, rfl⟩ (by decide +kernel) ⟨by decide, by decide⟩ ⟨by decide, by decide⟩ rfl (by decide) rfl rfl (by first | exact Nat.le_of_ble_eq_true rfl | simp [va_rf_cat, vi_cat, vl_cat]) (fun o1 eo1 => ?_)
  show G Γ cvV 7 0 0 136 [(0, va_rf a0), (1, .int x1), (4, .int x4)] [] o1 _
  refine g_iload C dX12_readCue_136 2 rfl ?_
  refine g_if_ne C (tgt := 152) dX12_readCue_138 (by decide) (fun h2 => ?_) (fun h2 => ?_)
  · refine g_aload_n C dX12_readCue_141 rfl 0 rfl ?_
    refine g_iconst C (v := (0 : Int32)) dX12_readCue_142 (by decide) ?_
    refine g_sipush C (v := (9999 : Int32)) dX12_readCue_143 (by decide) ?_
    refine g_callV C (n := 2) (ci := 11) [.int (0 : Int32), .int (9999 : Int32)] [] (m_X12_numberIn a0 (0 : Int32) (9999 : Int32) o1) dX12_readCue_146 gX12_readCue_X12_numberIn rfl ⟨rfl, rfl⟩ (by decide +kernel) ⟨by decide, by decide⟩ ⟨by decide, by decide⟩ rfl (by decide) rfl rfl (by first | exact Nat.le_of_ble_eq_true rfl | simp [va_rf_cat, vi_cat, vl_cat]) (fun o3 eo3 => ?_)
    show G Γ cvV 7 0 0 149 [(0, va_rf a0), (1, .int x1), (4, .int x4)] [.int o3.1] o3.2 _
    refine g_goto C (tgt := 169) dX12_readCue_149 (by decide) ?_
    exact g_sub (lv2 := [(0, va_rf a0), (1, .int x1), (4, .int x4)]) [0, 1, 2] rfl (t_X12_readCue_169 C a0 x1 x4 o3.1 o3.2)
  · refine g_iload C dX12_readCue_152 2 rfl ?_
    refine g_iconst C (v := (2 : Int32)) dX12_readCue_154 (by decide) ?_
    refine g_icmp_ne C (tgt := 168) dX12_readCue_155 (by decide) (fun h4 => ?_) (fun h4 => ?_)
    · refine g_aload_n C dX12_readCue_158 rfl 0 rfl ?_
      refine g_iconst C (v := (0 : Int32)) dX12_readCue_159 (by decide) ?_
      refine g_bipush C (v := (100 : Int32)) dX12_readCue_160 (by decide) ?_
      refine g_callV C (n := 2) (ci := 11) [.int (0 : Int32), .int (100 : Int32)] [] (m_X12_numberIn a0 (0 : Int32) (100 : Int32) o1) dX12_readCue_162 gX12_readCue_X12_numberIn rfl ⟨rfl, rfl⟩ (by decide +kernel) ⟨by decide, by decide⟩ ⟨by decide, by decide⟩ rfl (by decide) rfl rfl (by first | exact Nat.le_of_ble_eq_true rfl | simp [va_rf_cat, vi_cat, vl_cat]) (fun o5 eo5 => ?_)
      show G Γ cvV 7 0 0 165 [(0, va_rf a0), (1, .int x1), (4, .int x4)] [.int o5.1] o5.2 _
      refine g_goto C (tgt := 169) dX12_readCue_165 (by decide) ?_
      exact g_sub (lv2 := [(0, va_rf a0), (1, .int x1), (4, .int x4)]) [0, 1, 2] rfl (t_X12_readCue_169 C a0 x1 x4 o5.1 o5.2)
    · refine g_iconst C (v := (0 : Int32)) dX12_readCue_168 (by decide) ?_
      exact g_sub (lv2 := [(0, va_rf a0), (1, .int x1), (4, .int x4)]) [0, 1, 2] rfl (t_X12_readCue_169 C a0 x1 x4 (0 : Int32) o1)
set_option maxHeartbeats 4000000 in
set_option maxRecDepth 100000 in
theorem t_X12_readCue_119 {Γ : Cx} (C : CF Γ cX12_readCue 7 none wsX12_readCue RX12 rmX12_readCue 0 0) (a0 : Option Nat) (x1 : Int32) (s0 : Int32) (S : St) : G Γ cvV 7 0 0 119 [(0, va_rf a0), (1, .int x1)] [.int s0] S (b_X12_readCue_119  a0 x1 s0 S) := by
  unfold b_X12_readCue_119
  refine g_istore C (lv2 := [(4, .int s0), (0, va_rf a0), (1, .int x1)]) dX12_readCue_119 (by decide) (by first | rfl | simp [va_rf_cat, vi_cat, vl_cat]) ?_
  refine g_aload_n C dX12_readCue_121 rfl 1 rfl ?_
  refine g_iload C dX12_readCue_122 0 rfl ?_
  refine g_iconst C (v := (3 : Int32)) dX12_readCue_124 (by decide) ?_
  refine g_icmp_ge C (tgt := 132) dX12_readCue_125 (by decide) (fun h1 => ?_) (fun h1 => ?_)
  · refine g_iconst C (v := (0 : Int32)) dX12_readCue_132 (by decide) ?_
    exact g_sub (lv2 := [(0, va_rf a0), (1, .int x1), (4, .int s0)]) [1, 2, 0] rfl (t_X12_readCue_133 C a0 x1 s0 a0 (0 : Int32) S)
  · refine g_iconst C (v := (1 : Int32)) dX12_readCue_128 (by decide) ?_
    refine g_goto C (tgt := 133) dX12_readCue_129 (by decide) ?_
    exact g_sub (lv2 := [(0, va_rf a0), (1, .int x1), (4, .int s0)]) [1, 2, 0] rfl (t_X12_readCue_133 C a0 x1 s0 a0 (1 : Int32) S)
set_option maxHeartbeats 4000000 in
set_option maxRecDepth 100000 in
theorem t_X12_readCue_70 {Γ : Cx} (C : CF Γ cX12_readCue 7 none wsX12_readCue RX12 rmX12_readCue 0 0) (a0 : Option Nat) (r0 : Option Nat) (s1 : Int32) (S : St) : G Γ cvV 7 0 0 70 [(0, va_rf a0)] [.int s1, va_rf r0] S (b_X12_readCue_70  a0 r0 s1 S) := by
  unfold b_X12_readCue_70
  refine g_sipush C (v := (9999 : Int32)) dX12_readCue_70 (by decide) ?_
  refine g_callV C (n := 2) (ci := 11) [.int s1, .int (9999 : Int32)] [] (m_X12_numberIn r0 s1 (9999 : Int32) S) dX12_readCue_73 gX12_readCue_X12_numberIn rfl ⟨rfl, rfl⟩ (by decide +kernel) ⟨by decide, by decide⟩ ⟨by decide, by decide⟩ rfl (by decide) rfl rfl (by first | exact Nat.le_of_ble_eq_true rfl | simp [va_rf_cat, vi_cat, vl_cat]) (fun o1 eo1 => ?_)
  show G Γ cvV 7 0 0 76 [(0, va_rf a0)] [.int o1.1] o1.2 _
  refine g_istore_n C (lv2 := [(1, .int o1.1), (0, va_rf a0)]) dX12_readCue_76 rfl (by decide) (by first | rfl | simp [va_rf_cat, vi_cat, vl_cat]) ?_
  refine g_aload_n C dX12_readCue_77 rfl 1 rfl ?_
  refine g_callV C (n := 0) (ci := 11) [] [] (m_X12_name a0 o1.2) dX12_readCue_78 gX12_readCue_X12_name rfl ⟨rfl, rfl⟩ (by decide +kernel) ⟨by decide, by decide⟩ ⟨by decide, by decide⟩ rfl (by decide) rfl rfl (by first | exact Nat.le_of_ble_eq_true rfl | simp [va_rf_cat, vi_cat, vl_cat]) (fun o2 eo2 => ?_)
  show G Γ cvV 7 0 0 81 [(1, .int o1.1), (0, va_rf a0)] [.long o2.1] o2.2 _
  refine g_lstore_n C (lv2 := [(2, .long o2.1), (1, .int o1.1), (0, va_rf a0)]) dX12_readCue_81 rfl (by decide) (by first | rfl | simp [va_rf_cat, vi_cat, vl_cat]) ?_
  refine g_lload_n C dX12_readCue_82 rfl 0 rfl ?_
  refine g_ldc2 C (v := (1936224119 : Int64)) dX12_readCue_83 (by decide +kernel) ?_
  refine g_lcmp C dX12_readCue_86 ?_
  refine g_if_ne C (tgt := 94) dX12_readCue_87 (by decide) (fun h3 => ?_) (fun h3 => ?_)
  · refine g_iconst C (v := (0 : Int32)) dX12_readCue_90 (by decide) ?_
    refine g_goto C (tgt := 119) dX12_readCue_91 (by decide) ?_
    exact g_sub (lv2 := [(0, va_rf a0), (1, .int o1.1)]) [2, 1] rfl (t_X12_readCue_119 C a0 o1.1 (0 : Int32) o2.2)
  · refine g_lload_n C dX12_readCue_94 rfl 0 rfl ?_
    refine g_ldc2 C (v := (1684107883 : Int64)) dX12_readCue_95 (by decide +kernel) ?_
    refine g_lcmp C dX12_readCue_98 ?_
    refine g_if_ne C (tgt := 106) dX12_readCue_99 (by decide) (fun h4 => ?_) (fun h4 => ?_)
    · refine g_iconst C (v := (1 : Int32)) dX12_readCue_102 (by decide) ?_
      refine g_goto C (tgt := 119) dX12_readCue_103 (by decide) ?_
      exact g_sub (lv2 := [(0, va_rf a0), (1, .int o1.1)]) [2, 1] rfl (t_X12_readCue_119 C a0 o1.1 (1 : Int32) o2.2)
    · refine g_lload_n C dX12_readCue_106 rfl 0 rfl ?_
      refine g_ldc2 C (v := (1717658725 : Int64)) dX12_readCue_107 (by decide +kernel) ?_
      refine g_lcmp C dX12_readCue_110 ?_
      refine g_if_ne C (tgt := 118) dX12_readCue_111 (by decide) (fun h5 => ?_) (fun h5 => ?_)
      · refine g_iconst C (v := (2 : Int32)) dX12_readCue_114 (by decide) ?_
        refine g_goto C (tgt := 119) dX12_readCue_115 (by decide) ?_
        exact g_sub (lv2 := [(0, va_rf a0), (1, .int o1.1)]) [2, 1] rfl (t_X12_readCue_119 C a0 o1.1 (2 : Int32) o2.2)
      · refine g_iconst C (v := (3 : Int32)) dX12_readCue_118 (by decide) ?_
        exact g_sub (lv2 := [(0, va_rf a0), (1, .int o1.1)]) [2, 1] rfl (t_X12_readCue_119 C a0 o1.1 (3 : Int32) o2.2)
set_option maxHeartbeats 4000000 in
set_option maxRecDepth 100000 in
theorem t_X12_readCue_42 {Γ : Cx} (C : CF Γ cX12_readCue 7 none wsX12_readCue RX12 rmX12_readCue 0 0) (a0 : Option Nat) (r0 : Option Nat) (s1 : Int32) (S : St) : G Γ cvV 7 0 0 42 [(0, va_rf a0)] [.int s1, va_rf r0] S (b_X12_readCue_42  a0 r0 s1 S) := by
  unfold b_X12_readCue_42
  refine g_callV C (n := 1) (ci := 11) [.int s1] [] (m_X12_take r0 s1 S) dX12_readCue_42 gX12_readCue_X12_take rfl ⟨rfl, rfl⟩ (by decide +kernel) ⟨by decide, by decide⟩ ⟨by decide, by decide⟩ rfl (by decide) rfl rfl (by first | exact Nat.le_of_ble_eq_true rfl | simp [va_rf_cat, vi_cat, vl_cat]) (fun o1 eo1 => ?_)
  show G Γ cvV 7 0 0 45 [(0, va_rf a0)] [] o1 _
  refine g_aload_n C dX12_readCue_45 rfl 0 rfl ?_
  refine g_aload_n C dX12_readCue_46 rfl 0 rfl ?_
  refine g_getI C (ci := 11) (k := 38) dX12_readCue_47 rfl (by decide) (by decide) (by decide) ulX12_readCue_X12 flX12_readCue_242 rfl (fun v2 ev2 => ?_)
  refine g_if_ne C (tgt := 57) dX12_readCue_50 (by decide) (fun h3 => ?_) (fun h3 => ?_)
  · refine g_iconst C (v := (0 : Int32)) dX12_readCue_53 (by decide) ?_
    refine g_goto C (tgt := 70) dX12_readCue_54 (by decide) ?_
    exact g_sub (lv2 := [(0, va_rf a0)]) [0] rfl (t_X12_readCue_70 C a0 a0 (0 : Int32) o1)
  · refine g_aload_n C dX12_readCue_57 rfl 0 rfl ?_
    refine g_getR C (ci := 11) (k := 39) dX12_readCue_58 rfl (by decide) (by decide) (by decide) ulX12_readCue_X12 flX12_readCue_82 rfl (fun v4 ev4 => ?_)
    refine g_iconst C (v := (4 : Int32)) dX12_readCue_61 (by decide) ?_
    refine g_aload_n C dX12_readCue_62 rfl 0 rfl ?_
    refine g_getI C (ci := 11) (k := 38) dX12_readCue_63 rfl (by decide) (by decide) (by decide) ulX12_readCue_X12 flX12_readCue_242 rfl (fun v5 ev5 => ?_)
    refine g_imul C dX12_readCue_66 ?_
    refine g_iconst C (v := (4 : Int32)) dX12_readCue_67 (by decide) ?_
    refine g_isub C dX12_readCue_68 ?_
    refine g_ild C dX12_readCue_69 (fun v6 ev6 => ?_)
    exact g_sub (lv2 := [(0, va_rf a0)]) [0] rfl (t_X12_readCue_70 C a0 a0 v6 o1)
set_option maxHeartbeats 4000000 in
set_option maxRecDepth 100000 in
theorem t_X12_readCue_25 {Γ : Cx} (C : CF Γ cX12_readCue 7 none wsX12_readCue RX12 rmX12_readCue 0 0) (a0 : Option Nat) (S : St) : G Γ cvV 7 0 0 25 [(0, va_rf a0)] [] S (b_X12_readCue_25  a0 S) := by
  unfold b_X12_readCue_25
  refine g_aload_n C dX12_readCue_25 rfl 0 rfl ?_
  refine g_aload_n C dX12_readCue_26 rfl 0 rfl ?_
  refine g_callV C (n := 0) (ci := 11) [] [va_rf a0] (m_X12_name a0 S) dX12_readCue_27 gX12_readCue_X12_name rfl ⟨rfl, rfl⟩ (by decide +kernel) ⟨by decide, by decide⟩ ⟨by decide, by decide⟩ rfl (by decide) rfl rfl (by first | exact Nat.le_of_ble_eq_true rfl | simp [va_rf_cat, vi_cat, vl_cat]) (fun o1 eo1 => ?_)
  show G Γ cvV 7 0 0 30 [(0, va_rf a0)] [.long o1.1, va_rf a0] o1.2 _
  refine g_ldc2 C (v := (24948 : Int64)) dX12_readCue_30 (by decide +kernel) ?_
  refine g_lcmp C dX12_readCue_33 ?_
  refine g_if_ne C (tgt := 41) dX12_readCue_34 (by decide) (fun h2 => ?_) (fun h2 => ?_)
  · refine g_iconst C (v := (1 : Int32)) dX12_readCue_37 (by decide) ?_
    refine g_goto C (tgt := 42) dX12_readCue_38 (by decide) ?_
    exact g_sub (lv2 := [(0, va_rf a0)]) [0] rfl (t_X12_readCue_42 C a0 a0 (1 : Int32) o1.2)
  · refine g_iconst C (v := (0 : Int32)) dX12_readCue_41 (by decide) ?_
    exact g_sub (lv2 := [(0, va_rf a0)]) [0] rfl (t_X12_readCue_42 C a0 a0 (0 : Int32) o1.2)
set_option maxHeartbeats 4000000 in
set_option maxRecDepth 100000 in
theorem m_X12_readCue (a0 : Option Nat) (S : St) : ∀ l D cy H0 o, f_X12_readCue a0 S = some o → Met l yX12_readCue wsX12_readCue rmX12_readCue (Pq D cy H0 [va_rf a0] S) (Qx D cy H0 (cvV o)) 0 0 (fun q => H0.size ≤ q) := by
  refine met_of (cc := cX12_readCue) (maxL := 7) (ret := none) [va_rf a0] [(0, va_rf a0)] (by decide) rfl rfl (by simp [lg_sl, va_rf_cat, vi_cat, vl_cat]) (by simp [lv_args, va_rf_cat, vi_cat, vl_cat]) (fun Γ C => ?_)
  unfold f_X12_readCue
  refine g_aload_n C dX12_readCue_0 rfl 0 rfl ?_
  refine g_callV C (n := 0) (ci := 11) [] [] (m_X12_name a0 S) dX12_readCue_1 gX12_readCue_X12_name rfl ⟨rfl, rfl⟩ (by decide +kernel) ⟨by decide, by decide⟩ ⟨by decide, by decide⟩ rfl (by decide) rfl rfl (by first | exact Nat.le_of_ble_eq_true rfl | simp [va_rf_cat, vi_cat, vl_cat]) (fun o1 eo1 => ?_)
  show G Γ cvV 7 0 0 4 [(0, va_rf a0)] [.long o1.1] o1.2 _
  refine g_ldc2 C (v := (24948 : Int64)) dX12_readCue_4 (by decide +kernel) ?_
  refine g_lcmp C dX12_readCue_7 ?_
  refine g_if_ne C (tgt := 25) dX12_readCue_8 (by decide) (fun h2 => ?_) (fun h2 => ?_)
  · refine g_aload_n C dX12_readCue_11 rfl 0 rfl ?_
    refine g_getI C (ci := 11) (k := 38) dX12_readCue_12 rfl (by decide) (by decide) (by decide) ulX12_readCue_X12 flX12_readCue_242 rfl (fun v3 ev3 => ?_)
    refine g_bipush C (v := (12 : Int32)) dX12_readCue_15 (by decide) ?_
    refine g_icmp_ne C (tgt := 25) dX12_readCue_17 (by decide) (fun h4 => ?_) (fun h4 => ?_)
    · refine g_aload_n C dX12_readCue_20 rfl 0 rfl ?_
      refine g_iconst C (v := (3 : Int32)) dX12_readCue_21 (by decide) ?_
      refine g_callV C (n := 1) (ci := 11) [.int (3 : Int32)] [] (m_X12_bad a0 (3 : Int32) o1.2) dX12_readCue_22 gX12_readCue_X12_bad rfl ⟨rfl, rfl⟩ (by decide +kernel) ⟨by decide, by decide⟩ ⟨by decide, by decide⟩ rfl (by decide) rfl rfl (by first | exact Nat.le_of_ble_eq_true rfl | simp [va_rf_cat, vi_cat, vl_cat]) (fun o5 eo5 => ?_)
      show G Γ cvV 7 0 0 25 [(0, va_rf a0)] [] o5 _
      exact g_sub (lv2 := [(0, va_rf a0)]) [0] rfl (t_X12_readCue_25 C a0 o5)
    · exact g_sub (lv2 := [(0, va_rf a0)]) [0] rfl (t_X12_readCue_25 C a0 o1.2)
  · exact g_sub (lv2 := [(0, va_rf a0)]) [0] rfl (t_X12_readCue_25 C a0 o1.2)
abbrev rmX12_cues : Room := { frames := 5, cells := 0, slots := 0, locals := 113 }
theorem flX12_cues_1 : Cond.fieldLink RX12 1 "LightLinesModel" "thrown" "I" ∈ wsX12_cues := by decide +kernel
theorem flX12_cues_79 : Cond.fieldLink RX12 79 "LightLinesModel" "cue" "[I" ∈ wsX12_cues := by decide +kernel
theorem flX12_cues_82 : Cond.fieldLink RX12 82 "LightLinesModel" "reads" "[I" ∈ wsX12_cues := by decide +kernel
theorem flX12_cues_190 : Cond.fieldLink RX12 190 "LightLinesModel" "taped" "I" ∈ wsX12_cues := by decide +kernel
theorem flX12_cues_195 : Cond.fieldLink RX12 195 "LightLinesModel" "sizeOf" "I" ∈ wsX12_cues := by decide +kernel
theorem flX12_cues_198 : Cond.fieldLink RX12 198 "LightLinesModel" "cursor" "I" ∈ wsX12_cues := by decide +kernel
theorem flX12_cues_207 : Cond.fieldLink RX12 207 "LightLinesModel" "sort" "I" ∈ wsX12_cues := by decide +kernel
theorem flX12_cues_219 : Cond.fieldLink RX12 219 "LightLinesModel" "fault" "I" ∈ wsX12_cues := by decide +kernel
theorem flX12_cues_222 : Cond.fieldLink RX12 222 "LightLinesModel" "faultAt" "I" ∈ wsX12_cues := by decide +kernel
theorem flX12_cues_242 : Cond.fieldLink RX12 242 "LightLinesModel" "read" "I" ∈ wsX12_cues := by decide +kernel
theorem flX12_cues_257 : Cond.fieldLink RX12 257 "LightLinesModel" "latest" "I" ∈ wsX12_cues := by decide +kernel
theorem flX12_cues_261 : Cond.fieldLink RX12 261 "LightLinesModel" "cues" "I" ∈ wsX12_cues := by decide +kernel
set_option maxRecDepth 100000 in
theorem ulX12_cues_X12 : ∀ w ∈ u_ws RX12 TX12 42, w ∈ wsX12_cues := by decide +kernel
set_option maxHeartbeats 4000000 in
set_option maxRecDepth 100000 in
theorem t_X12_cues_121 {Γ : Cx} (C : CF Γ cX12_cues 2 (some .int) wsX12_cues RX12 rmX12_cues 0 0) (a0 : Option Nat) (S : St) : G Γ cvI 2 0 0 121 [(0, va_rf a0)] [] S (b_X12_cues_121  a0 S) := by
  unfold b_X12_cues_121
  refine g_aload_n C dX12_cues_121 rfl 0 rfl ?_
  refine g_getI C (ci := 11) (k := 36) dX12_cues_122 rfl (by decide) (by decide) (by decide) ulX12_cues_X12 flX12_cues_261 rfl (fun v1 ev1 => ?_)
  exact g_iret C dX12_cues_125 ⟨by decide, by decide⟩
set_option maxHeartbeats 4000000 in
set_option maxRecDepth 100000 in
theorem t_X12_cues_93 {Γ : Cx} (C : CF Γ cX12_cues 2 (some .int) wsX12_cues RX12 rmX12_cues 0 0) : ∀ (n : Nat) (a0 : Option Nat) (x1 : Int32) (S : St), G Γ cvI 2 0 0 93 [(0, va_rf a0), (1, .int x1)] [] S (b_X12_cues_93  n a0 x1 S) := by
  intro n
  induction n with
  | zero => intro a0 x1 S; exact g_none
  | succ n ih =>
    intro a0 x1 S
    rw [b_X12_cues_93]
    refine g_iload_n C dX12_cues_93 rfl 1 rfl ?_
    refine g_iconst C (v := (4 : Int32)) dX12_cues_94 (by decide) ?_
    refine g_aload_n C dX12_cues_95 rfl 0 rfl ?_
    refine g_getI C (ci := 11) (k := 38) dX12_cues_96 rfl (by decide) (by decide) (by decide) ulX12_cues_X12 flX12_cues_242 rfl (fun v1 ev1 => ?_)
    refine g_imul C dX12_cues_99 ?_
    refine g_icmp_ge C (tgt := 121) dX12_cues_100 (by decide) (fun h2 => ?_) (fun h2 => ?_)
    · exact g_sub (lv2 := [(0, va_rf a0)]) [0] rfl (t_X12_cues_121 C a0 S)
    · refine g_aload_n C dX12_cues_103 rfl 0 rfl ?_
      refine g_getR C (ci := 11) (k := 37) dX12_cues_104 rfl (by decide) (by decide) (by decide) ulX12_cues_X12 flX12_cues_79 rfl (fun v3 ev3 => ?_)
      refine g_iload_n C dX12_cues_107 rfl 1 rfl ?_
      refine g_aload_n C dX12_cues_108 rfl 0 rfl ?_
      refine g_getR C (ci := 11) (k := 39) dX12_cues_109 rfl (by decide) (by decide) (by decide) ulX12_cues_X12 flX12_cues_82 rfl (fun v4 ev4 => ?_)
      refine g_iload_n C dX12_cues_112 rfl 1 rfl ?_
      refine g_ild C dX12_cues_113 (fun v5 ev5 => ?_)
      refine g_ist C dX12_cues_114 (fun S6 eS6 => ?_)
      refine g_iinc1 C dX12_cues_115 1 rfl (by decide) (by decide) (fun y7 => ?_)
      refine g_lveq (lv2 := [(1, .int y7), (0, va_rf a0)]) (by first | rfl | simp [va_rf_cat, vi_cat, vl_cat]) ?_
      refine g_goto C (tgt := 93) dX12_cues_118 (by decide) ?_
      exact g_sub (lv2 := [(0, va_rf a0), (1, .int y7)]) [1, 0] rfl (ih a0 y7 S6)
set_option maxHeartbeats 4000000 in
set_option maxRecDepth 100000 in
theorem t_X12_cues_59 {Γ : Cx} (C : CF Γ cX12_cues 2 (some .int) wsX12_cues RX12 rmX12_cues 0 0) (a0 : Option Nat) (S : St) : G Γ cvI 2 0 0 59 [(0, va_rf a0)] [] S (b_X12_cues_59  a0 S) := by
  unfold b_X12_cues_59
  refine g_aload_n C dX12_cues_59 rfl 0 rfl ?_
  refine g_getI C (ci := 11) (k := 34) dX12_cues_60 rfl (by decide) (by decide) (by decide) ulX12_cues_X12 flX12_cues_219 rfl (fun v1 ev1 => ?_)
  refine g_if_le C (tgt := 83) dX12_cues_63 (by decide) (fun h2 => ?_) (fun h2 => ?_)
  · refine g_aload_n C dX12_cues_83 rfl 0 rfl ?_
    refine g_aload_n C dX12_cues_84 rfl 0 rfl ?_
    refine g_getI C (ci := 11) (k := 38) dX12_cues_85 rfl (by decide) (by decide) (by decide) ulX12_cues_X12 flX12_cues_242 rfl (fun v3 ev3 => ?_)
    refine g_putI C (ci := 11) (k := 36) (ty0 := tyX12) dX12_cues_88 rfl (by decide) (by decide) (by decide) tyX12_ok nmX12 ulX12_cues_X12 flX12_cues_261 rfl rfl ⟨rfl, rfl⟩ (fun S4 eS4 => ?_)
    refine g_iconst C (v := (0 : Int32)) dX12_cues_91 (by decide) ?_
    refine g_istore_n C (lv2 := [(1, .int (0 : Int32)), (0, va_rf a0)]) dX12_cues_92 rfl (by decide) (by first | rfl | simp [va_rf_cat, vi_cat, vl_cat]) ?_
    exact g_sub (lv2 := [(0, va_rf a0), (1, .int (0 : Int32))]) [1, 0] rfl (t_X12_cues_93 C FU a0 (0 : Int32) S4)
  · refine g_aload_n C dX12_cues_66 rfl 0 rfl ?_
    refine g_aload_n C dX12_cues_67 rfl 0 rfl ?_
    refine g_getI C (ci := 11) (k := 34) dX12_cues_68 rfl (by decide) (by decide) (by decide) ulX12_cues_X12 flX12_cues_219 rfl (fun v5 ev5 => ?_)
    refine g_putI C (ci := 11) (k := 28) (ty0 := tyX12) dX12_cues_71 rfl (by decide) (by decide) (by decide) tyX12_ok nmX12 ulX12_cues_X12 flX12_cues_257 rfl rfl ⟨rfl, rfl⟩ (fun S6 eS6 => ?_)
    refine g_ldcw C (v := (-1000100 : Int32)) dX12_cues_74 (by decide +kernel) ?_
    refine g_aload_n C dX12_cues_77 rfl 0 rfl ?_
    refine g_getI C (ci := 11) (k := 35) dX12_cues_78 rfl (by decide) (by decide) (by decide) ulX12_cues_X12 flX12_cues_222 rfl (fun v7 ev7 => ?_)
    refine g_isub C dX12_cues_81 ?_
    exact g_iret C dX12_cues_82 ⟨by decide, by decide⟩
set_option maxHeartbeats 4000000 in
set_option maxRecDepth 100000 in
theorem t_X12_cues_37 {Γ : Cx} (C : CF Γ cX12_cues 2 (some .int) wsX12_cues RX12 rmX12_cues 0 0) : ∀ (n : Nat) (a0 : Option Nat) (S : St), G Γ cvI 2 0 0 37 [(0, va_rf a0)] [] S (b_X12_cues_37  n a0 S) := by
  intro n
  induction n with
  | zero => intro a0 S; exact g_none
  | succ n ih =>
    intro a0 S
    rw [b_X12_cues_37]
    refine g_aload_n C dX12_cues_37 rfl 0 rfl ?_
    refine g_getI C (ci := 11) (k := 34) dX12_cues_38 rfl (by decide) (by decide) (by decide) ulX12_cues_X12 flX12_cues_219 rfl (fun v1 ev1 => ?_)
    refine g_if_ne C (tgt := 59) dX12_cues_41 (by decide) (fun h2 => ?_) (fun h2 => ?_)
    · refine g_aload_n C dX12_cues_44 rfl 0 rfl ?_
      refine g_getI C (ci := 11) (k := 31) dX12_cues_45 rfl (by decide) (by decide) (by decide) ulX12_cues_X12 flX12_cues_207 rfl (fun v3 ev3 => ?_)
      refine g_iconst C (v := (1 : Int32)) dX12_cues_48 (by decide) ?_
      refine g_icmp_eq C (tgt := 59) dX12_cues_49 (by decide) (fun h4 => ?_) (fun h4 => ?_)
      · exact g_sub (lv2 := [(0, va_rf a0)]) [0] rfl (t_X12_cues_59 C a0 S)
      · refine g_aload_n C dX12_cues_52 rfl 0 rfl ?_
        refine g_callV C (n := 0) (ci := 11) [] [] (m_X12_readCue a0 S) dX12_cues_53 gX12_cues_X12_readCue rfl ⟨rfl, rfl⟩ (by decide +kernel) ⟨by decide, by decide⟩ ⟨by decide, by decide⟩ rfl (by decide) rfl rfl (by first | exact Nat.le_of_ble_eq_true rfl | simp [va_rf_cat, vi_cat, vl_cat]) (fun o5 eo5 => ?_)
        show G Γ cvI 2 0 0 56 [(0, va_rf a0)] [] o5 _
        refine g_goto C (tgt := 37) dX12_cues_56 (by decide) ?_
        exact g_sub (lv2 := [(0, va_rf a0)]) [0] rfl (ih a0 o5)
    · exact g_sub (lv2 := [(0, va_rf a0)]) [0] rfl (t_X12_cues_59 C a0 S)
set_option maxHeartbeats 4000000 in
set_option maxRecDepth 100000 in
theorem m_X12_cues (a0 : Option Nat) (S : St) : ∀ l D cy H0 o, f_X12_cues a0 S = some o → Met l yX12_cues wsX12_cues rmX12_cues (Pq D cy H0 [va_rf a0] S) (Qx D cy H0 (cvI o)) 0 0 (fun q => H0.size ≤ q) := by
  refine met_of (cc := cX12_cues) (maxL := 2) (ret := (some .int)) [va_rf a0] [(0, va_rf a0)] (by decide) rfl rfl (by simp [lg_sl, va_rf_cat, vi_cat, vl_cat]) (by simp [lv_args, va_rf_cat, vi_cat, vl_cat]) (fun Γ C => ?_)
  unfold f_X12_cues
  refine g_aload_n C dX12_cues_0 rfl 0 rfl ?_
  refine g_iconst C (v := (0 : Int32)) dX12_cues_1 (by decide) ?_
  refine g_putI C (ci := 11) (k := 0) (ty0 := tyX12) dX12_cues_2 rfl (by decide) (by decide) (by decide) tyX12_ok nmX12 ulX12_cues_X12 flX12_cues_1 rfl rfl ⟨rfl, rfl⟩ (fun S1 eS1 => ?_)
  refine g_aload_n C dX12_cues_5 rfl 0 rfl ?_
  refine g_aload_n C dX12_cues_6 rfl 0 rfl ?_
  refine g_getI C (ci := 11) (k := 27) dX12_cues_7 rfl (by decide) (by decide) (by decide) ulX12_cues_X12 flX12_cues_190 rfl (fun v2 ev2 => ?_)
  refine g_putI C (ci := 11) (k := 29) (ty0 := tyX12) dX12_cues_10 rfl (by decide) (by decide) (by decide) tyX12_ok nmX12 ulX12_cues_X12 flX12_cues_195 rfl rfl ⟨rfl, rfl⟩ (fun S3 eS3 => ?_)
  refine g_aload_n C dX12_cues_13 rfl 0 rfl ?_
  refine g_iconst C (v := (0 : Int32)) dX12_cues_14 (by decide) ?_
  refine g_putI C (ci := 11) (k := 27) (ty0 := tyX12) dX12_cues_15 rfl (by decide) (by decide) (by decide) tyX12_ok nmX12 ulX12_cues_X12 flX12_cues_190 rfl rfl ⟨rfl, rfl⟩ (fun S4 eS4 => ?_)
  refine g_aload_n C dX12_cues_18 rfl 0 rfl ?_
  refine g_iconst C (v := (0 : Int32)) dX12_cues_19 (by decide) ?_
  refine g_putI C (ci := 11) (k := 30) (ty0 := tyX12) dX12_cues_20 rfl (by decide) (by decide) (by decide) tyX12_ok nmX12 ulX12_cues_X12 flX12_cues_198 rfl rfl ⟨rfl, rfl⟩ (fun S5 eS5 => ?_)
  refine g_aload_n C dX12_cues_23 rfl 0 rfl ?_
  refine g_iconst C (v := (0 : Int32)) dX12_cues_24 (by decide) ?_
  refine g_putI C (ci := 11) (k := 34) (ty0 := tyX12) dX12_cues_25 rfl (by decide) (by decide) (by decide) tyX12_ok nmX12 ulX12_cues_X12 flX12_cues_219 rfl rfl ⟨rfl, rfl⟩ (fun S6 eS6 => ?_)
  refine g_aload_n C dX12_cues_28 rfl 0 rfl ?_
  refine g_iconst C (v := (0 : Int32)) dX12_cues_29 (by decide) ?_
  refine g_putI C (ci := 11) (k := 38) (ty0 := tyX12) dX12_cues_30 rfl (by decide) (by decide) (by decide) tyX12_ok nmX12 ulX12_cues_X12 flX12_cues_242 rfl rfl ⟨rfl, rfl⟩ (fun S7 eS7 => ?_)
  refine g_aload_n C dX12_cues_33 rfl 0 rfl ?_
  refine g_callV C (n := 0) (ci := 11) [] [] (m_X12_step a0 S7) dX12_cues_34 gX12_cues_X12_step rfl ⟨rfl, rfl⟩ (by decide +kernel) ⟨by decide, by decide⟩ ⟨by decide, by decide⟩ rfl (by decide) rfl rfl (by first | exact Nat.le_of_ble_eq_true rfl | simp [va_rf_cat, vi_cat, vl_cat]) (fun o8 eo8 => ?_)
  show G Γ cvI 2 0 0 37 [(0, va_rf a0)] [] o8 _
  exact g_sub (lv2 := [(0, va_rf a0)]) [0] rfl (t_X12_cues_37 C FU a0 o8)
abbrev rmX12_fault : Room := { frames := 0, cells := 0, slots := 0, locals := 0 }
theorem flX12_fault_1 : Cond.fieldLink RX12 1 "LightLinesModel" "thrown" "I" ∈ wsX12_fault := by decide +kernel
theorem flX12_fault_257 : Cond.fieldLink RX12 257 "LightLinesModel" "latest" "I" ∈ wsX12_fault := by decide +kernel
set_option maxRecDepth 100000 in
theorem ulX12_fault_X12 : ∀ w ∈ u_ws RX12 TX12 42, w ∈ wsX12_fault := by decide +kernel
set_option maxHeartbeats 4000000 in
set_option maxRecDepth 100000 in
theorem m_X12_fault (a0 : Option Nat) (S : St) : ∀ l D cy H0 o, f_X12_fault a0 S = some o → Met l yX12_fault wsX12_fault rmX12_fault (Pq D cy H0 [va_rf a0] S) (Qx D cy H0 (cvI o)) 0 0 (fun q => H0.size ≤ q) := by
  refine met_of (cc := cX12_fault) (maxL := 1) (ret := (some .int)) [va_rf a0] [(0, va_rf a0)] (by decide) rfl rfl (by simp [lg_sl, va_rf_cat, vi_cat, vl_cat]) (by simp [lv_args, va_rf_cat, vi_cat, vl_cat]) (fun Γ C => ?_)
  unfold f_X12_fault
  refine g_aload_n C dX12_fault_0 rfl 0 rfl ?_
  refine g_iconst C (v := (0 : Int32)) dX12_fault_1 (by decide) ?_
  refine g_putI C (ci := 11) (k := 0) (ty0 := tyX12) dX12_fault_2 rfl (by decide) (by decide) (by decide) tyX12_ok nmX12 ulX12_fault_X12 flX12_fault_1 rfl rfl ⟨rfl, rfl⟩ (fun S1 eS1 => ?_)
  refine g_aload_n C dX12_fault_5 rfl 0 rfl ?_
  refine g_getI C (ci := 11) (k := 28) dX12_fault_6 rfl (by decide) (by decide) (by decide) ulX12_fault_X12 flX12_fault_257 rfl (fun v2 ev2 => ?_)
  exact g_iret C dX12_fault_9 ⟨by decide, by decide⟩
abbrev rmX12_level : Room := { frames := 0, cells := 0, slots := 0, locals := 0 }
set_option maxHeartbeats 4000000 in
set_option maxRecDepth 100000 in
theorem m_X12_level (x0 : Int32) (x1 : Int32) (x2 : Int32) (x3 : Int32) (x4 : Int32) (S : St) : ∀ l D cy H0 o, f_X12_level x0 x1 x2 x3 x4 S = some o → Met l yX12_level wsX12_level rmX12_level (Pq D cy H0 [.int x0, .int x1, .int x2, .int x3, .int x4] S) (Qx D cy H0 (cvI o)) 0 0 (fun q => H0.size ≤ q) := by
  refine met_of (cc := cX12_level) (maxL := 5) (ret := (some .int)) [.int x0, .int x1, .int x2, .int x3, .int x4] [(0, .int x0), (1, .int x1), (2, .int x2), (3, .int x3), (4, .int x4)] (by decide) rfl rfl (by simp [lg_sl, va_rf_cat, vi_cat, vl_cat]) (by simp [lv_args, va_rf_cat, vi_cat, vl_cat]) (fun Γ C => ?_)
  unfold f_X12_level
  refine g_iload_n C dX12_level_0 rfl 0 rfl ?_
  refine g_iload_n C dX12_level_1 rfl 1 rfl ?_
  refine g_iload C dX12_level_2 4 rfl ?_
  refine g_iadd C dX12_level_4 ?_
  refine g_icmp_lt C (tgt := 12) dX12_level_5 (by decide) (fun h1 => ?_) (fun h1 => ?_)
  · refine g_iload_n C dX12_level_12 rfl 2 rfl ?_
    refine g_iload_n C dX12_level_13 rfl 3 rfl ?_
    refine g_iload_n C dX12_level_14 rfl 2 rfl ?_
    refine g_isub C dX12_level_15 ?_
    refine g_iload_n C dX12_level_16 rfl 0 rfl ?_
    refine g_iload_n C dX12_level_17 rfl 1 rfl ?_
    refine g_isub C dX12_level_18 ?_
    refine g_imul C dX12_level_19 ?_
    refine g_iload C dX12_level_20 4 rfl ?_
    refine g_idiv C dX12_level_22 (fun v2 ev2 => ?_)
    refine g_iadd C dX12_level_23 ?_
    exact g_iret C dX12_level_24 ⟨by decide, by decide⟩
  · refine g_iload_n C dX12_level_8 rfl 3 rfl ?_
    refine g_goto C (tgt := 24) dX12_level_9 (by decide) ?_
    exact g_iret C dX12_level_24 ⟨by decide, by decide⟩
abbrev rmX12_frame : Room := { frames := 1, cells := 0, slots := 0, locals := 25 }
theorem flX12_frame_1 : Cond.fieldLink RX12 1 "LightLinesModel" "thrown" "I" ∈ wsX12_frame := by decide +kernel
theorem flX12_frame_79 : Cond.fieldLink RX12 79 "LightLinesModel" "cue" "[I" ∈ wsX12_frame := by decide +kernel
theorem flX12_frame_261 : Cond.fieldLink RX12 261 "LightLinesModel" "cues" "I" ∈ wsX12_frame := by decide +kernel
set_option maxRecDepth 100000 in
theorem ulX12_frame_X12 : ∀ w ∈ u_ws RX12 TX12 42, w ∈ wsX12_frame := by decide +kernel
set_option maxHeartbeats 4000000 in
set_option maxRecDepth 100000 in
theorem t_X12_frame_177 {Γ : Cx} (C : CF Γ cX12_frame 10 (some .int) wsX12_frame RX12 rmX12_frame 0 0) (rc49 : Option Nat → Int32 → Int32 → Int32 → Int32 → Int32 → Int32 → Int32 → Int32 → St → Option (Int32 × St)) (hrc49 : ∀ (a0 : Option Nat) (x1 : Int32) (x2 : Int32) (x3 : Int32) (x4 : Int32) (x5 : Int32) (x6 : Int32) (x7 : Int32) (x8 : Int32) (S : St), G Γ cvI 10 0 0 49 [(0, va_rf a0), (1, .int x1), (2, .int x2), (3, .int x3), (4, .int x4), (5, .int x5), (6, .int x6), (7, .int x7), (8, .int x8)] [] S (rc49 a0 x1 x2 x3 x4 x5 x6 x7 x8 S)) (a0 : Option Nat) (x1 : Int32) (x2 : Int32) (x3 : Int32) (x4 : Int32) (x5 : Int32) (x6 : Int32) (x7 : Int32) (x8 : Int32) (S : St) : G Γ cvI 10 0 0 177 [(0, va_rf a0), (1, .int x1), (2, .int x2), (3, .int x3), (4, .int x4), (5, .int x5), (6, .int x6), (7, .int x7), (8, .int x8)] [] S (b_X12_frame_177 rc49 a0 x1 x2 x3 x4 x5 x6 x7 x8 S) := by
  unfold b_X12_frame_177
  refine g_iinc1 C dX12_frame_177 8 rfl (by decide) (by decide) (fun y1 => ?_)
  refine g_lveq (lv2 := [(8, .int y1), (0, va_rf a0), (1, .int x1), (2, .int x2), (3, .int x3), (4, .int x4), (5, .int x5), (6, .int x6), (7, .int x7)]) (by first | rfl | simp [va_rf_cat, vi_cat, vl_cat]) ?_
  refine g_goto C (tgt := 49) dX12_frame_180 (by decide) ?_
  exact g_sub (lv2 := [(0, va_rf a0), (1, .int x1), (2, .int x2), (3, .int x3), (4, .int x4), (5, .int x5), (6, .int x6), (7, .int x7), (8, .int y1)]) [1, 2, 3, 4, 5, 6, 7, 8, 0] rfl (hrc49 a0 x1 x2 x3 x4 x5 x6 x7 y1 S)
set_option maxHeartbeats 4000000 in
set_option maxRecDepth 100000 in
theorem t_X12_frame_183 {Γ : Cx} (C : CF Γ cX12_frame 10 (some .int) wsX12_frame RX12 rmX12_frame 0 0) (x1 : Int32) (x2 : Int32) (x3 : Int32) (x4 : Int32) (x5 : Int32) (x6 : Int32) (x7 : Int32) (S : St) : G Γ cvI 10 0 0 183 [(1, .int x1), (2, .int x2), (3, .int x3), (4, .int x4), (5, .int x5), (6, .int x6), (7, .int x7)] [] S (b_X12_frame_183  x1 x2 x3 x4 x5 x6 x7 S) := by
  unfold b_X12_frame_183
  refine g_iload_n C dX12_frame_183 rfl 1 rfl ?_
  refine g_if_ne C (tgt := 191) dX12_frame_184 (by decide) (fun h1 => ?_) (fun h1 => ?_)
  · refine g_iload_n C dX12_frame_187 rfl 2 rfl ?_
    refine g_goto C (tgt := 203) dX12_frame_188 (by decide) ?_
    exact g_iret C dX12_frame_203 ⟨by decide, by decide⟩
  · refine g_iload_n C dX12_frame_191 rfl 0 rfl ?_
    refine g_iload C dX12_frame_192 3 rfl ?_
    refine g_iload C dX12_frame_194 4 rfl ?_
    refine g_iload C dX12_frame_196 5 rfl ?_
    refine g_iload C dX12_frame_198 6 rfl ?_
    refine g_callS C (n := 5) [.int x1, .int x4, .int x5, .int x6, .int x7] [] (m_X12_level x1 x4 x5 x6 x7 S) dX12_frame_200 gX12_frame_X12_level rfl ⟨rfl, rfl⟩ (by decide +kernel) ⟨by decide, by decide⟩ ⟨by decide, by decide⟩ rfl rfl (by first | exact Nat.le_of_ble_eq_true rfl | simp [va_rf_cat, vi_cat, vl_cat]) (fun o2 eo2 => ?_)
    show G Γ cvI 10 0 0 203 [(1, .int x1), (2, .int x2), (3, .int x3), (4, .int x4), (5, .int x5), (6, .int x6), (7, .int x7)] [.int o2.1] o2.2 _
    exact g_iret C dX12_frame_203 ⟨by decide, by decide⟩
set_option maxHeartbeats 4000000 in
set_option maxRecDepth 100000 in
theorem t_X12_frame_49 {Γ : Cx} (C : CF Γ cX12_frame 10 (some .int) wsX12_frame RX12 rmX12_frame 0 0) : ∀ (n : Nat) (a0 : Option Nat) (x1 : Int32) (x2 : Int32) (x3 : Int32) (x4 : Int32) (x5 : Int32) (x6 : Int32) (x7 : Int32) (x8 : Int32) (S : St), G Γ cvI 10 0 0 49 [(0, va_rf a0), (1, .int x1), (2, .int x2), (3, .int x3), (4, .int x4), (5, .int x5), (6, .int x6), (7, .int x7), (8, .int x8)] [] S (b_X12_frame_49  n a0 x1 x2 x3 x4 x5 x6 x7 x8 S) := by
  intro n
  induction n with
  | zero => intro a0 x1 x2 x3 x4 x5 x6 x7 x8 S; exact g_none
  | succ n ih =>
    intro a0 x1 x2 x3 x4 x5 x6 x7 x8 S
    rw [b_X12_frame_49]
    refine g_iload C dX12_frame_49 8 rfl ?_
    refine g_aload_n C dX12_frame_51 rfl 0 rfl ?_
    refine g_getI C (ci := 11) (k := 36) dX12_frame_52 rfl (by decide) (by decide) (by decide) ulX12_frame_X12 flX12_frame_261 rfl (fun v1 ev1 => ?_)
    refine g_icmp_ge C (tgt := 183) dX12_frame_55 (by decide) (fun h2 => ?_) (fun h2 => ?_)
    · exact g_sub (lv2 := [(1, .int x1), (2, .int x2), (3, .int x3), (4, .int x4), (5, .int x5), (6, .int x6), (7, .int x7)]) [1, 2, 3, 4, 5, 6, 7] rfl (t_X12_frame_183 C x1 x2 x3 x4 x5 x6 x7 S)
    · refine g_aload_n C dX12_frame_58 rfl 0 rfl ?_
      refine g_getR C (ci := 11) (k := 37) dX12_frame_59 rfl (by decide) (by decide) (by decide) ulX12_frame_X12 flX12_frame_79 rfl (fun v3 ev3 => ?_)
      refine g_iconst C (v := (4 : Int32)) dX12_frame_62 (by decide) ?_
      refine g_iload C dX12_frame_63 8 rfl ?_
      refine g_imul C dX12_frame_65 ?_
      refine g_ild C dX12_frame_66 (fun v4 ev4 => ?_)
      refine g_iload_n C dX12_frame_67 rfl 1 rfl ?_
      refine g_icmp_gt C (tgt := 183) dX12_frame_68 (by decide) (fun h5 => ?_) (fun h5 => ?_)
      · exact g_sub (lv2 := [(1, .int x1), (2, .int x2), (3, .int x3), (4, .int x4), (5, .int x5), (6, .int x6), (7, .int x7)]) [1, 2, 3, 4, 5, 6, 7] rfl (t_X12_frame_183 C x1 x2 x3 x4 x5 x6 x7 S)
      · refine g_aload_n C dX12_frame_71 rfl 0 rfl ?_
        refine g_getR C (ci := 11) (k := 37) dX12_frame_72 rfl (by decide) (by decide) (by decide) ulX12_frame_X12 flX12_frame_79 rfl (fun v6 ev6 => ?_)
        refine g_iconst C (v := (4 : Int32)) dX12_frame_75 (by decide) ?_
        refine g_iload C dX12_frame_76 8 rfl ?_
        refine g_imul C dX12_frame_78 ?_
        refine g_ild C dX12_frame_79 (fun v7 ev7 => ?_)
        refine g_istore C (lv2 := [(9, .int v7), (0, va_rf a0), (1, .int x1), (2, .int x2), (3, .int x3), (4, .int x4), (5, .int x5), (6, .int x6), (7, .int x7), (8, .int x8)]) dX12_frame_80 (by decide) (by first | rfl | simp [va_rf_cat, vi_cat, vl_cat]) ?_
        refine g_aload_n C dX12_frame_82 rfl 1 rfl ?_
        refine g_getR C (ci := 11) (k := 37) dX12_frame_83 rfl (by decide) (by decide) (by decide) ulX12_frame_X12 flX12_frame_79 rfl (fun v8 ev8 => ?_)
        refine g_iconst C (v := (4 : Int32)) dX12_frame_86 (by decide) ?_
        refine g_iload C dX12_frame_87 9 rfl ?_
        refine g_imul C dX12_frame_89 ?_
        refine g_iconst C (v := (1 : Int32)) dX12_frame_90 (by decide) ?_
        refine g_iadd C dX12_frame_91 ?_
        refine g_ild C dX12_frame_92 (fun v9 ev9 => ?_)
        refine g_if_ne C (tgt := 111) dX12_frame_93 (by decide) (fun h10 => ?_) (fun h10 => ?_)
        · refine g_aload_n C dX12_frame_96 rfl 1 rfl ?_
          refine g_getR C (ci := 11) (k := 37) dX12_frame_97 rfl (by decide) (by decide) (by decide) ulX12_frame_X12 flX12_frame_79 rfl (fun v11 ev11 => ?_)
          refine g_iconst C (v := (4 : Int32)) dX12_frame_100 (by decide) ?_
          refine g_iload C dX12_frame_101 9 rfl ?_
          refine g_imul C dX12_frame_103 ?_
          refine g_iconst C (v := (2 : Int32)) dX12_frame_104 (by decide) ?_
          refine g_iadd C dX12_frame_105 ?_
          refine g_ild C dX12_frame_106 (fun v12 ev12 => ?_)
          refine g_istore_n C (lv2 := [(3, .int v12), (9, .int v7), (0, va_rf a0), (1, .int x1), (2, .int x2), (4, .int x4), (5, .int x5), (6, .int x6), (7, .int x7), (8, .int x8)]) dX12_frame_107 rfl (by decide) (by first | rfl | simp [va_rf_cat, vi_cat, vl_cat]) ?_
          refine g_goto C (tgt := 177) dX12_frame_108 (by decide) ?_
          exact g_sub (lv2 := [(0, va_rf a0), (1, .int x1), (2, .int x2), (3, .int v12), (4, .int x4), (5, .int x5), (6, .int x6), (7, .int x7), (8, .int x8)]) [2, 3, 4, 0, 5, 6, 7, 8, 9] rfl (t_X12_frame_177 C (b_X12_frame_49 n) ih a0 x1 x2 v12 x4 x5 x6 x7 x8 S)
        · refine g_aload_n C dX12_frame_111 rfl 1 rfl ?_
          refine g_getR C (ci := 11) (k := 37) dX12_frame_112 rfl (by decide) (by decide) (by decide) ulX12_frame_X12 flX12_frame_79 rfl (fun v13 ev13 => ?_)
          refine g_iconst C (v := (4 : Int32)) dX12_frame_115 (by decide) ?_
          refine g_iload C dX12_frame_116 9 rfl ?_
          refine g_imul C dX12_frame_118 ?_
          refine g_iconst C (v := (1 : Int32)) dX12_frame_119 (by decide) ?_
          refine g_iadd C dX12_frame_120 ?_
          refine g_ild C dX12_frame_121 (fun v14 ev14 => ?_)
          refine g_iconst C (v := (1 : Int32)) dX12_frame_122 (by decide) ?_
          refine g_icmp_ne C (tgt := 132) dX12_frame_123 (by decide) (fun h15 => ?_) (fun h15 => ?_)
          · refine g_bipush C (v := (-2 : Int32)) dX12_frame_126 (by decide) ?_
            refine g_istore_n C (lv2 := [(3, .int (-2 : Int32)), (9, .int v7), (0, va_rf a0), (1, .int x1), (2, .int x2), (4, .int x4), (5, .int x5), (6, .int x6), (7, .int x7), (8, .int x8)]) dX12_frame_128 rfl (by decide) (by first | rfl | simp [va_rf_cat, vi_cat, vl_cat]) ?_
            refine g_goto C (tgt := 177) dX12_frame_129 (by decide) ?_
            exact g_sub (lv2 := [(0, va_rf a0), (1, .int x1), (2, .int x2), (3, .int (-2 : Int32)), (4, .int x4), (5, .int x5), (6, .int x6), (7, .int x7), (8, .int x8)]) [2, 3, 4, 0, 5, 6, 7, 8, 9] rfl (t_X12_frame_177 C (b_X12_frame_49 n) ih a0 x1 x2 (-2 : Int32) x4 x5 x6 x7 x8 S)
          · refine g_iload C dX12_frame_132 0 rfl ?_
            refine g_iload C dX12_frame_134 5 rfl ?_
            refine g_iload C dX12_frame_136 6 rfl ?_
            refine g_iload C dX12_frame_138 7 rfl ?_
            refine g_iload C dX12_frame_140 8 rfl ?_
            refine g_callS C (n := 5) [.int v7, .int x4, .int x5, .int x6, .int x7] [] (m_X12_level v7 x4 x5 x6 x7 S) dX12_frame_142 gX12_frame_X12_level rfl ⟨rfl, rfl⟩ (by decide +kernel) ⟨by decide, by decide⟩ ⟨by decide, by decide⟩ rfl rfl (by first | exact Nat.le_of_ble_eq_true rfl | simp [va_rf_cat, vi_cat, vl_cat]) (fun o16 eo16 => ?_)
            show G Γ cvI 10 0 0 145 [(9, .int v7), (0, va_rf a0), (1, .int x1), (2, .int x2), (3, .int x3), (4, .int x4), (5, .int x5), (6, .int x6), (7, .int x7), (8, .int x8)] [.int o16.1] o16.2 _
            refine g_istore C (lv2 := [(5, .int o16.1), (9, .int v7), (0, va_rf a0), (1, .int x1), (2, .int x2), (3, .int x3), (4, .int x4), (6, .int x6), (7, .int x7), (8, .int x8)]) dX12_frame_145 (by decide) (by first | rfl | simp [va_rf_cat, vi_cat, vl_cat]) ?_
            refine g_iload C dX12_frame_147 1 rfl ?_
            refine g_istore C (lv2 := [(4, .int v7), (5, .int o16.1), (9, .int v7), (0, va_rf a0), (1, .int x1), (2, .int x2), (3, .int x3), (6, .int x6), (7, .int x7), (8, .int x8)]) dX12_frame_149 (by decide) (by first | rfl | simp [va_rf_cat, vi_cat, vl_cat]) ?_
            refine g_aload_n C dX12_frame_151 rfl 3 rfl ?_
            refine g_getR C (ci := 11) (k := 37) dX12_frame_152 rfl (by decide) (by decide) (by decide) ulX12_frame_X12 flX12_frame_79 rfl (fun v17 ev17 => ?_)
            refine g_iconst C (v := (4 : Int32)) dX12_frame_155 (by decide) ?_
            refine g_iload C dX12_frame_156 9 rfl ?_
            refine g_imul C dX12_frame_158 ?_
            refine g_iconst C (v := (2 : Int32)) dX12_frame_159 (by decide) ?_
            refine g_iadd C dX12_frame_160 ?_
            refine g_ild C dX12_frame_161 (fun v18 ev18 => ?_)
            refine g_istore C (lv2 := [(6, .int v18), (4, .int v7), (5, .int o16.1), (9, .int v7), (0, va_rf a0), (1, .int x1), (2, .int x2), (3, .int x3), (7, .int x7), (8, .int x8)]) dX12_frame_162 (by decide) (by first | rfl | simp [va_rf_cat, vi_cat, vl_cat]) ?_
            refine g_aload_n C dX12_frame_164 rfl 4 rfl ?_
            refine g_getR C (ci := 11) (k := 37) dX12_frame_165 rfl (by decide) (by decide) (by decide) ulX12_frame_X12 flX12_frame_79 rfl (fun v19 ev19 => ?_)
            refine g_iconst C (v := (4 : Int32)) dX12_frame_168 (by decide) ?_
            refine g_iload C dX12_frame_169 9 rfl ?_
            refine g_imul C dX12_frame_171 ?_
            refine g_iconst C (v := (3 : Int32)) dX12_frame_172 (by decide) ?_
            refine g_iadd C dX12_frame_173 ?_
            refine g_ild C dX12_frame_174 (fun v20 ev20 => ?_)
            refine g_istore C (lv2 := [(7, .int v20), (6, .int v18), (4, .int v7), (5, .int o16.1), (9, .int v7), (0, va_rf a0), (1, .int x1), (2, .int x2), (3, .int x3), (8, .int x8)]) dX12_frame_175 (by decide) (by first | rfl | simp [va_rf_cat, vi_cat, vl_cat]) ?_
            exact g_sub (lv2 := [(0, va_rf a0), (1, .int x1), (2, .int x2), (3, .int x3), (4, .int v7), (5, .int o16.1), (6, .int v18), (7, .int v20), (8, .int x8)]) [5, 6, 7, 8, 2, 3, 1, 0, 9] rfl (t_X12_frame_177 C (b_X12_frame_49 n) ih a0 x1 x2 x3 v7 o16.1 v18 v20 x8 o16.2)
set_option maxHeartbeats 4000000 in
set_option maxRecDepth 100000 in
theorem m_X12_frame (a0 : Option Nat) (x1 : Int32) (x2 : Int32) (S : St) : ∀ l D cy H0 o, f_X12_frame a0 x1 x2 S = some o → Met l yX12_frame wsX12_frame rmX12_frame (Pq D cy H0 [va_rf a0, .int x1, .int x2] S) (Qx D cy H0 (cvI o)) 0 0 (fun q => H0.size ≤ q) := by
  refine met_of (cc := cX12_frame) (maxL := 10) (ret := (some .int)) [va_rf a0, .int x1, .int x2] [(0, va_rf a0), (1, .int x1), (2, .int x2)] (by decide) rfl rfl (by simp [lg_sl, va_rf_cat, vi_cat, vl_cat]) (by simp [lv_args, va_rf_cat, vi_cat, vl_cat]) (fun Γ C => ?_)
  unfold f_X12_frame
  refine g_aload_n C dX12_frame_0 rfl 0 rfl ?_
  refine g_iconst C (v := (0 : Int32)) dX12_frame_1 (by decide) ?_
  refine g_putI C (ci := 11) (k := 0) (ty0 := tyX12) dX12_frame_2 rfl (by decide) (by decide) (by decide) tyX12_ok nmX12 ulX12_frame_X12 flX12_frame_1 rfl rfl ⟨rfl, rfl⟩ (fun S1 eS1 => ?_)
  refine g_iload_n C dX12_frame_5 rfl 1 rfl ?_
  refine g_i2l C dX12_frame_6 ?_
  refine g_lconst C (v := (0 : Int64)) dX12_frame_7 (by decide) ?_
  refine g_ldc2 C (v := (20000 : Int64)) dX12_frame_8 (by decide +kernel) ?_
  refine g_callS C (n := 3) [.long x1.toInt64, .long (0 : Int64), .long (20000 : Int64)] [] (m_X12_in x1.toInt64 (0 : Int64) (20000 : Int64) S1) dX12_frame_11 gX12_frame_X12_in rfl ⟨rfl, rfl⟩ (by decide +kernel) ⟨by decide, by decide⟩ ⟨by decide, by decide⟩ rfl rfl (by first | exact Nat.le_of_ble_eq_true rfl | simp [va_rf_cat, vi_cat, vl_cat]) (fun o2 eo2 => ?_)
  show G Γ cvI 10 0 0 14 [(0, va_rf a0), (1, .int x1), (2, .int x2)] [.int o2.1] o2.2 _
  refine g_if_eq C (tgt := 27) dX12_frame_14 (by decide) (fun h3 => ?_) (fun h3 => ?_)
  · refine g_ldc C (v := (-1000001 : Int32)) dX12_frame_27 (by decide +kernel) ?_
    exact g_iret C dX12_frame_29 ⟨by decide, by decide⟩
  · refine g_iload_n C dX12_frame_17 rfl 2 rfl ?_
    refine g_i2l C dX12_frame_18 ?_
    refine g_lconst C (v := (0 : Int64)) dX12_frame_19 (by decide) ?_
    refine g_lconst C (v := (1 : Int64)) dX12_frame_20 (by decide) ?_
    refine g_callS C (n := 3) [.long x2.toInt64, .long (0 : Int64), .long (1 : Int64)] [] (m_X12_in x2.toInt64 (0 : Int64) (1 : Int64) o2.2) dX12_frame_21 gX12_frame_X12_in rfl ⟨rfl, rfl⟩ (by decide +kernel) ⟨by decide, by decide⟩ ⟨by decide, by decide⟩ rfl rfl (by first | exact Nat.le_of_ble_eq_true rfl | simp [va_rf_cat, vi_cat, vl_cat]) (fun o4 eo4 => ?_)
    show G Γ cvI 10 0 0 24 [(0, va_rf a0), (1, .int x1), (2, .int x2)] [.int o4.1] o4.2 _
    refine g_if_ne C (tgt := 30) dX12_frame_24 (by decide) (fun h5 => ?_) (fun h5 => ?_)
    · refine g_ldc C (v := (-1000001 : Int32)) dX12_frame_27 (by decide +kernel) ?_
      exact g_iret C dX12_frame_29 ⟨by decide, by decide⟩
    · refine g_iconst C (v := (-1 : Int32)) dX12_frame_30 (by decide) ?_
      refine g_istore_n C (lv2 := [(3, .int (-1 : Int32)), (0, va_rf a0), (1, .int x1), (2, .int x2)]) dX12_frame_31 rfl (by decide) (by first | rfl | simp [va_rf_cat, vi_cat, vl_cat]) ?_
      refine g_iconst C (v := (0 : Int32)) dX12_frame_32 (by decide) ?_
      refine g_istore C (lv2 := [(4, .int (0 : Int32)), (3, .int (-1 : Int32)), (0, va_rf a0), (1, .int x1), (2, .int x2)]) dX12_frame_33 (by decide) (by first | rfl | simp [va_rf_cat, vi_cat, vl_cat]) ?_
      refine g_bipush C (v := (100 : Int32)) dX12_frame_35 (by decide) ?_
      refine g_istore C (lv2 := [(5, .int (100 : Int32)), (4, .int (0 : Int32)), (3, .int (-1 : Int32)), (0, va_rf a0), (1, .int x1), (2, .int x2)]) dX12_frame_37 (by decide) (by first | rfl | simp [va_rf_cat, vi_cat, vl_cat]) ?_
      refine g_bipush C (v := (100 : Int32)) dX12_frame_39 (by decide) ?_
      refine g_istore C (lv2 := [(6, .int (100 : Int32)), (5, .int (100 : Int32)), (4, .int (0 : Int32)), (3, .int (-1 : Int32)), (0, va_rf a0), (1, .int x1), (2, .int x2)]) dX12_frame_41 (by decide) (by first | rfl | simp [va_rf_cat, vi_cat, vl_cat]) ?_
      refine g_iconst C (v := (0 : Int32)) dX12_frame_43 (by decide) ?_
      refine g_istore C (lv2 := [(7, .int (0 : Int32)), (6, .int (100 : Int32)), (5, .int (100 : Int32)), (4, .int (0 : Int32)), (3, .int (-1 : Int32)), (0, va_rf a0), (1, .int x1), (2, .int x2)]) dX12_frame_44 (by decide) (by first | rfl | simp [va_rf_cat, vi_cat, vl_cat]) ?_
      refine g_iconst C (v := (0 : Int32)) dX12_frame_46 (by decide) ?_
      refine g_istore C (lv2 := [(8, .int (0 : Int32)), (7, .int (0 : Int32)), (6, .int (100 : Int32)), (5, .int (100 : Int32)), (4, .int (0 : Int32)), (3, .int (-1 : Int32)), (0, va_rf a0), (1, .int x1), (2, .int x2)]) dX12_frame_47 (by decide) (by first | rfl | simp [va_rf_cat, vi_cat, vl_cat]) ?_
      exact g_sub (lv2 := [(0, va_rf a0), (1, .int x1), (2, .int x2), (3, .int (-1 : Int32)), (4, .int (0 : Int32)), (5, .int (100 : Int32)), (6, .int (100 : Int32)), (7, .int (0 : Int32)), (8, .int (0 : Int32))]) [6, 7, 8, 5, 4, 3, 2, 1, 0] rfl (t_X12_frame_49 C FU a0 x1 x2 (-1 : Int32) (0 : Int32) (100 : Int32) (100 : Int32) (0 : Int32) (0 : Int32) o4.2)
