abbrev rmX12_stroke : Room := { frames := 2, cells := 0, slots := 0, locals := 45 }
theorem flX12_stroke_1 : Cond.fieldLink RX12 1 "LightLinesModel" "thrown" "I" ∈ wsX12_stroke := by decide +kernel
theorem flX12_stroke_7 : Cond.fieldLink RX12 7 "LightLinesModel" "status" "I" ∈ wsX12_stroke := by decide +kernel
theorem flX12_stroke_17 : Cond.fieldLink RX12 17 "LightLinesModel" "lane" "[I" ∈ wsX12_stroke := by decide +kernel
theorem flX12_stroke_21 : Cond.fieldLink RX12 21 "LightLinesModel" "many" "[I" ∈ wsX12_stroke := by decide +kernel
theorem flX12_stroke_24 : Cond.fieldLink RX12 24 "LightLinesModel" "item" "[I" ∈ wsX12_stroke := by decide +kernel
theorem flX12_stroke_27 : Cond.fieldLink RX12 27 "LightLinesModel" "points" "[I" ∈ wsX12_stroke := by decide +kernel
theorem flX12_stroke_30 : Cond.fieldLink RX12 30 "LightLinesModel" "px" "[I" ∈ wsX12_stroke := by decide +kernel
theorem flX12_stroke_33 : Cond.fieldLink RX12 33 "LightLinesModel" "py" "[I" ∈ wsX12_stroke := by decide +kernel
theorem flX12_stroke_36 : Cond.fieldLink RX12 36 "LightLinesModel" "order" "[I" ∈ wsX12_stroke := by decide +kernel
theorem flX12_stroke_39 : Cond.fieldLink RX12 39 "LightLinesModel" "back" "[I" ∈ wsX12_stroke := by decide +kernel
theorem flX12_stroke_105 : Cond.fieldLink RX12 105 "LightLinesModel" "strokes" "I" ∈ wsX12_stroke := by decide +kernel
set_option maxRecDepth 100000 in
theorem ulX12_stroke_X12 : ∀ w ∈ u_ws RX12 TX12 42, w ∈ wsX12_stroke := by decide +kernel
set_option maxHeartbeats 4000000 in
set_option maxRecDepth 100000 in
theorem t_X12_stroke_76 {Γ : Cx} (C : CF Γ cX12_stroke 5 (some .int) wsX12_stroke RX12 rmX12_stroke 0 0) (a0 : Option Nat) (S : St) : G Γ cvI 5 0 0 76 [(0, va_rf a0)] [] S (b_X12_stroke_76  a0 S) := by
  unfold b_X12_stroke_76
  refine g_aload_n C dX12_stroke_76 rfl 0 rfl ?_
  refine g_iconst C (v := (2 : Int32)) dX12_stroke_77 (by decide) ?_
  refine g_callV C (n := 1) (ci := 11) [.int (2 : Int32)] [] (m_X12_found a0 (2 : Int32) S) dX12_stroke_78 gX12_stroke_X12_found rfl ⟨rfl, rfl⟩ (by decide +kernel) ⟨by decide, by decide⟩ ⟨by decide, by decide⟩ rfl (by decide) rfl rfl (by first | exact Nat.le_of_ble_eq_true rfl | simp [va_rf_cat, vi_cat, vl_cat]) (fun o1 eo1 => ?_)
  show G Γ cvI 5 0 0 81 [(0, va_rf a0)] [.int o1.1] o1.2 _
  exact g_iret C dX12_stroke_81 ⟨by decide, by decide⟩
set_option maxHeartbeats 4000000 in
set_option maxRecDepth 100000 in
theorem t_X12_stroke_266 {Γ : Cx} (C : CF Γ cX12_stroke 5 (some .int) wsX12_stroke RX12 rmX12_stroke 0 0) (a0 : Option Nat) (S : St) : G Γ cvI 5 0 0 266 [(0, va_rf a0)] [] S (b_X12_stroke_266  a0 S) := by
  unfold b_X12_stroke_266
  refine g_aload_n C dX12_stroke_266 rfl 0 rfl ?_
  refine g_getI C (ci := 11) (k := 5) dX12_stroke_267 rfl (by decide) (by decide) (by decide) ulX12_stroke_X12 flX12_stroke_105 rfl (fun v1 ev1 => ?_)
  refine g_iconst C (v := (1 : Int32)) dX12_stroke_270 (by decide) ?_
  refine g_isub C dX12_stroke_271 ?_
  exact g_iret C dX12_stroke_272 ⟨by decide, by decide⟩
set_option maxHeartbeats 4000000 in
set_option maxRecDepth 100000 in
theorem t_X12_stroke_234 {Γ : Cx} (C : CF Γ cX12_stroke 5 (some .int) wsX12_stroke RX12 rmX12_stroke 0 0) : ∀ (n : Nat) (a0 : Option Nat) (x4 : Int32) (S : St), G Γ cvI 5 0 0 234 [(0, va_rf a0), (4, .int x4)] [] S (b_X12_stroke_234  n a0 x4 S) := by
  intro n
  induction n with
  | zero => intro a0 x4 S; exact g_none
  | succ n ih =>
    intro a0 x4 S
    rw [b_X12_stroke_234]
    refine g_iload C dX12_stroke_234 1 rfl ?_
    refine g_aload_n C dX12_stroke_236 rfl 0 rfl ?_
    refine g_getI C (ci := 11) (k := 5) dX12_stroke_237 rfl (by decide) (by decide) (by decide) ulX12_stroke_X12 flX12_stroke_105 rfl (fun v1 ev1 => ?_)
    refine g_icmp_ge C (tgt := 266) dX12_stroke_240 (by decide) (fun h2 => ?_) (fun h2 => ?_)
    · exact g_sub (lv2 := [(0, va_rf a0)]) [0] rfl (t_X12_stroke_266 C a0 S)
    · refine g_aload_n C dX12_stroke_243 rfl 0 rfl ?_
      refine g_getR C (ci := 11) (k := 9) dX12_stroke_244 rfl (by decide) (by decide) (by decide) ulX12_stroke_X12 flX12_stroke_36 rfl (fun v3 ev3 => ?_)
      refine g_iload C dX12_stroke_247 1 rfl ?_
      refine g_iload C dX12_stroke_249 1 rfl ?_
      refine g_ist C dX12_stroke_251 (fun S4 eS4 => ?_)
      refine g_aload_n C dX12_stroke_252 rfl 0 rfl ?_
      refine g_getR C (ci := 11) (k := 10) dX12_stroke_253 rfl (by decide) (by decide) (by decide) ulX12_stroke_X12 flX12_stroke_39 rfl (fun v5 ev5 => ?_)
      refine g_iload C dX12_stroke_256 1 rfl ?_
      refine g_iconst C (v := (0 : Int32)) dX12_stroke_258 (by decide) ?_
      refine g_ist C dX12_stroke_259 (fun S6 eS6 => ?_)
      refine g_iinc1 C dX12_stroke_260 1 rfl (by decide) (by decide) (fun y7 => ?_)
      refine g_lveq (lv2 := [(4, .int y7), (0, va_rf a0)]) (by first | rfl | simp [va_rf_cat, vi_cat, vl_cat]) ?_
      refine g_goto C (tgt := 234) dX12_stroke_263 (by decide) ?_
      exact g_sub (lv2 := [(0, va_rf a0), (4, .int y7)]) [1, 0] rfl (ih a0 y7 S6)
set_option maxHeartbeats 4000000 in
set_option maxRecDepth 100000 in
theorem t_X12_stroke_211 {Γ : Cx} (C : CF Γ cX12_stroke 5 (some .int) wsX12_stroke RX12 rmX12_stroke 0 0) (a0 : Option Nat) (x3 : Int32) (S : St) : G Γ cvI 5 0 0 211 [(0, va_rf a0), (3, .int x3)] [] S (b_X12_stroke_211  a0 x3 S) := by
  unfold b_X12_stroke_211
  refine g_aload_n C dX12_stroke_211 rfl 0 rfl ?_
  refine g_getR C (ci := 11) (k := 6) dX12_stroke_212 rfl (by decide) (by decide) (by decide) ulX12_stroke_X12 flX12_stroke_27 rfl (fun v1 ev1 => ?_)
  refine g_aload_n C dX12_stroke_215 rfl 0 rfl ?_
  refine g_getI C (ci := 11) (k := 5) dX12_stroke_216 rfl (by decide) (by decide) (by decide) ulX12_stroke_X12 flX12_stroke_105 rfl (fun v2 ev2 => ?_)
  refine g_iload_n C dX12_stroke_219 rfl 1 rfl ?_
  refine g_ist C dX12_stroke_220 (fun S3 eS3 => ?_)
  refine g_aload_n C dX12_stroke_221 rfl 0 rfl ?_
  refine g_dupr C dX12_stroke_222 ?_
  refine g_getI C (ci := 11) (k := 5) dX12_stroke_223 rfl (by decide) (by decide) (by decide) ulX12_stroke_X12 flX12_stroke_105 rfl (fun v4 ev4 => ?_)
  refine g_iconst C (v := (1 : Int32)) dX12_stroke_226 (by decide) ?_
  refine g_iadd C dX12_stroke_227 ?_
  refine g_putI C (ci := 11) (k := 5) (ty0 := tyX12) dX12_stroke_228 rfl (by decide) (by decide) (by decide) tyX12_ok nmX12 ulX12_stroke_X12 flX12_stroke_105 rfl rfl ⟨rfl, rfl⟩ (fun S5 eS5 => ?_)
  refine g_iconst C (v := (0 : Int32)) dX12_stroke_231 (by decide) ?_
  refine g_istore C (lv2 := [(4, .int (0 : Int32)), (0, va_rf a0), (3, .int x3)]) dX12_stroke_232 (by decide) (by first | rfl | simp [va_rf_cat, vi_cat, vl_cat]) ?_
  exact g_sub (lv2 := [(0, va_rf a0), (4, .int (0 : Int32))]) [1, 0] rfl (t_X12_stroke_234 C FU a0 (0 : Int32) S5)
set_option maxHeartbeats 4000000 in
set_option maxRecDepth 100000 in
theorem t_X12_stroke_135 {Γ : Cx} (C : CF Γ cX12_stroke 5 (some .int) wsX12_stroke RX12 rmX12_stroke 0 0) : ∀ (n : Nat) (a0 : Option Nat) (x1 : Int32) (x2 : Int32) (x3 : Int32) (x4 : Int32) (S : St), G Γ cvI 5 0 0 135 [(0, va_rf a0), (1, .int x1), (2, .int x2), (3, .int x3), (4, .int x4)] [] S (b_X12_stroke_135  n a0 x1 x2 x3 x4 S) := by
  intro n
  induction n with
  | zero => intro a0 x1 x2 x3 x4 S; exact g_none
  | succ n ih =>
    intro a0 x1 x2 x3 x4 S
    rw [b_X12_stroke_135]
    refine g_iload C dX12_stroke_135 4 rfl ?_
    refine g_iload_n C dX12_stroke_137 rfl 3 rfl ?_
    refine g_icmp_ge C (tgt := 211) dX12_stroke_138 (by decide) (fun h1 => ?_) (fun h1 => ?_)
    · exact g_sub (lv2 := [(0, va_rf a0), (3, .int x3)]) [0, 3] rfl (t_X12_stroke_211 C a0 x3 S)
    · refine g_aload_n C dX12_stroke_141 rfl 0 rfl ?_
      refine g_getR C (ci := 11) (k := 7) dX12_stroke_142 rfl (by decide) (by decide) (by decide) ulX12_stroke_X12 flX12_stroke_30 rfl (fun v2 ev2 => ?_)
      refine g_bipush C (v := (8 : Int32)) dX12_stroke_145 (by decide) ?_
      refine g_aload_n C dX12_stroke_147 rfl 0 rfl ?_
      refine g_getI C (ci := 11) (k := 5) dX12_stroke_148 rfl (by decide) (by decide) (by decide) ulX12_stroke_X12 flX12_stroke_105 rfl (fun v3 ev3 => ?_)
      refine g_imul C dX12_stroke_151 ?_
      refine g_iload C dX12_stroke_152 4 rfl ?_
      refine g_iadd C dX12_stroke_154 ?_
      refine g_aload_n C dX12_stroke_155 rfl 0 rfl ?_
      refine g_getR C (ci := 11) (k := 4) dX12_stroke_156 rfl (by decide) (by decide) (by decide) ulX12_stroke_X12 flX12_stroke_24 rfl (fun v4 ev4 => ?_)
      refine g_bipush C (v := (40 : Int32)) dX12_stroke_159 (by decide) ?_
      refine g_iload_n C dX12_stroke_161 rfl 1 rfl ?_
      refine g_imul C dX12_stroke_162 ?_
      refine g_iload_n C dX12_stroke_163 rfl 2 rfl ?_
      refine g_iadd C dX12_stroke_164 ?_
      refine g_iconst C (v := (2 : Int32)) dX12_stroke_165 (by decide) ?_
      refine g_iload C dX12_stroke_166 4 rfl ?_
      refine g_imul C dX12_stroke_168 ?_
      refine g_iadd C dX12_stroke_169 ?_
      refine g_ild C dX12_stroke_170 (fun v5 ev5 => ?_)
      refine g_ist C dX12_stroke_171 (fun S6 eS6 => ?_)
      refine g_aload_n C dX12_stroke_172 rfl 0 rfl ?_
      refine g_getR C (ci := 11) (k := 8) dX12_stroke_173 rfl (by decide) (by decide) (by decide) ulX12_stroke_X12 flX12_stroke_33 rfl (fun v7 ev7 => ?_)
      refine g_bipush C (v := (8 : Int32)) dX12_stroke_176 (by decide) ?_
      refine g_aload_n C dX12_stroke_178 rfl 0 rfl ?_
      refine g_getI C (ci := 11) (k := 5) dX12_stroke_179 rfl (by decide) (by decide) (by decide) ulX12_stroke_X12 flX12_stroke_105 rfl (fun v8 ev8 => ?_)
      refine g_imul C dX12_stroke_182 ?_
      refine g_iload C dX12_stroke_183 4 rfl ?_
      refine g_iadd C dX12_stroke_185 ?_
      refine g_aload_n C dX12_stroke_186 rfl 0 rfl ?_
      refine g_getR C (ci := 11) (k := 4) dX12_stroke_187 rfl (by decide) (by decide) (by decide) ulX12_stroke_X12 flX12_stroke_24 rfl (fun v9 ev9 => ?_)
      refine g_bipush C (v := (40 : Int32)) dX12_stroke_190 (by decide) ?_
      refine g_iload_n C dX12_stroke_192 rfl 1 rfl ?_
      refine g_imul C dX12_stroke_193 ?_
      refine g_iload_n C dX12_stroke_194 rfl 2 rfl ?_
      refine g_iadd C dX12_stroke_195 ?_
      refine g_iconst C (v := (2 : Int32)) dX12_stroke_196 (by decide) ?_
      refine g_iload C dX12_stroke_197 4 rfl ?_
      refine g_imul C dX12_stroke_199 ?_
      refine g_iadd C dX12_stroke_200 ?_
      refine g_iconst C (v := (1 : Int32)) dX12_stroke_201 (by decide) ?_
      refine g_iadd C dX12_stroke_202 ?_
      refine g_ild C dX12_stroke_203 (fun v10 ev10 => ?_)
      refine g_ist C dX12_stroke_204 (fun S11 eS11 => ?_)
      refine g_iinc1 C dX12_stroke_205 4 rfl (by decide) (by decide) (fun y12 => ?_)
      refine g_lveq (lv2 := [(4, .int y12), (0, va_rf a0), (1, .int x1), (2, .int x2), (3, .int x3)]) (by first | rfl | simp [va_rf_cat, vi_cat, vl_cat]) ?_
      refine g_goto C (tgt := 135) dX12_stroke_208 (by decide) ?_
      exact g_sub (lv2 := [(0, va_rf a0), (1, .int x1), (2, .int x2), (3, .int x3), (4, .int y12)]) [1, 2, 3, 4, 0] rfl (ih a0 x1 x2 x3 y12 S11)
set_option maxHeartbeats 4000000 in
set_option maxRecDepth 100000 in
theorem t_X12_stroke_127 {Γ : Cx} (C : CF Γ cX12_stroke 5 (some .int) wsX12_stroke RX12 rmX12_stroke 0 0) (a0 : Option Nat) (x1 : Int32) (x2 : Int32) (x3 : Int32) (S : St) : G Γ cvI 5 0 0 127 [(0, va_rf a0), (1, .int x1), (2, .int x2), (3, .int x3)] [] S (b_X12_stroke_127  a0 x1 x2 x3 S) := by
  unfold b_X12_stroke_127
  refine g_aload_n C dX12_stroke_127 rfl 0 rfl ?_
  refine g_iconst C (v := (0 : Int32)) dX12_stroke_128 (by decide) ?_
  refine g_putI C (ci := 11) (k := 1) (ty0 := tyX12) dX12_stroke_129 rfl (by decide) (by decide) (by decide) tyX12_ok nmX12 ulX12_stroke_X12 flX12_stroke_7 rfl rfl ⟨rfl, rfl⟩ (fun S1 eS1 => ?_)
  refine g_iconst C (v := (0 : Int32)) dX12_stroke_132 (by decide) ?_
  refine g_istore C (lv2 := [(4, .int (0 : Int32)), (0, va_rf a0), (1, .int x1), (2, .int x2), (3, .int x3)]) dX12_stroke_133 (by decide) (by first | rfl | simp [va_rf_cat, vi_cat, vl_cat]) ?_
  exact g_sub (lv2 := [(0, va_rf a0), (1, .int x1), (2, .int x2), (3, .int x3), (4, .int (0 : Int32))]) [1, 2, 3, 4, 0] rfl (t_X12_stroke_135 C FU a0 x1 x2 x3 (0 : Int32) S1)
set_option maxHeartbeats 4000000 in
set_option maxRecDepth 100000 in
theorem t_X12_stroke_85 {Γ : Cx} (C : CF Γ cX12_stroke 5 (some .int) wsX12_stroke RX12 rmX12_stroke 0 0) : ∀ (n : Nat) (a0 : Option Nat) (x1 : Int32) (x2 : Int32) (x3 : Int32) (x4 : Int32) (S : St), G Γ cvI 5 0 0 85 [(0, va_rf a0), (1, .int x1), (2, .int x2), (3, .int x3), (4, .int x4)] [] S (b_X12_stroke_85  n a0 x1 x2 x3 x4 S) := by
  intro n
  induction n with
  | zero => intro a0 x1 x2 x3 x4 S; exact g_none
  | succ n ih =>
    intro a0 x1 x2 x3 x4 S
    rw [b_X12_stroke_85]
    refine g_iload C dX12_stroke_85 4 rfl ?_
    refine g_iconst C (v := (2 : Int32)) dX12_stroke_87 (by decide) ?_
    refine g_iload_n C dX12_stroke_88 rfl 3 rfl ?_
    refine g_imul C dX12_stroke_89 ?_
    refine g_icmp_ge C (tgt := 127) dX12_stroke_90 (by decide) (fun h1 => ?_) (fun h1 => ?_)
    · exact g_sub (lv2 := [(0, va_rf a0), (1, .int x1), (2, .int x2), (3, .int x3)]) [0, 1, 2, 3] rfl (t_X12_stroke_127 C a0 x1 x2 x3 S)
    · refine g_aload_n C dX12_stroke_93 rfl 0 rfl ?_
      refine g_getR C (ci := 11) (k := 4) dX12_stroke_94 rfl (by decide) (by decide) (by decide) ulX12_stroke_X12 flX12_stroke_24 rfl (fun v2 ev2 => ?_)
      refine g_bipush C (v := (40 : Int32)) dX12_stroke_97 (by decide) ?_
      refine g_iload_n C dX12_stroke_99 rfl 1 rfl ?_
      refine g_imul C dX12_stroke_100 ?_
      refine g_iload_n C dX12_stroke_101 rfl 2 rfl ?_
      refine g_iadd C dX12_stroke_102 ?_
      refine g_iload C dX12_stroke_103 4 rfl ?_
      refine g_iadd C dX12_stroke_105 ?_
      refine g_ild C dX12_stroke_106 (fun v3 ev3 => ?_)
      refine g_i2l C dX12_stroke_107 ?_
      refine g_lconst C (v := (0 : Int64)) dX12_stroke_108 (by decide) ?_
      refine g_ldc2 C (v := (1000 : Int64)) dX12_stroke_109 (by decide +kernel) ?_
      refine g_callS C (n := 3) [.long v3.toInt64, .long (0 : Int64), .long (1000 : Int64)] [] (m_X12_in v3.toInt64 (0 : Int64) (1000 : Int64) S) dX12_stroke_112 gX12_stroke_X12_in rfl ⟨rfl, rfl⟩ (by decide +kernel) ⟨by decide, by decide⟩ ⟨by decide, by decide⟩ rfl rfl (by first | exact Nat.le_of_ble_eq_true rfl | simp [va_rf_cat, vi_cat, vl_cat]) (fun o4 eo4 => ?_)
      show G Γ cvI 5 0 0 115 [(0, va_rf a0), (1, .int x1), (2, .int x2), (3, .int x3), (4, .int x4)] [.int o4.1] o4.2 _
      refine g_if_ne C (tgt := 121) dX12_stroke_115 (by decide) (fun h5 => ?_) (fun h5 => ?_)
      · refine g_ldc C (v := (-1000001 : Int32)) dX12_stroke_118 (by decide +kernel) ?_
        exact g_iret C dX12_stroke_120 ⟨by decide, by decide⟩
      · refine g_iinc1 C dX12_stroke_121 4 rfl (by decide) (by decide) (fun y6 => ?_)
        refine g_lveq (lv2 := [(4, .int y6), (0, va_rf a0), (1, .int x1), (2, .int x2), (3, .int x3)]) (by first | rfl | simp [va_rf_cat, vi_cat, vl_cat]) ?_
        refine g_goto C (tgt := 85) dX12_stroke_124 (by decide) ?_
        exact g_sub (lv2 := [(0, va_rf a0), (1, .int x1), (2, .int x2), (3, .int x3), (4, .int y6)]) [1, 2, 3, 4, 0] rfl (ih a0 x1 x2 x3 y6 o4.2)
set_option maxHeartbeats 4000000 in
set_option maxRecDepth 100000 in
theorem m_X12_stroke (a0 : Option Nat) (x1 : Int32) (x2 : Int32) (x3 : Int32) (S : St) : ∀ l D cy H0 o, f_X12_stroke a0 x1 x2 x3 S = some o → Met l yX12_stroke wsX12_stroke rmX12_stroke (Pq D cy H0 [va_rf a0, .int x1, .int x2, .int x3] S) (Qx D cy H0 (cvI o)) 0 0 (fun q => H0.size ≤ q) := by
  refine met_of (cc := cX12_stroke) (maxL := 5) (ret := (some .int)) [va_rf a0, .int x1, .int x2, .int x3] [(0, va_rf a0), (1, .int x1), (2, .int x2), (3, .int x3)] (by decide) rfl rfl (by simp [lg_sl, va_rf_cat, vi_cat, vl_cat]) (by simp [lv_args, va_rf_cat, vi_cat, vl_cat]) (fun Γ C => ?_)
  unfold f_X12_stroke
  refine g_aload_n C dX12_stroke_0 rfl 0 rfl ?_
  refine g_iconst C (v := (0 : Int32)) dX12_stroke_1 (by decide) ?_
  refine g_putI C (ci := 11) (k := 0) (ty0 := tyX12) dX12_stroke_2 rfl (by decide) (by decide) (by decide) tyX12_ok nmX12 ulX12_stroke_X12 flX12_stroke_1 rfl rfl ⟨rfl, rfl⟩ (fun S1 eS1 => ?_)
  refine g_iload_n C dX12_stroke_5 rfl 1 rfl ?_
  refine g_callS C (n := 1) [.int x1] [] (m_X12_isSheet x1 S1) dX12_stroke_6 gX12_stroke_X12_isSheet rfl ⟨rfl, rfl⟩ (by decide +kernel) ⟨by decide, by decide⟩ ⟨by decide, by decide⟩ rfl rfl (by first | exact Nat.le_of_ble_eq_true rfl | simp [va_rf_cat, vi_cat, vl_cat]) (fun o2 eo2 => ?_)
  show G Γ cvI 5 0 0 9 [(0, va_rf a0), (1, .int x1), (2, .int x2), (3, .int x3)] [.int o2.1] o2.2 _
  refine g_if_eq C (tgt := 24) dX12_stroke_9 (by decide) (fun h3 => ?_) (fun h3 => ?_)
  · refine g_ldc C (v := (-1000001 : Int32)) dX12_stroke_24 (by decide +kernel) ?_
    exact g_iret C dX12_stroke_26 ⟨by decide, by decide⟩
  · refine g_iload_n C dX12_stroke_12 rfl 3 rfl ?_
    refine g_i2l C dX12_stroke_13 ?_
    refine g_lconst C (v := (1 : Int64)) dX12_stroke_14 (by decide) ?_
    refine g_ldc2 C (v := (8 : Int64)) dX12_stroke_15 (by decide +kernel) ?_
    refine g_callS C (n := 3) [.long x3.toInt64, .long (1 : Int64), .long (8 : Int64)] [] (m_X12_in x3.toInt64 (1 : Int64) (8 : Int64) o2.2) dX12_stroke_18 gX12_stroke_X12_in rfl ⟨rfl, rfl⟩ (by decide +kernel) ⟨by decide, by decide⟩ ⟨by decide, by decide⟩ rfl rfl (by first | exact Nat.le_of_ble_eq_true rfl | simp [va_rf_cat, vi_cat, vl_cat]) (fun o4 eo4 => ?_)
    show G Γ cvI 5 0 0 21 [(0, va_rf a0), (1, .int x1), (2, .int x2), (3, .int x3)] [.int o4.1] o4.2 _
    refine g_if_ne C (tgt := 27) dX12_stroke_21 (by decide) (fun h5 => ?_) (fun h5 => ?_)
    · refine g_ldc C (v := (-1000001 : Int32)) dX12_stroke_24 (by decide +kernel) ?_
      exact g_iret C dX12_stroke_26 ⟨by decide, by decide⟩
    · refine g_aload_n C dX12_stroke_27 rfl 0 rfl ?_
      refine g_getI C (ci := 11) (k := 5) dX12_stroke_28 rfl (by decide) (by decide) (by decide) ulX12_stroke_X12 flX12_stroke_105 rfl (fun v6 ev6 => ?_)
      refine g_bipush C (v := (8 : Int32)) dX12_stroke_31 (by decide) ?_
      refine g_icmp_ne C (tgt := 39) dX12_stroke_33 (by decide) (fun h7 => ?_) (fun h7 => ?_)
      · refine g_ldc C (v := (-1000003 : Int32)) dX12_stroke_36 (by decide +kernel) ?_
        exact g_iret C dX12_stroke_38 ⟨by decide, by decide⟩
      · refine g_aload_n C dX12_stroke_39 rfl 0 rfl ?_
        refine g_getR C (ci := 11) (k := 2) dX12_stroke_40 rfl (by decide) (by decide) (by decide) ulX12_stroke_X12 flX12_stroke_17 rfl (fun v8 ev8 => ?_)
        refine g_iload_n C dX12_stroke_43 rfl 1 rfl ?_
        refine g_ild C dX12_stroke_44 (fun v9 ev9 => ?_)
        refine g_if_ge C (tgt := 54) dX12_stroke_45 (by decide) (fun h10 => ?_) (fun h10 => ?_)
        · refine g_iload_n C dX12_stroke_54 rfl 2 rfl ?_
          refine g_if_lt C (tgt := 76) dX12_stroke_55 (by decide) (fun h11 => ?_) (fun h11 => ?_)
          · exact g_sub (lv2 := [(0, va_rf a0)]) [0] rfl (t_X12_stroke_76 C a0 o4.2)
          · refine g_iload_n C dX12_stroke_58 rfl 2 rfl ?_
            refine g_i2l C dX12_stroke_59 ?_
            refine g_iconst C (v := (2 : Int32)) dX12_stroke_60 (by decide) ?_
            refine g_iload_n C dX12_stroke_61 rfl 3 rfl ?_
            refine g_imul C dX12_stroke_62 ?_
            refine g_i2l C dX12_stroke_63 ?_
            refine g_ladd C dX12_stroke_64 ?_
            refine g_aload_n C dX12_stroke_65 rfl 0 rfl ?_
            refine g_getR C (ci := 11) (k := 3) dX12_stroke_66 rfl (by decide) (by decide) (by decide) ulX12_stroke_X12 flX12_stroke_21 rfl (fun v12 ev12 => ?_)
            refine g_iload_n C dX12_stroke_69 rfl 1 rfl ?_
            refine g_ild C dX12_stroke_70 (fun v13 ev13 => ?_)
            refine g_i2l C dX12_stroke_71 ?_
            refine g_lcmp C dX12_stroke_72 ?_
            refine g_if_le C (tgt := 82) dX12_stroke_73 (by decide) (fun h14 => ?_) (fun h14 => ?_)
            · refine g_iconst C (v := (0 : Int32)) dX12_stroke_82 (by decide) ?_
              refine g_istore C (lv2 := [(4, .int (0 : Int32)), (0, va_rf a0), (1, .int x1), (2, .int x2), (3, .int x3)]) dX12_stroke_83 (by decide) (by first | rfl | simp [va_rf_cat, vi_cat, vl_cat]) ?_
              exact g_sub (lv2 := [(0, va_rf a0), (1, .int x1), (2, .int x2), (3, .int x3), (4, .int (0 : Int32))]) [1, 2, 3, 4, 0] rfl (t_X12_stroke_85 C FU a0 x1 x2 x3 (0 : Int32) o4.2)
            · exact g_sub (lv2 := [(0, va_rf a0)]) [0] rfl (t_X12_stroke_76 C a0 o4.2)
        · refine g_aload_n C dX12_stroke_48 rfl 0 rfl ?_
          refine g_iconst C (v := (1 : Int32)) dX12_stroke_49 (by decide) ?_
          refine g_callV C (n := 1) (ci := 11) [.int (1 : Int32)] [] (m_X12_found a0 (1 : Int32) o4.2) dX12_stroke_50 gX12_stroke_X12_found rfl ⟨rfl, rfl⟩ (by decide +kernel) ⟨by decide, by decide⟩ ⟨by decide, by decide⟩ rfl (by decide) rfl rfl (by first | exact Nat.le_of_ble_eq_true rfl | simp [va_rf_cat, vi_cat, vl_cat]) (fun o15 eo15 => ?_)
          show G Γ cvI 5 0 0 53 [(0, va_rf a0), (1, .int x1), (2, .int x2), (3, .int x3)] [.int o15.1] o15.2 _
          exact g_iret C dX12_stroke_53 ⟨by decide, by decide⟩
abbrev rmX12_point : Room := { frames := 2, cells := 0, slots := 0, locals := 46 }
theorem flX12_point_1 : Cond.fieldLink RX12 1 "LightLinesModel" "thrown" "I" ∈ wsX12_point := by decide +kernel
theorem flX12_point_27 : Cond.fieldLink RX12 27 "LightLinesModel" "points" "[I" ∈ wsX12_point := by decide +kernel
theorem flX12_point_30 : Cond.fieldLink RX12 30 "LightLinesModel" "px" "[I" ∈ wsX12_point := by decide +kernel
theorem flX12_point_33 : Cond.fieldLink RX12 33 "LightLinesModel" "py" "[I" ∈ wsX12_point := by decide +kernel
set_option maxRecDepth 100000 in
theorem ulX12_point_X12 : ∀ w ∈ u_ws RX12 TX12 42, w ∈ wsX12_point := by decide +kernel
set_option maxHeartbeats 4000000 in
set_option maxRecDepth 100000 in
theorem m_X12_point (a0 : Option Nat) (x1 : Int32) (x2 : Int32) (x3 : Int32) (S : St) : ∀ l D cy H0 o, f_X12_point a0 x1 x2 x3 S = some o → Met l yX12_point wsX12_point rmX12_point (Pq D cy H0 [va_rf a0, .int x1, .int x2, .int x3] S) (Qx D cy H0 (cvI o)) 0 0 (fun q => H0.size ≤ q) := by
  refine met_of (cc := cX12_point) (maxL := 4) (ret := (some .int)) [va_rf a0, .int x1, .int x2, .int x3] [(0, va_rf a0), (1, .int x1), (2, .int x2), (3, .int x3)] (by decide) rfl rfl (by simp [lg_sl, va_rf_cat, vi_cat, vl_cat]) (by simp [lv_args, va_rf_cat, vi_cat, vl_cat]) (fun Γ C => ?_)
  unfold f_X12_point
  refine g_aload_n C dX12_point_0 rfl 0 rfl ?_
  refine g_iconst C (v := (0 : Int32)) dX12_point_1 (by decide) ?_
  refine g_putI C (ci := 11) (k := 0) (ty0 := tyX12) dX12_point_2 rfl (by decide) (by decide) (by decide) tyX12_ok nmX12 ulX12_point_X12 flX12_point_1 rfl rfl ⟨rfl, rfl⟩ (fun S1 eS1 => ?_)
  refine g_aload_n C dX12_point_5 rfl 0 rfl ?_
  refine g_iload_n C dX12_point_6 rfl 1 rfl ?_
  refine g_callV C (n := 1) (ci := 11) [.int x1] [] (m_X12_isStroke a0 x1 S1) dX12_point_7 gX12_point_X12_isStroke rfl ⟨rfl, rfl⟩ (by decide +kernel) ⟨by decide, by decide⟩ ⟨by decide, by decide⟩ rfl (by decide) rfl rfl (by first | exact Nat.le_of_ble_eq_true rfl | simp [va_rf_cat, vi_cat, vl_cat]) (fun o2 eo2 => ?_)
  show G Γ cvI 4 0 0 10 [(0, va_rf a0), (1, .int x1), (2, .int x2), (3, .int x3)] [.int o2.1] o2.2 _
  refine g_if_eq C (tgt := 41) dX12_point_10 (by decide) (fun h3 => ?_) (fun h3 => ?_)
  · refine g_ldc C (v := (-1000001 : Int32)) dX12_point_41 (by decide +kernel) ?_
    exact g_iret C dX12_point_43 ⟨by decide, by decide⟩
  · refine g_iload_n C dX12_point_13 rfl 2 rfl ?_
    refine g_i2l C dX12_point_14 ?_
    refine g_lconst C (v := (0 : Int64)) dX12_point_15 (by decide) ?_
    refine g_aload_n C dX12_point_16 rfl 0 rfl ?_
    refine g_getR C (ci := 11) (k := 6) dX12_point_17 rfl (by decide) (by decide) (by decide) ulX12_point_X12 flX12_point_27 rfl (fun v4 ev4 => ?_)
    refine g_iload_n C dX12_point_20 rfl 1 rfl ?_
    refine g_ild C dX12_point_21 (fun v5 ev5 => ?_)
    refine g_iconst C (v := (1 : Int32)) dX12_point_22 (by decide) ?_
    refine g_isub C dX12_point_23 ?_
    refine g_i2l C dX12_point_24 ?_
    refine g_callS C (n := 3) [.long x2.toInt64, .long (0 : Int64), .long ((v5 - (1 : Int32)).toInt64)] [] (m_X12_in x2.toInt64 (0 : Int64) ((v5 - (1 : Int32)).toInt64) o2.2) dX12_point_25 gX12_point_X12_in rfl ⟨rfl, rfl⟩ (by decide +kernel) ⟨by decide, by decide⟩ ⟨by decide, by decide⟩ rfl rfl (by first | exact Nat.le_of_ble_eq_true rfl | simp [va_rf_cat, vi_cat, vl_cat]) (fun o6 eo6 => ?_)
    show G Γ cvI 4 0 0 28 [(0, va_rf a0), (1, .int x1), (2, .int x2), (3, .int x3)] [.int o6.1] o6.2 _
    refine g_if_eq C (tgt := 41) dX12_point_28 (by decide) (fun h7 => ?_) (fun h7 => ?_)
    · refine g_ldc C (v := (-1000001 : Int32)) dX12_point_41 (by decide +kernel) ?_
      exact g_iret C dX12_point_43 ⟨by decide, by decide⟩
    · refine g_iload_n C dX12_point_31 rfl 3 rfl ?_
      refine g_i2l C dX12_point_32 ?_
      refine g_lconst C (v := (0 : Int64)) dX12_point_33 (by decide) ?_
      refine g_lconst C (v := (1 : Int64)) dX12_point_34 (by decide) ?_
      refine g_callS C (n := 3) [.long x3.toInt64, .long (0 : Int64), .long (1 : Int64)] [] (m_X12_in x3.toInt64 (0 : Int64) (1 : Int64) o6.2) dX12_point_35 gX12_point_X12_in rfl ⟨rfl, rfl⟩ (by decide +kernel) ⟨by decide, by decide⟩ ⟨by decide, by decide⟩ rfl rfl (by first | exact Nat.le_of_ble_eq_true rfl | simp [va_rf_cat, vi_cat, vl_cat]) (fun o8 eo8 => ?_)
      show G Γ cvI 4 0 0 38 [(0, va_rf a0), (1, .int x1), (2, .int x2), (3, .int x3)] [.int o8.1] o8.2 _
      refine g_if_ne C (tgt := 44) dX12_point_38 (by decide) (fun h9 => ?_) (fun h9 => ?_)
      · refine g_ldc C (v := (-1000001 : Int32)) dX12_point_41 (by decide +kernel) ?_
        exact g_iret C dX12_point_43 ⟨by decide, by decide⟩
      · refine g_iload_n C dX12_point_44 rfl 3 rfl ?_
        refine g_if_ne C (tgt := 62) dX12_point_45 (by decide) (fun h10 => ?_) (fun h10 => ?_)
        · refine g_aload_n C dX12_point_48 rfl 0 rfl ?_
          refine g_getR C (ci := 11) (k := 7) dX12_point_49 rfl (by decide) (by decide) (by decide) ulX12_point_X12 flX12_point_30 rfl (fun v11 ev11 => ?_)
          refine g_bipush C (v := (8 : Int32)) dX12_point_52 (by decide) ?_
          refine g_iload_n C dX12_point_54 rfl 1 rfl ?_
          refine g_imul C dX12_point_55 ?_
          refine g_iload_n C dX12_point_56 rfl 2 rfl ?_
          refine g_iadd C dX12_point_57 ?_
          refine g_ild C dX12_point_58 (fun v12 ev12 => ?_)
          refine g_goto C (tgt := 73) dX12_point_59 (by decide) ?_
          exact g_iret C dX12_point_73 ⟨by decide, by decide⟩
        · refine g_aload_n C dX12_point_62 rfl 0 rfl ?_
          refine g_getR C (ci := 11) (k := 8) dX12_point_63 rfl (by decide) (by decide) (by decide) ulX12_point_X12 flX12_point_33 rfl (fun v13 ev13 => ?_)
          refine g_bipush C (v := (8 : Int32)) dX12_point_66 (by decide) ?_
          refine g_iload_n C dX12_point_68 rfl 1 rfl ?_
          refine g_imul C dX12_point_69 ?_
          refine g_iload_n C dX12_point_70 rfl 2 rfl ?_
          refine g_iadd C dX12_point_71 ?_
          refine g_ild C dX12_point_72 (fun v14 ev14 => ?_)
          exact g_iret C dX12_point_73 ⟨by decide, by decide⟩
abbrev rmX12_size : Room := { frames := 0, cells := 0, slots := 0, locals := 0 }
set_option maxHeartbeats 4000000 in
set_option maxRecDepth 100000 in
theorem m_X12_size (x0 : Int32) (S : St) : ∀ l D cy H0 o, f_X12_size x0 S = some o → Met l yX12_size wsX12_size rmX12_size (Pq D cy H0 [.int x0] S) (Qx D cy H0 (cvI o)) 0 0 (fun q => H0.size ≤ q) := by
  refine met_of (cc := cX12_size) (maxL := 1) (ret := (some .int)) [.int x0] [(0, .int x0)] (by decide) rfl rfl (by simp [lg_sl, va_rf_cat, vi_cat, vl_cat]) (by simp [lv_args, va_rf_cat, vi_cat, vl_cat]) (fun Γ C => ?_)
  unfold f_X12_size
  refine g_iload_n C dX12_size_0 rfl 0 rfl ?_
  refine g_if_ge C (tgt := 9) dX12_size_1 (by decide) (fun h1 => ?_) (fun h1 => ?_)
  · refine g_iload_n C dX12_size_9 rfl 0 rfl ?_
    exact g_iret C dX12_size_10 ⟨by decide, by decide⟩
  · refine g_iload_n C dX12_size_4 rfl 0 rfl ?_
    refine g_ineg C dX12_size_5 ?_
    refine g_goto C (tgt := 10) dX12_size_6 (by decide) ?_
    exact g_iret C dX12_size_10 ⟨by decide, by decide⟩
abbrev rmX12_way : Room := { frames := 1, cells := 0, slots := 0, locals := 20 }
set_option maxHeartbeats 4000000 in
set_option maxRecDepth 100000 in
theorem m_X12_way (x0 : Int32) (x1 : Int32) (x2 : Int32) (x3 : Int32) (S : St) : ∀ l D cy H0 o, f_X12_way x0 x1 x2 x3 S = some o → Met l yX12_way wsX12_way rmX12_way (Pq D cy H0 [.int x0, .int x1, .int x2, .int x3] S) (Qx D cy H0 (cvI o)) 0 0 (fun q => H0.size ≤ q) := by
  refine met_of (cc := cX12_way) (maxL := 6) (ret := (some .int)) [.int x0, .int x1, .int x2, .int x3] [(0, .int x0), (1, .int x1), (2, .int x2), (3, .int x3)] (by decide) rfl rfl (by simp [lg_sl, va_rf_cat, vi_cat, vl_cat]) (by simp [lv_args, va_rf_cat, vi_cat, vl_cat]) (fun Γ C => ?_)
  unfold f_X12_way
  refine g_iload_n C dX12_way_0 rfl 0 rfl ?_
  refine g_iload_n C dX12_way_1 rfl 2 rfl ?_
  refine g_isub C dX12_way_2 ?_
  refine g_callS C (n := 1) [.int (x0 - x2)] [] (m_X12_size (x0 - x2) S) dX12_way_3 gX12_way_X12_size rfl ⟨rfl, rfl⟩ (by decide +kernel) ⟨by decide, by decide⟩ ⟨by decide, by decide⟩ rfl rfl (by first | exact Nat.le_of_ble_eq_true rfl | simp [va_rf_cat, vi_cat, vl_cat]) (fun o1 eo1 => ?_)
  show G Γ cvI 6 0 0 6 [(0, .int x0), (1, .int x1), (2, .int x2), (3, .int x3)] [.int o1.1] o1.2 _
  refine g_istore C (lv2 := [(4, .int o1.1), (0, .int x0), (1, .int x1), (2, .int x2), (3, .int x3)]) dX12_way_6 (by decide) (by first | rfl | simp [va_rf_cat, vi_cat, vl_cat]) ?_
  refine g_iload_n C dX12_way_8 rfl 2 rfl ?_
  refine g_iload_n C dX12_way_9 rfl 4 rfl ?_
  refine g_isub C dX12_way_10 ?_
  refine g_callS C (n := 1) [.int (x1 - x3)] [] (m_X12_size (x1 - x3) o1.2) dX12_way_11 gX12_way_X12_size rfl ⟨rfl, rfl⟩ (by decide +kernel) ⟨by decide, by decide⟩ ⟨by decide, by decide⟩ rfl rfl (by first | exact Nat.le_of_ble_eq_true rfl | simp [va_rf_cat, vi_cat, vl_cat]) (fun o2 eo2 => ?_)
  show G Γ cvI 6 0 0 14 [(4, .int o1.1), (0, .int x0), (1, .int x1), (2, .int x2), (3, .int x3)] [.int o2.1] o2.2 _
  refine g_istore C (lv2 := [(5, .int o2.1), (4, .int o1.1), (0, .int x0), (1, .int x1), (2, .int x2), (3, .int x3)]) dX12_way_14 (by decide) (by first | rfl | simp [va_rf_cat, vi_cat, vl_cat]) ?_
  refine g_iload C dX12_way_16 1 rfl ?_
  refine g_iload C dX12_way_18 0 rfl ?_
  refine g_icmp_le C (tgt := 28) dX12_way_20 (by decide) (fun h3 => ?_) (fun h3 => ?_)
  · refine g_iload C dX12_way_28 0 rfl ?_
    exact g_iret C dX12_way_30 ⟨by decide, by decide⟩
  · refine g_iload C dX12_way_23 1 rfl ?_
    refine g_goto C (tgt := 30) dX12_way_25 (by decide) ?_
    exact g_iret C dX12_way_30 ⟨by decide, by decide⟩
abbrev rmX12_at : Room := { frames := 0, cells := 0, slots := 0, locals := 0 }
theorem flX12_at_27 : Cond.fieldLink RX12 27 "LightLinesModel" "points" "[I" ∈ wsX12_at := by decide +kernel
set_option maxRecDepth 100000 in
theorem ulX12_at_X12 : ∀ w ∈ u_ws RX12 TX12 42, w ∈ wsX12_at := by decide +kernel
set_option maxHeartbeats 4000000 in
set_option maxRecDepth 100000 in
theorem t_X12_at_22 {Γ : Cx} (C : CF Γ cX12_at 4 (some .int) wsX12_at RX12 rmX12_at 0 0) (s0 : Int32) (s1 : Int32) (S : St) : G Γ cvI 4 0 0 22 [] [.int s1, .int s0] S (b_X12_at_22  s0 s1 S) := by
  unfold b_X12_at_22
  refine g_iadd C dX12_at_22 ?_
  exact g_iret C dX12_at_23 ⟨by decide, by decide⟩
set_option maxHeartbeats 4000000 in
set_option maxRecDepth 100000 in
theorem m_X12_at (a0 : Option Nat) (x1 : Int32) (x2 : Int32) (x3 : Int32) (S : St) : ∀ l D cy H0 o, f_X12_at a0 x1 x2 x3 S = some o → Met l yX12_at wsX12_at rmX12_at (Pq D cy H0 [va_rf a0, .int x1, .int x2, .int x3] S) (Qx D cy H0 (cvI o)) 0 0 (fun q => H0.size ≤ q) := by
  refine met_of (cc := cX12_at) (maxL := 4) (ret := (some .int)) [va_rf a0, .int x1, .int x2, .int x3] [(0, va_rf a0), (1, .int x1), (2, .int x2), (3, .int x3)] (by decide) rfl rfl (by simp [lg_sl, va_rf_cat, vi_cat, vl_cat]) (by simp [lv_args, va_rf_cat, vi_cat, vl_cat]) (fun Γ C => ?_)
  unfold f_X12_at
  refine g_bipush C (v := (8 : Int32)) dX12_at_0 (by decide) ?_
  refine g_iload_n C dX12_at_2 rfl 1 rfl ?_
  refine g_imul C dX12_at_3 ?_
  refine g_iload_n C dX12_at_4 rfl 2 rfl ?_
  refine g_if_ne C (tgt := 12) dX12_at_5 (by decide) (fun h1 => ?_) (fun h1 => ?_)
  · refine g_iload_n C dX12_at_8 rfl 3 rfl ?_
    refine g_goto C (tgt := 22) dX12_at_9 (by decide) ?_
    exact g_sub (lv2 := []) [] rfl (t_X12_at_22 C ((8 : Int32) * x1) x3 S)
  · refine g_aload_n C dX12_at_12 rfl 0 rfl ?_
    refine g_getR C (ci := 11) (k := 6) dX12_at_13 rfl (by decide) (by decide) (by decide) ulX12_at_X12 flX12_at_27 rfl (fun v2 ev2 => ?_)
    refine g_iload_n C dX12_at_16 rfl 1 rfl ?_
    refine g_ild C dX12_at_17 (fun v3 ev3 => ?_)
    refine g_iconst C (v := (1 : Int32)) dX12_at_18 (by decide) ?_
    refine g_isub C dX12_at_19 ?_
    refine g_iload_n C dX12_at_20 rfl 3 rfl ?_
    refine g_isub C dX12_at_21 ?_
    exact g_sub (lv2 := []) [] rfl (t_X12_at_22 C ((8 : Int32) * x1) ((v3 - (1 : Int32)) - x3) S)
abbrev rmX12_fromStart : Room := { frames := 2, cells := 0, slots := 0, locals := 45 }
theorem flX12_fromStart_30 : Cond.fieldLink RX12 30 "LightLinesModel" "px" "[I" ∈ wsX12_fromStart := by decide +kernel
theorem flX12_fromStart_33 : Cond.fieldLink RX12 33 "LightLinesModel" "py" "[I" ∈ wsX12_fromStart := by decide +kernel
set_option maxRecDepth 100000 in
theorem ulX12_fromStart_X12 : ∀ w ∈ u_ws RX12 TX12 42, w ∈ wsX12_fromStart := by decide +kernel
set_option maxHeartbeats 4000000 in
set_option maxRecDepth 100000 in
theorem m_X12_fromStart (a0 : Option Nat) (x1 : Int32) (x2 : Int32) (S : St) : ∀ l D cy H0 o, f_X12_fromStart a0 x1 x2 S = some o → Met l yX12_fromStart wsX12_fromStart rmX12_fromStart (Pq D cy H0 [va_rf a0, .int x1, .int x2] S) (Qx D cy H0 (cvI o)) 0 0 (fun q => H0.size ≤ q) := by
  refine met_of (cc := cX12_fromStart) (maxL := 4) (ret := (some .int)) [va_rf a0, .int x1, .int x2] [(0, va_rf a0), (1, .int x1), (2, .int x2)] (by decide) rfl rfl (by simp [lg_sl, va_rf_cat, vi_cat, vl_cat]) (by simp [lv_args, va_rf_cat, vi_cat, vl_cat]) (fun Γ C => ?_)
  unfold f_X12_fromStart
  refine g_aload_n C dX12_fromStart_0 rfl 0 rfl ?_
  refine g_iload_n C dX12_fromStart_1 rfl 1 rfl ?_
  refine g_iload_n C dX12_fromStart_2 rfl 2 rfl ?_
  refine g_iconst C (v := (0 : Int32)) dX12_fromStart_3 (by decide) ?_
  refine g_callV C (n := 3) (ci := 11) [.int x1, .int x2, .int (0 : Int32)] [] (m_X12_at a0 x1 x2 (0 : Int32) S) dX12_fromStart_4 gX12_fromStart_X12_at rfl ⟨rfl, rfl⟩ (by decide +kernel) ⟨by decide, by decide⟩ ⟨by decide, by decide⟩ rfl (by decide) rfl rfl (by first | exact Nat.le_of_ble_eq_true rfl | simp [va_rf_cat, vi_cat, vl_cat]) (fun o1 eo1 => ?_)
  show G Γ cvI 4 0 0 7 [(0, va_rf a0), (1, .int x1), (2, .int x2)] [.int o1.1] o1.2 _
  refine g_istore_n C (lv2 := [(3, .int o1.1), (0, va_rf a0), (1, .int x1), (2, .int x2)]) dX12_fromStart_7 rfl (by decide) (by first | rfl | simp [va_rf_cat, vi_cat, vl_cat]) ?_
  refine g_iconst C (v := (0 : Int32)) dX12_fromStart_8 (by decide) ?_
  refine g_iconst C (v := (0 : Int32)) dX12_fromStart_9 (by decide) ?_
  refine g_aload_n C dX12_fromStart_10 rfl 1 rfl ?_
  refine g_getR C (ci := 11) (k := 7) dX12_fromStart_11 rfl (by decide) (by decide) (by decide) ulX12_fromStart_X12 flX12_fromStart_30 rfl (fun v2 ev2 => ?_)
  refine g_iload_n C dX12_fromStart_14 rfl 0 rfl ?_
  refine g_ild C dX12_fromStart_15 (fun v3 ev3 => ?_)
  refine g_aload_n C dX12_fromStart_16 rfl 1 rfl ?_
  refine g_getR C (ci := 11) (k := 8) dX12_fromStart_17 rfl (by decide) (by decide) (by decide) ulX12_fromStart_X12 flX12_fromStart_33 rfl (fun v4 ev4 => ?_)
  refine g_iload_n C dX12_fromStart_20 rfl 0 rfl ?_
  refine g_ild C dX12_fromStart_21 (fun v5 ev5 => ?_)
  refine g_callS C (n := 4) [.int (0 : Int32), .int (0 : Int32), .int v3, .int v5] [] (m_X12_way (0 : Int32) (0 : Int32) v3 v5 o1.2) dX12_fromStart_22 gX12_fromStart_X12_way rfl ⟨rfl, rfl⟩ (by decide +kernel) ⟨by decide, by decide⟩ ⟨by decide, by decide⟩ rfl rfl (by first | exact Nat.le_of_ble_eq_true rfl | simp [va_rf_cat, vi_cat, vl_cat]) (fun o6 eo6 => ?_)
  show G Γ cvI 4 0 0 25 [(3, .int o1.1), (0, va_rf a0), (1, .int x1), (2, .int x2)] [.int o6.1] o6.2 _
  exact g_iret C dX12_fromStart_25 ⟨by decide, by decide⟩
abbrev rmX12_toStart : Room := { frames := 2, cells := 0, slots := 0, locals := 45 }
theorem flX12_toStart_27 : Cond.fieldLink RX12 27 "LightLinesModel" "points" "[I" ∈ wsX12_toStart := by decide +kernel
theorem flX12_toStart_30 : Cond.fieldLink RX12 30 "LightLinesModel" "px" "[I" ∈ wsX12_toStart := by decide +kernel
theorem flX12_toStart_33 : Cond.fieldLink RX12 33 "LightLinesModel" "py" "[I" ∈ wsX12_toStart := by decide +kernel
set_option maxRecDepth 100000 in
theorem ulX12_toStart_X12 : ∀ w ∈ u_ws RX12 TX12 42, w ∈ wsX12_toStart := by decide +kernel
set_option maxHeartbeats 4000000 in
set_option maxRecDepth 100000 in
theorem m_X12_toStart (a0 : Option Nat) (x1 : Int32) (x2 : Int32) (S : St) : ∀ l D cy H0 o, f_X12_toStart a0 x1 x2 S = some o → Met l yX12_toStart wsX12_toStart rmX12_toStart (Pq D cy H0 [va_rf a0, .int x1, .int x2] S) (Qx D cy H0 (cvI o)) 0 0 (fun q => H0.size ≤ q) := by
  refine met_of (cc := cX12_toStart) (maxL := 4) (ret := (some .int)) [va_rf a0, .int x1, .int x2] [(0, va_rf a0), (1, .int x1), (2, .int x2)] (by decide) rfl rfl (by simp [lg_sl, va_rf_cat, vi_cat, vl_cat]) (by simp [lv_args, va_rf_cat, vi_cat, vl_cat]) (fun Γ C => ?_)
  unfold f_X12_toStart
  refine g_aload_n C dX12_toStart_0 rfl 0 rfl ?_
  refine g_iload_n C dX12_toStart_1 rfl 1 rfl ?_
  refine g_iload_n C dX12_toStart_2 rfl 2 rfl ?_
  refine g_aload_n C dX12_toStart_3 rfl 0 rfl ?_
  refine g_getR C (ci := 11) (k := 6) dX12_toStart_4 rfl (by decide) (by decide) (by decide) ulX12_toStart_X12 flX12_toStart_27 rfl (fun v1 ev1 => ?_)
  refine g_iload_n C dX12_toStart_7 rfl 1 rfl ?_
  refine g_ild C dX12_toStart_8 (fun v2 ev2 => ?_)
  refine g_iconst C (v := (1 : Int32)) dX12_toStart_9 (by decide) ?_
  refine g_isub C dX12_toStart_10 ?_
  refine g_callV C (n := 3) (ci := 11) [.int x1, .int x2, .int (v2 - (1 : Int32))] [] (m_X12_at a0 x1 x2 (v2 - (1 : Int32)) S) dX12_toStart_11 gX12_toStart_X12_at rfl ⟨rfl, rfl⟩ (by decide +kernel) ⟨by decide, by decide⟩ ⟨by decide, by decide⟩ rfl (by decide) rfl rfl (by first | exact Nat.le_of_ble_eq_true rfl | simp [va_rf_cat, vi_cat, vl_cat]) (fun o3 eo3 => ?_)
  show G Γ cvI 4 0 0 14 [(0, va_rf a0), (1, .int x1), (2, .int x2)] [.int o3.1] o3.2 _
  refine g_istore_n C (lv2 := [(3, .int o3.1), (0, va_rf a0), (1, .int x1), (2, .int x2)]) dX12_toStart_14 rfl (by decide) (by first | rfl | simp [va_rf_cat, vi_cat, vl_cat]) ?_
  refine g_aload_n C dX12_toStart_15 rfl 1 rfl ?_
  refine g_getR C (ci := 11) (k := 7) dX12_toStart_16 rfl (by decide) (by decide) (by decide) ulX12_toStart_X12 flX12_toStart_30 rfl (fun v4 ev4 => ?_)
  refine g_iload_n C dX12_toStart_19 rfl 0 rfl ?_
  refine g_ild C dX12_toStart_20 (fun v5 ev5 => ?_)
  refine g_aload_n C dX12_toStart_21 rfl 1 rfl ?_
  refine g_getR C (ci := 11) (k := 8) dX12_toStart_22 rfl (by decide) (by decide) (by decide) ulX12_toStart_X12 flX12_toStart_33 rfl (fun v6 ev6 => ?_)
  refine g_iload_n C dX12_toStart_25 rfl 0 rfl ?_
  refine g_ild C dX12_toStart_26 (fun v7 ev7 => ?_)
  refine g_iconst C (v := (0 : Int32)) dX12_toStart_27 (by decide) ?_
  refine g_iconst C (v := (0 : Int32)) dX12_toStart_28 (by decide) ?_
  refine g_callS C (n := 4) [.int v5, .int v7, .int (0 : Int32), .int (0 : Int32)] [] (m_X12_way v5 v7 (0 : Int32) (0 : Int32) o3.2) dX12_toStart_29 gX12_toStart_X12_way rfl ⟨rfl, rfl⟩ (by decide +kernel) ⟨by decide, by decide⟩ ⟨by decide, by decide⟩ rfl rfl (by first | exact Nat.le_of_ble_eq_true rfl | simp [va_rf_cat, vi_cat, vl_cat]) (fun o8 eo8 => ?_)
  show G Γ cvI 4 0 0 32 [(3, .int o3.1), (0, va_rf a0), (1, .int x1), (2, .int x2)] [.int o8.1] o8.2 _
  exact g_iret C dX12_toStart_32 ⟨by decide, by decide⟩
abbrev rmX12_between : Room := { frames := 2, cells := 0, slots := 0, locals := 45 }
theorem flX12_between_27 : Cond.fieldLink RX12 27 "LightLinesModel" "points" "[I" ∈ wsX12_between := by decide +kernel
theorem flX12_between_30 : Cond.fieldLink RX12 30 "LightLinesModel" "px" "[I" ∈ wsX12_between := by decide +kernel
theorem flX12_between_33 : Cond.fieldLink RX12 33 "LightLinesModel" "py" "[I" ∈ wsX12_between := by decide +kernel
set_option maxRecDepth 100000 in
theorem ulX12_between_X12 : ∀ w ∈ u_ws RX12 TX12 42, w ∈ wsX12_between := by decide +kernel
set_option maxHeartbeats 4000000 in
set_option maxRecDepth 100000 in
theorem m_X12_between (a0 : Option Nat) (x1 : Int32) (x2 : Int32) (x3 : Int32) (x4 : Int32) (S : St) : ∀ l D cy H0 o, f_X12_between a0 x1 x2 x3 x4 S = some o → Met l yX12_between wsX12_between rmX12_between (Pq D cy H0 [va_rf a0, .int x1, .int x2, .int x3, .int x4] S) (Qx D cy H0 (cvI o)) 0 0 (fun q => H0.size ≤ q) := by
  refine met_of (cc := cX12_between) (maxL := 7) (ret := (some .int)) [va_rf a0, .int x1, .int x2, .int x3, .int x4] [(0, va_rf a0), (1, .int x1), (2, .int x2), (3, .int x3), (4, .int x4)] (by decide) rfl rfl (by simp [lg_sl, va_rf_cat, vi_cat, vl_cat]) (by simp [lv_args, va_rf_cat, vi_cat, vl_cat]) (fun Γ C => ?_)
  unfold f_X12_between
  refine g_aload_n C dX12_between_0 rfl 0 rfl ?_
  refine g_iload_n C dX12_between_1 rfl 1 rfl ?_
  refine g_iload_n C dX12_between_2 rfl 2 rfl ?_
  refine g_aload_n C dX12_between_3 rfl 0 rfl ?_
  refine g_getR C (ci := 11) (k := 6) dX12_between_4 rfl (by decide) (by decide) (by decide) ulX12_between_X12 flX12_between_27 rfl (fun v1 ev1 => ?_)
  refine g_iload_n C dX12_between_7 rfl 1 rfl ?_
  refine g_ild C dX12_between_8 (fun v2 ev2 => ?_)
  refine g_iconst C (v := (1 : Int32)) dX12_between_9 (by decide) ?_
  refine g_isub C dX12_between_10 ?_
  refine g_callV C (n := 3) (ci := 11) [.int x1, .int x2, .int (v2 - (1 : Int32))] [] (m_X12_at a0 x1 x2 (v2 - (1 : Int32)) S) dX12_between_11 gX12_between_X12_at rfl ⟨rfl, rfl⟩ (by decide +kernel) ⟨by decide, by decide⟩ ⟨by decide, by decide⟩ rfl (by decide) rfl rfl (by first | exact Nat.le_of_ble_eq_true rfl | simp [va_rf_cat, vi_cat, vl_cat]) (fun o3 eo3 => ?_)
  show G Γ cvI 7 0 0 14 [(0, va_rf a0), (1, .int x1), (2, .int x2), (3, .int x3), (4, .int x4)] [.int o3.1] o3.2 _
  refine g_istore C (lv2 := [(5, .int o3.1), (0, va_rf a0), (1, .int x1), (2, .int x2), (3, .int x3), (4, .int x4)]) dX12_between_14 (by decide) (by first | rfl | simp [va_rf_cat, vi_cat, vl_cat]) ?_
  refine g_aload_n C dX12_between_16 rfl 1 rfl ?_
  refine g_iload_n C dX12_between_17 rfl 4 rfl ?_
  refine g_iload C dX12_between_18 5 rfl ?_
  refine g_iconst C (v := (0 : Int32)) dX12_between_20 (by decide) ?_
  refine g_callV C (n := 3) (ci := 11) [.int x3, .int x4, .int (0 : Int32)] [] (m_X12_at a0 x3 x4 (0 : Int32) o3.2) dX12_between_21 gX12_between_X12_at rfl ⟨rfl, rfl⟩ (by decide +kernel) ⟨by decide, by decide⟩ ⟨by decide, by decide⟩ rfl (by decide) rfl rfl (by first | exact Nat.le_of_ble_eq_true rfl | simp [va_rf_cat, vi_cat, vl_cat]) (fun o4 eo4 => ?_)
  show G Γ cvI 7 0 0 24 [(5, .int o3.1), (0, va_rf a0), (1, .int x1), (2, .int x2), (3, .int x3), (4, .int x4)] [.int o4.1] o4.2 _
  refine g_istore C (lv2 := [(6, .int o4.1), (5, .int o3.1), (0, va_rf a0), (1, .int x1), (2, .int x2), (3, .int x3), (4, .int x4)]) dX12_between_24 (by decide) (by first | rfl | simp [va_rf_cat, vi_cat, vl_cat]) ?_
  refine g_aload_n C dX12_between_26 rfl 2 rfl ?_
  refine g_getR C (ci := 11) (k := 7) dX12_between_27 rfl (by decide) (by decide) (by decide) ulX12_between_X12 flX12_between_30 rfl (fun v5 ev5 => ?_)
  refine g_iload C dX12_between_30 1 rfl ?_
  refine g_ild C dX12_between_32 (fun v6 ev6 => ?_)
  refine g_aload_n C dX12_between_33 rfl 2 rfl ?_
  refine g_getR C (ci := 11) (k := 8) dX12_between_34 rfl (by decide) (by decide) (by decide) ulX12_between_X12 flX12_between_33 rfl (fun v7 ev7 => ?_)
  refine g_iload C dX12_between_37 1 rfl ?_
  refine g_ild C dX12_between_39 (fun v8 ev8 => ?_)
  refine g_aload_n C dX12_between_40 rfl 2 rfl ?_
  refine g_getR C (ci := 11) (k := 7) dX12_between_41 rfl (by decide) (by decide) (by decide) ulX12_between_X12 flX12_between_30 rfl (fun v9 ev9 => ?_)
  refine g_iload C dX12_between_44 0 rfl ?_
  refine g_ild C dX12_between_46 (fun v10 ev10 => ?_)
  refine g_aload_n C dX12_between_47 rfl 2 rfl ?_
  refine g_getR C (ci := 11) (k := 8) dX12_between_48 rfl (by decide) (by decide) (by decide) ulX12_between_X12 flX12_between_33 rfl (fun v11 ev11 => ?_)
  refine g_iload C dX12_between_51 0 rfl ?_
  refine g_ild C dX12_between_53 (fun v12 ev12 => ?_)
  refine g_callS C (n := 4) [.int v6, .int v8, .int v10, .int v12] [] (m_X12_way v6 v8 v10 v12 o4.2) dX12_between_54 gX12_between_X12_way rfl ⟨rfl, rfl⟩ (by decide +kernel) ⟨by decide, by decide⟩ ⟨by decide, by decide⟩ rfl rfl (by first | exact Nat.le_of_ble_eq_true rfl | simp [va_rf_cat, vi_cat, vl_cat]) (fun o13 eo13 => ?_)
  show G Γ cvI 7 0 0 57 [(6, .int o4.1), (5, .int o3.1), (0, va_rf a0), (1, .int x1), (2, .int x2), (3, .int x3), (4, .int x4)] [.int o13.1] o13.2 _
  exact g_iret C dX12_between_57 ⟨by decide, by decide⟩
abbrev rmX12_dark : Room := { frames := 3, cells := 0, slots := 0, locals := 71 }
theorem flX12_dark_36 : Cond.fieldLink RX12 36 "LightLinesModel" "order" "[I" ∈ wsX12_dark := by decide +kernel
theorem flX12_dark_39 : Cond.fieldLink RX12 39 "LightLinesModel" "back" "[I" ∈ wsX12_dark := by decide +kernel
theorem flX12_dark_105 : Cond.fieldLink RX12 105 "LightLinesModel" "strokes" "I" ∈ wsX12_dark := by decide +kernel
set_option maxRecDepth 100000 in
theorem ulX12_dark_X12 : ∀ w ∈ u_ws RX12 TX12 42, w ∈ wsX12_dark := by decide +kernel
set_option maxHeartbeats 4000000 in
set_option maxRecDepth 100000 in
theorem t_X12_dark_95 {Γ : Cx} (C : CF Γ cX12_dark 3 (some .int) wsX12_dark RX12 rmX12_dark 0 0) (x1 : Int32) (S : St) : G Γ cvI 3 0 0 95 [(1, .int x1)] [] S (b_X12_dark_95  x1 S) := by
  unfold b_X12_dark_95
  refine g_iload_n C dX12_dark_95 rfl 0 rfl ?_
  exact g_iret C dX12_dark_96 ⟨by decide, by decide⟩
set_option maxHeartbeats 4000000 in
set_option maxRecDepth 100000 in
theorem t_X12_dark_46 {Γ : Cx} (C : CF Γ cX12_dark 3 (some .int) wsX12_dark RX12 rmX12_dark 0 0) : ∀ (n : Nat) (a0 : Option Nat) (x1 : Int32) (x2 : Int32) (S : St), G Γ cvI 3 0 0 46 [(0, va_rf a0), (1, .int x1), (2, .int x2)] [] S (b_X12_dark_46  n a0 x1 x2 S) := by
  intro n
  induction n with
  | zero => intro a0 x1 x2 S; exact g_none
  | succ n ih =>
    intro a0 x1 x2 S
    rw [b_X12_dark_46]
    refine g_iload_n C dX12_dark_46 rfl 2 rfl ?_
    refine g_aload_n C dX12_dark_47 rfl 0 rfl ?_
    refine g_getI C (ci := 11) (k := 5) dX12_dark_48 rfl (by decide) (by decide) (by decide) ulX12_dark_X12 flX12_dark_105 rfl (fun v1 ev1 => ?_)
    refine g_icmp_ge C (tgt := 95) dX12_dark_51 (by decide) (fun h2 => ?_) (fun h2 => ?_)
    · exact g_sub (lv2 := [(1, .int x1)]) [1] rfl (t_X12_dark_95 C x1 S)
    · refine g_iload_n C dX12_dark_54 rfl 1 rfl ?_
      refine g_aload_n C dX12_dark_55 rfl 0 rfl ?_
      refine g_aload_n C dX12_dark_56 rfl 0 rfl ?_
      refine g_getR C (ci := 11) (k := 9) dX12_dark_57 rfl (by decide) (by decide) (by decide) ulX12_dark_X12 flX12_dark_36 rfl (fun v3 ev3 => ?_)
      refine g_iload_n C dX12_dark_60 rfl 2 rfl ?_
      refine g_iconst C (v := (1 : Int32)) dX12_dark_61 (by decide) ?_
      refine g_isub C dX12_dark_62 ?_
      refine g_ild C dX12_dark_63 (fun v4 ev4 => ?_)
      refine g_aload_n C dX12_dark_64 rfl 0 rfl ?_
      refine g_getR C (ci := 11) (k := 10) dX12_dark_65 rfl (by decide) (by decide) (by decide) ulX12_dark_X12 flX12_dark_39 rfl (fun v5 ev5 => ?_)
      refine g_iload_n C dX12_dark_68 rfl 2 rfl ?_
      refine g_iconst C (v := (1 : Int32)) dX12_dark_69 (by decide) ?_
      refine g_isub C dX12_dark_70 ?_
      refine g_ild C dX12_dark_71 (fun v6 ev6 => ?_)
      refine g_aload_n C dX12_dark_72 rfl 0 rfl ?_
      refine g_getR C (ci := 11) (k := 9) dX12_dark_73 rfl (by decide) (by decide) (by decide) ulX12_dark_X12 flX12_dark_36 rfl (fun v7 ev7 => ?_)
      refine g_iload_n C dX12_dark_76 rfl 2 rfl ?_
      refine g_ild C dX12_dark_77 (fun v8 ev8 => ?_)
      refine g_aload_n C dX12_dark_78 rfl 0 rfl ?_
      refine g_getR C (ci := 11) (k := 10) dX12_dark_79 rfl (by decide) (by decide) (by decide) ulX12_dark_X12 flX12_dark_39 rfl (fun v9 ev9 => ?_)
      refine g_iload_n C dX12_dark_82 rfl 2 rfl ?_
      refine g_ild C dX12_dark_83 (fun v10 ev10 => ?_)
      refine g_callV C (n := 4) (ci := 11) [.int v4, .int v6, .int v8, .int v10] [.int x1] (m_X12_between a0 v4 v6 v8 v10 S) dX12_dark_84 gX12_dark_X12_between rfl ⟨rfl, rfl⟩ (by decide +kernel) ⟨by decide, by decide⟩ ⟨by decide, by decide⟩ rfl (by decide) rfl rfl (by first | exact Nat.le_of_ble_eq_true rfl | simp [va_rf_cat, vi_cat, vl_cat]) (fun o11 eo11 => ?_)
      show G Γ cvI 3 0 0 87 [(0, va_rf a0), (1, .int x1), (2, .int x2)] [.int o11.1, .int x1] o11.2 _
      refine g_iadd C dX12_dark_87 ?_
      refine g_topi (fun y12 => ?_)
      refine g_istore_n C (lv2 := [(1, .int y12), (0, va_rf a0), (2, .int x2)]) dX12_dark_88 rfl (by decide) (by first | rfl | simp [va_rf_cat, vi_cat, vl_cat]) ?_
      refine g_iinc1 C dX12_dark_89 2 rfl (by decide) (by decide) (fun y13 => ?_)
      refine g_lveq (lv2 := [(2, .int y13), (1, .int y12), (0, va_rf a0)]) (by first | rfl | simp [va_rf_cat, vi_cat, vl_cat]) ?_
      refine g_goto C (tgt := 46) dX12_dark_92 (by decide) ?_
      exact g_sub (lv2 := [(0, va_rf a0), (1, .int y12), (2, .int y13)]) [2, 1, 0] rfl (ih a0 y12 y13 o11.2)
set_option maxHeartbeats 4000000 in
set_option maxRecDepth 100000 in
theorem m_X12_dark (a0 : Option Nat) (S : St) : ∀ l D cy H0 o, f_X12_dark a0 S = some o → Met l yX12_dark wsX12_dark rmX12_dark (Pq D cy H0 [va_rf a0] S) (Qx D cy H0 (cvI o)) 0 0 (fun q => H0.size ≤ q) := by
  refine met_of (cc := cX12_dark) (maxL := 3) (ret := (some .int)) [va_rf a0] [(0, va_rf a0)] (by decide) rfl rfl (by simp [lg_sl, va_rf_cat, vi_cat, vl_cat]) (by simp [lv_args, va_rf_cat, vi_cat, vl_cat]) (fun Γ C => ?_)
  unfold f_X12_dark
  refine g_aload_n C dX12_dark_0 rfl 0 rfl ?_
  refine g_aload_n C dX12_dark_1 rfl 0 rfl ?_
  refine g_getR C (ci := 11) (k := 9) dX12_dark_2 rfl (by decide) (by decide) (by decide) ulX12_dark_X12 flX12_dark_36 rfl (fun v1 ev1 => ?_)
  refine g_iconst C (v := (0 : Int32)) dX12_dark_5 (by decide) ?_
  refine g_ild C dX12_dark_6 (fun v2 ev2 => ?_)
  refine g_aload_n C dX12_dark_7 rfl 0 rfl ?_
  refine g_getR C (ci := 11) (k := 10) dX12_dark_8 rfl (by decide) (by decide) (by decide) ulX12_dark_X12 flX12_dark_39 rfl (fun v3 ev3 => ?_)
  refine g_iconst C (v := (0 : Int32)) dX12_dark_11 (by decide) ?_
  refine g_ild C dX12_dark_12 (fun v4 ev4 => ?_)
  refine g_callV C (n := 2) (ci := 11) [.int v2, .int v4] [] (m_X12_fromStart a0 v2 v4 S) dX12_dark_13 gX12_dark_X12_fromStart rfl ⟨rfl, rfl⟩ (by decide +kernel) ⟨by decide, by decide⟩ ⟨by decide, by decide⟩ rfl (by decide) rfl rfl (by first | exact Nat.le_of_ble_eq_true rfl | simp [va_rf_cat, vi_cat, vl_cat]) (fun o5 eo5 => ?_)
  show G Γ cvI 3 0 0 16 [(0, va_rf a0)] [.int o5.1] o5.2 _
  refine g_aload_n C dX12_dark_16 rfl 0 rfl ?_
  refine g_aload_n C dX12_dark_17 rfl 0 rfl ?_
  refine g_getR C (ci := 11) (k := 9) dX12_dark_18 rfl (by decide) (by decide) (by decide) ulX12_dark_X12 flX12_dark_36 rfl (fun v6 ev6 => ?_)
  refine g_aload_n C dX12_dark_21 rfl 0 rfl ?_
  refine g_getI C (ci := 11) (k := 5) dX12_dark_22 rfl (by decide) (by decide) (by decide) ulX12_dark_X12 flX12_dark_105 rfl (fun v7 ev7 => ?_)
  refine g_iconst C (v := (1 : Int32)) dX12_dark_25 (by decide) ?_
  refine g_isub C dX12_dark_26 ?_
  refine g_ild C dX12_dark_27 (fun v8 ev8 => ?_)
  refine g_aload_n C dX12_dark_28 rfl 0 rfl ?_
  refine g_getR C (ci := 11) (k := 10) dX12_dark_29 rfl (by decide) (by decide) (by decide) ulX12_dark_X12 flX12_dark_39 rfl (fun v9 ev9 => ?_)
  refine g_aload_n C dX12_dark_32 rfl 0 rfl ?_
  refine g_getI C (ci := 11) (k := 5) dX12_dark_33 rfl (by decide) (by decide) (by decide) ulX12_dark_X12 flX12_dark_105 rfl (fun v10 ev10 => ?_)
  refine g_iconst C (v := (1 : Int32)) dX12_dark_36 (by decide) ?_
  refine g_isub C dX12_dark_37 ?_
  refine g_ild C dX12_dark_38 (fun v11 ev11 => ?_)
  refine g_callV C (n := 2) (ci := 11) [.int v8, .int v11] [.int o5.1] (m_X12_toStart a0 v8 v11 o5.2) dX12_dark_39 gX12_dark_X12_toStart rfl ⟨rfl, rfl⟩ (by decide +kernel) ⟨by decide, by decide⟩ ⟨by decide, by decide⟩ rfl (by decide) rfl rfl (by first | exact Nat.le_of_ble_eq_true rfl | simp [va_rf_cat, vi_cat, vl_cat]) (fun o12 eo12 => ?_)
  show G Γ cvI 3 0 0 42 [(0, va_rf a0)] [.int o12.1, .int o5.1] o12.2 _
  refine g_iadd C dX12_dark_42 ?_
  refine g_topi (fun y13 => ?_)
  refine g_istore_n C (lv2 := [(1, .int y13), (0, va_rf a0)]) dX12_dark_43 rfl (by decide) (by first | rfl | simp [va_rf_cat, vi_cat, vl_cat]) ?_
  refine g_iconst C (v := (1 : Int32)) dX12_dark_44 (by decide) ?_
  refine g_istore_n C (lv2 := [(2, .int (1 : Int32)), (1, .int y13), (0, va_rf a0)]) dX12_dark_45 rfl (by decide) (by first | rfl | simp [va_rf_cat, vi_cat, vl_cat]) ?_
  exact g_sub (lv2 := [(0, va_rf a0), (1, .int y13), (2, .int (1 : Int32))]) [2, 1, 0] rfl (t_X12_dark_46 C FU a0 y13 (1 : Int32) o12.2)
