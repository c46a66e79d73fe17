abbrev rmX12_plan : Room := { frames := 4, cells := 0, slots := 0, locals := 93 }
theorem flX12_plan_1 : Cond.fieldLink RX12 1 "LightLinesModel" "thrown" "I" ∈ wsX12_plan := by decide +kernel
theorem flX12_plan_7 : Cond.fieldLink RX12 7 "LightLinesModel" "status" "I" ∈ wsX12_plan := by decide +kernel
theorem flX12_plan_17 : Cond.fieldLink RX12 17 "LightLinesModel" "lane" "[I" ∈ wsX12_plan := by decide +kernel
theorem flX12_plan_21 : Cond.fieldLink RX12 21 "LightLinesModel" "many" "[I" ∈ wsX12_plan := by decide +kernel
theorem flX12_plan_24 : Cond.fieldLink RX12 24 "LightLinesModel" "item" "[I" ∈ wsX12_plan := by decide +kernel
theorem flX12_plan_36 : Cond.fieldLink RX12 36 "LightLinesModel" "order" "[I" ∈ wsX12_plan := by decide +kernel
theorem flX12_plan_39 : Cond.fieldLink RX12 39 "LightLinesModel" "back" "[I" ∈ wsX12_plan := by decide +kernel
theorem flX12_plan_105 : Cond.fieldLink RX12 105 "LightLinesModel" "strokes" "I" ∈ wsX12_plan := by decide +kernel
set_option maxRecDepth 100000 in
theorem ulX12_plan_X12 : ∀ w ∈ u_ws RX12 TX12 42, w ∈ wsX12_plan := by decide +kernel
set_option maxHeartbeats 4000000 in
set_option maxRecDepth 100000 in
theorem t_X12_plan_65 {Γ : Cx} (C : CF Γ cX12_plan 6 (some .int) wsX12_plan RX12 rmX12_plan 0 0) (a0 : Option Nat) (S : St) : G Γ cvI 6 0 0 65 [(0, va_rf a0)] [] S (b_X12_plan_65  a0 S) := by
  unfold b_X12_plan_65
  refine g_aload_n C dX12_plan_65 rfl 0 rfl ?_
  refine g_iconst C (v := (2 : Int32)) dX12_plan_66 (by decide) ?_
  refine g_callV C (n := 1) (ci := 11) [.int (2 : Int32)] [] (m_X12_found a0 (2 : Int32) S) dX12_plan_67 gX12_plan_X12_found rfl ⟨rfl, rfl⟩ (by decide +kernel) ⟨by decide, by decide⟩ ⟨by decide, by decide⟩ rfl (by decide) rfl rfl (by first | exact Nat.le_of_ble_eq_true rfl | simp [va_rf_cat, vi_cat, vl_cat]) (fun o1 eo1 => ?_)
  show G Γ cvI 6 0 0 70 [(0, va_rf a0)] [.int o1.1] o1.2 _
  exact g_iret C dX12_plan_70 ⟨by decide, by decide⟩
set_option maxHeartbeats 4000000 in
set_option maxRecDepth 100000 in
theorem t_X12_plan_236 {Γ : Cx} (C : CF Γ cX12_plan 6 (some .int) wsX12_plan RX12 rmX12_plan 0 0) (a0 : Option Nat) (S : St) : G Γ cvI 6 0 0 236 [(0, va_rf a0)] [] S (b_X12_plan_236  a0 S) := by
  unfold b_X12_plan_236
  refine g_aload_n C dX12_plan_236 rfl 0 rfl ?_
  refine g_callV C (n := 0) (ci := 11) [] [] (m_X12_dark a0 S) dX12_plan_237 gX12_plan_X12_dark rfl ⟨rfl, rfl⟩ (by decide +kernel) ⟨by decide, by decide⟩ ⟨by decide, by decide⟩ rfl (by decide) rfl rfl (by first | exact Nat.le_of_ble_eq_true rfl | simp [va_rf_cat, vi_cat, vl_cat]) (fun o1 eo1 => ?_)
  show G Γ cvI 6 0 0 240 [(0, va_rf a0)] [.int o1.1] o1.2 _
  exact g_iret C dX12_plan_240 ⟨by decide, by decide⟩
set_option maxHeartbeats 4000000 in
set_option maxRecDepth 100000 in
theorem t_X12_plan_173 {Γ : Cx} (C : CF Γ cX12_plan 6 (some .int) wsX12_plan RX12 rmX12_plan 0 0) : ∀ (n : Nat) (a0 : Option Nat) (x1 : Int32) (x2 : Int32) (x4 : Int32) (S : St), G Γ cvI 6 0 0 173 [(0, va_rf a0), (1, .int x1), (2, .int x2), (4, .int x4)] [] S (b_X12_plan_173  n a0 x1 x2 x4 S) := by
  intro n
  induction n with
  | zero => intro a0 x1 x2 x4 S; exact g_none
  | succ n ih =>
    intro a0 x1 x2 x4 S
    rw [b_X12_plan_173]
    refine g_iload C dX12_plan_173 3 rfl ?_
    refine g_aload_n C dX12_plan_175 rfl 0 rfl ?_
    refine g_getI C (ci := 11) (k := 5) dX12_plan_176 rfl (by decide) (by decide) (by decide) ulX12_plan_X12 flX12_plan_105 rfl (fun v1 ev1 => ?_)
    refine g_icmp_ge C (tgt := 236) dX12_plan_179 (by decide) (fun h2 => ?_) (fun h2 => ?_)
    · exact g_sub (lv2 := [(0, va_rf a0)]) [0] rfl (t_X12_plan_236 C a0 S)
    · refine g_aload_n C dX12_plan_182 rfl 0 rfl ?_
      refine g_getR C (ci := 11) (k := 9) dX12_plan_183 rfl (by decide) (by decide) (by decide) ulX12_plan_X12 flX12_plan_36 rfl (fun v3 ev3 => ?_)
      refine g_iload C dX12_plan_186 3 rfl ?_
      refine g_aload_n C dX12_plan_188 rfl 0 rfl ?_
      refine g_getR C (ci := 11) (k := 4) dX12_plan_189 rfl (by decide) (by decide) (by decide) ulX12_plan_X12 flX12_plan_24 rfl (fun v4 ev4 => ?_)
      refine g_bipush C (v := (40 : Int32)) dX12_plan_192 (by decide) ?_
      refine g_iload_n C dX12_plan_194 rfl 1 rfl ?_
      refine g_imul C dX12_plan_195 ?_
      refine g_iload_n C dX12_plan_196 rfl 2 rfl ?_
      refine g_iadd C dX12_plan_197 ?_
      refine g_iconst C (v := (2 : Int32)) dX12_plan_198 (by decide) ?_
      refine g_iload C dX12_plan_199 3 rfl ?_
      refine g_imul C dX12_plan_201 ?_
      refine g_iadd C dX12_plan_202 ?_
      refine g_ild C dX12_plan_203 (fun v5 ev5 => ?_)
      refine g_ist C dX12_plan_204 (fun S6 eS6 => ?_)
      refine g_aload_n C dX12_plan_205 rfl 0 rfl ?_
      refine g_getR C (ci := 11) (k := 10) dX12_plan_206 rfl (by decide) (by decide) (by decide) ulX12_plan_X12 flX12_plan_39 rfl (fun v7 ev7 => ?_)
      refine g_iload C dX12_plan_209 3 rfl ?_
      refine g_aload_n C dX12_plan_211 rfl 0 rfl ?_
      refine g_getR C (ci := 11) (k := 4) dX12_plan_212 rfl (by decide) (by decide) (by decide) ulX12_plan_X12 flX12_plan_24 rfl (fun v8 ev8 => ?_)
      refine g_bipush C (v := (40 : Int32)) dX12_plan_215 (by decide) ?_
      refine g_iload_n C dX12_plan_217 rfl 1 rfl ?_
      refine g_imul C dX12_plan_218 ?_
      refine g_iload_n C dX12_plan_219 rfl 2 rfl ?_
      refine g_iadd C dX12_plan_220 ?_
      refine g_iconst C (v := (2 : Int32)) dX12_plan_221 (by decide) ?_
      refine g_iload C dX12_plan_222 3 rfl ?_
      refine g_imul C dX12_plan_224 ?_
      refine g_iadd C dX12_plan_225 ?_
      refine g_iconst C (v := (1 : Int32)) dX12_plan_226 (by decide) ?_
      refine g_iadd C dX12_plan_227 ?_
      refine g_ild C dX12_plan_228 (fun v9 ev9 => ?_)
      refine g_ist C dX12_plan_229 (fun S10 eS10 => ?_)
      refine g_iinc1 C dX12_plan_230 3 rfl (by decide) (by decide) (fun y11 => ?_)
      refine g_lveq (lv2 := [(4, .int y11), (0, va_rf a0), (1, .int x1), (2, .int x2)]) (by first | rfl | simp [va_rf_cat, vi_cat, vl_cat]) ?_
      refine g_goto C (tgt := 173) dX12_plan_233 (by decide) ?_
      exact g_sub (lv2 := [(0, va_rf a0), (1, .int x1), (2, .int x2), (4, .int y11)]) [1, 2, 3, 0] rfl (ih a0 x1 x2 y11 S10)
set_option maxHeartbeats 4000000 in
set_option maxRecDepth 100000 in
theorem t_X12_plan_165 {Γ : Cx} (C : CF Γ cX12_plan 6 (some .int) wsX12_plan RX12 rmX12_plan 0 0) (a0 : Option Nat) (x1 : Int32) (x2 : Int32) (S : St) : G Γ cvI 6 0 0 165 [(0, va_rf a0), (1, .int x1), (2, .int x2)] [] S (b_X12_plan_165  a0 x1 x2 S) := by
  unfold b_X12_plan_165
  refine g_aload_n C dX12_plan_165 rfl 0 rfl ?_
  refine g_iconst C (v := (0 : Int32)) dX12_plan_166 (by decide) ?_
  refine g_putI C (ci := 11) (k := 1) (ty0 := tyX12) dX12_plan_167 rfl (by decide) (by decide) (by decide) tyX12_ok nmX12 ulX12_plan_X12 flX12_plan_7 rfl rfl ⟨rfl, rfl⟩ (fun S1 eS1 => ?_)
  refine g_iconst C (v := (0 : Int32)) dX12_plan_170 (by decide) ?_
  refine g_istore C (lv2 := [(4, .int (0 : Int32)), (0, va_rf a0), (1, .int x1), (2, .int x2)]) dX12_plan_171 (by decide) (by first | rfl | simp [va_rf_cat, vi_cat, vl_cat]) ?_
  exact g_sub (lv2 := [(0, va_rf a0), (1, .int x1), (2, .int x2), (4, .int (0 : Int32))]) [1, 2, 3, 0] rfl (t_X12_plan_173 C FU a0 x1 x2 (0 : Int32) S1)
set_option maxHeartbeats 4000000 in
set_option maxRecDepth 100000 in
theorem t_X12_plan_76 {Γ : Cx} (C : CF Γ cX12_plan 6 (some .int) wsX12_plan RX12 rmX12_plan 0 0) : ∀ (n : Nat) (a0 : Option Nat) (x1 : Int32) (x2 : Int32) (x3 : Int32) (x4 : Int32) (S : St), G Γ cvI 6 0 0 76 [(0, va_rf a0), (1, .int x1), (2, .int x2), (3, .int x3), (4, .int x4)] [] S (b_X12_plan_76  n a0 x1 x2 x3 x4 S) := by
  intro n
  induction n with
  | zero => intro a0 x1 x2 x3 x4 S; exact g_none
  | succ n ih =>
    intro a0 x1 x2 x3 x4 S
    rw [b_X12_plan_76]
    refine g_iload C dX12_plan_76 4 rfl ?_
    refine g_aload_n C dX12_plan_78 rfl 0 rfl ?_
    refine g_getI C (ci := 11) (k := 5) dX12_plan_79 rfl (by decide) (by decide) (by decide) ulX12_plan_X12 flX12_plan_105 rfl (fun v1 ev1 => ?_)
    refine g_icmp_ge C (tgt := 165) dX12_plan_82 (by decide) (fun h2 => ?_) (fun h2 => ?_)
    · exact g_sub (lv2 := [(0, va_rf a0), (1, .int x1), (2, .int x2)]) [0, 1, 2] rfl (t_X12_plan_165 C a0 x1 x2 S)
    · refine g_aload_n C dX12_plan_85 rfl 0 rfl ?_
      refine g_getR C (ci := 11) (k := 4) dX12_plan_86 rfl (by decide) (by decide) (by decide) ulX12_plan_X12 flX12_plan_24 rfl (fun v3 ev3 => ?_)
      refine g_bipush C (v := (40 : Int32)) dX12_plan_89 (by decide) ?_
      refine g_iload_n C dX12_plan_91 rfl 1 rfl ?_
      refine g_imul C dX12_plan_92 ?_
      refine g_iload_n C dX12_plan_93 rfl 2 rfl ?_
      refine g_iadd C dX12_plan_94 ?_
      refine g_iconst C (v := (2 : Int32)) dX12_plan_95 (by decide) ?_
      refine g_iload C dX12_plan_96 4 rfl ?_
      refine g_imul C dX12_plan_98 ?_
      refine g_iadd C dX12_plan_99 ?_
      refine g_ild C dX12_plan_100 (fun v4 ev4 => ?_)
      refine g_istore C (lv2 := [(5, .int v4), (0, va_rf a0), (1, .int x1), (2, .int x2), (3, .int x3), (4, .int x4)]) dX12_plan_101 (by decide) (by first | rfl | simp [va_rf_cat, vi_cat, vl_cat]) ?_
      refine g_aload_n C dX12_plan_103 rfl 1 rfl ?_
      refine g_iload C dX12_plan_104 0 rfl ?_
      refine g_callV C (n := 1) (ci := 11) [.int v4] [] (m_X12_isStroke a0 v4 S) dX12_plan_106 gX12_plan_X12_isStroke rfl ⟨rfl, rfl⟩ (by decide +kernel) ⟨by decide, by decide⟩ ⟨by decide, by decide⟩ rfl (by decide) rfl rfl (by first | exact Nat.le_of_ble_eq_true rfl | simp [va_rf_cat, vi_cat, vl_cat]) (fun o5 eo5 => ?_)
      show G Γ cvI 6 0 0 109 [(5, .int v4), (0, va_rf a0), (1, .int x1), (2, .int x2), (3, .int x3), (4, .int x4)] [.int o5.1] o5.2 _
      refine g_if_eq C (tgt := 149) dX12_plan_109 (by decide) (fun h6 => ?_) (fun h6 => ?_)
      · refine g_ldc C (v := (-1000001 : Int32)) dX12_plan_149 (by decide +kernel) ?_
        exact g_iret C dX12_plan_151 ⟨by decide, by decide⟩
      · refine g_iload_n C dX12_plan_112 rfl 4 rfl ?_
        refine g_iload C dX12_plan_113 0 rfl ?_
        refine g_ishr C dX12_plan_115 ?_
        refine g_iconst C (v := (1 : Int32)) dX12_plan_116 (by decide) ?_
        refine g_iand C dX12_plan_117 ?_
        refine g_iconst C (v := (1 : Int32)) dX12_plan_118 (by decide) ?_
        refine g_icmp_eq C (tgt := 149) dX12_plan_119 (by decide) (fun h7 => ?_) (fun h7 => ?_)
        · refine g_ldc C (v := (-1000001 : Int32)) dX12_plan_149 (by decide +kernel) ?_
          exact g_iret C dX12_plan_151 ⟨by decide, by decide⟩
        · refine g_aload_n C dX12_plan_122 rfl 1 rfl ?_
          refine g_getR C (ci := 11) (k := 4) dX12_plan_123 rfl (by decide) (by decide) (by decide) ulX12_plan_X12 flX12_plan_24 rfl (fun v8 ev8 => ?_)
          refine g_bipush C (v := (40 : Int32)) dX12_plan_126 (by decide) ?_
          refine g_iload_n C dX12_plan_128 rfl 2 rfl ?_
          refine g_imul C dX12_plan_129 ?_
          refine g_iload_n C dX12_plan_130 rfl 3 rfl ?_
          refine g_iadd C dX12_plan_131 ?_
          refine g_iconst C (v := (2 : Int32)) dX12_plan_132 (by decide) ?_
          refine g_iload C dX12_plan_133 5 rfl ?_
          refine g_imul C dX12_plan_135 ?_
          refine g_iadd C dX12_plan_136 ?_
          refine g_iconst C (v := (1 : Int32)) dX12_plan_137 (by decide) ?_
          refine g_iadd C dX12_plan_138 ?_
          refine g_ild C dX12_plan_139 (fun v9 ev9 => ?_)
          refine g_i2l C dX12_plan_140 ?_
          refine g_lconst C (v := (0 : Int64)) dX12_plan_141 (by decide) ?_
          refine g_lconst C (v := (1 : Int64)) dX12_plan_142 (by decide) ?_
          refine g_callS C (n := 3) [.long v9.toInt64, .long (0 : Int64), .long (1 : Int64)] [] (m_X12_in v9.toInt64 (0 : Int64) (1 : Int64) o5.2) dX12_plan_143 gX12_plan_X12_in rfl ⟨rfl, rfl⟩ (by decide +kernel) ⟨by decide, by decide⟩ ⟨by decide, by decide⟩ rfl rfl (by first | exact Nat.le_of_ble_eq_true rfl | simp [va_rf_cat, vi_cat, vl_cat]) (fun o10 eo10 => ?_)
          show G Γ cvI 6 0 0 146 [(5, .int v4), (0, va_rf a0), (1, .int x1), (2, .int x2), (3, .int x3), (4, .int x4)] [.int o10.1] o10.2 _
          refine g_if_ne C (tgt := 152) dX12_plan_146 (by decide) (fun h11 => ?_) (fun h11 => ?_)
          · refine g_ldc C (v := (-1000001 : Int32)) dX12_plan_149 (by decide +kernel) ?_
            exact g_iret C dX12_plan_151 ⟨by decide, by decide⟩
          · refine g_iload_n C dX12_plan_152 rfl 4 rfl ?_
            refine g_iconst C (v := (1 : Int32)) dX12_plan_153 (by decide) ?_
            refine g_iload C dX12_plan_154 0 rfl ?_
            refine g_ishl C dX12_plan_156 ?_
            refine g_ior C dX12_plan_157 ?_
            refine g_topi (fun y12 => ?_)
            refine g_istore_n C (lv2 := [(3, .int y12), (5, .int v4), (0, va_rf a0), (1, .int x1), (2, .int x2), (4, .int x4)]) dX12_plan_158 rfl (by decide) (by first | rfl | simp [va_rf_cat, vi_cat, vl_cat]) ?_
            refine g_iinc1 C dX12_plan_159 5 rfl (by decide) (by decide) (fun y13 => ?_)
            refine g_lveq (lv2 := [(4, .int y13), (3, .int y12), (5, .int v4), (0, va_rf a0), (1, .int x1), (2, .int x2)]) (by first | rfl | simp [va_rf_cat, vi_cat, vl_cat]) ?_
            refine g_goto C (tgt := 76) dX12_plan_162 (by decide) ?_
            exact g_sub (lv2 := [(0, va_rf a0), (1, .int x1), (2, .int x2), (3, .int y12), (4, .int y13)]) [3, 4, 5, 1, 0] rfl (ih a0 x1 x2 y12 y13 o10.2)
set_option maxHeartbeats 4000000 in
set_option maxRecDepth 100000 in
theorem m_X12_plan (a0 : Option Nat) (x1 : Int32) (x2 : Int32) (S : St) : ∀ l D cy H0 o, f_X12_plan a0 x1 x2 S = some o → Met l yX12_plan wsX12_plan rmX12_plan (Pq D cy H0 [va_rf a0, .int x1, .int x2] S) (Qx D cy H0 (cvI o)) 0 0 (fun q => H0.size ≤ q) := by
  refine met_of (cc := cX12_plan) (maxL := 6) (ret := (some .int)) [va_rf a0, .int x1, .int x2] [(0, va_rf a0), (1, .int x1), (2, .int x2)] (by decide) rfl rfl (by simp [lg_sl, va_rf_cat, vi_cat, vl_cat]) (by simp [lv_args, va_rf_cat, vi_cat, vl_cat]) (fun Γ C => ?_)
  unfold f_X12_plan
  refine g_aload_n C dX12_plan_0 rfl 0 rfl ?_
  refine g_iconst C (v := (0 : Int32)) dX12_plan_1 (by decide) ?_
  refine g_putI C (ci := 11) (k := 0) (ty0 := tyX12) dX12_plan_2 rfl (by decide) (by decide) (by decide) tyX12_ok nmX12 ulX12_plan_X12 flX12_plan_1 rfl rfl ⟨rfl, rfl⟩ (fun S1 eS1 => ?_)
  refine g_iload_n C dX12_plan_5 rfl 1 rfl ?_
  refine g_callS C (n := 1) [.int x1] [] (m_X12_isSheet x1 S1) dX12_plan_6 gX12_plan_X12_isSheet rfl ⟨rfl, rfl⟩ (by decide +kernel) ⟨by decide, by decide⟩ ⟨by decide, by decide⟩ rfl rfl (by first | exact Nat.le_of_ble_eq_true rfl | simp [va_rf_cat, vi_cat, vl_cat]) (fun o2 eo2 => ?_)
  show G Γ cvI 6 0 0 9 [(0, va_rf a0), (1, .int x1), (2, .int x2)] [.int o2.1] o2.2 _
  refine g_if_ne C (tgt := 15) dX12_plan_9 (by decide) (fun h3 => ?_) (fun h3 => ?_)
  · refine g_ldc C (v := (-1000001 : Int32)) dX12_plan_12 (by decide +kernel) ?_
    exact g_iret C dX12_plan_14 ⟨by decide, by decide⟩
  · refine g_aload_n C dX12_plan_15 rfl 0 rfl ?_
    refine g_getI C (ci := 11) (k := 5) dX12_plan_16 rfl (by decide) (by decide) (by decide) ulX12_plan_X12 flX12_plan_105 rfl (fun v4 ev4 => ?_)
    refine g_if_ne C (tgt := 25) dX12_plan_19 (by decide) (fun h5 => ?_) (fun h5 => ?_)
    · refine g_ldc C (v := (-1000002 : Int32)) dX12_plan_22 (by decide +kernel) ?_
      exact g_iret C dX12_plan_24 ⟨by decide, by decide⟩
    · refine g_aload_n C dX12_plan_25 rfl 0 rfl ?_
      refine g_getR C (ci := 11) (k := 2) dX12_plan_26 rfl (by decide) (by decide) (by decide) ulX12_plan_X12 flX12_plan_17 rfl (fun v6 ev6 => ?_)
      refine g_iload_n C dX12_plan_29 rfl 1 rfl ?_
      refine g_ild C dX12_plan_30 (fun v7 ev7 => ?_)
      refine g_if_ge C (tgt := 40) dX12_plan_31 (by decide) (fun h8 => ?_) (fun h8 => ?_)
      · refine g_iload_n C dX12_plan_40 rfl 2 rfl ?_
        refine g_if_lt C (tgt := 65) dX12_plan_41 (by decide) (fun h9 => ?_) (fun h9 => ?_)
        · exact g_sub (lv2 := [(0, va_rf a0)]) [0] rfl (t_X12_plan_65 C a0 o2.2)
        · refine g_iload_n C dX12_plan_44 rfl 2 rfl ?_
          refine g_i2l C dX12_plan_45 ?_
          refine g_iconst C (v := (2 : Int32)) dX12_plan_46 (by decide) ?_
          refine g_aload_n C dX12_plan_47 rfl 0 rfl ?_
          refine g_getI C (ci := 11) (k := 5) dX12_plan_48 rfl (by decide) (by decide) (by decide) ulX12_plan_X12 flX12_plan_105 rfl (fun v10 ev10 => ?_)
          refine g_imul C dX12_plan_51 ?_
          refine g_i2l C dX12_plan_52 ?_
          refine g_ladd C dX12_plan_53 ?_
          refine g_aload_n C dX12_plan_54 rfl 0 rfl ?_
          refine g_getR C (ci := 11) (k := 3) dX12_plan_55 rfl (by decide) (by decide) (by decide) ulX12_plan_X12 flX12_plan_21 rfl (fun v11 ev11 => ?_)
          refine g_iload_n C dX12_plan_58 rfl 1 rfl ?_
          refine g_ild C dX12_plan_59 (fun v12 ev12 => ?_)
          refine g_i2l C dX12_plan_60 ?_
          refine g_lcmp C dX12_plan_61 ?_
          refine g_if_le C (tgt := 71) dX12_plan_62 (by decide) (fun h13 => ?_) (fun h13 => ?_)
          · refine g_iconst C (v := (0 : Int32)) dX12_plan_71 (by decide) ?_
            refine g_istore_n C (lv2 := [(3, .int (0 : Int32)), (0, va_rf a0), (1, .int x1), (2, .int x2)]) dX12_plan_72 rfl (by decide) (by first | rfl | simp [va_rf_cat, vi_cat, vl_cat]) ?_
            refine g_iconst C (v := (0 : Int32)) dX12_plan_73 (by decide) ?_
            refine g_istore C (lv2 := [(4, .int (0 : Int32)), (3, .int (0 : Int32)), (0, va_rf a0), (1, .int x1), (2, .int x2)]) dX12_plan_74 (by decide) (by first | rfl | simp [va_rf_cat, vi_cat, vl_cat]) ?_
            exact g_sub (lv2 := [(0, va_rf a0), (1, .int x1), (2, .int x2), (3, .int (0 : Int32)), (4, .int (0 : Int32))]) [2, 3, 4, 1, 0] rfl (t_X12_plan_76 C FU a0 x1 x2 (0 : Int32) (0 : Int32) o2.2)
          · exact g_sub (lv2 := [(0, va_rf a0)]) [0] rfl (t_X12_plan_65 C a0 o2.2)
      · refine g_aload_n C dX12_plan_34 rfl 0 rfl ?_
        refine g_iconst C (v := (1 : Int32)) dX12_plan_35 (by decide) ?_
        refine g_callV C (n := 1) (ci := 11) [.int (1 : Int32)] [] (m_X12_found a0 (1 : Int32) o2.2) dX12_plan_36 gX12_plan_X12_found rfl ⟨rfl, rfl⟩ (by decide +kernel) ⟨by decide, by decide⟩ ⟨by decide, by decide⟩ rfl (by decide) rfl rfl (by first | exact Nat.le_of_ble_eq_true rfl | simp [va_rf_cat, vi_cat, vl_cat]) (fun o14 eo14 => ?_)
        show G Γ cvI 6 0 0 39 [(0, va_rf a0), (1, .int x1), (2, .int x2)] [.int o14.1] o14.2 _
        exact g_iret C dX12_plan_39 ⟨by decide, by decide⟩
