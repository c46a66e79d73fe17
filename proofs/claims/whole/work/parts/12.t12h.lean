abbrev rmX12_step : Room := { frames := 1, cells := 0, slots := 0, locals := 21 }
theorem flX12_step_198 : Cond.fieldLink RX12 198 "LightLinesModel" "cursor" "I" ∈ wsX12_step := by decide +kernel
theorem flX12_step_204 : Cond.fieldLink RX12 204 "LightLinesModel" "place" "I" ∈ wsX12_step := by decide +kernel
theorem flX12_step_207 : Cond.fieldLink RX12 207 "LightLinesModel" "sort" "I" ∈ wsX12_step := by decide +kernel
theorem flX12_step_216 : Cond.fieldLink RX12 216 "LightLinesModel" "end" "I" ∈ wsX12_step := by decide +kernel
set_option maxRecDepth 100000 in
theorem ulX12_step_X12 : ∀ w ∈ u_ws RX12 TX12 42, w ∈ wsX12_step := by decide +kernel
set_option maxHeartbeats 4000000 in
set_option maxRecDepth 100000 in
theorem t_X12_step_26 {Γ : Cx} (C : CF Γ cX12_step 2 none wsX12_step RX12 rmX12_step 0 0) (rc0 : Option Nat → St → Option (St)) (hrc0 : ∀ (a0 : Option Nat) (S : St), G Γ cvV 2 0 0 0 [(0, va_rf a0)] [] S (rc0 a0 S)) (a0 : Option Nat) (S : St) : G Γ cvV 2 0 0 26 [(0, va_rf a0)] [] S (b_X12_step_26 rc0 a0 S) := by
  unfold b_X12_step_26
  refine g_aload_n C dX12_step_26 rfl 0 rfl ?_
  refine g_dupr C dX12_step_27 ?_
  refine g_getI C (ci := 11) (k := 30) dX12_step_28 rfl (by decide) (by decide) (by decide) ulX12_step_X12 flX12_step_198 rfl (fun v1 ev1 => ?_)
  refine g_iconst C (v := (1 : Int32)) dX12_step_31 (by decide) ?_
  refine g_iadd C dX12_step_32 ?_
  refine g_putI C (ci := 11) (k := 30) (ty0 := tyX12) dX12_step_33 rfl (by decide) (by decide) (by decide) tyX12_ok nmX12 ulX12_step_X12 flX12_step_198 rfl rfl ⟨rfl, rfl⟩ (fun S2 eS2 => ?_)
  refine g_goto C (tgt := 0) dX12_step_36 (by decide) ?_
  exact g_sub (lv2 := [(0, va_rf a0)]) [0] rfl (hrc0 a0 S2)
set_option maxHeartbeats 4000000 in
set_option maxRecDepth 100000 in
theorem t_X12_step_214 {Γ : Cx} (C : CF Γ cX12_step 2 none wsX12_step RX12 rmX12_step 0 0) (a0 : Option Nat) (S : St) : G Γ cvV 2 0 0 214 [(0, va_rf a0)] [] S (b_X12_step_214  a0 S) := by
  unfold b_X12_step_214
  refine g_aload_n C dX12_step_214 rfl 0 rfl ?_
  refine g_aload_n C dX12_step_215 rfl 0 rfl ?_
  refine g_getI C (ci := 11) (k := 30) dX12_step_216 rfl (by decide) (by decide) (by decide) ulX12_step_X12 flX12_step_198 rfl (fun v1 ev1 => ?_)
  refine g_putI C (ci := 11) (k := 33) (ty0 := tyX12) dX12_step_219 rfl (by decide) (by decide) (by decide) tyX12_ok nmX12 ulX12_step_X12 flX12_step_216 rfl rfl ⟨rfl, rfl⟩ (fun S2 eS2 => ?_)
  exact g_vret C dX12_step_222 ⟨by decide, by decide⟩
set_option maxHeartbeats 4000000 in
set_option maxRecDepth 100000 in
theorem t_X12_step_124 {Γ : Cx} (C : CF Γ cX12_step 2 none wsX12_step RX12 rmX12_step 0 0) (a0 : Option Nat) (r0 : Option Nat) (s1 : Int32) (S : St) : G Γ cvV 2 0 0 124 [(0, va_rf a0)] [.int s1, va_rf r0] S (b_X12_step_124  a0 r0 s1 S) := by
  unfold b_X12_step_124
  refine g_putI C (ci := 11) (k := 31) (ty0 := tyX12) dX12_step_124 rfl (by decide) (by decide) (by decide) tyX12_ok nmX12 ulX12_step_X12 flX12_step_207 rfl rfl ⟨rfl, rfl⟩ (fun S1 eS1 => ?_)
  refine g_goto C (tgt := 214) dX12_step_127 (by decide) ?_
  exact g_sub (lv2 := [(0, va_rf a0)]) [0] rfl (t_X12_step_214 C a0 S1)
set_option maxHeartbeats 4000000 in
set_option maxRecDepth 100000 in
theorem t_X12_step_104 {Γ : Cx} (C : CF Γ cX12_step 2 none wsX12_step RX12 rmX12_step 0 0) (a0 : Option Nat) (S : St) : G Γ cvV 2 0 0 104 [(0, va_rf a0)] [] S (b_X12_step_104  a0 S) := by
  unfold b_X12_step_104
  refine g_aload_n C dX12_step_104 rfl 0 rfl ?_
  refine g_aload_n C dX12_step_105 rfl 0 rfl ?_
  refine g_getI C (ci := 11) (k := 30) dX12_step_106 rfl (by decide) (by decide) (by decide) ulX12_step_X12 flX12_step_198 rfl (fun v1 ev1 => ?_)
  refine g_aload_n C dX12_step_109 rfl 0 rfl ?_
  refine g_getI C (ci := 11) (k := 32) dX12_step_110 rfl (by decide) (by decide) (by decide) ulX12_step_X12 flX12_step_204 rfl (fun v2 ev2 => ?_)
  refine g_isub C dX12_step_113 ?_
  refine g_bipush C (v := (6 : Int32)) dX12_step_114 (by decide) ?_
  refine g_icmp_le C (tgt := 123) dX12_step_116 (by decide) (fun h3 => ?_) (fun h3 => ?_)
  · refine g_iconst C (v := (2 : Int32)) dX12_step_123 (by decide) ?_
    exact g_sub (lv2 := [(0, va_rf a0)]) [0] rfl (t_X12_step_124 C a0 a0 (2 : Int32) S)
  · refine g_iconst C (v := (0 : Int32)) dX12_step_119 (by decide) ?_
    refine g_goto C (tgt := 124) dX12_step_120 (by decide) ?_
    exact g_sub (lv2 := [(0, va_rf a0)]) [0] rfl (t_X12_step_124 C a0 a0 (0 : Int32) S)
set_option maxHeartbeats 4000000 in
set_option maxRecDepth 100000 in
theorem t_X12_step_77 {Γ : Cx} (C : CF Γ cX12_step 2 none wsX12_step RX12 rmX12_step 0 0) : ∀ (n : Nat) (a0 : Option Nat) (S : St), G Γ cvV 2 0 0 77 [(0, va_rf a0)] [] S (b_X12_step_77  n a0 S) := by
  intro n
  induction n with
  | zero => intro a0 S; exact g_none
  | succ n ih =>
    intro a0 S
    rw [b_X12_step_77]
    refine g_aload_n C dX12_step_77 rfl 0 rfl ?_
    refine g_aload_n C dX12_step_78 rfl 0 rfl ?_
    refine g_getI C (ci := 11) (k := 30) dX12_step_79 rfl (by decide) (by decide) (by decide) ulX12_step_X12 flX12_step_198 rfl (fun v1 ev1 => ?_)
    refine g_callV C (n := 1) (ci := 11) [.int v1] [] (m_X12_byteAt a0 v1 S) dX12_step_82 gX12_step_X12_byteAt rfl ⟨rfl, rfl⟩ (by decide +kernel) ⟨by decide, by decide⟩ ⟨by decide, by decide⟩ rfl (by decide) rfl rfl (by first | exact Nat.le_of_ble_eq_true rfl | simp [va_rf_cat, vi_cat, vl_cat]) (fun o2 eo2 => ?_)
    show G Γ cvV 2 0 0 85 [(0, va_rf a0)] [.int o2.1] o2.2 _
    refine g_callS C (n := 1) [.int o2.1] [] (m_X12_isLetter o2.1 o2.2) dX12_step_85 gX12_step_X12_isLetter rfl ⟨rfl, rfl⟩ (by decide +kernel) ⟨by decide, by decide⟩ ⟨by decide, by decide⟩ rfl rfl (by first | exact Nat.le_of_ble_eq_true rfl | simp [va_rf_cat, vi_cat, vl_cat]) (fun o3 eo3 => ?_)
    show G Γ cvV 2 0 0 88 [(0, va_rf a0)] [.int o3.1] o3.2 _
    refine g_if_eq C (tgt := 104) dX12_step_88 (by decide) (fun h4 => ?_) (fun h4 => ?_)
    · exact g_sub (lv2 := [(0, va_rf a0)]) [0] rfl (t_X12_step_104 C a0 o3.2)
    · refine g_aload_n C dX12_step_91 rfl 0 rfl ?_
      refine g_dupr C dX12_step_92 ?_
      refine g_getI C (ci := 11) (k := 30) dX12_step_93 rfl (by decide) (by decide) (by decide) ulX12_step_X12 flX12_step_198 rfl (fun v5 ev5 => ?_)
      refine g_iconst C (v := (1 : Int32)) dX12_step_96 (by decide) ?_
      refine g_iadd C dX12_step_97 ?_
      refine g_putI C (ci := 11) (k := 30) (ty0 := tyX12) dX12_step_98 rfl (by decide) (by decide) (by decide) tyX12_ok nmX12 ulX12_step_X12 flX12_step_198 rfl rfl ⟨rfl, rfl⟩ (fun S6 eS6 => ?_)
      refine g_goto C (tgt := 77) dX12_step_101 (by decide) ?_
      exact g_sub (lv2 := [(0, va_rf a0)]) [0] rfl (ih a0 S6)
set_option maxHeartbeats 4000000 in
set_option maxRecDepth 100000 in
theorem t_X12_step_183 {Γ : Cx} (C : CF Γ cX12_step 2 none wsX12_step RX12 rmX12_step 0 0) (a0 : Option Nat) (r0 : Option Nat) (s1 : Int32) (S : St) : G Γ cvV 2 0 0 183 [(0, va_rf a0)] [.int s1, va_rf r0] S (b_X12_step_183  a0 r0 s1 S) := by
  unfold b_X12_step_183
  refine g_putI C (ci := 11) (k := 31) (ty0 := tyX12) dX12_step_183 rfl (by decide) (by decide) (by decide) tyX12_ok nmX12 ulX12_step_X12 flX12_step_207 rfl rfl ⟨rfl, rfl⟩ (fun S1 eS1 => ?_)
  refine g_goto C (tgt := 214) dX12_step_186 (by decide) ?_
  exact g_sub (lv2 := [(0, va_rf a0)]) [0] rfl (t_X12_step_214 C a0 S1)
set_option maxHeartbeats 4000000 in
set_option maxRecDepth 100000 in
theorem t_X12_step_164 {Γ : Cx} (C : CF Γ cX12_step 2 none wsX12_step RX12 rmX12_step 0 0) (a0 : Option Nat) (S : St) : G Γ cvV 2 0 0 164 [(0, va_rf a0)] [] S (b_X12_step_164  a0 S) := by
  unfold b_X12_step_164
  refine g_aload_n C dX12_step_164 rfl 0 rfl ?_
  refine g_aload_n C dX12_step_165 rfl 0 rfl ?_
  refine g_getI C (ci := 11) (k := 30) dX12_step_166 rfl (by decide) (by decide) (by decide) ulX12_step_X12 flX12_step_198 rfl (fun v1 ev1 => ?_)
  refine g_aload_n C dX12_step_169 rfl 0 rfl ?_
  refine g_getI C (ci := 11) (k := 32) dX12_step_170 rfl (by decide) (by decide) (by decide) ulX12_step_X12 flX12_step_204 rfl (fun v2 ev2 => ?_)
  refine g_isub C dX12_step_173 ?_
  refine g_iconst C (v := (4 : Int32)) dX12_step_174 (by decide) ?_
  refine g_icmp_le C (tgt := 182) dX12_step_175 (by decide) (fun h3 => ?_) (fun h3 => ?_)
  · refine g_iconst C (v := (3 : Int32)) dX12_step_182 (by decide) ?_
    exact g_sub (lv2 := [(0, va_rf a0)]) [0] rfl (t_X12_step_183 C a0 a0 (3 : Int32) S)
  · refine g_iconst C (v := (0 : Int32)) dX12_step_178 (by decide) ?_
    refine g_goto C (tgt := 183) dX12_step_179 (by decide) ?_
    exact g_sub (lv2 := [(0, va_rf a0)]) [0] rfl (t_X12_step_183 C a0 a0 (0 : Int32) S)
set_option maxHeartbeats 4000000 in
set_option maxRecDepth 100000 in
theorem t_X12_step_137 {Γ : Cx} (C : CF Γ cX12_step 2 none wsX12_step RX12 rmX12_step 0 0) : ∀ (n : Nat) (a0 : Option Nat) (S : St), G Γ cvV 2 0 0 137 [(0, va_rf a0)] [] S (b_X12_step_137  n a0 S) := by
  intro n
  induction n with
  | zero => intro a0 S; exact g_none
  | succ n ih =>
    intro a0 S
    rw [b_X12_step_137]
    refine g_aload_n C dX12_step_137 rfl 0 rfl ?_
    refine g_aload_n C dX12_step_138 rfl 0 rfl ?_
    refine g_getI C (ci := 11) (k := 30) dX12_step_139 rfl (by decide) (by decide) (by decide) ulX12_step_X12 flX12_step_198 rfl (fun v1 ev1 => ?_)
    refine g_callV C (n := 1) (ci := 11) [.int v1] [] (m_X12_byteAt a0 v1 S) dX12_step_142 gX12_step_X12_byteAt rfl ⟨rfl, rfl⟩ (by decide +kernel) ⟨by decide, by decide⟩ ⟨by decide, by decide⟩ rfl (by decide) rfl rfl (by first | exact Nat.le_of_ble_eq_true rfl | simp [va_rf_cat, vi_cat, vl_cat]) (fun o2 eo2 => ?_)
    show G Γ cvV 2 0 0 145 [(0, va_rf a0)] [.int o2.1] o2.2 _
    refine g_callS C (n := 1) [.int o2.1] [] (m_X12_isFigure o2.1 o2.2) dX12_step_145 gX12_step_X12_isFigure rfl ⟨rfl, rfl⟩ (by decide +kernel) ⟨by decide, by decide⟩ ⟨by decide, by decide⟩ rfl rfl (by first | exact Nat.le_of_ble_eq_true rfl | simp [va_rf_cat, vi_cat, vl_cat]) (fun o3 eo3 => ?_)
    show G Γ cvV 2 0 0 148 [(0, va_rf a0)] [.int o3.1] o3.2 _
    refine g_if_eq C (tgt := 164) dX12_step_148 (by decide) (fun h4 => ?_) (fun h4 => ?_)
    · exact g_sub (lv2 := [(0, va_rf a0)]) [0] rfl (t_X12_step_164 C a0 o3.2)
    · refine g_aload_n C dX12_step_151 rfl 0 rfl ?_
      refine g_dupr C dX12_step_152 ?_
      refine g_getI C (ci := 11) (k := 30) dX12_step_153 rfl (by decide) (by decide) (by decide) ulX12_step_X12 flX12_step_198 rfl (fun v5 ev5 => ?_)
      refine g_iconst C (v := (1 : Int32)) dX12_step_156 (by decide) ?_
      refine g_iadd C dX12_step_157 ?_
      refine g_putI C (ci := 11) (k := 30) (ty0 := tyX12) dX12_step_158 rfl (by decide) (by decide) (by decide) tyX12_ok nmX12 ulX12_step_X12 flX12_step_198 rfl rfl ⟨rfl, rfl⟩ (fun S6 eS6 => ?_)
      refine g_goto C (tgt := 137) dX12_step_161 (by decide) ?_
      exact g_sub (lv2 := [(0, va_rf a0)]) [0] rfl (ih a0 S6)
set_option maxHeartbeats 4000000 in
set_option maxRecDepth 100000 in
theorem t_X12_step_211 {Γ : Cx} (C : CF Γ cX12_step 2 none wsX12_step RX12 rmX12_step 0 0) (a0 : Option Nat) (r0 : Option Nat) (s1 : Int32) (S : St) : G Γ cvV 2 0 0 211 [(0, va_rf a0)] [.int s1, va_rf r0] S (b_X12_step_211  a0 r0 s1 S) := by
  unfold b_X12_step_211
  refine g_putI C (ci := 11) (k := 31) (ty0 := tyX12) dX12_step_211 rfl (by decide) (by decide) (by decide) tyX12_ok nmX12 ulX12_step_X12 flX12_step_207 rfl rfl ⟨rfl, rfl⟩ (fun S1 eS1 => ?_)
  exact g_sub (lv2 := [(0, va_rf a0)]) [0] rfl (t_X12_step_214 C a0 S1)
set_option maxHeartbeats 4000000 in
set_option maxRecDepth 100000 in
theorem t_X12_step_39 {Γ : Cx} (C : CF Γ cX12_step 2 none wsX12_step RX12 rmX12_step 0 0) (a0 : Option Nat) (S : St) : G Γ cvV 2 0 0 39 [(0, va_rf a0)] [] S (b_X12_step_39  a0 S) := by
  unfold b_X12_step_39
  refine g_aload_n C dX12_step_39 rfl 0 rfl ?_
  refine g_aload_n C dX12_step_40 rfl 0 rfl ?_
  refine g_getI C (ci := 11) (k := 30) dX12_step_41 rfl (by decide) (by decide) (by decide) ulX12_step_X12 flX12_step_198 rfl (fun v1 ev1 => ?_)
  refine g_putI C (ci := 11) (k := 32) (ty0 := tyX12) dX12_step_44 rfl (by decide) (by decide) (by decide) tyX12_ok nmX12 ulX12_step_X12 flX12_step_204 rfl rfl ⟨rfl, rfl⟩ (fun S2 eS2 => ?_)
  refine g_aload_n C dX12_step_47 rfl 0 rfl ?_
  refine g_aload_n C dX12_step_48 rfl 0 rfl ?_
  refine g_getI C (ci := 11) (k := 30) dX12_step_49 rfl (by decide) (by decide) (by decide) ulX12_step_X12 flX12_step_198 rfl (fun v3 ev3 => ?_)
  refine g_callV C (n := 1) (ci := 11) [.int v3] [] (m_X12_byteAt a0 v3 S2) dX12_step_52 gX12_step_X12_byteAt rfl ⟨rfl, rfl⟩ (by decide +kernel) ⟨by decide, by decide⟩ ⟨by decide, by decide⟩ rfl (by decide) rfl rfl (by first | exact Nat.le_of_ble_eq_true rfl | simp [va_rf_cat, vi_cat, vl_cat]) (fun o4 eo4 => ?_)
  show G Γ cvV 2 0 0 55 [(0, va_rf a0)] [.int o4.1] o4.2 _
  refine g_istore_n C (lv2 := [(1, .int o4.1), (0, va_rf a0)]) dX12_step_55 rfl (by decide) (by first | rfl | simp [va_rf_cat, vi_cat, vl_cat]) ?_
  refine g_iload_n C dX12_step_56 rfl 0 rfl ?_
  refine g_ldc C (v := (-1000000 : Int32)) dX12_step_57 (by decide +kernel) ?_
  refine g_icmp_ne C (tgt := 70) dX12_step_59 (by decide) (fun h5 => ?_) (fun h5 => ?_)
  · refine g_aload_n C dX12_step_62 rfl 1 rfl ?_
    refine g_iconst C (v := (1 : Int32)) dX12_step_63 (by decide) ?_
    refine g_putI C (ci := 11) (k := 31) (ty0 := tyX12) dX12_step_64 rfl (by decide) (by decide) (by decide) tyX12_ok nmX12 ulX12_step_X12 flX12_step_207 rfl rfl ⟨rfl, rfl⟩ (fun S6 eS6 => ?_)
    refine g_goto C (tgt := 214) dX12_step_67 (by decide) ?_
    exact g_sub (lv2 := [(0, va_rf a0)]) [1] rfl (t_X12_step_214 C a0 S6)
  · refine g_iload_n C dX12_step_70 rfl 0 rfl ?_
    refine g_callS C (n := 1) [.int o4.1] [] (m_X12_isLetter o4.1 o4.2) dX12_step_71 gX12_step_X12_isLetter rfl ⟨rfl, rfl⟩ (by decide +kernel) ⟨by decide, by decide⟩ ⟨by decide, by decide⟩ rfl rfl (by first | exact Nat.le_of_ble_eq_true rfl | simp [va_rf_cat, vi_cat, vl_cat]) (fun o7 eo7 => ?_)
    show G Γ cvV 2 0 0 74 [(1, .int o4.1), (0, va_rf a0)] [.int o7.1] o7.2 _
    refine g_if_eq C (tgt := 130) dX12_step_74 (by decide) (fun h8 => ?_) (fun h8 => ?_)
    · refine g_iload_n C dX12_step_130 rfl 0 rfl ?_
      refine g_callS C (n := 1) [.int o4.1] [] (m_X12_isFigure o4.1 o7.2) dX12_step_131 gX12_step_X12_isFigure rfl ⟨rfl, rfl⟩ (by decide +kernel) ⟨by decide, by decide⟩ ⟨by decide, by decide⟩ rfl rfl (by first | exact Nat.le_of_ble_eq_true rfl | simp [va_rf_cat, vi_cat, vl_cat]) (fun o9 eo9 => ?_)
      show G Γ cvV 2 0 0 134 [(1, .int o4.1), (0, va_rf a0)] [.int o9.1] o9.2 _
      refine g_if_eq C (tgt := 189) dX12_step_134 (by decide) (fun h10 => ?_) (fun h10 => ?_)
      · refine g_aload_n C dX12_step_189 rfl 1 rfl ?_
        refine g_dupr C dX12_step_190 ?_
        refine g_getI C (ci := 11) (k := 30) dX12_step_191 rfl (by decide) (by decide) (by decide) ulX12_step_X12 flX12_step_198 rfl (fun v11 ev11 => ?_)
        refine g_iconst C (v := (1 : Int32)) dX12_step_194 (by decide) ?_
        refine g_iadd C dX12_step_195 ?_
        refine g_putI C (ci := 11) (k := 30) (ty0 := tyX12) dX12_step_196 rfl (by decide) (by decide) (by decide) tyX12_ok nmX12 ulX12_step_X12 flX12_step_198 rfl rfl ⟨rfl, rfl⟩ (fun S12 eS12 => ?_)
        refine g_aload_n C dX12_step_199 rfl 1 rfl ?_
        refine g_iload_n C dX12_step_200 rfl 0 rfl ?_
        refine g_bipush C (v := (59 : Int32)) dX12_step_201 (by decide) ?_
        refine g_icmp_ne C (tgt := 210) dX12_step_203 (by decide) (fun h13 => ?_) (fun h13 => ?_)
        · refine g_iconst C (v := (4 : Int32)) dX12_step_206 (by decide) ?_
          refine g_goto C (tgt := 211) dX12_step_207 (by decide) ?_
          exact g_sub (lv2 := [(0, va_rf a0)]) [1] rfl (t_X12_step_211 C a0 a0 (4 : Int32) S12)
        · refine g_iconst C (v := (0 : Int32)) dX12_step_210 (by decide) ?_
          exact g_sub (lv2 := [(0, va_rf a0)]) [1] rfl (t_X12_step_211 C a0 a0 (0 : Int32) S12)
      · exact g_sub (lv2 := [(0, va_rf a0)]) [1] rfl (t_X12_step_137 C FU a0 o9.2)
    · exact g_sub (lv2 := [(0, va_rf a0)]) [1] rfl (t_X12_step_77 C FU a0 o7.2)
set_option maxHeartbeats 4000000 in
set_option maxRecDepth 100000 in
theorem t_X12_step_0 {Γ : Cx} (C : CF Γ cX12_step 2 none wsX12_step RX12 rmX12_step 0 0) : ∀ (n : Nat) (a0 : Option Nat) (S : St), G Γ cvV 2 0 0 0 [(0, va_rf a0)] [] S (b_X12_step_0  n a0 S) := by
  intro n
  induction n with
  | zero => intro a0 S; exact g_none
  | succ n ih =>
    intro a0 S
    rw [b_X12_step_0]
    refine g_aload_n C dX12_step_0 rfl 0 rfl ?_
    refine g_aload_n C dX12_step_1 rfl 0 rfl ?_
    refine g_getI C (ci := 11) (k := 30) dX12_step_2 rfl (by decide) (by decide) (by decide) ulX12_step_X12 flX12_step_198 rfl (fun v1 ev1 => ?_)
    refine g_callV C (n := 1) (ci := 11) [.int v1] [] (m_X12_byteAt a0 v1 S) dX12_step_5 gX12_step_X12_byteAt rfl ⟨rfl, rfl⟩ (by decide +kernel) ⟨by decide, by decide⟩ ⟨by decide, by decide⟩ rfl (by decide) rfl rfl (by first | exact Nat.le_of_ble_eq_true rfl | simp [va_rf_cat, vi_cat, vl_cat]) (fun o2 eo2 => ?_)
    show G Γ cvV 2 0 0 8 [(0, va_rf a0)] [.int o2.1] o2.2 _
    refine g_bipush C (v := (32 : Int32)) dX12_step_8 (by decide) ?_
    refine g_icmp_eq C (tgt := 26) dX12_step_10 (by decide) (fun h3 => ?_) (fun h3 => ?_)
    · exact g_sub (lv2 := [(0, va_rf a0)]) [0] rfl (t_X12_step_26 C (b_X12_step_0 n) ih a0 o2.2)
    · refine g_aload_n C dX12_step_13 rfl 0 rfl ?_
      refine g_aload_n C dX12_step_14 rfl 0 rfl ?_
      refine g_getI C (ci := 11) (k := 30) dX12_step_15 rfl (by decide) (by decide) (by decide) ulX12_step_X12 flX12_step_198 rfl (fun v4 ev4 => ?_)
      refine g_callV C (n := 1) (ci := 11) [.int v4] [] (m_X12_byteAt a0 v4 o2.2) dX12_step_18 gX12_step_X12_byteAt rfl ⟨rfl, rfl⟩ (by decide +kernel) ⟨by decide, by decide⟩ ⟨by decide, by decide⟩ rfl (by decide) rfl rfl (by first | exact Nat.le_of_ble_eq_true rfl | simp [va_rf_cat, vi_cat, vl_cat]) (fun o5 eo5 => ?_)
      show G Γ cvV 2 0 0 21 [(0, va_rf a0)] [.int o5.1] o5.2 _
      refine g_bipush C (v := (10 : Int32)) dX12_step_21 (by decide) ?_
      refine g_icmp_ne C (tgt := 39) dX12_step_23 (by decide) (fun h6 => ?_) (fun h6 => ?_)
      · exact g_sub (lv2 := [(0, va_rf a0)]) [0] rfl (t_X12_step_26 C (b_X12_step_0 n) ih a0 o5.2)
      · exact g_sub (lv2 := [(0, va_rf a0)]) [0] rfl (t_X12_step_39 C a0 o5.2)
set_option maxHeartbeats 4000000 in
set_option maxRecDepth 100000 in
theorem m_X12_step (a0 : Option Nat) (S : St) : ∀ l D cy H0 o, f_X12_step a0 S = some o → Met l yX12_step wsX12_step rmX12_step (Pq D cy H0 [va_rf a0] S) (Qx D cy H0 (cvV o)) 0 0 (fun q => H0.size ≤ q) := by
  refine met_of (cc := cX12_step) (maxL := 2) (ret := none) [va_rf a0] [(0, va_rf a0)] (by decide) rfl rfl (by simp [lg_sl, va_rf_cat, vi_cat, vl_cat]) (by simp [lv_args, va_rf_cat, vi_cat, vl_cat]) (fun Γ C => ?_)
  unfold f_X12_step
  exact g_sub (lv2 := [(0, va_rf a0)]) [0] rfl (t_X12_step_0 C FU a0 S)
abbrev rmX12_bad : Room := { frames := 0, cells := 0, slots := 0, locals := 0 }
theorem flX12_bad_204 : Cond.fieldLink RX12 204 "LightLinesModel" "place" "I" ∈ wsX12_bad := by decide +kernel
theorem flX12_bad_219 : Cond.fieldLink RX12 219 "LightLinesModel" "fault" "I" ∈ wsX12_bad := by decide +kernel
theorem flX12_bad_222 : Cond.fieldLink RX12 222 "LightLinesModel" "faultAt" "I" ∈ wsX12_bad := by decide +kernel
set_option maxRecDepth 100000 in
theorem ulX12_bad_X12 : ∀ w ∈ u_ws RX12 TX12 42, w ∈ wsX12_bad := by decide +kernel
set_option maxHeartbeats 4000000 in
set_option maxRecDepth 100000 in
theorem m_X12_bad (a0 : Option Nat) (x1 : Int32) (S : St) : ∀ l D cy H0 o, f_X12_bad a0 x1 S = some o → Met l yX12_bad wsX12_bad rmX12_bad (Pq D cy H0 [va_rf a0, .int x1] S) (Qx D cy H0 (cvV o)) 0 0 (fun q => H0.size ≤ q) := by
  refine met_of (cc := cX12_bad) (maxL := 2) (ret := none) [va_rf a0, .int x1] [(0, va_rf a0), (1, .int x1)] (by decide) rfl rfl (by simp [lg_sl, va_rf_cat, vi_cat, vl_cat]) (by simp [lv_args, va_rf_cat, vi_cat, vl_cat]) (fun Γ C => ?_)
  unfold f_X12_bad
  refine g_aload_n C dX12_bad_0 rfl 0 rfl ?_
  refine g_getI C (ci := 11) (k := 34) dX12_bad_1 rfl (by decide) (by decide) (by decide) ulX12_bad_X12 flX12_bad_219 rfl (fun v1 ev1 => ?_)
  refine g_if_ne C (tgt := 20) dX12_bad_4 (by decide) (fun h2 => ?_) (fun h2 => ?_)
  · refine g_aload_n C dX12_bad_7 rfl 0 rfl ?_
    refine g_iload_n C dX12_bad_8 rfl 1 rfl ?_
    refine g_putI C (ci := 11) (k := 34) (ty0 := tyX12) dX12_bad_9 rfl (by decide) (by decide) (by decide) tyX12_ok nmX12 ulX12_bad_X12 flX12_bad_219 rfl rfl ⟨rfl, rfl⟩ (fun S3 eS3 => ?_)
    refine g_aload_n C dX12_bad_12 rfl 0 rfl ?_
    refine g_aload_n C dX12_bad_13 rfl 0 rfl ?_
    refine g_getI C (ci := 11) (k := 32) dX12_bad_14 rfl (by decide) (by decide) (by decide) ulX12_bad_X12 flX12_bad_204 rfl (fun v4 ev4 => ?_)
    refine g_putI C (ci := 11) (k := 35) (ty0 := tyX12) dX12_bad_17 rfl (by decide) (by decide) (by decide) tyX12_ok nmX12 ulX12_bad_X12 flX12_bad_222 rfl rfl ⟨rfl, rfl⟩ (fun S5 eS5 => ?_)
    exact g_vret C dX12_bad_20 ⟨by decide, by decide⟩
  · exact g_vret C dX12_bad_20 ⟨by decide, by decide⟩
abbrev rmX12_take : Room := { frames := 2, cells := 0, slots := 0, locals := 42 }
theorem flX12_take_219 : Cond.fieldLink RX12 219 "LightLinesModel" "fault" "I" ∈ wsX12_take := by decide +kernel
set_option maxRecDepth 100000 in
theorem ulX12_take_X12 : ∀ w ∈ u_ws RX12 TX12 42, w ∈ wsX12_take := by decide +kernel
set_option maxHeartbeats 4000000 in
set_option maxRecDepth 100000 in
theorem t_X12_take_9 {Γ : Cx} (C : CF Γ cX12_take 2 none wsX12_take RX12 rmX12_take 0 0) (a0 : Option Nat) (S : St) : G Γ cvV 2 0 0 9 [(0, va_rf a0)] [] S (b_X12_take_9  a0 S) := by
  unfold b_X12_take_9
  refine g_aload_n C dX12_take_9 rfl 0 rfl ?_
  refine g_getI C (ci := 11) (k := 34) dX12_take_10 rfl (by decide) (by decide) (by decide) ulX12_take_X12 flX12_take_219 rfl (fun v1 ev1 => ?_)
  refine g_if_ne C (tgt := 20) dX12_take_13 (by decide) (fun h2 => ?_) (fun h2 => ?_)
  · refine g_aload_n C dX12_take_16 rfl 0 rfl ?_
    refine g_callV C (n := 0) (ci := 11) [] [] (m_X12_step a0 S) dX12_take_17 gX12_take_X12_step rfl ⟨rfl, rfl⟩ (by decide +kernel) ⟨by decide, by decide⟩ ⟨by decide, by decide⟩ rfl (by decide) rfl rfl (by first | exact Nat.le_of_ble_eq_true rfl | simp [va_rf_cat, vi_cat, vl_cat]) (fun o3 eo3 => ?_)
    show G Γ cvV 2 0 0 20 [(0, va_rf a0)] [] o3 _
    exact g_vret C dX12_take_20 ⟨by decide, by decide⟩
  · exact g_vret C dX12_take_20 ⟨by decide, by decide⟩
set_option maxHeartbeats 4000000 in
set_option maxRecDepth 100000 in
theorem m_X12_take (a0 : Option Nat) (x1 : Int32) (S : St) : ∀ l D cy H0 o, f_X12_take a0 x1 S = some o → Met l yX12_take wsX12_take rmX12_take (Pq D cy H0 [va_rf a0, .int x1] S) (Qx D cy H0 (cvV o)) 0 0 (fun q => H0.size ≤ q) := by
  refine met_of (cc := cX12_take) (maxL := 2) (ret := none) [va_rf a0, .int x1] [(0, va_rf a0), (1, .int x1)] (by decide) rfl rfl (by simp [lg_sl, va_rf_cat, vi_cat, vl_cat]) (by simp [lv_args, va_rf_cat, vi_cat, vl_cat]) (fun Γ C => ?_)
  unfold f_X12_take
  refine g_iload_n C dX12_take_0 rfl 1 rfl ?_
  refine g_if_ne C (tgt := 9) dX12_take_1 (by decide) (fun h1 => ?_) (fun h1 => ?_)
  · refine g_aload_n C dX12_take_4 rfl 0 rfl ?_
    refine g_iconst C (v := (1 : Int32)) dX12_take_5 (by decide) ?_
    refine g_callV C (n := 1) (ci := 11) [.int (1 : Int32)] [] (m_X12_bad a0 (1 : Int32) S) dX12_take_6 gX12_take_X12_bad rfl ⟨rfl, rfl⟩ (by decide +kernel) ⟨by decide, by decide⟩ ⟨by decide, by decide⟩ rfl (by decide) rfl rfl (by first | exact Nat.le_of_ble_eq_true rfl | simp [va_rf_cat, vi_cat, vl_cat]) (fun o2 eo2 => ?_)
    show G Γ cvV 2 0 0 9 [(0, va_rf a0), (1, .int x1)] [] o2 _
    exact g_sub (lv2 := [(0, va_rf a0)]) [0] rfl (t_X12_take_9 C a0 o2)
  · exact g_sub (lv2 := [(0, va_rf a0)]) [0] rfl (t_X12_take_9 C a0 S)
abbrev rmX12_name : Room := { frames := 0, cells := 0, slots := 0, locals := 0 }
theorem flX12_name_76 : Cond.fieldLink RX12 76 "LightLinesModel" "tape" "[I" ∈ wsX12_name := by decide +kernel
theorem flX12_name_204 : Cond.fieldLink RX12 204 "LightLinesModel" "place" "I" ∈ wsX12_name := by decide +kernel
theorem flX12_name_207 : Cond.fieldLink RX12 207 "LightLinesModel" "sort" "I" ∈ wsX12_name := by decide +kernel
theorem flX12_name_216 : Cond.fieldLink RX12 216 "LightLinesModel" "end" "I" ∈ wsX12_name := by decide +kernel
set_option maxRecDepth 100000 in
theorem ulX12_name_X12 : ∀ w ∈ u_ws RX12 TX12 42, w ∈ wsX12_name := by decide +kernel
set_option maxHeartbeats 4000000 in
set_option maxRecDepth 100000 in
theorem t_X12_name_42 {Γ : Cx} (C : CF Γ cX12_name 4 (some .long) wsX12_name RX12 rmX12_name 0 0) (j1 : Int64) (S : St) : G Γ cvJ 4 0 0 42 [(1, .long j1)] [] S (b_X12_name_42  j1 S) := by
  unfold b_X12_name_42
  refine g_lload_n C dX12_name_42 rfl 0 rfl ?_
  exact g_lret C dX12_name_43 ⟨by decide, by decide⟩
set_option maxHeartbeats 4000000 in
set_option maxRecDepth 100000 in
theorem t_X12_name_7 {Γ : Cx} (C : CF Γ cX12_name 4 (some .long) wsX12_name RX12 rmX12_name 0 0) : ∀ (n : Nat) (a0 : Option Nat) (j1 : Int64) (x3 : Int32) (S : St), G Γ cvJ 4 0 0 7 [(0, va_rf a0), (1, .long j1), (3, .int x3)] [] S (b_X12_name_7  n a0 j1 x3 S) := by
  intro n
  induction n with
  | zero => intro a0 j1 x3 S; exact g_none
  | succ n ih =>
    intro a0 j1 x3 S
    rw [b_X12_name_7]
    refine g_iload_n C dX12_name_7 rfl 2 rfl ?_
    refine g_aload_n C dX12_name_8 rfl 0 rfl ?_
    refine g_getI C (ci := 11) (k := 33) dX12_name_9 rfl (by decide) (by decide) (by decide) ulX12_name_X12 flX12_name_216 rfl (fun v1 ev1 => ?_)
    refine g_icmp_ge C (tgt := 42) dX12_name_12 (by decide) (fun h2 => ?_) (fun h2 => ?_)
    · exact g_sub (lv2 := [(1, .long j1)]) [1] rfl (t_X12_name_42 C j1 S)
    · refine g_aload_n C dX12_name_15 rfl 0 rfl ?_
      refine g_getI C (ci := 11) (k := 31) dX12_name_16 rfl (by decide) (by decide) (by decide) ulX12_name_X12 flX12_name_207 rfl (fun v3 ev3 => ?_)
      refine g_iconst C (v := (2 : Int32)) dX12_name_19 (by decide) ?_
      refine g_icmp_ne C (tgt := 42) dX12_name_20 (by decide) (fun h4 => ?_) (fun h4 => ?_)
      · refine g_lload_n C dX12_name_23 rfl 1 rfl ?_
        refine g_bipush C (v := (8 : Int32)) dX12_name_24 (by decide) ?_
        refine g_lshl C dX12_name_26 ?_
        refine g_aload_n C dX12_name_27 rfl 0 rfl ?_
        refine g_getR C (ci := 11) (k := 26) dX12_name_28 rfl (by decide) (by decide) (by decide) ulX12_name_X12 flX12_name_76 rfl (fun v5 ev5 => ?_)
        refine g_iload_n C dX12_name_31 rfl 2 rfl ?_
        refine g_ild C dX12_name_32 (fun v6 ev6 => ?_)
        refine g_i2l C dX12_name_33 ?_
        refine g_lor C dX12_name_34 ?_
        refine g_topl (fun w7 => ?_)
        refine g_lstore_n C (lv2 := [(1, .long w7), (0, va_rf a0), (3, .int x3)]) dX12_name_35 rfl (by decide) (by first | rfl | simp [va_rf_cat, vi_cat, vl_cat]) ?_
        refine g_iinc1 C dX12_name_36 2 rfl (by decide) (by decide) (fun y8 => ?_)
        refine g_lveq (lv2 := [(3, .int y8), (1, .long w7), (0, va_rf a0)]) (by first | rfl | simp [va_rf_cat, vi_cat, vl_cat]) ?_
        refine g_goto C (tgt := 7) dX12_name_39 (by decide) ?_
        exact g_sub (lv2 := [(0, va_rf a0), (1, .long w7), (3, .int y8)]) [2, 1, 0] rfl (ih a0 w7 y8 S)
      · exact g_sub (lv2 := [(1, .long j1)]) [1] rfl (t_X12_name_42 C j1 S)
set_option maxHeartbeats 4000000 in
set_option maxRecDepth 100000 in
theorem m_X12_name (a0 : Option Nat) (S : St) : ∀ l D cy H0 o, f_X12_name a0 S = some o → Met l yX12_name wsX12_name rmX12_name (Pq D cy H0 [va_rf a0] S) (Qx D cy H0 (cvJ o)) 0 0 (fun q => H0.size ≤ q) := by
  refine met_of (cc := cX12_name) (maxL := 4) (ret := (some .long)) [va_rf a0] [(0, va_rf a0)] (by decide) rfl rfl (by simp [lg_sl, va_rf_cat, vi_cat, vl_cat]) (by simp [lv_args, va_rf_cat, vi_cat, vl_cat]) (fun Γ C => ?_)
  unfold f_X12_name
  refine g_lconst C (v := (0 : Int64)) dX12_name_0 (by decide) ?_
  refine g_lstore_n C (lv2 := [(1, .long (0 : Int64)), (0, va_rf a0)]) dX12_name_1 rfl (by decide) (by first | rfl | simp [va_rf_cat, vi_cat, vl_cat]) ?_
  refine g_aload_n C dX12_name_2 rfl 1 rfl ?_
  refine g_getI C (ci := 11) (k := 32) dX12_name_3 rfl (by decide) (by decide) (by decide) ulX12_name_X12 flX12_name_204 rfl (fun v1 ev1 => ?_)
  refine g_istore_n C (lv2 := [(3, .int v1), (1, .long (0 : Int64)), (0, va_rf a0)]) dX12_name_6 rfl (by decide) (by first | rfl | simp [va_rf_cat, vi_cat, vl_cat]) ?_
  exact g_sub (lv2 := [(0, va_rf a0), (1, .long (0 : Int64)), (3, .int v1)]) [2, 1, 0] rfl (t_X12_name_7 C FU a0 (0 : Int64) v1 S)
abbrev rmX12_numberIn : Room := { frames := 3, cells := 0, slots := 0, locals := 63 }
theorem flX12_numberIn_76 : Cond.fieldLink RX12 76 "LightLinesModel" "tape" "[I" ∈ wsX12_numberIn := by decide +kernel
theorem flX12_numberIn_204 : Cond.fieldLink RX12 204 "LightLinesModel" "place" "I" ∈ wsX12_numberIn := by decide +kernel
theorem flX12_numberIn_207 : Cond.fieldLink RX12 207 "LightLinesModel" "sort" "I" ∈ wsX12_numberIn := by decide +kernel
theorem flX12_numberIn_216 : Cond.fieldLink RX12 216 "LightLinesModel" "end" "I" ∈ wsX12_numberIn := by decide +kernel
set_option maxRecDepth 100000 in
theorem ulX12_numberIn_X12 : ∀ w ∈ u_ws RX12 TX12 42, w ∈ wsX12_numberIn := by decide +kernel
set_option maxHeartbeats 4000000 in
set_option maxRecDepth 100000 in
theorem t_X12_numberIn_86 {Γ : Cx} (C : CF Γ cX12_numberIn 5 (some .int) wsX12_numberIn RX12 rmX12_numberIn 0 0) (x3 : Int32) (r0 : Option Nat) (s1 : Int32) (S : St) : G Γ cvI 5 0 0 86 [(3, .int x3)] [.int s1, va_rf r0] S (b_X12_numberIn_86  x3 r0 s1 S) := by
  unfold b_X12_numberIn_86
  refine g_callV C (n := 1) (ci := 11) [.int s1] [] (m_X12_take r0 s1 S) dX12_numberIn_86 gX12_numberIn_X12_take rfl ⟨rfl, rfl⟩ (by decide +kernel) ⟨by decide, by decide⟩ ⟨by decide, by decide⟩ rfl (by decide) rfl rfl (by first | exact Nat.le_of_ble_eq_true rfl | simp [va_rf_cat, vi_cat, vl_cat]) (fun o1 eo1 => ?_)
  show G Γ cvI 5 0 0 89 [(3, .int x3)] [] o1 _
  refine g_iload_n C dX12_numberIn_89 rfl 0 rfl ?_
  exact g_iret C dX12_numberIn_90 ⟨by decide, by decide⟩
set_option maxHeartbeats 4000000 in
set_option maxRecDepth 100000 in
theorem t_X12_numberIn_72 {Γ : Cx} (C : CF Γ cX12_numberIn 5 (some .int) wsX12_numberIn RX12 rmX12_numberIn 0 0) (a0 : Option Nat) (x3 : Int32) (S : St) : G Γ cvI 5 0 0 72 [(0, va_rf a0), (3, .int x3)] [] S (b_X12_numberIn_72  a0 x3 S) := by
  unfold b_X12_numberIn_72
  refine g_aload_n C dX12_numberIn_72 rfl 0 rfl ?_
  refine g_aload_n C dX12_numberIn_73 rfl 0 rfl ?_
  refine g_getI C (ci := 11) (k := 31) dX12_numberIn_74 rfl (by decide) (by decide) (by decide) ulX12_numberIn_X12 flX12_numberIn_207 rfl (fun v1 ev1 => ?_)
  refine g_iconst C (v := (3 : Int32)) dX12_numberIn_77 (by decide) ?_
  refine g_icmp_ne C (tgt := 85) dX12_numberIn_78 (by decide) (fun h2 => ?_) (fun h2 => ?_)
  · refine g_iconst C (v := (1 : Int32)) dX12_numberIn_81 (by decide) ?_
    refine g_goto C (tgt := 86) dX12_numberIn_82 (by decide) ?_
    exact g_sub (lv2 := [(3, .int x3)]) [1] rfl (t_X12_numberIn_86 C x3 a0 (1 : Int32) S)
  · refine g_iconst C (v := (0 : Int32)) dX12_numberIn_85 (by decide) ?_
    exact g_sub (lv2 := [(3, .int x3)]) [1] rfl (t_X12_numberIn_86 C x3 a0 (0 : Int32) S)
set_option maxHeartbeats 4000000 in
set_option maxRecDepth 100000 in
theorem t_X12_numberIn_47 {Γ : Cx} (C : CF Γ cX12_numberIn 5 (some .int) wsX12_numberIn RX12 rmX12_numberIn 0 0) (a0 : Option Nat) (x1 : Int32) (x2 : Int32) (x3 : Int32) (S : St) : G Γ cvI 5 0 0 47 [(0, va_rf a0), (1, .int x1), (2, .int x2), (3, .int x3)] [] S (b_X12_numberIn_47  a0 x1 x2 x3 S) := by
  unfold b_X12_numberIn_47
  refine g_aload_n C dX12_numberIn_47 rfl 0 rfl ?_
  refine g_getI C (ci := 11) (k := 31) dX12_numberIn_48 rfl (by decide) (by decide) (by decide) ulX12_numberIn_X12 flX12_numberIn_207 rfl (fun v1 ev1 => ?_)
  refine g_iconst C (v := (3 : Int32)) dX12_numberIn_51 (by decide) ?_
  refine g_icmp_ne C (tgt := 72) dX12_numberIn_52 (by decide) (fun h2 => ?_) (fun h2 => ?_)
  · refine g_iload_n C dX12_numberIn_55 rfl 3 rfl ?_
    refine g_i2l C dX12_numberIn_56 ?_
    refine g_iload_n C dX12_numberIn_57 rfl 1 rfl ?_
    refine g_i2l C dX12_numberIn_58 ?_
    refine g_iload_n C dX12_numberIn_59 rfl 2 rfl ?_
    refine g_i2l C dX12_numberIn_60 ?_
    refine g_callS C (n := 3) [.long x3.toInt64, .long x1.toInt64, .long x2.toInt64] [] (m_X12_in x3.toInt64 x1.toInt64 x2.toInt64 S) dX12_numberIn_61 gX12_numberIn_X12_in rfl ⟨rfl, rfl⟩ (by decide +kernel) ⟨by decide, by decide⟩ ⟨by decide, by decide⟩ rfl rfl (by first | exact Nat.le_of_ble_eq_true rfl | simp [va_rf_cat, vi_cat, vl_cat]) (fun o3 eo3 => ?_)
    show G Γ cvI 5 0 0 64 [(0, va_rf a0), (1, .int x1), (2, .int x2), (3, .int x3)] [.int o3.1] o3.2 _
    refine g_if_ne C (tgt := 72) dX12_numberIn_64 (by decide) (fun h4 => ?_) (fun h4 => ?_)
    · refine g_aload_n C dX12_numberIn_67 rfl 0 rfl ?_
      refine g_iconst C (v := (2 : Int32)) dX12_numberIn_68 (by decide) ?_
      refine g_callV C (n := 1) (ci := 11) [.int (2 : Int32)] [] (m_X12_bad a0 (2 : Int32) o3.2) dX12_numberIn_69 gX12_numberIn_X12_bad rfl ⟨rfl, rfl⟩ (by decide +kernel) ⟨by decide, by decide⟩ ⟨by decide, by decide⟩ rfl (by decide) rfl rfl (by first | exact Nat.le_of_ble_eq_true rfl | simp [va_rf_cat, vi_cat, vl_cat]) (fun o5 eo5 => ?_)
      show G Γ cvI 5 0 0 72 [(0, va_rf a0), (1, .int x1), (2, .int x2), (3, .int x3)] [] o5 _
      exact g_sub (lv2 := [(0, va_rf a0), (3, .int x3)]) [0, 3] rfl (t_X12_numberIn_72 C a0 x3 o5)
    · exact g_sub (lv2 := [(0, va_rf a0), (3, .int x3)]) [0, 3] rfl (t_X12_numberIn_72 C a0 x3 o3.2)
  · exact g_sub (lv2 := [(0, va_rf a0), (3, .int x3)]) [0, 3] rfl (t_X12_numberIn_72 C a0 x3 S)
set_option maxHeartbeats 4000000 in
set_option maxRecDepth 100000 in
theorem t_X12_numberIn_8 {Γ : Cx} (C : CF Γ cX12_numberIn 5 (some .int) wsX12_numberIn RX12 rmX12_numberIn 0 0) : ∀ (n : Nat) (a0 : Option Nat) (x1 : Int32) (x2 : Int32) (x3 : Int32) (x4 : Int32) (S : St), G Γ cvI 5 0 0 8 [(0, va_rf a0), (1, .int x1), (2, .int x2), (3, .int x3), (4, .int x4)] [] S (b_X12_numberIn_8  n a0 x1 x2 x3 x4 S) := by
  intro n
  induction n with
  | zero => intro a0 x1 x2 x3 x4 S; exact g_none
  | succ n ih =>
    intro a0 x1 x2 x3 x4 S
    rw [b_X12_numberIn_8]
    refine g_iload C dX12_numberIn_8 4 rfl ?_
    refine g_aload_n C dX12_numberIn_10 rfl 0 rfl ?_
    refine g_getI C (ci := 11) (k := 33) dX12_numberIn_11 rfl (by decide) (by decide) (by decide) ulX12_numberIn_X12 flX12_numberIn_216 rfl (fun v1 ev1 => ?_)
    refine g_icmp_ge C (tgt := 47) dX12_numberIn_14 (by decide) (fun h2 => ?_) (fun h2 => ?_)
    · exact g_sub (lv2 := [(0, va_rf a0), (1, .int x1), (2, .int x2), (3, .int x3)]) [0, 1, 2, 3] rfl (t_X12_numberIn_47 C a0 x1 x2 x3 S)
    · refine g_aload_n C dX12_numberIn_17 rfl 0 rfl ?_
      refine g_getI C (ci := 11) (k := 31) dX12_numberIn_18 rfl (by decide) (by decide) (by decide) ulX12_numberIn_X12 flX12_numberIn_207 rfl (fun v3 ev3 => ?_)
      refine g_iconst C (v := (3 : Int32)) dX12_numberIn_21 (by decide) ?_
      refine g_icmp_ne C (tgt := 47) dX12_numberIn_22 (by decide) (fun h4 => ?_) (fun h4 => ?_)
      · refine g_bipush C (v := (10 : Int32)) dX12_numberIn_25 (by decide) ?_
        refine g_iload_n C dX12_numberIn_27 rfl 3 rfl ?_
        refine g_imul C dX12_numberIn_28 ?_
        refine g_aload_n C dX12_numberIn_29 rfl 0 rfl ?_
        refine g_getR C (ci := 11) (k := 26) dX12_numberIn_30 rfl (by decide) (by decide) (by decide) ulX12_numberIn_X12 flX12_numberIn_76 rfl (fun v5 ev5 => ?_)
        refine g_iload C dX12_numberIn_33 4 rfl ?_
        refine g_ild C dX12_numberIn_35 (fun v6 ev6 => ?_)
        refine g_iadd C dX12_numberIn_36 ?_
        refine g_bipush C (v := (48 : Int32)) dX12_numberIn_37 (by decide) ?_
        refine g_isub C dX12_numberIn_39 ?_
        refine g_topi (fun y7 => ?_)
        refine g_istore_n C (lv2 := [(3, .int y7), (0, va_rf a0), (1, .int x1), (2, .int x2), (4, .int x4)]) dX12_numberIn_40 rfl (by decide) (by first | rfl | simp [va_rf_cat, vi_cat, vl_cat]) ?_
        refine g_iinc1 C dX12_numberIn_41 4 rfl (by decide) (by decide) (fun y8 => ?_)
        refine g_lveq (lv2 := [(4, .int y8), (3, .int y7), (0, va_rf a0), (1, .int x1), (2, .int x2)]) (by first | rfl | simp [va_rf_cat, vi_cat, vl_cat]) ?_
        refine g_goto C (tgt := 8) dX12_numberIn_44 (by decide) ?_
        exact g_sub (lv2 := [(0, va_rf a0), (1, .int x1), (2, .int x2), (3, .int y7), (4, .int y8)]) [2, 3, 4, 1, 0] rfl (ih a0 x1 x2 y7 y8 S)
      · exact g_sub (lv2 := [(0, va_rf a0), (1, .int x1), (2, .int x2), (3, .int x3)]) [0, 1, 2, 3] rfl (t_X12_numberIn_47 C a0 x1 x2 x3 S)
set_option maxHeartbeats 4000000 in
set_option maxRecDepth 100000 in
theorem m_X12_numberIn (a0 : Option Nat) (x1 : Int32) (x2 : Int32) (S : St) : ∀ l D cy H0 o, f_X12_numberIn a0 x1 x2 S = some o → Met l yX12_numberIn wsX12_numberIn rmX12_numberIn (Pq D cy H0 [va_rf a0, .int x1, .int x2] S) (Qx D cy H0 (cvI o)) 0 0 (fun q => H0.size ≤ q) := by
  refine met_of (cc := cX12_numberIn) (maxL := 5) (ret := (some .int)) [va_rf a0, .int x1, .int x2] [(0, va_rf a0), (1, .int x1), (2, .int x2)] (by decide) rfl rfl (by simp [lg_sl, va_rf_cat, vi_cat, vl_cat]) (by simp [lv_args, va_rf_cat, vi_cat, vl_cat]) (fun Γ C => ?_)
  unfold f_X12_numberIn
  refine g_iconst C (v := (0 : Int32)) dX12_numberIn_0 (by decide) ?_
  refine g_istore_n C (lv2 := [(3, .int (0 : Int32)), (0, va_rf a0), (1, .int x1), (2, .int x2)]) dX12_numberIn_1 rfl (by decide) (by first | rfl | simp [va_rf_cat, vi_cat, vl_cat]) ?_
  refine g_aload_n C dX12_numberIn_2 rfl 1 rfl ?_
  refine g_getI C (ci := 11) (k := 32) dX12_numberIn_3 rfl (by decide) (by decide) (by decide) ulX12_numberIn_X12 flX12_numberIn_204 rfl (fun v1 ev1 => ?_)
  refine g_istore C (lv2 := [(4, .int v1), (3, .int (0 : Int32)), (0, va_rf a0), (1, .int x1), (2, .int x2)]) dX12_numberIn_6 (by decide) (by first | rfl | simp [va_rf_cat, vi_cat, vl_cat]) ?_
  exact g_sub (lv2 := [(0, va_rf a0), (1, .int x1), (2, .int x2), (3, .int (0 : Int32)), (4, .int v1)]) [2, 3, 4, 1, 0] rfl (t_X12_numberIn_8 C FU a0 x1 x2 (0 : Int32) v1 S)
