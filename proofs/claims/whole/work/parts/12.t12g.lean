abbrev rmX12_ticks : Room := { frames := 4, cells := 0, slots := 0, locals := 96 }
theorem flX12_ticks_1 : Cond.fieldLink RX12 1 "LightLinesModel" "thrown" "I" ∈ wsX12_ticks := by decide +kernel
theorem flX12_ticks_149 : Cond.fieldLink RX12 149 "LightLinesModel" "ticks" "I" ∈ wsX12_ticks := by decide +kernel
theorem flX12_ticks_152 : Cond.fieldLink RX12 152 "LightLinesModel" "isFull" "Z" ∈ wsX12_ticks := by decide +kernel
set_option maxRecDepth 100000 in
theorem ulX12_ticks_X12 : ∀ w ∈ u_ws RX12 TX12 42, w ∈ wsX12_ticks := by decide +kernel
set_option maxHeartbeats 4000000 in
set_option maxRecDepth 100000 in
theorem m_X12_ticks (a0 : Option Nat) (S : St) : ∀ l D cy H0 o, f_X12_ticks a0 S = some o → Met l yX12_ticks wsX12_ticks rmX12_ticks (Pq D cy H0 [va_rf a0] S) (Qx D cy H0 (cvI o)) 0 0 (fun q => H0.size ≤ q) := by
  refine met_of (cc := cX12_ticks) (maxL := 1) (ret := (some .int)) [va_rf a0] [(0, va_rf a0)] (by decide) rfl rfl (by simp [lg_sl, va_rf_cat, vi_cat, vl_cat]) (by simp [lv_args, va_rf_cat, vi_cat, vl_cat]) (fun Γ C => ?_)
  unfold f_X12_ticks
  refine g_aload_n C dX12_ticks_0 rfl 0 rfl ?_
  refine g_iconst C (v := (0 : Int32)) dX12_ticks_1 (by decide) ?_
  refine g_putI C (ci := 11) (k := 0) (ty0 := tyX12) dX12_ticks_2 rfl (by decide) (by decide) (by decide) tyX12_ok nmX12 ulX12_ticks_X12 flX12_ticks_1 rfl rfl ⟨rfl, rfl⟩ (fun S1 eS1 => ?_)
  refine g_aload_n C dX12_ticks_5 rfl 0 rfl ?_
  refine g_callV C (n := 0) (ci := 11) [] [] (m_X12_make a0 S1) dX12_ticks_6 gX12_ticks_X12_make rfl ⟨rfl, rfl⟩ (by decide +kernel) ⟨by decide, by decide⟩ ⟨by decide, by decide⟩ rfl (by decide) rfl rfl (by first | exact Nat.le_of_ble_eq_true rfl | simp [va_rf_cat, vi_cat, vl_cat]) (fun o2 eo2 => ?_)
  show G Γ cvI 1 0 0 9 [(0, va_rf a0)] [] o2 _
  refine g_aload_n C dX12_ticks_9 rfl 0 rfl ?_
  refine g_getI C (ci := 11) (k := 16) dX12_ticks_10 rfl (by decide) (by decide) (by decide) ulX12_ticks_X12 flX12_ticks_152 rfl (fun v3 ev3 => ?_)
  refine g_if_eq C (tgt := 21) dX12_ticks_13 (by decide) (fun h4 => ?_) (fun h4 => ?_)
  · refine g_aload_n C dX12_ticks_21 rfl 0 rfl ?_
    refine g_getI C (ci := 11) (k := 15) dX12_ticks_22 rfl (by decide) (by decide) (by decide) ulX12_ticks_X12 flX12_ticks_149 rfl (fun v5 ev5 => ?_)
    exact g_iret C dX12_ticks_25 ⟨by decide, by decide⟩
  · refine g_ldc C (v := (-1000003 : Int32)) dX12_ticks_16 (by decide +kernel) ?_
    refine g_goto C (tgt := 25) dX12_ticks_18 (by decide) ?_
    exact g_iret C dX12_ticks_25 ⟨by decide, by decide⟩
abbrev rmX12_tick : Room := { frames := 4, cells := 0, slots := 0, locals := 96 }
theorem flX12_tick_1 : Cond.fieldLink RX12 1 "LightLinesModel" "thrown" "I" ∈ wsX12_tick := by decide +kernel
theorem flX12_tick_55 : Cond.fieldLink RX12 55 "LightLinesModel" "toldX" "[I" ∈ wsX12_tick := by decide +kernel
theorem flX12_tick_58 : Cond.fieldLink RX12 58 "LightLinesModel" "toldY" "[I" ∈ wsX12_tick := by decide +kernel
theorem flX12_tick_61 : Cond.fieldLink RX12 61 "LightLinesModel" "isTold" "[Z" ∈ wsX12_tick := by decide +kernel
theorem flX12_tick_64 : Cond.fieldLink RX12 64 "LightLinesModel" "mirrorX" "[I" ∈ wsX12_tick := by decide +kernel
theorem flX12_tick_67 : Cond.fieldLink RX12 67 "LightLinesModel" "mirrorY" "[I" ∈ wsX12_tick := by decide +kernel
theorem flX12_tick_70 : Cond.fieldLink RX12 70 "LightLinesModel" "isShut" "[Z" ∈ wsX12_tick := by decide +kernel
theorem flX12_tick_149 : Cond.fieldLink RX12 149 "LightLinesModel" "ticks" "I" ∈ wsX12_tick := by decide +kernel
theorem flX12_tick_152 : Cond.fieldLink RX12 152 "LightLinesModel" "isFull" "Z" ∈ wsX12_tick := by decide +kernel
set_option maxRecDepth 100000 in
theorem ulX12_tick_X12 : ∀ w ∈ u_ws RX12 TX12 42, w ∈ wsX12_tick := by decide +kernel
set_option maxHeartbeats 4000000 in
set_option maxRecDepth 100000 in
theorem m_X12_tick (a0 : Option Nat) (x1 : Int32) (x2 : Int32) (S : St) : ∀ l D cy H0 o, f_X12_tick a0 x1 x2 S = some o → Met l yX12_tick wsX12_tick rmX12_tick (Pq D cy H0 [va_rf a0, .int x1, .int x2] S) (Qx D cy H0 (cvI o)) 0 0 (fun q => H0.size ≤ q) := by
  refine met_of (cc := cX12_tick) (maxL := 3) (ret := (some .int)) [va_rf a0, .int x1, .int x2] [(0, va_rf a0), (1, .int x1), (2, .int x2)] (by decide) rfl rfl (by simp [lg_sl, va_rf_cat, vi_cat, vl_cat]) (by simp [lv_args, va_rf_cat, vi_cat, vl_cat]) (fun Γ C => ?_)
  unfold f_X12_tick
  refine g_aload_n C dX12_tick_0 rfl 0 rfl ?_
  refine g_iconst C (v := (0 : Int32)) dX12_tick_1 (by decide) ?_
  refine g_putI C (ci := 11) (k := 0) (ty0 := tyX12) dX12_tick_2 rfl (by decide) (by decide) (by decide) tyX12_ok nmX12 ulX12_tick_X12 flX12_tick_1 rfl rfl ⟨rfl, rfl⟩ (fun S1 eS1 => ?_)
  refine g_iload_n C dX12_tick_5 rfl 2 rfl ?_
  refine g_i2l C dX12_tick_6 ?_
  refine g_lconst C (v := (0 : Int64)) dX12_tick_7 (by decide) ?_
  refine g_ldc2 C (v := (7 : Int64)) dX12_tick_8 (by decide +kernel) ?_
  refine g_callS C (n := 3) [.long x2.toInt64, .long (0 : Int64), .long (7 : Int64)] [] (m_X12_in x2.toInt64 (0 : Int64) (7 : Int64) S1) dX12_tick_11 gX12_tick_X12_in rfl ⟨rfl, rfl⟩ (by decide +kernel) ⟨by decide, by decide⟩ ⟨by decide, by decide⟩ rfl rfl (by first | exact Nat.le_of_ble_eq_true rfl | simp [va_rf_cat, vi_cat, vl_cat]) (fun o2 eo2 => ?_)
  show G Γ cvI 3 0 0 14 [(0, va_rf a0), (1, .int x1), (2, .int x2)] [.int o2.1] o2.2 _
  refine g_if_ne C (tgt := 20) dX12_tick_14 (by decide) (fun h3 => ?_) (fun h3 => ?_)
  · refine g_ldc C (v := (-1000001 : Int32)) dX12_tick_17 (by decide +kernel) ?_
    exact g_iret C dX12_tick_19 ⟨by decide, by decide⟩
  · refine g_aload_n C dX12_tick_20 rfl 0 rfl ?_
    refine g_callV C (n := 0) (ci := 11) [] [] (m_X12_make a0 o2.2) dX12_tick_21 gX12_tick_X12_make rfl ⟨rfl, rfl⟩ (by decide +kernel) ⟨by decide, by decide⟩ ⟨by decide, by decide⟩ rfl (by decide) rfl rfl (by first | exact Nat.le_of_ble_eq_true rfl | simp [va_rf_cat, vi_cat, vl_cat]) (fun o4 eo4 => ?_)
    show G Γ cvI 3 0 0 24 [(0, va_rf a0), (1, .int x1), (2, .int x2)] [] o4 _
    refine g_aload_n C dX12_tick_24 rfl 0 rfl ?_
    refine g_getI C (ci := 11) (k := 16) dX12_tick_25 rfl (by decide) (by decide) (by decide) ulX12_tick_X12 flX12_tick_152 rfl (fun v5 ev5 => ?_)
    refine g_if_eq C (tgt := 34) dX12_tick_28 (by decide) (fun h6 => ?_) (fun h6 => ?_)
    · refine g_iload_n C dX12_tick_34 rfl 1 rfl ?_
      refine g_i2l C dX12_tick_35 ?_
      refine g_lconst C (v := (0 : Int64)) dX12_tick_36 (by decide) ?_
      refine g_aload_n C dX12_tick_37 rfl 0 rfl ?_
      refine g_getI C (ci := 11) (k := 15) dX12_tick_38 rfl (by decide) (by decide) (by decide) ulX12_tick_X12 flX12_tick_149 rfl (fun v7 ev7 => ?_)
      refine g_iconst C (v := (1 : Int32)) dX12_tick_41 (by decide) ?_
      refine g_isub C dX12_tick_42 ?_
      refine g_i2l C dX12_tick_43 ?_
      refine g_callS C (n := 3) [.long x1.toInt64, .long (0 : Int64), .long ((v7 - (1 : Int32)).toInt64)] [] (m_X12_in x1.toInt64 (0 : Int64) ((v7 - (1 : Int32)).toInt64) o4) dX12_tick_44 gX12_tick_X12_in rfl ⟨rfl, rfl⟩ (by decide +kernel) ⟨by decide, by decide⟩ ⟨by decide, by decide⟩ rfl rfl (by first | exact Nat.le_of_ble_eq_true rfl | simp [va_rf_cat, vi_cat, vl_cat]) (fun o8 eo8 => ?_)
      show G Γ cvI 3 0 0 47 [(0, va_rf a0), (1, .int x1), (2, .int x2)] [.int o8.1] o8.2 _
      refine g_if_ne C (tgt := 53) dX12_tick_47 (by decide) (fun h9 => ?_) (fun h9 => ?_)
      · refine g_ldc C (v := (-1000000 : Int32)) dX12_tick_50 (by decide +kernel) ?_
        exact g_iret C dX12_tick_52 ⟨by decide, by decide⟩
      · refine g_iload_n C dX12_tick_53 rfl 2 rfl ?_
        refine g_ite (fun h10 => ?_) (fun h10 => ?_)
        · refine g_tableIn C (v := 0) (off := 42) (tgt := 96) dX12_tick_54 h10 (by decide) (by decide) (by decide) (by decide) ?_
          refine g_aload_n C dX12_tick_96 rfl 0 rfl ?_
          refine g_getR C (ci := 11) (k := 17) dX12_tick_97 rfl (by decide) (by decide) (by decide) ulX12_tick_X12 flX12_tick_55 rfl (fun v11 ev11 => ?_)
          refine g_iload_n C dX12_tick_100 rfl 1 rfl ?_
          refine g_ild C dX12_tick_101 (fun v12 ev12 => ?_)
          exact g_iret C dX12_tick_102 ⟨by decide, by decide⟩
        refine g_ite (fun h13 => ?_) (fun h13 => ?_)
        · refine g_tableIn C (v := 1) (off := 49) (tgt := 103) dX12_tick_54 h13 (by decide) (by decide) (by decide) (by decide) ?_
          refine g_aload_n C dX12_tick_103 rfl 0 rfl ?_
          refine g_getR C (ci := 11) (k := 18) dX12_tick_104 rfl (by decide) (by decide) (by decide) ulX12_tick_X12 flX12_tick_58 rfl (fun v14 ev14 => ?_)
          refine g_iload_n C dX12_tick_107 rfl 1 rfl ?_
          refine g_ild C dX12_tick_108 (fun v15 ev15 => ?_)
          exact g_iret C dX12_tick_109 ⟨by decide, by decide⟩
        refine g_ite (fun h16 => ?_) (fun h16 => ?_)
        · refine g_tableIn C (v := 2) (off := 56) (tgt := 110) dX12_tick_54 h16 (by decide) (by decide) (by decide) (by decide) ?_
          refine g_aload_n C dX12_tick_110 rfl 0 rfl ?_
          refine g_getR C (ci := 11) (k := 19) dX12_tick_111 rfl (by decide) (by decide) (by decide) ulX12_tick_X12 flX12_tick_61 rfl (fun v17 ev17 => ?_)
          refine g_iload_n C dX12_tick_114 rfl 1 rfl ?_
          refine g_zld C dX12_tick_115 (fun v18 ev18 => ?_)
          refine g_if_eq C (tgt := 123) dX12_tick_116 (by decide) (fun h19 => ?_) (fun h19 => ?_)
          · refine g_iconst C (v := (0 : Int32)) dX12_tick_123 (by decide) ?_
            exact g_iret C dX12_tick_124 ⟨by decide, by decide⟩
          · refine g_iconst C (v := (1 : Int32)) dX12_tick_119 (by decide) ?_
            refine g_goto C (tgt := 124) dX12_tick_120 (by decide) ?_
            exact g_iret C dX12_tick_124 ⟨by decide, by decide⟩
        refine g_ite (fun h20 => ?_) (fun h20 => ?_)
        · refine g_tableIn C (v := 3) (off := 71) (tgt := 125) dX12_tick_54 h20 (by decide) (by decide) (by decide) (by decide) ?_
          refine g_aload_n C dX12_tick_125 rfl 0 rfl ?_
          refine g_getR C (ci := 11) (k := 20) dX12_tick_126 rfl (by decide) (by decide) (by decide) ulX12_tick_X12 flX12_tick_64 rfl (fun v21 ev21 => ?_)
          refine g_iload_n C dX12_tick_129 rfl 1 rfl ?_
          refine g_ild C dX12_tick_130 (fun v22 ev22 => ?_)
          exact g_iret C dX12_tick_131 ⟨by decide, by decide⟩
        refine g_ite (fun h23 => ?_) (fun h23 => ?_)
        · refine g_tableIn C (v := 4) (off := 78) (tgt := 132) dX12_tick_54 h23 (by decide) (by decide) (by decide) (by decide) ?_
          refine g_aload_n C dX12_tick_132 rfl 0 rfl ?_
          refine g_getR C (ci := 11) (k := 21) dX12_tick_133 rfl (by decide) (by decide) (by decide) ulX12_tick_X12 flX12_tick_67 rfl (fun v24 ev24 => ?_)
          refine g_iload_n C dX12_tick_136 rfl 1 rfl ?_
          refine g_ild C dX12_tick_137 (fun v25 ev25 => ?_)
          exact g_iret C dX12_tick_138 ⟨by decide, by decide⟩
        refine g_ite (fun h26 => ?_) (fun h26 => ?_)
        · refine g_tableIn C (v := 5) (off := 85) (tgt := 139) dX12_tick_54 h26 (by decide) (by decide) (by decide) (by decide) ?_
          refine g_aload_n C dX12_tick_139 rfl 0 rfl ?_
          refine g_iload_n C dX12_tick_140 rfl 1 rfl ?_
          refine g_callV C (n := 1) (ci := 11) [.int x1] [] (m_X12_isLit a0 x1 o8.2) dX12_tick_141 gX12_tick_X12_isLit rfl ⟨rfl, rfl⟩ (by decide +kernel) ⟨by decide, by decide⟩ ⟨by decide, by decide⟩ rfl (by decide) rfl rfl (by first | exact Nat.le_of_ble_eq_true rfl | simp [va_rf_cat, vi_cat, vl_cat]) (fun o27 eo27 => ?_)
          show G Γ cvI 3 0 0 144 [(0, va_rf a0), (1, .int x1), (2, .int x2)] [.int o27.1] o27.2 _
          refine g_if_eq C (tgt := 151) dX12_tick_144 (by decide) (fun h28 => ?_) (fun h28 => ?_)
          · refine g_iconst C (v := (0 : Int32)) dX12_tick_151 (by decide) ?_
            exact g_iret C dX12_tick_152 ⟨by decide, by decide⟩
          · refine g_iconst C (v := (1 : Int32)) dX12_tick_147 (by decide) ?_
            refine g_goto C (tgt := 152) dX12_tick_148 (by decide) ?_
            exact g_iret C dX12_tick_152 ⟨by decide, by decide⟩
        refine g_ite (fun h29 => ?_) (fun h29 => ?_)
        · refine g_tableIn C (v := 6) (off := 99) (tgt := 153) dX12_tick_54 h29 (by decide) (by decide) (by decide) (by decide) ?_
          refine g_aload_n C dX12_tick_153 rfl 0 rfl ?_
          refine g_getR C (ci := 11) (k := 22) dX12_tick_154 rfl (by decide) (by decide) (by decide) ulX12_tick_X12 flX12_tick_70 rfl (fun v30 ev30 => ?_)
          refine g_iload_n C dX12_tick_157 rfl 1 rfl ?_
          refine g_zld C dX12_tick_158 (fun v31 ev31 => ?_)
          refine g_if_eq C (tgt := 166) dX12_tick_159 (by decide) (fun h32 => ?_) (fun h32 => ?_)
          · refine g_iconst C (v := (0 : Int32)) dX12_tick_166 (by decide) ?_
            exact g_iret C dX12_tick_167 ⟨by decide, by decide⟩
          · refine g_iconst C (v := (1 : Int32)) dX12_tick_162 (by decide) ?_
            refine g_goto C (tgt := 167) dX12_tick_163 (by decide) ?_
            exact g_iret C dX12_tick_167 ⟨by decide, by decide⟩
        refine g_tableOut C (tgt := 168) dX12_tick_54 (by have n0 := sw_n (k := 0) (by decide) h10; have n1 := sw_n (k := 1) (by decide) h13; have n2 := sw_n (k := 2) (by decide) h16; have n3 := sw_n (k := 3) (by decide) h20; have n4 := sw_n (k := 4) (by decide) h23; have n5 := sw_n (k := 5) (by decide) h26; have n6 := sw_n (k := 6) (by decide) h29; omega) (by decide) ?_
        refine g_aload_n C dX12_tick_168 rfl 0 rfl ?_
        refine g_iload_n C dX12_tick_169 rfl 1 rfl ?_
        refine g_callV C (n := 1) (ci := 11) [.int x1] [] (m_X12_lag a0 x1 o8.2) dX12_tick_170 gX12_tick_X12_lag rfl ⟨rfl, rfl⟩ (by decide +kernel) ⟨by decide, by decide⟩ ⟨by decide, by decide⟩ rfl (by decide) rfl rfl (by first | exact Nat.le_of_ble_eq_true rfl | simp [va_rf_cat, vi_cat, vl_cat]) (fun o33 eo33 => ?_)
        show G Γ cvI 3 0 0 173 [(0, va_rf a0), (1, .int x1), (2, .int x2)] [.int o33.1] o33.2 _
        exact g_iret C dX12_tick_173 ⟨by decide, by decide⟩
    · refine g_ldc C (v := (-1000003 : Int32)) dX12_tick_31 (by decide +kernel) ?_
      exact g_iret C dX12_tick_33 ⟨by decide, by decide⟩
abbrev rmX12_all : Room := { frames := 4, cells := 0, slots := 0, locals := 96 }
theorem flX12_all_1 : Cond.fieldLink RX12 1 "LightLinesModel" "thrown" "I" ∈ wsX12_all := by decide +kernel
theorem flX12_all_45 : Cond.fieldLink RX12 45 "LightLinesModel" "rule" "[I" ∈ wsX12_all := by decide +kernel
theorem flX12_all_61 : Cond.fieldLink RX12 61 "LightLinesModel" "isTold" "[Z" ∈ wsX12_all := by decide +kernel
theorem flX12_all_70 : Cond.fieldLink RX12 70 "LightLinesModel" "isShut" "[Z" ∈ wsX12_all := by decide +kernel
theorem flX12_all_73 : Cond.fieldLink RX12 73 "LightLinesModel" "burns" "[I" ∈ wsX12_all := by decide +kernel
theorem flX12_all_149 : Cond.fieldLink RX12 149 "LightLinesModel" "ticks" "I" ∈ wsX12_all := by decide +kernel
theorem flX12_all_152 : Cond.fieldLink RX12 152 "LightLinesModel" "isFull" "Z" ∈ wsX12_all := by decide +kernel
set_option maxRecDepth 100000 in
theorem ulX12_all_X12 : ∀ w ∈ u_ws RX12 TX12 42, w ∈ wsX12_all := by decide +kernel
set_option maxHeartbeats 4000000 in
set_option maxRecDepth 100000 in
theorem t_X12_all_126 {Γ : Cx} (C : CF Γ cX12_all 5 (some .int) wsX12_all RX12 rmX12_all 0 0) (rc41 : Option Nat → Int32 → Int32 → Int32 → Int32 → St → Option (Int32 × St)) (hrc41 : ∀ (a0 : Option Nat) (x1 : Int32) (x2 : Int32) (x3 : Int32) (x4 : Int32) (S : St), G Γ cvI 5 0 0 41 [(0, va_rf a0), (1, .int x1), (2, .int x2), (3, .int x3), (4, .int x4)] [] S (rc41 a0 x1 x2 x3 x4 S)) (a0 : Option Nat) (x1 : Int32) (x2 : Int32) (x4 : Int32) (s0 : Int32) (S : St) : G Γ cvI 5 0 0 126 [(0, va_rf a0), (1, .int x1), (2, .int x2), (4, .int x4)] [.int s0] S (b_X12_all_126 rc41 a0 x1 x2 x4 s0 S) := by
  unfold b_X12_all_126
  refine g_istore_n C (lv2 := [(3, .int s0), (0, va_rf a0), (1, .int x1), (2, .int x2), (4, .int x4)]) dX12_all_126 rfl (by decide) (by first | rfl | simp [va_rf_cat, vi_cat, vl_cat]) ?_
  refine g_iinc1 C dX12_all_127 4 rfl (by decide) (by decide) (fun y1 => ?_)
  refine g_lveq (lv2 := [(4, .int y1), (3, .int s0), (0, va_rf a0), (1, .int x1), (2, .int x2)]) (by first | rfl | simp [va_rf_cat, vi_cat, vl_cat]) ?_
  refine g_goto C (tgt := 41) dX12_all_130 (by decide) ?_
  exact g_sub (lv2 := [(0, va_rf a0), (1, .int x1), (2, .int x2), (3, .int s0), (4, .int y1)]) [2, 3, 4, 1, 0] rfl (hrc41 a0 x1 x2 s0 y1 S)
set_option maxHeartbeats 4000000 in
set_option maxRecDepth 100000 in
theorem t_X12_all_125 {Γ : Cx} (C : CF Γ cX12_all 5 (some .int) wsX12_all RX12 rmX12_all 0 0) (rc41 : Option Nat → Int32 → Int32 → Int32 → Int32 → St → Option (Int32 × St)) (hrc41 : ∀ (a0 : Option Nat) (x1 : Int32) (x2 : Int32) (x3 : Int32) (x4 : Int32) (S : St), G Γ cvI 5 0 0 41 [(0, va_rf a0), (1, .int x1), (2, .int x2), (3, .int x3), (4, .int x4)] [] S (rc41 a0 x1 x2 x3 x4 S)) (a0 : Option Nat) (x1 : Int32) (x2 : Int32) (x3 : Int32) (x4 : Int32) (S : St) : G Γ cvI 5 0 0 125 [(0, va_rf a0), (1, .int x1), (2, .int x2), (3, .int x3), (4, .int x4)] [] S (b_X12_all_125 rc41 a0 x1 x2 x3 x4 S) := by
  unfold b_X12_all_125
  refine g_iload_n C dX12_all_125 rfl 3 rfl ?_
  exact g_sub (lv2 := [(0, va_rf a0), (1, .int x1), (2, .int x2), (4, .int x4)]) [0, 1, 2, 4] rfl (t_X12_all_126 C rc41 hrc41 a0 x1 x2 x4 x3 S)
set_option maxHeartbeats 4000000 in
set_option maxRecDepth 100000 in
theorem t_X12_all_99 {Γ : Cx} (C : CF Γ cX12_all 5 (some .int) wsX12_all RX12 rmX12_all 0 0) (rc41 : Option Nat → Int32 → Int32 → Int32 → Int32 → St → Option (Int32 × St)) (hrc41 : ∀ (a0 : Option Nat) (x1 : Int32) (x2 : Int32) (x3 : Int32) (x4 : Int32) (S : St), G Γ cvI 5 0 0 41 [(0, va_rf a0), (1, .int x1), (2, .int x2), (3, .int x3), (4, .int x4)] [] S (rc41 a0 x1 x2 x3 x4 S)) (a0 : Option Nat) (x1 : Int32) (x3 : Int32) (x4 : Int32) (s0 : Int32) (s1 : Int32) (S : St) : G Γ cvI 5 0 0 99 [(0, va_rf a0), (1, .int x1), (3, .int x3), (4, .int x4)] [.int s1, .int s0] S (b_X12_all_99 rc41 a0 x1 x3 x4 s0 s1 S) := by
  unfold b_X12_all_99
  refine g_iadd C dX12_all_99 ?_
  refine g_topi (fun y1 => ?_)
  refine g_istore_n C (lv2 := [(2, .int y1), (0, va_rf a0), (1, .int x1), (3, .int x3), (4, .int x4)]) dX12_all_100 rfl (by decide) (by first | rfl | simp [va_rf_cat, vi_cat, vl_cat]) ?_
  refine g_iload_n C dX12_all_101 rfl 2 rfl ?_
  refine g_iconst C (v := (3 : Int32)) dX12_all_102 (by decide) ?_
  refine g_icmp_ne C (tgt := 125) dX12_all_103 (by decide) (fun h2 => ?_) (fun h2 => ?_)
  · refine g_aload_n C dX12_all_106 rfl 1 rfl ?_
    refine g_iload C dX12_all_107 4 rfl ?_
    refine g_callV C (n := 1) (ci := 11) [.int x4] [] (m_X12_lag a0 x4 S) dX12_all_109 gX12_all_X12_lag rfl ⟨rfl, rfl⟩ (by decide +kernel) ⟨by decide, by decide⟩ ⟨by decide, by decide⟩ rfl (by decide) rfl rfl (by first | exact Nat.le_of_ble_eq_true rfl | simp [va_rf_cat, vi_cat, vl_cat]) (fun o3 eo3 => ?_)
    show G Γ cvI 5 0 0 112 [(2, .int y1), (0, va_rf a0), (1, .int x1), (3, .int x3), (4, .int x4)] [.int o3.1] o3.2 _
    refine g_iload_n C dX12_all_112 rfl 3 rfl ?_
    refine g_icmp_le C (tgt := 125) dX12_all_113 (by decide) (fun h4 => ?_) (fun h4 => ?_)
    · exact g_sub (lv2 := [(0, va_rf a0), (1, .int x1), (2, .int y1), (3, .int x3), (4, .int x4)]) [1, 2, 0, 3, 4] rfl (t_X12_all_125 C rc41 hrc41 a0 x1 y1 x3 x4 o3.2)
    · refine g_aload_n C dX12_all_116 rfl 1 rfl ?_
      refine g_iload C dX12_all_117 4 rfl ?_
      refine g_callV C (n := 1) (ci := 11) [.int x4] [] (m_X12_lag a0 x4 o3.2) dX12_all_119 gX12_all_X12_lag rfl ⟨rfl, rfl⟩ (by decide +kernel) ⟨by decide, by decide⟩ ⟨by decide, by decide⟩ rfl (by decide) rfl rfl (by first | exact Nat.le_of_ble_eq_true rfl | simp [va_rf_cat, vi_cat, vl_cat]) (fun o5 eo5 => ?_)
      show G Γ cvI 5 0 0 122 [(2, .int y1), (0, va_rf a0), (1, .int x1), (3, .int x3), (4, .int x4)] [.int o5.1] o5.2 _
      refine g_goto C (tgt := 126) dX12_all_122 (by decide) ?_
      exact g_sub (lv2 := [(0, va_rf a0), (1, .int x1), (2, .int y1), (4, .int x4)]) [1, 2, 0, 4] rfl (t_X12_all_126 C rc41 hrc41 a0 x1 y1 x4 o5.1 o5.2)
  · exact g_sub (lv2 := [(0, va_rf a0), (1, .int x1), (2, .int y1), (3, .int x3), (4, .int x4)]) [1, 2, 0, 3, 4] rfl (t_X12_all_125 C rc41 hrc41 a0 x1 y1 x3 x4 S)
set_option maxHeartbeats 4000000 in
set_option maxRecDepth 100000 in
theorem t_X12_all_94 {Γ : Cx} (C : CF Γ cX12_all 5 (some .int) wsX12_all RX12 rmX12_all 0 0) (rc41 : Option Nat → Int32 → Int32 → Int32 → Int32 → St → Option (Int32 × St)) (hrc41 : ∀ (a0 : Option Nat) (x1 : Int32) (x2 : Int32) (x3 : Int32) (x4 : Int32) (S : St), G Γ cvI 5 0 0 41 [(0, va_rf a0), (1, .int x1), (2, .int x2), (3, .int x3), (4, .int x4)] [] S (rc41 a0 x1 x2 x3 x4 S)) (a0 : Option Nat) (x1 : Int32) (x3 : Int32) (x4 : Int32) (s0 : Int32) (S : St) : G Γ cvI 5 0 0 94 [(0, va_rf a0), (1, .int x1), (3, .int x3), (4, .int x4)] [.int s0] S (b_X12_all_94 rc41 a0 x1 x3 x4 s0 S) := by
  unfold b_X12_all_94
  refine g_iconst C (v := (1 : Int32)) dX12_all_94 (by decide) ?_
  refine g_goto C (tgt := 99) dX12_all_95 (by decide) ?_
  exact g_sub (lv2 := [(0, va_rf a0), (1, .int x1), (3, .int x3), (4, .int x4)]) [0, 1, 2, 3] rfl (t_X12_all_99 C rc41 hrc41 a0 x1 x3 x4 s0 (1 : Int32) S)
set_option maxHeartbeats 4000000 in
set_option maxRecDepth 100000 in
theorem t_X12_all_98 {Γ : Cx} (C : CF Γ cX12_all 5 (some .int) wsX12_all RX12 rmX12_all 0 0) (rc41 : Option Nat → Int32 → Int32 → Int32 → Int32 → St → Option (Int32 × St)) (hrc41 : ∀ (a0 : Option Nat) (x1 : Int32) (x2 : Int32) (x3 : Int32) (x4 : Int32) (S : St), G Γ cvI 5 0 0 41 [(0, va_rf a0), (1, .int x1), (2, .int x2), (3, .int x3), (4, .int x4)] [] S (rc41 a0 x1 x2 x3 x4 S)) (a0 : Option Nat) (x1 : Int32) (x3 : Int32) (x4 : Int32) (s0 : Int32) (S : St) : G Γ cvI 5 0 0 98 [(0, va_rf a0), (1, .int x1), (3, .int x3), (4, .int x4)] [.int s0] S (b_X12_all_98 rc41 a0 x1 x3 x4 s0 S) := by
  unfold b_X12_all_98
  refine g_iconst C (v := (0 : Int32)) dX12_all_98 (by decide) ?_
  exact g_sub (lv2 := [(0, va_rf a0), (1, .int x1), (3, .int x3), (4, .int x4)]) [0, 1, 2, 3] rfl (t_X12_all_99 C rc41 hrc41 a0 x1 x3 x4 s0 (0 : Int32) S)
set_option maxHeartbeats 4000000 in
set_option maxRecDepth 100000 in
theorem t_X12_all_79 {Γ : Cx} (C : CF Γ cX12_all 5 (some .int) wsX12_all RX12 rmX12_all 0 0) (rc41 : Option Nat → Int32 → Int32 → Int32 → Int32 → St → Option (Int32 × St)) (hrc41 : ∀ (a0 : Option Nat) (x1 : Int32) (x2 : Int32) (x3 : Int32) (x4 : Int32) (S : St), G Γ cvI 5 0 0 41 [(0, va_rf a0), (1, .int x1), (2, .int x2), (3, .int x3), (4, .int x4)] [] S (rc41 a0 x1 x2 x3 x4 S)) (a0 : Option Nat) (x1 : Int32) (x3 : Int32) (x4 : Int32) (s0 : Int32) (S : St) : G Γ cvI 5 0 0 79 [(0, va_rf a0), (1, .int x1), (3, .int x3), (4, .int x4)] [.int s0] S (b_X12_all_79 rc41 a0 x1 x3 x4 s0 S) := by
  unfold b_X12_all_79
  refine g_iload_n C dX12_all_79 rfl 1 rfl ?_
  refine g_iconst C (v := (2 : Int32)) dX12_all_80 (by decide) ?_
  refine g_icmp_ne C (tgt := 98) dX12_all_81 (by decide) (fun h1 => ?_) (fun h1 => ?_)
  · refine g_aload_n C dX12_all_84 rfl 0 rfl ?_
    refine g_getR C (ci := 11) (k := 22) dX12_all_85 rfl (by decide) (by decide) (by decide) ulX12_all_X12 flX12_all_70 rfl (fun v2 ev2 => ?_)
    refine g_iload C dX12_all_88 3 rfl ?_
    refine g_zld C dX12_all_90 (fun v3 ev3 => ?_)
    refine g_if_eq C (tgt := 98) dX12_all_91 (by decide) (fun h4 => ?_) (fun h4 => ?_)
    · exact g_sub (lv2 := [(0, va_rf a0), (1, .int x1), (3, .int x3), (4, .int x4)]) [0, 1, 2, 3] rfl (t_X12_all_98 C rc41 hrc41 a0 x1 x3 x4 s0 S)
    · exact g_sub (lv2 := [(0, va_rf a0), (1, .int x1), (3, .int x3), (4, .int x4)]) [0, 1, 2, 3] rfl (t_X12_all_94 C rc41 hrc41 a0 x1 x3 x4 s0 S)
  · exact g_sub (lv2 := [(0, va_rf a0), (1, .int x1), (3, .int x3), (4, .int x4)]) [0, 1, 2, 3] rfl (t_X12_all_98 C rc41 hrc41 a0 x1 x3 x4 s0 S)
set_option maxHeartbeats 4000000 in
set_option maxRecDepth 100000 in
theorem t_X12_all_65 {Γ : Cx} (C : CF Γ cX12_all 5 (some .int) wsX12_all RX12 rmX12_all 0 0) (rc41 : Option Nat → Int32 → Int32 → Int32 → Int32 → St → Option (Int32 × St)) (hrc41 : ∀ (a0 : Option Nat) (x1 : Int32) (x2 : Int32) (x3 : Int32) (x4 : Int32) (S : St), G Γ cvI 5 0 0 41 [(0, va_rf a0), (1, .int x1), (2, .int x2), (3, .int x3), (4, .int x4)] [] S (rc41 a0 x1 x2 x3 x4 S)) (a0 : Option Nat) (x1 : Int32) (x3 : Int32) (x4 : Int32) (s0 : Int32) (S : St) : G Γ cvI 5 0 0 65 [(0, va_rf a0), (1, .int x1), (3, .int x3), (4, .int x4)] [.int s0] S (b_X12_all_65 rc41 a0 x1 x3 x4 s0 S) := by
  unfold b_X12_all_65
  refine g_iload_n C dX12_all_65 rfl 1 rfl ?_
  refine g_iconst C (v := (1 : Int32)) dX12_all_66 (by decide) ?_
  refine g_icmp_ne C (tgt := 79) dX12_all_67 (by decide) (fun h1 => ?_) (fun h1 => ?_)
  · refine g_aload_n C dX12_all_70 rfl 0 rfl ?_
    refine g_iload C dX12_all_71 3 rfl ?_
    refine g_callV C (n := 1) (ci := 11) [.int x4] [.int s0] (m_X12_isLit a0 x4 S) dX12_all_73 gX12_all_X12_isLit rfl ⟨rfl, rfl⟩ (by decide +kernel) ⟨by decide, by decide⟩ ⟨by decide, by decide⟩ rfl (by decide) rfl rfl (by first | exact Nat.le_of_ble_eq_true rfl | simp [va_rf_cat, vi_cat, vl_cat]) (fun o2 eo2 => ?_)
    show G Γ cvI 5 0 0 76 [(0, va_rf a0), (1, .int x1), (3, .int x3), (4, .int x4)] [.int o2.1, .int s0] o2.2 _
    refine g_if_ne C (tgt := 94) dX12_all_76 (by decide) (fun h3 => ?_) (fun h3 => ?_)
    · exact g_sub (lv2 := [(0, va_rf a0), (1, .int x1), (3, .int x3), (4, .int x4)]) [0, 1, 2, 3] rfl (t_X12_all_79 C rc41 hrc41 a0 x1 x3 x4 s0 o2.2)
    · exact g_sub (lv2 := [(0, va_rf a0), (1, .int x1), (3, .int x3), (4, .int x4)]) [0, 1, 2, 3] rfl (t_X12_all_94 C rc41 hrc41 a0 x1 x3 x4 s0 o2.2)
  · exact g_sub (lv2 := [(0, va_rf a0), (1, .int x1), (3, .int x3), (4, .int x4)]) [0, 1, 2, 3] rfl (t_X12_all_79 C rc41 hrc41 a0 x1 x3 x4 s0 S)
set_option maxHeartbeats 4000000 in
set_option maxRecDepth 100000 in
theorem t_X12_all_170 {Γ : Cx} (C : CF Γ cX12_all 5 (some .int) wsX12_all RX12 rmX12_all 0 0) (rc136 : Option Nat → Int32 → Int32 → Int32 → Int32 → St → Option (Int32 × St)) (hrc136 : ∀ (a0 : Option Nat) (x1 : Int32) (x2 : Int32) (x3 : Int32) (x4 : Int32) (S : St), G Γ cvI 5 0 0 136 [(0, va_rf a0), (1, .int x1), (2, .int x2), (3, .int x3), (4, .int x4)] [] S (rc136 a0 x1 x2 x3 x4 S)) (a0 : Option Nat) (x1 : Int32) (x2 : Int32) (x4 : Int32) (s0 : Int32) (S : St) : G Γ cvI 5 0 0 170 [(0, va_rf a0), (1, .int x1), (2, .int x2), (4, .int x4)] [.int s0] S (b_X12_all_170 rc136 a0 x1 x2 x4 s0 S) := by
  unfold b_X12_all_170
  refine g_istore_n C (lv2 := [(3, .int s0), (0, va_rf a0), (1, .int x1), (2, .int x2), (4, .int x4)]) dX12_all_170 rfl (by decide) (by first | rfl | simp [va_rf_cat, vi_cat, vl_cat]) ?_
  refine g_iinc1 C dX12_all_171 4 rfl (by decide) (by decide) (fun y1 => ?_)
  refine g_lveq (lv2 := [(4, .int y1), (3, .int s0), (0, va_rf a0), (1, .int x1), (2, .int x2)]) (by first | rfl | simp [va_rf_cat, vi_cat, vl_cat]) ?_
  refine g_goto C (tgt := 136) dX12_all_174 (by decide) ?_
  exact g_sub (lv2 := [(0, va_rf a0), (1, .int x1), (2, .int x2), (3, .int s0), (4, .int y1)]) [2, 3, 4, 1, 0] rfl (hrc136 a0 x1 x2 s0 y1 S)
set_option maxHeartbeats 4000000 in
set_option maxRecDepth 100000 in
theorem t_X12_all_177 {Γ : Cx} (C : CF Γ cX12_all 5 (some .int) wsX12_all RX12 rmX12_all 0 0) (a0 : Option Nat) (x1 : Int32) (x2 : Int32) (x3 : Int32) (S : St) : G Γ cvI 5 0 0 177 [(0, va_rf a0), (1, .int x1), (2, .int x2), (3, .int x3)] [] S (b_X12_all_177  a0 x1 x2 x3 S) := by
  unfold b_X12_all_177
  refine g_iload_n C dX12_all_177 rfl 1 rfl ?_
  refine g_iconst C (v := (3 : Int32)) dX12_all_178 (by decide) ?_
  refine g_icmp_ge C (tgt := 186) dX12_all_179 (by decide) (fun h1 => ?_) (fun h1 => ?_)
  · refine g_iload_n C dX12_all_186 rfl 1 rfl ?_
    refine g_iconst C (v := (5 : Int32)) dX12_all_187 (by decide) ?_
    refine g_icmp_ge C (tgt := 195) dX12_all_188 (by decide) (fun h2 => ?_) (fun h2 => ?_)
    · refine g_iload_n C dX12_all_195 rfl 3 rfl ?_
      refine g_aload_n C dX12_all_196 rfl 0 rfl ?_
      refine g_getR C (ci := 11) (k := 12) dX12_all_197 rfl (by decide) (by decide) (by decide) ulX12_all_X12 flX12_all_45 rfl (fun v3 ev3 => ?_)
      refine g_iconst C (v := (5 : Int32)) dX12_all_200 (by decide) ?_
      refine g_ild C dX12_all_201 (fun v4 ev4 => ?_)
      refine g_icmp_le C (tgt := 209) dX12_all_202 (by decide) (fun h5 => ?_) (fun h5 => ?_)
      · refine g_iconst C (v := (1 : Int32)) dX12_all_209 (by decide) ?_
        exact g_iret C dX12_all_210 ⟨by decide, by decide⟩
      · refine g_iconst C (v := (0 : Int32)) dX12_all_205 (by decide) ?_
        refine g_goto C (tgt := 210) dX12_all_206 (by decide) ?_
        exact g_iret C dX12_all_210 ⟨by decide, by decide⟩
    · refine g_iload_n C dX12_all_191 rfl 3 rfl ?_
      refine g_goto C (tgt := 210) dX12_all_192 (by decide) ?_
      exact g_iret C dX12_all_210 ⟨by decide, by decide⟩
  · refine g_iload_n C dX12_all_182 rfl 2 rfl ?_
    refine g_goto C (tgt := 210) dX12_all_183 (by decide) ?_
    exact g_iret C dX12_all_210 ⟨by decide, by decide⟩
set_option maxHeartbeats 4000000 in
set_option maxRecDepth 100000 in
theorem t_X12_all_136 {Γ : Cx} (C : CF Γ cX12_all 5 (some .int) wsX12_all RX12 rmX12_all 0 0) : ∀ (n : Nat) (a0 : Option Nat) (x1 : Int32) (x2 : Int32) (x3 : Int32) (x4 : Int32) (S : St), G Γ cvI 5 0 0 136 [(0, va_rf a0), (1, .int x1), (2, .int x2), (3, .int x3), (4, .int x4)] [] S (b_X12_all_136  n a0 x1 x2 x3 x4 S) := by
  intro n
  induction n with
  | zero => intro a0 x1 x2 x3 x4 S; exact g_none
  | succ n ih =>
    intro a0 x1 x2 x3 x4 S
    rw [b_X12_all_136]
    refine g_iload C dX12_all_136 4 rfl ?_
    refine g_bipush C (v := (121 : Int32)) dX12_all_138 (by decide) ?_
    refine g_icmp_ge C (tgt := 177) dX12_all_140 (by decide) (fun h1 => ?_) (fun h1 => ?_)
    · exact g_sub (lv2 := [(0, va_rf a0), (1, .int x1), (2, .int x2), (3, .int x3)]) [0, 1, 2, 3] rfl (t_X12_all_177 C a0 x1 x2 x3 S)
    · refine g_iload_n C dX12_all_143 rfl 1 rfl ?_
      refine g_iconst C (v := (3 : Int32)) dX12_all_144 (by decide) ?_
      refine g_icmp_le C (tgt := 177) dX12_all_145 (by decide) (fun h2 => ?_) (fun h2 => ?_)
      · exact g_sub (lv2 := [(0, va_rf a0), (1, .int x1), (2, .int x2), (3, .int x3)]) [0, 1, 2, 3] rfl (t_X12_all_177 C a0 x1 x2 x3 S)
      · refine g_aload_n C dX12_all_148 rfl 0 rfl ?_
        refine g_getR C (ci := 11) (k := 23) dX12_all_149 rfl (by decide) (by decide) (by decide) ulX12_all_X12 flX12_all_73 rfl (fun v3 ev3 => ?_)
        refine g_iload C dX12_all_152 4 rfl ?_
        refine g_ild C dX12_all_154 (fun v4 ev4 => ?_)
        refine g_iload_n C dX12_all_155 rfl 3 rfl ?_
        refine g_icmp_le C (tgt := 169) dX12_all_156 (by decide) (fun h5 => ?_) (fun h5 => ?_)
        · refine g_iload_n C dX12_all_169 rfl 3 rfl ?_
          exact g_sub (lv2 := [(0, va_rf a0), (1, .int x1), (2, .int x2), (4, .int x4)]) [0, 1, 2, 4] rfl (t_X12_all_170 C (b_X12_all_136 n) ih a0 x1 x2 x4 x3 S)
        · refine g_aload_n C dX12_all_159 rfl 0 rfl ?_
          refine g_getR C (ci := 11) (k := 23) dX12_all_160 rfl (by decide) (by decide) (by decide) ulX12_all_X12 flX12_all_73 rfl (fun v6 ev6 => ?_)
          refine g_iload C dX12_all_163 4 rfl ?_
          refine g_ild C dX12_all_165 (fun v7 ev7 => ?_)
          refine g_goto C (tgt := 170) dX12_all_166 (by decide) ?_
          exact g_sub (lv2 := [(0, va_rf a0), (1, .int x1), (2, .int x2), (4, .int x4)]) [0, 1, 2, 4] rfl (t_X12_all_170 C (b_X12_all_136 n) ih a0 x1 x2 x4 v7 S)
set_option maxHeartbeats 4000000 in
set_option maxRecDepth 100000 in
theorem t_X12_all_133 {Γ : Cx} (C : CF Γ cX12_all 5 (some .int) wsX12_all RX12 rmX12_all 0 0) (a0 : Option Nat) (x1 : Int32) (x2 : Int32) (x3 : Int32) (S : St) : G Γ cvI 5 0 0 133 [(0, va_rf a0), (1, .int x1), (2, .int x2), (3, .int x3)] [] S (b_X12_all_133  a0 x1 x2 x3 S) := by
  unfold b_X12_all_133
  refine g_iconst C (v := (0 : Int32)) dX12_all_133 (by decide) ?_
  refine g_istore C (lv2 := [(4, .int (0 : Int32)), (0, va_rf a0), (1, .int x1), (2, .int x2), (3, .int x3)]) dX12_all_134 (by decide) (by first | rfl | simp [va_rf_cat, vi_cat, vl_cat]) ?_
  exact g_sub (lv2 := [(0, va_rf a0), (1, .int x1), (2, .int x2), (3, .int x3), (4, .int (0 : Int32))]) [1, 2, 3, 4, 0] rfl (t_X12_all_136 C FU a0 x1 x2 x3 (0 : Int32) S)
set_option maxHeartbeats 4000000 in
set_option maxRecDepth 100000 in
theorem t_X12_all_41 {Γ : Cx} (C : CF Γ cX12_all 5 (some .int) wsX12_all RX12 rmX12_all 0 0) : ∀ (n : Nat) (a0 : Option Nat) (x1 : Int32) (x2 : Int32) (x3 : Int32) (x4 : Int32) (S : St), G Γ cvI 5 0 0 41 [(0, va_rf a0), (1, .int x1), (2, .int x2), (3, .int x3), (4, .int x4)] [] S (b_X12_all_41  n a0 x1 x2 x3 x4 S) := by
  intro n
  induction n with
  | zero => intro a0 x1 x2 x3 x4 S; exact g_none
  | succ n ih =>
    intro a0 x1 x2 x3 x4 S
    rw [b_X12_all_41]
    refine g_iload C dX12_all_41 4 rfl ?_
    refine g_aload_n C dX12_all_43 rfl 0 rfl ?_
    refine g_getI C (ci := 11) (k := 15) dX12_all_44 rfl (by decide) (by decide) (by decide) ulX12_all_X12 flX12_all_149 rfl (fun v1 ev1 => ?_)
    refine g_icmp_ge C (tgt := 133) dX12_all_47 (by decide) (fun h2 => ?_) (fun h2 => ?_)
    · exact g_sub (lv2 := [(0, va_rf a0), (1, .int x1), (2, .int x2), (3, .int x3)]) [0, 1, 2, 3] rfl (t_X12_all_133 C a0 x1 x2 x3 S)
    · refine g_iload_n C dX12_all_50 rfl 2 rfl ?_
      refine g_iload_n C dX12_all_51 rfl 1 rfl ?_
      refine g_if_ne C (tgt := 65) dX12_all_52 (by decide) (fun h3 => ?_) (fun h3 => ?_)
      · refine g_aload_n C dX12_all_55 rfl 0 rfl ?_
        refine g_getR C (ci := 11) (k := 19) dX12_all_56 rfl (by decide) (by decide) (by decide) ulX12_all_X12 flX12_all_61 rfl (fun v4 ev4 => ?_)
        refine g_iload C dX12_all_59 4 rfl ?_
        refine g_zld C dX12_all_61 (fun v5 ev5 => ?_)
        refine g_if_ne C (tgt := 94) dX12_all_62 (by decide) (fun h6 => ?_) (fun h6 => ?_)
        · exact g_sub (lv2 := [(0, va_rf a0), (1, .int x1), (3, .int x3), (4, .int x4)]) [0, 1, 3, 4] rfl (t_X12_all_65 C (b_X12_all_41 n) ih a0 x1 x3 x4 x2 S)
        · exact g_sub (lv2 := [(0, va_rf a0), (1, .int x1), (3, .int x3), (4, .int x4)]) [0, 1, 3, 4] rfl (t_X12_all_94 C (b_X12_all_41 n) ih a0 x1 x3 x4 x2 S)
      · exact g_sub (lv2 := [(0, va_rf a0), (1, .int x1), (3, .int x3), (4, .int x4)]) [0, 1, 3, 4] rfl (t_X12_all_65 C (b_X12_all_41 n) ih a0 x1 x3 x4 x2 S)
set_option maxHeartbeats 4000000 in
set_option maxRecDepth 100000 in
theorem m_X12_all (a0 : Option Nat) (x1 : Int32) (S : St) : ∀ l D cy H0 o, f_X12_all a0 x1 S = some o → Met l yX12_all wsX12_all rmX12_all (Pq D cy H0 [va_rf a0, .int x1] S) (Qx D cy H0 (cvI o)) 0 0 (fun q => H0.size ≤ q) := by
  refine met_of (cc := cX12_all) (maxL := 5) (ret := (some .int)) [va_rf a0, .int x1] [(0, va_rf a0), (1, .int x1)] (by decide) rfl rfl (by simp [lg_sl, va_rf_cat, vi_cat, vl_cat]) (by simp [lv_args, va_rf_cat, vi_cat, vl_cat]) (fun Γ C => ?_)
  unfold f_X12_all
  refine g_aload_n C dX12_all_0 rfl 0 rfl ?_
  refine g_iconst C (v := (0 : Int32)) dX12_all_1 (by decide) ?_
  refine g_putI C (ci := 11) (k := 0) (ty0 := tyX12) dX12_all_2 rfl (by decide) (by decide) (by decide) tyX12_ok nmX12 ulX12_all_X12 flX12_all_1 rfl rfl ⟨rfl, rfl⟩ (fun S1 eS1 => ?_)
  refine g_iload_n C dX12_all_5 rfl 1 rfl ?_
  refine g_i2l C dX12_all_6 ?_
  refine g_lconst C (v := (0 : Int64)) dX12_all_7 (by decide) ?_
  refine g_ldc2 C (v := (5 : Int64)) dX12_all_8 (by decide +kernel) ?_
  refine g_callS C (n := 3) [.long x1.toInt64, .long (0 : Int64), .long (5 : Int64)] [] (m_X12_in x1.toInt64 (0 : Int64) (5 : Int64) S1) dX12_all_11 gX12_all_X12_in rfl ⟨rfl, rfl⟩ (by decide +kernel) ⟨by decide, by decide⟩ ⟨by decide, by decide⟩ rfl rfl (by first | exact Nat.le_of_ble_eq_true rfl | simp [va_rf_cat, vi_cat, vl_cat]) (fun o2 eo2 => ?_)
  show G Γ cvI 5 0 0 14 [(0, va_rf a0), (1, .int x1)] [.int o2.1] o2.2 _
  refine g_if_ne C (tgt := 20) dX12_all_14 (by decide) (fun h3 => ?_) (fun h3 => ?_)
  · refine g_ldc C (v := (-1000001 : Int32)) dX12_all_17 (by decide +kernel) ?_
    exact g_iret C dX12_all_19 ⟨by decide, by decide⟩
  · refine g_aload_n C dX12_all_20 rfl 0 rfl ?_
    refine g_callV C (n := 0) (ci := 11) [] [] (m_X12_make a0 o2.2) dX12_all_21 gX12_all_X12_make rfl ⟨rfl, rfl⟩ (by decide +kernel) ⟨by decide, by decide⟩ ⟨by decide, by decide⟩ rfl (by decide) rfl rfl (by first | exact Nat.le_of_ble_eq_true rfl | simp [va_rf_cat, vi_cat, vl_cat]) (fun o4 eo4 => ?_)
    show G Γ cvI 5 0 0 24 [(0, va_rf a0), (1, .int x1)] [] o4 _
    refine g_aload_n C dX12_all_24 rfl 0 rfl ?_
    refine g_getI C (ci := 11) (k := 16) dX12_all_25 rfl (by decide) (by decide) (by decide) ulX12_all_X12 flX12_all_152 rfl (fun v5 ev5 => ?_)
    refine g_if_eq C (tgt := 34) dX12_all_28 (by decide) (fun h6 => ?_) (fun h6 => ?_)
    · refine g_iconst C (v := (0 : Int32)) dX12_all_34 (by decide) ?_
      refine g_istore_n C (lv2 := [(2, .int (0 : Int32)), (0, va_rf a0), (1, .int x1)]) dX12_all_35 rfl (by decide) (by first | rfl | simp [va_rf_cat, vi_cat, vl_cat]) ?_
      refine g_iconst C (v := (0 : Int32)) dX12_all_36 (by decide) ?_
      refine g_istore_n C (lv2 := [(3, .int (0 : Int32)), (2, .int (0 : Int32)), (0, va_rf a0), (1, .int x1)]) dX12_all_37 rfl (by decide) (by first | rfl | simp [va_rf_cat, vi_cat, vl_cat]) ?_
      refine g_iconst C (v := (0 : Int32)) dX12_all_38 (by decide) ?_
      refine g_istore C (lv2 := [(4, .int (0 : Int32)), (3, .int (0 : Int32)), (2, .int (0 : Int32)), (0, va_rf a0), (1, .int x1)]) dX12_all_39 (by decide) (by first | rfl | simp [va_rf_cat, vi_cat, vl_cat]) ?_
      exact g_sub (lv2 := [(0, va_rf a0), (1, .int x1), (2, .int (0 : Int32)), (3, .int (0 : Int32)), (4, .int (0 : Int32))]) [3, 4, 2, 1, 0] rfl (t_X12_all_41 C FU a0 x1 (0 : Int32) (0 : Int32) (0 : Int32) o4)
    · refine g_ldc C (v := (-1000003 : Int32)) dX12_all_31 (by decide +kernel) ?_
      exact g_iret C dX12_all_33 ⟨by decide, by decide⟩
abbrev rmX12_burn : Room := { frames := 4, cells := 0, slots := 0, locals := 96 }
theorem flX12_burn_1 : Cond.fieldLink RX12 1 "LightLinesModel" "thrown" "I" ∈ wsX12_burn := by decide +kernel
theorem flX12_burn_73 : Cond.fieldLink RX12 73 "LightLinesModel" "burns" "[I" ∈ wsX12_burn := by decide +kernel
theorem flX12_burn_152 : Cond.fieldLink RX12 152 "LightLinesModel" "isFull" "Z" ∈ wsX12_burn := by decide +kernel
set_option maxRecDepth 100000 in
theorem ulX12_burn_X12 : ∀ w ∈ u_ws RX12 TX12 42, w ∈ wsX12_burn := by decide +kernel
set_option maxHeartbeats 4000000 in
set_option maxRecDepth 100000 in
theorem m_X12_burn (a0 : Option Nat) (x1 : Int32) (x2 : Int32) (S : St) : ∀ l D cy H0 o, f_X12_burn a0 x1 x2 S = some o → Met l yX12_burn wsX12_burn rmX12_burn (Pq D cy H0 [va_rf a0, .int x1, .int x2] S) (Qx D cy H0 (cvI o)) 0 0 (fun q => H0.size ≤ q) := by
  refine met_of (cc := cX12_burn) (maxL := 3) (ret := (some .int)) [va_rf a0, .int x1, .int x2] [(0, va_rf a0), (1, .int x1), (2, .int x2)] (by decide) rfl rfl (by simp [lg_sl, va_rf_cat, vi_cat, vl_cat]) (by simp [lv_args, va_rf_cat, vi_cat, vl_cat]) (fun Γ C => ?_)
  unfold f_X12_burn
  refine g_aload_n C dX12_burn_0 rfl 0 rfl ?_
  refine g_iconst C (v := (0 : Int32)) dX12_burn_1 (by decide) ?_
  refine g_putI C (ci := 11) (k := 0) (ty0 := tyX12) dX12_burn_2 rfl (by decide) (by decide) (by decide) tyX12_ok nmX12 ulX12_burn_X12 flX12_burn_1 rfl rfl ⟨rfl, rfl⟩ (fun S1 eS1 => ?_)
  refine g_iload_n C dX12_burn_5 rfl 1 rfl ?_
  refine g_i2l C dX12_burn_6 ?_
  refine g_lconst C (v := (0 : Int64)) dX12_burn_7 (by decide) ?_
  refine g_ldc2 C (v := (10 : Int64)) dX12_burn_8 (by decide +kernel) ?_
  refine g_callS C (n := 3) [.long x1.toInt64, .long (0 : Int64), .long (10 : Int64)] [] (m_X12_in x1.toInt64 (0 : Int64) (10 : Int64) S1) dX12_burn_11 gX12_burn_X12_in rfl ⟨rfl, rfl⟩ (by decide +kernel) ⟨by decide, by decide⟩ ⟨by decide, by decide⟩ rfl rfl (by first | exact Nat.le_of_ble_eq_true rfl | simp [va_rf_cat, vi_cat, vl_cat]) (fun o2 eo2 => ?_)
  show G Γ cvI 3 0 0 14 [(0, va_rf a0), (1, .int x1), (2, .int x2)] [.int o2.1] o2.2 _
  refine g_if_eq C (tgt := 29) dX12_burn_14 (by decide) (fun h3 => ?_) (fun h3 => ?_)
  · refine g_ldc C (v := (-1000001 : Int32)) dX12_burn_29 (by decide +kernel) ?_
    exact g_iret C dX12_burn_31 ⟨by decide, by decide⟩
  · refine g_iload_n C dX12_burn_17 rfl 2 rfl ?_
    refine g_i2l C dX12_burn_18 ?_
    refine g_lconst C (v := (0 : Int64)) dX12_burn_19 (by decide) ?_
    refine g_ldc2 C (v := (10 : Int64)) dX12_burn_20 (by decide +kernel) ?_
    refine g_callS C (n := 3) [.long x2.toInt64, .long (0 : Int64), .long (10 : Int64)] [] (m_X12_in x2.toInt64 (0 : Int64) (10 : Int64) o2.2) dX12_burn_23 gX12_burn_X12_in rfl ⟨rfl, rfl⟩ (by decide +kernel) ⟨by decide, by decide⟩ ⟨by decide, by decide⟩ rfl rfl (by first | exact Nat.le_of_ble_eq_true rfl | simp [va_rf_cat, vi_cat, vl_cat]) (fun o4 eo4 => ?_)
    show G Γ cvI 3 0 0 26 [(0, va_rf a0), (1, .int x1), (2, .int x2)] [.int o4.1] o4.2 _
    refine g_if_ne C (tgt := 32) dX12_burn_26 (by decide) (fun h5 => ?_) (fun h5 => ?_)
    · refine g_ldc C (v := (-1000001 : Int32)) dX12_burn_29 (by decide +kernel) ?_
      exact g_iret C dX12_burn_31 ⟨by decide, by decide⟩
    · refine g_aload_n C dX12_burn_32 rfl 0 rfl ?_
      refine g_callV C (n := 0) (ci := 11) [] [] (m_X12_make a0 o4.2) dX12_burn_33 gX12_burn_X12_make rfl ⟨rfl, rfl⟩ (by decide +kernel) ⟨by decide, by decide⟩ ⟨by decide, by decide⟩ rfl (by decide) rfl rfl (by first | exact Nat.le_of_ble_eq_true rfl | simp [va_rf_cat, vi_cat, vl_cat]) (fun o6 eo6 => ?_)
      show G Γ cvI 3 0 0 36 [(0, va_rf a0), (1, .int x1), (2, .int x2)] [] o6 _
      refine g_aload_n C dX12_burn_36 rfl 0 rfl ?_
      refine g_getI C (ci := 11) (k := 16) dX12_burn_37 rfl (by decide) (by decide) (by decide) ulX12_burn_X12 flX12_burn_152 rfl (fun v7 ev7 => ?_)
      refine g_if_eq C (tgt := 48) dX12_burn_40 (by decide) (fun h8 => ?_) (fun h8 => ?_)
      · refine g_aload_n C dX12_burn_48 rfl 0 rfl ?_
        refine g_getR C (ci := 11) (k := 23) dX12_burn_49 rfl (by decide) (by decide) (by decide) ulX12_burn_X12 flX12_burn_73 rfl (fun v9 ev9 => ?_)
        refine g_bipush C (v := (11 : Int32)) dX12_burn_52 (by decide) ?_
        refine g_iload_n C dX12_burn_54 rfl 2 rfl ?_
        refine g_imul C dX12_burn_55 ?_
        refine g_iload_n C dX12_burn_56 rfl 1 rfl ?_
        refine g_iadd C dX12_burn_57 ?_
        refine g_ild C dX12_burn_58 (fun v10 ev10 => ?_)
        exact g_iret C dX12_burn_59 ⟨by decide, by decide⟩
      · refine g_ldc C (v := (-1000003 : Int32)) dX12_burn_43 (by decide +kernel) ?_
        refine g_goto C (tgt := 59) dX12_burn_45 (by decide) ?_
        exact g_iret C dX12_burn_59 ⟨by decide, by decide⟩
abbrev rmX12_feed : Room := { frames := 1, cells := 0, slots := 0, locals := 25 }
theorem flX12_feed_1 : Cond.fieldLink RX12 1 "LightLinesModel" "thrown" "I" ∈ wsX12_feed := by decide +kernel
theorem flX12_feed_76 : Cond.fieldLink RX12 76 "LightLinesModel" "tape" "[I" ∈ wsX12_feed := by decide +kernel
theorem flX12_feed_190 : Cond.fieldLink RX12 190 "LightLinesModel" "taped" "I" ∈ wsX12_feed := by decide +kernel
set_option maxRecDepth 100000 in
theorem ulX12_feed_X12 : ∀ w ∈ u_ws RX12 TX12 42, w ∈ wsX12_feed := by decide +kernel
set_option maxHeartbeats 4000000 in
set_option maxRecDepth 100000 in
theorem t_X12_feed_82 {Γ : Cx} (C : CF Γ cX12_feed 5 (some .int) wsX12_feed RX12 rmX12_feed 0 0) (a0 : Option Nat) (S : St) : G Γ cvI 5 0 0 82 [(0, va_rf a0)] [] S (b_X12_feed_82  a0 S) := by
  unfold b_X12_feed_82
  refine g_aload_n C dX12_feed_82 rfl 0 rfl ?_
  refine g_getI C (ci := 11) (k := 27) dX12_feed_83 rfl (by decide) (by decide) (by decide) ulX12_feed_X12 flX12_feed_190 rfl (fun v1 ev1 => ?_)
  exact g_iret C dX12_feed_86 ⟨by decide, by decide⟩
set_option maxHeartbeats 4000000 in
set_option maxRecDepth 100000 in
theorem t_X12_feed_40 {Γ : Cx} (C : CF Γ cX12_feed 5 (some .int) wsX12_feed RX12 rmX12_feed 0 0) : ∀ (n : Nat) (a0 : Option Nat) (j1 : Int64) (x4 : Int32) (S : St), G Γ cvI 5 0 0 40 [(0, va_rf a0), (1, .long j1), (4, .int x4)] [] S (b_X12_feed_40  n a0 j1 x4 S) := by
  intro n
  induction n with
  | zero => intro a0 j1 x4 S; exact g_none
  | succ n ih =>
    intro a0 j1 x4 S
    rw [b_X12_feed_40]
    refine g_iload C dX12_feed_40 2 rfl ?_
    refine g_if_lt C (tgt := 82) dX12_feed_42 (by decide) (fun h1 => ?_) (fun h1 => ?_)
    · exact g_sub (lv2 := [(0, va_rf a0)]) [0] rfl (t_X12_feed_82 C a0 S)
    · refine g_aload_n C dX12_feed_45 rfl 0 rfl ?_
      refine g_getR C (ci := 11) (k := 26) dX12_feed_46 rfl (by decide) (by decide) (by decide) ulX12_feed_X12 flX12_feed_76 rfl (fun v2 ev2 => ?_)
      refine g_aload_n C dX12_feed_49 rfl 0 rfl ?_
      refine g_getI C (ci := 11) (k := 27) dX12_feed_50 rfl (by decide) (by decide) (by decide) ulX12_feed_X12 flX12_feed_190 rfl (fun v3 ev3 => ?_)
      refine g_lload_n C dX12_feed_53 rfl 1 rfl ?_
      refine g_bipush C (v := (8 : Int32)) dX12_feed_54 (by decide) ?_
      refine g_iload C dX12_feed_56 2 rfl ?_
      refine g_imul C dX12_feed_58 ?_
      refine g_lshr C dX12_feed_59 ?_
      refine g_ldc2 C (v := (255 : Int64)) dX12_feed_60 (by decide +kernel) ?_
      refine g_land C dX12_feed_63 ?_
      refine g_l2i C dX12_feed_64 ?_
      refine g_ist C dX12_feed_65 (fun S4 eS4 => ?_)
      refine g_aload_n C dX12_feed_66 rfl 0 rfl ?_
      refine g_dupr C dX12_feed_67 ?_
      refine g_getI C (ci := 11) (k := 27) dX12_feed_68 rfl (by decide) (by decide) (by decide) ulX12_feed_X12 flX12_feed_190 rfl (fun v5 ev5 => ?_)
      refine g_iconst C (v := (1 : Int32)) dX12_feed_71 (by decide) ?_
      refine g_iadd C dX12_feed_72 ?_
      refine g_putI C (ci := 11) (k := 27) (ty0 := tyX12) dX12_feed_73 rfl (by decide) (by decide) (by decide) tyX12_ok nmX12 ulX12_feed_X12 flX12_feed_190 rfl rfl ⟨rfl, rfl⟩ (fun S6 eS6 => ?_)
      refine g_iinc1 C dX12_feed_76 2 rfl (by decide) (by decide) (fun y7 => ?_)
      refine g_lveq (lv2 := [(4, .int y7), (0, va_rf a0), (1, .long j1)]) (by first | rfl | simp [va_rf_cat, vi_cat, vl_cat]) ?_
      refine g_goto C (tgt := 40) dX12_feed_79 (by decide) ?_
      exact g_sub (lv2 := [(0, va_rf a0), (1, .long j1), (4, .int y7)]) [1, 2, 0] rfl (ih a0 j1 y7 S6)
set_option maxHeartbeats 4000000 in
set_option maxRecDepth 100000 in
theorem m_X12_feed (a0 : Option Nat) (j1 : Int64) (x3 : Int32) (S : St) : ∀ l D cy H0 o, f_X12_feed a0 j1 x3 S = some o → Met l yX12_feed wsX12_feed rmX12_feed (Pq D cy H0 [va_rf a0, .long j1, .int x3] S) (Qx D cy H0 (cvI o)) 0 0 (fun q => H0.size ≤ q) := by
  refine met_of (cc := cX12_feed) (maxL := 5) (ret := (some .int)) [va_rf a0, .long j1, .int x3] [(0, va_rf a0), (1, .long j1), (3, .int x3)] (by decide) rfl rfl (by simp [lg_sl, va_rf_cat, vi_cat, vl_cat]) (by simp [lv_args, va_rf_cat, vi_cat, vl_cat]) (fun Γ C => ?_)
  unfold f_X12_feed
  refine g_aload_n C dX12_feed_0 rfl 0 rfl ?_
  refine g_iconst C (v := (0 : Int32)) dX12_feed_1 (by decide) ?_
  refine g_putI C (ci := 11) (k := 0) (ty0 := tyX12) dX12_feed_2 rfl (by decide) (by decide) (by decide) tyX12_ok nmX12 ulX12_feed_X12 flX12_feed_1 rfl rfl ⟨rfl, rfl⟩ (fun S1 eS1 => ?_)
  refine g_iload_n C dX12_feed_5 rfl 2 rfl ?_
  refine g_i2l C dX12_feed_6 ?_
  refine g_lconst C (v := (1 : Int64)) dX12_feed_7 (by decide) ?_
  refine g_ldc2 C (v := (8 : Int64)) dX12_feed_8 (by decide +kernel) ?_
  refine g_callS C (n := 3) [.long x3.toInt64, .long (1 : Int64), .long (8 : Int64)] [] (m_X12_in x3.toInt64 (1 : Int64) (8 : Int64) S1) dX12_feed_11 gX12_feed_X12_in rfl ⟨rfl, rfl⟩ (by decide +kernel) ⟨by decide, by decide⟩ ⟨by decide, by decide⟩ rfl rfl (by first | exact Nat.le_of_ble_eq_true rfl | simp [va_rf_cat, vi_cat, vl_cat]) (fun o2 eo2 => ?_)
  show G Γ cvI 5 0 0 14 [(0, va_rf a0), (1, .long j1), (3, .int x3)] [.int o2.1] o2.2 _
  refine g_if_ne C (tgt := 20) dX12_feed_14 (by decide) (fun h3 => ?_) (fun h3 => ?_)
  · refine g_ldc C (v := (-1000001 : Int32)) dX12_feed_17 (by decide +kernel) ?_
    exact g_iret C dX12_feed_19 ⟨by decide, by decide⟩
  · refine g_aload_n C dX12_feed_20 rfl 0 rfl ?_
    refine g_getI C (ci := 11) (k := 27) dX12_feed_21 rfl (by decide) (by decide) (by decide) ulX12_feed_X12 flX12_feed_190 rfl (fun v4 ev4 => ?_)
    refine g_iload_n C dX12_feed_24 rfl 2 rfl ?_
    refine g_iadd C dX12_feed_25 ?_
    refine g_sipush C (v := (300 : Int32)) dX12_feed_26 (by decide) ?_
    refine g_icmp_le C (tgt := 35) dX12_feed_29 (by decide) (fun h5 => ?_) (fun h5 => ?_)
    · refine g_iload_n C dX12_feed_35 rfl 2 rfl ?_
      refine g_iconst C (v := (1 : Int32)) dX12_feed_36 (by decide) ?_
      refine g_isub C dX12_feed_37 ?_
      refine g_topi (fun y6 => ?_)
      refine g_istore C (lv2 := [(4, .int y6), (0, va_rf a0), (1, .long j1), (3, .int x3)]) dX12_feed_38 (by decide) (by first | rfl | simp [va_rf_cat, vi_cat, vl_cat]) ?_
      exact g_sub (lv2 := [(0, va_rf a0), (1, .long j1), (4, .int y6)]) [1, 2, 0] rfl (t_X12_feed_40 C FU a0 j1 y6 o2.2)
    · refine g_ldc C (v := (-1000003 : Int32)) dX12_feed_32 (by decide +kernel) ?_
      exact g_iret C dX12_feed_34 ⟨by decide, by decide⟩
abbrev rmX12_byteAt : Room := { frames := 0, cells := 0, slots := 0, locals := 0 }
theorem flX12_byteAt_76 : Cond.fieldLink RX12 76 "LightLinesModel" "tape" "[I" ∈ wsX12_byteAt := by decide +kernel
theorem flX12_byteAt_195 : Cond.fieldLink RX12 195 "LightLinesModel" "sizeOf" "I" ∈ wsX12_byteAt := by decide +kernel
set_option maxRecDepth 100000 in
theorem ulX12_byteAt_X12 : ∀ w ∈ u_ws RX12 TX12 42, w ∈ wsX12_byteAt := by decide +kernel
set_option maxHeartbeats 4000000 in
set_option maxRecDepth 100000 in
theorem m_X12_byteAt (a0 : Option Nat) (x1 : Int32) (S : St) : ∀ l D cy H0 o, f_X12_byteAt a0 x1 S = some o → Met l yX12_byteAt wsX12_byteAt rmX12_byteAt (Pq D cy H0 [va_rf a0, .int x1] S) (Qx D cy H0 (cvI o)) 0 0 (fun q => H0.size ≤ q) := by
  refine met_of (cc := cX12_byteAt) (maxL := 2) (ret := (some .int)) [va_rf a0, .int x1] [(0, va_rf a0), (1, .int x1)] (by decide) rfl rfl (by simp [lg_sl, va_rf_cat, vi_cat, vl_cat]) (by simp [lv_args, va_rf_cat, vi_cat, vl_cat]) (fun Γ C => ?_)
  unfold f_X12_byteAt
  refine g_iload_n C dX12_byteAt_0 rfl 1 rfl ?_
  refine g_aload_n C dX12_byteAt_1 rfl 0 rfl ?_
  refine g_getI C (ci := 11) (k := 29) dX12_byteAt_2 rfl (by decide) (by decide) (by decide) ulX12_byteAt_X12 flX12_byteAt_195 rfl (fun v1 ev1 => ?_)
  refine g_icmp_ge C (tgt := 17) dX12_byteAt_5 (by decide) (fun h2 => ?_) (fun h2 => ?_)
  · refine g_ldc C (v := (-1000000 : Int32)) dX12_byteAt_17 (by decide +kernel) ?_
    exact g_iret C dX12_byteAt_19 ⟨by decide, by decide⟩
  · refine g_aload_n C dX12_byteAt_8 rfl 0 rfl ?_
    refine g_getR C (ci := 11) (k := 26) dX12_byteAt_9 rfl (by decide) (by decide) (by decide) ulX12_byteAt_X12 flX12_byteAt_76 rfl (fun v3 ev3 => ?_)
    refine g_iload_n C dX12_byteAt_12 rfl 1 rfl ?_
    refine g_ild C dX12_byteAt_13 (fun v4 ev4 => ?_)
    refine g_goto C (tgt := 19) dX12_byteAt_14 (by decide) ?_
    exact g_iret C dX12_byteAt_19 ⟨by decide, by decide⟩
abbrev rmX12_isLetter : Room := { frames := 0, cells := 0, slots := 0, locals := 0 }
set_option maxHeartbeats 4000000 in
set_option maxRecDepth 100000 in
theorem m_X12_isLetter (x0 : Int32) (S : St) : ∀ l D cy H0 o, f_X12_isLetter x0 S = some o → Met l yX12_isLetter wsX12_isLetter rmX12_isLetter (Pq D cy H0 [.int x0] S) (Qx D cy H0 (cvI o)) 0 0 (fun q => H0.size ≤ q) := by
  refine met_of (cc := cX12_isLetter) (maxL := 1) (ret := (some .boolean)) [.int x0] [(0, .int x0)] (by decide) rfl rfl (by simp [lg_sl, va_rf_cat, vi_cat, vl_cat]) (by simp [lv_args, va_rf_cat, vi_cat, vl_cat]) (fun Γ C => ?_)
  unfold f_X12_isLetter
  refine g_iload_n C dX12_isLetter_0 rfl 0 rfl ?_
  refine g_bipush C (v := (97 : Int32)) dX12_isLetter_1 (by decide) ?_
  refine g_icmp_lt C (tgt := 16) dX12_isLetter_3 (by decide) (fun h1 => ?_) (fun h1 => ?_)
  · refine g_iconst C (v := (0 : Int32)) dX12_isLetter_16 (by decide) ?_
    exact g_zret C dX12_isLetter_17 ⟨by decide, by decide⟩
  · refine g_iload_n C dX12_isLetter_6 rfl 0 rfl ?_
    refine g_bipush C (v := (122 : Int32)) dX12_isLetter_7 (by decide) ?_
    refine g_icmp_gt C (tgt := 16) dX12_isLetter_9 (by decide) (fun h2 => ?_) (fun h2 => ?_)
    · refine g_iconst C (v := (0 : Int32)) dX12_isLetter_16 (by decide) ?_
      exact g_zret C dX12_isLetter_17 ⟨by decide, by decide⟩
    · refine g_iconst C (v := (1 : Int32)) dX12_isLetter_12 (by decide) ?_
      refine g_goto C (tgt := 17) dX12_isLetter_13 (by decide) ?_
      exact g_zret C dX12_isLetter_17 ⟨by decide, by decide⟩
abbrev rmX12_isFigure : Room := { frames := 0, cells := 0, slots := 0, locals := 0 }
set_option maxHeartbeats 4000000 in
set_option maxRecDepth 100000 in
theorem m_X12_isFigure (x0 : Int32) (S : St) : ∀ l D cy H0 o, f_X12_isFigure x0 S = some o → Met l yX12_isFigure wsX12_isFigure rmX12_isFigure (Pq D cy H0 [.int x0] S) (Qx D cy H0 (cvI o)) 0 0 (fun q => H0.size ≤ q) := by
  refine met_of (cc := cX12_isFigure) (maxL := 1) (ret := (some .boolean)) [.int x0] [(0, .int x0)] (by decide) rfl rfl (by simp [lg_sl, va_rf_cat, vi_cat, vl_cat]) (by simp [lv_args, va_rf_cat, vi_cat, vl_cat]) (fun Γ C => ?_)
  unfold f_X12_isFigure
  refine g_iload_n C dX12_isFigure_0 rfl 0 rfl ?_
  refine g_bipush C (v := (48 : Int32)) dX12_isFigure_1 (by decide) ?_
  refine g_icmp_lt C (tgt := 16) dX12_isFigure_3 (by decide) (fun h1 => ?_) (fun h1 => ?_)
  · refine g_iconst C (v := (0 : Int32)) dX12_isFigure_16 (by decide) ?_
    exact g_zret C dX12_isFigure_17 ⟨by decide, by decide⟩
  · refine g_iload_n C dX12_isFigure_6 rfl 0 rfl ?_
    refine g_bipush C (v := (57 : Int32)) dX12_isFigure_7 (by decide) ?_
    refine g_icmp_gt C (tgt := 16) dX12_isFigure_9 (by decide) (fun h2 => ?_) (fun h2 => ?_)
    · refine g_iconst C (v := (0 : Int32)) dX12_isFigure_16 (by decide) ?_
      exact g_zret C dX12_isFigure_17 ⟨by decide, by decide⟩
    · refine g_iconst C (v := (1 : Int32)) dX12_isFigure_12 (by decide) ?_
      refine g_goto C (tgt := 17) dX12_isFigure_13 (by decide) ?_
      exact g_zret C dX12_isFigure_17 ⟨by decide, by decide⟩
