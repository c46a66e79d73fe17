abbrev rmX6_lagAt : Room := { frames := 2, cells := 0, slots := 0, locals := 47 }
theorem flX6_lagAt_18 : Cond.fieldLink RX6 18 "LightLines$Show" "path" "LLightLines$Path;" ∈ wsX6_lagAt := by decide +kernel
theorem flX6_lagAt_22 : Cond.fieldLink RX6 22 "LightLines$Show" "mirrorX" "[I" ∈ wsX6_lagAt := by decide +kernel
theorem flX6_lagAt_25 : Cond.fieldLink RX6 25 "LightLines$Show" "mirrorY" "[I" ∈ wsX6_lagAt := by decide +kernel
theorem flX6_lagAt_63 : Cond.fieldLink RX6 63 "LightLines$Path" "x" "[I" ∈ wsX6_lagAt := by decide +kernel
theorem flX6_lagAt_70 : Cond.fieldLink RX6 70 "LightLines$Path" "y" "[I" ∈ wsX6_lagAt := by decide +kernel
theorem flX6_lagAt_90 : Cond.fieldLink RX6 90 "LightLines$Path" "lit" "[Z" ∈ wsX6_lagAt := by decide +kernel
set_option maxRecDepth 100000 in
theorem ulX6_lagAt_X3 : ∀ w ∈ u_ws RX3 TX3 7, w ∈ wsX6_lagAt := by decide +kernel
set_option maxRecDepth 100000 in
theorem ulX6_lagAt_X6 : ∀ w ∈ u_ws RX6 TX6 13, w ∈ wsX6_lagAt := by decide +kernel
set_option maxHeartbeats 4000000 in
set_option maxRecDepth 100000 in
theorem m_X6_lagAt (a0 : Option Nat) (x1 : Int32) (S : St) : ∀ l D cy H0 o, f_X6_lagAt a0 x1 S = some o → Met l yX6_lagAt wsX6_lagAt rmX6_lagAt (Pq D cy H0 [va_rf a0, .int x1] S) (Qx D cy H0 (cvI o)) 0 0 (fun q => H0.size ≤ q) := by
  refine met_of (cc := cX6_lagAt) (maxL := 2) (ret := (some .int)) [va_rf a0, .int x1] [(0, va_rf a0), (1, .int x1)] (by decide) rfl rfl (by simp [lg_sl, va_rf_cat, vi_cat, vl_cat]) (by simp [lv_args, va_rf_cat, vi_cat, vl_cat]) (fun Γ C => ?_)
  unfold f_X6_lagAt
  refine g_aload_n C dX6_lagAt_0 rfl 0 rfl ?_
  refine g_getR C (ci := 6) (k := 1) dX6_lagAt_1 rfl (by decide) (by decide) (by decide) ulX6_lagAt_X6 flX6_lagAt_18 rfl (fun v1 ev1 => ?_)
  refine g_getR C (ci := 3) (k := 2) dX6_lagAt_4 rfl (by decide) (by decide) (by decide) ulX6_lagAt_X3 flX6_lagAt_90 rfl (fun v2 ev2 => ?_)
  refine g_iload_n C dX6_lagAt_7 rfl 1 rfl ?_
  refine g_zld C dX6_lagAt_8 (fun v3 ev3 => ?_)
  refine g_if_eq C (tgt := 48) dX6_lagAt_9 (by decide) (fun h4 => ?_) (fun h4 => ?_)
  · refine g_iconst C (v := (0 : Int32)) dX6_lagAt_48 (by decide) ?_
    exact g_iret C dX6_lagAt_49 ⟨by decide, by decide⟩
  · refine g_aload_n C dX6_lagAt_12 rfl 0 rfl ?_
    refine g_getR C (ci := 6) (k := 1) dX6_lagAt_13 rfl (by decide) (by decide) (by decide) ulX6_lagAt_X6 flX6_lagAt_18 rfl (fun v5 ev5 => ?_)
    refine g_getR C (ci := 3) (k := 0) dX6_lagAt_16 rfl (by decide) (by decide) (by decide) ulX6_lagAt_X3 flX6_lagAt_63 rfl (fun v6 ev6 => ?_)
    refine g_iload_n C dX6_lagAt_19 rfl 1 rfl ?_
    refine g_ild C dX6_lagAt_20 (fun v7 ev7 => ?_)
    refine g_aload_n C dX6_lagAt_21 rfl 0 rfl ?_
    refine g_getR C (ci := 6) (k := 1) dX6_lagAt_22 rfl (by decide) (by decide) (by decide) ulX6_lagAt_X6 flX6_lagAt_18 rfl (fun v8 ev8 => ?_)
    refine g_getR C (ci := 3) (k := 1) dX6_lagAt_25 rfl (by decide) (by decide) (by decide) ulX6_lagAt_X3 flX6_lagAt_70 rfl (fun v9 ev9 => ?_)
    refine g_iload_n C dX6_lagAt_28 rfl 1 rfl ?_
    refine g_ild C dX6_lagAt_29 (fun v10 ev10 => ?_)
    refine g_aload_n C dX6_lagAt_30 rfl 0 rfl ?_
    refine g_getR C (ci := 6) (k := 2) dX6_lagAt_31 rfl (by decide) (by decide) (by decide) ulX6_lagAt_X6 flX6_lagAt_22 rfl (fun v11 ev11 => ?_)
    refine g_iload_n C dX6_lagAt_34 rfl 1 rfl ?_
    refine g_ild C dX6_lagAt_35 (fun v12 ev12 => ?_)
    refine g_aload_n C dX6_lagAt_36 rfl 0 rfl ?_
    refine g_getR C (ci := 6) (k := 3) dX6_lagAt_37 rfl (by decide) (by decide) (by decide) ulX6_lagAt_X6 flX6_lagAt_25 rfl (fun v13 ev13 => ?_)
    refine g_iload_n C dX6_lagAt_40 rfl 1 rfl ?_
    refine g_ild C dX6_lagAt_41 (fun v14 ev14 => ?_)
    refine g_callSN C (n := 4) (host := "LightLines") [.int v7, .int v10, .int v12, .int v14] [] (m_X11_way v7 v10 v12 v14 S) dX6_lagAt_42 gX6_lagAt_X11_way_n93 (by decide +kernel) (by decide +kernel) (by decide +kernel) rfl ⟨rfl, rfl⟩ (by decide +kernel) ⟨by decide, by decide⟩ ⟨by decide, by decide⟩ rfl rfl (by first | exact Nat.le_of_ble_eq_true rfl | simp [va_rf_cat, vi_cat, vl_cat]) (fun o15 eo15 => ?_)
    show G Γ cvI 2 0 0 45 [(0, va_rf a0), (1, .int x1)] [.int o15.1] o15.2 _
    refine g_goto C (tgt := 49) dX6_lagAt_45 (by decide) ?_
    exact g_iret C dX6_lagAt_49 ⟨by decide, by decide⟩
abbrev rmX6_lightComes : Room := { frames := 0, cells := 0, slots := 0, locals := 0 }
theorem flX6_lightComes_9 : Cond.fieldLink RX6 9 "LightLines$Show" "rules" "[I" ∈ wsX6_lightComes := by decide +kernel
theorem flX6_lightComes_18 : Cond.fieldLink RX6 18 "LightLines$Show" "path" "LLightLines$Path;" ∈ wsX6_lightComes := by decide +kernel
theorem flX6_lightComes_90 : Cond.fieldLink RX6 90 "LightLines$Path" "lit" "[Z" ∈ wsX6_lightComes := by decide +kernel
set_option maxRecDepth 100000 in
theorem ulX6_lightComes_X3 : ∀ w ∈ u_ws RX3 TX3 7, w ∈ wsX6_lightComes := by decide +kernel
set_option maxRecDepth 100000 in
theorem ulX6_lightComes_X6 : ∀ w ∈ u_ws RX6 TX6 13, w ∈ wsX6_lightComes := by decide +kernel
set_option maxHeartbeats 4000000 in
set_option maxRecDepth 100000 in
theorem m_X6_lightComes (a0 : Option Nat) (x1 : Int32) (S : St) : ∀ l D cy H0 o, f_X6_lightComes a0 x1 S = some o → Met l yX6_lightComes wsX6_lightComes rmX6_lightComes (Pq D cy H0 [va_rf a0, .int x1] S) (Qx D cy H0 (cvI o)) 0 0 (fun q => H0.size ≤ q) := by
  refine met_of (cc := cX6_lightComes) (maxL := 3) (ret := (some .boolean)) [va_rf a0, .int x1] [(0, va_rf a0), (1, .int x1)] (by decide) rfl rfl (by simp [lg_sl, va_rf_cat, vi_cat, vl_cat]) (by simp [lv_args, va_rf_cat, vi_cat, vl_cat]) (fun Γ C => ?_)
  unfold f_X6_lightComes
  refine g_iload_n C dX6_lightComes_0 rfl 1 rfl ?_
  refine g_aload_n C dX6_lightComes_1 rfl 0 rfl ?_
  refine g_getR C (ci := 6) (k := 0) dX6_lightComes_2 rfl (by decide) (by decide) (by decide) ulX6_lightComes_X6 flX6_lightComes_9 rfl (fun v1 ev1 => ?_)
  refine g_iconst C (v := (4 : Int32)) dX6_lightComes_5 (by decide) ?_
  refine g_ild C dX6_lightComes_6 (fun v2 ev2 => ?_)
  refine g_isub C dX6_lightComes_7 ?_
  refine g_topi (fun y3 => ?_)
  refine g_istore_n C (i := 2) (lv2 := [(2, .int y3), (0, va_rf a0), (1, .int x1)]) dX6_lightComes_8 rfl (by decide) (by first | rfl | simp [va_rf_cat, vi_cat, vl_cat]) ?_
  refine g_iload_n C dX6_lightComes_9 rfl 0 rfl ?_
  refine g_if_lt C (tgt := 29) dX6_lightComes_10 (by decide) (fun h4 => ?_) (fun h4 => ?_)
  · refine g_iconst C (v := (0 : Int32)) dX6_lightComes_29 (by decide) ?_
    exact g_zret C dX6_lightComes_30 ⟨by decide, by decide⟩
  · refine g_aload_n C dX6_lightComes_13 rfl 1 rfl ?_
    refine g_getR C (ci := 6) (k := 1) dX6_lightComes_14 rfl (by decide) (by decide) (by decide) ulX6_lightComes_X6 flX6_lightComes_18 rfl (fun v5 ev5 => ?_)
    refine g_getR C (ci := 3) (k := 2) dX6_lightComes_17 rfl (by decide) (by decide) (by decide) ulX6_lightComes_X3 flX6_lightComes_90 rfl (fun v6 ev6 => ?_)
    refine g_iload_n C dX6_lightComes_20 rfl 0 rfl ?_
    refine g_zld C dX6_lightComes_21 (fun v7 ev7 => ?_)
    refine g_if_eq C (tgt := 29) dX6_lightComes_22 (by decide) (fun h8 => ?_) (fun h8 => ?_)
    · refine g_iconst C (v := (0 : Int32)) dX6_lightComes_29 (by decide) ?_
      exact g_zret C dX6_lightComes_30 ⟨by decide, by decide⟩
    · refine g_iconst C (v := (1 : Int32)) dX6_lightComes_25 (by decide) ?_
      refine g_goto C (tgt := 30) dX6_lightComes_26 (by decide) ?_
      exact g_zret C dX6_lightComes_30 ⟨by decide, by decide⟩
abbrev rmX6_sumUp : Room := { frames := 3, cells := 0, slots := 0, locals := 68 }
theorem flX6_sumUp_18 : Cond.fieldLink RX6 18 "LightLines$Show" "path" "LLightLines$Path;" ∈ wsX6_sumUp := by decide +kernel
theorem flX6_sumUp_22 : Cond.fieldLink RX6 22 "LightLines$Show" "mirrorX" "[I" ∈ wsX6_sumUp := by decide +kernel
theorem flX6_sumUp_25 : Cond.fieldLink RX6 25 "LightLines$Show" "mirrorY" "[I" ∈ wsX6_sumUp := by decide +kernel
theorem flX6_sumUp_30 : Cond.fieldLink RX6 30 "LightLines$Show" "burns" "[[I" ∈ wsX6_sumUp := by decide +kernel
theorem flX6_sumUp_76 : Cond.fieldLink RX6 76 "LightLines$Path" "length" "I" ∈ wsX6_sumUp := by decide +kernel
theorem flX6_sumUp_90 : Cond.fieldLink RX6 90 "LightLines$Path" "lit" "[Z" ∈ wsX6_sumUp := by decide +kernel
theorem flX6_sumUp_97 : Cond.fieldLink RX6 97 "LightLines$Show" "toldLit" "I" ∈ wsX6_sumUp := by decide +kernel
theorem flX6_sumUp_100 : Cond.fieldLink RX6 100 "LightLines$Show" "seenLit" "I" ∈ wsX6_sumUp := by decide +kernel
theorem flX6_sumUp_103 : Cond.fieldLink RX6 103 "LightLines$Show" "shutTicks" "I" ∈ wsX6_sumUp := by decide +kernel
theorem flX6_sumUp_106 : Cond.fieldLink RX6 106 "LightLines$Show" "greatestLag" "I" ∈ wsX6_sumUp := by decide +kernel
theorem flX6_sumUp_109 : Cond.fieldLink RX6 109 "LightLines$Show" "greatestBurn" "I" ∈ wsX6_sumUp := by decide +kernel
set_option maxRecDepth 100000 in
theorem ulX6_sumUp_X3 : ∀ w ∈ u_ws RX3 TX3 7, w ∈ wsX6_sumUp := by decide +kernel
set_option maxRecDepth 100000 in
theorem ulX6_sumUp_X6 : ∀ w ∈ u_ws RX6 TX6 13, w ∈ wsX6_sumUp := by decide +kernel
set_option maxHeartbeats 4000000 in
set_option maxRecDepth 100000 in
theorem t_X6_sumUp_159 {Γ : Cx} (C : CF Γ cX6_sumUp 2 none wsX6_sumUp RX6 rmX6_sumUp 0 0) (rc51 : Option Nat → Int32 → St → Option (St)) (hrc51 : ∀ (a0 : Option Nat) (x1 : Int32) (S : St), G Γ cvV 2 0 0 51 [(0, va_rf a0), (1, .int x1)] [] S (rc51 a0 x1 S)) (a0 : Option Nat) (x1 : Int32) (S : St) : G Γ cvV 2 0 0 159 [(0, va_rf a0), (1, .int x1)] [] S (b_X6_sumUp_159 rc51 a0 x1 S) := by
  unfold b_X6_sumUp_159
  refine g_iinc1 C dX6_sumUp_159 1 rfl (by decide) (by decide) (fun y1 => ?_)
  refine g_lveq (lv2 := [(1, .int y1), (0, va_rf a0)]) (by first | rfl | simp [va_rf_cat, vi_cat, vl_cat]) ?_
  refine g_goto C (tgt := 51) dX6_sumUp_162 (by decide) ?_
  exact g_sub (lv2 := [(0, va_rf a0), (1, .int y1)]) [1, 0] rfl (hrc51 a0 y1 S)
set_option maxHeartbeats 4000000 in
set_option maxRecDepth 100000 in
theorem t_X6_sumUp_84 {Γ : Cx} (C : CF Γ cX6_sumUp 2 none wsX6_sumUp RX6 rmX6_sumUp 0 0) (rc51 : Option Nat → Int32 → St → Option (St)) (hrc51 : ∀ (a0 : Option Nat) (x1 : Int32) (S : St), G Γ cvV 2 0 0 51 [(0, va_rf a0), (1, .int x1)] [] S (rc51 a0 x1 S)) (a0 : Option Nat) (x1 : Int32) (r0 : Option Nat) (s1 : Int32) (s2 : Int32) (S : St) : G Γ cvV 2 0 0 84 [(0, va_rf a0), (1, .int x1)] [.int s2, .int s1, va_rf r0] S (b_X6_sumUp_84 rc51 a0 x1 r0 s1 s2 S) := by
  unfold b_X6_sumUp_84
  refine g_iadd C dX6_sumUp_84 ?_
  refine g_putI C (ci := 6) (k := 5) (ty0 := tyX6) dX6_sumUp_85 rfl (by decide) (by decide) (by decide) tyX6_ok nmX6 ulX6_sumUp_X6 flX6_sumUp_97 rfl rfl ⟨rfl, rfl⟩ (fun S1 eS1 => ?_)
  refine g_aload_n C dX6_sumUp_88 rfl 0 rfl ?_
  refine g_aload_n C dX6_sumUp_89 rfl 0 rfl ?_
  refine g_getI C (ci := 6) (k := 8) dX6_sumUp_90 rfl (by decide) (by decide) (by decide) ulX6_sumUp_X6 flX6_sumUp_106 rfl (fun v2 ev2 => ?_)
  refine g_aload_n C dX6_sumUp_93 rfl 0 rfl ?_
  refine g_iload_n C dX6_sumUp_94 rfl 1 rfl ?_
  refine g_callV C (n := 1) (ci := 6) [.int x1] [.int v2, va_rf a0] (m_X6_lagAt a0 x1 S1) dX6_sumUp_95 gX6_sumUp_X6_lagAt rfl ⟨rfl, rfl⟩ (by decide +kernel) ⟨by decide, by decide⟩ ⟨by decide, by decide⟩ rfl (by decide) rfl rfl (by first | exact Nat.le_of_ble_eq_true rfl | simp [va_rf_cat, vi_cat, vl_cat]) (fun o3 eo3 => ?_)
  show G Γ cvV 2 0 0 98 [(0, va_rf a0), (1, .int x1)] [.int o3.1, .int v2, va_rf a0] o3.2 _
  refine g_mmax C dX6_sumUp_98 (by decide +kernel) (by decide +kernel) (by decide +kernel) (by decide +kernel) ⟨by decide, by decide⟩ ⟨by decide, by decide⟩ (by first | exact Nat.le_of_ble_eq_true rfl | simp [va_rf_cat, vi_cat, vl_cat]) ?_
  refine g_putI C (ci := 6) (k := 8) (ty0 := tyX6) dX6_sumUp_101 rfl (by decide) (by decide) (by decide) tyX6_ok nmX6 ulX6_sumUp_X6 flX6_sumUp_106 rfl rfl ⟨rfl, rfl⟩ (fun S4 eS4 => ?_)
  refine g_aload_n C dX6_sumUp_104 rfl 0 rfl ?_
  refine g_iload_n C dX6_sumUp_105 rfl 1 rfl ?_
  refine g_callV C (n := 1) (ci := 6) [.int x1] [] (m_X6_isShut a0 x1 S4) dX6_sumUp_106 gX6_sumUp_X6_isShut rfl ⟨rfl, rfl⟩ (by decide +kernel) ⟨by decide, by decide⟩ ⟨by decide, by decide⟩ rfl (by decide) rfl rfl (by first | exact Nat.le_of_ble_eq_true rfl | simp [va_rf_cat, vi_cat, vl_cat]) (fun o5 eo5 => ?_)
  show G Γ cvV 2 0 0 109 [(0, va_rf a0), (1, .int x1)] [.int o5.1] o5.2 _
  refine g_if_eq C (tgt := 125) dX6_sumUp_109 (by decide) (fun h6 => ?_) (fun h6 => ?_)
  · refine g_aload_n C dX6_sumUp_125 rfl 0 rfl ?_
    refine g_iload_n C dX6_sumUp_126 rfl 1 rfl ?_
    refine g_callV C (n := 1) (ci := 6) [.int x1] [] (m_X6_lightComes a0 x1 o5.2) dX6_sumUp_127 gX6_sumUp_X6_lightComes rfl ⟨rfl, rfl⟩ (by decide +kernel) ⟨by decide, by decide⟩ ⟨by decide, by decide⟩ rfl (by decide) rfl rfl (by first | exact Nat.le_of_ble_eq_true rfl | simp [va_rf_cat, vi_cat, vl_cat]) (fun o7 eo7 => ?_)
    show G Γ cvV 2 0 0 130 [(0, va_rf a0), (1, .int x1)] [.int o7.1] o7.2 _
    refine g_if_eq C (tgt := 159) dX6_sumUp_130 (by decide) (fun h8 => ?_) (fun h8 => ?_)
    · exact g_sub (lv2 := [(0, va_rf a0), (1, .int x1)]) [0, 1] rfl (t_X6_sumUp_159 C rc51 hrc51 a0 x1 o7.2)
    · refine g_aload_n C dX6_sumUp_133 rfl 0 rfl ?_
      refine g_dupr C dX6_sumUp_134 ?_
      refine g_getI C (ci := 6) (k := 6) dX6_sumUp_135 rfl (by decide) (by decide) (by decide) ulX6_sumUp_X6 flX6_sumUp_100 rfl (fun v9 ev9 => ?_)
      refine g_iconst C (v := (1 : Int32)) dX6_sumUp_138 (by decide) ?_
      refine g_iadd C dX6_sumUp_139 ?_
      refine g_putI C (ci := 6) (k := 6) (ty0 := tyX6) dX6_sumUp_140 rfl (by decide) (by decide) (by decide) tyX6_ok nmX6 ulX6_sumUp_X6 flX6_sumUp_100 rfl rfl ⟨rfl, rfl⟩ (fun S10 eS10 => ?_)
      refine g_aload_n C dX6_sumUp_143 rfl 0 rfl ?_
      refine g_aload_n C dX6_sumUp_144 rfl 0 rfl ?_
      refine g_getR C (ci := 6) (k := 2) dX6_sumUp_145 rfl (by decide) (by decide) (by decide) ulX6_sumUp_X6 flX6_sumUp_22 rfl (fun v11 ev11 => ?_)
      refine g_iload_n C dX6_sumUp_148 rfl 1 rfl ?_
      refine g_ild C dX6_sumUp_149 (fun v12 ev12 => ?_)
      refine g_aload_n C dX6_sumUp_150 rfl 0 rfl ?_
      refine g_getR C (ci := 6) (k := 3) dX6_sumUp_151 rfl (by decide) (by decide) (by decide) ulX6_sumUp_X6 flX6_sumUp_25 rfl (fun v13 ev13 => ?_)
      refine g_iload_n C dX6_sumUp_154 rfl 1 rfl ?_
      refine g_ild C dX6_sumUp_155 (fun v14 ev14 => ?_)
      refine g_callV C (n := 2) (ci := 6) [.int v12, .int v14] [] (m_X6_burnAt a0 v12 v14 S10) dX6_sumUp_156 gX6_sumUp_X6_burnAt rfl ⟨rfl, rfl⟩ (by decide +kernel) ⟨by decide, by decide⟩ ⟨by decide, by decide⟩ rfl (by decide) rfl rfl (by first | exact Nat.le_of_ble_eq_true rfl | simp [va_rf_cat, vi_cat, vl_cat]) (fun o15 eo15 => ?_)
      show G Γ cvV 2 0 0 159 [(0, va_rf a0), (1, .int x1)] [] o15 _
      exact g_sub (lv2 := [(0, va_rf a0), (1, .int x1)]) [0, 1] rfl (t_X6_sumUp_159 C rc51 hrc51 a0 x1 o15)
  · refine g_aload_n C dX6_sumUp_112 rfl 0 rfl ?_
    refine g_dupr C dX6_sumUp_113 ?_
    refine g_getI C (ci := 6) (k := 7) dX6_sumUp_114 rfl (by decide) (by decide) (by decide) ulX6_sumUp_X6 flX6_sumUp_103 rfl (fun v16 ev16 => ?_)
    refine g_iconst C (v := (1 : Int32)) dX6_sumUp_117 (by decide) ?_
    refine g_iadd C dX6_sumUp_118 ?_
    refine g_putI C (ci := 6) (k := 7) (ty0 := tyX6) dX6_sumUp_119 rfl (by decide) (by decide) (by decide) tyX6_ok nmX6 ulX6_sumUp_X6 flX6_sumUp_103 rfl rfl ⟨rfl, rfl⟩ (fun S17 eS17 => ?_)
    refine g_goto C (tgt := 159) dX6_sumUp_122 (by decide) ?_
    exact g_sub (lv2 := [(0, va_rf a0), (1, .int x1)]) [0, 1] rfl (t_X6_sumUp_159 C rc51 hrc51 a0 x1 S17)
set_option maxHeartbeats 4000000 in
set_option maxRecDepth 100000 in
theorem t_X6_sumUp_51 {Γ : Cx} (C : CF Γ cX6_sumUp 2 none wsX6_sumUp RX6 rmX6_sumUp 0 0) : ∀ (n : Nat) (a0 : Option Nat) (x1 : Int32) (S : St), G Γ cvV 2 0 0 51 [(0, va_rf a0), (1, .int x1)] [] S (b_X6_sumUp_51  n a0 x1 S) := by
  intro n
  induction n with
  | zero => intro a0 x1 S; exact g_none
  | succ n ih =>
    intro a0 x1 S
    rw [b_X6_sumUp_51]
    refine g_iload_n C dX6_sumUp_51 rfl 1 rfl ?_
    refine g_aload_n C dX6_sumUp_52 rfl 0 rfl ?_
    refine g_getR C (ci := 6) (k := 1) dX6_sumUp_53 rfl (by decide) (by decide) (by decide) ulX6_sumUp_X6 flX6_sumUp_18 rfl (fun v1 ev1 => ?_)
    refine g_getI C (ci := 3) (k := 3) dX6_sumUp_56 rfl (by decide) (by decide) (by decide) ulX6_sumUp_X3 flX6_sumUp_76 rfl (fun v2 ev2 => ?_)
    refine g_icmp_ge C (tgt := 165) dX6_sumUp_59 (by decide) (fun h3 => ?_) (fun h3 => ?_)
    · exact g_vret C dX6_sumUp_165 ⟨by decide, by decide⟩
    · refine g_aload_n C dX6_sumUp_62 rfl 0 rfl ?_
      refine g_dupr C dX6_sumUp_63 ?_
      refine g_getI C (ci := 6) (k := 5) dX6_sumUp_64 rfl (by decide) (by decide) (by decide) ulX6_sumUp_X6 flX6_sumUp_97 rfl (fun v4 ev4 => ?_)
      refine g_aload_n C dX6_sumUp_67 rfl 0 rfl ?_
      refine g_getR C (ci := 6) (k := 1) dX6_sumUp_68 rfl (by decide) (by decide) (by decide) ulX6_sumUp_X6 flX6_sumUp_18 rfl (fun v5 ev5 => ?_)
      refine g_getR C (ci := 3) (k := 2) dX6_sumUp_71 rfl (by decide) (by decide) (by decide) ulX6_sumUp_X3 flX6_sumUp_90 rfl (fun v6 ev6 => ?_)
      refine g_iload_n C dX6_sumUp_74 rfl 1 rfl ?_
      refine g_zld C dX6_sumUp_75 (fun v7 ev7 => ?_)
      refine g_if_eq C (tgt := 83) dX6_sumUp_76 (by decide) (fun h8 => ?_) (fun h8 => ?_)
      · refine g_iconst C (v := (0 : Int32)) dX6_sumUp_83 (by decide) ?_
        exact g_sub (lv2 := [(0, va_rf a0), (1, .int x1)]) [0, 1] rfl (t_X6_sumUp_84 C (b_X6_sumUp_51 n) ih a0 x1 a0 v4 (0 : Int32) S)
      · refine g_iconst C (v := (1 : Int32)) dX6_sumUp_79 (by decide) ?_
        refine g_goto C (tgt := 84) dX6_sumUp_80 (by decide) ?_
        exact g_sub (lv2 := [(0, va_rf a0), (1, .int x1)]) [0, 1] rfl (t_X6_sumUp_84 C (b_X6_sumUp_51 n) ih a0 x1 a0 v4 (1 : Int32) S)
set_option maxHeartbeats 4000000 in
set_option maxRecDepth 100000 in
theorem t_X6_sumUp_49 {Γ : Cx} (C : CF Γ cX6_sumUp 2 none wsX6_sumUp RX6 rmX6_sumUp 0 0) (a0 : Option Nat) (S : St) : G Γ cvV 2 0 0 49 [(0, va_rf a0)] [] S (b_X6_sumUp_49  a0 S) := by
  unfold b_X6_sumUp_49
  refine g_iconst C (v := (0 : Int32)) dX6_sumUp_49 (by decide) ?_
  refine g_istore_n C (i := 1) (lv2 := [(1, .int (0 : Int32)), (0, va_rf a0)]) dX6_sumUp_50 rfl (by decide) (by first | rfl | simp [va_rf_cat, vi_cat, vl_cat]) ?_
  exact g_sub (lv2 := [(0, va_rf a0), (1, .int (0 : Int32))]) [1, 0] rfl (t_X6_sumUp_51 C FU a0 (0 : Int32) S)
set_option maxHeartbeats 4000000 in
set_option maxRecDepth 100000 in
theorem t_X6_sumUp_27 {Γ : Cx} (C : CF Γ cX6_sumUp 2 none wsX6_sumUp RX6 rmX6_sumUp 0 0) : ∀ (n : Nat) (a0 : Option Nat) (x1 : Int32) (S : St), G Γ cvV 2 0 0 27 [(0, va_rf a0), (1, .int x1)] [] S (b_X6_sumUp_27  n a0 x1 S) := by
  intro n
  induction n with
  | zero => intro a0 x1 S; exact g_none
  | succ n ih =>
    intro a0 x1 S
    rw [b_X6_sumUp_27]
    refine g_iload_n C dX6_sumUp_27 rfl 1 rfl ?_
    refine g_bipush C (v := (11 : Int32)) dX6_sumUp_28 (by decide) ?_
    refine g_icmp_ge C (tgt := 49) dX6_sumUp_30 (by decide) (fun h1 => ?_) (fun h1 => ?_)
    · exact g_sub (lv2 := [(0, va_rf a0)]) [0] rfl (t_X6_sumUp_49 C a0 S)
    · refine g_aload_n C dX6_sumUp_33 rfl 0 rfl ?_
      refine g_getR C (ci := 6) (k := 4) dX6_sumUp_34 rfl (by decide) (by decide) (by decide) ulX6_sumUp_X6 flX6_sumUp_30 rfl (fun v2 ev2 => ?_)
      refine g_iload_n C dX6_sumUp_37 rfl 1 rfl ?_
      refine g_ald18 C dX6_sumUp_38 (fun v3 ev3 => ?_)
      refine g_iconst C (v := (0 : Int32)) dX6_sumUp_39 (by decide) ?_
      refine g_callS C (n := 2) [va_rf v3, .int (0 : Int32)] [] (m_J7_fill_53178 v3 (0 : Int32) S) dX6_sumUp_40 gX6_sumUp_J7_fill_53178 rfl ⟨rfl, rfl⟩ (by decide +kernel) ⟨by decide, by decide⟩ ⟨by decide, by decide⟩ rfl rfl (by first | exact Nat.le_of_ble_eq_true rfl | simp [va_rf_cat, vi_cat, vl_cat]) (fun o4 eo4 => ?_)
      show G Γ cvV 2 0 0 43 [(0, va_rf a0), (1, .int x1)] [] o4 _
      refine g_iinc1 C dX6_sumUp_43 1 rfl (by decide) (by decide) (fun y5 => ?_)
      refine g_lveq (lv2 := [(1, .int y5), (0, va_rf a0)]) (by first | rfl | simp [va_rf_cat, vi_cat, vl_cat]) ?_
      refine g_goto C (tgt := 27) dX6_sumUp_46 (by decide) ?_
      exact g_sub (lv2 := [(0, va_rf a0), (1, .int y5)]) [1, 0] rfl (ih a0 y5 o4)
set_option maxHeartbeats 4000000 in
set_option maxRecDepth 100000 in
theorem m_X6_sumUp (a0 : Option Nat) (S : St) : ∀ l D cy H0 o, f_X6_sumUp a0 S = some o → Met l yX6_sumUp wsX6_sumUp rmX6_sumUp (Pq D cy H0 [va_rf a0] S) (Qx D cy H0 (cvV o)) 0 0 (fun q => H0.size ≤ q) := by
  refine met_of (cc := cX6_sumUp) (maxL := 2) (ret := none) [va_rf a0] [(0, va_rf a0)] (by decide) rfl rfl (by simp [lg_sl, va_rf_cat, vi_cat, vl_cat]) (by simp [lv_args, va_rf_cat, vi_cat, vl_cat]) (fun Γ C => ?_)
  unfold f_X6_sumUp
  refine g_aload_n C dX6_sumUp_0 rfl 0 rfl ?_
  refine g_iconst C (v := (0 : Int32)) dX6_sumUp_1 (by decide) ?_
  refine g_putI C (ci := 6) (k := 5) (ty0 := tyX6) dX6_sumUp_2 rfl (by decide) (by decide) (by decide) tyX6_ok nmX6 ulX6_sumUp_X6 flX6_sumUp_97 rfl rfl ⟨rfl, rfl⟩ (fun S1 eS1 => ?_)
  refine g_aload_n C dX6_sumUp_5 rfl 0 rfl ?_
  refine g_iconst C (v := (0 : Int32)) dX6_sumUp_6 (by decide) ?_
  refine g_putI C (ci := 6) (k := 6) (ty0 := tyX6) dX6_sumUp_7 rfl (by decide) (by decide) (by decide) tyX6_ok nmX6 ulX6_sumUp_X6 flX6_sumUp_100 rfl rfl ⟨rfl, rfl⟩ (fun S2 eS2 => ?_)
  refine g_aload_n C dX6_sumUp_10 rfl 0 rfl ?_
  refine g_iconst C (v := (0 : Int32)) dX6_sumUp_11 (by decide) ?_
  refine g_putI C (ci := 6) (k := 7) (ty0 := tyX6) dX6_sumUp_12 rfl (by decide) (by decide) (by decide) tyX6_ok nmX6 ulX6_sumUp_X6 flX6_sumUp_103 rfl rfl ⟨rfl, rfl⟩ (fun S3 eS3 => ?_)
  refine g_aload_n C dX6_sumUp_15 rfl 0 rfl ?_
  refine g_iconst C (v := (0 : Int32)) dX6_sumUp_16 (by decide) ?_
  refine g_putI C (ci := 6) (k := 8) (ty0 := tyX6) dX6_sumUp_17 rfl (by decide) (by decide) (by decide) tyX6_ok nmX6 ulX6_sumUp_X6 flX6_sumUp_106 rfl rfl ⟨rfl, rfl⟩ (fun S4 eS4 => ?_)
  refine g_aload_n C dX6_sumUp_20 rfl 0 rfl ?_
  refine g_iconst C (v := (0 : Int32)) dX6_sumUp_21 (by decide) ?_
  refine g_putI C (ci := 6) (k := 9) (ty0 := tyX6) dX6_sumUp_22 rfl (by decide) (by decide) (by decide) tyX6_ok nmX6 ulX6_sumUp_X6 flX6_sumUp_109 rfl rfl ⟨rfl, rfl⟩ (fun S5 eS5 => ?_)
  refine g_iconst C (v := (0 : Int32)) dX6_sumUp_25 (by decide) ?_
  refine g_istore_n C (i := 1) (lv2 := [(1, .int (0 : Int32)), (0, va_rf a0)]) dX6_sumUp_26 rfl (by decide) (by first | rfl | simp [va_rf_cat, vi_cat, vl_cat]) ?_
  exact g_sub (lv2 := [(0, va_rf a0), (1, .int (0 : Int32))]) [1, 0] rfl (t_X6_sumUp_27 C FU a0 (0 : Int32) S5)
abbrev rmX6_reaches : Room := { frames := 5, cells := 0, slots := 0, locals := 128 }
theorem flX6_reaches_9 : Cond.fieldLink RX6 9 "LightLines$Show" "rules" "[I" ∈ wsX6_reaches := by decide +kernel
theorem flX6_reaches_18 : Cond.fieldLink RX6 18 "LightLines$Show" "path" "LLightLines$Path;" ∈ wsX6_reaches := by decide +kernel
theorem flX6_reaches_22 : Cond.fieldLink RX6 22 "LightLines$Show" "mirrorX" "[I" ∈ wsX6_reaches := by decide +kernel
theorem flX6_reaches_25 : Cond.fieldLink RX6 25 "LightLines$Show" "mirrorY" "[I" ∈ wsX6_reaches := by decide +kernel
theorem flX6_reaches_40 : Cond.fieldLink RX6 40 "LightLines$Show" "stage" "I" ∈ wsX6_reaches := by decide +kernel
theorem flX6_reaches_59 : Cond.fieldLink RX6 59 "LightLines$Path" "isOver" "Z" ∈ wsX6_reaches := by decide +kernel
theorem flX6_reaches_63 : Cond.fieldLink RX6 63 "LightLines$Path" "x" "[I" ∈ wsX6_reaches := by decide +kernel
theorem flX6_reaches_70 : Cond.fieldLink RX6 70 "LightLines$Path" "y" "[I" ∈ wsX6_reaches := by decide +kernel
set_option maxRecDepth 100000 in
theorem ulX6_reaches_X3 : ∀ w ∈ u_ws RX3 TX3 7, w ∈ wsX6_reaches := by decide +kernel
set_option maxRecDepth 100000 in
theorem ulX6_reaches_X6 : ∀ w ∈ u_ws RX6 TX6 13, w ∈ wsX6_reaches := by decide +kernel
set_option maxHeartbeats 4000000 in
set_option maxRecDepth 100000 in
theorem t_X6_reaches_93 {Γ : Cx} (C : CF Γ cX6_reaches 3 (some .boolean) wsX6_reaches RX6 rmX6_reaches 0 0) (a0 : Option Nat) (x1 : Int32) (S : St) : G Γ cvI 3 0 0 93 [(0, va_rf a0), (1, .int x1)] [] S (b_X6_reaches_93  a0 x1 S) := by
  unfold b_X6_reaches_93
  refine g_iload_n C dX6_reaches_93 rfl 1 rfl ?_
  refine g_iconst C (v := (3 : Int32)) dX6_reaches_94 (by decide) ?_
  refine g_icmp_lt C (tgt := 115) dX6_reaches_95 (by decide) (fun h1 => ?_) (fun h1 => ?_)
  · refine g_iconst C (v := (1 : Int32)) dX6_reaches_115 (by decide) ?_
    exact g_zret C dX6_reaches_116 ⟨by decide, by decide⟩
  · refine g_aload_n C dX6_reaches_98 rfl 0 rfl ?_
    refine g_getI C (ci := 6) (k := 12) dX6_reaches_99 rfl (by decide) (by decide) (by decide) ulX6_reaches_X6 flX6_reaches_40 rfl (fun v2 ev2 => ?_)
    refine g_iconst C (v := (3 : Int32)) dX6_reaches_102 (by decide) ?_
    refine g_icmp_ge C (tgt := 115) dX6_reaches_103 (by decide) (fun h3 => ?_) (fun h3 => ?_)
    · refine g_iconst C (v := (1 : Int32)) dX6_reaches_115 (by decide) ?_
      exact g_zret C dX6_reaches_116 ⟨by decide, by decide⟩
    · refine g_aload_n C dX6_reaches_106 rfl 0 rfl ?_
      refine g_callV C (n := 0) (ci := 6) [] [] (m_X6_sumUp a0 S) dX6_reaches_107 gX6_reaches_X6_sumUp rfl ⟨rfl, rfl⟩ (by decide +kernel) ⟨by decide, by decide⟩ ⟨by decide, by decide⟩ rfl (by decide) rfl rfl (by first | exact Nat.le_of_ble_eq_true rfl | simp [va_rf_cat, vi_cat, vl_cat]) (fun o4 eo4 => ?_)
      show G Γ cvI 3 0 0 110 [(0, va_rf a0), (1, .int x1)] [] o4 _
      refine g_aload_n C dX6_reaches_110 rfl 0 rfl ?_
      refine g_iconst C (v := (3 : Int32)) dX6_reaches_111 (by decide) ?_
      refine g_putI C (ci := 6) (k := 12) (ty0 := tyX6) dX6_reaches_112 rfl (by decide) (by decide) (by decide) tyX6_ok nmX6 ulX6_reaches_X6 flX6_reaches_40 rfl rfl ⟨rfl, rfl⟩ (fun S5 eS5 => ?_)
      refine g_iconst C (v := (1 : Int32)) dX6_reaches_115 (by decide) ?_
      exact g_zret C dX6_reaches_116 ⟨by decide, by decide⟩
set_option maxHeartbeats 4000000 in
set_option maxRecDepth 100000 in
theorem t_X6_reaches_33 {Γ : Cx} (C : CF Γ cX6_reaches 3 (some .boolean) wsX6_reaches RX6 rmX6_reaches 0 0) (a0 : Option Nat) (x1 : Int32) (S : St) : G Γ cvI 3 0 0 33 [(0, va_rf a0), (1, .int x1)] [] S (b_X6_reaches_33  a0 x1 S) := by
  unfold b_X6_reaches_33
  refine g_aload_n C dX6_reaches_33 rfl 0 rfl ?_
  refine g_getR C (ci := 6) (k := 1) dX6_reaches_34 rfl (by decide) (by decide) (by decide) ulX6_reaches_X6 flX6_reaches_18 rfl (fun v1 ev1 => ?_)
  refine g_getI C (ci := 3) (k := 4) dX6_reaches_37 rfl (by decide) (by decide) (by decide) ulX6_reaches_X3 flX6_reaches_59 rfl (fun v2 ev2 => ?_)
  refine g_if_eq C (tgt := 45) dX6_reaches_40 (by decide) (fun h3 => ?_) (fun h3 => ?_)
  · refine g_iload_n C dX6_reaches_45 rfl 1 rfl ?_
    refine g_iconst C (v := (2 : Int32)) dX6_reaches_46 (by decide) ?_
    refine g_icmp_lt C (tgt := 93) dX6_reaches_47 (by decide) (fun h4 => ?_) (fun h4 => ?_)
    · exact g_sub (lv2 := [(0, va_rf a0), (1, .int x1)]) [0, 1] rfl (t_X6_reaches_93 C a0 x1 S)
    · refine g_aload_n C dX6_reaches_50 rfl 0 rfl ?_
      refine g_getI C (ci := 6) (k := 12) dX6_reaches_51 rfl (by decide) (by decide) (by decide) ulX6_reaches_X6 flX6_reaches_40 rfl (fun v5 ev5 => ?_)
      refine g_iconst C (v := (2 : Int32)) dX6_reaches_54 (by decide) ?_
      refine g_icmp_ge C (tgt := 93) dX6_reaches_55 (by decide) (fun h6 => ?_) (fun h6 => ?_)
      · exact g_sub (lv2 := [(0, va_rf a0), (1, .int x1)]) [0, 1] rfl (t_X6_reaches_93 C a0 x1 S)
      · refine g_aload_n C dX6_reaches_58 rfl 0 rfl ?_
        refine g_aload_n C dX6_reaches_59 rfl 0 rfl ?_
        refine g_getR C (ci := 6) (k := 1) dX6_reaches_60 rfl (by decide) (by decide) (by decide) ulX6_reaches_X6 flX6_reaches_18 rfl (fun v7 ev7 => ?_)
        refine g_getR C (ci := 3) (k := 0) dX6_reaches_63 rfl (by decide) (by decide) (by decide) ulX6_reaches_X3 flX6_reaches_63 rfl (fun v8 ev8 => ?_)
        refine g_aload_n C dX6_reaches_66 rfl 0 rfl ?_
        refine g_getR C (ci := 6) (k := 2) dX6_reaches_67 rfl (by decide) (by decide) (by decide) ulX6_reaches_X6 flX6_reaches_22 rfl (fun v9 ev9 => ?_)
        refine g_callV C (n := 2) (ci := 6) [va_rf v8, va_rf v9] [] (m_X6_follow a0 v8 v9 S) dX6_reaches_70 gX6_reaches_X6_follow rfl ⟨rfl, rfl⟩ (by decide +kernel) ⟨by decide, by decide⟩ ⟨by decide, by decide⟩ rfl (by decide) rfl rfl (by first | exact Nat.le_of_ble_eq_true rfl | simp [va_rf_cat, vi_cat, vl_cat]) (fun o10 eo10 => ?_)
        show G Γ cvI 3 0 0 73 [(0, va_rf a0), (1, .int x1)] [] o10 _
        refine g_aload_n C dX6_reaches_73 rfl 0 rfl ?_
        refine g_aload_n C dX6_reaches_74 rfl 0 rfl ?_
        refine g_getR C (ci := 6) (k := 1) dX6_reaches_75 rfl (by decide) (by decide) (by decide) ulX6_reaches_X6 flX6_reaches_18 rfl (fun v11 ev11 => ?_)
        refine g_getR C (ci := 3) (k := 1) dX6_reaches_78 rfl (by decide) (by decide) (by decide) ulX6_reaches_X3 flX6_reaches_70 rfl (fun v12 ev12 => ?_)
        refine g_aload_n C dX6_reaches_81 rfl 0 rfl ?_
        refine g_getR C (ci := 6) (k := 3) dX6_reaches_82 rfl (by decide) (by decide) (by decide) ulX6_reaches_X6 flX6_reaches_25 rfl (fun v13 ev13 => ?_)
        refine g_callV C (n := 2) (ci := 6) [va_rf v12, va_rf v13] [] (m_X6_follow a0 v12 v13 o10) dX6_reaches_85 gX6_reaches_X6_follow rfl ⟨rfl, rfl⟩ (by decide +kernel) ⟨by decide, by decide⟩ ⟨by decide, by decide⟩ rfl (by decide) rfl rfl (by first | exact Nat.le_of_ble_eq_true rfl | simp [va_rf_cat, vi_cat, vl_cat]) (fun o14 eo14 => ?_)
        show G Γ cvI 3 0 0 88 [(0, va_rf a0), (1, .int x1)] [] o14 _
        refine g_aload_n C dX6_reaches_88 rfl 0 rfl ?_
        refine g_iconst C (v := (2 : Int32)) dX6_reaches_89 (by decide) ?_
        refine g_putI C (ci := 6) (k := 12) (ty0 := tyX6) dX6_reaches_90 rfl (by decide) (by decide) (by decide) tyX6_ok nmX6 ulX6_reaches_X6 flX6_reaches_40 rfl rfl ⟨rfl, rfl⟩ (fun S15 eS15 => ?_)
        exact g_sub (lv2 := [(0, va_rf a0), (1, .int x1)]) [0, 1] rfl (t_X6_reaches_93 C a0 x1 S15)
  · refine g_iconst C (v := (0 : Int32)) dX6_reaches_43 (by decide) ?_
    exact g_zret C dX6_reaches_44 ⟨by decide, by decide⟩
set_option maxHeartbeats 4000000 in
set_option maxRecDepth 100000 in
theorem m_X6_reaches (a0 : Option Nat) (x1 : Int32) (a2 : Option Nat) (S : St) : ∀ l D cy H0 o, f_X6_reaches a0 x1 a2 S = some o → Met l yX6_reaches wsX6_reaches rmX6_reaches (Pq D cy H0 [va_rf a0, .int x1, va_rf a2] S) (Qx D cy H0 (cvI o)) 0 0 (fun q => H0.size ≤ q) := by
  refine met_of (cc := cX6_reaches) (maxL := 3) (ret := (some .boolean)) [va_rf a0, .int x1, va_rf a2] [(0, va_rf a0), (1, .int x1), (2, va_rf a2)] (by decide) rfl rfl (by simp [lg_sl, va_rf_cat, vi_cat, vl_cat]) (by simp [lv_args, va_rf_cat, vi_cat, vl_cat]) (fun Γ C => ?_)
  unfold f_X6_reaches
  refine g_aload_n C dX6_reaches_0 rfl 0 rfl ?_
  refine g_getI C (ci := 6) (k := 12) dX6_reaches_1 rfl (by decide) (by decide) (by decide) ulX6_reaches_X6 flX6_reaches_40 rfl (fun v1 ev1 => ?_)
  refine g_iconst C (v := (1 : Int32)) dX6_reaches_4 (by decide) ?_
  refine g_icmp_ge C (tgt := 33) dX6_reaches_5 (by decide) (fun h2 => ?_) (fun h2 => ?_)
  · exact g_sub (lv2 := [(0, va_rf a0), (1, .int x1)]) [0, 1] rfl (t_X6_reaches_33 C a0 x1 S)
  · refine g_aload_n C dX6_reaches_8 rfl 0 rfl ?_
    refine g_getR C (ci := 6) (k := 1) dX6_reaches_9 rfl (by decide) (by decide) (by decide) ulX6_reaches_X6 flX6_reaches_18 rfl (fun v3 ev3 => ?_)
    refine g_aload_n C dX6_reaches_12 rfl 2 rfl ?_
    refine g_aload_n C dX6_reaches_13 rfl 0 rfl ?_
    refine g_getR C (ci := 6) (k := 0) dX6_reaches_14 rfl (by decide) (by decide) (by decide) ulX6_reaches_X6 flX6_reaches_9 rfl (fun v4 ev4 => ?_)
    refine g_iconst C (v := (0 : Int32)) dX6_reaches_17 (by decide) ?_
    refine g_ild C dX6_reaches_18 (fun v5 ev5 => ?_)
    refine g_aload_n C dX6_reaches_19 rfl 0 rfl ?_
    refine g_getR C (ci := 6) (k := 0) dX6_reaches_20 rfl (by decide) (by decide) (by decide) ulX6_reaches_X6 flX6_reaches_9 rfl (fun v6 ev6 => ?_)
    refine g_iconst C (v := (1 : Int32)) dX6_reaches_23 (by decide) ?_
    refine g_ild C dX6_reaches_24 (fun v7 ev7 => ?_)
    refine g_callV C (n := 3) (ci := 3) [va_rf a2, .int v5, .int v7] [] (m_X3_drawAll v3 a2 v5 v7 S) dX6_reaches_25 gX6_reaches_X3_drawAll rfl ⟨rfl, rfl⟩ (by decide +kernel) ⟨by decide, by decide⟩ ⟨by decide, by decide⟩ rfl (by decide) rfl rfl (by first | exact Nat.le_of_ble_eq_true rfl | simp [va_rf_cat, vi_cat, vl_cat]) (fun o8 eo8 => ?_)
    show G Γ cvI 3 0 0 28 [(0, va_rf a0), (1, .int x1), (2, va_rf a2)] [] o8 _
    refine g_aload_n C dX6_reaches_28 rfl 0 rfl ?_
    refine g_iconst C (v := (1 : Int32)) dX6_reaches_29 (by decide) ?_
    refine g_putI C (ci := 6) (k := 12) (ty0 := tyX6) dX6_reaches_30 rfl (by decide) (by decide) (by decide) tyX6_ok nmX6 ulX6_reaches_X6 flX6_reaches_40 rfl rfl ⟨rfl, rfl⟩ (fun S9 eS9 => ?_)
    exact g_sub (lv2 := [(0, va_rf a0), (1, .int x1)]) [0, 1] rfl (t_X6_reaches_33 C a0 x1 S9)
abbrev rmX6_isLit : Room := { frames := 2, cells := 0, slots := 0, locals := 44 }
set_option maxHeartbeats 4000000 in
set_option maxRecDepth 100000 in
theorem m_X6_isLit (a0 : Option Nat) (x1 : Int32) (S : St) : ∀ l D cy H0 o, f_X6_isLit a0 x1 S = some o → Met l yX6_isLit wsX6_isLit rmX6_isLit (Pq D cy H0 [va_rf a0, .int x1] S) (Qx D cy H0 (cvI o)) 0 0 (fun q => H0.size ≤ q) := by
  refine met_of (cc := cX6_isLit) (maxL := 2) (ret := (some .boolean)) [va_rf a0, .int x1] [(0, va_rf a0), (1, .int x1)] (by decide) rfl rfl (by simp [lg_sl, va_rf_cat, vi_cat, vl_cat]) (by simp [lv_args, va_rf_cat, vi_cat, vl_cat]) (fun Γ C => ?_)
  unfold f_X6_isLit
  refine g_aload_n C dX6_isLit_0 rfl 0 rfl ?_
  refine g_iload_n C dX6_isLit_1 rfl 1 rfl ?_
  refine g_callV C (n := 1) (ci := 6) [.int x1] [] (m_X6_lightComes a0 x1 S) dX6_isLit_2 gX6_isLit_X6_lightComes rfl ⟨rfl, rfl⟩ (by decide +kernel) ⟨by decide, by decide⟩ ⟨by decide, by decide⟩ rfl (by decide) rfl rfl (by first | exact Nat.le_of_ble_eq_true rfl | simp [va_rf_cat, vi_cat, vl_cat]) (fun o1 eo1 => ?_)
  show G Γ cvI 2 0 0 5 [(0, va_rf a0), (1, .int x1)] [.int o1.1] o1.2 _
  refine g_if_eq C (tgt := 20) dX6_isLit_5 (by decide) (fun h2 => ?_) (fun h2 => ?_)
  · refine g_iconst C (v := (0 : Int32)) dX6_isLit_20 (by decide) ?_
    exact g_zret C dX6_isLit_21 ⟨by decide, by decide⟩
  · refine g_aload_n C dX6_isLit_8 rfl 0 rfl ?_
    refine g_iload_n C dX6_isLit_9 rfl 1 rfl ?_
    refine g_callV C (n := 1) (ci := 6) [.int x1] [] (m_X6_isShut a0 x1 o1.2) dX6_isLit_10 gX6_isLit_X6_isShut rfl ⟨rfl, rfl⟩ (by decide +kernel) ⟨by decide, by decide⟩ ⟨by decide, by decide⟩ rfl (by decide) rfl rfl (by first | exact Nat.le_of_ble_eq_true rfl | simp [va_rf_cat, vi_cat, vl_cat]) (fun o3 eo3 => ?_)
    show G Γ cvI 2 0 0 13 [(0, va_rf a0), (1, .int x1)] [.int o3.1] o3.2 _
    refine g_if_ne C (tgt := 20) dX6_isLit_13 (by decide) (fun h4 => ?_) (fun h4 => ?_)
    · refine g_iconst C (v := (1 : Int32)) dX6_isLit_16 (by decide) ?_
      refine g_goto C (tgt := 21) dX6_isLit_17 (by decide) ?_
      exact g_zret C dX6_isLit_21 ⟨by decide, by decide⟩
    · refine g_iconst C (v := (0 : Int32)) dX6_isLit_20 (by decide) ?_
      exact g_zret C dX6_isLit_21 ⟨by decide, by decide⟩
abbrev rmX7_init : Room := { frames := 2, cells := 0, slots := 0, locals := 46 }
set_option maxHeartbeats 4000000 in
set_option maxRecDepth 100000 in
theorem m_X7_init (a0 : Nat) (a1 : Option Nat) (a2 : Option Nat) (S : St) : ∀ l D cy H0 o, f_X7_init a0 a1 a2 S = some o → Met l yX7_init wsX7_init rmX7_init (Pq D cy H0 [va_rf (some a0), va_rf a1, va_rf a2] S) (Qx D cy H0 (cvV o)) 0 0 (fun q => H0.size ≤ q) := by
  refine met_ofI (cc := cX7_init) (maxL := 3) (ret := none) [va_rf (some a0), va_rf a1, va_rf a2] [(0, va_rf (some a0)), (1, va_rf a1), (2, va_rf a2)] (by decide) rfl rfl rfl (by simp [lg_sl, va_rf_cat, vi_cat, vl_cat]) (by simp [lv_args, va_rf_cat, vi_cat, vl_cat]) (fun Γ C hN => ?_)
  unfold f_X7_init
  refine g_aload_n C dX7_init_0 rfl 0 rfl ?_
  refine g_aload_n C dX7_init_1 rfl 1 rfl ?_
  refine g_aload_n C dX7_init_2 rfl 2 rfl ?_
  refine g_callI C (n := 2) [va_rf a1, va_rf a2] [] (m_X8_init a0 a1 a2 S) dX7_init_3 gX7_init_X8_init rfl ⟨rfl, rfl⟩ (by decide +kernel) (by decide +kernel) (by decide +kernel) rfl (by decide +kernel) ⟨by decide, by decide⟩ ⟨by decide, by decide⟩ rfl rfl (by first | exact Nat.le_of_ble_eq_true rfl | simp [va_rf_cat, vi_cat, vl_cat]) (fun o1 eo1 => ?_)
  show G Γ cvV 3 0 0 6 [(0, va_rf (some a0)), (1, va_rf a1), (2, va_rf a2)] [] o1 _
  exact g_vret C dX7_init_6 ⟨by decide, by decide⟩
abbrev rmX7_markAsked : Room := { frames := 2, cells := 0, slots := 0, locals := 42 }
set_option maxHeartbeats 4000000 in
set_option maxRecDepth 100000 in
theorem m_X7_markAsked (a0 : Option Nat) (a1 : Option Nat) (S : St) : ∀ l D cy H0 o, f_X7_markAsked a0 a1 S = some o → Met l yX7_markAsked wsX7_markAsked rmX7_markAsked (Pq D cy H0 [va_rf a0, va_rf a1] S) (Qx D cy H0 (cvI o)) 0 0 (fun q => H0.size ≤ q) := by
  refine met_of (cc := cX7_markAsked) (maxL := 2) (ret := (some .int)) [va_rf a0, va_rf a1] [(0, va_rf a0), (1, va_rf a1)] (by decide) rfl rfl (by simp [lg_sl, va_rf_cat, vi_cat, vl_cat]) (by simp [lv_args, va_rf_cat, vi_cat, vl_cat]) (fun Γ C => ?_)
  unfold f_X7_markAsked
  refine g_aload_n C dX7_markAsked_0 rfl 1 rfl ?_
  refine g_bipush C (v := (22 : Int32)) dX7_markAsked_1 (by decide) ?_
  refine g_callV C (n := 1) (ci := 9) [.int (22 : Int32)] [] (m_X10_leave a1 (22 : Int32) S) dX7_markAsked_3 gX7_markAsked_X10_leave rfl ⟨rfl, rfl⟩ (by decide +kernel) ⟨by decide, by decide⟩ ⟨by decide, by decide⟩ rfl (by decide) rfl rfl (by first | exact Nat.le_of_ble_eq_true rfl | simp [va_rf_cat, vi_cat, vl_cat]) (fun o1 eo1 => ?_)
  show G Γ cvI 2 0 0 6 [(0, va_rf a0), (1, va_rf a1)] [] o1 _
  refine g_aload_n C dX7_markAsked_6 rfl 0 rfl ?_
  refine g_aload_n C dX7_markAsked_7 rfl 1 rfl ?_
  refine g_callSU C (n := 1) (ci := 7) [va_rf a1] [] (m_X8_markAsked a0 a1 o1) dX7_markAsked_8 gX7_markAsked_X8_markAsked_s13 rfl ⟨rfl, rfl⟩ (by decide +kernel) ⟨by decide, by decide⟩ ⟨by decide, by decide⟩ rfl (by decide) rfl rfl (by first | exact Nat.le_of_ble_eq_true rfl | simp [va_rf_cat, vi_cat, vl_cat]) (fun o2 eo2 => ?_)
  show G Γ cvI 2 0 0 11 [(0, va_rf a0), (1, va_rf a1)] [.int o2.1] o2.2 _
  refine g_aload_n C dX7_markAsked_11 rfl 0 rfl ?_
  refine g_iconst C (v := (0 : Int32)) dX7_markAsked_12 (by decide) ?_
  refine g_callU C (n := 1) [.int (0 : Int32)] [.int o2.1] (m_X8_yAt a0 (0 : Int32) o2.2) dX7_markAsked_13 (fun R s args ht hR => va_cwU 1 ht gX7_markAsked_X8_yAt_u17X7 rfl rfl rfl rfl (by decide +kernel) (by subst hR; exact ⟨by decide, by decide⟩)) ⟨by decide, by decide⟩ (ci := 7) rfl (by decide) rfl rfl (by first | exact Nat.le_of_ble_eq_true rfl | simp [va_rf_cat, vi_cat, vl_cat]) (fun o3 eo3 => ?_)
  show G Γ cvI 2 0 0 16 [(0, va_rf a0), (1, va_rf a1)] [.int o3.1, .int o2.1] o3.2 _
  refine g_iadd C dX7_markAsked_16 ?_
  exact g_iret C dX7_markAsked_17 ⟨by decide, by decide⟩
abbrev rmX8_kindTold : Room := { frames := 0, cells := 0, slots := 0, locals := 0 }
set_option maxHeartbeats 4000000 in
set_option maxRecDepth 100000 in
theorem m_X8_kindTold (a0 : Option Nat) (S : St) : ∀ l D cy H0 o, f_X8_kindTold a0 S = some o → Met l yX8_kindTold wsX8_kindTold rmX8_kindTold (Pq D cy H0 [va_rf a0] S) (Qx D cy H0 (cvI o)) 0 0 (fun q => H0.size ≤ q) := by
  refine met_of (cc := cX8_kindTold) (maxL := 1) (ret := (some .int)) [va_rf a0] [(0, va_rf a0)] (by decide) rfl rfl (by simp [lg_sl, va_rf_cat, vi_cat, vl_cat]) (by simp [lv_args, va_rf_cat, vi_cat, vl_cat]) (fun Γ C => ?_)
  unfold f_X8_kindTold
  refine g_aload_n C dX8_kindTold_0 rfl 0 rfl ?_
  refine g_instSpot C dX8_kindTold_1 (by decide +kernel) (fun v1 ev1 => ?_)
  refine g_if_eq C (tgt := 9) dX8_kindTold_4 (by decide) (fun h2 => ?_) (fun h2 => ?_)
  · refine g_aload_n C dX8_kindTold_9 rfl 0 rfl ?_
    refine g_instLoop C dX8_kindTold_10 (by decide +kernel) (fun v3 ev3 => ?_)
    refine g_if_eq C (tgt := 20) dX8_kindTold_13 (by decide) (fun h4 => ?_) (fun h4 => ?_)
    · refine g_iconst C (v := (2 : Int32)) dX8_kindTold_20 (by decide) ?_
      exact g_iret C dX8_kindTold_21 ⟨by decide, by decide⟩
    · refine g_iconst C (v := (3 : Int32)) dX8_kindTold_16 (by decide) ?_
      refine g_goto C (tgt := 21) dX8_kindTold_17 (by decide) ?_
      exact g_iret C dX8_kindTold_21 ⟨by decide, by decide⟩
  · refine g_iconst C (v := (1 : Int32)) dX8_kindTold_7 (by decide) ?_
    exact g_iret C dX8_kindTold_8 ⟨by decide, by decide⟩
abbrev rmX8_isOf : Room := { frames := 0, cells := 0, slots := 0, locals := 0 }
set_option maxHeartbeats 4000000 in
set_option maxRecDepth 100000 in
theorem m_X8_isOf (a0 : Option Nat) (x1 : Int32) (S : St) : ∀ l D cy H0 o, f_X8_isOf a0 x1 S = some o → Met l yX8_isOf wsX8_isOf rmX8_isOf (Pq D cy H0 [va_rf a0, .int x1] S) (Qx D cy H0 (cvI o)) 0 0 (fun q => H0.size ≤ q) := by
  refine met_of (cc := cX8_isOf) (maxL := 2) (ret := (some .boolean)) [va_rf a0, .int x1] [(0, va_rf a0), (1, .int x1)] (by decide) rfl rfl (by simp [lg_sl, va_rf_cat, vi_cat, vl_cat]) (by simp [lv_args, va_rf_cat, vi_cat, vl_cat]) (fun Γ C => ?_)
  unfold f_X8_isOf
  refine g_iload_n C dX8_isOf_0 rfl 1 rfl ?_
  refine g_ite (fun h1 => ?_) (fun h1 => ?_)
  · refine g_tableIn C (v := 1) (off := 27) (tgt := 28) dX8_isOf_1 h1 (by decide) (by decide) (by decide) (by decide) ?_
    refine g_aload_n C dX8_isOf_28 rfl 0 rfl ?_
    refine g_instSpot C dX8_isOf_29 (by decide +kernel) (fun v2 ev2 => ?_)
    exact g_zret C dX8_isOf_32 ⟨by decide, by decide⟩
  refine g_ite (fun h3 => ?_) (fun h3 => ?_)
  · refine g_tableIn C (v := 2) (off := 32) (tgt := 33) dX8_isOf_1 h3 (by decide) (by decide) (by decide) (by decide) ?_
    refine g_aload_n C dX8_isOf_33 rfl 0 rfl ?_
    refine g_instLine C dX8_isOf_34 (by decide +kernel) (fun v4 ev4 => ?_)
    exact g_zret C dX8_isOf_37 ⟨by decide, by decide⟩
  refine g_ite (fun h5 => ?_) (fun h5 => ?_)
  · refine g_tableIn C (v := 3) (off := 37) (tgt := 38) dX8_isOf_1 h5 (by decide) (by decide) (by decide) (by decide) ?_
    refine g_aload_n C dX8_isOf_38 rfl 0 rfl ?_
    refine g_instLoop C dX8_isOf_39 (by decide +kernel) (fun v6 ev6 => ?_)
    exact g_zret C dX8_isOf_42 ⟨by decide, by decide⟩
  refine g_tableOut C (tgt := 43) dX8_isOf_1 (by have n0 := sw_n (k := 1) (by decide) h1; have n1 := sw_n (k := 2) (by decide) h3; have n2 := sw_n (k := 3) (by decide) h5; omega) (by decide) ?_
  refine g_iload_n C dX8_isOf_43 rfl 1 rfl ?_
  refine g_if_ne C (tgt := 51) dX8_isOf_44 (by decide) (fun h7 => ?_) (fun h7 => ?_)
  · refine g_iconst C (v := (1 : Int32)) dX8_isOf_47 (by decide) ?_
    refine g_goto C (tgt := 52) dX8_isOf_48 (by decide) ?_
    exact g_zret C dX8_isOf_52 ⟨by decide, by decide⟩
  · refine g_iconst C (v := (0 : Int32)) dX8_isOf_51 (by decide) ?_
    exact g_zret C dX8_isOf_52 ⟨by decide, by decide⟩
abbrev rmX9_init : Room := { frames := 1, cells := 3, slots := 24, locals := 24 }
theorem flX9_init_11 : Cond.fieldLink RX9 11 "LightLines$Strokes" "strokes" "[LLightLines$Stroke;" ∈ wsX9_init := by decide +kernel
theorem flX9_init_17 : Cond.fieldLink RX9 17 "LightLines$Strokes" "order" "[I" ∈ wsX9_init := by decide +kernel
theorem flX9_init_21 : Cond.fieldLink RX9 21 "LightLines$Strokes" "directions" "[I" ∈ wsX9_init := by decide +kernel
set_option maxRecDepth 100000 in
theorem ulX9_init_X9 : ∀ w ∈ u_ws RX9 TX9 4, w ∈ wsX9_init := by decide +kernel
set_option maxHeartbeats 4000000 in
set_option maxRecDepth 100000 in
theorem m_X9_init (a0 : Nat) (S : St) : ∀ l D cy H0 o, f_X9_init a0 S = some o → Met l yX9_init wsX9_init rmX9_init (Pq D cy H0 [va_rf (some a0)] S) (Qx D cy H0 (cvV o)) 3 24 (fun q => H0.size ≤ q) := by
  refine met_ofI (cc := cX9_init) (maxL := 1) (ret := none) [va_rf (some a0)] [(0, va_rf (some a0))] (by decide) rfl rfl rfl (by simp [lg_sl, va_rf_cat, vi_cat, vl_cat]) (by simp [lv_args, va_rf_cat, vi_cat, vl_cat]) (fun Γ C hN => ?_)
  unfold f_X9_init
  refine g_aload_n C dX9_init_0 rfl 0 rfl ?_
  refine g_objInit C dX9_init_1 (by decide +kernel) (by decide +kernel) (by decide +kernel) ⟨by decide, by decide⟩ (by first | exact Nat.le_of_ble_eq_true rfl | simp [va_rf_cat, vi_cat, vl_cat]) ?_
  refine g_aload_n C dX9_init_4 rfl 0 rfl ?_
  refine g_bipush C (v := (8 : Int32)) dX9_init_5 (by decide) ?_
  refine g_newq C (kd := 17) (t0 := 4) (N := 8) dX9_init_7 (by decide) (fun _ => rfl) (fun _ h => h.2.1) (by decide) (by decide) (by decide) (by decide +kernel) ⟨by decide, by decide⟩ (fun S1 => ?_)
  show G Γ cvV 1 1 8 10 [(0, va_rf (some a0))] [va_rf (some S.2.2.2), va_rf (some a0)] S1 _
  refine g_putFR C hN (ci := 8) (k := 0) (ty0 := tyX9) dX9_init_10 rfl (by decide) (by decide) (by decide) tyX9_ok nmX9 ulX9_init_X9 flX9_init_11 rfl rfl rfl (rf_fit_a _) (fun S2 eS2 => ?_)
  refine g_aload_n C dX9_init_13 rfl 0 rfl ?_
  refine g_bipush C (v := (8 : Int32)) dX9_init_14 (by decide) ?_
  refine g_newa C (kd := 14) (t0 := 1) (mx := 8) (ty := .int) dX9_init_16 rfl rfl ⟨by decide, by decide⟩ (fun _ => rfl) (fun _ _ h => h) (by decide) (by decide +kernel) ⟨by decide, by decide⟩ (fun S3 eS3 => ?_)
  show G Γ cvV 1 2 16 18 [(0, va_rf (some a0))] [va_rf (some S2.2.2.2), va_rf (some a0)] S3 _
  refine g_putFR C hN (ci := 8) (k := 1) (ty0 := tyX9) dX9_init_18 rfl (by decide) (by decide) (by decide) tyX9_ok nmX9 ulX9_init_X9 flX9_init_17 rfl rfl rfl (rf_fit_a _) (fun S4 eS4 => ?_)
  refine g_aload_n C dX9_init_21 rfl 0 rfl ?_
  refine g_bipush C (v := (8 : Int32)) dX9_init_22 (by decide) ?_
  refine g_newa C (kd := 14) (t0 := 1) (mx := 8) (ty := .int) dX9_init_24 rfl rfl ⟨by decide, by decide⟩ (fun _ => rfl) (fun _ _ h => h) (by decide) (by decide +kernel) ⟨by decide, by decide⟩ (fun S5 eS5 => ?_)
  show G Γ cvV 1 3 24 26 [(0, va_rf (some a0))] [va_rf (some S4.2.2.2), va_rf (some a0)] S5 _
  refine g_putFR C hN (ci := 8) (k := 2) (ty0 := tyX9) dX9_init_26 rfl (by decide) (by decide) (by decide) tyX9_ok nmX9 ulX9_init_X9 flX9_init_21 rfl rfl rfl (rf_fit_a _) (fun S6 eS6 => ?_)
  exact g_vret C dX9_init_29 ⟨by decide, by decide⟩
abbrev rmX9_add : Room := { frames := 1, cells := 0, slots := 0, locals := 23 }
theorem flX9_add_11 : Cond.fieldLink RX9 11 "LightLines$Strokes" "strokes" "[LLightLines$Stroke;" ∈ wsX9_add := by decide +kernel
theorem flX9_add_24 : Cond.fieldLink RX9 24 "LightLines$Strokes" "held" "I" ∈ wsX9_add := by decide +kernel
set_option maxRecDepth 100000 in
theorem ulX9_add_X9 : ∀ w ∈ u_ws RX9 TX9 4, w ∈ wsX9_add := by decide +kernel
set_option maxHeartbeats 4000000 in
set_option maxRecDepth 100000 in
theorem t_X9_add_55 {Γ : Cx} (C : CF Γ cX9_add 3 (some .int) wsX9_add RX9 rmX9_add 0 0) (a0 : Option Nat) (S : St) : G Γ cvI 3 0 0 55 [(0, va_rf a0)] [] S (b_X9_add_55  a0 S) := by
  unfold b_X9_add_55
  refine g_aload_n C dX9_add_55 rfl 0 rfl ?_
  refine g_getI C (ci := 8) (k := 3) dX9_add_56 rfl (by decide) (by decide) (by decide) ulX9_add_X9 flX9_add_24 rfl (fun v1 ev1 => ?_)
  refine g_iconst C (v := (1 : Int32)) dX9_add_59 (by decide) ?_
  refine g_isub C dX9_add_60 ?_
  exact g_iret C dX9_add_61 ⟨by decide, by decide⟩
set_option maxHeartbeats 4000000 in
set_option maxRecDepth 100000 in
theorem t_X9_add_34 {Γ : Cx} (C : CF Γ cX9_add 3 (some .int) wsX9_add RX9 rmX9_add 0 0) : ∀ (n : Nat) (a0 : Option Nat) (x2 : Int32) (S : St), G Γ cvI 3 0 0 34 [(0, va_rf a0), (2, .int x2)] [] S (b_X9_add_34  n a0 x2 S) := by
  intro n
  induction n with
  | zero => intro a0 x2 S; exact g_none
  | succ n ih =>
    intro a0 x2 S
    rw [b_X9_add_34]
    refine g_iload_n C dX9_add_34 rfl 1 rfl ?_
    refine g_aload_n C dX9_add_35 rfl 0 rfl ?_
    refine g_getI C (ci := 8) (k := 3) dX9_add_36 rfl (by decide) (by decide) (by decide) ulX9_add_X9 flX9_add_24 rfl (fun v1 ev1 => ?_)
    refine g_icmp_ge C (tgt := 55) dX9_add_39 (by decide) (fun h2 => ?_) (fun h2 => ?_)
    · exact g_sub (lv2 := [(0, va_rf a0)]) [0] rfl (t_X9_add_55 C a0 S)
    · refine g_aload_n C dX9_add_42 rfl 0 rfl ?_
      refine g_iload_n C dX9_add_43 rfl 1 rfl ?_
      refine g_iload_n C dX9_add_44 rfl 1 rfl ?_
      refine g_iconst C (v := (0 : Int32)) dX9_add_45 (by decide) ?_
      refine g_callV C (n := 3) (ci := 8) [.int x2, .int x2, .int (0 : Int32)] [] (m_X9_planAt a0 x2 x2 (0 : Int32) S) dX9_add_46 gX9_add_X9_planAt rfl ⟨rfl, rfl⟩ (by decide +kernel) ⟨by decide, by decide⟩ ⟨by decide, by decide⟩ rfl (by decide) rfl rfl (by first | exact Nat.le_of_ble_eq_true rfl | simp [va_rf_cat, vi_cat, vl_cat]) (fun o3 eo3 => ?_)
      show G Γ cvI 3 0 0 49 [(0, va_rf a0), (2, .int x2)] [] o3 _
      refine g_iinc1 C dX9_add_49 1 rfl (by decide) (by decide) (fun y4 => ?_)
      refine g_lveq (lv2 := [(2, .int y4), (0, va_rf a0)]) (by first | rfl | simp [va_rf_cat, vi_cat, vl_cat]) ?_
      refine g_goto C (tgt := 34) dX9_add_52 (by decide) ?_
      exact g_sub (lv2 := [(0, va_rf a0), (2, .int y4)]) [1, 0] rfl (ih a0 y4 o3)
set_option maxHeartbeats 4000000 in
set_option maxRecDepth 100000 in
theorem m_X9_add (a0 : Option Nat) (a1 : Option Nat) (S : St) : ∀ l D cy H0 o, f_X9_add a0 a1 S = some o → Met l yX9_add wsX9_add rmX9_add (Pq D cy H0 [va_rf a0, va_rf a1] S) (Qx D cy H0 (cvI o)) 0 0 (fun q => H0.size ≤ q) := by
  refine met_of (cc := cX9_add) (maxL := 3) (ret := (some .int)) [va_rf a0, va_rf a1] [(0, va_rf a0), (1, va_rf a1)] (by decide) rfl rfl (by simp [lg_sl, va_rf_cat, vi_cat, vl_cat]) (by simp [lv_args, va_rf_cat, vi_cat, vl_cat]) (fun Γ C => ?_)
  unfold f_X9_add
  refine g_aload_n C dX9_add_0 rfl 0 rfl ?_
  refine g_getI C (ci := 8) (k := 3) dX9_add_1 rfl (by decide) (by decide) (by decide) ulX9_add_X9 flX9_add_24 rfl (fun v1 ev1 => ?_)
  refine g_bipush C (v := (8 : Int32)) dX9_add_4 (by decide) ?_
  refine g_icmp_lt C (tgt := 12) dX9_add_6 (by decide) (fun h2 => ?_) (fun h2 => ?_)
  · refine g_aload_n C dX9_add_12 rfl 0 rfl ?_
    refine g_getR C (ci := 8) (k := 0) dX9_add_13 rfl (by decide) (by decide) (by decide) ulX9_add_X9 flX9_add_11 rfl (fun v3 ev3 => ?_)
    refine g_aload_n C dX9_add_16 rfl 0 rfl ?_
    refine g_getI C (ci := 8) (k := 3) dX9_add_17 rfl (by decide) (by decide) (by decide) ulX9_add_X9 flX9_add_24 rfl (fun v4 ev4 => ?_)
    refine g_aload_n C dX9_add_20 rfl 1 rfl ?_
    refine g_ast17 C dX9_add_21 (fun S5 eS5 => ?_)
    refine g_aload_n C dX9_add_22 rfl 0 rfl ?_
    refine g_dupr C dX9_add_23 ?_
    refine g_getI C (ci := 8) (k := 3) dX9_add_24 rfl (by decide) (by decide) (by decide) ulX9_add_X9 flX9_add_24 rfl (fun v6 ev6 => ?_)
    refine g_iconst C (v := (1 : Int32)) dX9_add_27 (by decide) ?_
    refine g_iadd C dX9_add_28 ?_
    refine g_putI C (ci := 8) (k := 3) (ty0 := tyX9) dX9_add_29 rfl (by decide) (by decide) (by decide) tyX9_ok nmX9 ulX9_add_X9 flX9_add_24 rfl rfl ⟨rfl, rfl⟩ (fun S7 eS7 => ?_)
    refine g_iconst C (v := (0 : Int32)) dX9_add_32 (by decide) ?_
    refine g_istore_n C (i := 2) (lv2 := [(2, .int (0 : Int32)), (0, va_rf a0), (1, va_rf a1)]) dX9_add_33 rfl (by decide) (by first | rfl | simp [va_rf_cat, vi_cat, vl_cat]) ?_
    exact g_sub (lv2 := [(0, va_rf a0), (2, .int (0 : Int32))]) [1, 0] rfl (t_X9_add_34 C FU a0 (0 : Int32) S7)
  · refine g_ldc C (v := (-1000003 : Int32)) dX9_add_9 (by decide +kernel) ?_
    exact g_iret C dX9_add_11 ⟨by decide, by decide⟩
abbrev rmX9_isPlan : Room := { frames := 2, cells := 0, slots := 0, locals := 43 }
theorem flX9_isPlan_24 : Cond.fieldLink RX9 24 "LightLines$Strokes" "held" "I" ∈ wsX9_isPlan := by decide +kernel
set_option maxRecDepth 100000 in
theorem ulX9_isPlan_X9 : ∀ w ∈ u_ws RX9 TX9 4, w ∈ wsX9_isPlan := by decide +kernel
set_option maxHeartbeats 4000000 in
set_option maxRecDepth 100000 in
theorem t_X9_isPlan_5 {Γ : Cx} (C : CF Γ cX9_isPlan 7 (some .boolean) wsX9_isPlan RX9 rmX9_isPlan 0 0) : ∀ (n : Nat) (a0 : Option Nat) (a1 : Option Nat) (x2 : Int32) (x3 : Int32) (x4 : Int32) (S : St), G Γ cvI 7 0 0 5 [(0, va_rf a0), (1, va_rf a1), (2, .int x2), (3, .int x3), (4, .int x4)] [] S (b_X9_isPlan_5  n a0 a1 x2 x3 x4 S) := by
  intro n
  induction n with
  | zero => intro a0 a1 x2 x3 x4 S; exact g_none
  | succ n ih =>
    intro a0 a1 x2 x3 x4 S
    rw [b_X9_isPlan_5]
    refine g_iload C dX9_isPlan_5 4 rfl ?_
    refine g_aload_n C dX9_isPlan_7 rfl 0 rfl ?_
    refine g_getI C (ci := 8) (k := 3) dX9_isPlan_8 rfl (by decide) (by decide) (by decide) ulX9_isPlan_X9 flX9_isPlan_24 rfl (fun v1 ev1 => ?_)
    refine g_icmp_ge C (tgt := 89) dX9_isPlan_11 (by decide) (fun h2 => ?_) (fun h2 => ?_)
    · refine g_iconst C (v := (1 : Int32)) dX9_isPlan_89 (by decide) ?_
      exact g_zret C dX9_isPlan_90 ⟨by decide, by decide⟩
    · refine g_aload_n C dX9_isPlan_14 rfl 1 rfl ?_
      refine g_iload_n C dX9_isPlan_15 rfl 2 rfl ?_
      refine g_iconst C (v := (2 : Int32)) dX9_isPlan_16 (by decide) ?_
      refine g_iload C dX9_isPlan_17 4 rfl ?_
      refine g_imul C dX9_isPlan_19 ?_
      refine g_iadd C dX9_isPlan_20 ?_
      refine g_callV C (n := 1) (ci := 5) [.int (x2 + ((2 : Int32) * x4))] [] (m_X5_item a1 (x2 + ((2 : Int32) * x4)) S) dX9_isPlan_21 gX9_isPlan_X5_item rfl ⟨rfl, rfl⟩ (by decide +kernel) ⟨by decide, by decide⟩ ⟨by decide, by decide⟩ rfl (by decide) rfl rfl (by first | exact Nat.le_of_ble_eq_true rfl | simp [va_rf_cat, vi_cat, vl_cat]) (fun o3 eo3 => ?_)
      show G Γ cvI 7 0 0 24 [(0, va_rf a0), (1, va_rf a1), (2, .int x2), (3, .int x3), (4, .int x4)] [.int o3.1] o3.2 _
      refine g_istore C (i := 5) (lv2 := [(5, .int o3.1), (0, va_rf a0), (1, va_rf a1), (2, .int x2), (3, .int x3), (4, .int x4)]) dX9_isPlan_24 (by decide) (by first | rfl | simp [va_rf_cat, vi_cat, vl_cat]) ?_
      refine g_aload_n C dX9_isPlan_26 rfl 2 rfl ?_
      refine g_iload_n C dX9_isPlan_27 rfl 3 rfl ?_
      refine g_iconst C (v := (2 : Int32)) dX9_isPlan_28 (by decide) ?_
      refine g_iload C dX9_isPlan_29 5 rfl ?_
      refine g_imul C dX9_isPlan_31 ?_
      refine g_iadd C dX9_isPlan_32 ?_
      refine g_iconst C (v := (1 : Int32)) dX9_isPlan_33 (by decide) ?_
      refine g_iadd C dX9_isPlan_34 ?_
      refine g_callV C (n := 1) (ci := 5) [.int ((x2 + ((2 : Int32) * x4)) + (1 : Int32))] [] (m_X5_item a1 ((x2 + ((2 : Int32) * x4)) + (1 : Int32)) o3.2) dX9_isPlan_35 gX9_isPlan_X5_item rfl ⟨rfl, rfl⟩ (by decide +kernel) ⟨by decide, by decide⟩ ⟨by decide, by decide⟩ rfl (by decide) rfl rfl (by first | exact Nat.le_of_ble_eq_true rfl | simp [va_rf_cat, vi_cat, vl_cat]) (fun o4 eo4 => ?_)
      show G Γ cvI 7 0 0 38 [(5, .int o3.1), (0, va_rf a0), (1, va_rf a1), (2, .int x2), (3, .int x3), (4, .int x4)] [.int o4.1] o4.2 _
      refine g_istore C (i := 6) (lv2 := [(6, .int o4.1), (5, .int o3.1), (0, va_rf a0), (1, va_rf a1), (2, .int x2), (3, .int x3), (4, .int x4)]) dX9_isPlan_38 (by decide) (by first | rfl | simp [va_rf_cat, vi_cat, vl_cat]) ?_
      refine g_iload C dX9_isPlan_40 1 rfl ?_
      refine g_iconst C (v := (0 : Int32)) dX9_isPlan_42 (by decide) ?_
      refine g_aload_n C dX9_isPlan_43 rfl 2 rfl ?_
      refine g_getI C (ci := 8) (k := 3) dX9_isPlan_44 rfl (by decide) (by decide) (by decide) ulX9_isPlan_X9 flX9_isPlan_24 rfl (fun v5 ev5 => ?_)
      refine g_iconst C (v := (1 : Int32)) dX9_isPlan_47 (by decide) ?_
      refine g_isub C dX9_isPlan_48 ?_
      refine g_callSN C (n := 3) (host := "LightLines") [.int o3.1, .int (0 : Int32), .int (v5 - (1 : Int32))] [] (m_X11_isWithin o3.1 (0 : Int32) (v5 - (1 : Int32)) o4.2) dX9_isPlan_49 gX9_isPlan_X11_isWithin_n39 (by decide +kernel) (by decide +kernel) (by decide +kernel) rfl ⟨rfl, rfl⟩ (by decide +kernel) ⟨by decide, by decide⟩ ⟨by decide, by decide⟩ rfl rfl (by first | exact Nat.le_of_ble_eq_true rfl | simp [va_rf_cat, vi_cat, vl_cat]) (fun o6 eo6 => ?_)
      show G Γ cvI 7 0 0 52 [(6, .int o4.1), (5, .int o3.1), (0, va_rf a0), (1, va_rf a1), (2, .int x2), (3, .int x3), (4, .int x4)] [.int o6.1] o6.2 _
      refine g_if_eq C (tgt := 74) dX9_isPlan_52 (by decide) (fun h7 => ?_) (fun h7 => ?_)
      · refine g_iconst C (v := (0 : Int32)) dX9_isPlan_74 (by decide) ?_
        exact g_zret C dX9_isPlan_75 ⟨by decide, by decide⟩
      · refine g_iload C dX9_isPlan_55 0 rfl ?_
        refine g_iconst C (v := (0 : Int32)) dX9_isPlan_57 (by decide) ?_
        refine g_iconst C (v := (1 : Int32)) dX9_isPlan_58 (by decide) ?_
        refine g_callSN C (n := 3) (host := "LightLines") [.int o4.1, .int (0 : Int32), .int (1 : Int32)] [] (m_X11_isWithin o4.1 (0 : Int32) (1 : Int32) o6.2) dX9_isPlan_59 gX9_isPlan_X11_isWithin_n39 (by decide +kernel) (by decide +kernel) (by decide +kernel) rfl ⟨rfl, rfl⟩ (by decide +kernel) ⟨by decide, by decide⟩ ⟨by decide, by decide⟩ rfl rfl (by first | exact Nat.le_of_ble_eq_true rfl | simp [va_rf_cat, vi_cat, vl_cat]) (fun o8 eo8 => ?_)
        show G Γ cvI 7 0 0 62 [(6, .int o4.1), (5, .int o3.1), (0, va_rf a0), (1, va_rf a1), (2, .int x2), (3, .int x3), (4, .int x4)] [.int o8.1] o8.2 _
        refine g_if_eq C (tgt := 74) dX9_isPlan_62 (by decide) (fun h9 => ?_) (fun h9 => ?_)
        · refine g_iconst C (v := (0 : Int32)) dX9_isPlan_74 (by decide) ?_
          exact g_zret C dX9_isPlan_75 ⟨by decide, by decide⟩
        · refine g_iload_n C dX9_isPlan_65 rfl 5 rfl ?_
          refine g_iload C dX9_isPlan_66 1 rfl ?_
          refine g_ishr C dX9_isPlan_68 ?_
          refine g_iconst C (v := (1 : Int32)) dX9_isPlan_69 (by decide) ?_
          refine g_iand C dX9_isPlan_70 ?_
          refine g_if_eq C (tgt := 76) dX9_isPlan_71 (by decide) (fun h10 => ?_) (fun h10 => ?_)
          · refine g_iload_n C dX9_isPlan_76 rfl 5 rfl ?_
            refine g_iconst C (v := (1 : Int32)) dX9_isPlan_77 (by decide) ?_
            refine g_iload C dX9_isPlan_78 1 rfl ?_
            refine g_ishl C dX9_isPlan_80 ?_
            refine g_ior C dX9_isPlan_81 ?_
            refine g_topi (fun y11 => ?_)
            refine g_istore_n C (i := 3) (lv2 := [(3, .int y11), (6, .int o4.1), (5, .int o3.1), (0, va_rf a0), (1, va_rf a1), (2, .int x2), (4, .int x4)]) dX9_isPlan_82 rfl (by decide) (by first | rfl | simp [va_rf_cat, vi_cat, vl_cat]) ?_
            refine g_iinc1 C dX9_isPlan_83 6 rfl (by decide) (by decide) (fun y12 => ?_)
            refine g_lveq (lv2 := [(4, .int y12), (3, .int y11), (6, .int o4.1), (5, .int o3.1), (0, va_rf a0), (1, va_rf a1), (2, .int x2)]) (by first | rfl | simp [va_rf_cat, vi_cat, vl_cat]) ?_
            refine g_goto C (tgt := 5) dX9_isPlan_86 (by decide) ?_
            exact g_sub (lv2 := [(0, va_rf a0), (1, va_rf a1), (2, .int x2), (3, .int y11), (4, .int y12)]) [4, 5, 6, 1, 0] rfl (ih a0 a1 x2 y11 y12 o8.2)
          · refine g_iconst C (v := (0 : Int32)) dX9_isPlan_74 (by decide) ?_
            exact g_zret C dX9_isPlan_75 ⟨by decide, by decide⟩
set_option maxHeartbeats 4000000 in
set_option maxRecDepth 100000 in
theorem m_X9_isPlan (a0 : Option Nat) (a1 : Option Nat) (x2 : Int32) (S : St) : ∀ l D cy H0 o, f_X9_isPlan a0 a1 x2 S = some o → Met l yX9_isPlan wsX9_isPlan rmX9_isPlan (Pq D cy H0 [va_rf a0, va_rf a1, .int x2] S) (Qx D cy H0 (cvI o)) 0 0 (fun q => H0.size ≤ q) := by
  refine met_of (cc := cX9_isPlan) (maxL := 7) (ret := (some .boolean)) [va_rf a0, va_rf a1, .int x2] [(0, va_rf a0), (1, va_rf a1), (2, .int x2)] (by decide) rfl rfl (by simp [lg_sl, va_rf_cat, vi_cat, vl_cat]) (by simp [lv_args, va_rf_cat, vi_cat, vl_cat]) (fun Γ C => ?_)
  unfold f_X9_isPlan
  refine g_iconst C (v := (0 : Int32)) dX9_isPlan_0 (by decide) ?_
  refine g_istore_n C (i := 3) (lv2 := [(3, .int (0 : Int32)), (0, va_rf a0), (1, va_rf a1), (2, .int x2)]) dX9_isPlan_1 rfl (by decide) (by first | rfl | simp [va_rf_cat, vi_cat, vl_cat]) ?_
  refine g_iconst C (v := (0 : Int32)) dX9_isPlan_2 (by decide) ?_
  refine g_istore C (i := 4) (lv2 := [(4, .int (0 : Int32)), (3, .int (0 : Int32)), (0, va_rf a0), (1, va_rf a1), (2, .int x2)]) dX9_isPlan_3 (by decide) (by first | rfl | simp [va_rf_cat, vi_cat, vl_cat]) ?_
  exact g_sub (lv2 := [(0, va_rf a0), (1, va_rf a1), (2, .int x2), (3, .int (0 : Int32)), (4, .int (0 : Int32))]) [2, 3, 4, 1, 0] rfl (t_X9_isPlan_5 C FU a0 a1 x2 (0 : Int32) (0 : Int32) S)
