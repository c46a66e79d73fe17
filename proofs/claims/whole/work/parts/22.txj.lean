abbrev rmX11_plan : Room := { frames := 3, cells := 0, slots := 0, locals := 74 }
theorem flX11_plan_11 : Cond.fieldLink RX11 11 "LightLines" "sheets" "[LLightLines$Sheet;" ∈ wsX11_plan := by decide +kernel
theorem flX11_plan_18 : Cond.fieldLink RX11 18 "LightLines" "strokes" "LLightLines$Strokes;" ∈ wsX11_plan := by decide +kernel
theorem flX11_plan_32 : Cond.fieldLink RX11 32 "LightLines" "show" "LLightLines$Show;" ∈ wsX11_plan := by decide +kernel
theorem flX11_plan_100 : Cond.fieldLink RX11 100 "LightLines$Strokes" "held" "I" ∈ wsX11_plan := by decide +kernel
set_option maxRecDepth 100000 in
theorem ulX11_plan_X11 : ∀ w ∈ u_ws RX11 TX11 7, w ∈ wsX11_plan := by decide +kernel
set_option maxRecDepth 100000 in
theorem ulX11_plan_X9 : ∀ w ∈ u_ws RX9 TX9 4, w ∈ wsX11_plan := by decide +kernel
set_option maxHeartbeats 4000000 in
set_option maxRecDepth 100000 in
theorem t_X11_plan_133 {Γ : Cx} (C : CF Γ cX11_plan 5 (some .int) wsX11_plan RX11 rmX11_plan 0 0) (a0 : Option Nat) (S : St) : G Γ cvI 5 0 0 133 [(0, va_rf a0)] [] S (b_X11_plan_133  a0 S) := by
  unfold b_X11_plan_133
  refine g_aload_n C dX11_plan_133 rfl 0 rfl ?_
  refine g_getR C (ci := 10) (k := 3) dX11_plan_134 rfl (by decide) (by decide) (by decide) ulX11_plan_X11 flX11_plan_32 rfl (fun v1 ev1 => ?_)
  refine g_callV C (n := 0) (ci := 6) [] [] (m_X6_pathIsStale v1 S) dX11_plan_137 gX11_plan_X6_pathIsStale rfl ⟨rfl, rfl⟩ (by decide +kernel) ⟨by decide, by decide⟩ ⟨by decide, by decide⟩ rfl (by decide) rfl rfl (by first | exact Nat.le_of_ble_eq_true rfl | simp [va_rf_cat, vi_cat, vl_cat]) (fun o2 eo2 => ?_)
  show G Γ cvI 5 0 0 140 [(0, va_rf a0)] [] o2 _
  refine g_aload_n C dX11_plan_140 rfl 0 rfl ?_
  refine g_aload_n C dX11_plan_141 rfl 0 rfl ?_
  refine g_getR C (ci := 10) (k := 1) dX11_plan_142 rfl (by decide) (by decide) (by decide) ulX11_plan_X11 flX11_plan_18 rfl (fun v3 ev3 => ?_)
  refine g_callV C (n := 0) (ci := 8) [] [va_rf a0] (m_X9_darkWay v3 o2) dX11_plan_145 gX11_plan_X9_darkWay rfl ⟨rfl, rfl⟩ (by decide +kernel) ⟨by decide, by decide⟩ ⟨by decide, by decide⟩ rfl (by decide) rfl rfl (by first | exact Nat.le_of_ble_eq_true rfl | simp [va_rf_cat, vi_cat, vl_cat]) (fun o4 eo4 => ?_)
  show G Γ cvI 5 0 0 148 [(0, va_rf a0)] [.int o4.1, va_rf a0] o4.2 _
  refine g_callV C (n := 1) (ci := 10) [.int o4.1] [] (m_X11_fine a0 o4.1 o4.2) dX11_plan_148 gX11_plan_X11_fine rfl ⟨rfl, rfl⟩ (by decide +kernel) ⟨by decide, by decide⟩ ⟨by decide, by decide⟩ rfl (by decide) rfl rfl (by first | exact Nat.le_of_ble_eq_true rfl | simp [va_rf_cat, vi_cat, vl_cat]) (fun o5 eo5 => ?_)
  show G Γ cvI 5 0 0 151 [(0, va_rf a0)] [.int o5.1] o5.2 _
  exact g_iret C dX11_plan_151 ⟨by decide, by decide⟩
set_option maxHeartbeats 4000000 in
set_option maxRecDepth 100000 in
theorem t_X11_plan_84 {Γ : Cx} (C : CF Γ cX11_plan 5 (some .int) wsX11_plan RX11 rmX11_plan 0 0) : ∀ (n : Nat) (a0 : Option Nat) (x2 : Int32) (a3 : Option Nat) (x4 : Int32) (S : St), G Γ cvI 5 0 0 84 [(0, va_rf a0), (2, .int x2), (3, va_rf a3), (4, .int x4)] [] S (b_X11_plan_84  n a0 x2 a3 x4 S) := by
  intro n
  induction n with
  | zero => intro a0 x2 a3 x4 S; exact g_none
  | succ n ih =>
    intro a0 x2 a3 x4 S
    rw [b_X11_plan_84]
    refine g_iload C dX11_plan_84 3 rfl ?_
    refine g_aload_n C dX11_plan_86 rfl 0 rfl ?_
    refine g_getR C (ci := 10) (k := 1) dX11_plan_87 rfl (by decide) (by decide) (by decide) ulX11_plan_X11 flX11_plan_18 rfl (fun v1 ev1 => ?_)
    refine g_getI C (ci := 8) (k := 3) dX11_plan_90 rfl (by decide) (by decide) (by decide) ulX11_plan_X9 flX11_plan_100 rfl (fun v2 ev2 => ?_)
    refine g_icmp_ge C (tgt := 133) dX11_plan_93 (by decide) (fun h3 => ?_) (fun h3 => ?_)
    · exact g_sub (lv2 := [(0, va_rf a0)]) [0] rfl (t_X11_plan_133 C a0 S)
    · refine g_aload_n C dX11_plan_96 rfl 0 rfl ?_
      refine g_getR C (ci := 10) (k := 1) dX11_plan_97 rfl (by decide) (by decide) (by decide) ulX11_plan_X11 flX11_plan_18 rfl (fun v4 ev4 => ?_)
      refine g_iload C dX11_plan_100 3 rfl ?_
      refine g_aload_n C dX11_plan_102 rfl 2 rfl ?_
      refine g_iload_n C dX11_plan_103 rfl 1 rfl ?_
      refine g_iconst C (v := (2 : Int32)) dX11_plan_104 (by decide) ?_
      refine g_iload C dX11_plan_105 3 rfl ?_
      refine g_imul C dX11_plan_107 ?_
      refine g_iadd C dX11_plan_108 ?_
      refine g_callV C (n := 1) (ci := 5) [.int (x2 + ((2 : Int32) * x4))] [.int x4, va_rf v4] (m_X5_item a3 (x2 + ((2 : Int32) * x4)) S) dX11_plan_109 gX11_plan_X5_item rfl ⟨rfl, rfl⟩ (by decide +kernel) ⟨by decide, by decide⟩ ⟨by decide, by decide⟩ rfl (by decide) rfl rfl (by first | exact Nat.le_of_ble_eq_true rfl | simp [va_rf_cat, vi_cat, vl_cat]) (fun o5 eo5 => ?_)
      show G Γ cvI 5 0 0 112 [(0, va_rf a0), (2, .int x2), (3, va_rf a3), (4, .int x4)] [.int o5.1, .int x4, va_rf v4] o5.2 _
      refine g_aload_n C dX11_plan_112 rfl 2 rfl ?_
      refine g_iload_n C dX11_plan_113 rfl 1 rfl ?_
      refine g_iconst C (v := (2 : Int32)) dX11_plan_114 (by decide) ?_
      refine g_iload C dX11_plan_115 3 rfl ?_
      refine g_imul C dX11_plan_117 ?_
      refine g_iadd C dX11_plan_118 ?_
      refine g_iconst C (v := (1 : Int32)) dX11_plan_119 (by decide) ?_
      refine g_iadd C dX11_plan_120 ?_
      refine g_callV C (n := 1) (ci := 5) [.int ((x2 + ((2 : Int32) * x4)) + (1 : Int32))] [.int o5.1, .int x4, va_rf v4] (m_X5_item a3 ((x2 + ((2 : Int32) * x4)) + (1 : Int32)) o5.2) dX11_plan_121 gX11_plan_X5_item rfl ⟨rfl, rfl⟩ (by decide +kernel) ⟨by decide, by decide⟩ ⟨by decide, by decide⟩ rfl (by decide) rfl rfl (by first | exact Nat.le_of_ble_eq_true rfl | simp [va_rf_cat, vi_cat, vl_cat]) (fun o6 eo6 => ?_)
      show G Γ cvI 5 0 0 124 [(0, va_rf a0), (2, .int x2), (3, va_rf a3), (4, .int x4)] [.int o6.1, .int o5.1, .int x4, va_rf v4] o6.2 _
      refine g_callV C (n := 3) (ci := 8) [.int x4, .int o5.1, .int o6.1] [] (m_X9_planAt v4 x4 o5.1 o6.1 o6.2) dX11_plan_124 gX11_plan_X9_planAt rfl ⟨rfl, rfl⟩ (by decide +kernel) ⟨by decide, by decide⟩ ⟨by decide, by decide⟩ rfl (by decide) rfl rfl (by first | exact Nat.le_of_ble_eq_true rfl | simp [va_rf_cat, vi_cat, vl_cat]) (fun o7 eo7 => ?_)
      show G Γ cvI 5 0 0 127 [(0, va_rf a0), (2, .int x2), (3, va_rf a3), (4, .int x4)] [] o7 _
      refine g_iinc1 C dX11_plan_127 3 rfl (by decide) (by decide) (fun y8 => ?_)
      refine g_lveq (lv2 := [(4, .int y8), (0, va_rf a0), (2, .int x2), (3, va_rf a3)]) (by first | rfl | simp [va_rf_cat, vi_cat, vl_cat]) ?_
      refine g_goto C (tgt := 84) dX11_plan_130 (by decide) ?_
      exact g_sub (lv2 := [(0, va_rf a0), (2, .int x2), (3, va_rf a3), (4, .int y8)]) [1, 2, 3, 0] rfl (ih a0 x2 a3 y8 o7)
set_option maxHeartbeats 4000000 in
set_option maxRecDepth 100000 in
theorem m_X11_plan (a0 : Option Nat) (x1 : Int32) (x2 : Int32) (S : St) : ∀ l D cy H0 o, f_X11_plan a0 x1 x2 S = some o → Met l yX11_plan wsX11_plan rmX11_plan (Pq D cy H0 [va_rf a0, .int x1, .int x2] S) (Qx D cy H0 (cvI o)) 0 0 (fun q => H0.size ≤ q) := by
  refine met_of (cc := cX11_plan) (maxL := 5) (ret := (some .int)) [va_rf a0, .int x1, .int x2] [(0, va_rf a0), (1, .int x1), (2, .int x2)] (by decide) rfl rfl (by simp [lg_sl, va_rf_cat, vi_cat, vl_cat]) (by simp [lv_args, va_rf_cat, vi_cat, vl_cat]) (fun Γ C => ?_)
  unfold f_X11_plan
  refine g_iload_n C dX11_plan_0 rfl 1 rfl ?_
  refine g_callS C (n := 1) [.int x1] [] (m_X11_isSheet x1 S) dX11_plan_1 gX11_plan_X11_isSheet rfl ⟨rfl, rfl⟩ (by decide +kernel) ⟨by decide, by decide⟩ ⟨by decide, by decide⟩ rfl rfl (by first | exact Nat.le_of_ble_eq_true rfl | simp [va_rf_cat, vi_cat, vl_cat]) (fun o1 eo1 => ?_)
  show G Γ cvI 5 0 0 4 [(0, va_rf a0), (1, .int x1), (2, .int x2)] [.int o1.1] o1.2 _
  refine g_if_ne C (tgt := 10) dX11_plan_4 (by decide) (fun h2 => ?_) (fun h2 => ?_)
  · refine g_ldc C (v := (-1000001 : Int32)) dX11_plan_7 (by decide +kernel) ?_
    exact g_iret C dX11_plan_9 ⟨by decide, by decide⟩
  · refine g_aload_n C dX11_plan_10 rfl 0 rfl ?_
    refine g_getR C (ci := 10) (k := 1) dX11_plan_11 rfl (by decide) (by decide) (by decide) ulX11_plan_X11 flX11_plan_18 rfl (fun v3 ev3 => ?_)
    refine g_getI C (ci := 8) (k := 3) dX11_plan_14 rfl (by decide) (by decide) (by decide) ulX11_plan_X9 flX11_plan_100 rfl (fun v4 ev4 => ?_)
    refine g_if_ne C (tgt := 23) dX11_plan_17 (by decide) (fun h5 => ?_) (fun h5 => ?_)
    · refine g_ldc C (v := (-1000002 : Int32)) dX11_plan_20 (by decide +kernel) ?_
      exact g_iret C dX11_plan_22 ⟨by decide, by decide⟩
    · refine g_aload_n C dX11_plan_23 rfl 0 rfl ?_
      refine g_getR C (ci := 10) (k := 0) dX11_plan_24 rfl (by decide) (by decide) (by decide) ulX11_plan_X11 flX11_plan_11 rfl (fun v6 ev6 => ?_)
      refine g_iload_n C dX11_plan_27 rfl 1 rfl ?_
      refine g_ald16 C dX11_plan_28 (fun v7 ev7 => ?_)
      refine g_astore_n C (i := 3) (lv2 := [(3, va_rf v7), (0, va_rf a0), (1, .int x1), (2, .int x2)]) dX11_plan_29 rfl (by decide) (by first | rfl | simp [va_rf_cat, vi_cat, vl_cat]) ?_
      refine g_aload_n C dX11_plan_30 rfl 0 rfl ?_
      refine g_callV C (n := 0) (ci := 5) [] [] (m_X5_isMissing v7 o1.2) dX11_plan_31 gX11_plan_X5_isMissing rfl ⟨rfl, rfl⟩ (by decide +kernel) ⟨by decide, by decide⟩ ⟨by decide, by decide⟩ rfl (by decide) rfl rfl (by first | exact Nat.le_of_ble_eq_true rfl | simp [va_rf_cat, vi_cat, vl_cat]) (fun o8 eo8 => ?_)
      show G Γ cvI 5 0 0 34 [(3, va_rf v7), (0, va_rf a0), (1, .int x1), (2, .int x2)] [.int o8.1] o8.2 _
      refine g_if_eq C (tgt := 43) dX11_plan_34 (by decide) (fun h9 => ?_) (fun h9 => ?_)
      · refine g_aload_n C dX11_plan_43 rfl 0 rfl ?_
        refine g_iload_n C dX11_plan_44 rfl 3 rfl ?_
        refine g_iconst C (v := (2 : Int32)) dX11_plan_45 (by decide) ?_
        refine g_aload_n C dX11_plan_46 rfl 1 rfl ?_
        refine g_getR C (ci := 10) (k := 1) dX11_plan_47 rfl (by decide) (by decide) (by decide) ulX11_plan_X11 flX11_plan_18 rfl (fun v10 ev10 => ?_)
        refine g_getI C (ci := 8) (k := 3) dX11_plan_50 rfl (by decide) (by decide) (by decide) ulX11_plan_X9 flX11_plan_100 rfl (fun v11 ev11 => ?_)
        refine g_imul C dX11_plan_53 ?_
        refine g_callV C (n := 2) (ci := 5) [.int x2, .int ((2 : Int32) * v11)] [] (m_X5_has v7 x2 ((2 : Int32) * v11) o8.2) dX11_plan_54 gX11_plan_X5_has rfl ⟨rfl, rfl⟩ (by decide +kernel) ⟨by decide, by decide⟩ ⟨by decide, by decide⟩ rfl (by decide) rfl rfl (by first | exact Nat.le_of_ble_eq_true rfl | simp [va_rf_cat, vi_cat, vl_cat]) (fun o12 eo12 => ?_)
        show G Γ cvI 5 0 0 57 [(3, va_rf v7), (0, va_rf a0), (1, .int x1), (2, .int x2)] [.int o12.1] o12.2 _
        refine g_if_ne C (tgt := 66) dX11_plan_57 (by decide) (fun h13 => ?_) (fun h13 => ?_)
        · refine g_aload_n C dX11_plan_60 rfl 1 rfl ?_
          refine g_iconst C (v := (2 : Int32)) dX11_plan_61 (by decide) ?_
          refine g_callV C (n := 1) (ci := 10) [.int (2 : Int32)] [] (m_X11_found a0 (2 : Int32) o12.2) dX11_plan_62 gX11_plan_X11_found rfl ⟨rfl, rfl⟩ (by decide +kernel) ⟨by decide, by decide⟩ ⟨by decide, by decide⟩ rfl (by decide) rfl rfl (by first | exact Nat.le_of_ble_eq_true rfl | simp [va_rf_cat, vi_cat, vl_cat]) (fun o14 eo14 => ?_)
          show G Γ cvI 5 0 0 65 [(3, va_rf v7), (0, va_rf a0), (1, .int x1), (2, .int x2)] [.int o14.1] o14.2 _
          exact g_iret C dX11_plan_65 ⟨by decide, by decide⟩
        · refine g_aload_n C dX11_plan_66 rfl 1 rfl ?_
          refine g_getR C (ci := 10) (k := 1) dX11_plan_67 rfl (by decide) (by decide) (by decide) ulX11_plan_X11 flX11_plan_18 rfl (fun v15 ev15 => ?_)
          refine g_aload_n C dX11_plan_70 rfl 0 rfl ?_
          refine g_iload_n C dX11_plan_71 rfl 3 rfl ?_
          refine g_callV C (n := 2) (ci := 8) [va_rf v7, .int x2] [] (m_X9_isPlan v15 v7 x2 o12.2) dX11_plan_72 gX11_plan_X9_isPlan rfl ⟨rfl, rfl⟩ (by decide +kernel) ⟨by decide, by decide⟩ ⟨by decide, by decide⟩ rfl (by decide) rfl rfl (by first | exact Nat.le_of_ble_eq_true rfl | simp [va_rf_cat, vi_cat, vl_cat]) (fun o16 eo16 => ?_)
          show G Γ cvI 5 0 0 75 [(3, va_rf v7), (0, va_rf a0), (1, .int x1), (2, .int x2)] [.int o16.1] o16.2 _
          refine g_if_ne C (tgt := 81) dX11_plan_75 (by decide) (fun h17 => ?_) (fun h17 => ?_)
          · refine g_ldc C (v := (-1000001 : Int32)) dX11_plan_78 (by decide +kernel) ?_
            exact g_iret C dX11_plan_80 ⟨by decide, by decide⟩
          · refine g_iconst C (v := (0 : Int32)) dX11_plan_81 (by decide) ?_
            refine g_istore C (i := 4) (lv2 := [(4, .int (0 : Int32)), (3, va_rf v7), (0, va_rf a0), (1, .int x1), (2, .int x2)]) dX11_plan_82 (by decide) (by first | rfl | simp [va_rf_cat, vi_cat, vl_cat]) ?_
            exact g_sub (lv2 := [(0, va_rf a0), (2, .int x2), (3, va_rf v7), (4, .int (0 : Int32))]) [2, 4, 1, 0] rfl (t_X11_plan_84 C FU a0 x2 v7 (0 : Int32) o16.2)
      · refine g_aload_n C dX11_plan_37 rfl 1 rfl ?_
        refine g_iconst C (v := (1 : Int32)) dX11_plan_38 (by decide) ?_
        refine g_callV C (n := 1) (ci := 10) [.int (1 : Int32)] [] (m_X11_found a0 (1 : Int32) o8.2) dX11_plan_39 gX11_plan_X11_found rfl ⟨rfl, rfl⟩ (by decide +kernel) ⟨by decide, by decide⟩ ⟨by decide, by decide⟩ rfl (by decide) rfl rfl (by first | exact Nat.le_of_ble_eq_true rfl | simp [va_rf_cat, vi_cat, vl_cat]) (fun o18 eo18 => ?_)
        show G Γ cvI 5 0 0 42 [(3, va_rf v7), (0, va_rf a0), (1, .int x1), (2, .int x2)] [.int o18.1] o18.2 _
        exact g_iret C dX11_plan_42 ⟨by decide, by decide⟩
abbrev rmX11_best : Room := { frames := 6, cells := 0, slots := 0, locals := 151 }
theorem flX11_best_18 : Cond.fieldLink RX11 18 "LightLines" "strokes" "LLightLines$Strokes;" ∈ wsX11_best := by decide +kernel
theorem flX11_best_25 : Cond.fieldLink RX11 25 "LightLines" "search" "LLightLines$PlanSearch;" ∈ wsX11_best := by decide +kernel
theorem flX11_best_32 : Cond.fieldLink RX11 32 "LightLines" "show" "LLightLines$Show;" ∈ wsX11_best := by decide +kernel
theorem flX11_best_100 : Cond.fieldLink RX11 100 "LightLines$Strokes" "held" "I" ∈ wsX11_best := by decide +kernel
set_option maxRecDepth 100000 in
theorem ulX11_best_X11 : ∀ w ∈ u_ws RX11 TX11 7, w ∈ wsX11_best := by decide +kernel
set_option maxRecDepth 100000 in
theorem ulX11_best_X9 : ∀ w ∈ u_ws RX9 TX9 4, w ∈ wsX11_best := by decide +kernel
set_option maxHeartbeats 4000000 in
set_option maxRecDepth 100000 in
theorem m_X11_best (a0 : Option Nat) (S : St) : ∀ l D cy H0 o, f_X11_best a0 S = some o → Met l yX11_best wsX11_best rmX11_best (Pq D cy H0 [va_rf a0] S) (Qx D cy H0 (cvI o)) 0 0 (fun q => H0.size ≤ q) := by
  refine met_of (cc := cX11_best) (maxL := 1) (ret := (some .int)) [va_rf a0] [(0, va_rf a0)] (by decide) rfl rfl (by simp [lg_sl, va_rf_cat, vi_cat, vl_cat]) (by simp [lv_args, va_rf_cat, vi_cat, vl_cat]) (fun Γ C => ?_)
  unfold f_X11_best
  refine g_aload_n C dX11_best_0 rfl 0 rfl ?_
  refine g_getR C (ci := 10) (k := 1) dX11_best_1 rfl (by decide) (by decide) (by decide) ulX11_best_X11 flX11_best_18 rfl (fun v1 ev1 => ?_)
  refine g_getI C (ci := 8) (k := 3) dX11_best_4 rfl (by decide) (by decide) (by decide) ulX11_best_X9 flX11_best_100 rfl (fun v2 ev2 => ?_)
  refine g_if_ne C (tgt := 13) dX11_best_7 (by decide) (fun h3 => ?_) (fun h3 => ?_)
  · refine g_ldc C (v := (-1000002 : Int32)) dX11_best_10 (by decide +kernel) ?_
    exact g_iret C dX11_best_12 ⟨by decide, by decide⟩
  · refine g_aload_n C dX11_best_13 rfl 0 rfl ?_
    refine g_getR C (ci := 10) (k := 2) dX11_best_14 rfl (by decide) (by decide) (by decide) ulX11_best_X11 flX11_best_25 rfl (fun v4 ev4 => ?_)
    refine g_aload_n C dX11_best_17 rfl 0 rfl ?_
    refine g_getR C (ci := 10) (k := 1) dX11_best_18 rfl (by decide) (by decide) (by decide) ulX11_best_X11 flX11_best_18 rfl (fun v5 ev5 => ?_)
    refine g_callV C (n := 1) (ci := 4) [va_rf v5] [] (m_X4_putBest v4 v5 S) dX11_best_21 gX11_best_X4_putBest rfl ⟨rfl, rfl⟩ (by decide +kernel) ⟨by decide, by decide⟩ ⟨by decide, by decide⟩ rfl (by decide) rfl rfl (by first | exact Nat.le_of_ble_eq_true rfl | simp [va_rf_cat, vi_cat, vl_cat]) (fun o6 eo6 => ?_)
    show G Γ cvI 1 0 0 24 [(0, va_rf a0)] [] o6 _
    refine g_aload_n C dX11_best_24 rfl 0 rfl ?_
    refine g_getR C (ci := 10) (k := 3) dX11_best_25 rfl (by decide) (by decide) (by decide) ulX11_best_X11 flX11_best_32 rfl (fun v7 ev7 => ?_)
    refine g_callV C (n := 0) (ci := 6) [] [] (m_X6_pathIsStale v7 o6) dX11_best_28 gX11_best_X6_pathIsStale rfl ⟨rfl, rfl⟩ (by decide +kernel) ⟨by decide, by decide⟩ ⟨by decide, by decide⟩ rfl (by decide) rfl rfl (by first | exact Nat.le_of_ble_eq_true rfl | simp [va_rf_cat, vi_cat, vl_cat]) (fun o8 eo8 => ?_)
    show G Γ cvI 1 0 0 31 [(0, va_rf a0)] [] o8 _
    refine g_aload_n C dX11_best_31 rfl 0 rfl ?_
    refine g_getR C (ci := 10) (k := 1) dX11_best_32 rfl (by decide) (by decide) (by decide) ulX11_best_X11 flX11_best_18 rfl (fun v9 ev9 => ?_)
    refine g_callV C (n := 0) (ci := 8) [] [] (m_X9_darkWay v9 o8) dX11_best_35 gX11_best_X9_darkWay rfl ⟨rfl, rfl⟩ (by decide +kernel) ⟨by decide, by decide⟩ ⟨by decide, by decide⟩ rfl (by decide) rfl rfl (by first | exact Nat.le_of_ble_eq_true rfl | simp [va_rf_cat, vi_cat, vl_cat]) (fun o10 eo10 => ?_)
    show G Γ cvI 1 0 0 38 [(0, va_rf a0)] [.int o10.1] o10.2 _
    exact g_iret C dX11_best_38 ⟨by decide, by decide⟩
abbrev rmX11_order : Room := { frames := 1, cells := 0, slots := 0, locals := 22 }
theorem flX11_order_18 : Cond.fieldLink RX11 18 "LightLines" "strokes" "LLightLines$Strokes;" ∈ wsX11_order := by decide +kernel
theorem flX11_order_100 : Cond.fieldLink RX11 100 "LightLines$Strokes" "held" "I" ∈ wsX11_order := by decide +kernel
theorem flX11_order_154 : Cond.fieldLink RX11 154 "LightLines$Strokes" "order" "[I" ∈ wsX11_order := by decide +kernel
theorem flX11_order_157 : Cond.fieldLink RX11 157 "LightLines$Strokes" "directions" "[I" ∈ wsX11_order := by decide +kernel
set_option maxRecDepth 100000 in
theorem ulX11_order_X11 : ∀ w ∈ u_ws RX11 TX11 7, w ∈ wsX11_order := by decide +kernel
set_option maxRecDepth 100000 in
theorem ulX11_order_X9 : ∀ w ∈ u_ws RX9 TX9 4, w ∈ wsX11_order := by decide +kernel
set_option maxHeartbeats 4000000 in
set_option maxRecDepth 100000 in
theorem m_X11_order (a0 : Option Nat) (x1 : Int32) (x2 : Int32) (S : St) : ∀ l D cy H0 o, f_X11_order a0 x1 x2 S = some o → Met l yX11_order wsX11_order rmX11_order (Pq D cy H0 [va_rf a0, .int x1, .int x2] S) (Qx D cy H0 (cvI o)) 0 0 (fun q => H0.size ≤ q) := by
  refine met_of (cc := cX11_order) (maxL := 3) (ret := (some .int)) [va_rf a0, .int x1, .int x2] [(0, va_rf a0), (1, .int x1), (2, .int x2)] (by decide) rfl rfl (by simp [lg_sl, va_rf_cat, vi_cat, vl_cat]) (by simp [lv_args, va_rf_cat, vi_cat, vl_cat]) (fun Γ C => ?_)
  unfold f_X11_order
  refine g_iload_n C dX11_order_0 rfl 2 rfl ?_
  refine g_iconst C (v := (0 : Int32)) dX11_order_1 (by decide) ?_
  refine g_iconst C (v := (1 : Int32)) dX11_order_2 (by decide) ?_
  refine g_callS C (n := 3) [.int x2, .int (0 : Int32), .int (1 : Int32)] [] (m_X11_isWithin x2 (0 : Int32) (1 : Int32) S) dX11_order_3 gX11_order_X11_isWithin rfl ⟨rfl, rfl⟩ (by decide +kernel) ⟨by decide, by decide⟩ ⟨by decide, by decide⟩ rfl rfl (by first | exact Nat.le_of_ble_eq_true rfl | simp [va_rf_cat, vi_cat, vl_cat]) (fun o1 eo1 => ?_)
  show G Γ cvI 3 0 0 6 [(0, va_rf a0), (1, .int x1), (2, .int x2)] [.int o1.1] o1.2 _
  refine g_if_ne C (tgt := 12) dX11_order_6 (by decide) (fun h2 => ?_) (fun h2 => ?_)
  · refine g_ldc C (v := (-1000001 : Int32)) dX11_order_9 (by decide +kernel) ?_
    exact g_iret C dX11_order_11 ⟨by decide, by decide⟩
  · refine g_iload_n C dX11_order_12 rfl 1 rfl ?_
    refine g_iconst C (v := (0 : Int32)) dX11_order_13 (by decide) ?_
    refine g_aload_n C dX11_order_14 rfl 0 rfl ?_
    refine g_getR C (ci := 10) (k := 1) dX11_order_15 rfl (by decide) (by decide) (by decide) ulX11_order_X11 flX11_order_18 rfl (fun v3 ev3 => ?_)
    refine g_getI C (ci := 8) (k := 3) dX11_order_18 rfl (by decide) (by decide) (by decide) ulX11_order_X9 flX11_order_100 rfl (fun v4 ev4 => ?_)
    refine g_iconst C (v := (1 : Int32)) dX11_order_21 (by decide) ?_
    refine g_isub C dX11_order_22 ?_
    refine g_callS C (n := 3) [.int x1, .int (0 : Int32), .int (v4 - (1 : Int32))] [] (m_X11_isWithin x1 (0 : Int32) (v4 - (1 : Int32)) o1.2) dX11_order_23 gX11_order_X11_isWithin rfl ⟨rfl, rfl⟩ (by decide +kernel) ⟨by decide, by decide⟩ ⟨by decide, by decide⟩ rfl rfl (by first | exact Nat.le_of_ble_eq_true rfl | simp [va_rf_cat, vi_cat, vl_cat]) (fun o5 eo5 => ?_)
    show G Γ cvI 3 0 0 26 [(0, va_rf a0), (1, .int x1), (2, .int x2)] [.int o5.1] o5.2 _
    refine g_if_ne C (tgt := 32) dX11_order_26 (by decide) (fun h6 => ?_) (fun h6 => ?_)
    · refine g_ldc C (v := (-1000000 : Int32)) dX11_order_29 (by decide +kernel) ?_
      exact g_iret C dX11_order_31 ⟨by decide, by decide⟩
    · refine g_iload_n C dX11_order_32 rfl 2 rfl ?_
      refine g_if_ne C (tgt := 48) dX11_order_33 (by decide) (fun h7 => ?_) (fun h7 => ?_)
      · refine g_aload_n C dX11_order_36 rfl 0 rfl ?_
        refine g_getR C (ci := 10) (k := 1) dX11_order_37 rfl (by decide) (by decide) (by decide) ulX11_order_X11 flX11_order_18 rfl (fun v8 ev8 => ?_)
        refine g_getR C (ci := 8) (k := 1) dX11_order_40 rfl (by decide) (by decide) (by decide) ulX11_order_X9 flX11_order_154 rfl (fun v9 ev9 => ?_)
        refine g_iload_n C dX11_order_43 rfl 1 rfl ?_
        refine g_ild C dX11_order_44 (fun v10 ev10 => ?_)
        refine g_goto C (tgt := 57) dX11_order_45 (by decide) ?_
        exact g_iret C dX11_order_57 ⟨by decide, by decide⟩
      · refine g_aload_n C dX11_order_48 rfl 0 rfl ?_
        refine g_getR C (ci := 10) (k := 1) dX11_order_49 rfl (by decide) (by decide) (by decide) ulX11_order_X11 flX11_order_18 rfl (fun v11 ev11 => ?_)
        refine g_getR C (ci := 8) (k := 2) dX11_order_52 rfl (by decide) (by decide) (by decide) ulX11_order_X9 flX11_order_157 rfl (fun v12 ev12 => ?_)
        refine g_iload_n C dX11_order_55 rfl 1 rfl ?_
        refine g_ild C dX11_order_56 (fun v13 ev13 => ?_)
        exact g_iret C dX11_order_57 ⟨by decide, by decide⟩
abbrev rmX11_rule : Room := { frames := 3, cells := 0, slots := 0, locals := 68 }
theorem flX11_rule_32 : Cond.fieldLink RX11 32 "LightLines" "show" "LLightLines$Show;" ∈ wsX11_rule := by decide +kernel
set_option maxRecDepth 100000 in
theorem ulX11_rule_X11 : ∀ w ∈ u_ws RX11 TX11 7, w ∈ wsX11_rule := by decide +kernel
set_option maxHeartbeats 4000000 in
set_option maxRecDepth 100000 in
theorem m_X11_rule (a0 : Option Nat) (x1 : Int32) (x2 : Int32) (S : St) : ∀ l D cy H0 o, f_X11_rule a0 x1 x2 S = some o → Met l yX11_rule wsX11_rule rmX11_rule (Pq D cy H0 [va_rf a0, .int x1, .int x2] S) (Qx D cy H0 (cvI o)) 0 0 (fun q => H0.size ≤ q) := by
  refine met_of (cc := cX11_rule) (maxL := 3) (ret := (some .int)) [va_rf a0, .int x1, .int x2] [(0, va_rf a0), (1, .int x1), (2, .int x2)] (by decide) rfl rfl (by simp [lg_sl, va_rf_cat, vi_cat, vl_cat]) (by simp [lv_args, va_rf_cat, vi_cat, vl_cat]) (fun Γ C => ?_)
  unfold f_X11_rule
  refine g_iload_n C dX11_rule_0 rfl 1 rfl ?_
  refine g_iconst C (v := (0 : Int32)) dX11_rule_1 (by decide) ?_
  refine g_gsL C dX11_rule_2 (by decide +kernel) ?_
  refine g_tbN C dX11_rule_5 (fun v1 ev1 => ?_)
  refine g_iconst C (v := (1 : Int32)) dX11_rule_6 (by decide) ?_
  refine g_isub C dX11_rule_7 ?_
  refine g_callS C (n := 3) [.int x1, .int (0 : Int32), .int (v1 - (1 : Int32))] [] (m_X11_isWithin x1 (0 : Int32) (v1 - (1 : Int32)) S) dX11_rule_8 gX11_rule_X11_isWithin rfl ⟨rfl, rfl⟩ (by decide +kernel) ⟨by decide, by decide⟩ ⟨by decide, by decide⟩ rfl rfl (by first | exact Nat.le_of_ble_eq_true rfl | simp [va_rf_cat, vi_cat, vl_cat]) (fun o2 eo2 => ?_)
  show G Γ cvI 3 0 0 11 [(0, va_rf a0), (1, .int x1), (2, .int x2)] [.int o2.1] o2.2 _
  refine g_if_eq C (tgt := 31) dX11_rule_11 (by decide) (fun h3 => ?_) (fun h3 => ?_)
  · refine g_ldc C (v := (-1000001 : Int32)) dX11_rule_31 (by decide +kernel) ?_
    exact g_iret C dX11_rule_33 ⟨by decide, by decide⟩
  · refine g_iload_n C dX11_rule_14 rfl 2 rfl ?_
    refine g_gsL C dX11_rule_15 (by decide +kernel) ?_
    refine g_iload_n C dX11_rule_18 rfl 1 rfl ?_
    refine g_tbI C dX11_rule_19 (fun v4 ev4 => ?_)
    refine g_gsM C dX11_rule_20 (by decide +kernel) ?_
    refine g_iload_n C dX11_rule_23 rfl 1 rfl ?_
    refine g_tbI C dX11_rule_24 (fun v5 ev5 => ?_)
    refine g_callS C (n := 3) [.int x2, .int v4, .int v5] [] (m_X11_isWithin x2 v4 v5 o2.2) dX11_rule_25 gX11_rule_X11_isWithin rfl ⟨rfl, rfl⟩ (by decide +kernel) ⟨by decide, by decide⟩ ⟨by decide, by decide⟩ rfl rfl (by first | exact Nat.le_of_ble_eq_true rfl | simp [va_rf_cat, vi_cat, vl_cat]) (fun o6 eo6 => ?_)
    show G Γ cvI 3 0 0 28 [(0, va_rf a0), (1, .int x1), (2, .int x2)] [.int o6.1] o6.2 _
    refine g_if_ne C (tgt := 34) dX11_rule_28 (by decide) (fun h7 => ?_) (fun h7 => ?_)
    · refine g_ldc C (v := (-1000001 : Int32)) dX11_rule_31 (by decide +kernel) ?_
      exact g_iret C dX11_rule_33 ⟨by decide, by decide⟩
    · refine g_aload_n C dX11_rule_34 rfl 0 rfl ?_
      refine g_getR C (ci := 10) (k := 3) dX11_rule_35 rfl (by decide) (by decide) (by decide) ulX11_rule_X11 flX11_rule_32 rfl (fun v8 ev8 => ?_)
      refine g_iload_n C dX11_rule_38 rfl 1 rfl ?_
      refine g_iload_n C dX11_rule_39 rfl 2 rfl ?_
      refine g_callV C (n := 2) (ci := 6) [.int x1, .int x2] [] (m_X6_changeRule v8 x1 x2 o6.2) dX11_rule_40 gX11_rule_X6_changeRule rfl ⟨rfl, rfl⟩ (by decide +kernel) ⟨by decide, by decide⟩ ⟨by decide, by decide⟩ rfl (by decide) rfl rfl (by first | exact Nat.le_of_ble_eq_true rfl | simp [va_rf_cat, vi_cat, vl_cat]) (fun o9 eo9 => ?_)
      show G Γ cvI 3 0 0 43 [(0, va_rf a0), (1, .int x1), (2, .int x2)] [.int o9.1] o9.2 _
      exact g_iret C dX11_rule_43 ⟨by decide, by decide⟩
abbrev rmX11_isZone : Room := { frames := 1, cells := 0, slots := 0, locals := 22 }
set_option maxHeartbeats 4000000 in
set_option maxRecDepth 100000 in
theorem m_X11_isZone (x0 : Int32) (S : St) : ∀ l D cy H0 o, f_X11_isZone x0 S = some o → Met l yX11_isZone wsX11_isZone rmX11_isZone (Pq D cy H0 [.int x0] S) (Qx D cy H0 (cvI o)) 0 0 (fun q => H0.size ≤ q) := by
  refine met_of (cc := cX11_isZone) (maxL := 1) (ret := (some .boolean)) [.int x0] [(0, .int x0)] (by decide) rfl rfl (by simp [lg_sl, va_rf_cat, vi_cat, vl_cat]) (by simp [lv_args, va_rf_cat, vi_cat, vl_cat]) (fun Γ C => ?_)
  unfold f_X11_isZone
  refine g_iload_n C dX11_isZone_0 rfl 0 rfl ?_
  refine g_iconst C (v := (0 : Int32)) dX11_isZone_1 (by decide) ?_
  refine g_iconst C (v := (3 : Int32)) dX11_isZone_2 (by decide) ?_
  refine g_callS C (n := 3) [.int x0, .int (0 : Int32), .int (3 : Int32)] [] (m_X11_isWithin x0 (0 : Int32) (3 : Int32) S) dX11_isZone_3 gX11_isZone_X11_isWithin rfl ⟨rfl, rfl⟩ (by decide +kernel) ⟨by decide, by decide⟩ ⟨by decide, by decide⟩ rfl rfl (by first | exact Nat.le_of_ble_eq_true rfl | simp [va_rf_cat, vi_cat, vl_cat]) (fun o1 eo1 => ?_)
  show G Γ cvI 1 0 0 6 [(0, .int x0)] [.int o1.1] o1.2 _
  exact g_zret C dX11_isZone_6 ⟨by decide, by decide⟩
abbrev rmX11_zone : Room := { frames := 3, cells := 0, slots := 0, locals := 70 }
theorem flX11_zone_32 : Cond.fieldLink RX11 32 "LightLines" "show" "LLightLines$Show;" ∈ wsX11_zone := by decide +kernel
set_option maxRecDepth 100000 in
theorem ulX11_zone_X11 : ∀ w ∈ u_ws RX11 TX11 7, w ∈ wsX11_zone := by decide +kernel
set_option maxHeartbeats 4000000 in
set_option maxRecDepth 100000 in
theorem m_X11_zone (a0 : Option Nat) (x1 : Int32) (x2 : Int32) (x3 : Int32) (x4 : Int32) (x5 : Int32) (S : St) : ∀ l D cy H0 o, f_X11_zone a0 x1 x2 x3 x4 x5 S = some o → Met l yX11_zone wsX11_zone rmX11_zone (Pq D cy H0 [va_rf a0, .int x1, .int x2, .int x3, .int x4, .int x5] S) (Qx D cy H0 (cvI o)) 0 0 (fun q => H0.size ≤ q) := by
  refine met_of (cc := cX11_zone) (maxL := 6) (ret := (some .int)) [va_rf a0, .int x1, .int x2, .int x3, .int x4, .int x5] [(0, va_rf a0), (1, .int x1), (2, .int x2), (3, .int x3), (4, .int x4), (5, .int x5)] (by decide) rfl rfl (by simp [lg_sl, va_rf_cat, vi_cat, vl_cat]) (by simp [lv_args, va_rf_cat, vi_cat, vl_cat]) (fun Γ C => ?_)
  unfold f_X11_zone
  refine g_iload_n C dX11_zone_0 rfl 1 rfl ?_
  refine g_callS C (n := 1) [.int x1] [] (m_X11_isZone x1 S) dX11_zone_1 gX11_zone_X11_isZone rfl ⟨rfl, rfl⟩ (by decide +kernel) ⟨by decide, by decide⟩ ⟨by decide, by decide⟩ rfl rfl (by first | exact Nat.le_of_ble_eq_true rfl | simp [va_rf_cat, vi_cat, vl_cat]) (fun o1 eo1 => ?_)
  show G Γ cvI 6 0 0 4 [(0, va_rf a0), (1, .int x1), (2, .int x2), (3, .int x3), (4, .int x4), (5, .int x5)] [.int o1.1] o1.2 _
  refine g_if_eq C (tgt := 43) dX11_zone_4 (by decide) (fun h2 => ?_) (fun h2 => ?_)
  · refine g_ldc C (v := (-1000001 : Int32)) dX11_zone_43 (by decide +kernel) ?_
    exact g_iret C dX11_zone_45 ⟨by decide, by decide⟩
  · refine g_iload_n C dX11_zone_7 rfl 2 rfl ?_
    refine g_if_lt C (tgt := 43) dX11_zone_8 (by decide) (fun h3 => ?_) (fun h3 => ?_)
    · refine g_ldc C (v := (-1000001 : Int32)) dX11_zone_43 (by decide +kernel) ?_
      exact g_iret C dX11_zone_45 ⟨by decide, by decide⟩
    · refine g_iload_n C dX11_zone_11 rfl 2 rfl ?_
      refine g_iload C dX11_zone_12 4 rfl ?_
      refine g_icmp_gt C (tgt := 43) dX11_zone_14 (by decide) (fun h4 => ?_) (fun h4 => ?_)
      · refine g_ldc C (v := (-1000001 : Int32)) dX11_zone_43 (by decide +kernel) ?_
        exact g_iret C dX11_zone_45 ⟨by decide, by decide⟩
      · refine g_iload C dX11_zone_17 4 rfl ?_
        refine g_sipush C (v := (1000 : Int32)) dX11_zone_19 (by decide) ?_
        refine g_icmp_gt C (tgt := 43) dX11_zone_22 (by decide) (fun h5 => ?_) (fun h5 => ?_)
        · refine g_ldc C (v := (-1000001 : Int32)) dX11_zone_43 (by decide +kernel) ?_
          exact g_iret C dX11_zone_45 ⟨by decide, by decide⟩
        · refine g_iload_n C dX11_zone_25 rfl 3 rfl ?_
          refine g_if_lt C (tgt := 43) dX11_zone_26 (by decide) (fun h6 => ?_) (fun h6 => ?_)
          · refine g_ldc C (v := (-1000001 : Int32)) dX11_zone_43 (by decide +kernel) ?_
            exact g_iret C dX11_zone_45 ⟨by decide, by decide⟩
          · refine g_iload_n C dX11_zone_29 rfl 3 rfl ?_
            refine g_iload C dX11_zone_30 5 rfl ?_
            refine g_icmp_gt C (tgt := 43) dX11_zone_32 (by decide) (fun h7 => ?_) (fun h7 => ?_)
            · refine g_ldc C (v := (-1000001 : Int32)) dX11_zone_43 (by decide +kernel) ?_
              exact g_iret C dX11_zone_45 ⟨by decide, by decide⟩
            · refine g_iload C dX11_zone_35 5 rfl ?_
              refine g_sipush C (v := (1000 : Int32)) dX11_zone_37 (by decide) ?_
              refine g_icmp_le C (tgt := 46) dX11_zone_40 (by decide) (fun h8 => ?_) (fun h8 => ?_)
              · refine g_aload_n C dX11_zone_46 rfl 0 rfl ?_
                refine g_getR C (ci := 10) (k := 3) dX11_zone_47 rfl (by decide) (by decide) (by decide) ulX11_zone_X11 flX11_zone_32 rfl (fun v9 ev9 => ?_)
                refine g_iload_n C dX11_zone_50 rfl 1 rfl ?_
                refine g_iload_n C dX11_zone_51 rfl 2 rfl ?_
                refine g_iload_n C dX11_zone_52 rfl 3 rfl ?_
                refine g_iload C dX11_zone_53 4 rfl ?_
                refine g_iload C dX11_zone_55 5 rfl ?_
                refine g_callV C (n := 5) (ci := 6) [.int x1, .int x2, .int x3, .int x4, .int x5] [] (m_X6_shutZone v9 x1 x2 x3 x4 x5 o1.2) dX11_zone_57 gX11_zone_X6_shutZone rfl ⟨rfl, rfl⟩ (by decide +kernel) ⟨by decide, by decide⟩ ⟨by decide, by decide⟩ rfl (by decide) rfl rfl (by first | exact Nat.le_of_ble_eq_true rfl | simp [va_rf_cat, vi_cat, vl_cat]) (fun o10 eo10 => ?_)
                show G Γ cvI 6 0 0 60 [(0, va_rf a0), (1, .int x1), (2, .int x2), (3, .int x3), (4, .int x4), (5, .int x5)] [] o10 _
                refine g_iconst C (v := (1 : Int32)) dX11_zone_60 (by decide) ?_
                exact g_iret C dX11_zone_61 ⟨by decide, by decide⟩
              · refine g_ldc C (v := (-1000001 : Int32)) dX11_zone_43 (by decide +kernel) ?_
                exact g_iret C dX11_zone_45 ⟨by decide, by decide⟩
abbrev rmX11_open : Room := { frames := 3, cells := 0, slots := 0, locals := 67 }
theorem flX11_open_32 : Cond.fieldLink RX11 32 "LightLines" "show" "LLightLines$Show;" ∈ wsX11_open := by decide +kernel
set_option maxRecDepth 100000 in
theorem ulX11_open_X11 : ∀ w ∈ u_ws RX11 TX11 7, w ∈ wsX11_open := by decide +kernel
set_option maxHeartbeats 4000000 in
set_option maxRecDepth 100000 in
theorem m_X11_open (a0 : Option Nat) (x1 : Int32) (S : St) : ∀ l D cy H0 o, f_X11_open a0 x1 S = some o → Met l yX11_open wsX11_open rmX11_open (Pq D cy H0 [va_rf a0, .int x1] S) (Qx D cy H0 (cvI o)) 0 0 (fun q => H0.size ≤ q) := by
  refine met_of (cc := cX11_open) (maxL := 2) (ret := (some .int)) [va_rf a0, .int x1] [(0, va_rf a0), (1, .int x1)] (by decide) rfl rfl (by simp [lg_sl, va_rf_cat, vi_cat, vl_cat]) (by simp [lv_args, va_rf_cat, vi_cat, vl_cat]) (fun Γ C => ?_)
  unfold f_X11_open
  refine g_iload_n C dX11_open_0 rfl 1 rfl ?_
  refine g_callS C (n := 1) [.int x1] [] (m_X11_isZone x1 S) dX11_open_1 gX11_open_X11_isZone rfl ⟨rfl, rfl⟩ (by decide +kernel) ⟨by decide, by decide⟩ ⟨by decide, by decide⟩ rfl rfl (by first | exact Nat.le_of_ble_eq_true rfl | simp [va_rf_cat, vi_cat, vl_cat]) (fun o1 eo1 => ?_)
  show G Γ cvI 2 0 0 4 [(0, va_rf a0), (1, .int x1)] [.int o1.1] o1.2 _
  refine g_if_ne C (tgt := 10) dX11_open_4 (by decide) (fun h2 => ?_) (fun h2 => ?_)
  · refine g_ldc C (v := (-1000001 : Int32)) dX11_open_7 (by decide +kernel) ?_
    exact g_iret C dX11_open_9 ⟨by decide, by decide⟩
  · refine g_aload_n C dX11_open_10 rfl 0 rfl ?_
    refine g_getR C (ci := 10) (k := 3) dX11_open_11 rfl (by decide) (by decide) (by decide) ulX11_open_X11 flX11_open_32 rfl (fun v3 ev3 => ?_)
    refine g_iload_n C dX11_open_14 rfl 1 rfl ?_
    refine g_callV C (n := 1) (ci := 6) [.int x1] [] (m_X6_openZone v3 x1 o1.2) dX11_open_15 gX11_open_X6_openZone rfl ⟨rfl, rfl⟩ (by decide +kernel) ⟨by decide, by decide⟩ ⟨by decide, by decide⟩ rfl (by decide) rfl rfl (by first | exact Nat.le_of_ble_eq_true rfl | simp [va_rf_cat, vi_cat, vl_cat]) (fun o4 eo4 => ?_)
    show G Γ cvI 2 0 0 18 [(0, va_rf a0), (1, .int x1)] [.int o4.1] o4.2 _
    refine g_if_eq C (tgt := 25) dX11_open_18 (by decide) (fun h5 => ?_) (fun h5 => ?_)
    · refine g_iconst C (v := (0 : Int32)) dX11_open_25 (by decide) ?_
      exact g_iret C dX11_open_26 ⟨by decide, by decide⟩
    · refine g_iconst C (v := (1 : Int32)) dX11_open_21 (by decide) ?_
      refine g_goto C (tgt := 26) dX11_open_22 (by decide) ?_
      exact g_iret C dX11_open_26 ⟨by decide, by decide⟩
abbrev rmX11_ticks : Room := { frames := 6, cells := 0, slots := 0, locals := 150 }
theorem flX11_ticks_18 : Cond.fieldLink RX11 18 "LightLines" "strokes" "LLightLines$Strokes;" ∈ wsX11_ticks := by decide +kernel
theorem flX11_ticks_32 : Cond.fieldLink RX11 32 "LightLines" "show" "LLightLines$Show;" ∈ wsX11_ticks := by decide +kernel
theorem flX11_ticks_183 : Cond.fieldLink RX11 183 "LightLines$Show" "path" "LLightLines$Path;" ∈ wsX11_ticks := by decide +kernel
theorem flX11_ticks_187 : Cond.fieldLink RX11 187 "LightLines$Path" "length" "I" ∈ wsX11_ticks := by decide +kernel
set_option maxRecDepth 100000 in
theorem ulX11_ticks_X11 : ∀ w ∈ u_ws RX11 TX11 7, w ∈ wsX11_ticks := by decide +kernel
set_option maxRecDepth 100000 in
theorem ulX11_ticks_X3 : ∀ w ∈ u_ws RX3 TX3 7, w ∈ wsX11_ticks := by decide +kernel
set_option maxRecDepth 100000 in
theorem ulX11_ticks_X6 : ∀ w ∈ u_ws RX6 TX6 13, w ∈ wsX11_ticks := by decide +kernel
set_option maxHeartbeats 4000000 in
set_option maxRecDepth 100000 in
theorem m_X11_ticks (a0 : Option Nat) (S : St) : ∀ l D cy H0 o, f_X11_ticks a0 S = some o → Met l yX11_ticks wsX11_ticks rmX11_ticks (Pq D cy H0 [va_rf a0] S) (Qx D cy H0 (cvI o)) 0 0 (fun q => H0.size ≤ q) := by
  refine met_of (cc := cX11_ticks) (maxL := 1) (ret := (some .int)) [va_rf a0] [(0, va_rf a0)] (by decide) rfl rfl (by simp [lg_sl, va_rf_cat, vi_cat, vl_cat]) (by simp [lv_args, va_rf_cat, vi_cat, vl_cat]) (fun Γ C => ?_)
  unfold f_X11_ticks
  refine g_aload_n C dX11_ticks_0 rfl 0 rfl ?_
  refine g_getR C (ci := 10) (k := 3) dX11_ticks_1 rfl (by decide) (by decide) (by decide) ulX11_ticks_X11 flX11_ticks_32 rfl (fun v1 ev1 => ?_)
  refine g_iconst C (v := (1 : Int32)) dX11_ticks_4 (by decide) ?_
  refine g_aload_n C dX11_ticks_5 rfl 0 rfl ?_
  refine g_getR C (ci := 10) (k := 1) dX11_ticks_6 rfl (by decide) (by decide) (by decide) ulX11_ticks_X11 flX11_ticks_18 rfl (fun v2 ev2 => ?_)
  refine g_callV C (n := 2) (ci := 6) [.int (1 : Int32), va_rf v2] [] (m_X6_reaches v1 (1 : Int32) v2 S) dX11_ticks_9 gX11_ticks_X6_reaches rfl ⟨rfl, rfl⟩ (by decide +kernel) ⟨by decide, by decide⟩ ⟨by decide, by decide⟩ rfl (by decide) rfl rfl (by first | exact Nat.le_of_ble_eq_true rfl | simp [va_rf_cat, vi_cat, vl_cat]) (fun o3 eo3 => ?_)
  show G Γ cvI 1 0 0 12 [(0, va_rf a0)] [.int o3.1] o3.2 _
  refine g_if_eq C (tgt := 28) dX11_ticks_12 (by decide) (fun h4 => ?_) (fun h4 => ?_)
  · refine g_ldc C (v := (-1000003 : Int32)) dX11_ticks_28 (by decide +kernel) ?_
    exact g_iret C dX11_ticks_30 ⟨by decide, by decide⟩
  · refine g_aload_n C dX11_ticks_15 rfl 0 rfl ?_
    refine g_getR C (ci := 10) (k := 3) dX11_ticks_16 rfl (by decide) (by decide) (by decide) ulX11_ticks_X11 flX11_ticks_32 rfl (fun v5 ev5 => ?_)
    refine g_getR C (ci := 6) (k := 1) dX11_ticks_19 rfl (by decide) (by decide) (by decide) ulX11_ticks_X6 flX11_ticks_183 rfl (fun v6 ev6 => ?_)
    refine g_getI C (ci := 3) (k := 3) dX11_ticks_22 rfl (by decide) (by decide) (by decide) ulX11_ticks_X3 flX11_ticks_187 rfl (fun v7 ev7 => ?_)
    refine g_goto C (tgt := 30) dX11_ticks_25 (by decide) ?_
    exact g_iret C dX11_ticks_30 ⟨by decide, by decide⟩
abbrev rmX11_tick : Room := { frames := 6, cells := 0, slots := 0, locals := 150 }
theorem flX11_tick_18 : Cond.fieldLink RX11 18 "LightLines" "strokes" "LLightLines$Strokes;" ∈ wsX11_tick := by decide +kernel
theorem flX11_tick_32 : Cond.fieldLink RX11 32 "LightLines" "show" "LLightLines$Show;" ∈ wsX11_tick := by decide +kernel
theorem flX11_tick_183 : Cond.fieldLink RX11 183 "LightLines$Show" "path" "LLightLines$Path;" ∈ wsX11_tick := by decide +kernel
theorem flX11_tick_187 : Cond.fieldLink RX11 187 "LightLines$Path" "length" "I" ∈ wsX11_tick := by decide +kernel
theorem flX11_tick_192 : Cond.fieldLink RX11 192 "LightLines$Path" "x" "[I" ∈ wsX11_tick := by decide +kernel
theorem flX11_tick_195 : Cond.fieldLink RX11 195 "LightLines$Path" "y" "[I" ∈ wsX11_tick := by decide +kernel
theorem flX11_tick_198 : Cond.fieldLink RX11 198 "LightLines$Path" "lit" "[Z" ∈ wsX11_tick := by decide +kernel
theorem flX11_tick_202 : Cond.fieldLink RX11 202 "LightLines$Show" "mirrorX" "[I" ∈ wsX11_tick := by decide +kernel
theorem flX11_tick_205 : Cond.fieldLink RX11 205 "LightLines$Show" "mirrorY" "[I" ∈ wsX11_tick := by decide +kernel
set_option maxRecDepth 100000 in
theorem ulX11_tick_X11 : ∀ w ∈ u_ws RX11 TX11 7, w ∈ wsX11_tick := by decide +kernel
set_option maxRecDepth 100000 in
theorem ulX11_tick_X3 : ∀ w ∈ u_ws RX3 TX3 7, w ∈ wsX11_tick := by decide +kernel
set_option maxRecDepth 100000 in
theorem ulX11_tick_X6 : ∀ w ∈ u_ws RX6 TX6 13, w ∈ wsX11_tick := by decide +kernel
set_option maxHeartbeats 4000000 in
set_option maxRecDepth 100000 in
theorem t_X11_tick_27 {Γ : Cx} (C : CF Γ cX11_tick 3 (some .int) wsX11_tick RX11 rmX11_tick 0 0) (a0 : Option Nat) (x1 : Int32) (x2 : Int32) (r0 : Option Nat) (s1 : Int32) (S : St) : G Γ cvI 3 0 0 27 [(0, va_rf a0), (1, .int x1), (2, .int x2)] [.int s1, va_rf r0] S (b_X11_tick_27  a0 x1 x2 r0 s1 S) := by
  unfold b_X11_tick_27
  refine g_aload_n C dX11_tick_27 rfl 0 rfl ?_
  refine g_getR C (ci := 10) (k := 1) dX11_tick_28 rfl (by decide) (by decide) (by decide) ulX11_tick_X11 flX11_tick_18 rfl (fun v1 ev1 => ?_)
  refine g_callV C (n := 2) (ci := 6) [.int s1, va_rf v1] [] (m_X6_reaches r0 s1 v1 S) dX11_tick_31 gX11_tick_X6_reaches rfl ⟨rfl, rfl⟩ (by decide +kernel) ⟨by decide, by decide⟩ ⟨by decide, by decide⟩ rfl (by decide) rfl rfl (by first | exact Nat.le_of_ble_eq_true rfl | simp [va_rf_cat, vi_cat, vl_cat]) (fun o2 eo2 => ?_)
  show G Γ cvI 3 0 0 34 [(0, va_rf a0), (1, .int x1), (2, .int x2)] [.int o2.1] o2.2 _
  refine g_if_ne C (tgt := 40) dX11_tick_34 (by decide) (fun h3 => ?_) (fun h3 => ?_)
  · refine g_ldc C (v := (-1000003 : Int32)) dX11_tick_37 (by decide +kernel) ?_
    exact g_iret C dX11_tick_39 ⟨by decide, by decide⟩
  · refine g_iload_n C dX11_tick_40 rfl 1 rfl ?_
    refine g_iconst C (v := (0 : Int32)) dX11_tick_41 (by decide) ?_
    refine g_aload_n C dX11_tick_42 rfl 0 rfl ?_
    refine g_getR C (ci := 10) (k := 3) dX11_tick_43 rfl (by decide) (by decide) (by decide) ulX11_tick_X11 flX11_tick_32 rfl (fun v4 ev4 => ?_)
    refine g_getR C (ci := 6) (k := 1) dX11_tick_46 rfl (by decide) (by decide) (by decide) ulX11_tick_X6 flX11_tick_183 rfl (fun v5 ev5 => ?_)
    refine g_getI C (ci := 3) (k := 3) dX11_tick_49 rfl (by decide) (by decide) (by decide) ulX11_tick_X3 flX11_tick_187 rfl (fun v6 ev6 => ?_)
    refine g_iconst C (v := (1 : Int32)) dX11_tick_52 (by decide) ?_
    refine g_isub C dX11_tick_53 ?_
    refine g_callS C (n := 3) [.int x1, .int (0 : Int32), .int (v6 - (1 : Int32))] [] (m_X11_isWithin x1 (0 : Int32) (v6 - (1 : Int32)) o2.2) dX11_tick_54 gX11_tick_X11_isWithin rfl ⟨rfl, rfl⟩ (by decide +kernel) ⟨by decide, by decide⟩ ⟨by decide, by decide⟩ rfl rfl (by first | exact Nat.le_of_ble_eq_true rfl | simp [va_rf_cat, vi_cat, vl_cat]) (fun o7 eo7 => ?_)
    show G Γ cvI 3 0 0 57 [(0, va_rf a0), (1, .int x1), (2, .int x2)] [.int o7.1] o7.2 _
    refine g_if_ne C (tgt := 63) dX11_tick_57 (by decide) (fun h8 => ?_) (fun h8 => ?_)
    · refine g_ldc C (v := (-1000000 : Int32)) dX11_tick_60 (by decide +kernel) ?_
      exact g_iret C dX11_tick_62 ⟨by decide, by decide⟩
    · refine g_iload_n C dX11_tick_63 rfl 2 rfl ?_
      refine g_ite (fun h9 => ?_) (fun h9 => ?_)
      · refine g_tableIn C (v := 0) (off := 44) (tgt := 108) dX11_tick_64 h9 (by decide) (by decide) (by decide) (by decide) ?_
        refine g_aload_n C dX11_tick_108 rfl 0 rfl ?_
        refine g_getR C (ci := 10) (k := 3) dX11_tick_109 rfl (by decide) (by decide) (by decide) ulX11_tick_X11 flX11_tick_32 rfl (fun v10 ev10 => ?_)
        refine g_getR C (ci := 6) (k := 1) dX11_tick_112 rfl (by decide) (by decide) (by decide) ulX11_tick_X6 flX11_tick_183 rfl (fun v11 ev11 => ?_)
        refine g_getR C (ci := 3) (k := 0) dX11_tick_115 rfl (by decide) (by decide) (by decide) ulX11_tick_X3 flX11_tick_192 rfl (fun v12 ev12 => ?_)
        refine g_iload_n C dX11_tick_118 rfl 1 rfl ?_
        refine g_ild C dX11_tick_119 (fun v13 ev13 => ?_)
        exact g_iret C dX11_tick_120 ⟨by decide, by decide⟩
      refine g_ite (fun h14 => ?_) (fun h14 => ?_)
      · refine g_tableIn C (v := 1) (off := 57) (tgt := 121) dX11_tick_64 h14 (by decide) (by decide) (by decide) (by decide) ?_
        refine g_aload_n C dX11_tick_121 rfl 0 rfl ?_
        refine g_getR C (ci := 10) (k := 3) dX11_tick_122 rfl (by decide) (by decide) (by decide) ulX11_tick_X11 flX11_tick_32 rfl (fun v15 ev15 => ?_)
        refine g_getR C (ci := 6) (k := 1) dX11_tick_125 rfl (by decide) (by decide) (by decide) ulX11_tick_X6 flX11_tick_183 rfl (fun v16 ev16 => ?_)
        refine g_getR C (ci := 3) (k := 1) dX11_tick_128 rfl (by decide) (by decide) (by decide) ulX11_tick_X3 flX11_tick_195 rfl (fun v17 ev17 => ?_)
        refine g_iload_n C dX11_tick_131 rfl 1 rfl ?_
        refine g_ild C dX11_tick_132 (fun v18 ev18 => ?_)
        exact g_iret C dX11_tick_133 ⟨by decide, by decide⟩
      refine g_ite (fun h19 => ?_) (fun h19 => ?_)
      · refine g_tableIn C (v := 2) (off := 70) (tgt := 134) dX11_tick_64 h19 (by decide) (by decide) (by decide) (by decide) ?_
        refine g_aload_n C dX11_tick_134 rfl 0 rfl ?_
        refine g_getR C (ci := 10) (k := 3) dX11_tick_135 rfl (by decide) (by decide) (by decide) ulX11_tick_X11 flX11_tick_32 rfl (fun v20 ev20 => ?_)
        refine g_getR C (ci := 6) (k := 1) dX11_tick_138 rfl (by decide) (by decide) (by decide) ulX11_tick_X6 flX11_tick_183 rfl (fun v21 ev21 => ?_)
        refine g_getR C (ci := 3) (k := 2) dX11_tick_141 rfl (by decide) (by decide) (by decide) ulX11_tick_X3 flX11_tick_198 rfl (fun v22 ev22 => ?_)
        refine g_iload_n C dX11_tick_144 rfl 1 rfl ?_
        refine g_zld C dX11_tick_145 (fun v23 ev23 => ?_)
        refine g_if_eq C (tgt := 153) dX11_tick_146 (by decide) (fun h24 => ?_) (fun h24 => ?_)
        · refine g_iconst C (v := (0 : Int32)) dX11_tick_153 (by decide) ?_
          exact g_iret C dX11_tick_154 ⟨by decide, by decide⟩
        · refine g_iconst C (v := (1 : Int32)) dX11_tick_149 (by decide) ?_
          refine g_goto C (tgt := 154) dX11_tick_150 (by decide) ?_
          exact g_iret C dX11_tick_154 ⟨by decide, by decide⟩
      refine g_ite (fun h25 => ?_) (fun h25 => ?_)
      · refine g_tableIn C (v := 3) (off := 91) (tgt := 155) dX11_tick_64 h25 (by decide) (by decide) (by decide) (by decide) ?_
        refine g_aload_n C dX11_tick_155 rfl 0 rfl ?_
        refine g_getR C (ci := 10) (k := 3) dX11_tick_156 rfl (by decide) (by decide) (by decide) ulX11_tick_X11 flX11_tick_32 rfl (fun v26 ev26 => ?_)
        refine g_getR C (ci := 6) (k := 2) dX11_tick_159 rfl (by decide) (by decide) (by decide) ulX11_tick_X6 flX11_tick_202 rfl (fun v27 ev27 => ?_)
        refine g_iload_n C dX11_tick_162 rfl 1 rfl ?_
        refine g_ild C dX11_tick_163 (fun v28 ev28 => ?_)
        exact g_iret C dX11_tick_164 ⟨by decide, by decide⟩
      refine g_ite (fun h29 => ?_) (fun h29 => ?_)
      · refine g_tableIn C (v := 4) (off := 101) (tgt := 165) dX11_tick_64 h29 (by decide) (by decide) (by decide) (by decide) ?_
        refine g_aload_n C dX11_tick_165 rfl 0 rfl ?_
        refine g_getR C (ci := 10) (k := 3) dX11_tick_166 rfl (by decide) (by decide) (by decide) ulX11_tick_X11 flX11_tick_32 rfl (fun v30 ev30 => ?_)
        refine g_getR C (ci := 6) (k := 3) dX11_tick_169 rfl (by decide) (by decide) (by decide) ulX11_tick_X6 flX11_tick_205 rfl (fun v31 ev31 => ?_)
        refine g_iload_n C dX11_tick_172 rfl 1 rfl ?_
        refine g_ild C dX11_tick_173 (fun v32 ev32 => ?_)
        exact g_iret C dX11_tick_174 ⟨by decide, by decide⟩
      refine g_ite (fun h33 => ?_) (fun h33 => ?_)
      · refine g_tableIn C (v := 5) (off := 111) (tgt := 175) dX11_tick_64 h33 (by decide) (by decide) (by decide) (by decide) ?_
        refine g_aload_n C dX11_tick_175 rfl 0 rfl ?_
        refine g_getR C (ci := 10) (k := 3) dX11_tick_176 rfl (by decide) (by decide) (by decide) ulX11_tick_X11 flX11_tick_32 rfl (fun v34 ev34 => ?_)
        refine g_iload_n C dX11_tick_179 rfl 1 rfl ?_
        refine g_callV C (n := 1) (ci := 6) [.int x1] [] (m_X6_isLit v34 x1 o7.2) dX11_tick_180 gX11_tick_X6_isLit rfl ⟨rfl, rfl⟩ (by decide +kernel) ⟨by decide, by decide⟩ ⟨by decide, by decide⟩ rfl (by decide) rfl rfl (by first | exact Nat.le_of_ble_eq_true rfl | simp [va_rf_cat, vi_cat, vl_cat]) (fun o35 eo35 => ?_)
        show G Γ cvI 3 0 0 183 [(0, va_rf a0), (1, .int x1), (2, .int x2)] [.int o35.1] o35.2 _
        refine g_if_eq C (tgt := 190) dX11_tick_183 (by decide) (fun h36 => ?_) (fun h36 => ?_)
        · refine g_iconst C (v := (0 : Int32)) dX11_tick_190 (by decide) ?_
          exact g_iret C dX11_tick_191 ⟨by decide, by decide⟩
        · refine g_iconst C (v := (1 : Int32)) dX11_tick_186 (by decide) ?_
          refine g_goto C (tgt := 191) dX11_tick_187 (by decide) ?_
          exact g_iret C dX11_tick_191 ⟨by decide, by decide⟩
      refine g_ite (fun h37 => ?_) (fun h37 => ?_)
      · refine g_tableIn C (v := 6) (off := 128) (tgt := 192) dX11_tick_64 h37 (by decide) (by decide) (by decide) (by decide) ?_
        refine g_aload_n C dX11_tick_192 rfl 0 rfl ?_
        refine g_getR C (ci := 10) (k := 3) dX11_tick_193 rfl (by decide) (by decide) (by decide) ulX11_tick_X11 flX11_tick_32 rfl (fun v38 ev38 => ?_)
        refine g_iload_n C dX11_tick_196 rfl 1 rfl ?_
        refine g_callV C (n := 1) (ci := 6) [.int x1] [] (m_X6_isShut v38 x1 o7.2) dX11_tick_197 gX11_tick_X6_isShut rfl ⟨rfl, rfl⟩ (by decide +kernel) ⟨by decide, by decide⟩ ⟨by decide, by decide⟩ rfl (by decide) rfl rfl (by first | exact Nat.le_of_ble_eq_true rfl | simp [va_rf_cat, vi_cat, vl_cat]) (fun o39 eo39 => ?_)
        show G Γ cvI 3 0 0 200 [(0, va_rf a0), (1, .int x1), (2, .int x2)] [.int o39.1] o39.2 _
        refine g_if_eq C (tgt := 207) dX11_tick_200 (by decide) (fun h40 => ?_) (fun h40 => ?_)
        · refine g_iconst C (v := (0 : Int32)) dX11_tick_207 (by decide) ?_
          exact g_iret C dX11_tick_208 ⟨by decide, by decide⟩
        · refine g_iconst C (v := (1 : Int32)) dX11_tick_203 (by decide) ?_
          refine g_goto C (tgt := 208) dX11_tick_204 (by decide) ?_
          exact g_iret C dX11_tick_208 ⟨by decide, by decide⟩
      refine g_tableOut C (tgt := 209) dX11_tick_64 (by have n0 := sw_n (k := 0) (by decide) h9; have n1 := sw_n (k := 1) (by decide) h14; have n2 := sw_n (k := 2) (by decide) h19; have n3 := sw_n (k := 3) (by decide) h25; have n4 := sw_n (k := 4) (by decide) h29; have n5 := sw_n (k := 5) (by decide) h33; have n6 := sw_n (k := 6) (by decide) h37; omega) (by decide) ?_
      refine g_aload_n C dX11_tick_209 rfl 0 rfl ?_
      refine g_getR C (ci := 10) (k := 3) dX11_tick_210 rfl (by decide) (by decide) (by decide) ulX11_tick_X11 flX11_tick_32 rfl (fun v41 ev41 => ?_)
      refine g_iload_n C dX11_tick_213 rfl 1 rfl ?_
      refine g_callV C (n := 1) (ci := 6) [.int x1] [] (m_X6_lagAt v41 x1 o7.2) dX11_tick_214 gX11_tick_X6_lagAt rfl ⟨rfl, rfl⟩ (by decide +kernel) ⟨by decide, by decide⟩ ⟨by decide, by decide⟩ rfl (by decide) rfl rfl (by first | exact Nat.le_of_ble_eq_true rfl | simp [va_rf_cat, vi_cat, vl_cat]) (fun o42 eo42 => ?_)
      show G Γ cvI 3 0 0 217 [(0, va_rf a0), (1, .int x1), (2, .int x2)] [.int o42.1] o42.2 _
      exact g_iret C dX11_tick_217 ⟨by decide, by decide⟩
set_option maxHeartbeats 4000000 in
set_option maxRecDepth 100000 in
theorem m_X11_tick (a0 : Option Nat) (x1 : Int32) (x2 : Int32) (S : St) : ∀ l D cy H0 o, f_X11_tick a0 x1 x2 S = some o → Met l yX11_tick wsX11_tick rmX11_tick (Pq D cy H0 [va_rf a0, .int x1, .int x2] S) (Qx D cy H0 (cvI o)) 0 0 (fun q => H0.size ≤ q) := by
  refine met_of (cc := cX11_tick) (maxL := 3) (ret := (some .int)) [va_rf a0, .int x1, .int x2] [(0, va_rf a0), (1, .int x1), (2, .int x2)] (by decide) rfl rfl (by simp [lg_sl, va_rf_cat, vi_cat, vl_cat]) (by simp [lv_args, va_rf_cat, vi_cat, vl_cat]) (fun Γ C => ?_)
  unfold f_X11_tick
  refine g_iload_n C dX11_tick_0 rfl 2 rfl ?_
  refine g_iconst C (v := (0 : Int32)) dX11_tick_1 (by decide) ?_
  refine g_bipush C (v := (7 : Int32)) dX11_tick_2 (by decide) ?_
  refine g_callS C (n := 3) [.int x2, .int (0 : Int32), .int (7 : Int32)] [] (m_X11_isWithin x2 (0 : Int32) (7 : Int32) S) dX11_tick_4 gX11_tick_X11_isWithin rfl ⟨rfl, rfl⟩ (by decide +kernel) ⟨by decide, by decide⟩ ⟨by decide, by decide⟩ rfl rfl (by first | exact Nat.le_of_ble_eq_true rfl | simp [va_rf_cat, vi_cat, vl_cat]) (fun o1 eo1 => ?_)
  show G Γ cvI 3 0 0 7 [(0, va_rf a0), (1, .int x1), (2, .int x2)] [.int o1.1] o1.2 _
  refine g_if_ne C (tgt := 13) dX11_tick_7 (by decide) (fun h2 => ?_) (fun h2 => ?_)
  · refine g_ldc C (v := (-1000001 : Int32)) dX11_tick_10 (by decide +kernel) ?_
    exact g_iret C dX11_tick_12 ⟨by decide, by decide⟩
  · refine g_aload_n C dX11_tick_13 rfl 0 rfl ?_
    refine g_getR C (ci := 10) (k := 3) dX11_tick_14 rfl (by decide) (by decide) (by decide) ulX11_tick_X11 flX11_tick_32 rfl (fun v3 ev3 => ?_)
    refine g_iload_n C dX11_tick_17 rfl 2 rfl ?_
    refine g_iconst C (v := (3 : Int32)) dX11_tick_18 (by decide) ?_
    refine g_icmp_ge C (tgt := 26) dX11_tick_19 (by decide) (fun h4 => ?_) (fun h4 => ?_)
    · refine g_iconst C (v := (2 : Int32)) dX11_tick_26 (by decide) ?_
      exact g_sub (lv2 := [(0, va_rf a0), (1, .int x1), (2, .int x2)]) [0, 1, 2] rfl (t_X11_tick_27 C a0 x1 x2 v3 (2 : Int32) o1.2)
    · refine g_iconst C (v := (1 : Int32)) dX11_tick_22 (by decide) ?_
      refine g_goto C (tgt := 27) dX11_tick_23 (by decide) ?_
      exact g_sub (lv2 := [(0, va_rf a0), (1, .int x1), (2, .int x2)]) [0, 1, 2] rfl (t_X11_tick_27 C a0 x1 x2 v3 (1 : Int32) o1.2)
