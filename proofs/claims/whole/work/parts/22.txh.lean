abbrev rmX9_darkWay : Room := { frames := 2, cells := 0, slots := 0, locals := 47 }
theorem flX9_darkWay_17 : Cond.fieldLink RX9 17 "LightLines$Strokes" "order" "[I" ∈ wsX9_darkWay := by decide +kernel
theorem flX9_darkWay_21 : Cond.fieldLink RX9 21 "LightLines$Strokes" "directions" "[I" ∈ wsX9_darkWay := by decide +kernel
theorem flX9_darkWay_24 : Cond.fieldLink RX9 24 "LightLines$Strokes" "held" "I" ∈ wsX9_darkWay := by decide +kernel
set_option maxRecDepth 100000 in
theorem ulX9_darkWay_X9 : ∀ w ∈ u_ws RX9 TX9 4, w ∈ wsX9_darkWay := by decide +kernel
set_option maxHeartbeats 4000000 in
set_option maxRecDepth 100000 in
theorem t_X9_darkWay_110 {Γ : Cx} (C : CF Γ cX9_darkWay 8 (some .int) wsX9_darkWay RX9 rmX9_darkWay 0 0) (rc9 : Option Nat → Int32 → Int32 → Int32 → Int32 → St → Option (Int32 × St)) (hrc9 : ∀ (a0 : Option Nat) (x1 : Int32) (x2 : Int32) (x3 : Int32) (x4 : Int32) (S : St), G Γ cvI 8 0 0 9 [(0, va_rf a0), (1, .int x1), (2, .int x2), (3, .int x3), (4, .int x4)] [] S (rc9 a0 x1 x2 x3 x4 S)) (a0 : Option Nat) (x1 : Int32) (x2 : Int32) (x3 : Int32) (x4 : Int32) (S : St) : G Γ cvI 8 0 0 110 [(0, va_rf a0), (1, .int x1), (2, .int x2), (3, .int x3), (4, .int x4)] [] S (b_X9_darkWay_110 rc9 a0 x1 x2 x3 x4 S) := by
  unfold b_X9_darkWay_110
  refine g_iinc1 C dX9_darkWay_110 4 rfl (by decide) (by decide) (fun y1 => ?_)
  refine g_lveq (lv2 := [(4, .int y1), (0, va_rf a0), (1, .int x1), (2, .int x2), (3, .int x3)]) (by first | rfl | simp [va_rf_cat, vi_cat, vl_cat]) ?_
  refine g_goto C (tgt := 9) dX9_darkWay_113 (by decide) ?_
  exact g_sub (lv2 := [(0, va_rf a0), (1, .int x1), (2, .int x2), (3, .int x3), (4, .int y1)]) [1, 2, 3, 4, 0] rfl (hrc9 a0 x1 x2 x3 y1 S)
set_option maxHeartbeats 4000000 in
set_option maxRecDepth 100000 in
theorem t_X9_darkWay_116 {Γ : Cx} (C : CF Γ cX9_darkWay 8 (some .int) wsX9_darkWay RX9 rmX9_darkWay 0 0) (x1 : Int32) (x2 : Int32) (x3 : Int32) (S : St) : G Γ cvI 8 0 0 116 [(1, .int x1), (2, .int x2), (3, .int x3)] [] S (b_X9_darkWay_116  x1 x2 x3 S) := by
  unfold b_X9_darkWay_116
  refine g_iload_n C dX9_darkWay_116 rfl 0 rfl ?_
  refine g_iload_n C dX9_darkWay_117 rfl 1 rfl ?_
  refine g_iload_n C dX9_darkWay_118 rfl 2 rfl ?_
  refine g_iconst C (v := (0 : Int32)) dX9_darkWay_119 (by decide) ?_
  refine g_iconst C (v := (0 : Int32)) dX9_darkWay_120 (by decide) ?_
  refine g_callSN C (n := 4) (host := "LightLines") [.int x2, .int x3, .int (0 : Int32), .int (0 : Int32)] [.int x1] (m_X11_way x2 x3 (0 : Int32) (0 : Int32) S) dX9_darkWay_121 gX9_darkWay_X11_way_n61 (by decide +kernel) (by decide +kernel) (by decide +kernel) rfl ⟨rfl, rfl⟩ (by decide +kernel) ⟨by decide, by decide⟩ ⟨by decide, by decide⟩ rfl rfl (by first | exact Nat.le_of_ble_eq_true rfl | simp [va_rf_cat, vi_cat, vl_cat]) (fun o1 eo1 => ?_)
  show G Γ cvI 8 0 0 124 [(1, .int x1), (2, .int x2), (3, .int x3)] [.int o1.1, .int x1] o1.2 _
  refine g_iadd C dX9_darkWay_124 ?_
  exact g_iret C dX9_darkWay_125 ⟨by decide, by decide⟩
set_option maxHeartbeats 4000000 in
set_option maxRecDepth 100000 in
theorem t_X9_darkWay_9 {Γ : Cx} (C : CF Γ cX9_darkWay 8 (some .int) wsX9_darkWay RX9 rmX9_darkWay 0 0) : ∀ (n : Nat) (a0 : Option Nat) (x1 : Int32) (x2 : Int32) (x3 : Int32) (x4 : Int32) (S : St), G Γ cvI 8 0 0 9 [(0, va_rf a0), (1, .int x1), (2, .int x2), (3, .int x3), (4, .int x4)] [] S (b_X9_darkWay_9  n a0 x1 x2 x3 x4 S) := by
  intro n
  induction n with
  | zero => intro a0 x1 x2 x3 x4 S; exact g_none
  | succ n ih =>
    intro a0 x1 x2 x3 x4 S
    rw [b_X9_darkWay_9]
    refine g_iload C dX9_darkWay_9 4 rfl ?_
    refine g_aload_n C dX9_darkWay_11 rfl 0 rfl ?_
    refine g_getI C (ci := 8) (k := 3) dX9_darkWay_12 rfl (by decide) (by decide) (by decide) ulX9_darkWay_X9 flX9_darkWay_24 rfl (fun v1 ev1 => ?_)
    refine g_icmp_ge C (tgt := 116) dX9_darkWay_15 (by decide) (fun h2 => ?_) (fun h2 => ?_)
    · exact g_sub (lv2 := [(1, .int x1), (2, .int x2), (3, .int x3)]) [1, 2, 3] rfl (t_X9_darkWay_116 C x1 x2 x3 S)
    · refine g_aload_n C dX9_darkWay_18 rfl 0 rfl ?_
      refine g_aload_n C dX9_darkWay_19 rfl 0 rfl ?_
      refine g_getR C (ci := 8) (k := 1) dX9_darkWay_20 rfl (by decide) (by decide) (by decide) ulX9_darkWay_X9 flX9_darkWay_17 rfl (fun v3 ev3 => ?_)
      refine g_iload C dX9_darkWay_23 4 rfl ?_
      refine g_ild C dX9_darkWay_25 (fun v4 ev4 => ?_)
      refine g_callV C (n := 1) (ci := 8) [.int v4] [] (m_X9_at a0 v4 S) dX9_darkWay_26 gX9_darkWay_X9_at rfl ⟨rfl, rfl⟩ (by decide +kernel) ⟨by decide, by decide⟩ ⟨by decide, by decide⟩ rfl (by decide) rfl rfl (by first | exact Nat.le_of_ble_eq_true rfl | simp [va_rf_cat, vi_cat, vl_cat]) (fun o5 eo5 => ?_)
      show G Γ cvI 8 0 0 29 [(0, va_rf a0), (1, .int x1), (2, .int x2), (3, .int x3), (4, .int x4)] [va_rf o5.1] o5.2 _
      refine g_astore C (i := 5) (lv2 := [(5, va_rf o5.1), (0, va_rf a0), (1, .int x1), (2, .int x2), (3, .int x3), (4, .int x4)]) dX9_darkWay_29 (by decide) (by first | rfl | simp [va_rf_cat, vi_cat, vl_cat]) ?_
      refine g_aload C dX9_darkWay_31 0 rfl ?_
      refine g_ifnull C (tgt := 110) dX9_darkWay_33 (by decide) (fun h6 => ?_) (fun h6 => ?_)
      · exact g_sub (lv2 := [(0, va_rf a0), (1, .int x1), (2, .int x2), (3, .int x3), (4, .int x4)]) [1, 2, 3, 4, 5] rfl (t_X9_darkWay_110 C (b_X9_darkWay_9 n) ih a0 x1 x2 x3 x4 o5.2)
      · refine g_aload C dX9_darkWay_36 0 rfl ?_
        refine g_iconst C (v := (0 : Int32)) dX9_darkWay_38 (by decide) ?_
        refine g_aload_n C dX9_darkWay_39 rfl 1 rfl ?_
        refine g_getR C (ci := 8) (k := 2) dX9_darkWay_40 rfl (by decide) (by decide) (by decide) ulX9_darkWay_X9 flX9_darkWay_21 rfl (fun v7 ev7 => ?_)
        refine g_iload C dX9_darkWay_43 5 rfl ?_
        refine g_ild C dX9_darkWay_45 (fun v8 ev8 => ?_)
        refine g_call3 C (n := 2) [.int (0 : Int32), .int v8] [] (m_X8_gone o5.1 (0 : Int32) v8 o5.2) (m_X8_gone o5.1 (0 : Int32) v8 o5.2) (m_X8_gone o5.1 (0 : Int32) v8 o5.2) dX9_darkWay_46 (fun R s args ht hR => va_cwU 2 ht gX9_darkWay_X8_gone_u47X1 rfl rfl rfl rfl (by decide +kernel) (by subst hR; exact ⟨by decide, by decide⟩)) (fun R s args ht hR => va_cwU 2 ht gX9_darkWay_X8_gone_u47X2 rfl rfl rfl rfl (by decide +kernel) (by subst hR; exact ⟨by decide, by decide⟩)) (fun R s args ht hR => va_cwU 2 ht gX9_darkWay_X8_gone_u47X7 rfl rfl rfl rfl (by decide +kernel) (by subst hR; exact ⟨by decide, by decide⟩)) ⟨by decide, by decide⟩ rfl rfl (by first | exact Nat.le_of_ble_eq_true rfl | simp [va_rf_cat, vi_cat, vl_cat]) (fun o9 eo9 => ?_)
        show G Γ cvI 8 0 0 49 [(5, va_rf o5.1), (0, va_rf a0), (1, .int x1), (2, .int x2), (3, .int x3), (4, .int x4)] [.int o9.1] o9.2 _
        refine g_istore C (i := 6) (lv2 := [(6, .int o9.1), (5, va_rf o5.1), (0, va_rf a0), (1, .int x1), (2, .int x2), (3, .int x3), (4, .int x4)]) dX9_darkWay_49 (by decide) (by first | rfl | simp [va_rf_cat, vi_cat, vl_cat]) ?_
        refine g_aload C dX9_darkWay_51 1 rfl ?_
        refine g_aload C dX9_darkWay_53 1 rfl ?_
        refine g_call3 C (n := 0) [] [va_rf o5.1] (m_X8_points o5.1 o9.2) (m_X8_points o5.1 o9.2) (m_X8_points o5.1 o9.2) dX9_darkWay_55 (fun R s args ht hR => va_cwU 0 ht gX9_darkWay_X8_points_u51X1 rfl rfl rfl rfl (by decide +kernel) (by subst hR; exact ⟨by decide, by decide⟩)) (fun R s args ht hR => va_cwU 0 ht gX9_darkWay_X8_points_u51X2 rfl rfl rfl rfl (by decide +kernel) (by subst hR; exact ⟨by decide, by decide⟩)) (fun R s args ht hR => va_cwU 0 ht gX9_darkWay_X8_points_u51X7 rfl rfl rfl rfl (by decide +kernel) (by subst hR; exact ⟨by decide, by decide⟩)) ⟨by decide, by decide⟩ rfl rfl (by first | exact Nat.le_of_ble_eq_true rfl | simp [va_rf_cat, vi_cat, vl_cat]) (fun o10 eo10 => ?_)
        show G Γ cvI 8 0 0 58 [(6, .int o9.1), (5, va_rf o5.1), (0, va_rf a0), (1, .int x1), (2, .int x2), (3, .int x3), (4, .int x4)] [.int o10.1, va_rf o5.1] o10.2 _
        refine g_iconst C (v := (1 : Int32)) dX9_darkWay_58 (by decide) ?_
        refine g_isub C dX9_darkWay_59 ?_
        refine g_aload_n C dX9_darkWay_60 rfl 2 rfl ?_
        refine g_getR C (ci := 8) (k := 2) dX9_darkWay_61 rfl (by decide) (by decide) (by decide) ulX9_darkWay_X9 flX9_darkWay_21 rfl (fun v11 ev11 => ?_)
        refine g_iload C dX9_darkWay_64 6 rfl ?_
        refine g_ild C dX9_darkWay_66 (fun v12 ev12 => ?_)
        refine g_call3 C (n := 2) [.int (o10.1 - (1 : Int32)), .int v12] [] (m_X8_gone o5.1 (o10.1 - (1 : Int32)) v12 o10.2) (m_X8_gone o5.1 (o10.1 - (1 : Int32)) v12 o10.2) (m_X8_gone o5.1 (o10.1 - (1 : Int32)) v12 o10.2) dX9_darkWay_67 (fun R s args ht hR => va_cwU 2 ht gX9_darkWay_X8_gone_u47X1 rfl rfl rfl rfl (by decide +kernel) (by subst hR; exact ⟨by decide, by decide⟩)) (fun R s args ht hR => va_cwU 2 ht gX9_darkWay_X8_gone_u47X2 rfl rfl rfl rfl (by decide +kernel) (by subst hR; exact ⟨by decide, by decide⟩)) (fun R s args ht hR => va_cwU 2 ht gX9_darkWay_X8_gone_u47X7 rfl rfl rfl rfl (by decide +kernel) (by subst hR; exact ⟨by decide, by decide⟩)) ⟨by decide, by decide⟩ rfl rfl (by first | exact Nat.le_of_ble_eq_true rfl | simp [va_rf_cat, vi_cat, vl_cat]) (fun o13 eo13 => ?_)
        show G Γ cvI 8 0 0 70 [(6, .int o9.1), (5, va_rf o5.1), (0, va_rf a0), (1, .int x1), (2, .int x2), (3, .int x3), (4, .int x4)] [.int o13.1] o13.2 _
        refine g_istore C (i := 7) (lv2 := [(7, .int o13.1), (6, .int o9.1), (5, va_rf o5.1), (0, va_rf a0), (1, .int x1), (2, .int x2), (3, .int x3), (4, .int x4)]) dX9_darkWay_70 (by decide) (by first | rfl | simp [va_rf_cat, vi_cat, vl_cat]) ?_
        refine g_iload_n C dX9_darkWay_72 rfl 4 rfl ?_
        refine g_iload_n C dX9_darkWay_73 rfl 5 rfl ?_
        refine g_iload_n C dX9_darkWay_74 rfl 6 rfl ?_
        refine g_aload C dX9_darkWay_75 2 rfl ?_
        refine g_iload C dX9_darkWay_77 1 rfl ?_
        refine g_call3 C (n := 1) [.int o9.1] [.int x3, .int x2, .int x1] (m_X8_xAt o5.1 o9.1 o13.2) (m_X8_xAt o5.1 o9.1 o13.2) (m_X8_xAt o5.1 o9.1 o13.2) dX9_darkWay_79 (fun R s args ht hR => va_cwU 1 ht gX9_darkWay_X8_xAt_u55X1 rfl rfl rfl rfl (by decide +kernel) (by subst hR; exact ⟨by decide, by decide⟩)) (fun R s args ht hR => va_cwU 1 ht gX9_darkWay_X8_xAt_u55X2 rfl rfl rfl rfl (by decide +kernel) (by subst hR; exact ⟨by decide, by decide⟩)) (fun R s args ht hR => va_cwU 1 ht gX9_darkWay_X8_xAt_u55X7 rfl rfl rfl rfl (by decide +kernel) (by subst hR; exact ⟨by decide, by decide⟩)) ⟨by decide, by decide⟩ rfl rfl (by first | exact Nat.le_of_ble_eq_true rfl | simp [va_rf_cat, vi_cat, vl_cat]) (fun o14 eo14 => ?_)
        show G Γ cvI 8 0 0 82 [(7, .int o13.1), (6, .int o9.1), (5, va_rf o5.1), (0, va_rf a0), (1, .int x1), (2, .int x2), (3, .int x3), (4, .int x4)] [.int o14.1, .int x3, .int x2, .int x1] o14.2 _
        refine g_aload C dX9_darkWay_82 2 rfl ?_
        refine g_iload C dX9_darkWay_84 1 rfl ?_
        refine g_call3 C (n := 1) [.int o9.1] [.int o14.1, .int x3, .int x2, .int x1] (m_X8_yAt o5.1 o9.1 o14.2) (m_X8_yAt o5.1 o9.1 o14.2) (m_X8_yAt o5.1 o9.1 o14.2) dX9_darkWay_86 (fun R s args ht hR => va_cwU 1 ht gX9_darkWay_X8_yAt_u58X1 rfl rfl rfl rfl (by decide +kernel) (by subst hR; exact ⟨by decide, by decide⟩)) (fun R s args ht hR => va_cwU 1 ht gX9_darkWay_X8_yAt_u58X2 rfl rfl rfl rfl (by decide +kernel) (by subst hR; exact ⟨by decide, by decide⟩)) (fun R s args ht hR => va_cwU 1 ht gX9_darkWay_X8_yAt_u58X7 rfl rfl rfl rfl (by decide +kernel) (by subst hR; exact ⟨by decide, by decide⟩)) ⟨by decide, by decide⟩ rfl rfl (by first | exact Nat.le_of_ble_eq_true rfl | simp [va_rf_cat, vi_cat, vl_cat]) (fun o15 eo15 => ?_)
        show G Γ cvI 8 0 0 89 [(7, .int o13.1), (6, .int o9.1), (5, va_rf o5.1), (0, va_rf a0), (1, .int x1), (2, .int x2), (3, .int x3), (4, .int x4)] [.int o15.1, .int o14.1, .int x3, .int x2, .int x1] o15.2 _
        refine g_callSN C (n := 4) (host := "LightLines") [.int x2, .int x3, .int o14.1, .int o15.1] [.int x1] (m_X11_way x2 x3 o14.1 o15.1 o15.2) dX9_darkWay_89 gX9_darkWay_X11_way_n61 (by decide +kernel) (by decide +kernel) (by decide +kernel) rfl ⟨rfl, rfl⟩ (by decide +kernel) ⟨by decide, by decide⟩ ⟨by decide, by decide⟩ rfl rfl (by first | exact Nat.le_of_ble_eq_true rfl | simp [va_rf_cat, vi_cat, vl_cat]) (fun o16 eo16 => ?_)
        show G Γ cvI 8 0 0 92 [(7, .int o13.1), (6, .int o9.1), (5, va_rf o5.1), (0, va_rf a0), (1, .int x1), (2, .int x2), (3, .int x3), (4, .int x4)] [.int o16.1, .int x1] o16.2 _
        refine g_iadd C dX9_darkWay_92 ?_
        refine g_topi (fun y17 => ?_)
        refine g_istore_n C (i := 1) (lv2 := [(1, .int y17), (7, .int o13.1), (6, .int o9.1), (5, va_rf o5.1), (0, va_rf a0), (2, .int x2), (3, .int x3), (4, .int x4)]) dX9_darkWay_93 rfl (by decide) (by first | rfl | simp [va_rf_cat, vi_cat, vl_cat]) ?_
        refine g_aload C dX9_darkWay_94 3 rfl ?_
        refine g_iload C dX9_darkWay_96 1 rfl ?_
        refine g_call3 C (n := 1) [.int o13.1] [] (m_X8_xAt o5.1 o13.1 o16.2) (m_X8_xAt o5.1 o13.1 o16.2) (m_X8_xAt o5.1 o13.1 o16.2) dX9_darkWay_98 (fun R s args ht hR => va_cwU 1 ht gX9_darkWay_X8_xAt_u55X1 rfl rfl rfl rfl (by decide +kernel) (by subst hR; exact ⟨by decide, by decide⟩)) (fun R s args ht hR => va_cwU 1 ht gX9_darkWay_X8_xAt_u55X2 rfl rfl rfl rfl (by decide +kernel) (by subst hR; exact ⟨by decide, by decide⟩)) (fun R s args ht hR => va_cwU 1 ht gX9_darkWay_X8_xAt_u55X7 rfl rfl rfl rfl (by decide +kernel) (by subst hR; exact ⟨by decide, by decide⟩)) ⟨by decide, by decide⟩ rfl rfl (by first | exact Nat.le_of_ble_eq_true rfl | simp [va_rf_cat, vi_cat, vl_cat]) (fun o18 eo18 => ?_)
        show G Γ cvI 8 0 0 101 [(1, .int y17), (7, .int o13.1), (6, .int o9.1), (5, va_rf o5.1), (0, va_rf a0), (2, .int x2), (3, .int x3), (4, .int x4)] [.int o18.1] o18.2 _
        refine g_istore_n C (i := 2) (lv2 := [(2, .int o18.1), (1, .int y17), (7, .int o13.1), (6, .int o9.1), (5, va_rf o5.1), (0, va_rf a0), (3, .int x3), (4, .int x4)]) dX9_darkWay_101 rfl (by decide) (by first | rfl | simp [va_rf_cat, vi_cat, vl_cat]) ?_
        refine g_aload C dX9_darkWay_102 4 rfl ?_
        refine g_iload C dX9_darkWay_104 2 rfl ?_
        refine g_call3 C (n := 1) [.int o13.1] [] (m_X8_yAt o5.1 o13.1 o18.2) (m_X8_yAt o5.1 o13.1 o18.2) (m_X8_yAt o5.1 o13.1 o18.2) dX9_darkWay_106 (fun R s args ht hR => va_cwU 1 ht gX9_darkWay_X8_yAt_u58X1 rfl rfl rfl rfl (by decide +kernel) (by subst hR; exact ⟨by decide, by decide⟩)) (fun R s args ht hR => va_cwU 1 ht gX9_darkWay_X8_yAt_u58X2 rfl rfl rfl rfl (by decide +kernel) (by subst hR; exact ⟨by decide, by decide⟩)) (fun R s args ht hR => va_cwU 1 ht gX9_darkWay_X8_yAt_u58X7 rfl rfl rfl rfl (by decide +kernel) (by subst hR; exact ⟨by decide, by decide⟩)) ⟨by decide, by decide⟩ rfl rfl (by first | exact Nat.le_of_ble_eq_true rfl | simp [va_rf_cat, vi_cat, vl_cat]) (fun o19 eo19 => ?_)
        show G Γ cvI 8 0 0 109 [(2, .int o18.1), (1, .int y17), (7, .int o13.1), (6, .int o9.1), (5, va_rf o5.1), (0, va_rf a0), (3, .int x3), (4, .int x4)] [.int o19.1] o19.2 _
        refine g_istore_n C (i := 3) (lv2 := [(3, .int o19.1), (2, .int o18.1), (1, .int y17), (7, .int o13.1), (6, .int o9.1), (5, va_rf o5.1), (0, va_rf a0), (4, .int x4)]) dX9_darkWay_109 rfl (by decide) (by first | rfl | simp [va_rf_cat, vi_cat, vl_cat]) ?_
        exact g_sub (lv2 := [(0, va_rf a0), (1, .int y17), (2, .int o18.1), (3, .int o19.1), (4, .int x4)]) [6, 2, 1, 0, 7] rfl (t_X9_darkWay_110 C (b_X9_darkWay_9 n) ih a0 y17 o18.1 o19.1 x4 o19.2)
set_option maxHeartbeats 4000000 in
set_option maxRecDepth 100000 in
theorem m_X9_darkWay (a0 : Option Nat) (S : St) : ∀ l D cy H0 o, f_X9_darkWay a0 S = some o → Met l yX9_darkWay wsX9_darkWay rmX9_darkWay (Pq D cy H0 [va_rf a0] S) (Qx D cy H0 (cvI o)) 0 0 (fun q => H0.size ≤ q) := by
  refine met_of (cc := cX9_darkWay) (maxL := 8) (ret := (some .int)) [va_rf a0] [(0, va_rf a0)] (by decide) rfl rfl (by simp [lg_sl, va_rf_cat, vi_cat, vl_cat]) (by simp [lv_args, va_rf_cat, vi_cat, vl_cat]) (fun Γ C => ?_)
  unfold f_X9_darkWay
  refine g_iconst C (v := (0 : Int32)) dX9_darkWay_0 (by decide) ?_
  refine g_istore_n C (i := 1) (lv2 := [(1, .int (0 : Int32)), (0, va_rf a0)]) dX9_darkWay_1 rfl (by decide) (by first | rfl | simp [va_rf_cat, vi_cat, vl_cat]) ?_
  refine g_iconst C (v := (0 : Int32)) dX9_darkWay_2 (by decide) ?_
  refine g_istore_n C (i := 2) (lv2 := [(2, .int (0 : Int32)), (1, .int (0 : Int32)), (0, va_rf a0)]) dX9_darkWay_3 rfl (by decide) (by first | rfl | simp [va_rf_cat, vi_cat, vl_cat]) ?_
  refine g_iconst C (v := (0 : Int32)) dX9_darkWay_4 (by decide) ?_
  refine g_istore_n C (i := 3) (lv2 := [(3, .int (0 : Int32)), (2, .int (0 : Int32)), (1, .int (0 : Int32)), (0, va_rf a0)]) dX9_darkWay_5 rfl (by decide) (by first | rfl | simp [va_rf_cat, vi_cat, vl_cat]) ?_
  refine g_iconst C (v := (0 : Int32)) dX9_darkWay_6 (by decide) ?_
  refine g_istore C (i := 4) (lv2 := [(4, .int (0 : Int32)), (3, .int (0 : Int32)), (2, .int (0 : Int32)), (1, .int (0 : Int32)), (0, va_rf a0)]) dX9_darkWay_7 (by decide) (by first | rfl | simp [va_rf_cat, vi_cat, vl_cat]) ?_
  exact g_sub (lv2 := [(0, va_rf a0), (1, .int (0 : Int32)), (2, .int (0 : Int32)), (3, .int (0 : Int32)), (4, .int (0 : Int32))]) [4, 3, 2, 1, 0] rfl (t_X9_darkWay_9 C FU a0 (0 : Int32) (0 : Int32) (0 : Int32) (0 : Int32) S)
abbrev rmX9_pointsOfAll : Room := { frames := 1, cells := 0, slots := 0, locals := 21 }
theorem flX9_pointsOfAll_24 : Cond.fieldLink RX9 24 "LightLines$Strokes" "held" "I" ∈ wsX9_pointsOfAll := by decide +kernel
set_option maxRecDepth 100000 in
theorem ulX9_pointsOfAll_X9 : ∀ w ∈ u_ws RX9 TX9 4, w ∈ wsX9_pointsOfAll := by decide +kernel
set_option maxHeartbeats 4000000 in
set_option maxRecDepth 100000 in
theorem t_X9_pointsOfAll_31 {Γ : Cx} (C : CF Γ cX9_pointsOfAll 4 (some .int) wsX9_pointsOfAll RX9 rmX9_pointsOfAll 0 0) (rc4 : Option Nat → Int32 → Int32 → St → Option (Int32 × St)) (hrc4 : ∀ (a0 : Option Nat) (x1 : Int32) (x2 : Int32) (S : St), G Γ cvI 4 0 0 4 [(0, va_rf a0), (1, .int x1), (2, .int x2)] [] S (rc4 a0 x1 x2 S)) (a0 : Option Nat) (x2 : Int32) (s0 : Int32) (s1 : Int32) (S : St) : G Γ cvI 4 0 0 31 [(0, va_rf a0), (2, .int x2)] [.int s1, .int s0] S (b_X9_pointsOfAll_31 rc4 a0 x2 s0 s1 S) := by
  unfold b_X9_pointsOfAll_31
  refine g_iadd C dX9_pointsOfAll_31 ?_
  refine g_topi (fun y1 => ?_)
  refine g_istore_n C (i := 1) (lv2 := [(1, .int y1), (0, va_rf a0), (2, .int x2)]) dX9_pointsOfAll_32 rfl (by decide) (by first | rfl | simp [va_rf_cat, vi_cat, vl_cat]) ?_
  refine g_iinc1 C dX9_pointsOfAll_33 2 rfl (by decide) (by decide) (fun y2 => ?_)
  refine g_lveq (lv2 := [(2, .int y2), (1, .int y1), (0, va_rf a0)]) (by first | rfl | simp [va_rf_cat, vi_cat, vl_cat]) ?_
  refine g_goto C (tgt := 4) dX9_pointsOfAll_36 (by decide) ?_
  exact g_sub (lv2 := [(0, va_rf a0), (1, .int y1), (2, .int y2)]) [2, 1, 0] rfl (hrc4 a0 y1 y2 S)
set_option maxHeartbeats 4000000 in
set_option maxRecDepth 100000 in
theorem t_X9_pointsOfAll_39 {Γ : Cx} (C : CF Γ cX9_pointsOfAll 4 (some .int) wsX9_pointsOfAll RX9 rmX9_pointsOfAll 0 0) (x1 : Int32) (S : St) : G Γ cvI 4 0 0 39 [(1, .int x1)] [] S (b_X9_pointsOfAll_39  x1 S) := by
  unfold b_X9_pointsOfAll_39
  refine g_iload_n C dX9_pointsOfAll_39 rfl 0 rfl ?_
  exact g_iret C dX9_pointsOfAll_40 ⟨by decide, by decide⟩
set_option maxHeartbeats 4000000 in
set_option maxRecDepth 100000 in
theorem t_X9_pointsOfAll_4 {Γ : Cx} (C : CF Γ cX9_pointsOfAll 4 (some .int) wsX9_pointsOfAll RX9 rmX9_pointsOfAll 0 0) : ∀ (n : Nat) (a0 : Option Nat) (x1 : Int32) (x2 : Int32) (S : St), G Γ cvI 4 0 0 4 [(0, va_rf a0), (1, .int x1), (2, .int x2)] [] S (b_X9_pointsOfAll_4  n a0 x1 x2 S) := by
  intro n
  induction n with
  | zero => intro a0 x1 x2 S; exact g_none
  | succ n ih =>
    intro a0 x1 x2 S
    rw [b_X9_pointsOfAll_4]
    refine g_iload_n C dX9_pointsOfAll_4 rfl 2 rfl ?_
    refine g_aload_n C dX9_pointsOfAll_5 rfl 0 rfl ?_
    refine g_getI C (ci := 8) (k := 3) dX9_pointsOfAll_6 rfl (by decide) (by decide) (by decide) ulX9_pointsOfAll_X9 flX9_pointsOfAll_24 rfl (fun v1 ev1 => ?_)
    refine g_icmp_ge C (tgt := 39) dX9_pointsOfAll_9 (by decide) (fun h2 => ?_) (fun h2 => ?_)
    · exact g_sub (lv2 := [(1, .int x1)]) [1] rfl (t_X9_pointsOfAll_39 C x1 S)
    · refine g_aload_n C dX9_pointsOfAll_12 rfl 0 rfl ?_
      refine g_iload_n C dX9_pointsOfAll_13 rfl 2 rfl ?_
      refine g_callV C (n := 1) (ci := 8) [.int x2] [] (m_X9_at a0 x2 S) dX9_pointsOfAll_14 gX9_pointsOfAll_X9_at rfl ⟨rfl, rfl⟩ (by decide +kernel) ⟨by decide, by decide⟩ ⟨by decide, by decide⟩ rfl (by decide) rfl rfl (by first | exact Nat.le_of_ble_eq_true rfl | simp [va_rf_cat, vi_cat, vl_cat]) (fun o3 eo3 => ?_)
      show G Γ cvI 4 0 0 17 [(0, va_rf a0), (1, .int x1), (2, .int x2)] [va_rf o3.1] o3.2 _
      refine g_astore_n C (i := 3) (lv2 := [(3, va_rf o3.1), (0, va_rf a0), (1, .int x1), (2, .int x2)]) dX9_pointsOfAll_17 rfl (by decide) (by first | rfl | simp [va_rf_cat, vi_cat, vl_cat]) ?_
      refine g_iload_n C dX9_pointsOfAll_18 rfl 2 rfl ?_
      refine g_aload_n C dX9_pointsOfAll_19 rfl 0 rfl ?_
      refine g_ifnonnull C (tgt := 27) dX9_pointsOfAll_20 (by decide) (fun h4 => ?_) (fun h4 => ?_)
      · refine g_iconst C (v := (0 : Int32)) dX9_pointsOfAll_23 (by decide) ?_
        refine g_goto C (tgt := 31) dX9_pointsOfAll_24 (by decide) ?_
        exact g_sub (lv2 := [(0, va_rf a0), (2, .int x2)]) [1, 3] rfl (t_X9_pointsOfAll_31 C (b_X9_pointsOfAll_4 n) ih a0 x2 x1 (0 : Int32) o3.2)
      · refine g_aload_n C dX9_pointsOfAll_27 rfl 0 rfl ?_
        refine g_call3 C (n := 0) [] [.int x1] (m_X8_points o3.1 o3.2) (m_X8_points o3.1 o3.2) (m_X8_points o3.1 o3.2) dX9_pointsOfAll_28 (fun R s args ht hR => va_cwU 0 ht gX9_pointsOfAll_X8_points_u51X1 rfl rfl rfl rfl (by decide +kernel) (by subst hR; exact ⟨by decide, by decide⟩)) (fun R s args ht hR => va_cwU 0 ht gX9_pointsOfAll_X8_points_u51X2 rfl rfl rfl rfl (by decide +kernel) (by subst hR; exact ⟨by decide, by decide⟩)) (fun R s args ht hR => va_cwU 0 ht gX9_pointsOfAll_X8_points_u51X7 rfl rfl rfl rfl (by decide +kernel) (by subst hR; exact ⟨by decide, by decide⟩)) ⟨by decide, by decide⟩ rfl rfl (by first | exact Nat.le_of_ble_eq_true rfl | simp [va_rf_cat, vi_cat, vl_cat]) (fun o5 eo5 => ?_)
        show G Γ cvI 4 0 0 31 [(3, va_rf o3.1), (0, va_rf a0), (1, .int x1), (2, .int x2)] [.int o5.1, .int x1] o5.2 _
        exact g_sub (lv2 := [(0, va_rf a0), (2, .int x2)]) [1, 3] rfl (t_X9_pointsOfAll_31 C (b_X9_pointsOfAll_4 n) ih a0 x2 x1 o5.1 o5.2)
set_option maxHeartbeats 4000000 in
set_option maxRecDepth 100000 in
theorem m_X9_pointsOfAll (a0 : Option Nat) (S : St) : ∀ l D cy H0 o, f_X9_pointsOfAll a0 S = some o → Met l yX9_pointsOfAll wsX9_pointsOfAll rmX9_pointsOfAll (Pq D cy H0 [va_rf a0] S) (Qx D cy H0 (cvI o)) 0 0 (fun q => H0.size ≤ q) := by
  refine met_of (cc := cX9_pointsOfAll) (maxL := 4) (ret := (some .int)) [va_rf a0] [(0, va_rf a0)] (by decide) rfl rfl (by simp [lg_sl, va_rf_cat, vi_cat, vl_cat]) (by simp [lv_args, va_rf_cat, vi_cat, vl_cat]) (fun Γ C => ?_)
  unfold f_X9_pointsOfAll
  refine g_iconst C (v := (0 : Int32)) dX9_pointsOfAll_0 (by decide) ?_
  refine g_istore_n C (i := 1) (lv2 := [(1, .int (0 : Int32)), (0, va_rf a0)]) dX9_pointsOfAll_1 rfl (by decide) (by first | rfl | simp [va_rf_cat, vi_cat, vl_cat]) ?_
  refine g_iconst C (v := (0 : Int32)) dX9_pointsOfAll_2 (by decide) ?_
  refine g_istore_n C (i := 2) (lv2 := [(2, .int (0 : Int32)), (1, .int (0 : Int32)), (0, va_rf a0)]) dX9_pointsOfAll_3 rfl (by decide) (by first | rfl | simp [va_rf_cat, vi_cat, vl_cat]) ?_
  exact g_sub (lv2 := [(0, va_rf a0), (1, .int (0 : Int32)), (2, .int (0 : Int32))]) [2, 1, 0] rfl (t_X9_pointsOfAll_4 C FU a0 (0 : Int32) (0 : Int32) S)
abbrev rmX9_loops : Room := { frames := 1, cells := 0, slots := 0, locals := 21 }
theorem flX9_loops_24 : Cond.fieldLink RX9 24 "LightLines$Strokes" "held" "I" ∈ wsX9_loops := by decide +kernel
set_option maxRecDepth 100000 in
theorem ulX9_loops_X9 : ∀ w ∈ u_ws RX9 TX9 4, w ∈ wsX9_loops := by decide +kernel
set_option maxHeartbeats 4000000 in
set_option maxRecDepth 100000 in
theorem t_X9_loops_29 {Γ : Cx} (C : CF Γ cX9_loops 3 (some .int) wsX9_loops RX9 rmX9_loops 0 0) (rc4 : Option Nat → Int32 → Int32 → St → Option (Int32 × St)) (hrc4 : ∀ (a0 : Option Nat) (x1 : Int32) (x2 : Int32) (S : St), G Γ cvI 3 0 0 4 [(0, va_rf a0), (1, .int x1), (2, .int x2)] [] S (rc4 a0 x1 x2 S)) (a0 : Option Nat) (x2 : Int32) (s0 : Int32) (s1 : Int32) (S : St) : G Γ cvI 3 0 0 29 [(0, va_rf a0), (2, .int x2)] [.int s1, .int s0] S (b_X9_loops_29 rc4 a0 x2 s0 s1 S) := by
  unfold b_X9_loops_29
  refine g_iadd C dX9_loops_29 ?_
  refine g_topi (fun y1 => ?_)
  refine g_istore_n C (i := 1) (lv2 := [(1, .int y1), (0, va_rf a0), (2, .int x2)]) dX9_loops_30 rfl (by decide) (by first | rfl | simp [va_rf_cat, vi_cat, vl_cat]) ?_
  refine g_iinc1 C dX9_loops_31 2 rfl (by decide) (by decide) (fun y2 => ?_)
  refine g_lveq (lv2 := [(2, .int y2), (1, .int y1), (0, va_rf a0)]) (by first | rfl | simp [va_rf_cat, vi_cat, vl_cat]) ?_
  refine g_goto C (tgt := 4) dX9_loops_34 (by decide) ?_
  exact g_sub (lv2 := [(0, va_rf a0), (1, .int y1), (2, .int y2)]) [2, 1, 0] rfl (hrc4 a0 y1 y2 S)
set_option maxHeartbeats 4000000 in
set_option maxRecDepth 100000 in
theorem t_X9_loops_37 {Γ : Cx} (C : CF Γ cX9_loops 3 (some .int) wsX9_loops RX9 rmX9_loops 0 0) (x1 : Int32) (S : St) : G Γ cvI 3 0 0 37 [(1, .int x1)] [] S (b_X9_loops_37  x1 S) := by
  unfold b_X9_loops_37
  refine g_iload_n C dX9_loops_37 rfl 0 rfl ?_
  exact g_iret C dX9_loops_38 ⟨by decide, by decide⟩
set_option maxHeartbeats 4000000 in
set_option maxRecDepth 100000 in
theorem t_X9_loops_4 {Γ : Cx} (C : CF Γ cX9_loops 3 (some .int) wsX9_loops RX9 rmX9_loops 0 0) : ∀ (n : Nat) (a0 : Option Nat) (x1 : Int32) (x2 : Int32) (S : St), G Γ cvI 3 0 0 4 [(0, va_rf a0), (1, .int x1), (2, .int x2)] [] S (b_X9_loops_4  n a0 x1 x2 S) := by
  intro n
  induction n with
  | zero => intro a0 x1 x2 S; exact g_none
  | succ n ih =>
    intro a0 x1 x2 S
    rw [b_X9_loops_4]
    refine g_iload_n C dX9_loops_4 rfl 2 rfl ?_
    refine g_aload_n C dX9_loops_5 rfl 0 rfl ?_
    refine g_getI C (ci := 8) (k := 3) dX9_loops_6 rfl (by decide) (by decide) (by decide) ulX9_loops_X9 flX9_loops_24 rfl (fun v1 ev1 => ?_)
    refine g_icmp_ge C (tgt := 37) dX9_loops_9 (by decide) (fun h2 => ?_) (fun h2 => ?_)
    · exact g_sub (lv2 := [(1, .int x1)]) [1] rfl (t_X9_loops_37 C x1 S)
    · refine g_iload_n C dX9_loops_12 rfl 1 rfl ?_
      refine g_aload_n C dX9_loops_13 rfl 0 rfl ?_
      refine g_iload_n C dX9_loops_14 rfl 2 rfl ?_
      refine g_callV C (n := 1) (ci := 8) [.int x2] [.int x1] (m_X9_at a0 x2 S) dX9_loops_15 gX9_loops_X9_at rfl ⟨rfl, rfl⟩ (by decide +kernel) ⟨by decide, by decide⟩ ⟨by decide, by decide⟩ rfl (by decide) rfl rfl (by first | exact Nat.le_of_ble_eq_true rfl | simp [va_rf_cat, vi_cat, vl_cat]) (fun o3 eo3 => ?_)
      show G Γ cvI 3 0 0 18 [(0, va_rf a0), (1, .int x1), (2, .int x2)] [va_rf o3.1, .int x1] o3.2 _
      refine g_instLoop C dX9_loops_18 (by decide +kernel) (fun v4 ev4 => ?_)
      refine g_if_eq C (tgt := 28) dX9_loops_21 (by decide) (fun h5 => ?_) (fun h5 => ?_)
      · refine g_iconst C (v := (0 : Int32)) dX9_loops_28 (by decide) ?_
        exact g_sub (lv2 := [(0, va_rf a0), (2, .int x2)]) [0, 2] rfl (t_X9_loops_29 C (b_X9_loops_4 n) ih a0 x2 x1 (0 : Int32) o3.2)
      · refine g_iconst C (v := (1 : Int32)) dX9_loops_24 (by decide) ?_
        refine g_goto C (tgt := 29) dX9_loops_25 (by decide) ?_
        exact g_sub (lv2 := [(0, va_rf a0), (2, .int x2)]) [0, 2] rfl (t_X9_loops_29 C (b_X9_loops_4 n) ih a0 x2 x1 (1 : Int32) o3.2)
set_option maxHeartbeats 4000000 in
set_option maxRecDepth 100000 in
theorem m_X9_loops (a0 : Option Nat) (S : St) : ∀ l D cy H0 o, f_X9_loops a0 S = some o → Met l yX9_loops wsX9_loops rmX9_loops (Pq D cy H0 [va_rf a0] S) (Qx D cy H0 (cvI o)) 0 0 (fun q => H0.size ≤ q) := by
  refine met_of (cc := cX9_loops) (maxL := 3) (ret := (some .int)) [va_rf a0] [(0, va_rf a0)] (by decide) rfl rfl (by simp [lg_sl, va_rf_cat, vi_cat, vl_cat]) (by simp [lv_args, va_rf_cat, vi_cat, vl_cat]) (fun Γ C => ?_)
  unfold f_X9_loops
  refine g_iconst C (v := (0 : Int32)) dX9_loops_0 (by decide) ?_
  refine g_istore_n C (i := 1) (lv2 := [(1, .int (0 : Int32)), (0, va_rf a0)]) dX9_loops_1 rfl (by decide) (by first | rfl | simp [va_rf_cat, vi_cat, vl_cat]) ?_
  refine g_iconst C (v := (0 : Int32)) dX9_loops_2 (by decide) ?_
  refine g_istore_n C (i := 2) (lv2 := [(2, .int (0 : Int32)), (1, .int (0 : Int32)), (0, va_rf a0)]) dX9_loops_3 rfl (by decide) (by first | rfl | simp [va_rf_cat, vi_cat, vl_cat]) ?_
  exact g_sub (lv2 := [(0, va_rf a0), (1, .int (0 : Int32)), (2, .int (0 : Int32))]) [2, 1, 0] rfl (t_X9_loops_4 C FU a0 (0 : Int32) (0 : Int32) S)
abbrev rmX10_init : Room := { frames := 1, cells := 1, slots := 16, locals := 24 }
theorem flX10_init_7 : Cond.fieldLink RX10 7 "LightLines$Trace" "numbers" "[I" ∈ wsX10_init := by decide +kernel
set_option maxRecDepth 100000 in
theorem ulX10_init_X10 : ∀ w ∈ u_ws RX10 TX10 2, w ∈ wsX10_init := by decide +kernel
set_option maxHeartbeats 4000000 in
set_option maxRecDepth 100000 in
theorem m_X10_init (a0 : Nat) (S : St) : ∀ l D cy H0 o, f_X10_init a0 S = some o → Met l yX10_init wsX10_init rmX10_init (Pq D cy H0 [va_rf (some a0)] S) (Qx D cy H0 (cvV o)) 1 16 (fun q => H0.size ≤ q) := by
  refine met_ofI (cc := cX10_init) (maxL := 1) (ret := none) [va_rf (some a0)] [(0, va_rf (some a0))] (by decide) rfl rfl rfl (by simp [lg_sl, va_rf_cat, vi_cat, vl_cat]) (by simp [lv_args, va_rf_cat, vi_cat, vl_cat]) (fun Γ C hN => ?_)
  unfold f_X10_init
  refine g_aload_n C dX10_init_0 rfl 0 rfl ?_
  refine g_objInit C dX10_init_1 (by decide +kernel) (by decide +kernel) (by decide +kernel) ⟨by decide, by decide⟩ (by first | exact Nat.le_of_ble_eq_true rfl | simp [va_rf_cat, vi_cat, vl_cat]) ?_
  refine g_aload_n C dX10_init_4 rfl 0 rfl ?_
  refine g_bipush C (v := (16 : Int32)) dX10_init_5 (by decide) ?_
  refine g_newa C (kd := 14) (t0 := 1) (mx := 16) (ty := .int) dX10_init_7 rfl rfl ⟨by decide, by decide⟩ (fun _ => rfl) (fun _ _ h => h) (by decide) (by decide +kernel) ⟨by decide, by decide⟩ (fun S1 eS1 => ?_)
  show G Γ cvV 1 1 16 9 [(0, va_rf (some a0))] [va_rf (some S.2.2.2), va_rf (some a0)] S1 _
  refine g_putFR C hN (ci := 9) (k := 0) (ty0 := tyX10) dX10_init_9 rfl (by decide) (by decide) (by decide) tyX10_ok nmX10 ulX10_init_X10 flX10_init_7 rfl rfl rfl (rf_fit_a _) (fun S2 eS2 => ?_)
  exact g_vret C dX10_init_12 ⟨by decide, by decide⟩
abbrev rmX11_init : Room := { frames := 3, cells := 81, slots := 15143, locals := 64 }
theorem flX11_init_11 : Cond.fieldLink RX11 11 "LightLines" "sheets" "[LLightLines$Sheet;" ∈ wsX11_init := by decide +kernel
theorem flX11_init_18 : Cond.fieldLink RX11 18 "LightLines" "strokes" "LLightLines$Strokes;" ∈ wsX11_init := by decide +kernel
theorem flX11_init_25 : Cond.fieldLink RX11 25 "LightLines" "search" "LLightLines$PlanSearch;" ∈ wsX11_init := by decide +kernel
theorem flX11_init_32 : Cond.fieldLink RX11 32 "LightLines" "show" "LLightLines$Show;" ∈ wsX11_init := by decide +kernel
theorem flX11_init_39 : Cond.fieldLink RX11 39 "LightLines" "cues" "LLightLines$Cues;" ∈ wsX11_init := by decide +kernel
theorem flX11_init_46 : Cond.fieldLink RX11 46 "LightLines" "trace" "LLightLines$Trace;" ∈ wsX11_init := by decide +kernel
set_option maxRecDepth 100000 in
theorem ulX11_init_X0 : ∀ w ∈ u_ws RX0 TX0 10, w ∈ wsX11_init := by decide +kernel
set_option maxRecDepth 100000 in
theorem ulX11_init_X10 : ∀ w ∈ u_ws RX10 TX10 2, w ∈ wsX11_init := by decide +kernel
set_option maxRecDepth 100000 in
theorem ulX11_init_X11 : ∀ w ∈ u_ws RX11 TX11 7, w ∈ wsX11_init := by decide +kernel
set_option maxRecDepth 100000 in
theorem ulX11_init_X4 : ∀ w ∈ u_ws RX4 TX4 5, w ∈ wsX11_init := by decide +kernel
set_option maxRecDepth 100000 in
theorem ulX11_init_X5 : ∀ w ∈ u_ws RX5 TX5 3, w ∈ wsX11_init := by decide +kernel
set_option maxRecDepth 100000 in
theorem ulX11_init_X6 : ∀ w ∈ u_ws RX6 TX6 13, w ∈ wsX11_init := by decide +kernel
set_option maxRecDepth 100000 in
theorem ulX11_init_X9 : ∀ w ∈ u_ws RX9 TX9 4, w ∈ wsX11_init := by decide +kernel
set_option maxHeartbeats 4000000 in
set_option maxRecDepth 100000 in
theorem m_X11_init (a0 : Nat) (S : St) : ∀ l D cy H0 o, f_X11_init a0 S = some o → Met l yX11_init wsX11_init rmX11_init (Pq D cy H0 [va_rf (some a0)] S) (Qx D cy H0 (cvV o)) 81 15143 (fun q => H0.size ≤ q) := by
  refine met_ofI (cc := cX11_init) (maxL := 2) (ret := none) [va_rf (some a0)] [(0, va_rf (some a0))] (by decide) rfl rfl rfl (by simp [lg_sl, va_rf_cat, vi_cat, vl_cat]) (by simp [lv_args, va_rf_cat, vi_cat, vl_cat]) (fun Γ C hN => ?_)
  unfold f_X11_init
  refine g_aload_n C dX11_init_0 rfl 0 rfl ?_
  refine g_objInit C dX11_init_1 (by decide +kernel) (by decide +kernel) (by decide +kernel) ⟨by decide, by decide⟩ (by first | exact Nat.le_of_ble_eq_true rfl | simp [va_rf_cat, vi_cat, vl_cat]) ?_
  refine g_aload_n C dX11_init_4 rfl 0 rfl ?_
  refine g_bipush C (v := (8 : Int32)) dX11_init_5 (by decide) ?_
  refine g_newq C (kd := 16) (t0 := 3) (N := 8) dX11_init_7 (by decide) (fun _ => rfl) (fun _ h => h.1) (by decide) (by decide) (by decide) (by decide +kernel) ⟨by decide, by decide⟩ (fun S1 => ?_)
  show G Γ cvV 2 1 8 10 [(0, va_rf (some a0))] [va_rf (some S.2.2.2), va_rf (some a0)] S1 _
  refine g_putFR C hN (ci := 10) (k := 0) (ty0 := tyX11) dX11_init_10 rfl (by decide) (by decide) (by decide) tyX11_ok nmX11 ulX11_init_X11 flX11_init_11 rfl rfl rfl (rf_fit_a _) (fun S2 eS2 => ?_)
  refine g_aload_n C dX11_init_13 rfl 0 rfl ?_
  refine g_new C (ci := 8) (ty0 := tyX9) dX11_init_14 rfl (by decide) tyX9_ok (by decide +kernel) ulX11_init_X9 (by decide +kernel) (by decide +kernel) (by decide +kernel) ⟨by decide, by decide⟩ (fun S3 => ?_)
  show G Γ cvV 2 2 12 17 [(0, va_rf (some a0))] [va_rf (some S2.2.2.2), va_rf (some a0)] S3 _
  refine g_dupr C dX11_init_17 ?_
  refine g_callIN C (n := 0) (host := "LightLines") [] [va_rf (some S2.2.2.2), va_rf (some a0)] (m_X9_init S2.2.2.2 S3) dX11_init_18 gX11_init_X9_init_n17 (by decide +kernel) rfl ⟨rfl, rfl⟩ (by decide +kernel) (by decide +kernel) rfl (by decide +kernel) ⟨by decide, by decide⟩ ⟨by decide, by decide⟩ rfl rfl (by first | exact Nat.le_of_ble_eq_true rfl | simp [va_rf_cat, vi_cat, vl_cat]) (fun o4 eo4 => ?_)
  show G Γ cvV 2 5 36 21 [(0, va_rf (some a0))] [va_rf (some S2.2.2.2), va_rf (some a0)] o4 _
  refine g_putFR C hN (ci := 10) (k := 1) (ty0 := tyX11) dX11_init_21 rfl (by decide) (by decide) (by decide) tyX11_ok nmX11 ulX11_init_X11 flX11_init_18 rfl rfl rfl (rf_fit_o _) (fun S5 eS5 => ?_)
  refine g_aload_n C dX11_init_24 rfl 0 rfl ?_
  refine g_new C (ci := 4) (ty0 := tyX4) dX11_init_25 rfl (by decide) tyX4_ok (by decide +kernel) ulX11_init_X4 (by decide +kernel) (by decide +kernel) (by decide +kernel) ⟨by decide, by decide⟩ (fun S6 => ?_)
  show G Γ cvV 2 6 41 28 [(0, va_rf (some a0))] [va_rf (some S5.2.2.2), va_rf (some a0)] S6 _
  refine g_dupr C dX11_init_28 ?_
  refine g_callIN C (n := 0) (host := "LightLines") [] [va_rf (some S5.2.2.2), va_rf (some a0)] (m_X4_init S5.2.2.2 S6) dX11_init_29 gX11_init_X4_init_n24 (by decide +kernel) rfl ⟨rfl, rfl⟩ (by decide +kernel) (by decide +kernel) rfl (by decide +kernel) ⟨by decide, by decide⟩ ⟨by decide, by decide⟩ rfl rfl (by first | exact Nat.le_of_ble_eq_true rfl | simp [va_rf_cat, vi_cat, vl_cat]) (fun o7 eo7 => ?_)
  show G Γ cvV 2 9 4169 32 [(0, va_rf (some a0))] [va_rf (some S5.2.2.2), va_rf (some a0)] o7 _
  refine g_putFR C hN (ci := 10) (k := 2) (ty0 := tyX11) dX11_init_32 rfl (by decide) (by decide) (by decide) tyX11_ok nmX11 ulX11_init_X11 flX11_init_25 rfl rfl rfl (rf_fit_o _) (fun S8 eS8 => ?_)
  refine g_aload_n C dX11_init_35 rfl 0 rfl ?_
  refine g_new C (ci := 6) (ty0 := tyX6) dX11_init_36 rfl (by decide) tyX6_ok (by decide +kernel) ulX11_init_X6 (by decide +kernel) (by decide +kernel) (by decide +kernel) ⟨by decide, by decide⟩ (fun S9 => ?_)
  show G Γ cvV 2 10 4182 39 [(0, va_rf (some a0))] [va_rf (some S8.2.2.2), va_rf (some a0)] S9 _
  refine g_dupr C dX11_init_39 ?_
  refine g_callIN C (n := 0) (host := "LightLines") [] [va_rf (some S8.2.2.2), va_rf (some a0)] (m_X6_init S8.2.2.2 S9) dX11_init_40 gX11_init_X6_init_n31 (by decide +kernel) rfl ⟨rfl, rfl⟩ (by decide +kernel) (by decide +kernel) rfl (by decide +kernel) ⟨by decide, by decide⟩ ⟨by decide, by decide⟩ rfl rfl (by first | exact Nat.le_of_ble_eq_true rfl | simp [va_rf_cat, vi_cat, vl_cat]) (fun o10 eo10 => ?_)
  show G Γ cvV 2 35 14351 43 [(0, va_rf (some a0))] [va_rf (some S8.2.2.2), va_rf (some a0)] o10 _
  refine g_putFR C hN (ci := 10) (k := 3) (ty0 := tyX11) dX11_init_43 rfl (by decide) (by decide) (by decide) tyX11_ok nmX11 ulX11_init_X11 flX11_init_32 rfl rfl rfl (rf_fit_o _) (fun S11 eS11 => ?_)
  refine g_aload_n C dX11_init_46 rfl 0 rfl ?_
  refine g_new C (ci := 0) (ty0 := tyX0) dX11_init_47 rfl (by decide) tyX0_ok (by decide +kernel) ulX11_init_X0 (by decide +kernel) (by decide +kernel) (by decide +kernel) ⟨by decide, by decide⟩ (fun S12 => ?_)
  show G Γ cvV 2 36 14361 50 [(0, va_rf (some a0))] [va_rf (some S11.2.2.2), va_rf (some a0)] S12 _
  refine g_dupr C dX11_init_50 ?_
  refine g_callIN C (n := 0) (host := "LightLines") [] [va_rf (some S11.2.2.2), va_rf (some a0)] (m_X0_init S11.2.2.2 S12) dX11_init_51 gX11_init_X0_init_n38 (by decide +kernel) rfl ⟨rfl, rfl⟩ (by decide +kernel) (by decide +kernel) rfl (by decide +kernel) ⟨by decide, by decide⟩ ⟨by decide, by decide⟩ rfl rfl (by first | exact Nat.le_of_ble_eq_true rfl | simp [va_rf_cat, vi_cat, vl_cat]) (fun o13 eo13 => ?_)
  show G Γ cvV 2 63 14781 54 [(0, va_rf (some a0))] [va_rf (some S11.2.2.2), va_rf (some a0)] o13 _
  refine g_putFR C hN (ci := 10) (k := 4) (ty0 := tyX11) dX11_init_54 rfl (by decide) (by decide) (by decide) tyX11_ok nmX11 ulX11_init_X11 flX11_init_39 rfl rfl rfl (rf_fit_o _) (fun S14 eS14 => ?_)
  refine g_aload_n C dX11_init_57 rfl 0 rfl ?_
  refine g_new C (ci := 9) (ty0 := tyX10) dX11_init_58 rfl (by decide) tyX10_ok (by decide +kernel) ulX11_init_X10 (by decide +kernel) (by decide +kernel) (by decide +kernel) ⟨by decide, by decide⟩ (fun S15 => ?_)
  show G Γ cvV 2 64 14783 61 [(0, va_rf (some a0))] [va_rf (some S14.2.2.2), va_rf (some a0)] S15 _
  refine g_dupr C dX11_init_61 ?_
  refine g_callIN C (n := 0) (host := "LightLines") [] [va_rf (some S14.2.2.2), va_rf (some a0)] (m_X10_init S14.2.2.2 S15) dX11_init_62 gX11_init_X10_init_n45 (by decide +kernel) rfl ⟨rfl, rfl⟩ (by decide +kernel) (by decide +kernel) rfl (by decide +kernel) ⟨by decide, by decide⟩ ⟨by decide, by decide⟩ rfl rfl (by first | exact Nat.le_of_ble_eq_true rfl | simp [va_rf_cat, vi_cat, vl_cat]) (fun o16 eo16 => ?_)
  show G Γ cvV 2 65 14799 65 [(0, va_rf (some a0))] [va_rf (some S14.2.2.2), va_rf (some a0)] o16 _
  refine g_putFR C hN (ci := 10) (k := 5) (ty0 := tyX11) dX11_init_65 rfl (by decide) (by decide) (by decide) tyX11_ok nmX11 ulX11_init_X11 flX11_init_46 rfl rfl rfl (rf_fit_o _) (fun S17 eS17 => ?_)
  refine g_iconst C (v := (0 : Int32)) dX11_init_68 (by decide) ?_
  refine g_istore_n C (i := 1) (lv2 := [(1, .int (0 : Int32)), (0, va_rf (some a0))]) dX11_init_69 rfl (by decide) (by first | rfl | simp [va_rf_cat, vi_cat, vl_cat]) ?_
  refine g_iload_n C dX11_init_70 rfl 0 rfl ?_
  refine g_bipush C (v := (8 : Int32)) dX11_init_71 (by decide) ?_
  refine g_icmp_ge C (tgt := 95) dX11_init_73 (by decide) (fun h18 => g_none) (fun h18 => ?_)
  refine g_aload_n C dX11_init_76 rfl 1 rfl ?_
  refine g_getR C (ci := 10) (k := 0) dX11_init_77 rfl (by decide) (by decide) (by decide) ulX11_init_X11 flX11_init_11 rfl (fun v19 ev19 => ?_)
  refine g_iload_n C dX11_init_80 rfl 0 rfl ?_
  refine g_new C (ci := 5) (ty0 := tyX5) dX11_init_81 rfl (by decide) tyX5_ok (by decide +kernel) ulX11_init_X5 (by decide +kernel) (by decide +kernel) (by decide +kernel) ⟨by decide, by decide⟩ (fun S20 => ?_)
  show G Γ cvV 2 66 14802 84 [(1, .int (0 : Int32)), (0, va_rf (some a0))] [va_rf (some S17.2.2.2), .int (0 : Int32), va_rf v19] S20 _
  refine g_dupr C dX11_init_84 ?_
  refine g_callIN C (n := 0) (host := "LightLines") [] [va_rf (some S17.2.2.2), .int (0 : Int32), va_rf v19] (m_X5_init S17.2.2.2 S20) dX11_init_85 gX11_init_X5_init_n50 (by decide +kernel) rfl ⟨rfl, rfl⟩ (by decide +kernel) (by decide +kernel) rfl (by decide +kernel) ⟨by decide, by decide⟩ ⟨by decide, by decide⟩ rfl rfl (by first | exact Nat.le_of_ble_eq_true rfl | simp [va_rf_cat, vi_cat, vl_cat]) (fun o21 eo21 => ?_)
  show G Γ cvV 2 67 14842 88 [(1, .int (0 : Int32)), (0, va_rf (some a0))] [va_rf (some S17.2.2.2), .int (0 : Int32), va_rf v19] o21 _
  refine g_ast16 C dX11_init_88 (fun S22 eS22 => ?_)
  refine g_iinc C (v := (1 : Int32)) (lv2 := [(1, .int (1 : Int32)), (0, va_rf (some a0))]) dX11_init_89 0 rfl (by decide) (by decide) (by first | rfl | simp [va_rf_cat, vi_cat, vl_cat]) ?_
  refine g_goto C (tgt := 70) dX11_init_92 (by decide) ?_
  refine g_iload_n C dX11_init_70 rfl 0 rfl ?_
  refine g_bipush C (v := (8 : Int32)) dX11_init_71 (by decide) ?_
  refine g_icmp_ge C (tgt := 95) dX11_init_73 (by decide) (fun h23 => g_none) (fun h23 => ?_)
  refine g_aload_n C dX11_init_76 rfl 1 rfl ?_
  refine g_getR C (ci := 10) (k := 0) dX11_init_77 rfl (by decide) (by decide) (by decide) ulX11_init_X11 flX11_init_11 rfl (fun v24 ev24 => ?_)
  refine g_iload_n C dX11_init_80 rfl 0 rfl ?_
  refine g_new C (ci := 5) (ty0 := tyX5) dX11_init_81 rfl (by decide) tyX5_ok (by decide +kernel) ulX11_init_X5 (by decide +kernel) (by decide +kernel) (by decide +kernel) ⟨by decide, by decide⟩ (fun S25 => ?_)
  show G Γ cvV 2 68 14845 84 [(1, .int (1 : Int32)), (0, va_rf (some a0))] [va_rf (some S22.2.2.2), .int (1 : Int32), va_rf v24] S25 _
  refine g_dupr C dX11_init_84 ?_
  refine g_callIN C (n := 0) (host := "LightLines") [] [va_rf (some S22.2.2.2), .int (1 : Int32), va_rf v24] (m_X5_init S22.2.2.2 S25) dX11_init_85 gX11_init_X5_init_n50 (by decide +kernel) rfl ⟨rfl, rfl⟩ (by decide +kernel) (by decide +kernel) rfl (by decide +kernel) ⟨by decide, by decide⟩ ⟨by decide, by decide⟩ rfl rfl (by first | exact Nat.le_of_ble_eq_true rfl | simp [va_rf_cat, vi_cat, vl_cat]) (fun o26 eo26 => ?_)
  show G Γ cvV 2 69 14885 88 [(1, .int (1 : Int32)), (0, va_rf (some a0))] [va_rf (some S22.2.2.2), .int (1 : Int32), va_rf v24] o26 _
  refine g_ast16 C dX11_init_88 (fun S27 eS27 => ?_)
  refine g_iinc C (v := (2 : Int32)) (lv2 := [(1, .int (2 : Int32)), (0, va_rf (some a0))]) dX11_init_89 0 rfl (by decide) (by decide) (by first | rfl | simp [va_rf_cat, vi_cat, vl_cat]) ?_
  refine g_goto C (tgt := 70) dX11_init_92 (by decide) ?_
  refine g_iload_n C dX11_init_70 rfl 0 rfl ?_
  refine g_bipush C (v := (8 : Int32)) dX11_init_71 (by decide) ?_
  refine g_icmp_ge C (tgt := 95) dX11_init_73 (by decide) (fun h28 => g_none) (fun h28 => ?_)
  refine g_aload_n C dX11_init_76 rfl 1 rfl ?_
  refine g_getR C (ci := 10) (k := 0) dX11_init_77 rfl (by decide) (by decide) (by decide) ulX11_init_X11 flX11_init_11 rfl (fun v29 ev29 => ?_)
  refine g_iload_n C dX11_init_80 rfl 0 rfl ?_
  refine g_new C (ci := 5) (ty0 := tyX5) dX11_init_81 rfl (by decide) tyX5_ok (by decide +kernel) ulX11_init_X5 (by decide +kernel) (by decide +kernel) (by decide +kernel) ⟨by decide, by decide⟩ (fun S30 => ?_)
  show G Γ cvV 2 70 14888 84 [(1, .int (2 : Int32)), (0, va_rf (some a0))] [va_rf (some S27.2.2.2), .int (2 : Int32), va_rf v29] S30 _
  refine g_dupr C dX11_init_84 ?_
  refine g_callIN C (n := 0) (host := "LightLines") [] [va_rf (some S27.2.2.2), .int (2 : Int32), va_rf v29] (m_X5_init S27.2.2.2 S30) dX11_init_85 gX11_init_X5_init_n50 (by decide +kernel) rfl ⟨rfl, rfl⟩ (by decide +kernel) (by decide +kernel) rfl (by decide +kernel) ⟨by decide, by decide⟩ ⟨by decide, by decide⟩ rfl rfl (by first | exact Nat.le_of_ble_eq_true rfl | simp [va_rf_cat, vi_cat, vl_cat]) (fun o31 eo31 => ?_)
  show G Γ cvV 2 71 14928 88 [(1, .int (2 : Int32)), (0, va_rf (some a0))] [va_rf (some S27.2.2.2), .int (2 : Int32), va_rf v29] o31 _
  refine g_ast16 C dX11_init_88 (fun S32 eS32 => ?_)
  refine g_iinc C (v := (3 : Int32)) (lv2 := [(1, .int (3 : Int32)), (0, va_rf (some a0))]) dX11_init_89 0 rfl (by decide) (by decide) (by first | rfl | simp [va_rf_cat, vi_cat, vl_cat]) ?_
  refine g_goto C (tgt := 70) dX11_init_92 (by decide) ?_
  refine g_iload_n C dX11_init_70 rfl 0 rfl ?_
  refine g_bipush C (v := (8 : Int32)) dX11_init_71 (by decide) ?_
  refine g_icmp_ge C (tgt := 95) dX11_init_73 (by decide) (fun h33 => g_none) (fun h33 => ?_)
  refine g_aload_n C dX11_init_76 rfl 1 rfl ?_
  refine g_getR C (ci := 10) (k := 0) dX11_init_77 rfl (by decide) (by decide) (by decide) ulX11_init_X11 flX11_init_11 rfl (fun v34 ev34 => ?_)
  refine g_iload_n C dX11_init_80 rfl 0 rfl ?_
  refine g_new C (ci := 5) (ty0 := tyX5) dX11_init_81 rfl (by decide) tyX5_ok (by decide +kernel) ulX11_init_X5 (by decide +kernel) (by decide +kernel) (by decide +kernel) ⟨by decide, by decide⟩ (fun S35 => ?_)
  show G Γ cvV 2 72 14931 84 [(1, .int (3 : Int32)), (0, va_rf (some a0))] [va_rf (some S32.2.2.2), .int (3 : Int32), va_rf v34] S35 _
  refine g_dupr C dX11_init_84 ?_
  refine g_callIN C (n := 0) (host := "LightLines") [] [va_rf (some S32.2.2.2), .int (3 : Int32), va_rf v34] (m_X5_init S32.2.2.2 S35) dX11_init_85 gX11_init_X5_init_n50 (by decide +kernel) rfl ⟨rfl, rfl⟩ (by decide +kernel) (by decide +kernel) rfl (by decide +kernel) ⟨by decide, by decide⟩ ⟨by decide, by decide⟩ rfl rfl (by first | exact Nat.le_of_ble_eq_true rfl | simp [va_rf_cat, vi_cat, vl_cat]) (fun o36 eo36 => ?_)
  show G Γ cvV 2 73 14971 88 [(1, .int (3 : Int32)), (0, va_rf (some a0))] [va_rf (some S32.2.2.2), .int (3 : Int32), va_rf v34] o36 _
  refine g_ast16 C dX11_init_88 (fun S37 eS37 => ?_)
  refine g_iinc C (v := (4 : Int32)) (lv2 := [(1, .int (4 : Int32)), (0, va_rf (some a0))]) dX11_init_89 0 rfl (by decide) (by decide) (by first | rfl | simp [va_rf_cat, vi_cat, vl_cat]) ?_
  refine g_goto C (tgt := 70) dX11_init_92 (by decide) ?_
  refine g_iload_n C dX11_init_70 rfl 0 rfl ?_
  refine g_bipush C (v := (8 : Int32)) dX11_init_71 (by decide) ?_
  refine g_icmp_ge C (tgt := 95) dX11_init_73 (by decide) (fun h38 => g_none) (fun h38 => ?_)
  refine g_aload_n C dX11_init_76 rfl 1 rfl ?_
  refine g_getR C (ci := 10) (k := 0) dX11_init_77 rfl (by decide) (by decide) (by decide) ulX11_init_X11 flX11_init_11 rfl (fun v39 ev39 => ?_)
  refine g_iload_n C dX11_init_80 rfl 0 rfl ?_
  refine g_new C (ci := 5) (ty0 := tyX5) dX11_init_81 rfl (by decide) tyX5_ok (by decide +kernel) ulX11_init_X5 (by decide +kernel) (by decide +kernel) (by decide +kernel) ⟨by decide, by decide⟩ (fun S40 => ?_)
  show G Γ cvV 2 74 14974 84 [(1, .int (4 : Int32)), (0, va_rf (some a0))] [va_rf (some S37.2.2.2), .int (4 : Int32), va_rf v39] S40 _
  refine g_dupr C dX11_init_84 ?_
  refine g_callIN C (n := 0) (host := "LightLines") [] [va_rf (some S37.2.2.2), .int (4 : Int32), va_rf v39] (m_X5_init S37.2.2.2 S40) dX11_init_85 gX11_init_X5_init_n50 (by decide +kernel) rfl ⟨rfl, rfl⟩ (by decide +kernel) (by decide +kernel) rfl (by decide +kernel) ⟨by decide, by decide⟩ ⟨by decide, by decide⟩ rfl rfl (by first | exact Nat.le_of_ble_eq_true rfl | simp [va_rf_cat, vi_cat, vl_cat]) (fun o41 eo41 => ?_)
  show G Γ cvV 2 75 15014 88 [(1, .int (4 : Int32)), (0, va_rf (some a0))] [va_rf (some S37.2.2.2), .int (4 : Int32), va_rf v39] o41 _
  refine g_ast16 C dX11_init_88 (fun S42 eS42 => ?_)
  refine g_iinc C (v := (5 : Int32)) (lv2 := [(1, .int (5 : Int32)), (0, va_rf (some a0))]) dX11_init_89 0 rfl (by decide) (by decide) (by first | rfl | simp [va_rf_cat, vi_cat, vl_cat]) ?_
  refine g_goto C (tgt := 70) dX11_init_92 (by decide) ?_
  refine g_iload_n C dX11_init_70 rfl 0 rfl ?_
  refine g_bipush C (v := (8 : Int32)) dX11_init_71 (by decide) ?_
  refine g_icmp_ge C (tgt := 95) dX11_init_73 (by decide) (fun h43 => g_none) (fun h43 => ?_)
  refine g_aload_n C dX11_init_76 rfl 1 rfl ?_
  refine g_getR C (ci := 10) (k := 0) dX11_init_77 rfl (by decide) (by decide) (by decide) ulX11_init_X11 flX11_init_11 rfl (fun v44 ev44 => ?_)
  refine g_iload_n C dX11_init_80 rfl 0 rfl ?_
  refine g_new C (ci := 5) (ty0 := tyX5) dX11_init_81 rfl (by decide) tyX5_ok (by decide +kernel) ulX11_init_X5 (by decide +kernel) (by decide +kernel) (by decide +kernel) ⟨by decide, by decide⟩ (fun S45 => ?_)
  show G Γ cvV 2 76 15017 84 [(1, .int (5 : Int32)), (0, va_rf (some a0))] [va_rf (some S42.2.2.2), .int (5 : Int32), va_rf v44] S45 _
  refine g_dupr C dX11_init_84 ?_
  refine g_callIN C (n := 0) (host := "LightLines") [] [va_rf (some S42.2.2.2), .int (5 : Int32), va_rf v44] (m_X5_init S42.2.2.2 S45) dX11_init_85 gX11_init_X5_init_n50 (by decide +kernel) rfl ⟨rfl, rfl⟩ (by decide +kernel) (by decide +kernel) rfl (by decide +kernel) ⟨by decide, by decide⟩ ⟨by decide, by decide⟩ rfl rfl (by first | exact Nat.le_of_ble_eq_true rfl | simp [va_rf_cat, vi_cat, vl_cat]) (fun o46 eo46 => ?_)
  show G Γ cvV 2 77 15057 88 [(1, .int (5 : Int32)), (0, va_rf (some a0))] [va_rf (some S42.2.2.2), .int (5 : Int32), va_rf v44] o46 _
  refine g_ast16 C dX11_init_88 (fun S47 eS47 => ?_)
  refine g_iinc C (v := (6 : Int32)) (lv2 := [(1, .int (6 : Int32)), (0, va_rf (some a0))]) dX11_init_89 0 rfl (by decide) (by decide) (by first | rfl | simp [va_rf_cat, vi_cat, vl_cat]) ?_
  refine g_goto C (tgt := 70) dX11_init_92 (by decide) ?_
  refine g_iload_n C dX11_init_70 rfl 0 rfl ?_
  refine g_bipush C (v := (8 : Int32)) dX11_init_71 (by decide) ?_
  refine g_icmp_ge C (tgt := 95) dX11_init_73 (by decide) (fun h48 => g_none) (fun h48 => ?_)
  refine g_aload_n C dX11_init_76 rfl 1 rfl ?_
  refine g_getR C (ci := 10) (k := 0) dX11_init_77 rfl (by decide) (by decide) (by decide) ulX11_init_X11 flX11_init_11 rfl (fun v49 ev49 => ?_)
  refine g_iload_n C dX11_init_80 rfl 0 rfl ?_
  refine g_new C (ci := 5) (ty0 := tyX5) dX11_init_81 rfl (by decide) tyX5_ok (by decide +kernel) ulX11_init_X5 (by decide +kernel) (by decide +kernel) (by decide +kernel) ⟨by decide, by decide⟩ (fun S50 => ?_)
  show G Γ cvV 2 78 15060 84 [(1, .int (6 : Int32)), (0, va_rf (some a0))] [va_rf (some S47.2.2.2), .int (6 : Int32), va_rf v49] S50 _
  refine g_dupr C dX11_init_84 ?_
  refine g_callIN C (n := 0) (host := "LightLines") [] [va_rf (some S47.2.2.2), .int (6 : Int32), va_rf v49] (m_X5_init S47.2.2.2 S50) dX11_init_85 gX11_init_X5_init_n50 (by decide +kernel) rfl ⟨rfl, rfl⟩ (by decide +kernel) (by decide +kernel) rfl (by decide +kernel) ⟨by decide, by decide⟩ ⟨by decide, by decide⟩ rfl rfl (by first | exact Nat.le_of_ble_eq_true rfl | simp [va_rf_cat, vi_cat, vl_cat]) (fun o51 eo51 => ?_)
  show G Γ cvV 2 79 15100 88 [(1, .int (6 : Int32)), (0, va_rf (some a0))] [va_rf (some S47.2.2.2), .int (6 : Int32), va_rf v49] o51 _
  refine g_ast16 C dX11_init_88 (fun S52 eS52 => ?_)
  refine g_iinc C (v := (7 : Int32)) (lv2 := [(1, .int (7 : Int32)), (0, va_rf (some a0))]) dX11_init_89 0 rfl (by decide) (by decide) (by first | rfl | simp [va_rf_cat, vi_cat, vl_cat]) ?_
  refine g_goto C (tgt := 70) dX11_init_92 (by decide) ?_
  refine g_iload_n C dX11_init_70 rfl 0 rfl ?_
  refine g_bipush C (v := (8 : Int32)) dX11_init_71 (by decide) ?_
  refine g_icmp_ge C (tgt := 95) dX11_init_73 (by decide) (fun h53 => g_none) (fun h53 => ?_)
  refine g_aload_n C dX11_init_76 rfl 1 rfl ?_
  refine g_getR C (ci := 10) (k := 0) dX11_init_77 rfl (by decide) (by decide) (by decide) ulX11_init_X11 flX11_init_11 rfl (fun v54 ev54 => ?_)
  refine g_iload_n C dX11_init_80 rfl 0 rfl ?_
  refine g_new C (ci := 5) (ty0 := tyX5) dX11_init_81 rfl (by decide) tyX5_ok (by decide +kernel) ulX11_init_X5 (by decide +kernel) (by decide +kernel) (by decide +kernel) ⟨by decide, by decide⟩ (fun S55 => ?_)
  show G Γ cvV 2 80 15103 84 [(1, .int (7 : Int32)), (0, va_rf (some a0))] [va_rf (some S52.2.2.2), .int (7 : Int32), va_rf v54] S55 _
  refine g_dupr C dX11_init_84 ?_
  refine g_callIN C (n := 0) (host := "LightLines") [] [va_rf (some S52.2.2.2), .int (7 : Int32), va_rf v54] (m_X5_init S52.2.2.2 S55) dX11_init_85 gX11_init_X5_init_n50 (by decide +kernel) rfl ⟨rfl, rfl⟩ (by decide +kernel) (by decide +kernel) rfl (by decide +kernel) ⟨by decide, by decide⟩ ⟨by decide, by decide⟩ rfl rfl (by first | exact Nat.le_of_ble_eq_true rfl | simp [va_rf_cat, vi_cat, vl_cat]) (fun o56 eo56 => ?_)
  show G Γ cvV 2 81 15143 88 [(1, .int (7 : Int32)), (0, va_rf (some a0))] [va_rf (some S52.2.2.2), .int (7 : Int32), va_rf v54] o56 _
  refine g_ast16 C dX11_init_88 (fun S57 eS57 => ?_)
  refine g_iinc C (v := (8 : Int32)) (lv2 := [(1, .int (8 : Int32)), (0, va_rf (some a0))]) dX11_init_89 0 rfl (by decide) (by decide) (by first | rfl | simp [va_rf_cat, vi_cat, vl_cat]) ?_
  refine g_goto C (tgt := 70) dX11_init_92 (by decide) ?_
  refine g_iload_n C dX11_init_70 rfl 0 rfl ?_
  refine g_bipush C (v := (8 : Int32)) dX11_init_71 (by decide) ?_
  refine g_icmp_ge C (tgt := 95) dX11_init_73 (by decide) (fun h58 => ?_) (fun h58 => g_none)
  exact g_vret C dX11_init_95 ⟨by decide, by decide⟩
abbrev rmX11_fine : Room := { frames := 0, cells := 0, slots := 0, locals := 0 }
theorem flX11_fine_288 : Cond.fieldLink RX11 288 "LightLines" "finding" "I" ∈ wsX11_fine := by decide +kernel
set_option maxRecDepth 100000 in
theorem ulX11_fine_X11 : ∀ w ∈ u_ws RX11 TX11 7, w ∈ wsX11_fine := by decide +kernel
set_option maxHeartbeats 4000000 in
set_option maxRecDepth 100000 in
theorem m_X11_fine (a0 : Option Nat) (x1 : Int32) (S : St) : ∀ l D cy H0 o, f_X11_fine a0 x1 S = some o → Met l yX11_fine wsX11_fine rmX11_fine (Pq D cy H0 [va_rf a0, .int x1] S) (Qx D cy H0 (cvI o)) 0 0 (fun q => H0.size ≤ q) := by
  refine met_of (cc := cX11_fine) (maxL := 2) (ret := (some .int)) [va_rf a0, .int x1] [(0, va_rf a0), (1, .int x1)] (by decide) rfl rfl (by simp [lg_sl, va_rf_cat, vi_cat, vl_cat]) (by simp [lv_args, va_rf_cat, vi_cat, vl_cat]) (fun Γ C => ?_)
  unfold f_X11_fine
  refine g_aload_n C dX11_fine_0 rfl 0 rfl ?_
  refine g_iconst C (v := (0 : Int32)) dX11_fine_1 (by decide) ?_
  refine g_putI C (ci := 10) (k := 6) (ty0 := tyX11) dX11_fine_2 rfl (by decide) (by decide) (by decide) tyX11_ok nmX11 ulX11_fine_X11 flX11_fine_288 rfl rfl ⟨rfl, rfl⟩ (fun S1 eS1 => ?_)
  refine g_iload_n C dX11_fine_5 rfl 1 rfl ?_
  exact g_iret C dX11_fine_6 ⟨by decide, by decide⟩
abbrev rmX11_found : Room := { frames := 0, cells := 0, slots := 0, locals := 0 }
theorem flX11_found_288 : Cond.fieldLink RX11 288 "LightLines" "finding" "I" ∈ wsX11_found := by decide +kernel
set_option maxRecDepth 100000 in
theorem ulX11_found_X11 : ∀ w ∈ u_ws RX11 TX11 7, w ∈ wsX11_found := by decide +kernel
set_option maxHeartbeats 4000000 in
set_option maxRecDepth 100000 in
theorem m_X11_found (a0 : Option Nat) (x1 : Int32) (S : St) : ∀ l D cy H0 o, f_X11_found a0 x1 S = some o → Met l yX11_found wsX11_found rmX11_found (Pq D cy H0 [va_rf a0, .int x1] S) (Qx D cy H0 (cvI o)) 0 0 (fun q => H0.size ≤ q) := by
  refine met_of (cc := cX11_found) (maxL := 2) (ret := (some .int)) [va_rf a0, .int x1] [(0, va_rf a0), (1, .int x1)] (by decide) rfl rfl (by simp [lg_sl, va_rf_cat, vi_cat, vl_cat]) (by simp [lv_args, va_rf_cat, vi_cat, vl_cat]) (fun Γ C => ?_)
  unfold f_X11_found
  refine g_aload_n C dX11_found_0 rfl 0 rfl ?_
  refine g_iload_n C dX11_found_1 rfl 1 rfl ?_
  refine g_putI C (ci := 10) (k := 6) (ty0 := tyX11) dX11_found_2 rfl (by decide) (by decide) (by decide) tyX11_ok nmX11 ulX11_found_X11 flX11_found_288 rfl rfl ⟨rfl, rfl⟩ (fun S1 eS1 => ?_)
  refine g_ldcw C (v := (-1000010 : Int32)) dX11_found_5 (by decide +kernel) ?_
  refine g_iload_n C dX11_found_8 rfl 1 rfl ?_
  refine g_isub C dX11_found_9 ?_
  exact g_iret C dX11_found_10 ⟨by decide, by decide⟩
abbrev rmX11_isSheet : Room := { frames := 1, cells := 0, slots := 0, locals := 22 }
set_option maxHeartbeats 4000000 in
set_option maxRecDepth 100000 in
theorem m_X11_isSheet (x0 : Int32) (S : St) : ∀ l D cy H0 o, f_X11_isSheet x0 S = some o → Met l yX11_isSheet wsX11_isSheet rmX11_isSheet (Pq D cy H0 [.int x0] S) (Qx D cy H0 (cvI o)) 0 0 (fun q => H0.size ≤ q) := by
  refine met_of (cc := cX11_isSheet) (maxL := 1) (ret := (some .boolean)) [.int x0] [(0, .int x0)] (by decide) rfl rfl (by simp [lg_sl, va_rf_cat, vi_cat, vl_cat]) (by simp [lv_args, va_rf_cat, vi_cat, vl_cat]) (fun Γ C => ?_)
  unfold f_X11_isSheet
  refine g_iload_n C dX11_isSheet_0 rfl 0 rfl ?_
  refine g_iconst C (v := (0 : Int32)) dX11_isSheet_1 (by decide) ?_
  refine g_bipush C (v := (7 : Int32)) dX11_isSheet_2 (by decide) ?_
  refine g_callS C (n := 3) [.int x0, .int (0 : Int32), .int (7 : Int32)] [] (m_X11_isWithin x0 (0 : Int32) (7 : Int32) S) dX11_isSheet_4 gX11_isSheet_X11_isWithin rfl ⟨rfl, rfl⟩ (by decide +kernel) ⟨by decide, by decide⟩ ⟨by decide, by decide⟩ rfl rfl (by first | exact Nat.le_of_ble_eq_true rfl | simp [va_rf_cat, vi_cat, vl_cat]) (fun o1 eo1 => ?_)
  show G Γ cvI 1 0 0 7 [(0, .int x0)] [.int o1.1] o1.2 _
  exact g_zret C dX11_isSheet_7 ⟨by decide, by decide⟩
