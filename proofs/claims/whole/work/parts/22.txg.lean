abbrev rmX9_isPlan : Room := { frames := 2, cells := 0, slots := 0, locals := 43 }
theorem flX9_isPlan_24 : Cond.fieldLink RX9 24 "LightLines$Strokes" "held" "I" ∈ wsX9_isPlan := by decide +kernel
set_option maxRecDepth 100000 in
theorem ulX9_isPlan_X9 : ∀ w ∈ u_ws RX9 TX9 4, w ∈ wsX9_isPlan := by decide +kernel
set_option maxHeartbeats 4000000 in
set_option maxRecDepth 100000 in
theorem t_X9_isPlan_5 {Γ : Cx} (C : CF Γ cX9_isPlan 7 (some .boolean) wsX9_isPlan RX9 rmX9_isPlan 0 0) : ∀ (n : Nat) (a0 : Option Nat) (a1 : Option Nat) (x2 : Int32) (x3 : Int32) (x4 : Int32) (S : St), G Γ cvI 7 0 0 5 [(0, va_rf a0), (1, va_rf a1), (2, .int x2), (3, .int x3), (4, .int x4)] [] S (b_X9_isPlan_5  n a0 a1 x2 x3 x4 S) := by
  intro n
  induction n with
  | zero => intro a0 a1 x2 x3 x4 S; exact g_none
  | succ n ih =>
    intro a0 a1 x2 x3 x4 S
    rw [b_X9_isPlan_5]
    refine g_iload C dX9_isPlan_5 4 rfl ?_
    refine g_aload_n C dX9_isPlan_7 rfl 0 rfl ?_
    refine g_getI C (ci := 8) (k := 3) dX9_isPlan_8 rfl (by decide) (by decide) (by decide) ulX9_isPlan_X9 flX9_isPlan_24 rfl (fun v1 ev1 => ?_)
    refine g_icmp_ge C (tgt := 89) dX9_isPlan_11 (by decide) (fun h2 => ?_) (fun h2 => ?_)
    · refine g_iconst C (v := (1 : Int32)) dX9_isPlan_89 (by decide) ?_
      exact g_zret C dX9_isPlan_90 ⟨by decide, by decide⟩
    · refine g_aload_n C dX9_isPlan_14 rfl 1 rfl ?_
      refine g_iload_n C dX9_isPlan_15 rfl 2 rfl ?_
      refine g_iconst C (v := (2 : Int32)) dX9_isPlan_16 (by decide) ?_
      refine g_iload C dX9_isPlan_17 4 rfl ?_
      refine g_imul C dX9_isPlan_19 ?_
      refine g_iadd C dX9_isPlan_20 ?_
      refine g_callV C (n := 1) (ci := 5) [.int (x2 + ((2 : Int32) * x4))] [] (m_X5_item a1 (x2 + ((2 : Int32) * x4)) S) dX9_isPlan_21 gX9_isPlan_X5_item rfl ⟨rfl, rfl⟩ (by decide +kernel) ⟨by decide, by decide⟩ ⟨by decide, by decide⟩ rfl (by decide) rfl rfl (by first | exact Nat.le_of_ble_eq_true rfl | simp [va_rf_cat, vi_cat, vl_cat]) (fun o3 eo3 => ?_)
      show G Γ cvI 7 0 0 24 [(0, va_rf a0), (1, va_rf a1), (2, .int x2), (3, .int x3), (4, .int x4)] [.int o3.1] o3.2 _
      refine g_istore C (i := 5) (lv2 := [(5, .int o3.1), (0, va_rf a0), (1, va_rf a1), (2, .int x2), (3, .int x3), (4, .int x4)]) dX9_isPlan_24 (by decide) (by first | rfl | simp [va_rf_cat, vi_cat, vl_cat]) ?_
      refine g_aload_n C dX9_isPlan_26 rfl 2 rfl ?_
      refine g_iload_n C dX9_isPlan_27 rfl 3 rfl ?_
      refine g_iconst C (v := (2 : Int32)) dX9_isPlan_28 (by decide) ?_
      refine g_iload C dX9_isPlan_29 5 rfl ?_
      refine g_imul C dX9_isPlan_31 ?_
      refine g_iadd C dX9_isPlan_32 ?_
      refine g_iconst C (v := (1 : Int32)) dX9_isPlan_33 (by decide) ?_
      refine g_iadd C dX9_isPlan_34 ?_
      refine g_callV C (n := 1) (ci := 5) [.int ((x2 + ((2 : Int32) * x4)) + (1 : Int32))] [] (m_X5_item a1 ((x2 + ((2 : Int32) * x4)) + (1 : Int32)) o3.2) dX9_isPlan_35 gX9_isPlan_X5_item rfl ⟨rfl, rfl⟩ (by decide +kernel) ⟨by decide, by decide⟩ ⟨by decide, by decide⟩ rfl (by decide) rfl rfl (by first | exact Nat.le_of_ble_eq_true rfl | simp [va_rf_cat, vi_cat, vl_cat]) (fun o4 eo4 => ?_)
      show G Γ cvI 7 0 0 38 [(5, .int o3.1), (0, va_rf a0), (1, va_rf a1), (2, .int x2), (3, .int x3), (4, .int x4)] [.int o4.1] o4.2 _
      refine g_istore C (i := 6) (lv2 := [(6, .int o4.1), (5, .int o3.1), (0, va_rf a0), (1, va_rf a1), (2, .int x2), (3, .int x3), (4, .int x4)]) dX9_isPlan_38 (by decide) (by first | rfl | simp [va_rf_cat, vi_cat, vl_cat]) ?_
      refine g_iload C dX9_isPlan_40 1 rfl ?_
      refine g_iconst C (v := (0 : Int32)) dX9_isPlan_42 (by decide) ?_
      refine g_aload_n C dX9_isPlan_43 rfl 2 rfl ?_
      refine g_getI C (ci := 8) (k := 3) dX9_isPlan_44 rfl (by decide) (by decide) (by decide) ulX9_isPlan_X9 flX9_isPlan_24 rfl (fun v5 ev5 => ?_)
      refine g_iconst C (v := (1 : Int32)) dX9_isPlan_47 (by decide) ?_
      refine g_isub C dX9_isPlan_48 ?_
      refine g_callSN C (n := 3) (host := "LightLines") [.int o3.1, .int (0 : Int32), .int (v5 - (1 : Int32))] [] (m_X11_isWithin o3.1 (0 : Int32) (v5 - (1 : Int32)) o4.2) dX9_isPlan_49 gX9_isPlan_X11_isWithin_n39 (by decide +kernel) (by decide +kernel) (by decide +kernel) rfl ⟨rfl, rfl⟩ (by decide +kernel) ⟨by decide, by decide⟩ ⟨by decide, by decide⟩ rfl rfl (by first | exact Nat.le_of_ble_eq_true rfl | simp [va_rf_cat, vi_cat, vl_cat]) (fun o6 eo6 => ?_)
      show G Γ cvI 7 0 0 52 [(6, .int o4.1), (5, .int o3.1), (0, va_rf a0), (1, va_rf a1), (2, .int x2), (3, .int x3), (4, .int x4)] [.int o6.1] o6.2 _
      refine g_if_eq C (tgt := 74) dX9_isPlan_52 (by decide) (fun h7 => ?_) (fun h7 => ?_)
      · refine g_iconst C (v := (0 : Int32)) dX9_isPlan_74 (by decide) ?_
        exact g_zret C dX9_isPlan_75 ⟨by decide, by decide⟩
      · refine g_iload C dX9_isPlan_55 0 rfl ?_
        refine g_iconst C (v := (0 : Int32)) dX9_isPlan_57 (by decide) ?_
        refine g_iconst C (v := (1 : Int32)) dX9_isPlan_58 (by decide) ?_
        refine g_callSN C (n := 3) (host := "LightLines") [.int o4.1, .int (0 : Int32), .int (1 : Int32)] [] (m_X11_isWithin o4.1 (0 : Int32) (1 : Int32) o6.2) dX9_isPlan_59 gX9_isPlan_X11_isWithin_n39 (by decide +kernel) (by decide +kernel) (by decide +kernel) rfl ⟨rfl, rfl⟩ (by decide +kernel) ⟨by decide, by decide⟩ ⟨by decide, by decide⟩ rfl rfl (by first | exact Nat.le_of_ble_eq_true rfl | simp [va_rf_cat, vi_cat, vl_cat]) (fun o8 eo8 => ?_)
        show G Γ cvI 7 0 0 62 [(6, .int o4.1), (5, .int o3.1), (0, va_rf a0), (1, va_rf a1), (2, .int x2), (3, .int x3), (4, .int x4)] [.int o8.1] o8.2 _
        refine g_if_eq C (tgt := 74) dX9_isPlan_62 (by decide) (fun h9 => ?_) (fun h9 => ?_)
        · refine g_iconst C (v := (0 : Int32)) dX9_isPlan_74 (by decide) ?_
          exact g_zret C dX9_isPlan_75 ⟨by decide, by decide⟩
        · refine g_iload_n C dX9_isPlan_65 rfl 5 rfl ?_
          refine g_iload C dX9_isPlan_66 1 rfl ?_
          refine g_ishr C dX9_isPlan_68 ?_
          refine g_iconst C (v := (1 : Int32)) dX9_isPlan_69 (by decide) ?_
          refine g_iand C dX9_isPlan_70 ?_
          refine g_if_eq C (tgt := 76) dX9_isPlan_71 (by decide) (fun h10 => ?_) (fun h10 => ?_)
          · refine g_iload_n C dX9_isPlan_76 rfl 5 rfl ?_
            refine g_iconst C (v := (1 : Int32)) dX9_isPlan_77 (by decide) ?_
            refine g_iload C dX9_isPlan_78 1 rfl ?_
            refine g_ishl C dX9_isPlan_80 ?_
            refine g_ior C dX9_isPlan_81 ?_
            refine g_topi (fun y11 => ?_)
            refine g_istore_n C (i := 3) (lv2 := [(3, .int y11), (6, .int o4.1), (5, .int o3.1), (0, va_rf a0), (1, va_rf a1), (2, .int x2), (4, .int x4)]) dX9_isPlan_82 rfl (by decide) (by first | rfl | simp [va_rf_cat, vi_cat, vl_cat]) ?_
            refine g_iinc1 C dX9_isPlan_83 6 rfl (by decide) (by decide) (fun y12 => ?_)
            refine g_lveq (lv2 := [(4, .int y12), (3, .int y11), (6, .int o4.1), (5, .int o3.1), (0, va_rf a0), (1, va_rf a1), (2, .int x2)]) (by first | rfl | simp [va_rf_cat, vi_cat, vl_cat]) ?_
            refine g_goto C (tgt := 5) dX9_isPlan_86 (by decide) ?_
            exact g_sub (lv2 := [(0, va_rf a0), (1, va_rf a1), (2, .int x2), (3, .int y11), (4, .int y12)]) [4, 5, 6, 1, 0] rfl (ih a0 a1 x2 y11 y12 o8.2)
          · refine g_iconst C (v := (0 : Int32)) dX9_isPlan_74 (by decide) ?_
            exact g_zret C dX9_isPlan_75 ⟨by decide, by decide⟩
set_option maxHeartbeats 4000000 in
set_option maxRecDepth 100000 in
theorem m_X9_isPlan (a0 : Option Nat) (a1 : Option Nat) (x2 : Int32) (S : St) : ∀ l D cy H0 o, f_X9_isPlan a0 a1 x2 S = some o → Met l yX9_isPlan wsX9_isPlan rmX9_isPlan (Pq D cy H0 [va_rf a0, va_rf a1, .int x2] S) (Qx D cy H0 (cvI o)) 0 0 (fun q => H0.size ≤ q) := by
  refine met_of (cc := cX9_isPlan) (maxL := 7) (ret := (some .boolean)) [va_rf a0, va_rf a1, .int x2] [(0, va_rf a0), (1, va_rf a1), (2, .int x2)] (by decide) rfl rfl (by simp [lg_sl, va_rf_cat, vi_cat, vl_cat]) (by simp [lv_args, va_rf_cat, vi_cat, vl_cat]) (fun Γ C => ?_)
  unfold f_X9_isPlan
  refine g_iconst C (v := (0 : Int32)) dX9_isPlan_0 (by decide) ?_
  refine g_istore_n C (i := 3) (lv2 := [(3, .int (0 : Int32)), (0, va_rf a0), (1, va_rf a1), (2, .int x2)]) dX9_isPlan_1 rfl (by decide) (by first | rfl | simp [va_rf_cat, vi_cat, vl_cat]) ?_
  refine g_iconst C (v := (0 : Int32)) dX9_isPlan_2 (by decide) ?_
  refine g_istore C (i := 4) (lv2 := [(4, .int (0 : Int32)), (3, .int (0 : Int32)), (0, va_rf a0), (1, va_rf a1), (2, .int x2)]) dX9_isPlan_3 (by decide) (by first | rfl | simp [va_rf_cat, vi_cat, vl_cat]) ?_
  exact g_sub (lv2 := [(0, va_rf a0), (1, va_rf a1), (2, .int x2), (3, .int (0 : Int32)), (4, .int (0 : Int32))]) [2, 3, 4, 1, 0] rfl (t_X9_isPlan_5 C FU a0 a1 x2 (0 : Int32) (0 : Int32) S)
abbrev rmX9_darkWay : Room := { frames := 2, cells := 0, slots := 0, locals := 47 }
theorem flX9_darkWay_17 : Cond.fieldLink RX9 17 "LightLines$Strokes" "order" "[I" ∈ wsX9_darkWay := by decide +kernel
theorem flX9_darkWay_21 : Cond.fieldLink RX9 21 "LightLines$Strokes" "directions" "[I" ∈ wsX9_darkWay := by decide +kernel
theorem flX9_darkWay_24 : Cond.fieldLink RX9 24 "LightLines$Strokes" "held" "I" ∈ wsX9_darkWay := by decide +kernel
set_option maxRecDepth 100000 in
theorem ulX9_darkWay_X9 : ∀ w ∈ u_ws RX9 TX9 4, w ∈ wsX9_darkWay := by decide +kernel
set_option maxHeartbeats 4000000 in
set_option maxRecDepth 100000 in
theorem t_X9_darkWay_110 {Γ : Cx} (C : CF Γ cX9_darkWay 8 (some .int) wsX9_darkWay RX9 rmX9_darkWay 0 0) (rc9 : Option Nat → Int32 → Int32 → Int32 → Int32 → St → Option (Int32 × St)) (hrc9 : ∀ (a0 : Option Nat) (x1 : Int32) (x2 : Int32) (x3 : Int32) (x4 : Int32) (S : St), G Γ cvI 8 0 0 9 [(0, va_rf a0), (1, .int x1), (2, .int x2), (3, .int x3), (4, .int x4)] [] S (rc9 a0 x1 x2 x3 x4 S)) (a0 : Option Nat) (x1 : Int32) (x2 : Int32) (x3 : Int32) (x4 : Int32) (S : St) : G Γ cvI 8 0 0 110 [(0, va_rf a0), (1, .int x1), (2, .int x2), (3, .int x3), (4, .int x4)] [] S (b_X9_darkWay_110 rc9 a0 x1 x2 x3 x4 S) := by
  unfold b_X9_darkWay_110
  refine g_iinc1 C dX9_darkWay_110 4 rfl (by decide) (by decide) (fun y1 => ?_)
  refine g_lveq (lv2 := [(4, .int y1), (0, va_rf a0), (1, .int x1), (2, .int x2), (3, .int x3)]) (by first | rfl | simp [va_rf_cat, vi_cat, vl_cat]) ?_
  refine g_goto C (tgt := 9) dX9_darkWay_113 (by decide) ?_
  exact g_sub (lv2 := [(0, va_rf a0), (1, .int x1), (2, .int x2), (3, .int x3), (4, .int y1)]) [1, 2, 3, 4, 0] rfl (hrc9 a0 x1 x2 x3 y1 S)
set_option maxHeartbeats 4000000 in
set_option maxRecDepth 100000 in
theorem t_X9_darkWay_116 {Γ : Cx} (C : CF Γ cX9_darkWay 8 (some .int) wsX9_darkWay RX9 rmX9_darkWay 0 0) (x1 : Int32) (x2 : Int32) (x3 : Int32) (S : St) : G Γ cvI 8 0 0 116 [(1, .int x1), (2, .int x2), (3, .int x3)] [] S (b_X9_darkWay_116  x1 x2 x3 S) := by
  unfold b_X9_darkWay_116
  refine g_iload_n C dX9_darkWay_116 rfl 0 rfl ?_
  refine g_iload_n C dX9_darkWay_117 rfl 1 rfl ?_
  refine g_iload_n C dX9_darkWay_118 rfl 2 rfl ?_
  refine g_iconst C (v := (0 : Int32)) dX9_darkWay_119 (by decide) ?_
  refine g_iconst C (v := (0 : Int32)) dX9_darkWay_120 (by decide) ?_
  refine g_callSN C (n := 4) (host := "LightLines") [.int x2, .int x3, .int (0 : Int32), .int (0 : Int32)] [.int x1] (m_X11_way x2 x3 (0 : Int32) (0 : Int32) S) dX9_darkWay_121 gX9_darkWay_X11_way_n61 (by decide +kernel) (by decide +kernel) (by decide +kernel) rfl ⟨rfl, rfl⟩ (by decide +kernel) ⟨by decide, by decide⟩ ⟨by decide, by decide⟩ rfl rfl (by first | exact Nat.le_of_ble_eq_true rfl | simp [va_rf_cat, vi_cat, vl_cat]) (fun o1 eo1 => ?_)
  show G Γ cvI 8 0 0 124 [(1, .int x1), (2, .int x2), (3, .int x3)] [.int o1.1, .int x1] o1.2 _
  refine g_iadd C dX9_darkWay_124 ?_
  exact g_iret C dX9_darkWay_125 ⟨by decide, by decide⟩
set_option maxHeartbeats 4000000 in
set_option maxRecDepth 100000 in
theorem t_X9_darkWay_9 {Γ : Cx} (C : CF Γ cX9_darkWay 8 (some .int) wsX9_darkWay RX9 rmX9_darkWay 0 0) : ∀ (n : Nat) (a0 : Option Nat) (x1 : Int32) (x2 : Int32) (x3 : Int32) (x4 : Int32) (S : St), G Γ cvI 8 0 0 9 [(0, va_rf a0), (1, .int x1), (2, .int x2), (3, .int x3), (4, .int x4)] [] S (b_X9_darkWay_9  n a0 x1 x2 x3 x4 S) := by
  intro n
  induction n with
  | zero => intro a0 x1 x2 x3 x4 S; exact g_none
  | succ n ih =>
    intro a0 x1 x2 x3 x4 S
    rw [b_X9_darkWay_9]
    refine g_iload C dX9_darkWay_9 4 rfl ?_
    refine g_aload_n C dX9_darkWay_11 rfl 0 rfl ?_
    refine g_getI C (ci := 8) (k := 3) dX9_darkWay_12 rfl (by decide) (by decide) (by decide) ulX9_darkWay_X9 flX9_darkWay_24 rfl (fun v1 ev1 => ?_)
    refine g_icmp_ge C (tgt := 116) dX9_darkWay_15 (by decide) (fun h2 => ?_) (fun h2 => ?_)
    · exact g_sub (lv2 := [(1, .int x1), (2, .int x2), (3, .int x3)]) [1, 2, 3] rfl (t_X9_darkWay_116 C x1 x2 x3 S)
    · refine g_aload_n C dX9_darkWay_18 rfl 0 rfl ?_
      refine g_aload_n C dX9_darkWay_19 rfl 0 rfl ?_
      refine g_getR C (ci := 8) (k := 1) dX9_darkWay_20 rfl (by decide) (by decide) (by decide) ulX9_darkWay_X9 flX9_darkWay_17 rfl (fun v3 ev3 => ?_)
      refine g_iload C dX9_darkWay_23 4 rfl ?_
      refine g_ild C dX9_darkWay_25 (fun v4 ev4 => ?_)
      refine g_callV C (n := 1) (ci := 8) [.int v4] [] (m_X9_at a0 v4 S) dX9_darkWay_26 gX9_darkWay_X9_at rfl ⟨rfl, rfl⟩ (by decide +kernel) ⟨by decide, by decide⟩ ⟨by decide, by decide⟩ rfl (by decide) rfl rfl (by first | exact Nat.le_of_ble_eq_true rfl | simp [va_rf_cat, vi_cat, vl_cat]) (fun o5 eo5 => ?_)
      show G Γ cvI 8 0 0 29 [(0, va_rf a0), (1, .int x1), (2, .int x2), (3, .int x3), (4, .int x4)] [va_rf o5.1] o5.2 _
      refine g_astore C (i := 5) (lv2 := [(5, va_rf o5.1), (0, va_rf a0), (1, .int x1), (2, .int x2), (3, .int x3), (4, .int x4)]) dX9_darkWay_29 (by decide) (by first | rfl | simp [va_rf_cat, vi_cat, vl_cat]) ?_
      refine g_aload C dX9_darkWay_31 0 rfl ?_
      refine g_ifnull C (tgt := 110) dX9_darkWay_33 (by decide) (fun h6 => ?_) (fun h6 => ?_)
      · exact g_sub (lv2 := [(0, va_rf a0), (1, .int x1), (2, .int x2), (3, .int x3), (4, .int x4)]) [1, 2, 3, 4, 5] rfl (t_X9_darkWay_110 C (b_X9_darkWay_9 n) ih a0 x1 x2 x3 x4 o5.2)
      · refine g_aload C dX9_darkWay_36 0 rfl ?_
        refine g_iconst C (v := (0 : Int32)) dX9_darkWay_38 (by decide) ?_
        refine g_aload_n C dX9_darkWay_39 rfl 1 rfl ?_
        refine g_getR C (ci := 8) (k := 2) dX9_darkWay_40 rfl (by decide) (by decide) (by decide) ulX9_darkWay_X9 flX9_darkWay_21 rfl (fun v7 ev7 => ?_)
        refine g_iload C dX9_darkWay_43 5 rfl ?_
        refine g_ild C dX9_darkWay_45 (fun v8 ev8 => ?_)
        refine g_call3 C (n := 2) [.int (0 : Int32), .int v8] [] (m_X8_gone o5.1 (0 : Int32) v8 o5.2) (m_X8_gone o5.1 (0 : Int32) v8 o5.2) (m_X8_gone o5.1 (0 : Int32) v8 o5.2) dX9_darkWay_46 (fun R s args ht hR => va_cwU 2 ht gX9_darkWay_X8_gone_u47X1 rfl rfl rfl rfl (by decide +kernel) (by subst hR; exact ⟨by decide, by decide⟩)) (fun R s args ht hR => va_cwU 2 ht gX9_darkWay_X8_gone_u47X2 rfl rfl rfl rfl (by decide +kernel) (by subst hR; exact ⟨by decide, by decide⟩)) (fun R s args ht hR => va_cwU 2 ht gX9_darkWay_X8_gone_u47X7 rfl rfl rfl rfl (by decide +kernel) (by subst hR; exact ⟨by decide, by decide⟩)) ⟨by decide, by decide⟩ rfl rfl (by first | exact Nat.le_of_ble_eq_true rfl | simp [va_rf_cat, vi_cat, vl_cat]) (fun o9 eo9 => ?_)
        show G Γ cvI 8 0 0 49 [(5, va_rf o5.1), (0, va_rf a0), (1, .int x1), (2, .int x2), (3, .int x3), (4, .int x4)] [.int o9.1] o9.2 _
        refine g_istore C (i := 6) (lv2 := [(6, .int o9.1), (5, va_rf o5.1), (0, va_rf a0), (1, .int x1), (2, .int x2), (3, .int x3), (4, .int x4)]) dX9_darkWay_49 (by decide) (by first | rfl | simp [va_rf_cat, vi_cat, vl_cat]) ?_
        refine g_aload C dX9_darkWay_51 1 rfl ?_
        refine g_aload C dX9_darkWay_53 1 rfl ?_
        refine g_call3 C (n := 0) [] [va_rf o5.1] (m_X8_points o5.1 o9.2) (m_X8_points o5.1 o9.2) (m_X8_points o5.1 o9.2) dX9_darkWay_55 (fun R s args ht hR => va_cwU 0 ht gX9_darkWay_X8_points_u51X1 rfl rfl rfl rfl (by decide +kernel) (by subst hR; exact ⟨by decide, by decide⟩)) (fun R s args ht hR => va_cwU 0 ht gX9_darkWay_X8_points_u51X2 rfl rfl rfl rfl (by decide +kernel) (by subst hR; exact ⟨by decide, by decide⟩)) (fun R s args ht hR => va_cwU 0 ht gX9_darkWay_X8_points_u51X7 rfl rfl rfl rfl (by decide +kernel) (by subst hR; exact ⟨by decide, by decide⟩)) ⟨by decide, by decide⟩ rfl rfl (by first | exact Nat.le_of_ble_eq_true rfl | simp [va_rf_cat, vi_cat, vl_cat]) (fun o10 eo10 => ?_)
        show G Γ cvI 8 0 0 58 [(6, .int o9.1), (5, va_rf o5.1), (0, va_rf a0), (1, .int x1), (2, .int x2), (3, .int x3), (4, .int x4)] [.int o10.1, va_rf o5.1] o10.2 _
        refine g_iconst C (v := (1 : Int32)) dX9_darkWay_58 (by decide) ?_
        refine g_isub C dX9_darkWay_59 ?_
        refine g_aload_n C dX9_darkWay_60 rfl 2 rfl ?_
        refine g_getR C (ci := 8) (k := 2) dX9_darkWay_61 rfl (by decide) (by decide) (by decide) ulX9_darkWay_X9 flX9_darkWay_21 rfl (fun v11 ev11 => ?_)
        refine g_iload C dX9_darkWay_64 6 rfl ?_
        refine g_ild C dX9_darkWay_66 (fun v12 ev12 => ?_)
        refine g_call3 C (n := 2) [.int (o10.1 - (1 : Int32)), .int v12] [] (m_X8_gone o5.1 (o10.1 - (1 : Int32)) v12 o10.2) (m_X8_gone o5.1 (o10.1 - (1 : Int32)) v12 o10.2) (m_X8_gone o5.1 (o10.1 - (1 : Int32)) v12 o10.2) dX9_darkWay_67 (fun R s args ht hR => va_cwU 2 ht gX9_darkWay_X8_gone_u47X1 rfl rfl rfl rfl (by decide +kernel) (by subst hR; exact ⟨by decide, by decide⟩)) (fun R s args ht hR => va_cwU 2 ht gX9_darkWay_X8_gone_u47X2 rfl rfl rfl rfl (by decide +kernel) (by subst hR; exact ⟨by decide, by decide⟩)) (fun R s args ht hR => va_cwU 2 ht gX9_darkWay_X8_gone_u47X7 rfl rfl rfl rfl (by decide +kernel) (by subst hR; exact ⟨by decide, by decide⟩)) ⟨by decide, by decide⟩ rfl rfl (by first | exact Nat.le_of_ble_eq_true rfl | simp [va_rf_cat, vi_cat, vl_cat]) (fun o13 eo13 => ?_)
        show G Γ cvI 8 0 0 70 [(6, .int o9.1), (5, va_rf o5.1), (0, va_rf a0), (1, .int x1), (2, .int x2), (3, .int x3), (4, .int x4)] [.int o13.1] o13.2 _
        refine g_istore C (i := 7) (lv2 := [(7, .int o13.1), (6, .int o9.1), (5, va_rf o5.1), (0, va_rf a0), (1, .int x1), (2, .int x2), (3, .int x3), (4, .int x4)]) dX9_darkWay_70 (by decide) (by first | rfl | simp [va_rf_cat, vi_cat, vl_cat]) ?_
        refine g_iload_n C dX9_darkWay_72 rfl 4 rfl ?_
        refine g_iload_n C dX9_darkWay_73 rfl 5 rfl ?_
        refine g_iload_n C dX9_darkWay_74 rfl 6 rfl ?_
        refine g_aload C dX9_darkWay_75 2 rfl ?_
        refine g_iload C dX9_darkWay_77 1 rfl ?_
        refine g_call3 C (n := 1) [.int o9.1] [.int x3, .int x2, .int x1] (m_X8_xAt o5.1 o9.1 o13.2) (m_X8_xAt o5.1 o9.1 o13.2) (m_X8_xAt o5.1 o9.1 o13.2) dX9_darkWay_79 (fun R s args ht hR => va_cwU 1 ht gX9_darkWay_X8_xAt_u55X1 rfl rfl rfl rfl (by decide +kernel) (by subst hR; exact ⟨by decide, by decide⟩)) (fun R s args ht hR => va_cwU 1 ht gX9_darkWay_X8_xAt_u55X2 rfl rfl rfl rfl (by decide +kernel) (by subst hR; exact ⟨by decide, by decide⟩)) (fun R s args ht hR => va_cwU 1 ht gX9_darkWay_X8_xAt_u55X7 rfl rfl rfl rfl (by decide +kernel) (by subst hR; exact ⟨by decide, by decide⟩)) ⟨by decide, by decide⟩ rfl rfl (by first | exact Nat.le_of_ble_eq_true rfl | simp [va_rf_cat, vi_cat, vl_cat]) (fun o14 eo14 => ?_)
        show G Γ cvI 8 0 0 82 [(7, .int o13.1), (6, .int o9.1), (5, va_rf o5.1), (0, va_rf a0), (1, .int x1), (2, .int x2), (3, .int x3), (4, .int x4)] [.int o14.1, .int x3, .int x2, .int x1] o14.2 _
        refine g_aload C dX9_darkWay_82 2 rfl ?_
        refine g_iload C dX9_darkWay_84 1 rfl ?_
        refine g_call3 C (n := 1) [.int o9.1] [.int o14.1, .int x3, .int x2, .int x1] (m_X8_yAt o5.1 o9.1 o14.2) (m_X8_yAt o5.1 o9.1 o14.2) (m_X8_yAt o5.1 o9.1 o14.2) dX9_darkWay_86 (fun R s args ht hR => va_cwU 1 ht gX9_darkWay_X8_yAt_u58X1 rfl rfl rfl rfl (by decide +kernel) (by subst hR; exact ⟨by decide, by decide⟩)) (fun R s args ht hR => va_cwU 1 ht gX9_darkWay_X8_yAt_u58X2 rfl rfl rfl rfl (by decide +kernel) (by subst hR; exact ⟨by decide, by decide⟩)) (fun R s args ht hR => va_cwU 1 ht gX9_darkWay_X8_yAt_u58X7 rfl rfl rfl rfl (by decide +kernel) (by subst hR; exact ⟨by decide, by decide⟩)) ⟨by decide, by decide⟩ rfl rfl (by first | exact Nat.le_of_ble_eq_true rfl | simp [va_rf_cat, vi_cat, vl_cat]) (fun o15 eo15 => ?_)
        show G Γ cvI 8 0 0 89 [(7, .int o13.1), (6, .int o9.1), (5, va_rf o5.1), (0, va_rf a0), (1, .int x1), (2, .int x2), (3, .int x3), (4, .int x4)] [.int o15.1, .int o14.1, .int x3, .int x2, .int x1] o15.2 _
        refine g_callSN C (n := 4) (host := "LightLines") [.int x2, .int x3, .int o14.1, .int o15.1] [.int x1] (m_X11_way x2 x3 o14.1 o15.1 o15.2) dX9_darkWay_89 gX9_darkWay_X11_way_n61 (by decide +kernel) (by decide +kernel) (by decide +kernel) rfl ⟨rfl, rfl⟩ (by decide +kernel) ⟨by decide, by decide⟩ ⟨by decide, by decide⟩ rfl rfl (by first | exact Nat.le_of_ble_eq_true rfl | simp [va_rf_cat, vi_cat, vl_cat]) (fun o16 eo16 => ?_)
        show G Γ cvI 8 0 0 92 [(7, .int o13.1), (6, .int o9.1), (5, va_rf o5.1), (0, va_rf a0), (1, .int x1), (2, .int x2), (3, .int x3), (4, .int x4)] [.int o16.1, .int x1] o16.2 _
        refine g_iadd C dX9_darkWay_92 ?_
        refine g_topi (fun y17 => ?_)
        refine g_istore_n C (i := 1) (lv2 := [(1, .int y17), (7, .int o13.1), (6, .int o9.1), (5, va_rf o5.1), (0, va_rf a0), (2, .int x2), (3, .int x3), (4, .int x4)]) dX9_darkWay_93 rfl (by decide) (by first | rfl | simp [va_rf_cat, vi_cat, vl_cat]) ?_
        refine g_aload C dX9_darkWay_94 3 rfl ?_
        refine g_iload C dX9_darkWay_96 1 rfl ?_
        refine g_call3 C (n := 1) [.int o13.1] [] (m_X8_xAt o5.1 o13.1 o16.2) (m_X8_xAt o5.1 o13.1 o16.2) (m_X8_xAt o5.1 o13.1 o16.2) dX9_darkWay_98 (fun R s args ht hR => va_cwU 1 ht gX9_darkWay_X8_xAt_u55X1 rfl rfl rfl rfl (by decide +kernel) (by subst hR; exact ⟨by decide, by decide⟩)) (fun R s args ht hR => va_cwU 1 ht gX9_darkWay_X8_xAt_u55X2 rfl rfl rfl rfl (by decide +kernel) (by subst hR; exact ⟨by decide, by decide⟩)) (fun R s args ht hR => va_cwU 1 ht gX9_darkWay_X8_xAt_u55X7 rfl rfl rfl rfl (by decide +kernel) (by subst hR; exact ⟨by decide, by decide⟩)) ⟨by decide, by decide⟩ rfl rfl (by first | exact Nat.le_of_ble_eq_true rfl | simp [va_rf_cat, vi_cat, vl_cat]) (fun o18 eo18 => ?_)
        show G Γ cvI 8 0 0 101 [(1, .int y17), (7, .int o13.1), (6, .int o9.1), (5, va_rf o5.1), (0, va_rf a0), (2, .int x2), (3, .int x3), (4, .int x4)] [.int o18.1] o18.2 _
        refine g_istore_n C (i := 2) (lv2 := [(2, .int o18.1), (1, .int y17), (7, .int o13.1), (6, .int o9.1), (5, va_rf o5.1), (0, va_rf a0), (3, .int x3), (4, .int x4)]) dX9_darkWay_101 rfl (by decide) (by first | rfl | simp [va_rf_cat, vi_cat, vl_cat]) ?_
        refine g_aload C dX9_darkWay_102 4 rfl ?_
        refine g_iload C dX9_darkWay_104 2 rfl ?_
        refine g_call3 C (n := 1) [.int o13.1] [] (m_X8_yAt o5.1 o13.1 o18.2) (m_X8_yAt o5.1 o13.1 o18.2) (m_X8_yAt o5.1 o13.1 o18.2) dX9_darkWay_106 (fun R s args ht hR => va_cwU 1 ht gX9_darkWay_X8_yAt_u58X1 rfl rfl rfl rfl (by decide +kernel) (by subst hR; exact ⟨by decide, by decide⟩)) (fun R s args ht hR => va_cwU 1 ht gX9_darkWay_X8_yAt_u58X2 rfl rfl rfl rfl (by decide +kernel) (by subst hR; exact ⟨by decide, by decide⟩)) (fun R s args ht hR => va_cwU 1 ht gX9_darkWay_X8_yAt_u58X7 rfl rfl rfl rfl (by decide +kernel) (by subst hR; exact ⟨by decide, by decide⟩)) ⟨by decide, by decide⟩ rfl rfl (by first | exact Nat.le_of_ble_eq_true rfl | simp [va_rf_cat, vi_cat, vl_cat]) (fun o19 eo19 => ?_)
        show G Γ cvI 8 0 0 109 [(2, .int o18.1), (1, .int y17), (7, .int o13.1), (6, .int o9.1), (5, va_rf o5.1), (0, va_rf a0), (3, .int x3), (4, .int x4)] [.int o19.1] o19.2 _
        refine g_istore_n C (i := 3) (lv2 := [(3, .int o19.1), (2, .int o18.1), (1, .int y17), (7, .int o13.1), (6, .int o9.1), (5, va_rf o5.1), (0, va_rf a0), (4, .int x4)]) dX9_darkWay_109 rfl (by decide) (by first | rfl | simp [va_rf_cat, vi_cat, vl_cat]) ?_
        exact g_sub (lv2 := [(0, va_rf a0), (1, .int y17), (2, .int o18.1), (3, .int o19.1), (4, .int x4)]) [6, 2, 1, 0, 7] rfl (t_X9_darkWay_110 C (b_X9_darkWay_9 n) ih a0 y17 o18.1 o19.1 x4 o19.2)
set_option maxHeartbeats 4000000 in
set_option maxRecDepth 100000 in
theorem m_X9_darkWay (a0 : Option Nat) (S : St) : ∀ l D cy H0 o, f_X9_darkWay a0 S = some o → Met l yX9_darkWay wsX9_darkWay rmX9_darkWay (Pq D cy H0 [va_rf a0] S) (Qx D cy H0 (cvI o)) 0 0 (fun q => H0.size ≤ q) := by
  refine met_of (cc := cX9_darkWay) (maxL := 8) (ret := (some .int)) [va_rf a0] [(0, va_rf a0)] (by decide) rfl rfl (by simp [lg_sl, va_rf_cat, vi_cat, vl_cat]) (by simp [lv_args, va_rf_cat, vi_cat, vl_cat]) (fun Γ C => ?_)
  unfold f_X9_darkWay
  refine g_iconst C (v := (0 : Int32)) dX9_darkWay_0 (by decide) ?_
  refine g_istore_n C (i := 1) (lv2 := [(1, .int (0 : Int32)), (0, va_rf a0)]) dX9_darkWay_1 rfl (by decide) (by first | rfl | simp [va_rf_cat, vi_cat, vl_cat]) ?_
  refine g_iconst C (v := (0 : Int32)) dX9_darkWay_2 (by decide) ?_
  refine g_istore_n C (i := 2) (lv2 := [(2, .int (0 : Int32)), (1, .int (0 : Int32)), (0, va_rf a0)]) dX9_darkWay_3 rfl (by decide) (by first | rfl | simp [va_rf_cat, vi_cat, vl_cat]) ?_
  refine g_iconst C (v := (0 : Int32)) dX9_darkWay_4 (by decide) ?_
  refine g_istore_n C (i := 3) (lv2 := [(3, .int (0 : Int32)), (2, .int (0 : Int32)), (1, .int (0 : Int32)), (0, va_rf a0)]) dX9_darkWay_5 rfl (by decide) (by first | rfl | simp [va_rf_cat, vi_cat, vl_cat]) ?_
  refine g_iconst C (v := (0 : Int32)) dX9_darkWay_6 (by decide) ?_
  refine g_istore C (i := 4) (lv2 := [(4, .int (0 : Int32)), (3, .int (0 : Int32)), (2, .int (0 : Int32)), (1, .int (0 : Int32)), (0, va_rf a0)]) dX9_darkWay_7 (by decide) (by first | rfl | simp [va_rf_cat, vi_cat, vl_cat]) ?_
  exact g_sub (lv2 := [(0, va_rf a0), (1, .int (0 : Int32)), (2, .int (0 : Int32)), (3, .int (0 : Int32)), (4, .int (0 : Int32))]) [4, 3, 2, 1, 0] rfl (t_X9_darkWay_9 C FU a0 (0 : Int32) (0 : Int32) (0 : Int32) (0 : Int32) S)
abbrev rmX9_pointsOfAll : Room := { frames := 1, cells := 0, slots := 0, locals := 21 }
theorem flX9_pointsOfAll_24 : Cond.fieldLink RX9 24 "LightLines$Strokes" "held" "I" ∈ wsX9_pointsOfAll := by decide +kernel
set_option maxRecDepth 100000 in
theorem ulX9_pointsOfAll_X9 : ∀ w ∈ u_ws RX9 TX9 4, w ∈ wsX9_pointsOfAll := by decide +kernel
set_option maxHeartbeats 4000000 in
set_option maxRecDepth 100000 in
theorem t_X9_pointsOfAll_31 {Γ : Cx} (C : CF Γ cX9_pointsOfAll 4 (some .int) wsX9_pointsOfAll RX9 rmX9_pointsOfAll 0 0) (rc4 : Option Nat → Int32 → Int32 → St → Option (Int32 × St)) (hrc4 : ∀ (a0 : Option Nat) (x1 : Int32) (x2 : Int32) (S : St), G Γ cvI 4 0 0 4 [(0, va_rf a0), (1, .int x1), (2, .int x2)] [] S (rc4 a0 x1 x2 S)) (a0 : Option Nat) (x2 : Int32) (s0 : Int32) (s1 : Int32) (S : St) : G Γ cvI 4 0 0 31 [(0, va_rf a0), (2, .int x2)] [.int s1, .int s0] S (b_X9_pointsOfAll_31 rc4 a0 x2 s0 s1 S) := by
  unfold b_X9_pointsOfAll_31
  refine g_iadd C dX9_pointsOfAll_31 ?_
  refine g_topi (fun y1 => ?_)
  refine g_istore_n C (i := 1) (lv2 := [(1, .int y1), (0, va_rf a0), (2, .int x2)]) dX9_pointsOfAll_32 rfl (by decide) (by first | rfl | simp [va_rf_cat, vi_cat, vl_cat]) ?_
  refine g_iinc1 C dX9_pointsOfAll_33 2 rfl (by decide) (by decide) (fun y2 => ?_)
  refine g_lveq (lv2 := [(2, .int y2), (1, .int y1), (0, va_rf a0)]) (by first | rfl | simp [va_rf_cat, vi_cat, vl_cat]) ?_
  refine g_goto C (tgt := 4) dX9_pointsOfAll_36 (by decide) ?_
  exact g_sub (lv2 := [(0, va_rf a0), (1, .int y1), (2, .int y2)]) [2, 1, 0] rfl (hrc4 a0 y1 y2 S)
set_option maxHeartbeats 4000000 in
set_option maxRecDepth 100000 in
theorem t_X9_pointsOfAll_39 {Γ : Cx} (C : CF Γ cX9_pointsOfAll 4 (some .int) wsX9_pointsOfAll RX9 rmX9_pointsOfAll 0 0) (x1 : Int32) (S : St) : G Γ cvI 4 0 0 39 [(1, .int x1)] [] S (b_X9_pointsOfAll_39  x1 S) := by
  unfold b_X9_pointsOfAll_39
  refine g_iload_n C dX9_pointsOfAll_39 rfl 0 rfl ?_
  exact g_iret C dX9_pointsOfAll_40 ⟨by decide, by decide⟩
set_option maxHeartbeats 4000000 in
set_option maxRecDepth 100000 in
theorem t_X9_pointsOfAll_4 {Γ : Cx} (C : CF Γ cX9_pointsOfAll 4 (some .int) wsX9_pointsOfAll RX9 rmX9_pointsOfAll 0 0) : ∀ (n : Nat) (a0 : Option Nat) (x1 : Int32) (x2 : Int32) (S : St), G Γ cvI 4 0 0 4 [(0, va_rf a0), (1, .int x1), (2, .int x2)] [] S (b_X9_pointsOfAll_4  n a0 x1 x2 S) := by
  intro n
  induction n with
  | zero => intro a0 x1 x2 S; exact g_none
  | succ n ih =>
    intro a0 x1 x2 S
    rw [b_X9_pointsOfAll_4]
    refine g_iload_n C dX9_pointsOfAll_4 rfl 2 rfl ?_
    refine g_aload_n C dX9_pointsOfAll_5 rfl 0 rfl ?_
    refine g_getI C (ci := 8) (k := 3) dX9_pointsOfAll_6 rfl (by decide) (by decide) (by decide) ulX9_pointsOfAll_X9 flX9_pointsOfAll_24 rfl (fun v1 ev1 => ?_)
    refine g_icmp_ge C (tgt := 39) dX9_pointsOfAll_9 (by decide) (fun h2 => ?_) (fun h2 => ?_)
    · exact g_sub (lv2 := [(1, .int x1)]) [1] rfl (t_X9_pointsOfAll_39 C x1 S)
    · refine g_aload_n C dX9_pointsOfAll_12 rfl 0 rfl ?_
      refine g_iload_n C dX9_pointsOfAll_13 rfl 2 rfl ?_
      refine g_callV C (n := 1) (ci := 8) [.int x2] [] (m_X9_at a0 x2 S) dX9_pointsOfAll_14 gX9_pointsOfAll_X9_at rfl ⟨rfl, rfl⟩ (by decide +kernel) ⟨by decide, by decide⟩ ⟨by decide, by decide⟩ rfl (by decide) rfl rfl (by first | exact Nat.le_of_ble_eq_true rfl | simp [va_rf_cat, vi_cat, vl_cat]) (fun o3 eo3 => ?_)
      show G Γ cvI 4 0 0 17 [(0, va_rf a0), (1, .int x1), (2, .int x2)] [va_rf o3.1] o3.2 _
      refine g_astore_n C (i := 3) (lv2 := [(3, va_rf o3.1), (0, va_rf a0), (1, .int x1), (2, .int x2)]) dX9_pointsOfAll_17 rfl (by decide) (by first | rfl | simp [va_rf_cat, vi_cat, vl_cat]) ?_
      refine g_iload_n C dX9_pointsOfAll_18 rfl 2 rfl ?_
      refine g_aload_n C dX9_pointsOfAll_19 rfl 0 rfl ?_
      refine g_ifnonnull C (tgt := 27) dX9_pointsOfAll_20 (by decide) (fun h4 => ?_) (fun h4 => ?_)
      · refine g_iconst C (v := (0 : Int32)) dX9_pointsOfAll_23 (by decide) ?_
        refine g_goto C (tgt := 31) dX9_pointsOfAll_24 (by decide) ?_
        exact g_sub (lv2 := [(0, va_rf a0), (2, .int x2)]) [1, 3] rfl (t_X9_pointsOfAll_31 C (b_X9_pointsOfAll_4 n) ih a0 x2 x1 (0 : Int32) o3.2)
      · refine g_aload_n C dX9_pointsOfAll_27 rfl 0 rfl ?_
        refine g_call3 C (n := 0) [] [.int x1] (m_X8_points o3.1 o3.2) (m_X8_points o3.1 o3.2) (m_X8_points o3.1 o3.2) dX9_pointsOfAll_28 (fun R s args ht hR => va_cwU 0 ht gX9_pointsOfAll_X8_points_u51X1 rfl rfl rfl rfl (by decide +kernel) (by subst hR; exact ⟨by decide, by decide⟩)) (fun R s args ht hR => va_cwU 0 ht gX9_pointsOfAll_X8_points_u51X2 rfl rfl rfl rfl (by decide +kernel) (by subst hR; exact ⟨by decide, by decide⟩)) (fun R s args ht hR => va_cwU 0 ht gX9_pointsOfAll_X8_points_u51X7 rfl rfl rfl rfl (by decide +kernel) (by subst hR; exact ⟨by decide, by decide⟩)) ⟨by decide, by decide⟩ rfl rfl (by first | exact Nat.le_of_ble_eq_true rfl | simp [va_rf_cat, vi_cat, vl_cat]) (fun o5 eo5 => ?_)
        show G Γ cvI 4 0 0 31 [(3, va_rf o3.1), (0, va_rf a0), (1, .int x1), (2, .int x2)] [.int o5.1, .int x1] o5.2 _
        exact g_sub (lv2 := [(0, va_rf a0), (2, .int x2)]) [1, 3] rfl (t_X9_pointsOfAll_31 C (b_X9_pointsOfAll_4 n) ih a0 x2 x1 o5.1 o5.2)
set_option maxHeartbeats 4000000 in
set_option maxRecDepth 100000 in
theorem m_X9_pointsOfAll (a0 : Option Nat) (S : St) : ∀ l D cy H0 o, f_X9_pointsOfAll a0 S = some o → Met l yX9_pointsOfAll wsX9_pointsOfAll rmX9_pointsOfAll (Pq D cy H0 [va_rf a0] S) (Qx D cy H0 (cvI o)) 0 0 (fun q => H0.size ≤ q) := by
  refine met_of (cc := cX9_pointsOfAll) (maxL := 4) (ret := (some .int)) [va_rf a0] [(0, va_rf a0)] (by decide) rfl rfl (by simp [lg_sl, va_rf_cat, vi_cat, vl_cat]) (by simp [lv_args, va_rf_cat, vi_cat, vl_cat]) (fun Γ C => ?_)
  unfold f_X9_pointsOfAll
  refine g_iconst C (v := (0 : Int32)) dX9_pointsOfAll_0 (by decide) ?_
  refine g_istore_n C (i := 1) (lv2 := [(1, .int (0 : Int32)), (0, va_rf a0)]) dX9_pointsOfAll_1 rfl (by decide) (by first | rfl | simp [va_rf_cat, vi_cat, vl_cat]) ?_
  refine g_iconst C (v := (0 : Int32)) dX9_pointsOfAll_2 (by decide) ?_
  refine g_istore_n C (i := 2) (lv2 := [(2, .int (0 : Int32)), (1, .int (0 : Int32)), (0, va_rf a0)]) dX9_pointsOfAll_3 rfl (by decide) (by first | rfl | simp [va_rf_cat, vi_cat, vl_cat]) ?_
  exact g_sub (lv2 := [(0, va_rf a0), (1, .int (0 : Int32)), (2, .int (0 : Int32))]) [2, 1, 0] rfl (t_X9_pointsOfAll_4 C FU a0 (0 : Int32) (0 : Int32) S)
abbrev rmX9_loops : Room := { frames := 1, cells := 0, slots := 0, locals := 21 }
theorem flX9_loops_24 : Cond.fieldLink RX9 24 "LightLines$Strokes" "held" "I" ∈ wsX9_loops := by decide +kernel
set_option maxRecDepth 100000 in
theorem ulX9_loops_X9 : ∀ w ∈ u_ws RX9 TX9 4, w ∈ wsX9_loops := by decide +kernel
set_option maxHeartbeats 4000000 in
set_option maxRecDepth 100000 in
theorem t_X9_loops_29 {Γ : Cx} (C : CF Γ cX9_loops 3 (some .int) wsX9_loops RX9 rmX9_loops 0 0) (rc4 : Option Nat → Int32 → Int32 → St → Option (Int32 × St)) (hrc4 : ∀ (a0 : Option Nat) (x1 : Int32) (x2 : Int32) (S : St), G Γ cvI 3 0 0 4 [(0, va_rf a0), (1, .int x1), (2, .int x2)] [] S (rc4 a0 x1 x2 S)) (a0 : Option Nat) (x2 : Int32) (s0 : Int32) (s1 : Int32) (S : St) : G Γ cvI 3 0 0 29 [(0, va_rf a0), (2, .int x2)] [.int s1, .int s0] S (b_X9_loops_29 rc4 a0 x2 s0 s1 S) := by
  unfold b_X9_loops_29
  refine g_iadd C dX9_loops_29 ?_
  refine g_topi (fun y1 => ?_)
  refine g_istore_n C (i := 1) (lv2 := [(1, .int y1), (0, va_rf a0), (2, .int x2)]) dX9_loops_30 rfl (by decide) (by first | rfl | simp [va_rf_cat, vi_cat, vl_cat]) ?_
  refine g_iinc1 C dX9_loops_31 2 rfl (by decide) (by decide) (fun y2 => ?_)
  refine g_lveq (lv2 := [(2, .int y2), (1, .int y1), (0, va_rf a0)]) (by first | rfl | simp [va_rf_cat, vi_cat, vl_cat]) ?_
  refine g_goto C (tgt := 4) dX9_loops_34 (by decide) ?_
  exact g_sub (lv2 := [(0, va_rf a0), (1, .int y1), (2, .int y2)]) [2, 1, 0] rfl (hrc4 a0 y1 y2 S)
set_option maxHeartbeats 4000000 in
set_option maxRecDepth 100000 in
theorem t_X9_loops_37 {Γ : Cx} (C : CF Γ cX9_loops 3 (some .int) wsX9_loops RX9 rmX9_loops 0 0) (x1 : Int32) (S : St) : G Γ cvI 3 0 0 37 [(1, .int x1)] [] S (b_X9_loops_37  x1 S) := by
  unfold b_X9_loops_37
  refine g_iload_n C dX9_loops_37 rfl 0 rfl ?_
  exact g_iret C dX9_loops_38 ⟨by decide, by decide⟩
set_option maxHeartbeats 4000000 in
set_option maxRecDepth 100000 in
theorem t_X9_loops_4 {Γ : Cx} (C : CF Γ cX9_loops 3 (some .int) wsX9_loops RX9 rmX9_loops 0 0) : ∀ (n : Nat) (a0 : Option Nat) (x1 : Int32) (x2 : Int32) (S : St), G Γ cvI 3 0 0 4 [(0, va_rf a0), (1, .int x1), (2, .int x2)] [] S (b_X9_loops_4  n a0 x1 x2 S) := by
  intro n
  induction n with
  | zero => intro a0 x1 x2 S; exact g_none
  | succ n ih =>
    intro a0 x1 x2 S
    rw [b_X9_loops_4]
    refine g_iload_n C dX9_loops_4 rfl 2 rfl ?_
    refine g_aload_n C dX9_loops_5 rfl 0 rfl ?_
    refine g_getI C (ci := 8) (k := 3) dX9_loops_6 rfl (by decide) (by decide) (by decide) ulX9_loops_X9 flX9_loops_24 rfl (fun v1 ev1 => ?_)
    refine g_icmp_ge C (tgt := 37) dX9_loops_9 (by decide) (fun h2 => ?_) (fun h2 => ?_)
    · exact g_sub (lv2 := [(1, .int x1)]) [1] rfl (t_X9_loops_37 C x1 S)
    · refine g_iload_n C dX9_loops_12 rfl 1 rfl ?_
      refine g_aload_n C dX9_loops_13 rfl 0 rfl ?_
      refine g_iload_n C dX9_loops_14 rfl 2 rfl ?_
      refine g_callV C (n := 1) (ci := 8) [.int x2] [.int x1] (m_X9_at a0 x2 S) dX9_loops_15 gX9_loops_X9_at rfl ⟨rfl, rfl⟩ (by decide +kernel) ⟨by decide, by decide⟩ ⟨by decide, by decide⟩ rfl (by decide) rfl rfl (by first | exact Nat.le_of_ble_eq_true rfl | simp [va_rf_cat, vi_cat, vl_cat]) (fun o3 eo3 => ?_)
      show G Γ cvI 3 0 0 18 [(0, va_rf a0), (1, .int x1), (2, .int x2)] [va_rf o3.1, .int x1] o3.2 _
      refine g_instLoop C dX9_loops_18 (by decide +kernel) (fun v4 ev4 => ?_)
      refine g_if_eq C (tgt := 28) dX9_loops_21 (by decide) (fun h5 => ?_) (fun h5 => ?_)
      · refine g_iconst C (v := (0 : Int32)) dX9_loops_28 (by decide) ?_
        exact g_sub (lv2 := [(0, va_rf a0), (2, .int x2)]) [0, 2] rfl (t_X9_loops_29 C (b_X9_loops_4 n) ih a0 x2 x1 (0 : Int32) o3.2)
      · refine g_iconst C (v := (1 : Int32)) dX9_loops_24 (by decide) ?_
        refine g_goto C (tgt := 29) dX9_loops_25 (by decide) ?_
        exact g_sub (lv2 := [(0, va_rf a0), (2, .int x2)]) [0, 2] rfl (t_X9_loops_29 C (b_X9_loops_4 n) ih a0 x2 x1 (1 : Int32) o3.2)
set_option maxHeartbeats 4000000 in
set_option maxRecDepth 100000 in
theorem m_X9_loops (a0 : Option Nat) (S : St) : ∀ l D cy H0 o, f_X9_loops a0 S = some o → Met l yX9_loops wsX9_loops rmX9_loops (Pq D cy H0 [va_rf a0] S) (Qx D cy H0 (cvI o)) 0 0 (fun q => H0.size ≤ q) := by
  refine met_of (cc := cX9_loops) (maxL := 3) (ret := (some .int)) [va_rf a0] [(0, va_rf a0)] (by decide) rfl rfl (by simp [lg_sl, va_rf_cat, vi_cat, vl_cat]) (by simp [lv_args, va_rf_cat, vi_cat, vl_cat]) (fun Γ C => ?_)
  unfold f_X9_loops
  refine g_iconst C (v := (0 : Int32)) dX9_loops_0 (by decide) ?_
  refine g_istore_n C (i := 1) (lv2 := [(1, .int (0 : Int32)), (0, va_rf a0)]) dX9_loops_1 rfl (by decide) (by first | rfl | simp [va_rf_cat, vi_cat, vl_cat]) ?_
  refine g_iconst C (v := (0 : Int32)) dX9_loops_2 (by decide) ?_
  refine g_istore_n C (i := 2) (lv2 := [(2, .int (0 : Int32)), (1, .int (0 : Int32)), (0, va_rf a0)]) dX9_loops_3 rfl (by decide) (by first | rfl | simp [va_rf_cat, vi_cat, vl_cat]) ?_
  exact g_sub (lv2 := [(0, va_rf a0), (1, .int (0 : Int32)), (2, .int (0 : Int32))]) [2, 1, 0] rfl (t_X9_loops_4 C FU a0 (0 : Int32) (0 : Int32) S)
abbrev rmX10_init : Room := { frames := 1, cells := 1, slots := 16, locals := 24 }
theorem flX10_init_7 : Cond.fieldLink RX10 7 "LightLines$Trace" "numbers" "[I" ∈ wsX10_init := by decide +kernel
set_option maxRecDepth 100000 in
theorem ulX10_init_X10 : ∀ w ∈ u_ws RX10 TX10 2, w ∈ wsX10_init := by decide +kernel
set_option maxHeartbeats 4000000 in
set_option maxRecDepth 100000 in
theorem m_X10_init (a0 : Nat) (S : St) : ∀ l D cy H0 o, f_X10_init a0 S = some o → Met l yX10_init wsX10_init rmX10_init (Pq D cy H0 [va_rf (some a0)] S) (Qx D cy H0 (cvV o)) 1 16 (fun q => H0.size ≤ q) := by
  refine met_ofI (cc := cX10_init) (maxL := 1) (ret := none) [va_rf (some a0)] [(0, va_rf (some a0))] (by decide) rfl rfl rfl (by simp [lg_sl, va_rf_cat, vi_cat, vl_cat]) (by simp [lv_args, va_rf_cat, vi_cat, vl_cat]) (fun Γ C hN => ?_)
  unfold f_X10_init
  refine g_aload_n C dX10_init_0 rfl 0 rfl ?_
  refine g_objInit C dX10_init_1 (by decide +kernel) (by decide +kernel) (by decide +kernel) ⟨by decide, by decide⟩ (by first | exact Nat.le_of_ble_eq_true rfl | simp [va_rf_cat, vi_cat, vl_cat]) ?_
  refine g_aload_n C dX10_init_4 rfl 0 rfl ?_
  refine g_bipush C (v := (16 : Int32)) dX10_init_5 (by decide) ?_
  refine g_newa C (kd := 14) (t0 := 1) (mx := 16) (ty := .int) dX10_init_7 rfl rfl ⟨by decide, by decide⟩ (fun _ => rfl) (fun _ _ h => h) (by decide) (by decide +kernel) ⟨by decide, by decide⟩ (fun S1 eS1 => ?_)
  show G Γ cvV 1 1 16 9 [(0, va_rf (some a0))] [va_rf (some S.2.2.2), va_rf (some a0)] S1 _
  refine g_putFR C hN (ci := 9) (k := 0) (ty0 := tyX10) dX10_init_9 rfl (by decide) (by decide) (by decide) tyX10_ok nmX10 ulX10_init_X10 flX10_init_7 rfl rfl rfl (rf_fit_a _) (fun S2 eS2 => ?_)
  exact g_vret C dX10_init_12 ⟨by decide, by decide⟩
