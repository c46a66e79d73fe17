abbrev rmX11_init : Room := { frames := 3, cells := 81, slots := 15143, locals := 64 }
theorem flX11_init_11 : Cond.fieldLink RX11 11 "LightLines" "sheets" "[LLightLines$Sheet;" ∈ wsX11_init := by decide +kernel
theorem flX11_init_18 : Cond.fieldLink RX11 18 "LightLines" "strokes" "LLightLines$Strokes;" ∈ wsX11_init := by decide +kernel
theorem flX11_init_25 : Cond.fieldLink RX11 25 "LightLines" "search" "LLightLines$PlanSearch;" ∈ wsX11_init := by decide +kernel
theorem flX11_init_32 : Cond.fieldLink RX11 32 "LightLines" "show" "LLightLines$Show;" ∈ wsX11_init := by decide +kernel
theorem flX11_init_39 : Cond.fieldLink RX11 39 "LightLines" "cues" "LLightLines$Cues;" ∈ wsX11_init := by decide +kernel
theorem flX11_init_46 : Cond.fieldLink RX11 46 "LightLines" "trace" "LLightLines$Trace;" ∈ wsX11_init := by decide +kernel
set_option maxRecDepth 100000 in
theorem ulX11_init_X0 : ∀ w ∈ u_ws RX0 TX0 10, w ∈ wsX11_init := by decide +kernel
set_option maxRecDepth 100000 in
theorem ulX11_init_X10 : ∀ w ∈ u_ws RX10 TX10 2, w ∈ wsX11_init := by decide +kernel
set_option maxRecDepth 100000 in
theorem ulX11_init_X11 : ∀ w ∈ u_ws RX11 TX11 7, w ∈ wsX11_init := by decide +kernel
set_option maxRecDepth 100000 in
theorem ulX11_init_X4 : ∀ w ∈ u_ws RX4 TX4 5, w ∈ wsX11_init := by decide +kernel
set_option maxRecDepth 100000 in
theorem ulX11_init_X5 : ∀ w ∈ u_ws RX5 TX5 3, w ∈ wsX11_init := by decide +kernel
set_option maxRecDepth 100000 in
theorem ulX11_init_X6 : ∀ w ∈ u_ws RX6 TX6 13, w ∈ wsX11_init := by decide +kernel
set_option maxRecDepth 100000 in
theorem ulX11_init_X9 : ∀ w ∈ u_ws RX9 TX9 4, w ∈ wsX11_init := by decide +kernel
set_option maxHeartbeats 4000000 in
set_option maxRecDepth 100000 in
theorem m_X11_init (a0 : Nat) (S : St) : ∀ l D cy H0 o, f_X11_init a0 S = some o → Met l yX11_init wsX11_init rmX11_init (Pq D cy H0 [va_rf (some a0)] S) (Qx D cy H0 (cvV o)) 81 15143 (fun q => H0.size ≤ q) := by
  refine met_ofI (cc := cX11_init) (maxL := 2) (ret := none) [va_rf (some a0)] [(0, va_rf (some a0))] (by decide) rfl rfl rfl (by simp [lg_sl, va_rf_cat, vi_cat, vl_cat]) (by simp [lv_args, va_rf_cat, vi_cat, vl_cat]) (fun Γ C hN => ?_)
  unfold f_X11_init
  refine g_aload_n C dX11_init_0 rfl 0 rfl ?_
  refine g_objInit C dX11_init_1 (by decide +kernel) (by decide +kernel) (by decide +kernel) ⟨by decide, by decide⟩ (by first | exact Nat.le_of_ble_eq_true rfl | simp [va_rf_cat, vi_cat, vl_cat]) ?_
  refine g_aload_n C dX11_init_4 rfl 0 rfl ?_
  refine g_bipush C (v := (8 : Int32)) dX11_init_5 (by decide) ?_
  refine g_newq C (kd := 16) (t0 := 3) (N := 8) dX11_init_7 (by decide) (fun _ => rfl) (fun _ h => h.1) (by decide) (by decide) (by decide) (by decide +kernel) ⟨by decide, by decide⟩ (fun S1 => ?_)
  show G Γ cvV 2 1 8 10 [(0, va_rf (some a0))] [va_rf (some S.2.2.2), va_rf (some a0)] S1 _
  refine g_putFR C hN (ci := 10) (k := 0) (ty0 := tyX11) dX11_init_10 rfl (by decide) (by decide) (by decide) tyX11_ok nmX11 ulX11_init_X11 flX11_init_11 rfl rfl rfl (rf_fit_a _) (fun S2 eS2 => ?_)
  refine g_aload_n C dX11_init_13 rfl 0 rfl ?_
  refine g_new C (ci := 8) (ty0 := tyX9) dX11_init_14 rfl (by decide) tyX9_ok (by decide +kernel) ulX11_init_X9 (by decide +kernel) (by decide +kernel) (by decide +kernel) ⟨by decide, by decide⟩ (fun S3 => ?_)
  show G Γ cvV 2 2 12 17 [(0, va_rf (some a0))] [va_rf (some S2.2.2.2), va_rf (some a0)] S3 _
  refine g_dupr C dX11_init_17 ?_
  refine g_callIN C (n := 0) (host := "LightLines") [] [va_rf (some S2.2.2.2), va_rf (some a0)] (m_X9_init S2.2.2.2 S3) dX11_init_18 gX11_init_X9_init_n17 (by decide +kernel) rfl ⟨rfl, rfl⟩ (by decide +kernel) (by decide +kernel) rfl (by decide +kernel) ⟨by decide, by decide⟩ ⟨by decide, by decide⟩ rfl rfl (by first | exact Nat.le_of_ble_eq_true rfl | simp [va_rf_cat, vi_cat, vl_cat]) (fun o4 eo4 => ?_)
  show G Γ cvV 2 5 36 21 [(0, va_rf (some a0))] [va_rf (some S2.2.2.2), va_rf (some a0)] o4 _
  refine g_putFR C hN (ci := 10) (k := 1) (ty0 := tyX11) dX11_init_21 rfl (by decide) (by decide) (by decide) tyX11_ok nmX11 ulX11_init_X11 flX11_init_18 rfl rfl rfl (rf_fit_o _) (fun S5 eS5 => ?_)
  refine g_aload_n C dX11_init_24 rfl 0 rfl ?_
  refine g_new C (ci := 4) (ty0 := tyX4) dX11_init_25 rfl (by decide) tyX4_ok (by decide +kernel) ulX11_init_X4 (by decide +kernel) (by decide +kernel) (by decide +kernel) ⟨by decide, by decide⟩ (fun S6 => ?_)
  show G Γ cvV 2 6 41 28 [(0, va_rf (some a0))] [va_rf (some S5.2.2.2), va_rf (some a0)] S6 _
  refine g_dupr C dX11_init_28 ?_
  refine g_callIN C (n := 0) (host := "LightLines") [] [va_rf (some S5.2.2.2), va_rf (some a0)] (m_X4_init S5.2.2.2 S6) dX11_init_29 gX11_init_X4_init_n24 (by decide +kernel) rfl ⟨rfl, rfl⟩ (by decide +kernel) (by decide +kernel) rfl (by decide +kernel) ⟨by decide, by decide⟩ ⟨by decide, by decide⟩ rfl rfl (by first | exact Nat.le_of_ble_eq_true rfl | simp [va_rf_cat, vi_cat, vl_cat]) (fun o7 eo7 => ?_)
  show G Γ cvV 2 9 4169 32 [(0, va_rf (some a0))] [va_rf (some S5.2.2.2), va_rf (some a0)] o7 _
  refine g_putFR C hN (ci := 10) (k := 2) (ty0 := tyX11) dX11_init_32 rfl (by decide) (by decide) (by decide) tyX11_ok nmX11 ulX11_init_X11 flX11_init_25 rfl rfl rfl (rf_fit_o _) (fun S8 eS8 => ?_)
  refine g_aload_n C dX11_init_35 rfl 0 rfl ?_
  refine g_new C (ci := 6) (ty0 := tyX6) dX11_init_36 rfl (by decide) tyX6_ok (by decide +kernel) ulX11_init_X6 (by decide +kernel) (by decide +kernel) (by decide +kernel) ⟨by decide, by decide⟩ (fun S9 => ?_)
  show G Γ cvV 2 10 4182 39 [(0, va_rf (some a0))] [va_rf (some S8.2.2.2), va_rf (some a0)] S9 _
  refine g_dupr C dX11_init_39 ?_
  refine g_callIN C (n := 0) (host := "LightLines") [] [va_rf (some S8.2.2.2), va_rf (some a0)] (m_X6_init S8.2.2.2 S9) dX11_init_40 gX11_init_X6_init_n31 (by decide +kernel) rfl ⟨rfl, rfl⟩ (by decide +kernel) (by decide +kernel) rfl (by decide +kernel) ⟨by decide, by decide⟩ ⟨by decide, by decide⟩ rfl rfl (by first | exact Nat.le_of_ble_eq_true rfl | simp [va_rf_cat, vi_cat, vl_cat]) (fun o10 eo10 => ?_)
  show G Γ cvV 2 35 14351 43 [(0, va_rf (some a0))] [va_rf (some S8.2.2.2), va_rf (some a0)] o10 _
  refine g_putFR C hN (ci := 10) (k := 3) (ty0 := tyX11) dX11_init_43 rfl (by decide) (by decide) (by decide) tyX11_ok nmX11 ulX11_init_X11 flX11_init_32 rfl rfl rfl (rf_fit_o _) (fun S11 eS11 => ?_)
  refine g_aload_n C dX11_init_46 rfl 0 rfl ?_
  refine g_new C (ci := 0) (ty0 := tyX0) dX11_init_47 rfl (by decide) tyX0_ok (by decide +kernel) ulX11_init_X0 (by decide +kernel) (by decide +kernel) (by decide +kernel) ⟨by decide, by decide⟩ (fun S12 => ?_)
  show G Γ cvV 2 36 14361 50 [(0, va_rf (some a0))] [va_rf (some S11.2.2.2), va_rf (some a0)] S12 _
  refine g_dupr C dX11_init_50 ?_
  refine g_callIN C (n := 0) (host := "LightLines") [] [va_rf (some S11.2.2.2), va_rf (some a0)] (m_X0_init S11.2.2.2 S12) dX11_init_51 gX11_init_X0_init_n38 (by decide +kernel) rfl ⟨rfl, rfl⟩ (by decide +kernel) (by decide +kernel) rfl (by decide +kernel) ⟨by decide, by decide⟩ ⟨by decide, by decide⟩ rfl rfl (by first | exact Nat.le_of_ble_eq_true rfl | simp [va_rf_cat, vi_cat, vl_cat]) (fun o13 eo13 => ?_)
  show G Γ cvV 2 63 14781 54 [(0, va_rf (some a0))] [va_rf (some S11.2.2.2), va_rf (some a0)] o13 _
  refine g_putFR C hN (ci := 10) (k := 4) (ty0 := tyX11) dX11_init_54 rfl (by decide) (by decide) (by decide) tyX11_ok nmX11 ulX11_init_X11 flX11_init_39 rfl rfl rfl (rf_fit_o _) (fun S14 eS14 => ?_)
  refine g_aload_n C dX11_init_57 rfl 0 rfl ?_
  refine g_new C (ci := 9) (ty0 := tyX10) dX11_init_58 rfl (by decide) tyX10_ok (by decide +kernel) ulX11_init_X10 (by decide +kernel) (by decide +kernel) (by decide +kernel) ⟨by decide, by decide⟩ (fun S15 => ?_)
  show G Γ cvV 2 64 14783 61 [(0, va_rf (some a0))] [va_rf (some S14.2.2.2), va_rf (some a0)] S15 _
  refine g_dupr C dX11_init_61 ?_
  refine g_callIN C (n := 0) (host := "LightLines") [] [va_rf (some S14.2.2.2), va_rf (some a0)] (m_X10_init S14.2.2.2 S15) dX11_init_62 gX11_init_X10_init_n45 (by decide +kernel) rfl ⟨rfl, rfl⟩ (by decide +kernel) (by decide +kernel) rfl (by decide +kernel) ⟨by decide, by decide⟩ ⟨by decide, by decide⟩ rfl rfl (by first | exact Nat.le_of_ble_eq_true rfl | simp [va_rf_cat, vi_cat, vl_cat]) (fun o16 eo16 => ?_)
  show G Γ cvV 2 65 14799 65 [(0, va_rf (some a0))] [va_rf (some S14.2.2.2), va_rf (some a0)] o16 _
  refine g_putFR C hN (ci := 10) (k := 5) (ty0 := tyX11) dX11_init_65 rfl (by decide) (by decide) (by decide) tyX11_ok nmX11 ulX11_init_X11 flX11_init_46 rfl rfl rfl (rf_fit_o _) (fun S17 eS17 => ?_)
  refine g_iconst C (v := (0 : Int32)) dX11_init_68 (by decide) ?_
  refine g_istore_n C (i := 1) (lv2 := [(1, .int (0 : Int32)), (0, va_rf (some a0))]) dX11_init_69 rfl (by decide) (by first | rfl | simp [va_rf_cat, vi_cat, vl_cat]) ?_
  refine g_iload_n C dX11_init_70 rfl 0 rfl ?_
  refine g_bipush C (v := (8 : Int32)) dX11_init_71 (by decide) ?_
  refine g_icmp_ge C (tgt := 95) dX11_init_73 (by decide) (fun h18 => g_none) (fun h18 => ?_)
  refine g_aload_n C dX11_init_76 rfl 1 rfl ?_
  refine g_getR C (ci := 10) (k := 0) dX11_init_77 rfl (by decide) (by decide) (by decide) ulX11_init_X11 flX11_init_11 rfl (fun v19 ev19 => ?_)
  refine g_iload_n C dX11_init_80 rfl 0 rfl ?_
  refine g_new C (ci := 5) (ty0 := tyX5) dX11_init_81 rfl (by decide) tyX5_ok (by decide +kernel) ulX11_init_X5 (by decide +kernel) (by decide +kernel) (by decide +kernel) ⟨by decide, by decide⟩ (fun S20 => ?_)
  show G Γ cvV 2 66 14802 84 [(1, .int (0 : Int32)), (0, va_rf (some a0))] [va_rf (some S17.2.2.2), .int (0 : Int32), va_rf v19] S20 _
  refine g_dupr C dX11_init_84 ?_
  refine g_callIN C (n := 0) (host := "LightLines") [] [va_rf (some S17.2.2.2), .int (0 : Int32), va_rf v19] (m_X5_init S17.2.2.2 S20) dX11_init_85 gX11_init_X5_init_n50 (by decide +kernel) rfl ⟨rfl, rfl⟩ (by decide +kernel) (by decide +kernel) rfl (by decide +kernel) ⟨by decide, by decide⟩ ⟨by decide, by decide⟩ rfl rfl (by first | exact Nat.le_of_ble_eq_true rfl | simp [va_rf_cat, vi_cat, vl_cat]) (fun o21 eo21 => ?_)
  show G Γ cvV 2 67 14842 88 [(1, .int (0 : Int32)), (0, va_rf (some a0))] [va_rf (some S17.2.2.2), .int (0 : Int32), va_rf v19] o21 _
  refine g_ast16 C dX11_init_88 (fun S22 eS22 => ?_)
  refine g_iinc C (v := (1 : Int32)) (lv2 := [(1, .int (1 : Int32)), (0, va_rf (some a0))]) dX11_init_89 0 rfl (by decide) (by decide) (by first | rfl | simp [va_rf_cat, vi_cat, vl_cat]) ?_
  refine g_goto C (tgt := 70) dX11_init_92 (by decide) ?_
  refine g_iload_n C dX11_init_70 rfl 0 rfl ?_
  refine g_bipush C (v := (8 : Int32)) dX11_init_71 (by decide) ?_
  refine g_icmp_ge C (tgt := 95) dX11_init_73 (by decide) (fun h23 => g_none) (fun h23 => ?_)
  refine g_aload_n C dX11_init_76 rfl 1 rfl ?_
  refine g_getR C (ci := 10) (k := 0) dX11_init_77 rfl (by decide) (by decide) (by decide) ulX11_init_X11 flX11_init_11 rfl (fun v24 ev24 => ?_)
  refine g_iload_n C dX11_init_80 rfl 0 rfl ?_
  refine g_new C (ci := 5) (ty0 := tyX5) dX11_init_81 rfl (by decide) tyX5_ok (by decide +kernel) ulX11_init_X5 (by decide +kernel) (by decide +kernel) (by decide +kernel) ⟨by decide, by decide⟩ (fun S25 => ?_)
  show G Γ cvV 2 68 14845 84 [(1, .int (1 : Int32)), (0, va_rf (some a0))] [va_rf (some S22.2.2.2), .int (1 : Int32), va_rf v24] S25 _
  refine g_dupr C dX11_init_84 ?_
  refine g_callIN C (n := 0) (host := "LightLines") [] [va_rf (some S22.2.2.2), .int (1 : Int32), va_rf v24] (m_X5_init S22.2.2.2 S25) dX11_init_85 gX11_init_X5_init_n50 (by decide +kernel) rfl ⟨rfl, rfl⟩ (by decide +kernel) (by decide +kernel) rfl (by decide +kernel) ⟨by decide, by decide⟩ ⟨by decide, by decide⟩ rfl rfl (by first | exact Nat.le_of_ble_eq_true rfl | simp [va_rf_cat, vi_cat, vl_cat]) (fun o26 eo26 => ?_)
  show G Γ cvV 2 69 14885 88 [(1, .int (1 : Int32)), (0, va_rf (some a0))] [va_rf (some S22.2.2.2), .int (1 : Int32), va_rf v24] o26 _
  refine g_ast16 C dX11_init_88 (fun S27 eS27 => ?_)
  refine g_iinc C (v := (2 : Int32)) (lv2 := [(1, .int (2 : Int32)), (0, va_rf (some a0))]) dX11_init_89 0 rfl (by decide) (by decide) (by first | rfl | simp [va_rf_cat, vi_cat, vl_cat]) ?_
  refine g_goto C (tgt := 70) dX11_init_92 (by decide) ?_
  refine g_iload_n C dX11_init_70 rfl 0 rfl ?_
  refine g_bipush C (v := (8 : Int32)) dX11_init_71 (by decide) ?_
  refine g_icmp_ge C (tgt := 95) dX11_init_73 (by decide) (fun h28 => g_none) (fun h28 => ?_)
  refine g_aload_n C dX11_init_76 rfl 1 rfl ?_
  refine g_getR C (ci := 10) (k := 0) dX11_init_77 rfl (by decide) (by decide) (by decide) ulX11_init_X11 flX11_init_11 rfl (fun v29 ev29 => ?_)
  refine g_iload_n C dX11_init_80 rfl 0 rfl ?_
  refine g_new C (ci := 5) (ty0 := tyX5) dX11_init_81 rfl (by decide) tyX5_ok (by decide +kernel) ulX11_init_X5 (by decide +kernel) (by decide +kernel) (by decide +kernel) ⟨by decide, by decide⟩ (fun S30 => ?_)
  show G Γ cvV 2 70 14888 84 [(1, .int (2 : Int32)), (0, va_rf (some a0))] [va_rf (some S27.2.2.2), .int (2 : Int32), va_rf v29] S30 _
  refine g_dupr C dX11_init_84 ?_
  refine g_callIN C (n := 0) (host := "LightLines") [] [va_rf (some S27.2.2.2), .int (2 : Int32), va_rf v29] (m_X5_init S27.2.2.2 S30) dX11_init_85 gX11_init_X5_init_n50 (by decide +kernel) rfl ⟨rfl, rfl⟩ (by decide +kernel) (by decide +kernel) rfl (by decide +kernel) ⟨by decide, by decide⟩ ⟨by decide, by decide⟩ rfl rfl (by first | exact Nat.le_of_ble_eq_true rfl | simp [va_rf_cat, vi_cat, vl_cat]) (fun o31 eo31 => ?_)
  show G Γ cvV 2 71 14928 88 [(1, .int (2 : Int32)), (0, va_rf (some a0))] [va_rf (some S27.2.2.2), .int (2 : Int32), va_rf v29] o31 _
  refine g_ast16 C dX11_init_88 (fun S32 eS32 => ?_)
  refine g_iinc C (v := (3 : Int32)) (lv2 := [(1, .int (3 : Int32)), (0, va_rf (some a0))]) dX11_init_89 0 rfl (by decide) (by decide) (by first | rfl | simp [va_rf_cat, vi_cat, vl_cat]) ?_
  refine g_goto C (tgt := 70) dX11_init_92 (by decide) ?_
  refine g_iload_n C dX11_init_70 rfl 0 rfl ?_
  refine g_bipush C (v := (8 : Int32)) dX11_init_71 (by decide) ?_
  refine g_icmp_ge C (tgt := 95) dX11_init_73 (by decide) (fun h33 => g_none) (fun h33 => ?_)
  refine g_aload_n C dX11_init_76 rfl 1 rfl ?_
  refine g_getR C (ci := 10) (k := 0) dX11_init_77 rfl (by decide) (by decide) (by decide) ulX11_init_X11 flX11_init_11 rfl (fun v34 ev34 => ?_)
  refine g_iload_n C dX11_init_80 rfl 0 rfl ?_
  refine g_new C (ci := 5) (ty0 := tyX5) dX11_init_81 rfl (by decide) tyX5_ok (by decide +kernel) ulX11_init_X5 (by decide +kernel) (by decide +kernel) (by decide +kernel) ⟨by decide, by decide⟩ (fun S35 => ?_)
  show G Γ cvV 2 72 14931 84 [(1, .int (3 : Int32)), (0, va_rf (some a0))] [va_rf (some S32.2.2.2), .int (3 : Int32), va_rf v34] S35 _
  refine g_dupr C dX11_init_84 ?_
  refine g_callIN C (n := 0) (host := "LightLines") [] [va_rf (some S32.2.2.2), .int (3 : Int32), va_rf v34] (m_X5_init S32.2.2.2 S35) dX11_init_85 gX11_init_X5_init_n50 (by decide +kernel) rfl ⟨rfl, rfl⟩ (by decide +kernel) (by decide +kernel) rfl (by decide +kernel) ⟨by decide, by decide⟩ ⟨by decide, by decide⟩ rfl rfl (by first | exact Nat.le_of_ble_eq_true rfl | simp [va_rf_cat, vi_cat, vl_cat]) (fun o36 eo36 => ?_)
  show G Γ cvV 2 73 14971 88 [(1, .int (3 : Int32)), (0, va_rf (some a0))] [va_rf (some S32.2.2.2), .int (3 : Int32), va_rf v34] o36 _
  refine g_ast16 C dX11_init_88 (fun S37 eS37 => ?_)
  refine g_iinc C (v := (4 : Int32)) (lv2 := [(1, .int (4 : Int32)), (0, va_rf (some a0))]) dX11_init_89 0 rfl (by decide) (by decide) (by first | rfl | simp [va_rf_cat, vi_cat, vl_cat]) ?_
  refine g_goto C (tgt := 70) dX11_init_92 (by decide) ?_
  refine g_iload_n C dX11_init_70 rfl 0 rfl ?_
  refine g_bipush C (v := (8 : Int32)) dX11_init_71 (by decide) ?_
  refine g_icmp_ge C (tgt := 95) dX11_init_73 (by decide) (fun h38 => g_none) (fun h38 => ?_)
  refine g_aload_n C dX11_init_76 rfl 1 rfl ?_
  refine g_getR C (ci := 10) (k := 0) dX11_init_77 rfl (by decide) (by decide) (by decide) ulX11_init_X11 flX11_init_11 rfl (fun v39 ev39 => ?_)
  refine g_iload_n C dX11_init_80 rfl 0 rfl ?_
  refine g_new C (ci := 5) (ty0 := tyX5) dX11_init_81 rfl (by decide) tyX5_ok (by decide +kernel) ulX11_init_X5 (by decide +kernel) (by decide +kernel) (by decide +kernel) ⟨by decide, by decide⟩ (fun S40 => ?_)
  show G Γ cvV 2 74 14974 84 [(1, .int (4 : Int32)), (0, va_rf (some a0))] [va_rf (some S37.2.2.2), .int (4 : Int32), va_rf v39] S40 _
  refine g_dupr C dX11_init_84 ?_
  refine g_callIN C (n := 0) (host := "LightLines") [] [va_rf (some S37.2.2.2), .int (4 : Int32), va_rf v39] (m_X5_init S37.2.2.2 S40) dX11_init_85 gX11_init_X5_init_n50 (by decide +kernel) rfl ⟨rfl, rfl⟩ (by decide +kernel) (by decide +kernel) rfl (by decide +kernel) ⟨by decide, by decide⟩ ⟨by decide, by decide⟩ rfl rfl (by first | exact Nat.le_of_ble_eq_true rfl | simp [va_rf_cat, vi_cat, vl_cat]) (fun o41 eo41 => ?_)
  show G Γ cvV 2 75 15014 88 [(1, .int (4 : Int32)), (0, va_rf (some a0))] [va_rf (some S37.2.2.2), .int (4 : Int32), va_rf v39] o41 _
  refine g_ast16 C dX11_init_88 (fun S42 eS42 => ?_)
  refine g_iinc C (v := (5 : Int32)) (lv2 := [(1, .int (5 : Int32)), (0, va_rf (some a0))]) dX11_init_89 0 rfl (by decide) (by decide) (by first | rfl | simp [va_rf_cat, vi_cat, vl_cat]) ?_
  refine g_goto C (tgt := 70) dX11_init_92 (by decide) ?_
  refine g_iload_n C dX11_init_70 rfl 0 rfl ?_
  refine g_bipush C (v := (8 : Int32)) dX11_init_71 (by decide) ?_
  refine g_icmp_ge C (tgt := 95) dX11_init_73 (by decide) (fun h43 => g_none) (fun h43 => ?_)
  refine g_aload_n C dX11_init_76 rfl 1 rfl ?_
  refine g_getR C (ci := 10) (k := 0) dX11_init_77 rfl (by decide) (by decide) (by decide) ulX11_init_X11 flX11_init_11 rfl (fun v44 ev44 => ?_)
  refine g_iload_n C dX11_init_80 rfl 0 rfl ?_
  refine g_new C (ci := 5) (ty0 := tyX5) dX11_init_81 rfl (by decide) tyX5_ok (by decide +kernel) ulX11_init_X5 (by decide +kernel) (by decide +kernel) (by decide +kernel) ⟨by decide, by decide⟩ (fun S45 => ?_)
  show G Γ cvV 2 76 15017 84 [(1, .int (5 : Int32)), (0, va_rf (some a0))] [va_rf (some S42.2.2.2), .int (5 : Int32), va_rf v44] S45 _
  refine g_dupr C dX11_init_84 ?_
  refine g_callIN C (n := 0) (host := "LightLines") [] [va_rf (some S42.2.2.2), .int (5 : Int32), va_rf v44] (m_X5_init S42.2.2.2 S45) dX11_init_85 gX11_init_X5_init_n50 (by decide +kernel) rfl ⟨rfl, rfl⟩ (by decide +kernel) (by decide +kernel) rfl (by decide +kernel) ⟨by decide, by decide⟩ ⟨by decide, by decide⟩ rfl rfl (by first | exact Nat.le_of_ble_eq_true rfl | simp [va_rf_cat, vi_cat, vl_cat]) (fun o46 eo46 => ?_)
  show G Γ cvV 2 77 15057 88 [(1, .int (5 : Int32)), (0, va_rf (some a0))] [va_rf (some S42.2.2.2), .int (5 : Int32), va_rf v44] o46 _
  refine g_ast16 C dX11_init_88 (fun S47 eS47 => ?_)
  refine g_iinc C (v := (6 : Int32)) (lv2 := [(1, .int (6 : Int32)), (0, va_rf (some a0))]) dX11_init_89 0 rfl (by decide) (by decide) (by first | rfl | simp [va_rf_cat, vi_cat, vl_cat]) ?_
  refine g_goto C (tgt := 70) dX11_init_92 (by decide) ?_
  refine g_iload_n C dX11_init_70 rfl 0 rfl ?_
  refine g_bipush C (v := (8 : Int32)) dX11_init_71 (by decide) ?_
  refine g_icmp_ge C (tgt := 95) dX11_init_73 (by decide) (fun h48 => g_none) (fun h48 => ?_)
  refine g_aload_n C dX11_init_76 rfl 1 rfl ?_
  refine g_getR C (ci := 10) (k := 0) dX11_init_77 rfl (by decide) (by decide) (by decide) ulX11_init_X11 flX11_init_11 rfl (fun v49 ev49 => ?_)
  refine g_iload_n C dX11_init_80 rfl 0 rfl ?_
  refine g_new C (ci := 5) (ty0 := tyX5) dX11_init_81 rfl (by decide) tyX5_ok (by decide +kernel) ulX11_init_X5 (by decide +kernel) (by decide +kernel) (by decide +kernel) ⟨by decide, by decide⟩ (fun S50 => ?_)
  show G Γ cvV 2 78 15060 84 [(1, .int (6 : Int32)), (0, va_rf (some a0))] [va_rf (some S47.2.2.2), .int (6 : Int32), va_rf v49] S50 _
  refine g_dupr C dX11_init_84 ?_
  refine g_callIN C (n := 0) (host := "LightLines") [] [va_rf (some S47.2.2.2), .int (6 : Int32), va_rf v49] (m_X5_init S47.2.2.2 S50) dX11_init_85 gX11_init_X5_init_n50 (by decide +kernel) rfl ⟨rfl, rfl⟩ (by decide +kernel) (by decide +kernel) rfl (by decide +kernel) ⟨by decide, by decide⟩ ⟨by decide, by decide⟩ rfl rfl (by first | exact Nat.le_of_ble_eq_true rfl | simp [va_rf_cat, vi_cat, vl_cat]) (fun o51 eo51 => ?_)
  show G Γ cvV 2 79 15100 88 [(1, .int (6 : Int32)), (0, va_rf (some a0))] [va_rf (some S47.2.2.2), .int (6 : Int32), va_rf v49] o51 _
  refine g_ast16 C dX11_init_88 (fun S52 eS52 => ?_)
  refine g_iinc C (v := (7 : Int32)) (lv2 := [(1, .int (7 : Int32)), (0, va_rf (some a0))]) dX11_init_89 0 rfl (by decide) (by decide) (by first | rfl | simp [va_rf_cat, vi_cat, vl_cat]) ?_
  refine g_goto C (tgt := 70) dX11_init_92 (by decide) ?_
  refine g_iload_n C dX11_init_70 rfl 0 rfl ?_
  refine g_bipush C (v := (8 : Int32)) dX11_init_71 (by decide) ?_
  refine g_icmp_ge C (tgt := 95) dX11_init_73 (by decide) (fun h53 => g_none) (fun h53 => ?_)
  refine g_aload_n C dX11_init_76 rfl 1 rfl ?_
  refine g_getR C (ci := 10) (k := 0) dX11_init_77 rfl (by decide) (by decide) (by decide) ulX11_init_X11 flX11_init_11 rfl (fun v54 ev54 => ?_)
  refine g_iload_n C dX11_init_80 rfl 0 rfl ?_
  refine g_new C (ci := 5) (ty0 := tyX5) dX11_init_81 rfl (by decide) tyX5_ok (by decide +kernel) ulX11_init_X5 (by decide +kernel) (by decide +kernel) (by decide +kernel) ⟨by decide, by decide⟩ (fun S55 => ?_)
  show G Γ cvV 2 80 15103 84 [(1, .int (7 : Int32)), (0, va_rf (some a0))] [va_rf (some S52.2.2.2), .int (7 : Int32), va_rf v54] S55 _
  refine g_dupr C dX11_init_84 ?_
  refine g_callIN C (n := 0) (host := "LightLines") [] [va_rf (some S52.2.2.2), .int (7 : Int32), va_rf v54] (m_X5_init S52.2.2.2 S55) dX11_init_85 gX11_init_X5_init_n50 (by decide +kernel) rfl ⟨rfl, rfl⟩ (by decide +kernel) (by decide +kernel) rfl (by decide +kernel) ⟨by decide, by decide⟩ ⟨by decide, by decide⟩ rfl rfl (by first | exact Nat.le_of_ble_eq_true rfl | simp [va_rf_cat, vi_cat, vl_cat]) (fun o56 eo56 => ?_)
  show G Γ cvV 2 81 15143 88 [(1, .int (7 : Int32)), (0, va_rf (some a0))] [va_rf (some S52.2.2.2), .int (7 : Int32), va_rf v54] o56 _
  refine g_ast16 C dX11_init_88 (fun S57 eS57 => ?_)
  refine g_iinc C (v := (8 : Int32)) (lv2 := [(1, .int (8 : Int32)), (0, va_rf (some a0))]) dX11_init_89 0 rfl (by decide) (by decide) (by first | rfl | simp [va_rf_cat, vi_cat, vl_cat]) ?_
  refine g_goto C (tgt := 70) dX11_init_92 (by decide) ?_
  refine g_iload_n C dX11_init_70 rfl 0 rfl ?_
  refine g_bipush C (v := (8 : Int32)) dX11_init_71 (by decide) ?_
  refine g_icmp_ge C (tgt := 95) dX11_init_73 (by decide) (fun h58 => ?_) (fun h58 => g_none)
  exact g_vret C dX11_init_95 ⟨by decide, by decide⟩
abbrev rmX11_fine : Room := { frames := 0, cells := 0, slots := 0, locals := 0 }
theorem flX11_fine_288 : Cond.fieldLink RX11 288 "LightLines" "finding" "I" ∈ wsX11_fine := by decide +kernel
set_option maxRecDepth 100000 in
theorem ulX11_fine_X11 : ∀ w ∈ u_ws RX11 TX11 7, w ∈ wsX11_fine := by decide +kernel
set_option maxHeartbeats 4000000 in
set_option maxRecDepth 100000 in
theorem m_X11_fine (a0 : Option Nat) (x1 : Int32) (S : St) : ∀ l D cy H0 o, f_X11_fine a0 x1 S = some o → Met l yX11_fine wsX11_fine rmX11_fine (Pq D cy H0 [va_rf a0, .int x1] S) (Qx D cy H0 (cvI o)) 0 0 (fun q => H0.size ≤ q) := by
  refine met_of (cc := cX11_fine) (maxL := 2) (ret := (some .int)) [va_rf a0, .int x1] [(0, va_rf a0), (1, .int x1)] (by decide) rfl rfl (by simp [lg_sl, va_rf_cat, vi_cat, vl_cat]) (by simp [lv_args, va_rf_cat, vi_cat, vl_cat]) (fun Γ C => ?_)
  unfold f_X11_fine
  refine g_aload_n C dX11_fine_0 rfl 0 rfl ?_
  refine g_iconst C (v := (0 : Int32)) dX11_fine_1 (by decide) ?_
  refine g_putI C (ci := 10) (k := 6) (ty0 := tyX11) dX11_fine_2 rfl (by decide) (by decide) (by decide) tyX11_ok nmX11 ulX11_fine_X11 flX11_fine_288 rfl rfl ⟨rfl, rfl⟩ (fun S1 eS1 => ?_)
  refine g_iload_n C dX11_fine_5 rfl 1 rfl ?_
  exact g_iret C dX11_fine_6 ⟨by decide, by decide⟩
abbrev rmX11_found : Room := { frames := 0, cells := 0, slots := 0, locals := 0 }
theorem flX11_found_288 : Cond.fieldLink RX11 288 "LightLines" "finding" "I" ∈ wsX11_found := by decide +kernel
set_option maxRecDepth 100000 in
theorem ulX11_found_X11 : ∀ w ∈ u_ws RX11 TX11 7, w ∈ wsX11_found := by decide +kernel
set_option maxHeartbeats 4000000 in
set_option maxRecDepth 100000 in
theorem m_X11_found (a0 : Option Nat) (x1 : Int32) (S : St) : ∀ l D cy H0 o, f_X11_found a0 x1 S = some o → Met l yX11_found wsX11_found rmX11_found (Pq D cy H0 [va_rf a0, .int x1] S) (Qx D cy H0 (cvI o)) 0 0 (fun q => H0.size ≤ q) := by
  refine met_of (cc := cX11_found) (maxL := 2) (ret := (some .int)) [va_rf a0, .int x1] [(0, va_rf a0), (1, .int x1)] (by decide) rfl rfl (by simp [lg_sl, va_rf_cat, vi_cat, vl_cat]) (by simp [lv_args, va_rf_cat, vi_cat, vl_cat]) (fun Γ C => ?_)
  unfold f_X11_found
  refine g_aload_n C dX11_found_0 rfl 0 rfl ?_
  refine g_iload_n C dX11_found_1 rfl 1 rfl ?_
  refine g_putI C (ci := 10) (k := 6) (ty0 := tyX11) dX11_found_2 rfl (by decide) (by decide) (by decide) tyX11_ok nmX11 ulX11_found_X11 flX11_found_288 rfl rfl ⟨rfl, rfl⟩ (fun S1 eS1 => ?_)
  refine g_ldcw C (v := (-1000010 : Int32)) dX11_found_5 (by decide +kernel) ?_
  refine g_iload_n C dX11_found_8 rfl 1 rfl ?_
  refine g_isub C dX11_found_9 ?_
  exact g_iret C dX11_found_10 ⟨by decide, by decide⟩
abbrev rmX11_isSheet : Room := { frames := 1, cells := 0, slots := 0, locals := 22 }
set_option maxHeartbeats 4000000 in
set_option maxRecDepth 100000 in
theorem m_X11_isSheet (x0 : Int32) (S : St) : ∀ l D cy H0 o, f_X11_isSheet x0 S = some o → Met l yX11_isSheet wsX11_isSheet rmX11_isSheet (Pq D cy H0 [.int x0] S) (Qx D cy H0 (cvI o)) 0 0 (fun q => H0.size ≤ q) := by
  refine met_of (cc := cX11_isSheet) (maxL := 1) (ret := (some .boolean)) [.int x0] [(0, .int x0)] (by decide) rfl rfl (by simp [lg_sl, va_rf_cat, vi_cat, vl_cat]) (by simp [lv_args, va_rf_cat, vi_cat, vl_cat]) (fun Γ C => ?_)
  unfold f_X11_isSheet
  refine g_iload_n C dX11_isSheet_0 rfl 0 rfl ?_
  refine g_iconst C (v := (0 : Int32)) dX11_isSheet_1 (by decide) ?_
  refine g_bipush C (v := (7 : Int32)) dX11_isSheet_2 (by decide) ?_
  refine g_callS C (n := 3) [.int x0, .int (0 : Int32), .int (7 : Int32)] [] (m_X11_isWithin x0 (0 : Int32) (7 : Int32) S) dX11_isSheet_4 gX11_isSheet_X11_isWithin rfl ⟨rfl, rfl⟩ (by decide +kernel) ⟨by decide, by decide⟩ ⟨by decide, by decide⟩ rfl rfl (by first | exact Nat.le_of_ble_eq_true rfl | simp [va_rf_cat, vi_cat, vl_cat]) (fun o1 eo1 => ?_)
  show G Γ cvI 1 0 0 7 [(0, .int x0)] [.int o1.1] o1.2 _
  exact g_zret C dX11_isSheet_7 ⟨by decide, by decide⟩
abbrev rmX11_sheet : Room := { frames := 2, cells := 0, slots := 0, locals := 45 }
theorem flX11_sheet_11 : Cond.fieldLink RX11 11 "LightLines" "sheets" "[LLightLines$Sheet;" ∈ wsX11_sheet := by decide +kernel
set_option maxRecDepth 100000 in
theorem ulX11_sheet_X11 : ∀ w ∈ u_ws RX11 TX11 7, w ∈ wsX11_sheet := by decide +kernel
set_option maxHeartbeats 4000000 in
set_option maxRecDepth 100000 in
theorem m_X11_sheet (a0 : Option Nat) (x1 : Int32) (x2 : Int32) (x3 : Int32) (S : St) : ∀ l D cy H0 o, f_X11_sheet a0 x1 x2 x3 S = some o → Met l yX11_sheet wsX11_sheet rmX11_sheet (Pq D cy H0 [va_rf a0, .int x1, .int x2, .int x3] S) (Qx D cy H0 (cvI o)) 0 0 (fun q => H0.size ≤ q) := by
  refine met_of (cc := cX11_sheet) (maxL := 4) (ret := (some .int)) [va_rf a0, .int x1, .int x2, .int x3] [(0, va_rf a0), (1, .int x1), (2, .int x2), (3, .int x3)] (by decide) rfl rfl (by simp [lg_sl, va_rf_cat, vi_cat, vl_cat]) (by simp [lv_args, va_rf_cat, vi_cat, vl_cat]) (fun Γ C => ?_)
  unfold f_X11_sheet
  refine g_iload_n C dX11_sheet_0 rfl 1 rfl ?_
  refine g_callS C (n := 1) [.int x1] [] (m_X11_isSheet x1 S) dX11_sheet_1 gX11_sheet_X11_isSheet rfl ⟨rfl, rfl⟩ (by decide +kernel) ⟨by decide, by decide⟩ ⟨by decide, by decide⟩ rfl rfl (by first | exact Nat.le_of_ble_eq_true rfl | simp [va_rf_cat, vi_cat, vl_cat]) (fun o1 eo1 => ?_)
  show G Γ cvI 4 0 0 4 [(0, va_rf a0), (1, .int x1), (2, .int x2), (3, .int x3)] [.int o1.1] o1.2 _
  refine g_if_eq C (tgt := 22) dX11_sheet_4 (by decide) (fun h2 => ?_) (fun h2 => ?_)
  · refine g_ldc C (v := (-1000001 : Int32)) dX11_sheet_22 (by decide +kernel) ?_
    exact g_iret C dX11_sheet_24 ⟨by decide, by decide⟩
  · refine g_iload_n C dX11_sheet_7 rfl 2 rfl ?_
    refine g_iconst C (v := (0 : Int32)) dX11_sheet_8 (by decide) ?_
    refine g_iconst C (v := (2 : Int32)) dX11_sheet_9 (by decide) ?_
    refine g_callS C (n := 3) [.int x2, .int (0 : Int32), .int (2 : Int32)] [] (m_X11_isWithin x2 (0 : Int32) (2 : Int32) o1.2) dX11_sheet_10 gX11_sheet_X11_isWithin rfl ⟨rfl, rfl⟩ (by decide +kernel) ⟨by decide, by decide⟩ ⟨by decide, by decide⟩ rfl rfl (by first | exact Nat.le_of_ble_eq_true rfl | simp [va_rf_cat, vi_cat, vl_cat]) (fun o3 eo3 => ?_)
    show G Γ cvI 4 0 0 13 [(0, va_rf a0), (1, .int x1), (2, .int x2), (3, .int x3)] [.int o3.1] o3.2 _
    refine g_if_eq C (tgt := 22) dX11_sheet_13 (by decide) (fun h4 => ?_) (fun h4 => ?_)
    · refine g_ldc C (v := (-1000001 : Int32)) dX11_sheet_22 (by decide +kernel) ?_
      exact g_iret C dX11_sheet_24 ⟨by decide, by decide⟩
    · refine g_iload_n C dX11_sheet_16 rfl 3 rfl ?_
      refine g_bipush C (v := (40 : Int32)) dX11_sheet_17 (by decide) ?_
      refine g_icmp_le C (tgt := 25) dX11_sheet_19 (by decide) (fun h5 => ?_) (fun h5 => ?_)
      · refine g_iload_n C dX11_sheet_25 rfl 3 rfl ?_
        refine g_if_ge C (tgt := 35) dX11_sheet_26 (by decide) (fun h6 => ?_) (fun h6 => ?_)
        · refine g_aload_n C dX11_sheet_35 rfl 0 rfl ?_
          refine g_getR C (ci := 10) (k := 0) dX11_sheet_36 rfl (by decide) (by decide) (by decide) ulX11_sheet_X11 flX11_sheet_11 rfl (fun v7 ev7 => ?_)
          refine g_iload_n C dX11_sheet_39 rfl 1 rfl ?_
          refine g_ald16 C dX11_sheet_40 (fun v8 ev8 => ?_)
          refine g_iload_n C dX11_sheet_41 rfl 2 rfl ?_
          refine g_iload_n C dX11_sheet_42 rfl 3 rfl ?_
          refine g_callV C (n := 2) (ci := 5) [.int x2, .int x3] [] (m_X5_lay v8 x2 x3 o3.2) dX11_sheet_43 gX11_sheet_X5_lay rfl ⟨rfl, rfl⟩ (by decide +kernel) ⟨by decide, by decide⟩ ⟨by decide, by decide⟩ rfl (by decide) rfl rfl (by first | exact Nat.le_of_ble_eq_true rfl | simp [va_rf_cat, vi_cat, vl_cat]) (fun o9 eo9 => ?_)
          show G Γ cvI 4 0 0 46 [(0, va_rf a0), (1, .int x1), (2, .int x2), (3, .int x3)] [] o9 _
          refine g_aload_n C dX11_sheet_46 rfl 0 rfl ?_
          refine g_iload_n C dX11_sheet_47 rfl 3 rfl ?_
          refine g_callV C (n := 1) (ci := 10) [.int x3] [] (m_X11_fine a0 x3 o9) dX11_sheet_48 gX11_sheet_X11_fine rfl ⟨rfl, rfl⟩ (by decide +kernel) ⟨by decide, by decide⟩ ⟨by decide, by decide⟩ rfl (by decide) rfl rfl (by first | exact Nat.le_of_ble_eq_true rfl | simp [va_rf_cat, vi_cat, vl_cat]) (fun o10 eo10 => ?_)
          show G Γ cvI 4 0 0 51 [(0, va_rf a0), (1, .int x1), (2, .int x2), (3, .int x3)] [.int o10.1] o10.2 _
          exact g_iret C dX11_sheet_51 ⟨by decide, by decide⟩
        · refine g_aload_n C dX11_sheet_29 rfl 0 rfl ?_
          refine g_iconst C (v := (4 : Int32)) dX11_sheet_30 (by decide) ?_
          refine g_callV C (n := 1) (ci := 10) [.int (4 : Int32)] [] (m_X11_found a0 (4 : Int32) o3.2) dX11_sheet_31 gX11_sheet_X11_found rfl ⟨rfl, rfl⟩ (by decide +kernel) ⟨by decide, by decide⟩ ⟨by decide, by decide⟩ rfl (by decide) rfl rfl (by first | exact Nat.le_of_ble_eq_true rfl | simp [va_rf_cat, vi_cat, vl_cat]) (fun o11 eo11 => ?_)
          show G Γ cvI 4 0 0 34 [(0, va_rf a0), (1, .int x1), (2, .int x2), (3, .int x3)] [.int o11.1] o11.2 _
          exact g_iret C dX11_sheet_34 ⟨by decide, by decide⟩
      · refine g_ldc C (v := (-1000001 : Int32)) dX11_sheet_22 (by decide +kernel) ?_
        exact g_iret C dX11_sheet_24 ⟨by decide, by decide⟩
abbrev rmX11_set : Room := { frames := 3, cells := 0, slots := 0, locals := 65 }
theorem flX11_set_11 : Cond.fieldLink RX11 11 "LightLines" "sheets" "[LLightLines$Sheet;" ∈ wsX11_set := by decide +kernel
set_option maxRecDepth 100000 in
theorem ulX11_set_X11 : ∀ w ∈ u_ws RX11 TX11 7, w ∈ wsX11_set := by decide +kernel
set_option maxHeartbeats 4000000 in
set_option maxRecDepth 100000 in
theorem m_X11_set (a0 : Option Nat) (x1 : Int32) (x2 : Int32) (x3 : Int32) (S : St) : ∀ l D cy H0 o, f_X11_set a0 x1 x2 x3 S = some o → Met l yX11_set wsX11_set rmX11_set (Pq D cy H0 [va_rf a0, .int x1, .int x2, .int x3] S) (Qx D cy H0 (cvI o)) 0 0 (fun q => H0.size ≤ q) := by
  refine met_of (cc := cX11_set) (maxL := 5) (ret := (some .int)) [va_rf a0, .int x1, .int x2, .int x3] [(0, va_rf a0), (1, .int x1), (2, .int x2), (3, .int x3)] (by decide) rfl rfl (by simp [lg_sl, va_rf_cat, vi_cat, vl_cat]) (by simp [lv_args, va_rf_cat, vi_cat, vl_cat]) (fun Γ C => ?_)
  unfold f_X11_set
  refine g_iload_n C dX11_set_0 rfl 1 rfl ?_
  refine g_callS C (n := 1) [.int x1] [] (m_X11_isSheet x1 S) dX11_set_1 gX11_set_X11_isSheet rfl ⟨rfl, rfl⟩ (by decide +kernel) ⟨by decide, by decide⟩ ⟨by decide, by decide⟩ rfl rfl (by first | exact Nat.le_of_ble_eq_true rfl | simp [va_rf_cat, vi_cat, vl_cat]) (fun o1 eo1 => ?_)
  show G Γ cvI 5 0 0 4 [(0, va_rf a0), (1, .int x1), (2, .int x2), (3, .int x3)] [.int o1.1] o1.2 _
  refine g_if_ne C (tgt := 10) dX11_set_4 (by decide) (fun h2 => ?_) (fun h2 => ?_)
  · refine g_ldc C (v := (-1000001 : Int32)) dX11_set_7 (by decide +kernel) ?_
    exact g_iret C dX11_set_9 ⟨by decide, by decide⟩
  · refine g_aload_n C dX11_set_10 rfl 0 rfl ?_
    refine g_getR C (ci := 10) (k := 0) dX11_set_11 rfl (by decide) (by decide) (by decide) ulX11_set_X11 flX11_set_11 rfl (fun v3 ev3 => ?_)
    refine g_iload_n C dX11_set_14 rfl 1 rfl ?_
    refine g_ald16 C dX11_set_15 (fun v4 ev4 => ?_)
    refine g_astore C (i := 4) (lv2 := [(4, va_rf v4), (0, va_rf a0), (1, .int x1), (2, .int x2), (3, .int x3)]) dX11_set_16 (by decide) (by first | rfl | simp [va_rf_cat, vi_cat, vl_cat]) ?_
    refine g_aload C dX11_set_18 0 rfl ?_
    refine g_callV C (n := 0) (ci := 5) [] [] (m_X5_isMissing v4 o1.2) dX11_set_20 gX11_set_X5_isMissing rfl ⟨rfl, rfl⟩ (by decide +kernel) ⟨by decide, by decide⟩ ⟨by decide, by decide⟩ rfl (by decide) rfl rfl (by first | exact Nat.le_of_ble_eq_true rfl | simp [va_rf_cat, vi_cat, vl_cat]) (fun o5 eo5 => ?_)
    show G Γ cvI 5 0 0 23 [(4, va_rf v4), (0, va_rf a0), (1, .int x1), (2, .int x2), (3, .int x3)] [.int o5.1] o5.2 _
    refine g_if_eq C (tgt := 32) dX11_set_23 (by decide) (fun h6 => ?_) (fun h6 => ?_)
    · refine g_aload C dX11_set_32 0 rfl ?_
      refine g_iload_n C dX11_set_34 rfl 3 rfl ?_
      refine g_iconst C (v := (1 : Int32)) dX11_set_35 (by decide) ?_
      refine g_callV C (n := 2) (ci := 5) [.int x2, .int (1 : Int32)] [] (m_X5_has v4 x2 (1 : Int32) o5.2) dX11_set_36 gX11_set_X5_has rfl ⟨rfl, rfl⟩ (by decide +kernel) ⟨by decide, by decide⟩ ⟨by decide, by decide⟩ rfl (by decide) rfl rfl (by first | exact Nat.le_of_ble_eq_true rfl | simp [va_rf_cat, vi_cat, vl_cat]) (fun o7 eo7 => ?_)
      show G Γ cvI 5 0 0 39 [(4, va_rf v4), (0, va_rf a0), (1, .int x1), (2, .int x2), (3, .int x3)] [.int o7.1] o7.2 _
      refine g_if_ne C (tgt := 48) dX11_set_39 (by decide) (fun h8 => ?_) (fun h8 => ?_)
      · refine g_aload_n C dX11_set_42 rfl 1 rfl ?_
        refine g_iconst C (v := (2 : Int32)) dX11_set_43 (by decide) ?_
        refine g_callV C (n := 1) (ci := 10) [.int (2 : Int32)] [] (m_X11_found a0 (2 : Int32) o7.2) dX11_set_44 gX11_set_X11_found rfl ⟨rfl, rfl⟩ (by decide +kernel) ⟨by decide, by decide⟩ ⟨by decide, by decide⟩ rfl (by decide) rfl rfl (by first | exact Nat.le_of_ble_eq_true rfl | simp [va_rf_cat, vi_cat, vl_cat]) (fun o9 eo9 => ?_)
        show G Γ cvI 5 0 0 47 [(4, va_rf v4), (0, va_rf a0), (1, .int x1), (2, .int x2), (3, .int x3)] [.int o9.1] o9.2 _
        exact g_iret C dX11_set_47 ⟨by decide, by decide⟩
      · refine g_aload_n C dX11_set_48 rfl 1 rfl ?_
        refine g_aload C dX11_set_49 0 rfl ?_
        refine g_iload_n C dX11_set_51 rfl 3 rfl ?_
        refine g_iload_n C dX11_set_52 rfl 4 rfl ?_
        refine g_callV C (n := 2) (ci := 5) [.int x2, .int x3] [va_rf a0] (m_X5_put v4 x2 x3 o7.2) dX11_set_53 gX11_set_X5_put rfl ⟨rfl, rfl⟩ (by decide +kernel) ⟨by decide, by decide⟩ ⟨by decide, by decide⟩ rfl (by decide) rfl rfl (by first | exact Nat.le_of_ble_eq_true rfl | simp [va_rf_cat, vi_cat, vl_cat]) (fun o10 eo10 => ?_)
        show G Γ cvI 5 0 0 56 [(4, va_rf v4), (0, va_rf a0), (1, .int x1), (2, .int x2), (3, .int x3)] [.int o10.1, va_rf a0] o10.2 _
        refine g_callV C (n := 1) (ci := 10) [.int o10.1] [] (m_X11_fine a0 o10.1 o10.2) dX11_set_56 gX11_set_X11_fine rfl ⟨rfl, rfl⟩ (by decide +kernel) ⟨by decide, by decide⟩ ⟨by decide, by decide⟩ rfl (by decide) rfl rfl (by first | exact Nat.le_of_ble_eq_true rfl | simp [va_rf_cat, vi_cat, vl_cat]) (fun o11 eo11 => ?_)
        show G Γ cvI 5 0 0 59 [(4, va_rf v4), (0, va_rf a0), (1, .int x1), (2, .int x2), (3, .int x3)] [.int o11.1] o11.2 _
        exact g_iret C dX11_set_59 ⟨by decide, by decide⟩
    · refine g_aload_n C dX11_set_26 rfl 1 rfl ?_
      refine g_iconst C (v := (1 : Int32)) dX11_set_27 (by decide) ?_
      refine g_callV C (n := 1) (ci := 10) [.int (1 : Int32)] [] (m_X11_found a0 (1 : Int32) o5.2) dX11_set_28 gX11_set_X11_found rfl ⟨rfl, rfl⟩ (by decide +kernel) ⟨by decide, by decide⟩ ⟨by decide, by decide⟩ rfl (by decide) rfl rfl (by first | exact Nat.le_of_ble_eq_true rfl | simp [va_rf_cat, vi_cat, vl_cat]) (fun o12 eo12 => ?_)
      show G Γ cvI 5 0 0 31 [(4, va_rf v4), (0, va_rf a0), (1, .int x1), (2, .int x2), (3, .int x3)] [.int o12.1] o12.2 _
      exact g_iret C dX11_set_31 ⟨by decide, by decide⟩
abbrev rmX11_drop : Room := { frames := 2, cells := 0, slots := 0, locals := 42 }
theorem flX11_drop_11 : Cond.fieldLink RX11 11 "LightLines" "sheets" "[LLightLines$Sheet;" ∈ wsX11_drop := by decide +kernel
theorem flX11_drop_83 : Cond.fieldLink RX11 83 "LightLines$Sheet" "lane" "I" ∈ wsX11_drop := by decide +kernel
theorem flX11_drop_97 : Cond.fieldLink RX11 97 "LightLines$Sheet" "size" "I" ∈ wsX11_drop := by decide +kernel
set_option maxRecDepth 100000 in
theorem ulX11_drop_X11 : ∀ w ∈ u_ws RX11 TX11 7, w ∈ wsX11_drop := by decide +kernel
set_option maxRecDepth 100000 in
theorem ulX11_drop_X5 : ∀ w ∈ u_ws RX5 TX5 3, w ∈ wsX11_drop := by decide +kernel
set_option maxHeartbeats 4000000 in
set_option maxRecDepth 100000 in
theorem m_X11_drop (a0 : Option Nat) (x1 : Int32) (S : St) : ∀ l D cy H0 o, f_X11_drop a0 x1 S = some o → Met l yX11_drop wsX11_drop rmX11_drop (Pq D cy H0 [va_rf a0, .int x1] S) (Qx D cy H0 (cvI o)) 0 0 (fun q => H0.size ≤ q) := by
  refine met_of (cc := cX11_drop) (maxL := 3) (ret := (some .int)) [va_rf a0, .int x1] [(0, va_rf a0), (1, .int x1)] (by decide) rfl rfl (by simp [lg_sl, va_rf_cat, vi_cat, vl_cat]) (by simp [lv_args, va_rf_cat, vi_cat, vl_cat]) (fun Γ C => ?_)
  unfold f_X11_drop
  refine g_iload_n C dX11_drop_0 rfl 1 rfl ?_
  refine g_callS C (n := 1) [.int x1] [] (m_X11_isSheet x1 S) dX11_drop_1 gX11_drop_X11_isSheet rfl ⟨rfl, rfl⟩ (by decide +kernel) ⟨by decide, by decide⟩ ⟨by decide, by decide⟩ rfl rfl (by first | exact Nat.le_of_ble_eq_true rfl | simp [va_rf_cat, vi_cat, vl_cat]) (fun o1 eo1 => ?_)
  show G Γ cvI 3 0 0 4 [(0, va_rf a0), (1, .int x1)] [.int o1.1] o1.2 _
  refine g_if_ne C (tgt := 10) dX11_drop_4 (by decide) (fun h2 => ?_) (fun h2 => ?_)
  · refine g_ldc C (v := (-1000001 : Int32)) dX11_drop_7 (by decide +kernel) ?_
    exact g_iret C dX11_drop_9 ⟨by decide, by decide⟩
  · refine g_aload_n C dX11_drop_10 rfl 0 rfl ?_
    refine g_getR C (ci := 10) (k := 0) dX11_drop_11 rfl (by decide) (by decide) (by decide) ulX11_drop_X11 flX11_drop_11 rfl (fun v3 ev3 => ?_)
    refine g_iload_n C dX11_drop_14 rfl 1 rfl ?_
    refine g_ald16 C dX11_drop_15 (fun v4 ev4 => ?_)
    refine g_astore_n C (i := 2) (lv2 := [(2, va_rf v4), (0, va_rf a0), (1, .int x1)]) dX11_drop_16 rfl (by decide) (by first | rfl | simp [va_rf_cat, vi_cat, vl_cat]) ?_
    refine g_aload_n C dX11_drop_17 rfl 0 rfl ?_
    refine g_callV C (n := 0) (ci := 5) [] [] (m_X5_isMissing v4 o1.2) dX11_drop_18 gX11_drop_X5_isMissing rfl ⟨rfl, rfl⟩ (by decide +kernel) ⟨by decide, by decide⟩ ⟨by decide, by decide⟩ rfl (by decide) rfl rfl (by first | exact Nat.le_of_ble_eq_true rfl | simp [va_rf_cat, vi_cat, vl_cat]) (fun o5 eo5 => ?_)
    show G Γ cvI 3 0 0 21 [(2, va_rf v4), (0, va_rf a0), (1, .int x1)] [.int o5.1] o5.2 _
    refine g_if_eq C (tgt := 30) dX11_drop_21 (by decide) (fun h6 => ?_) (fun h6 => ?_)
    · refine g_aload_n C dX11_drop_30 rfl 0 rfl ?_
      refine g_iconst C (v := (-1 : Int32)) dX11_drop_31 (by decide) ?_
      refine g_putI C (ci := 5) (k := 1) (ty0 := tyX5) dX11_drop_32 rfl (by decide) (by decide) (by decide) tyX5_ok nmX5 ulX11_drop_X5 flX11_drop_83 rfl rfl ⟨rfl, rfl⟩ (fun S7 eS7 => ?_)
      refine g_aload_n C dX11_drop_35 rfl 1 rfl ?_
      refine g_aload_n C dX11_drop_36 rfl 0 rfl ?_
      refine g_getI C (ci := 5) (k := 2) dX11_drop_37 rfl (by decide) (by decide) (by decide) ulX11_drop_X5 flX11_drop_97 rfl (fun v8 ev8 => ?_)
      refine g_callV C (n := 1) (ci := 10) [.int v8] [] (m_X11_fine a0 v8 S7) dX11_drop_40 gX11_drop_X11_fine rfl ⟨rfl, rfl⟩ (by decide +kernel) ⟨by decide, by decide⟩ ⟨by decide, by decide⟩ rfl (by decide) rfl rfl (by first | exact Nat.le_of_ble_eq_true rfl | simp [va_rf_cat, vi_cat, vl_cat]) (fun o9 eo9 => ?_)
      show G Γ cvI 3 0 0 43 [(2, va_rf v4), (0, va_rf a0), (1, .int x1)] [.int o9.1] o9.2 _
      exact g_iret C dX11_drop_43 ⟨by decide, by decide⟩
    · refine g_aload_n C dX11_drop_24 rfl 1 rfl ?_
      refine g_iconst C (v := (1 : Int32)) dX11_drop_25 (by decide) ?_
      refine g_callV C (n := 1) (ci := 10) [.int (1 : Int32)] [] (m_X11_found a0 (1 : Int32) o5.2) dX11_drop_26 gX11_drop_X11_found rfl ⟨rfl, rfl⟩ (by decide +kernel) ⟨by decide, by decide⟩ ⟨by decide, by decide⟩ rfl (by decide) rfl rfl (by first | exact Nat.le_of_ble_eq_true rfl | simp [va_rf_cat, vi_cat, vl_cat]) (fun o10 eo10 => ?_)
      show G Γ cvI 3 0 0 29 [(2, va_rf v4), (0, va_rf a0), (1, .int x1)] [.int o10.1] o10.2 _
      exact g_iret C dX11_drop_29 ⟨by decide, by decide⟩
abbrev rmX11_strokeOf : Room := { frames := 4, cells := 3, slots := 18, locals := 90 }
set_option maxRecDepth 100000 in
theorem ulX11_strokeOf_X1 : ∀ w ∈ u_ws RX1 TX1 2, w ∈ wsX11_strokeOf := by decide +kernel
set_option maxRecDepth 100000 in
theorem ulX11_strokeOf_X2 : ∀ w ∈ u_ws RX2 TX2 2, w ∈ wsX11_strokeOf := by decide +kernel
set_option maxRecDepth 100000 in
theorem ulX11_strokeOf_X7 : ∀ w ∈ u_ws RX7 TX7 2, w ∈ wsX11_strokeOf := by decide +kernel
set_option maxHeartbeats 4000000 in
set_option maxRecDepth 100000 in
theorem t_X11_strokeOf_105 {Γ : Cx} (C : CF Γ cX11_strokeOf 6 (some (.object "LightLines$Stroke")) wsX11_strokeOf RX11 rmX11_strokeOf 3 18) (a3 : Option Nat) (a4 : Option Nat) (s0 : Int32) (S : St) : G Γ cvR 6 2 16 105 [(3, va_rf a3), (4, va_rf a4)] [.int s0] S (b_X11_strokeOf_105  a3 a4 s0 S) := by
  unfold b_X11_strokeOf_105
  refine g_istore C (i := 5) (lv2 := [(5, .int s0), (3, va_rf a3), (4, va_rf a4)]) dX11_strokeOf_105 (by decide) (by first | rfl | simp [va_rf_cat, vi_cat, vl_cat]) ?_
  refine g_iload C dX11_strokeOf_107 0 rfl ?_
  refine g_if_eq C (tgt := 125) dX11_strokeOf_109 (by decide) (fun h1 => ?_) (fun h1 => ?_)
  · refine g_new C (ci := 1) (ty0 := tyX1) dX11_strokeOf_125 rfl (by decide) tyX1_ok (by decide +kernel) ulX11_strokeOf_X1 (by decide +kernel) (by decide +kernel) (by decide +kernel) ⟨by decide, by decide⟩ (fun S2 => ?_)
    show G Γ cvR 6 3 18 128 [(5, .int s0), (3, va_rf a3), (4, va_rf a4)] [va_rf (some S.2.2.2)] S2 _
    refine g_dupr C dX11_strokeOf_128 ?_
    refine g_aload_n C dX11_strokeOf_129 rfl 1 rfl ?_
    refine g_aload C dX11_strokeOf_130 2 rfl ?_
    refine g_callI C (n := 2) [va_rf a3, va_rf a4] [va_rf (some S.2.2.2)] (m_X1_init S.2.2.2 a3 a4 S2) dX11_strokeOf_132 gX11_strokeOf_X1_init rfl ⟨rfl, rfl⟩ (by decide +kernel) (by decide +kernel) (by decide +kernel) rfl (by decide +kernel) ⟨by decide, by decide⟩ ⟨by decide, by decide⟩ rfl rfl (by first | exact Nat.le_of_ble_eq_true rfl | simp [va_rf_cat, vi_cat, vl_cat]) (fun o3 eo3 => ?_)
    show G Γ cvR 6 3 18 135 [(5, .int s0), (3, va_rf a3), (4, va_rf a4)] [va_rf (some S.2.2.2)] o3 _
    exact g_aret C (Or.inl ⟨_, rfl⟩) dX11_strokeOf_135 ⟨by decide, by decide⟩
  · refine g_new C (ci := 2) (ty0 := tyX2) dX11_strokeOf_112 rfl (by decide) tyX2_ok (by decide +kernel) ulX11_strokeOf_X2 (by decide +kernel) (by decide +kernel) (by decide +kernel) ⟨by decide, by decide⟩ (fun S4 => ?_)
    show G Γ cvR 6 3 18 115 [(5, .int s0), (3, va_rf a3), (4, va_rf a4)] [va_rf (some S.2.2.2)] S4 _
    refine g_dupr C dX11_strokeOf_115 ?_
    refine g_aload_n C dX11_strokeOf_116 rfl 1 rfl ?_
    refine g_aload C dX11_strokeOf_117 2 rfl ?_
    refine g_callI C (n := 2) [va_rf a3, va_rf a4] [va_rf (some S.2.2.2)] (m_X2_init S.2.2.2 a3 a4 S4) dX11_strokeOf_119 gX11_strokeOf_X2_init rfl ⟨rfl, rfl⟩ (by decide +kernel) (by decide +kernel) (by decide +kernel) rfl (by decide +kernel) ⟨by decide, by decide⟩ ⟨by decide, by decide⟩ rfl rfl (by first | exact Nat.le_of_ble_eq_true rfl | simp [va_rf_cat, vi_cat, vl_cat]) (fun o5 eo5 => ?_)
    show G Γ cvR 6 3 18 122 [(5, .int s0), (3, va_rf a3), (4, va_rf a4)] [va_rf (some S.2.2.2)] o5 _
    refine g_goto C (tgt := 135) dX11_strokeOf_122 (by decide) ?_
    exact g_aret C (Or.inl ⟨_, rfl⟩) dX11_strokeOf_135 ⟨by decide, by decide⟩
set_option maxHeartbeats 4000000 in
set_option maxRecDepth 100000 in
theorem t_X11_strokeOf_104 {Γ : Cx} (C : CF Γ cX11_strokeOf 6 (some (.object "LightLines$Stroke")) wsX11_strokeOf RX11 rmX11_strokeOf 3 18) (a3 : Option Nat) (a4 : Option Nat) (S : St) : G Γ cvR 6 2 16 104 [(3, va_rf a3), (4, va_rf a4)] [] S (b_X11_strokeOf_104  a3 a4 S) := by
  unfold b_X11_strokeOf_104
  refine g_iconst C (v := (0 : Int32)) dX11_strokeOf_104 (by decide) ?_
  exact g_sub (lv2 := [(3, va_rf a3), (4, va_rf a4)]) [0, 1] rfl (t_X11_strokeOf_105 C a3 a4 (0 : Int32) S)
set_option maxHeartbeats 4000000 in
set_option maxRecDepth 100000 in
theorem t_X11_strokeOf_55 {Γ : Cx} (C : CF Γ cX11_strokeOf 6 (some (.object "LightLines$Stroke")) wsX11_strokeOf RX11 rmX11_strokeOf 3 18) (x2 : Int32) (a3 : Option Nat) (a4 : Option Nat) (S : St) : G Γ cvR 6 2 16 55 [(2, .int x2), (3, va_rf a3), (4, va_rf a4)] [] S (b_X11_strokeOf_55  x2 a3 a4 S) := by
  unfold b_X11_strokeOf_55
  refine g_iload_n C dX11_strokeOf_55 rfl 0 rfl ?_
  refine g_iconst C (v := (1 : Int32)) dX11_strokeOf_56 (by decide) ?_
  refine g_icmp_ne C (tgt := 71) dX11_strokeOf_57 (by decide) (fun h1 => ?_) (fun h1 => ?_)
  · refine g_new C (ci := 7) (ty0 := tyX7) dX11_strokeOf_60 rfl (by decide) tyX7_ok (by decide +kernel) ulX11_strokeOf_X7 (by decide +kernel) (by decide +kernel) (by decide +kernel) ⟨by decide, by decide⟩ (fun S2 => ?_)
    show G Γ cvR 6 3 18 63 [(2, .int x2), (3, va_rf a3), (4, va_rf a4)] [va_rf (some S.2.2.2)] S2 _
    refine g_dupr C dX11_strokeOf_63 ?_
    refine g_aload_n C dX11_strokeOf_64 rfl 1 rfl ?_
    refine g_aload C dX11_strokeOf_65 2 rfl ?_
    refine g_callI C (n := 2) [va_rf a3, va_rf a4] [va_rf (some S.2.2.2)] (m_X7_init S.2.2.2 a3 a4 S2) dX11_strokeOf_67 gX11_strokeOf_X7_init rfl ⟨rfl, rfl⟩ (by decide +kernel) (by decide +kernel) (by decide +kernel) rfl (by decide +kernel) ⟨by decide, by decide⟩ ⟨by decide, by decide⟩ rfl rfl (by first | exact Nat.le_of_ble_eq_true rfl | simp [va_rf_cat, vi_cat, vl_cat]) (fun o3 eo3 => ?_)
    show G Γ cvR 6 3 18 70 [(2, .int x2), (3, va_rf a3), (4, va_rf a4)] [va_rf (some S.2.2.2)] o3 _
    exact g_aret C (Or.inl ⟨_, rfl⟩) dX11_strokeOf_70 ⟨by decide, by decide⟩
  · refine g_iload_n C dX11_strokeOf_71 rfl 0 rfl ?_
    refine g_iconst C (v := (3 : Int32)) dX11_strokeOf_72 (by decide) ?_
    refine g_icmp_lt C (tgt := 104) dX11_strokeOf_73 (by decide) (fun h4 => ?_) (fun h4 => ?_)
    · exact g_sub (lv2 := [(3, va_rf a3), (4, va_rf a4)]) [1, 2] rfl (t_X11_strokeOf_104 C a3 a4 S)
    · refine g_aload_n C dX11_strokeOf_76 rfl 1 rfl ?_
      refine g_iconst C (v := (0 : Int32)) dX11_strokeOf_77 (by decide) ?_
      refine g_ild C dX11_strokeOf_78 (fun v5 ev5 => ?_)
      refine g_aload_n C dX11_strokeOf_79 rfl 1 rfl ?_
      refine g_iload_n C dX11_strokeOf_80 rfl 0 rfl ?_
      refine g_iconst C (v := (1 : Int32)) dX11_strokeOf_81 (by decide) ?_
      refine g_isub C dX11_strokeOf_82 ?_
      refine g_ild C dX11_strokeOf_83 (fun v6 ev6 => ?_)
      refine g_icmp_ne C (tgt := 104) dX11_strokeOf_84 (by decide) (fun h7 => ?_) (fun h7 => ?_)
      · refine g_aload C dX11_strokeOf_87 2 rfl ?_
        refine g_iconst C (v := (0 : Int32)) dX11_strokeOf_89 (by decide) ?_
        refine g_ild C dX11_strokeOf_90 (fun v8 ev8 => ?_)
        refine g_aload C dX11_strokeOf_91 2 rfl ?_
        refine g_iload_n C dX11_strokeOf_93 rfl 0 rfl ?_
        refine g_iconst C (v := (1 : Int32)) dX11_strokeOf_94 (by decide) ?_
        refine g_isub C dX11_strokeOf_95 ?_
        refine g_ild C dX11_strokeOf_96 (fun v9 ev9 => ?_)
        refine g_icmp_ne C (tgt := 104) dX11_strokeOf_97 (by decide) (fun h10 => ?_) (fun h10 => ?_)
        · refine g_iconst C (v := (1 : Int32)) dX11_strokeOf_100 (by decide) ?_
          refine g_goto C (tgt := 105) dX11_strokeOf_101 (by decide) ?_
          exact g_sub (lv2 := [(3, va_rf a3), (4, va_rf a4)]) [1, 2] rfl (t_X11_strokeOf_105 C a3 a4 (1 : Int32) S)
        · exact g_sub (lv2 := [(3, va_rf a3), (4, va_rf a4)]) [1, 2] rfl (t_X11_strokeOf_104 C a3 a4 S)
      · exact g_sub (lv2 := [(3, va_rf a3), (4, va_rf a4)]) [1, 2] rfl (t_X11_strokeOf_104 C a3 a4 S)
set_option maxHeartbeats 4000000 in
set_option maxRecDepth 100000 in
theorem t_X11_strokeOf_12 {Γ : Cx} (C : CF Γ cX11_strokeOf 6 (some (.object "LightLines$Stroke")) wsX11_strokeOf RX11 rmX11_strokeOf 3 18) : ∀ (n : Nat) (a0 : Option Nat) (x1 : Int32) (x2 : Int32) (a3 : Option Nat) (a4 : Option Nat) (x5 : Int32) (S : St), G Γ cvR 6 2 16 12 [(0, va_rf a0), (1, .int x1), (2, .int x2), (3, va_rf a3), (4, va_rf a4), (5, .int x5)] [] S (b_X11_strokeOf_12  n a0 x1 x2 a3 a4 x5 S) := by
  intro n
  induction n with
  | zero => intro a0 x1 x2 a3 a4 x5 S; exact g_none
  | succ n ih =>
    intro a0 x1 x2 a3 a4 x5 S
    rw [b_X11_strokeOf_12]
    refine g_iload C dX11_strokeOf_12 5 rfl ?_
    refine g_iload_n C dX11_strokeOf_14 rfl 2 rfl ?_
    refine g_icmp_ge C (tgt := 55) dX11_strokeOf_15 (by decide) (fun h1 => ?_) (fun h1 => ?_)
    · exact g_sub (lv2 := [(2, .int x2), (3, va_rf a3), (4, va_rf a4)]) [2, 3, 4] rfl (t_X11_strokeOf_55 C x2 a3 a4 S)
    · refine g_aload_n C dX11_strokeOf_18 rfl 3 rfl ?_
      refine g_iload C dX11_strokeOf_19 5 rfl ?_
      refine g_aload_n C dX11_strokeOf_21 rfl 0 rfl ?_
      refine g_iload_n C dX11_strokeOf_22 rfl 1 rfl ?_
      refine g_iconst C (v := (2 : Int32)) dX11_strokeOf_23 (by decide) ?_
      refine g_iload C dX11_strokeOf_24 5 rfl ?_
      refine g_imul C dX11_strokeOf_26 ?_
      refine g_iadd C dX11_strokeOf_27 ?_
      refine g_callV C (n := 1) (ci := 5) [.int (x1 + ((2 : Int32) * x5))] [.int x5, va_rf a3] (m_X5_item a0 (x1 + ((2 : Int32) * x5)) S) dX11_strokeOf_28 gX11_strokeOf_X5_item rfl ⟨rfl, rfl⟩ (by decide +kernel) ⟨by decide, by decide⟩ ⟨by decide, by decide⟩ rfl (by decide) rfl rfl (by first | exact Nat.le_of_ble_eq_true rfl | simp [va_rf_cat, vi_cat, vl_cat]) (fun o2 eo2 => ?_)
      show G Γ cvR 6 2 16 31 [(0, va_rf a0), (1, .int x1), (2, .int x2), (3, va_rf a3), (4, va_rf a4), (5, .int x5)] [.int o2.1, .int x5, va_rf a3] o2.2 _
      refine g_ist C dX11_strokeOf_31 (fun S3 eS3 => ?_)
      refine g_aload C dX11_strokeOf_32 4 rfl ?_
      refine g_iload C dX11_strokeOf_34 5 rfl ?_
      refine g_aload_n C dX11_strokeOf_36 rfl 0 rfl ?_
      refine g_iload_n C dX11_strokeOf_37 rfl 1 rfl ?_
      refine g_iconst C (v := (2 : Int32)) dX11_strokeOf_38 (by decide) ?_
      refine g_iload C dX11_strokeOf_39 5 rfl ?_
      refine g_imul C dX11_strokeOf_41 ?_
      refine g_iadd C dX11_strokeOf_42 ?_
      refine g_iconst C (v := (1 : Int32)) dX11_strokeOf_43 (by decide) ?_
      refine g_iadd C dX11_strokeOf_44 ?_
      refine g_callV C (n := 1) (ci := 5) [.int ((x1 + ((2 : Int32) * x5)) + (1 : Int32))] [.int x5, va_rf a4] (m_X5_item a0 ((x1 + ((2 : Int32) * x5)) + (1 : Int32)) S3) dX11_strokeOf_45 gX11_strokeOf_X5_item rfl ⟨rfl, rfl⟩ (by decide +kernel) ⟨by decide, by decide⟩ ⟨by decide, by decide⟩ rfl (by decide) rfl rfl (by first | exact Nat.le_of_ble_eq_true rfl | simp [va_rf_cat, vi_cat, vl_cat]) (fun o4 eo4 => ?_)
      show G Γ cvR 6 2 16 48 [(0, va_rf a0), (1, .int x1), (2, .int x2), (3, va_rf a3), (4, va_rf a4), (5, .int x5)] [.int o4.1, .int x5, va_rf a4] o4.2 _
      refine g_ist C dX11_strokeOf_48 (fun S5 eS5 => ?_)
      refine g_iinc1 C dX11_strokeOf_49 5 rfl (by decide) (by decide) (fun y6 => ?_)
      refine g_lveq (lv2 := [(5, .int y6), (0, va_rf a0), (1, .int x1), (2, .int x2), (3, va_rf a3), (4, va_rf a4)]) (by first | rfl | simp [va_rf_cat, vi_cat, vl_cat]) ?_
      refine g_goto C (tgt := 12) dX11_strokeOf_52 (by decide) ?_
      exact g_sub (lv2 := [(0, va_rf a0), (1, .int x1), (2, .int x2), (3, va_rf a3), (4, va_rf a4), (5, .int y6)]) [1, 2, 3, 4, 5, 0] rfl (ih a0 x1 x2 a3 a4 y6 S5)
set_option maxHeartbeats 4000000 in
set_option maxRecDepth 100000 in
theorem m_X11_strokeOf (a0 : Option Nat) (x1 : Int32) (x2 : Int32) (S : St) : ∀ l D cy H0 o, f_X11_strokeOf a0 x1 x2 S = some o → Met l yX11_strokeOf wsX11_strokeOf rmX11_strokeOf (Pq D cy H0 [va_rf a0, .int x1, .int x2] S) (Qx D cy H0 (cvR o)) 3 18 (fun q => H0.size ≤ q) := by
  refine met_of (cc := cX11_strokeOf) (maxL := 6) (ret := (some (.object "LightLines$Stroke"))) [va_rf a0, .int x1, .int x2] [(0, va_rf a0), (1, .int x1), (2, .int x2)] (by decide) rfl rfl (by simp [lg_sl, va_rf_cat, vi_cat, vl_cat]) (by simp [lv_args, va_rf_cat, vi_cat, vl_cat]) (fun Γ C => ?_)
  unfold f_X11_strokeOf
  refine g_iload_n C dX11_strokeOf_0 rfl 2 rfl ?_
  refine g_newa C (kd := 14) (t0 := 1) (mx := 8) (ty := .int) dX11_strokeOf_1 rfl rfl ⟨by decide, by decide⟩ (fun _ => rfl) (fun _ _ h => h) (by decide) (by decide +kernel) ⟨by decide, by decide⟩ (fun S1 eS1 => ?_)
  show G Γ cvR 6 1 8 3 [(0, va_rf a0), (1, .int x1), (2, .int x2)] [va_rf (some S.2.2.2)] S1 _
  refine g_astore_n C (i := 3) (lv2 := [(3, va_rf (some S.2.2.2)), (0, va_rf a0), (1, .int x1), (2, .int x2)]) dX11_strokeOf_3 rfl (by decide) (by first | rfl | simp [va_rf_cat, vi_cat, vl_cat]) ?_
  refine g_iload_n C dX11_strokeOf_4 rfl 3 rfl ?_
  refine g_newa C (kd := 14) (t0 := 1) (mx := 8) (ty := .int) dX11_strokeOf_5 rfl rfl ⟨by decide, by decide⟩ (fun _ => rfl) (fun _ _ h => h) (by decide) (by decide +kernel) ⟨by decide, by decide⟩ (fun S2 eS2 => ?_)
  show G Γ cvR 6 2 16 7 [(3, va_rf (some S.2.2.2)), (0, va_rf a0), (1, .int x1), (2, .int x2)] [va_rf (some S1.2.2.2)] S2 _
  refine g_astore C (i := 4) (lv2 := [(4, va_rf (some S1.2.2.2)), (3, va_rf (some S.2.2.2)), (0, va_rf a0), (1, .int x1), (2, .int x2)]) dX11_strokeOf_7 (by decide) (by first | rfl | simp [va_rf_cat, vi_cat, vl_cat]) ?_
  refine g_iconst C (v := (0 : Int32)) dX11_strokeOf_9 (by decide) ?_
  refine g_istore C (i := 5) (lv2 := [(5, .int (0 : Int32)), (4, va_rf (some S1.2.2.2)), (3, va_rf (some S.2.2.2)), (0, va_rf a0), (1, .int x1), (2, .int x2)]) dX11_strokeOf_10 (by decide) (by first | rfl | simp [va_rf_cat, vi_cat, vl_cat]) ?_
  exact g_sub (lv2 := [(0, va_rf a0), (1, .int x1), (2, .int x2), (3, va_rf (some S.2.2.2)), (4, va_rf (some S1.2.2.2)), (5, .int (0 : Int32))]) [3, 4, 5, 2, 1, 0] rfl (t_X11_strokeOf_12 C FU a0 x1 x2 (some S.2.2.2) (some S1.2.2.2) (0 : Int32) S2)
