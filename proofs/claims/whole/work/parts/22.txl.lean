abbrev rmX12_init : Room := { frames := 1, cells := 23, slots := 17143, locals := 24 }
theorem flX12_init_17 : Cond.fieldLink RX12 17 "LightLinesModel" "lane" "[I" ∈ wsX12_init := by decide +kernel
theorem flX12_init_21 : Cond.fieldLink RX12 21 "LightLinesModel" "many" "[I" ∈ wsX12_init := by decide +kernel
theorem flX12_init_24 : Cond.fieldLink RX12 24 "LightLinesModel" "item" "[I" ∈ wsX12_init := by decide +kernel
theorem flX12_init_27 : Cond.fieldLink RX12 27 "LightLinesModel" "points" "[I" ∈ wsX12_init := by decide +kernel
theorem flX12_init_30 : Cond.fieldLink RX12 30 "LightLinesModel" "px" "[I" ∈ wsX12_init := by decide +kernel
theorem flX12_init_33 : Cond.fieldLink RX12 33 "LightLinesModel" "py" "[I" ∈ wsX12_init := by decide +kernel
theorem flX12_init_36 : Cond.fieldLink RX12 36 "LightLinesModel" "order" "[I" ∈ wsX12_init := by decide +kernel
theorem flX12_init_39 : Cond.fieldLink RX12 39 "LightLinesModel" "back" "[I" ∈ wsX12_init := by decide +kernel
theorem flX12_init_42 : Cond.fieldLink RX12 42 "LightLinesModel" "least" "[I" ∈ wsX12_init := by decide +kernel
theorem flX12_init_45 : Cond.fieldLink RX12 45 "LightLinesModel" "rule" "[I" ∈ wsX12_init := by decide +kernel
theorem flX12_init_48 : Cond.fieldLink RX12 48 "LightLinesModel" "isZone" "[Z" ∈ wsX12_init := by decide +kernel
theorem flX12_init_52 : Cond.fieldLink RX12 52 "LightLinesModel" "zone" "[I" ∈ wsX12_init := by decide +kernel
theorem flX12_init_55 : Cond.fieldLink RX12 55 "LightLinesModel" "toldX" "[I" ∈ wsX12_init := by decide +kernel
theorem flX12_init_58 : Cond.fieldLink RX12 58 "LightLinesModel" "toldY" "[I" ∈ wsX12_init := by decide +kernel
theorem flX12_init_61 : Cond.fieldLink RX12 61 "LightLinesModel" "isTold" "[Z" ∈ wsX12_init := by decide +kernel
theorem flX12_init_64 : Cond.fieldLink RX12 64 "LightLinesModel" "mirrorX" "[I" ∈ wsX12_init := by decide +kernel
theorem flX12_init_67 : Cond.fieldLink RX12 67 "LightLinesModel" "mirrorY" "[I" ∈ wsX12_init := by decide +kernel
theorem flX12_init_70 : Cond.fieldLink RX12 70 "LightLinesModel" "isShut" "[Z" ∈ wsX12_init := by decide +kernel
theorem flX12_init_73 : Cond.fieldLink RX12 73 "LightLinesModel" "burns" "[I" ∈ wsX12_init := by decide +kernel
theorem flX12_init_76 : Cond.fieldLink RX12 76 "LightLinesModel" "tape" "[I" ∈ wsX12_init := by decide +kernel
theorem flX12_init_79 : Cond.fieldLink RX12 79 "LightLinesModel" "cue" "[I" ∈ wsX12_init := by decide +kernel
theorem flX12_init_82 : Cond.fieldLink RX12 82 "LightLinesModel" "reads" "[I" ∈ wsX12_init := by decide +kernel
theorem flX12_init_85 : Cond.fieldLink RX12 85 "LightLinesModel" "trace" "[I" ∈ wsX12_init := by decide +kernel
set_option maxRecDepth 100000 in
theorem ulX12_init_X12 : ∀ w ∈ u_ws RX12 TX12 42, w ∈ wsX12_init := by decide +kernel
set_option maxHeartbeats 4000000 in
set_option maxRecDepth 100000 in
theorem m_X12_init (a0 : Nat) (S : St) : ∀ l D cy H0 o, f_X12_init a0 S = some o → Met l yX12_init wsX12_init rmX12_init (Pq D cy H0 [va_rf (some a0)] S) (Qx D cy H0 (cvV o)) 23 17143 (fun q => H0.size ≤ q) := by
  refine met_ofI (cc := cX12_init) (maxL := 1) (ret := none) [va_rf (some a0)] [(0, va_rf (some a0))] (by decide) rfl rfl rfl (by simp [lg_sl, va_rf_cat, vi_cat, vl_cat]) (by simp [lv_args, va_rf_cat, vi_cat, vl_cat]) (fun Γ C hN => ?_)
  unfold f_X12_init
  refine g_aload_n C dX12_init_0 rfl 0 rfl ?_
  refine g_objInit C dX12_init_1 (by decide +kernel) (by decide +kernel) (by decide +kernel) ⟨by decide, by decide⟩ (by first | exact Nat.le_of_ble_eq_true rfl | simp [va_rf_cat, vi_cat, vl_cat]) ?_
  refine g_aload_n C dX12_init_4 rfl 0 rfl ?_
  refine g_bipush C (v := (8 : Int32)) dX12_init_5 (by decide) ?_
  refine g_newa C (kd := 14) (t0 := 1) (mx := 8) (ty := .int) dX12_init_7 rfl rfl ⟨by decide, by decide⟩ (fun _ => rfl) (fun _ _ h => h) (by decide) (by decide +kernel) ⟨by decide, by decide⟩ (fun S1 eS1 => ?_)
  show G Γ cvV 1 1 8 9 [(0, va_rf (some a0))] [va_rf (some S.2.2.2), va_rf (some a0)] S1 _
  refine g_dupr C dX12_init_9 ?_
  refine g_iconst C (v := (0 : Int32)) dX12_init_10 (by decide) ?_
  refine g_iconst C (v := (-1 : Int32)) dX12_init_11 (by decide) ?_
  refine g_ist C dX12_init_12 (fun S2 eS2 => ?_)
  refine g_dupr C dX12_init_13 ?_
  refine g_iconst C (v := (1 : Int32)) dX12_init_14 (by decide) ?_
  refine g_iconst C (v := (-1 : Int32)) dX12_init_15 (by decide) ?_
  refine g_ist C dX12_init_16 (fun S3 eS3 => ?_)
  refine g_dupr C dX12_init_17 ?_
  refine g_iconst C (v := (2 : Int32)) dX12_init_18 (by decide) ?_
  refine g_iconst C (v := (-1 : Int32)) dX12_init_19 (by decide) ?_
  refine g_ist C dX12_init_20 (fun S4 eS4 => ?_)
  refine g_dupr C dX12_init_21 ?_
  refine g_iconst C (v := (3 : Int32)) dX12_init_22 (by decide) ?_
  refine g_iconst C (v := (-1 : Int32)) dX12_init_23 (by decide) ?_
  refine g_ist C dX12_init_24 (fun S5 eS5 => ?_)
  refine g_dupr C dX12_init_25 ?_
  refine g_iconst C (v := (4 : Int32)) dX12_init_26 (by decide) ?_
  refine g_iconst C (v := (-1 : Int32)) dX12_init_27 (by decide) ?_
  refine g_ist C dX12_init_28 (fun S6 eS6 => ?_)
  refine g_dupr C dX12_init_29 ?_
  refine g_iconst C (v := (5 : Int32)) dX12_init_30 (by decide) ?_
  refine g_iconst C (v := (-1 : Int32)) dX12_init_31 (by decide) ?_
  refine g_ist C dX12_init_32 (fun S7 eS7 => ?_)
  refine g_dupr C dX12_init_33 ?_
  refine g_bipush C (v := (6 : Int32)) dX12_init_34 (by decide) ?_
  refine g_iconst C (v := (-1 : Int32)) dX12_init_36 (by decide) ?_
  refine g_ist C dX12_init_37 (fun S8 eS8 => ?_)
  refine g_dupr C dX12_init_38 ?_
  refine g_bipush C (v := (7 : Int32)) dX12_init_39 (by decide) ?_
  refine g_iconst C (v := (-1 : Int32)) dX12_init_41 (by decide) ?_
  refine g_ist C dX12_init_42 (fun S9 eS9 => ?_)
  refine g_putFR C hN (ci := 11) (k := 2) (ty0 := tyX12) dX12_init_43 rfl (by decide) (by decide) (by decide) tyX12_ok nmX12 ulX12_init_X12 flX12_init_17 rfl rfl rfl (rf_fit_a _) (fun S10 eS10 => ?_)
  refine g_aload_n C dX12_init_46 rfl 0 rfl ?_
  refine g_bipush C (v := (8 : Int32)) dX12_init_47 (by decide) ?_
  refine g_newa C (kd := 14) (t0 := 1) (mx := 8) (ty := .int) dX12_init_49 rfl rfl ⟨by decide, by decide⟩ (fun _ => rfl) (fun _ _ h => h) (by decide) (by decide +kernel) ⟨by decide, by decide⟩ (fun S11 eS11 => ?_)
  show G Γ cvV 1 2 16 51 [(0, va_rf (some a0))] [va_rf (some S10.2.2.2), va_rf (some a0)] S11 _
  refine g_putFR C hN (ci := 11) (k := 3) (ty0 := tyX12) dX12_init_51 rfl (by decide) (by decide) (by decide) tyX12_ok nmX12 ulX12_init_X12 flX12_init_21 rfl rfl rfl (rf_fit_a _) (fun S12 eS12 => ?_)
  refine g_aload_n C dX12_init_54 rfl 0 rfl ?_
  refine g_sipush C (v := (320 : Int32)) dX12_init_55 (by decide) ?_
  refine g_newa C (kd := 14) (t0 := 1) (mx := 320) (ty := .int) dX12_init_58 rfl rfl ⟨by decide, by decide⟩ (fun _ => rfl) (fun _ _ h => h) (by decide) (by decide +kernel) ⟨by decide, by decide⟩ (fun S13 eS13 => ?_)
  show G Γ cvV 1 3 336 60 [(0, va_rf (some a0))] [va_rf (some S12.2.2.2), va_rf (some a0)] S13 _
  refine g_putFR C hN (ci := 11) (k := 4) (ty0 := tyX12) dX12_init_60 rfl (by decide) (by decide) (by decide) tyX12_ok nmX12 ulX12_init_X12 flX12_init_24 rfl rfl rfl (rf_fit_a _) (fun S14 eS14 => ?_)
  refine g_aload_n C dX12_init_63 rfl 0 rfl ?_
  refine g_bipush C (v := (8 : Int32)) dX12_init_64 (by decide) ?_
  refine g_newa C (kd := 14) (t0 := 1) (mx := 8) (ty := .int) dX12_init_66 rfl rfl ⟨by decide, by decide⟩ (fun _ => rfl) (fun _ _ h => h) (by decide) (by decide +kernel) ⟨by decide, by decide⟩ (fun S15 eS15 => ?_)
  show G Γ cvV 1 4 344 68 [(0, va_rf (some a0))] [va_rf (some S14.2.2.2), va_rf (some a0)] S15 _
  refine g_putFR C hN (ci := 11) (k := 6) (ty0 := tyX12) dX12_init_68 rfl (by decide) (by decide) (by decide) tyX12_ok nmX12 ulX12_init_X12 flX12_init_27 rfl rfl rfl (rf_fit_a _) (fun S16 eS16 => ?_)
  refine g_aload_n C dX12_init_71 rfl 0 rfl ?_
  refine g_bipush C (v := (64 : Int32)) dX12_init_72 (by decide) ?_
  refine g_newa C (kd := 14) (t0 := 1) (mx := 64) (ty := .int) dX12_init_74 rfl rfl ⟨by decide, by decide⟩ (fun _ => rfl) (fun _ _ h => h) (by decide) (by decide +kernel) ⟨by decide, by decide⟩ (fun S17 eS17 => ?_)
  show G Γ cvV 1 5 408 76 [(0, va_rf (some a0))] [va_rf (some S16.2.2.2), va_rf (some a0)] S17 _
  refine g_putFR C hN (ci := 11) (k := 7) (ty0 := tyX12) dX12_init_76 rfl (by decide) (by decide) (by decide) tyX12_ok nmX12 ulX12_init_X12 flX12_init_30 rfl rfl rfl (rf_fit_a _) (fun S18 eS18 => ?_)
  refine g_aload_n C dX12_init_79 rfl 0 rfl ?_
  refine g_bipush C (v := (64 : Int32)) dX12_init_80 (by decide) ?_
  refine g_newa C (kd := 14) (t0 := 1) (mx := 64) (ty := .int) dX12_init_82 rfl rfl ⟨by decide, by decide⟩ (fun _ => rfl) (fun _ _ h => h) (by decide) (by decide +kernel) ⟨by decide, by decide⟩ (fun S19 eS19 => ?_)
  show G Γ cvV 1 6 472 84 [(0, va_rf (some a0))] [va_rf (some S18.2.2.2), va_rf (some a0)] S19 _
  refine g_putFR C hN (ci := 11) (k := 8) (ty0 := tyX12) dX12_init_84 rfl (by decide) (by decide) (by decide) tyX12_ok nmX12 ulX12_init_X12 flX12_init_33 rfl rfl rfl (rf_fit_a _) (fun S20 eS20 => ?_)
  refine g_aload_n C dX12_init_87 rfl 0 rfl ?_
  refine g_bipush C (v := (8 : Int32)) dX12_init_88 (by decide) ?_
  refine g_newa C (kd := 14) (t0 := 1) (mx := 8) (ty := .int) dX12_init_90 rfl rfl ⟨by decide, by decide⟩ (fun _ => rfl) (fun _ _ h => h) (by decide) (by decide +kernel) ⟨by decide, by decide⟩ (fun S21 eS21 => ?_)
  show G Γ cvV 1 7 480 92 [(0, va_rf (some a0))] [va_rf (some S20.2.2.2), va_rf (some a0)] S21 _
  refine g_putFR C hN (ci := 11) (k := 9) (ty0 := tyX12) dX12_init_92 rfl (by decide) (by decide) (by decide) tyX12_ok nmX12 ulX12_init_X12 flX12_init_36 rfl rfl rfl (rf_fit_a _) (fun S22 eS22 => ?_)
  refine g_aload_n C dX12_init_95 rfl 0 rfl ?_
  refine g_bipush C (v := (8 : Int32)) dX12_init_96 (by decide) ?_
  refine g_newa C (kd := 14) (t0 := 1) (mx := 8) (ty := .int) dX12_init_98 rfl rfl ⟨by decide, by decide⟩ (fun _ => rfl) (fun _ _ h => h) (by decide) (by decide +kernel) ⟨by decide, by decide⟩ (fun S23 eS23 => ?_)
  show G Γ cvV 1 8 488 100 [(0, va_rf (some a0))] [va_rf (some S22.2.2.2), va_rf (some a0)] S23 _
  refine g_putFR C hN (ci := 11) (k := 10) (ty0 := tyX12) dX12_init_100 rfl (by decide) (by decide) (by decide) tyX12_ok nmX12 ulX12_init_X12 flX12_init_39 rfl rfl rfl (rf_fit_a _) (fun S24 eS24 => ?_)
  refine g_aload_n C dX12_init_103 rfl 0 rfl ?_
  refine g_sipush C (v := (4096 : Int32)) dX12_init_104 (by decide) ?_
  refine g_newa C (kd := 14) (t0 := 1) (mx := 4096) (ty := .int) dX12_init_107 rfl rfl ⟨by decide, by decide⟩ (fun _ => rfl) (fun _ _ h => h) (by decide) (by decide +kernel) ⟨by decide, by decide⟩ (fun S25 eS25 => ?_)
  show G Γ cvV 1 9 4584 109 [(0, va_rf (some a0))] [va_rf (some S24.2.2.2), va_rf (some a0)] S25 _
  refine g_putFR C hN (ci := 11) (k := 11) (ty0 := tyX12) dX12_init_109 rfl (by decide) (by decide) (by decide) tyX12_ok nmX12 ulX12_init_X12 flX12_init_42 rfl rfl rfl (rf_fit_a _) (fun S26 eS26 => ?_)
  refine g_aload_n C dX12_init_112 rfl 0 rfl ?_
  refine g_bipush C (v := (6 : Int32)) dX12_init_113 (by decide) ?_
  refine g_newa C (kd := 14) (t0 := 1) (mx := 6) (ty := .int) dX12_init_115 rfl rfl ⟨by decide, by decide⟩ (fun _ => rfl) (fun _ _ h => h) (by decide) (by decide +kernel) ⟨by decide, by decide⟩ (fun S27 eS27 => ?_)
  show G Γ cvV 1 10 4590 117 [(0, va_rf (some a0))] [va_rf (some S26.2.2.2), va_rf (some a0)] S27 _
  refine g_putFR C hN (ci := 11) (k := 12) (ty0 := tyX12) dX12_init_117 rfl (by decide) (by decide) (by decide) tyX12_ok nmX12 ulX12_init_X12 flX12_init_45 rfl rfl rfl (rf_fit_a _) (fun S28 eS28 => ?_)
  refine g_aload_n C dX12_init_120 rfl 0 rfl ?_
  refine g_iconst C (v := (4 : Int32)) dX12_init_121 (by decide) ?_
  refine g_newa C (kd := 15) (t0 := 2) (mx := 4) (ty := .boolean) dX12_init_122 rfl rfl ⟨by decide, by decide⟩ (fun _ => rfl) (fun _ _ h => h) (by decide) (by decide +kernel) ⟨by decide, by decide⟩ (fun S29 eS29 => ?_)
  show G Γ cvV 1 11 4594 124 [(0, va_rf (some a0))] [va_rf (some S28.2.2.2), va_rf (some a0)] S29 _
  refine g_putFR C hN (ci := 11) (k := 13) (ty0 := tyX12) dX12_init_124 rfl (by decide) (by decide) (by decide) tyX12_ok nmX12 ulX12_init_X12 flX12_init_48 rfl rfl rfl (rf_fit_a _) (fun S30 eS30 => ?_)
  refine g_aload_n C dX12_init_127 rfl 0 rfl ?_
  refine g_bipush C (v := (16 : Int32)) dX12_init_128 (by decide) ?_
  refine g_newa C (kd := 14) (t0 := 1) (mx := 16) (ty := .int) dX12_init_130 rfl rfl ⟨by decide, by decide⟩ (fun _ => rfl) (fun _ _ h => h) (by decide) (by decide +kernel) ⟨by decide, by decide⟩ (fun S31 eS31 => ?_)
  show G Γ cvV 1 12 4610 132 [(0, va_rf (some a0))] [va_rf (some S30.2.2.2), va_rf (some a0)] S31 _
  refine g_putFR C hN (ci := 11) (k := 14) (ty0 := tyX12) dX12_init_132 rfl (by decide) (by decide) (by decide) tyX12_ok nmX12 ulX12_init_X12 flX12_init_52 rfl rfl rfl (rf_fit_a _) (fun S32 eS32 => ?_)
  refine g_aload_n C dX12_init_135 rfl 0 rfl ?_
  refine g_sipush C (v := (2000 : Int32)) dX12_init_136 (by decide) ?_
  refine g_newa C (kd := 14) (t0 := 1) (mx := 2000) (ty := .int) dX12_init_139 rfl rfl ⟨by decide, by decide⟩ (fun _ => rfl) (fun _ _ h => h) (by decide) (by decide +kernel) ⟨by decide, by decide⟩ (fun S33 eS33 => ?_)
  show G Γ cvV 1 13 6610 141 [(0, va_rf (some a0))] [va_rf (some S32.2.2.2), va_rf (some a0)] S33 _
  refine g_putFR C hN (ci := 11) (k := 17) (ty0 := tyX12) dX12_init_141 rfl (by decide) (by decide) (by decide) tyX12_ok nmX12 ulX12_init_X12 flX12_init_55 rfl rfl rfl (rf_fit_a _) (fun S34 eS34 => ?_)
  refine g_aload_n C dX12_init_144 rfl 0 rfl ?_
  refine g_sipush C (v := (2000 : Int32)) dX12_init_145 (by decide) ?_
  refine g_newa C (kd := 14) (t0 := 1) (mx := 2000) (ty := .int) dX12_init_148 rfl rfl ⟨by decide, by decide⟩ (fun _ => rfl) (fun _ _ h => h) (by decide) (by decide +kernel) ⟨by decide, by decide⟩ (fun S35 eS35 => ?_)
  show G Γ cvV 1 14 8610 150 [(0, va_rf (some a0))] [va_rf (some S34.2.2.2), va_rf (some a0)] S35 _
  refine g_putFR C hN (ci := 11) (k := 18) (ty0 := tyX12) dX12_init_150 rfl (by decide) (by decide) (by decide) tyX12_ok nmX12 ulX12_init_X12 flX12_init_58 rfl rfl rfl (rf_fit_a _) (fun S36 eS36 => ?_)
  refine g_aload_n C dX12_init_153 rfl 0 rfl ?_
  refine g_sipush C (v := (2000 : Int32)) dX12_init_154 (by decide) ?_
  refine g_newa C (kd := 15) (t0 := 2) (mx := 2000) (ty := .boolean) dX12_init_157 rfl rfl ⟨by decide, by decide⟩ (fun _ => rfl) (fun _ _ h => h) (by decide) (by decide +kernel) ⟨by decide, by decide⟩ (fun S37 eS37 => ?_)
  show G Γ cvV 1 15 10610 159 [(0, va_rf (some a0))] [va_rf (some S36.2.2.2), va_rf (some a0)] S37 _
  refine g_putFR C hN (ci := 11) (k := 19) (ty0 := tyX12) dX12_init_159 rfl (by decide) (by decide) (by decide) tyX12_ok nmX12 ulX12_init_X12 flX12_init_61 rfl rfl rfl (rf_fit_a _) (fun S38 eS38 => ?_)
  refine g_aload_n C dX12_init_162 rfl 0 rfl ?_
  refine g_sipush C (v := (2000 : Int32)) dX12_init_163 (by decide) ?_
  refine g_newa C (kd := 14) (t0 := 1) (mx := 2000) (ty := .int) dX12_init_166 rfl rfl ⟨by decide, by decide⟩ (fun _ => rfl) (fun _ _ h => h) (by decide) (by decide +kernel) ⟨by decide, by decide⟩ (fun S39 eS39 => ?_)
  show G Γ cvV 1 16 12610 168 [(0, va_rf (some a0))] [va_rf (some S38.2.2.2), va_rf (some a0)] S39 _
  refine g_putFR C hN (ci := 11) (k := 20) (ty0 := tyX12) dX12_init_168 rfl (by decide) (by decide) (by decide) tyX12_ok nmX12 ulX12_init_X12 flX12_init_64 rfl rfl rfl (rf_fit_a _) (fun S40 eS40 => ?_)
  refine g_aload_n C dX12_init_171 rfl 0 rfl ?_
  refine g_sipush C (v := (2000 : Int32)) dX12_init_172 (by decide) ?_
  refine g_newa C (kd := 14) (t0 := 1) (mx := 2000) (ty := .int) dX12_init_175 rfl rfl ⟨by decide, by decide⟩ (fun _ => rfl) (fun _ _ h => h) (by decide) (by decide +kernel) ⟨by decide, by decide⟩ (fun S41 eS41 => ?_)
  show G Γ cvV 1 17 14610 177 [(0, va_rf (some a0))] [va_rf (some S40.2.2.2), va_rf (some a0)] S41 _
  refine g_putFR C hN (ci := 11) (k := 21) (ty0 := tyX12) dX12_init_177 rfl (by decide) (by decide) (by decide) tyX12_ok nmX12 ulX12_init_X12 flX12_init_67 rfl rfl rfl (rf_fit_a _) (fun S42 eS42 => ?_)
  refine g_aload_n C dX12_init_180 rfl 0 rfl ?_
  refine g_sipush C (v := (2000 : Int32)) dX12_init_181 (by decide) ?_
  refine g_newa C (kd := 15) (t0 := 2) (mx := 2000) (ty := .boolean) dX12_init_184 rfl rfl ⟨by decide, by decide⟩ (fun _ => rfl) (fun _ _ h => h) (by decide) (by decide +kernel) ⟨by decide, by decide⟩ (fun S43 eS43 => ?_)
  show G Γ cvV 1 18 16610 186 [(0, va_rf (some a0))] [va_rf (some S42.2.2.2), va_rf (some a0)] S43 _
  refine g_putFR C hN (ci := 11) (k := 22) (ty0 := tyX12) dX12_init_186 rfl (by decide) (by decide) (by decide) tyX12_ok nmX12 ulX12_init_X12 flX12_init_70 rfl rfl rfl (rf_fit_a _) (fun S44 eS44 => ?_)
  refine g_aload_n C dX12_init_189 rfl 0 rfl ?_
  refine g_bipush C (v := (121 : Int32)) dX12_init_190 (by decide) ?_
  refine g_newa C (kd := 14) (t0 := 1) (mx := 121) (ty := .int) dX12_init_192 rfl rfl ⟨by decide, by decide⟩ (fun _ => rfl) (fun _ _ h => h) (by decide) (by decide +kernel) ⟨by decide, by decide⟩ (fun S45 eS45 => ?_)
  show G Γ cvV 1 19 16731 194 [(0, va_rf (some a0))] [va_rf (some S44.2.2.2), va_rf (some a0)] S45 _
  refine g_putFR C hN (ci := 11) (k := 23) (ty0 := tyX12) dX12_init_194 rfl (by decide) (by decide) (by decide) tyX12_ok nmX12 ulX12_init_X12 flX12_init_73 rfl rfl rfl (rf_fit_a _) (fun S46 eS46 => ?_)
  refine g_aload_n C dX12_init_197 rfl 0 rfl ?_
  refine g_sipush C (v := (300 : Int32)) dX12_init_198 (by decide) ?_
  refine g_newa C (kd := 14) (t0 := 1) (mx := 300) (ty := .int) dX12_init_201 rfl rfl ⟨by decide, by decide⟩ (fun _ => rfl) (fun _ _ h => h) (by decide) (by decide +kernel) ⟨by decide, by decide⟩ (fun S47 eS47 => ?_)
  show G Γ cvV 1 20 17031 203 [(0, va_rf (some a0))] [va_rf (some S46.2.2.2), va_rf (some a0)] S47 _
  refine g_putFR C hN (ci := 11) (k := 26) (ty0 := tyX12) dX12_init_203 rfl (by decide) (by decide) (by decide) tyX12_ok nmX12 ulX12_init_X12 flX12_init_76 rfl rfl rfl (rf_fit_a _) (fun S48 eS48 => ?_)
  refine g_aload_n C dX12_init_206 rfl 0 rfl ?_
  refine g_bipush C (v := (48 : Int32)) dX12_init_207 (by decide) ?_
  refine g_newa C (kd := 14) (t0 := 1) (mx := 48) (ty := .int) dX12_init_209 rfl rfl ⟨by decide, by decide⟩ (fun _ => rfl) (fun _ _ h => h) (by decide) (by decide +kernel) ⟨by decide, by decide⟩ (fun S49 eS49 => ?_)
  show G Γ cvV 1 21 17079 211 [(0, va_rf (some a0))] [va_rf (some S48.2.2.2), va_rf (some a0)] S49 _
  refine g_putFR C hN (ci := 11) (k := 37) (ty0 := tyX12) dX12_init_211 rfl (by decide) (by decide) (by decide) tyX12_ok nmX12 ulX12_init_X12 flX12_init_79 rfl rfl rfl (rf_fit_a _) (fun S50 eS50 => ?_)
  refine g_aload_n C dX12_init_214 rfl 0 rfl ?_
  refine g_bipush C (v := (48 : Int32)) dX12_init_215 (by decide) ?_
  refine g_newa C (kd := 14) (t0 := 1) (mx := 48) (ty := .int) dX12_init_217 rfl rfl ⟨by decide, by decide⟩ (fun _ => rfl) (fun _ _ h => h) (by decide) (by decide +kernel) ⟨by decide, by decide⟩ (fun S51 eS51 => ?_)
  show G Γ cvV 1 22 17127 219 [(0, va_rf (some a0))] [va_rf (some S50.2.2.2), va_rf (some a0)] S51 _
  refine g_putFR C hN (ci := 11) (k := 39) (ty0 := tyX12) dX12_init_219 rfl (by decide) (by decide) (by decide) tyX12_ok nmX12 ulX12_init_X12 flX12_init_82 rfl rfl rfl (rf_fit_a _) (fun S52 eS52 => ?_)
  refine g_aload_n C dX12_init_222 rfl 0 rfl ?_
  refine g_bipush C (v := (16 : Int32)) dX12_init_223 (by decide) ?_
  refine g_newa C (kd := 14) (t0 := 1) (mx := 16) (ty := .int) dX12_init_225 rfl rfl ⟨by decide, by decide⟩ (fun _ => rfl) (fun _ _ h => h) (by decide) (by decide +kernel) ⟨by decide, by decide⟩ (fun S53 eS53 => ?_)
  show G Γ cvV 1 23 17143 227 [(0, va_rf (some a0))] [va_rf (some S52.2.2.2), va_rf (some a0)] S53 _
  refine g_putFR C hN (ci := 11) (k := 40) (ty0 := tyX12) dX12_init_227 rfl (by decide) (by decide) (by decide) tyX12_ok nmX12 ulX12_init_X12 flX12_init_85 rfl rfl rfl (rf_fit_a _) (fun S54 eS54 => ?_)
  refine g_aload_n C dX12_init_230 rfl 0 rfl ?_
  refine g_getR C (ci := 11) (k := 12) dX12_init_231 rfl (by decide) (by decide) (by decide) ulX12_init_X12 flX12_init_45 rfl (fun v55 ev55 => ?_)
  refine g_iconst C (v := (0 : Int32)) dX12_init_234 (by decide) ?_
  refine g_bipush C (v := (50 : Int32)) dX12_init_235 (by decide) ?_
  refine g_ist C dX12_init_237 (fun S56 eS56 => ?_)
  refine g_aload_n C dX12_init_238 rfl 0 rfl ?_
  refine g_getR C (ci := 11) (k := 12) dX12_init_239 rfl (by decide) (by decide) (by decide) ulX12_init_X12 flX12_init_45 rfl (fun v57 ev57 => ?_)
  refine g_iconst C (v := (1 : Int32)) dX12_init_242 (by decide) ?_
  refine g_iconst C (v := (1 : Int32)) dX12_init_243 (by decide) ?_
  refine g_ist C dX12_init_244 (fun S58 eS58 => ?_)
  refine g_aload_n C dX12_init_245 rfl 0 rfl ?_
  refine g_getR C (ci := 11) (k := 12) dX12_init_246 rfl (by decide) (by decide) (by decide) ulX12_init_X12 flX12_init_45 rfl (fun v59 ev59 => ?_)
  refine g_iconst C (v := (2 : Int32)) dX12_init_249 (by decide) ?_
  refine g_bipush C (v := (8 : Int32)) dX12_init_250 (by decide) ?_
  refine g_ist C dX12_init_252 (fun S60 eS60 => ?_)
  refine g_aload_n C dX12_init_253 rfl 0 rfl ?_
  refine g_getR C (ci := 11) (k := 12) dX12_init_254 rfl (by decide) (by decide) (by decide) ulX12_init_X12 flX12_init_45 rfl (fun v61 ev61 => ?_)
  refine g_iconst C (v := (3 : Int32)) dX12_init_257 (by decide) ?_
  refine g_bipush C (v := (10 : Int32)) dX12_init_258 (by decide) ?_
  refine g_ist C dX12_init_260 (fun S62 eS62 => ?_)
  refine g_aload_n C dX12_init_261 rfl 0 rfl ?_
  refine g_getR C (ci := 11) (k := 12) dX12_init_262 rfl (by decide) (by decide) (by decide) ulX12_init_X12 flX12_init_45 rfl (fun v63 ev63 => ?_)
  refine g_iconst C (v := (4 : Int32)) dX12_init_265 (by decide) ?_
  refine g_iconst C (v := (0 : Int32)) dX12_init_266 (by decide) ?_
  refine g_ist C dX12_init_267 (fun S64 eS64 => ?_)
  refine g_aload_n C dX12_init_268 rfl 0 rfl ?_
  refine g_getR C (ci := 11) (k := 12) dX12_init_269 rfl (by decide) (by decide) (by decide) ulX12_init_X12 flX12_init_45 rfl (fun v65 ev65 => ?_)
  refine g_iconst C (v := (5 : Int32)) dX12_init_272 (by decide) ?_
  refine g_bipush C (v := (40 : Int32)) dX12_init_273 (by decide) ?_
  refine g_ist C dX12_init_275 (fun S66 eS66 => ?_)
  exact g_vret C dX12_init_276 ⟨by decide, by decide⟩
