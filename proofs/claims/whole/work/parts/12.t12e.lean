abbrev rmX12_zone : Room := { frames := 1, cells := 0, slots := 0, locals := 25 }
theorem flX12_zone_1 : Cond.fieldLink RX12 1 "LightLinesModel" "thrown" "I" ∈ wsX12_zone := by decide +kernel
theorem flX12_zone_48 : Cond.fieldLink RX12 48 "LightLinesModel" "isZone" "[Z" ∈ wsX12_zone := by decide +kernel
theorem flX12_zone_52 : Cond.fieldLink RX12 52 "LightLinesModel" "zone" "[I" ∈ wsX12_zone := by decide +kernel
set_option maxRecDepth 100000 in
theorem ulX12_zone_X12 : ∀ w ∈ u_ws RX12 TX12 42, w ∈ wsX12_zone := by decide +kernel
set_option maxHeartbeats 4000000 in
set_option maxRecDepth 100000 in
theorem m_X12_zone (a0 : Option Nat) (x1 : Int32) (x2 : Int32) (x3 : Int32) (x4 : Int32) (x5 : Int32) (S : St) : ∀ l D cy H0 o, f_X12_zone a0 x1 x2 x3 x4 x5 S = some o → Met l yX12_zone wsX12_zone rmX12_zone (Pq D cy H0 [va_rf a0, .int x1, .int x2, .int x3, .int x4, .int x5] S) (Qx D cy H0 (cvI o)) 0 0 (fun q => H0.size ≤ q) := by
  refine met_of (cc := cX12_zone) (maxL := 6) (ret := (some .int)) [va_rf a0, .int x1, .int x2, .int x3, .int x4, .int x5] [(0, va_rf a0), (1, .int x1), (2, .int x2), (3, .int x3), (4, .int x4), (5, .int x5)] (by decide) rfl rfl (by simp [lg_sl, va_rf_cat, vi_cat, vl_cat]) (by simp [lv_args, va_rf_cat, vi_cat, vl_cat]) (fun Γ C => ?_)
  unfold f_X12_zone
  refine g_aload_n C dX12_zone_0 rfl 0 rfl ?_
  refine g_iconst C (v := (0 : Int32)) dX12_zone_1 (by decide) ?_
  refine g_putI C (ci := 11) (k := 0) (ty0 := tyX12) dX12_zone_2 rfl (by decide) (by decide) (by decide) tyX12_ok nmX12 ulX12_zone_X12 flX12_zone_1 rfl rfl ⟨rfl, rfl⟩ (fun S1 eS1 => ?_)
  refine g_iload_n C dX12_zone_5 rfl 1 rfl ?_
  refine g_i2l C dX12_zone_6 ?_
  refine g_lconst C (v := (0 : Int64)) dX12_zone_7 (by decide) ?_
  refine g_ldc2 C (v := (3 : Int64)) dX12_zone_8 (by decide +kernel) ?_
  refine g_callS C (n := 3) [.long x1.toInt64, .long (0 : Int64), .long (3 : Int64)] [] (m_X12_in x1.toInt64 (0 : Int64) (3 : Int64) S1) dX12_zone_11 gX12_zone_X12_in rfl ⟨rfl, rfl⟩ (by decide +kernel) ⟨by decide, by decide⟩ ⟨by decide, by decide⟩ rfl rfl (by first | exact Nat.le_of_ble_eq_true rfl | simp [va_rf_cat, vi_cat, vl_cat]) (fun o2 eo2 => ?_)
  show G Γ cvI 6 0 0 14 [(0, va_rf a0), (1, .int x1), (2, .int x2), (3, .int x3), (4, .int x4), (5, .int x5)] [.int o2.1] o2.2 _
  refine g_if_eq C (tgt := 69) dX12_zone_14 (by decide) (fun h3 => ?_) (fun h3 => ?_)
  · refine g_ldc C (v := (-1000001 : Int32)) dX12_zone_69 (by decide +kernel) ?_
    exact g_iret C dX12_zone_71 ⟨by decide, by decide⟩
  · refine g_iload_n C dX12_zone_17 rfl 2 rfl ?_
    refine g_i2l C dX12_zone_18 ?_
    refine g_lconst C (v := (0 : Int64)) dX12_zone_19 (by decide) ?_
    refine g_ldc2 C (v := (1000 : Int64)) dX12_zone_20 (by decide +kernel) ?_
    refine g_callS C (n := 3) [.long x2.toInt64, .long (0 : Int64), .long (1000 : Int64)] [] (m_X12_in x2.toInt64 (0 : Int64) (1000 : Int64) o2.2) dX12_zone_23 gX12_zone_X12_in rfl ⟨rfl, rfl⟩ (by decide +kernel) ⟨by decide, by decide⟩ ⟨by decide, by decide⟩ rfl rfl (by first | exact Nat.le_of_ble_eq_true rfl | simp [va_rf_cat, vi_cat, vl_cat]) (fun o4 eo4 => ?_)
    show G Γ cvI 6 0 0 26 [(0, va_rf a0), (1, .int x1), (2, .int x2), (3, .int x3), (4, .int x4), (5, .int x5)] [.int o4.1] o4.2 _
    refine g_if_eq C (tgt := 69) dX12_zone_26 (by decide) (fun h5 => ?_) (fun h5 => ?_)
    · refine g_ldc C (v := (-1000001 : Int32)) dX12_zone_69 (by decide +kernel) ?_
      exact g_iret C dX12_zone_71 ⟨by decide, by decide⟩
    · refine g_iload_n C dX12_zone_29 rfl 3 rfl ?_
      refine g_i2l C dX12_zone_30 ?_
      refine g_lconst C (v := (0 : Int64)) dX12_zone_31 (by decide) ?_
      refine g_ldc2 C (v := (1000 : Int64)) dX12_zone_32 (by decide +kernel) ?_
      refine g_callS C (n := 3) [.long x3.toInt64, .long (0 : Int64), .long (1000 : Int64)] [] (m_X12_in x3.toInt64 (0 : Int64) (1000 : Int64) o4.2) dX12_zone_35 gX12_zone_X12_in rfl ⟨rfl, rfl⟩ (by decide +kernel) ⟨by decide, by decide⟩ ⟨by decide, by decide⟩ rfl rfl (by first | exact Nat.le_of_ble_eq_true rfl | simp [va_rf_cat, vi_cat, vl_cat]) (fun o6 eo6 => ?_)
      show G Γ cvI 6 0 0 38 [(0, va_rf a0), (1, .int x1), (2, .int x2), (3, .int x3), (4, .int x4), (5, .int x5)] [.int o6.1] o6.2 _
      refine g_if_eq C (tgt := 69) dX12_zone_38 (by decide) (fun h7 => ?_) (fun h7 => ?_)
      · refine g_ldc C (v := (-1000001 : Int32)) dX12_zone_69 (by decide +kernel) ?_
        exact g_iret C dX12_zone_71 ⟨by decide, by decide⟩
      · refine g_iload C dX12_zone_41 4 rfl ?_
        refine g_i2l C dX12_zone_43 ?_
        refine g_iload_n C dX12_zone_44 rfl 2 rfl ?_
        refine g_i2l C dX12_zone_45 ?_
        refine g_ldc2 C (v := (1000 : Int64)) dX12_zone_46 (by decide +kernel) ?_
        refine g_callS C (n := 3) [.long x4.toInt64, .long x2.toInt64, .long (1000 : Int64)] [] (m_X12_in x4.toInt64 x2.toInt64 (1000 : Int64) o6.2) dX12_zone_49 gX12_zone_X12_in rfl ⟨rfl, rfl⟩ (by decide +kernel) ⟨by decide, by decide⟩ ⟨by decide, by decide⟩ rfl rfl (by first | exact Nat.le_of_ble_eq_true rfl | simp [va_rf_cat, vi_cat, vl_cat]) (fun o8 eo8 => ?_)
        show G Γ cvI 6 0 0 52 [(0, va_rf a0), (1, .int x1), (2, .int x2), (3, .int x3), (4, .int x4), (5, .int x5)] [.int o8.1] o8.2 _
        refine g_if_eq C (tgt := 69) dX12_zone_52 (by decide) (fun h9 => ?_) (fun h9 => ?_)
        · refine g_ldc C (v := (-1000001 : Int32)) dX12_zone_69 (by decide +kernel) ?_
          exact g_iret C dX12_zone_71 ⟨by decide, by decide⟩
        · refine g_iload C dX12_zone_55 5 rfl ?_
          refine g_i2l C dX12_zone_57 ?_
          refine g_iload_n C dX12_zone_58 rfl 3 rfl ?_
          refine g_i2l C dX12_zone_59 ?_
          refine g_ldc2 C (v := (1000 : Int64)) dX12_zone_60 (by decide +kernel) ?_
          refine g_callS C (n := 3) [.long x5.toInt64, .long x3.toInt64, .long (1000 : Int64)] [] (m_X12_in x5.toInt64 x3.toInt64 (1000 : Int64) o8.2) dX12_zone_63 gX12_zone_X12_in rfl ⟨rfl, rfl⟩ (by decide +kernel) ⟨by decide, by decide⟩ ⟨by decide, by decide⟩ rfl rfl (by first | exact Nat.le_of_ble_eq_true rfl | simp [va_rf_cat, vi_cat, vl_cat]) (fun o10 eo10 => ?_)
          show G Γ cvI 6 0 0 66 [(0, va_rf a0), (1, .int x1), (2, .int x2), (3, .int x3), (4, .int x4), (5, .int x5)] [.int o10.1] o10.2 _
          refine g_if_ne C (tgt := 72) dX12_zone_66 (by decide) (fun h11 => ?_) (fun h11 => ?_)
          · refine g_ldc C (v := (-1000001 : Int32)) dX12_zone_69 (by decide +kernel) ?_
            exact g_iret C dX12_zone_71 ⟨by decide, by decide⟩
          · refine g_aload_n C dX12_zone_72 rfl 0 rfl ?_
            refine g_getR C (ci := 11) (k := 13) dX12_zone_73 rfl (by decide) (by decide) (by decide) ulX12_zone_X12 flX12_zone_48 rfl (fun v12 ev12 => ?_)
            refine g_iload_n C dX12_zone_76 rfl 1 rfl ?_
            refine g_iconst C (v := (1 : Int32)) dX12_zone_77 (by decide) ?_
            refine g_zst C dX12_zone_78 (fun S13 eS13 => ?_)
            refine g_aload_n C dX12_zone_79 rfl 0 rfl ?_
            refine g_getR C (ci := 11) (k := 14) dX12_zone_80 rfl (by decide) (by decide) (by decide) ulX12_zone_X12 flX12_zone_52 rfl (fun v14 ev14 => ?_)
            refine g_iconst C (v := (4 : Int32)) dX12_zone_83 (by decide) ?_
            refine g_iload_n C dX12_zone_84 rfl 1 rfl ?_
            refine g_imul C dX12_zone_85 ?_
            refine g_iload_n C dX12_zone_86 rfl 2 rfl ?_
            refine g_ist C dX12_zone_87 (fun S15 eS15 => ?_)
            refine g_aload_n C dX12_zone_88 rfl 0 rfl ?_
            refine g_getR C (ci := 11) (k := 14) dX12_zone_89 rfl (by decide) (by decide) (by decide) ulX12_zone_X12 flX12_zone_52 rfl (fun v16 ev16 => ?_)
            refine g_iconst C (v := (4 : Int32)) dX12_zone_92 (by decide) ?_
            refine g_iload_n C dX12_zone_93 rfl 1 rfl ?_
            refine g_imul C dX12_zone_94 ?_
            refine g_iconst C (v := (1 : Int32)) dX12_zone_95 (by decide) ?_
            refine g_iadd C dX12_zone_96 ?_
            refine g_iload_n C dX12_zone_97 rfl 3 rfl ?_
            refine g_ist C dX12_zone_98 (fun S17 eS17 => ?_)
            refine g_aload_n C dX12_zone_99 rfl 0 rfl ?_
            refine g_getR C (ci := 11) (k := 14) dX12_zone_100 rfl (by decide) (by decide) (by decide) ulX12_zone_X12 flX12_zone_52 rfl (fun v18 ev18 => ?_)
            refine g_iconst C (v := (4 : Int32)) dX12_zone_103 (by decide) ?_
            refine g_iload_n C dX12_zone_104 rfl 1 rfl ?_
            refine g_imul C dX12_zone_105 ?_
            refine g_iconst C (v := (2 : Int32)) dX12_zone_106 (by decide) ?_
            refine g_iadd C dX12_zone_107 ?_
            refine g_iload C dX12_zone_108 4 rfl ?_
            refine g_ist C dX12_zone_110 (fun S19 eS19 => ?_)
            refine g_aload_n C dX12_zone_111 rfl 0 rfl ?_
            refine g_getR C (ci := 11) (k := 14) dX12_zone_112 rfl (by decide) (by decide) (by decide) ulX12_zone_X12 flX12_zone_52 rfl (fun v20 ev20 => ?_)
            refine g_iconst C (v := (4 : Int32)) dX12_zone_115 (by decide) ?_
            refine g_iload_n C dX12_zone_116 rfl 1 rfl ?_
            refine g_imul C dX12_zone_117 ?_
            refine g_iconst C (v := (3 : Int32)) dX12_zone_118 (by decide) ?_
            refine g_iadd C dX12_zone_119 ?_
            refine g_iload C dX12_zone_120 5 rfl ?_
            refine g_ist C dX12_zone_122 (fun S21 eS21 => ?_)
            refine g_iconst C (v := (1 : Int32)) dX12_zone_123 (by decide) ?_
            exact g_iret C dX12_zone_124 ⟨by decide, by decide⟩
abbrev rmX12_open : Room := { frames := 1, cells := 0, slots := 0, locals := 25 }
theorem flX12_open_1 : Cond.fieldLink RX12 1 "LightLinesModel" "thrown" "I" ∈ wsX12_open := by decide +kernel
theorem flX12_open_48 : Cond.fieldLink RX12 48 "LightLinesModel" "isZone" "[Z" ∈ wsX12_open := by decide +kernel
set_option maxRecDepth 100000 in
theorem ulX12_open_X12 : ∀ w ∈ u_ws RX12 TX12 42, w ∈ wsX12_open := by decide +kernel
set_option maxHeartbeats 4000000 in
set_option maxRecDepth 100000 in
theorem m_X12_open (a0 : Option Nat) (x1 : Int32) (S : St) : ∀ l D cy H0 o, f_X12_open a0 x1 S = some o → Met l yX12_open wsX12_open rmX12_open (Pq D cy H0 [va_rf a0, .int x1] S) (Qx D cy H0 (cvI o)) 0 0 (fun q => H0.size ≤ q) := by
  refine met_of (cc := cX12_open) (maxL := 3) (ret := (some .int)) [va_rf a0, .int x1] [(0, va_rf a0), (1, .int x1)] (by decide) rfl rfl (by simp [lg_sl, va_rf_cat, vi_cat, vl_cat]) (by simp [lv_args, va_rf_cat, vi_cat, vl_cat]) (fun Γ C => ?_)
  unfold f_X12_open
  refine g_aload_n C dX12_open_0 rfl 0 rfl ?_
  refine g_iconst C (v := (0 : Int32)) dX12_open_1 (by decide) ?_
  refine g_putI C (ci := 11) (k := 0) (ty0 := tyX12) dX12_open_2 rfl (by decide) (by decide) (by decide) tyX12_ok nmX12 ulX12_open_X12 flX12_open_1 rfl rfl ⟨rfl, rfl⟩ (fun S1 eS1 => ?_)
  refine g_iload_n C dX12_open_5 rfl 1 rfl ?_
  refine g_i2l C dX12_open_6 ?_
  refine g_lconst C (v := (0 : Int64)) dX12_open_7 (by decide) ?_
  refine g_ldc2 C (v := (3 : Int64)) dX12_open_8 (by decide +kernel) ?_
  refine g_callS C (n := 3) [.long x1.toInt64, .long (0 : Int64), .long (3 : Int64)] [] (m_X12_in x1.toInt64 (0 : Int64) (3 : Int64) S1) dX12_open_11 gX12_open_X12_in rfl ⟨rfl, rfl⟩ (by decide +kernel) ⟨by decide, by decide⟩ ⟨by decide, by decide⟩ rfl rfl (by first | exact Nat.le_of_ble_eq_true rfl | simp [va_rf_cat, vi_cat, vl_cat]) (fun o2 eo2 => ?_)
  show G Γ cvI 3 0 0 14 [(0, va_rf a0), (1, .int x1)] [.int o2.1] o2.2 _
  refine g_if_ne C (tgt := 20) dX12_open_14 (by decide) (fun h3 => ?_) (fun h3 => ?_)
  · refine g_ldc C (v := (-1000001 : Int32)) dX12_open_17 (by decide +kernel) ?_
    exact g_iret C dX12_open_19 ⟨by decide, by decide⟩
  · refine g_aload_n C dX12_open_20 rfl 0 rfl ?_
    refine g_getR C (ci := 11) (k := 13) dX12_open_21 rfl (by decide) (by decide) (by decide) ulX12_open_X12 flX12_open_48 rfl (fun v4 ev4 => ?_)
    refine g_iload_n C dX12_open_24 rfl 1 rfl ?_
    refine g_zld C dX12_open_25 (fun v5 ev5 => ?_)
    refine g_istore_n C (lv2 := [(2, .int v5), (0, va_rf a0), (1, .int x1)]) dX12_open_26 rfl (by decide) (by first | rfl | simp [va_rf_cat, vi_cat, vl_cat]) ?_
    refine g_aload_n C dX12_open_27 rfl 1 rfl ?_
    refine g_getR C (ci := 11) (k := 13) dX12_open_28 rfl (by decide) (by decide) (by decide) ulX12_open_X12 flX12_open_48 rfl (fun v6 ev6 => ?_)
    refine g_iload_n C dX12_open_31 rfl 2 rfl ?_
    refine g_iconst C (v := (0 : Int32)) dX12_open_32 (by decide) ?_
    refine g_zst C dX12_open_33 (fun S7 eS7 => ?_)
    refine g_iload_n C dX12_open_34 rfl 0 rfl ?_
    refine g_if_eq C (tgt := 42) dX12_open_35 (by decide) (fun h8 => ?_) (fun h8 => ?_)
    · refine g_iconst C (v := (0 : Int32)) dX12_open_42 (by decide) ?_
      exact g_iret C dX12_open_43 ⟨by decide, by decide⟩
    · refine g_iconst C (v := (1 : Int32)) dX12_open_38 (by decide) ?_
      refine g_goto C (tgt := 43) dX12_open_39 (by decide) ?_
      exact g_iret C dX12_open_43 ⟨by decide, by decide⟩
abbrev rmX12_tell : Room := { frames := 0, cells := 0, slots := 0, locals := 0 }
theorem flX12_tell_55 : Cond.fieldLink RX12 55 "LightLinesModel" "toldX" "[I" ∈ wsX12_tell := by decide +kernel
theorem flX12_tell_58 : Cond.fieldLink RX12 58 "LightLinesModel" "toldY" "[I" ∈ wsX12_tell := by decide +kernel
theorem flX12_tell_61 : Cond.fieldLink RX12 61 "LightLinesModel" "isTold" "[Z" ∈ wsX12_tell := by decide +kernel
theorem flX12_tell_149 : Cond.fieldLink RX12 149 "LightLinesModel" "ticks" "I" ∈ wsX12_tell := by decide +kernel
theorem flX12_tell_152 : Cond.fieldLink RX12 152 "LightLinesModel" "isFull" "Z" ∈ wsX12_tell := by decide +kernel
set_option maxRecDepth 100000 in
theorem ulX12_tell_X12 : ∀ w ∈ u_ws RX12 TX12 42, w ∈ wsX12_tell := by decide +kernel
set_option maxHeartbeats 4000000 in
set_option maxRecDepth 100000 in
theorem m_X12_tell (a0 : Option Nat) (x1 : Int32) (x2 : Int32) (x3 : Int32) (S : St) : ∀ l D cy H0 o, f_X12_tell a0 x1 x2 x3 S = some o → Met l yX12_tell wsX12_tell rmX12_tell (Pq D cy H0 [va_rf a0, .int x1, .int x2, .int x3] S) (Qx D cy H0 (cvV o)) 0 0 (fun q => H0.size ≤ q) := by
  refine met_of (cc := cX12_tell) (maxL := 4) (ret := none) [va_rf a0, .int x1, .int x2, .int x3] [(0, va_rf a0), (1, .int x1), (2, .int x2), (3, .int x3)] (by decide) rfl rfl (by simp [lg_sl, va_rf_cat, vi_cat, vl_cat]) (by simp [lv_args, va_rf_cat, vi_cat, vl_cat]) (fun Γ C => ?_)
  unfold f_X12_tell
  refine g_aload_n C dX12_tell_0 rfl 0 rfl ?_
  refine g_getI C (ci := 11) (k := 15) dX12_tell_1 rfl (by decide) (by decide) (by decide) ulX12_tell_X12 flX12_tell_149 rfl (fun v1 ev1 => ?_)
  refine g_sipush C (v := (2000 : Int32)) dX12_tell_4 (by decide) ?_
  refine g_icmp_ne C (tgt := 16) dX12_tell_7 (by decide) (fun h2 => ?_) (fun h2 => ?_)
  · refine g_aload_n C dX12_tell_10 rfl 0 rfl ?_
    refine g_iconst C (v := (1 : Int32)) dX12_tell_11 (by decide) ?_
    refine g_putI C (ci := 11) (k := 16) (ty0 := tyX12) dX12_tell_12 rfl (by decide) (by decide) (by decide) tyX12_ok nmX12 ulX12_tell_X12 flX12_tell_152 rfl rfl ⟨rfl, rfl⟩ (fun S3 eS3 => ?_)
    exact g_vret C dX12_tell_15 ⟨by decide, by decide⟩
  · refine g_aload_n C dX12_tell_16 rfl 0 rfl ?_
    refine g_getR C (ci := 11) (k := 17) dX12_tell_17 rfl (by decide) (by decide) (by decide) ulX12_tell_X12 flX12_tell_55 rfl (fun v4 ev4 => ?_)
    refine g_aload_n C dX12_tell_20 rfl 0 rfl ?_
    refine g_getI C (ci := 11) (k := 15) dX12_tell_21 rfl (by decide) (by decide) (by decide) ulX12_tell_X12 flX12_tell_149 rfl (fun v5 ev5 => ?_)
    refine g_iload_n C dX12_tell_24 rfl 1 rfl ?_
    refine g_ist C dX12_tell_25 (fun S6 eS6 => ?_)
    refine g_aload_n C dX12_tell_26 rfl 0 rfl ?_
    refine g_getR C (ci := 11) (k := 18) dX12_tell_27 rfl (by decide) (by decide) (by decide) ulX12_tell_X12 flX12_tell_58 rfl (fun v7 ev7 => ?_)
    refine g_aload_n C dX12_tell_30 rfl 0 rfl ?_
    refine g_getI C (ci := 11) (k := 15) dX12_tell_31 rfl (by decide) (by decide) (by decide) ulX12_tell_X12 flX12_tell_149 rfl (fun v8 ev8 => ?_)
    refine g_iload_n C dX12_tell_34 rfl 2 rfl ?_
    refine g_ist C dX12_tell_35 (fun S9 eS9 => ?_)
    refine g_aload_n C dX12_tell_36 rfl 0 rfl ?_
    refine g_getR C (ci := 11) (k := 19) dX12_tell_37 rfl (by decide) (by decide) (by decide) ulX12_tell_X12 flX12_tell_61 rfl (fun v10 ev10 => ?_)
    refine g_aload_n C dX12_tell_40 rfl 0 rfl ?_
    refine g_getI C (ci := 11) (k := 15) dX12_tell_41 rfl (by decide) (by decide) (by decide) ulX12_tell_X12 flX12_tell_149 rfl (fun v11 ev11 => ?_)
    refine g_iload_n C dX12_tell_44 rfl 3 rfl ?_
    refine g_zst C dX12_tell_45 (fun S12 eS12 => ?_)
    refine g_aload_n C dX12_tell_46 rfl 0 rfl ?_
    refine g_dupr C dX12_tell_47 ?_
    refine g_getI C (ci := 11) (k := 15) dX12_tell_48 rfl (by decide) (by decide) (by decide) ulX12_tell_X12 flX12_tell_149 rfl (fun v13 ev13 => ?_)
    refine g_iconst C (v := (1 : Int32)) dX12_tell_51 (by decide) ?_
    refine g_iadd C dX12_tell_52 ?_
    refine g_putI C (ci := 11) (k := 15) (ty0 := tyX12) dX12_tell_53 rfl (by decide) (by decide) (by decide) tyX12_ok nmX12 ulX12_tell_X12 flX12_tell_149 rfl rfl ⟨rfl, rfl⟩ (fun S14 eS14 => ?_)
    exact g_vret C dX12_tell_56 ⟨by decide, by decide⟩
abbrev rmX12_stay : Room := { frames := 1, cells := 0, slots := 0, locals := 23 }
theorem flX12_stay_156 : Cond.fieldLink RX12 156 "LightLinesModel" "nowX" "I" ∈ wsX12_stay := by decide +kernel
theorem flX12_stay_159 : Cond.fieldLink RX12 159 "LightLinesModel" "nowY" "I" ∈ wsX12_stay := by decide +kernel
set_option maxRecDepth 100000 in
theorem ulX12_stay_X12 : ∀ w ∈ u_ws RX12 TX12 42, w ∈ wsX12_stay := by decide +kernel
set_option maxHeartbeats 4000000 in
set_option maxRecDepth 100000 in
theorem t_X12_stay_2 {Γ : Cx} (C : CF Γ cX12_stay 4 none wsX12_stay RX12 rmX12_stay 0 0) : ∀ (n : Nat) (a0 : Option Nat) (x1 : Int32) (x2 : Int32) (x3 : Int32) (S : St), G Γ cvV 4 0 0 2 [(0, va_rf a0), (1, .int x1), (2, .int x2), (3, .int x3)] [] S (b_X12_stay_2  n a0 x1 x2 x3 S) := by
  intro n
  induction n with
  | zero => intro a0 x1 x2 x3 S; exact g_none
  | succ n ih =>
    intro a0 x1 x2 x3 S
    rw [b_X12_stay_2]
    refine g_iload_n C dX12_stay_2 rfl 3 rfl ?_
    refine g_iload_n C dX12_stay_3 rfl 1 rfl ?_
    refine g_icmp_ge C (tgt := 26) dX12_stay_4 (by decide) (fun h1 => ?_) (fun h1 => ?_)
    · exact g_vret C dX12_stay_26 ⟨by decide, by decide⟩
    · refine g_aload_n C dX12_stay_7 rfl 0 rfl ?_
      refine g_aload_n C dX12_stay_8 rfl 0 rfl ?_
      refine g_getI C (ci := 11) (k := 24) dX12_stay_9 rfl (by decide) (by decide) (by decide) ulX12_stay_X12 flX12_stay_156 rfl (fun v2 ev2 => ?_)
      refine g_aload_n C dX12_stay_12 rfl 0 rfl ?_
      refine g_getI C (ci := 11) (k := 25) dX12_stay_13 rfl (by decide) (by decide) (by decide) ulX12_stay_X12 flX12_stay_159 rfl (fun v3 ev3 => ?_)
      refine g_iload_n C dX12_stay_16 rfl 2 rfl ?_
      refine g_callV C (n := 3) (ci := 11) [.int v2, .int v3, .int x2] [] (m_X12_tell a0 v2 v3 x2 S) dX12_stay_17 gX12_stay_X12_tell rfl ⟨rfl, rfl⟩ (by decide +kernel) ⟨by decide, by decide⟩ ⟨by decide, by decide⟩ rfl (by decide) rfl rfl (by first | exact Nat.le_of_ble_eq_true rfl | simp [va_rf_cat, vi_cat, vl_cat]) (fun o4 eo4 => ?_)
      show G Γ cvV 4 0 0 20 [(0, va_rf a0), (1, .int x1), (2, .int x2), (3, .int x3)] [] o4 _
      refine g_iinc1 C dX12_stay_20 3 rfl (by decide) (by decide) (fun y5 => ?_)
      refine g_lveq (lv2 := [(3, .int y5), (0, va_rf a0), (1, .int x1), (2, .int x2)]) (by first | rfl | simp [va_rf_cat, vi_cat, vl_cat]) ?_
      refine g_goto C (tgt := 2) dX12_stay_23 (by decide) ?_
      exact g_sub (lv2 := [(0, va_rf a0), (1, .int x1), (2, .int x2), (3, .int y5)]) [1, 2, 3, 0] rfl (ih a0 x1 x2 y5 o4)
set_option maxHeartbeats 4000000 in
set_option maxRecDepth 100000 in
theorem m_X12_stay (a0 : Option Nat) (x1 : Int32) (x2 : Int32) (S : St) : ∀ l D cy H0 o, f_X12_stay a0 x1 x2 S = some o → Met l yX12_stay wsX12_stay rmX12_stay (Pq D cy H0 [va_rf a0, .int x1, .int x2] S) (Qx D cy H0 (cvV o)) 0 0 (fun q => H0.size ≤ q) := by
  refine met_of (cc := cX12_stay) (maxL := 4) (ret := none) [va_rf a0, .int x1, .int x2] [(0, va_rf a0), (1, .int x1), (2, .int x2)] (by decide) rfl rfl (by simp [lg_sl, va_rf_cat, vi_cat, vl_cat]) (by simp [lv_args, va_rf_cat, vi_cat, vl_cat]) (fun Γ C => ?_)
  unfold f_X12_stay
  refine g_iconst C (v := (0 : Int32)) dX12_stay_0 (by decide) ?_
  refine g_istore_n C (lv2 := [(3, .int (0 : Int32)), (0, va_rf a0), (1, .int x1), (2, .int x2)]) dX12_stay_1 rfl (by decide) (by first | rfl | simp [va_rf_cat, vi_cat, vl_cat]) ?_
  exact g_sub (lv2 := [(0, va_rf a0), (1, .int x1), (2, .int x2), (3, .int (0 : Int32))]) [1, 2, 3, 0] rfl (t_X12_stay_2 C FU a0 x1 x2 (0 : Int32) S)
abbrev rmX12_move : Room := { frames := 2, cells := 0, slots := 0, locals := 45 }
theorem flX12_move_45 : Cond.fieldLink RX12 45 "LightLinesModel" "rule" "[I" ∈ wsX12_move := by decide +kernel
theorem flX12_move_156 : Cond.fieldLink RX12 156 "LightLinesModel" "nowX" "I" ∈ wsX12_move := by decide +kernel
theorem flX12_move_159 : Cond.fieldLink RX12 159 "LightLinesModel" "nowY" "I" ∈ wsX12_move := by decide +kernel
set_option maxRecDepth 100000 in
theorem ulX12_move_X12 : ∀ w ∈ u_ws RX12 TX12 42, w ∈ wsX12_move := by decide +kernel
set_option maxHeartbeats 4000000 in
set_option maxRecDepth 100000 in
theorem t_X12_move_90 {Γ : Cx} (C : CF Γ cX12_move 7 none wsX12_move RX12 rmX12_move 0 0) (a0 : Option Nat) (x1 : Int32) (x2 : Int32) (S : St) : G Γ cvV 7 0 0 90 [(0, va_rf a0), (1, .int x1), (2, .int x2)] [] S (b_X12_move_90  a0 x1 x2 S) := by
  unfold b_X12_move_90
  refine g_aload_n C dX12_move_90 rfl 0 rfl ?_
  refine g_iload_n C dX12_move_91 rfl 1 rfl ?_
  refine g_putI C (ci := 11) (k := 24) (ty0 := tyX12) dX12_move_92 rfl (by decide) (by decide) (by decide) tyX12_ok nmX12 ulX12_move_X12 flX12_move_156 rfl rfl ⟨rfl, rfl⟩ (fun S1 eS1 => ?_)
  refine g_aload_n C dX12_move_95 rfl 0 rfl ?_
  refine g_iload_n C dX12_move_96 rfl 2 rfl ?_
  refine g_putI C (ci := 11) (k := 25) (ty0 := tyX12) dX12_move_97 rfl (by decide) (by decide) (by decide) tyX12_ok nmX12 ulX12_move_X12 flX12_move_159 rfl rfl ⟨rfl, rfl⟩ (fun S2 eS2 => ?_)
  exact g_vret C dX12_move_100 ⟨by decide, by decide⟩
set_option maxHeartbeats 4000000 in
set_option maxRecDepth 100000 in
theorem t_X12_move_38 {Γ : Cx} (C : CF Γ cX12_move 7 none wsX12_move RX12 rmX12_move 0 0) : ∀ (n : Nat) (a0 : Option Nat) (x1 : Int32) (x2 : Int32) (x3 : Int32) (x5 : Int32) (x6 : Int32) (S : St), G Γ cvV 7 0 0 38 [(0, va_rf a0), (1, .int x1), (2, .int x2), (3, .int x3), (5, .int x5), (6, .int x6)] [] S (b_X12_move_38  n a0 x1 x2 x3 x5 x6 S) := by
  intro n
  induction n with
  | zero => intro a0 x1 x2 x3 x5 x6 S; exact g_none
  | succ n ih =>
    intro a0 x1 x2 x3 x5 x6 S
    rw [b_X12_move_38]
    refine g_iload C dX12_move_38 5 rfl ?_
    refine g_iload C dX12_move_40 4 rfl ?_
    refine g_icmp_gt C (tgt := 90) dX12_move_42 (by decide) (fun h1 => ?_) (fun h1 => ?_)
    · exact g_sub (lv2 := [(0, va_rf a0), (1, .int x1), (2, .int x2)]) [0, 1, 2] rfl (t_X12_move_90 C a0 x1 x2 S)
    · refine g_aload_n C dX12_move_45 rfl 0 rfl ?_
      refine g_aload_n C dX12_move_46 rfl 0 rfl ?_
      refine g_getI C (ci := 11) (k := 24) dX12_move_47 rfl (by decide) (by decide) (by decide) ulX12_move_X12 flX12_move_156 rfl (fun v2 ev2 => ?_)
      refine g_iload_n C dX12_move_50 rfl 1 rfl ?_
      refine g_aload_n C dX12_move_51 rfl 0 rfl ?_
      refine g_getI C (ci := 11) (k := 24) dX12_move_52 rfl (by decide) (by decide) (by decide) ulX12_move_X12 flX12_move_156 rfl (fun v3 ev3 => ?_)
      refine g_isub C dX12_move_55 ?_
      refine g_iload C dX12_move_56 5 rfl ?_
      refine g_imul C dX12_move_58 ?_
      refine g_iload C dX12_move_59 4 rfl ?_
      refine g_idiv C dX12_move_61 (fun v4 ev4 => ?_)
      refine g_iadd C dX12_move_62 ?_
      refine g_aload_n C dX12_move_63 rfl 0 rfl ?_
      refine g_getI C (ci := 11) (k := 25) dX12_move_64 rfl (by decide) (by decide) (by decide) ulX12_move_X12 flX12_move_159 rfl (fun v5 ev5 => ?_)
      refine g_iload_n C dX12_move_67 rfl 2 rfl ?_
      refine g_aload_n C dX12_move_68 rfl 0 rfl ?_
      refine g_getI C (ci := 11) (k := 25) dX12_move_69 rfl (by decide) (by decide) (by decide) ulX12_move_X12 flX12_move_159 rfl (fun v6 ev6 => ?_)
      refine g_isub C dX12_move_72 ?_
      refine g_iload C dX12_move_73 5 rfl ?_
      refine g_imul C dX12_move_75 ?_
      refine g_iload C dX12_move_76 4 rfl ?_
      refine g_idiv C dX12_move_78 (fun v7 ev7 => ?_)
      refine g_iadd C dX12_move_79 ?_
      refine g_iload_n C dX12_move_80 rfl 3 rfl ?_
      refine g_callV C (n := 3) (ci := 11) [.int (v2 + v4), .int (v5 + v7), .int x3] [] (m_X12_tell a0 (v2 + v4) (v5 + v7) x3 S) dX12_move_81 gX12_move_X12_tell rfl ⟨rfl, rfl⟩ (by decide +kernel) ⟨by decide, by decide⟩ ⟨by decide, by decide⟩ rfl (by decide) rfl rfl (by first | exact Nat.le_of_ble_eq_true rfl | simp [va_rf_cat, vi_cat, vl_cat]) (fun o8 eo8 => ?_)
      show G Γ cvV 7 0 0 84 [(0, va_rf a0), (1, .int x1), (2, .int x2), (3, .int x3), (5, .int x5), (6, .int x6)] [] o8 _
      refine g_iinc1 C dX12_move_84 5 rfl (by decide) (by decide) (fun y9 => ?_)
      refine g_lveq (lv2 := [(6, .int y9), (0, va_rf a0), (1, .int x1), (2, .int x2), (3, .int x3), (5, .int x5)]) (by first | rfl | simp [va_rf_cat, vi_cat, vl_cat]) ?_
      refine g_goto C (tgt := 38) dX12_move_87 (by decide) ?_
      exact g_sub (lv2 := [(0, va_rf a0), (1, .int x1), (2, .int x2), (3, .int x3), (5, .int x5), (6, .int y9)]) [1, 2, 3, 4, 5, 0] rfl (ih a0 x1 x2 x3 x5 y9 o8)
set_option maxHeartbeats 4000000 in
set_option maxRecDepth 100000 in
theorem m_X12_move (a0 : Option Nat) (x1 : Int32) (x2 : Int32) (x3 : Int32) (S : St) : ∀ l D cy H0 o, f_X12_move a0 x1 x2 x3 S = some o → Met l yX12_move wsX12_move rmX12_move (Pq D cy H0 [va_rf a0, .int x1, .int x2, .int x3] S) (Qx D cy H0 (cvV o)) 0 0 (fun q => H0.size ≤ q) := by
  refine met_of (cc := cX12_move) (maxL := 7) (ret := none) [va_rf a0, .int x1, .int x2, .int x3] [(0, va_rf a0), (1, .int x1), (2, .int x2), (3, .int x3)] (by decide) rfl rfl (by simp [lg_sl, va_rf_cat, vi_cat, vl_cat]) (by simp [lv_args, va_rf_cat, vi_cat, vl_cat]) (fun Γ C => ?_)
  unfold f_X12_move
  refine g_aload_n C dX12_move_0 rfl 0 rfl ?_
  refine g_getI C (ci := 11) (k := 24) dX12_move_1 rfl (by decide) (by decide) (by decide) ulX12_move_X12 flX12_move_156 rfl (fun v1 ev1 => ?_)
  refine g_aload_n C dX12_move_4 rfl 0 rfl ?_
  refine g_getI C (ci := 11) (k := 25) dX12_move_5 rfl (by decide) (by decide) (by decide) ulX12_move_X12 flX12_move_159 rfl (fun v2 ev2 => ?_)
  refine g_iload_n C dX12_move_8 rfl 1 rfl ?_
  refine g_iload_n C dX12_move_9 rfl 2 rfl ?_
  refine g_callS C (n := 4) [.int v1, .int v2, .int x1, .int x2] [] (m_X12_way v1 v2 x1 x2 S) dX12_move_10 gX12_move_X12_way rfl ⟨rfl, rfl⟩ (by decide +kernel) ⟨by decide, by decide⟩ ⟨by decide, by decide⟩ rfl rfl (by first | exact Nat.le_of_ble_eq_true rfl | simp [va_rf_cat, vi_cat, vl_cat]) (fun o3 eo3 => ?_)
  show G Γ cvV 7 0 0 13 [(0, va_rf a0), (1, .int x1), (2, .int x2), (3, .int x3)] [.int o3.1] o3.2 _
  refine g_istore C (lv2 := [(4, .int o3.1), (0, va_rf a0), (1, .int x1), (2, .int x2), (3, .int x3)]) dX12_move_13 (by decide) (by first | rfl | simp [va_rf_cat, vi_cat, vl_cat]) ?_
  refine g_iload C dX12_move_15 0 rfl ?_
  refine g_aload_n C dX12_move_17 rfl 1 rfl ?_
  refine g_getR C (ci := 11) (k := 12) dX12_move_18 rfl (by decide) (by decide) (by decide) ulX12_move_X12 flX12_move_45 rfl (fun v4 ev4 => ?_)
  refine g_iconst C (v := (0 : Int32)) dX12_move_21 (by decide) ?_
  refine g_ild C dX12_move_22 (fun v5 ev5 => ?_)
  refine g_iadd C dX12_move_23 ?_
  refine g_iconst C (v := (1 : Int32)) dX12_move_24 (by decide) ?_
  refine g_isub C dX12_move_25 ?_
  refine g_aload_n C dX12_move_26 rfl 1 rfl ?_
  refine g_getR C (ci := 11) (k := 12) dX12_move_27 rfl (by decide) (by decide) (by decide) ulX12_move_X12 flX12_move_45 rfl (fun v6 ev6 => ?_)
  refine g_iconst C (v := (0 : Int32)) dX12_move_30 (by decide) ?_
  refine g_ild C dX12_move_31 (fun v7 ev7 => ?_)
  refine g_idiv C dX12_move_32 (fun v8 ev8 => ?_)
  refine g_istore C (lv2 := [(5, .int v8), (4, .int o3.1), (0, va_rf a0), (1, .int x1), (2, .int x2), (3, .int x3)]) dX12_move_33 (by decide) (by first | rfl | simp [va_rf_cat, vi_cat, vl_cat]) ?_
  refine g_iconst C (v := (1 : Int32)) dX12_move_35 (by decide) ?_
  refine g_istore C (lv2 := [(6, .int (1 : Int32)), (5, .int v8), (4, .int o3.1), (0, va_rf a0), (1, .int x1), (2, .int x2), (3, .int x3)]) dX12_move_36 (by decide) (by first | rfl | simp [va_rf_cat, vi_cat, vl_cat]) ?_
  exact g_sub (lv2 := [(0, va_rf a0), (1, .int x1), (2, .int x2), (3, .int x3), (5, .int v8), (6, .int (1 : Int32))]) [3, 4, 5, 6, 1, 0] rfl (t_X12_move_38 C FU a0 x1 x2 x3 v8 (1 : Int32) o3.2)
abbrev rmX12_holds : Room := { frames := 0, cells := 0, slots := 0, locals := 0 }
theorem flX12_holds_30 : Cond.fieldLink RX12 30 "LightLinesModel" "px" "[I" ∈ wsX12_holds := by decide +kernel
theorem flX12_holds_33 : Cond.fieldLink RX12 33 "LightLinesModel" "py" "[I" ∈ wsX12_holds := by decide +kernel
set_option maxRecDepth 100000 in
theorem ulX12_holds_X12 : ∀ w ∈ u_ws RX12 TX12 42, w ∈ wsX12_holds := by decide +kernel
set_option maxHeartbeats 4000000 in
set_option maxRecDepth 100000 in
theorem m_X12_holds (a0 : Option Nat) (x1 : Int32) (x2 : Int32) (x3 : Int32) (S : St) : ∀ l D cy H0 o, f_X12_holds a0 x1 x2 x3 S = some o → Met l yX12_holds wsX12_holds rmX12_holds (Pq D cy H0 [va_rf a0, .int x1, .int x2, .int x3] S) (Qx D cy H0 (cvI o)) 0 0 (fun q => H0.size ≤ q) := by
  refine met_of (cc := cX12_holds) (maxL := 8) (ret := (some .int)) [va_rf a0, .int x1, .int x2, .int x3] [(0, va_rf a0), (1, .int x1), (2, .int x2), (3, .int x3)] (by decide) rfl rfl (by simp [lg_sl, va_rf_cat, vi_cat, vl_cat]) (by simp [lv_args, va_rf_cat, vi_cat, vl_cat]) (fun Γ C => ?_)
  unfold f_X12_holds
  refine g_aload_n C dX12_holds_0 rfl 0 rfl ?_
  refine g_getR C (ci := 11) (k := 7) dX12_holds_1 rfl (by decide) (by decide) (by decide) ulX12_holds_X12 flX12_holds_30 rfl (fun v1 ev1 => ?_)
  refine g_iload_n C dX12_holds_4 rfl 2 rfl ?_
  refine g_ild C dX12_holds_5 (fun v2 ev2 => ?_)
  refine g_aload_n C dX12_holds_6 rfl 0 rfl ?_
  refine g_getR C (ci := 11) (k := 7) dX12_holds_7 rfl (by decide) (by decide) (by decide) ulX12_holds_X12 flX12_holds_30 rfl (fun v3 ev3 => ?_)
  refine g_iload_n C dX12_holds_10 rfl 1 rfl ?_
  refine g_ild C dX12_holds_11 (fun v4 ev4 => ?_)
  refine g_isub C dX12_holds_12 ?_
  refine g_topi (fun y5 => ?_)
  refine g_istore C (lv2 := [(4, .int y5), (0, va_rf a0), (1, .int x1), (2, .int x2), (3, .int x3)]) dX12_holds_13 (by decide) (by first | rfl | simp [va_rf_cat, vi_cat, vl_cat]) ?_
  refine g_aload_n C dX12_holds_15 rfl 1 rfl ?_
  refine g_getR C (ci := 11) (k := 8) dX12_holds_16 rfl (by decide) (by decide) (by decide) ulX12_holds_X12 flX12_holds_33 rfl (fun v6 ev6 => ?_)
  refine g_iload_n C dX12_holds_19 rfl 3 rfl ?_
  refine g_ild C dX12_holds_20 (fun v7 ev7 => ?_)
  refine g_aload_n C dX12_holds_21 rfl 1 rfl ?_
  refine g_getR C (ci := 11) (k := 8) dX12_holds_22 rfl (by decide) (by decide) (by decide) ulX12_holds_X12 flX12_holds_33 rfl (fun v8 ev8 => ?_)
  refine g_iload_n C dX12_holds_25 rfl 2 rfl ?_
  refine g_ild C dX12_holds_26 (fun v9 ev9 => ?_)
  refine g_isub C dX12_holds_27 ?_
  refine g_topi (fun y10 => ?_)
  refine g_istore C (lv2 := [(5, .int y10), (4, .int y5), (0, va_rf a0), (1, .int x1), (2, .int x2), (3, .int x3)]) dX12_holds_28 (by decide) (by first | rfl | simp [va_rf_cat, vi_cat, vl_cat]) ?_
  refine g_aload_n C dX12_holds_30 rfl 2 rfl ?_
  refine g_getR C (ci := 11) (k := 7) dX12_holds_31 rfl (by decide) (by decide) (by decide) ulX12_holds_X12 flX12_holds_30 rfl (fun v11 ev11 => ?_)
  refine g_iload_n C dX12_holds_34 rfl 5 rfl ?_
  refine g_ild C dX12_holds_35 (fun v12 ev12 => ?_)
  refine g_aload_n C dX12_holds_36 rfl 2 rfl ?_
  refine g_getR C (ci := 11) (k := 7) dX12_holds_37 rfl (by decide) (by decide) (by decide) ulX12_holds_X12 flX12_holds_30 rfl (fun v13 ev13 => ?_)
  refine g_iload_n C dX12_holds_40 rfl 4 rfl ?_
  refine g_ild C dX12_holds_41 (fun v14 ev14 => ?_)
  refine g_isub C dX12_holds_42 ?_
  refine g_topi (fun y15 => ?_)
  refine g_istore C (lv2 := [(6, .int y15), (5, .int y10), (4, .int y5), (0, va_rf a0), (1, .int x1), (2, .int x2), (3, .int x3)]) dX12_holds_43 (by decide) (by first | rfl | simp [va_rf_cat, vi_cat, vl_cat]) ?_
  refine g_aload_n C dX12_holds_45 rfl 3 rfl ?_
  refine g_getR C (ci := 11) (k := 8) dX12_holds_46 rfl (by decide) (by decide) (by decide) ulX12_holds_X12 flX12_holds_33 rfl (fun v16 ev16 => ?_)
  refine g_iload_n C dX12_holds_49 rfl 6 rfl ?_
  refine g_ild C dX12_holds_50 (fun v17 ev17 => ?_)
  refine g_aload_n C dX12_holds_51 rfl 3 rfl ?_
  refine g_getR C (ci := 11) (k := 8) dX12_holds_52 rfl (by decide) (by decide) (by decide) ulX12_holds_X12 flX12_holds_33 rfl (fun v18 ev18 => ?_)
  refine g_iload_n C dX12_holds_55 rfl 5 rfl ?_
  refine g_ild C dX12_holds_56 (fun v19 ev19 => ?_)
  refine g_isub C dX12_holds_57 ?_
  refine g_topi (fun y20 => ?_)
  refine g_istore C (lv2 := [(7, .int y20), (6, .int y15), (5, .int y10), (4, .int y5), (0, va_rf a0), (1, .int x1), (2, .int x2), (3, .int x3)]) dX12_holds_58 (by decide) (by first | rfl | simp [va_rf_cat, vi_cat, vl_cat]) ?_
  refine g_iload C dX12_holds_60 3 rfl ?_
  refine g_iload C dX12_holds_62 1 rfl ?_
  refine g_imul C dX12_holds_64 ?_
  refine g_iload C dX12_holds_65 2 rfl ?_
  refine g_iload C dX12_holds_67 0 rfl ?_
  refine g_imul C dX12_holds_69 ?_
  refine g_iadd C dX12_holds_70 ?_
  refine g_if_ge C (tgt := 78) dX12_holds_71 (by decide) (fun h21 => ?_) (fun h21 => ?_)
  · refine g_iload C dX12_holds_78 3 rfl ?_
    refine g_iload C dX12_holds_80 0 rfl ?_
    refine g_imul C dX12_holds_82 ?_
    refine g_iload C dX12_holds_83 2 rfl ?_
    refine g_iload C dX12_holds_85 1 rfl ?_
    refine g_imul C dX12_holds_87 ?_
    refine g_isub C dX12_holds_88 ?_
    refine g_if_eq C (tgt := 96) dX12_holds_89 (by decide) (fun h22 => ?_) (fun h22 => ?_)
    · refine g_iconst C (v := (0 : Int32)) dX12_holds_96 (by decide) ?_
      exact g_iret C dX12_holds_97 ⟨by decide, by decide⟩
    · refine g_iconst C (v := (1 : Int32)) dX12_holds_92 (by decide) ?_
      refine g_goto C (tgt := 97) dX12_holds_93 (by decide) ?_
      exact g_iret C dX12_holds_97 ⟨by decide, by decide⟩
  · refine g_iconst C (v := (2 : Int32)) dX12_holds_74 (by decide) ?_
    refine g_goto C (tgt := 97) dX12_holds_75 (by decide) ?_
    exact g_iret C dX12_holds_97 ⟨by decide, by decide⟩
abbrev rmX12_isLit : Room := { frames := 0, cells := 0, slots := 0, locals := 0 }
theorem flX12_isLit_45 : Cond.fieldLink RX12 45 "LightLinesModel" "rule" "[I" ∈ wsX12_isLit := by decide +kernel
theorem flX12_isLit_61 : Cond.fieldLink RX12 61 "LightLinesModel" "isTold" "[Z" ∈ wsX12_isLit := by decide +kernel
theorem flX12_isLit_70 : Cond.fieldLink RX12 70 "LightLinesModel" "isShut" "[Z" ∈ wsX12_isLit := by decide +kernel
set_option maxRecDepth 100000 in
theorem ulX12_isLit_X12 : ∀ w ∈ u_ws RX12 TX12 42, w ∈ wsX12_isLit := by decide +kernel
set_option maxHeartbeats 4000000 in
set_option maxRecDepth 100000 in
theorem m_X12_isLit (a0 : Option Nat) (x1 : Int32) (S : St) : ∀ l D cy H0 o, f_X12_isLit a0 x1 S = some o → Met l yX12_isLit wsX12_isLit rmX12_isLit (Pq D cy H0 [va_rf a0, .int x1] S) (Qx D cy H0 (cvI o)) 0 0 (fun q => H0.size ≤ q) := by
  refine met_of (cc := cX12_isLit) (maxL := 2) (ret := (some .boolean)) [va_rf a0, .int x1] [(0, va_rf a0), (1, .int x1)] (by decide) rfl rfl (by simp [lg_sl, va_rf_cat, vi_cat, vl_cat]) (by simp [lv_args, va_rf_cat, vi_cat, vl_cat]) (fun Γ C => ?_)
  unfold f_X12_isLit
  refine g_iload_n C dX12_isLit_0 rfl 1 rfl ?_
  refine g_aload_n C dX12_isLit_1 rfl 0 rfl ?_
  refine g_getR C (ci := 11) (k := 12) dX12_isLit_2 rfl (by decide) (by decide) (by decide) ulX12_isLit_X12 flX12_isLit_45 rfl (fun v1 ev1 => ?_)
  refine g_iconst C (v := (4 : Int32)) dX12_isLit_5 (by decide) ?_
  refine g_ild C dX12_isLit_6 (fun v2 ev2 => ?_)
  refine g_icmp_lt C (tgt := 39) dX12_isLit_7 (by decide) (fun h3 => ?_) (fun h3 => ?_)
  · refine g_iconst C (v := (0 : Int32)) dX12_isLit_39 (by decide) ?_
    exact g_zret C dX12_isLit_40 ⟨by decide, by decide⟩
  · refine g_aload_n C dX12_isLit_10 rfl 0 rfl ?_
    refine g_getR C (ci := 11) (k := 19) dX12_isLit_11 rfl (by decide) (by decide) (by decide) ulX12_isLit_X12 flX12_isLit_61 rfl (fun v4 ev4 => ?_)
    refine g_iload_n C dX12_isLit_14 rfl 1 rfl ?_
    refine g_aload_n C dX12_isLit_15 rfl 0 rfl ?_
    refine g_getR C (ci := 11) (k := 12) dX12_isLit_16 rfl (by decide) (by decide) (by decide) ulX12_isLit_X12 flX12_isLit_45 rfl (fun v5 ev5 => ?_)
    refine g_iconst C (v := (4 : Int32)) dX12_isLit_19 (by decide) ?_
    refine g_ild C dX12_isLit_20 (fun v6 ev6 => ?_)
    refine g_isub C dX12_isLit_21 ?_
    refine g_zld C dX12_isLit_22 (fun v7 ev7 => ?_)
    refine g_if_eq C (tgt := 39) dX12_isLit_23 (by decide) (fun h8 => ?_) (fun h8 => ?_)
    · refine g_iconst C (v := (0 : Int32)) dX12_isLit_39 (by decide) ?_
      exact g_zret C dX12_isLit_40 ⟨by decide, by decide⟩
    · refine g_aload_n C dX12_isLit_26 rfl 0 rfl ?_
      refine g_getR C (ci := 11) (k := 22) dX12_isLit_27 rfl (by decide) (by decide) (by decide) ulX12_isLit_X12 flX12_isLit_70 rfl (fun v9 ev9 => ?_)
      refine g_iload_n C dX12_isLit_30 rfl 1 rfl ?_
      refine g_zld C dX12_isLit_31 (fun v10 ev10 => ?_)
      refine g_if_ne C (tgt := 39) dX12_isLit_32 (by decide) (fun h11 => ?_) (fun h11 => ?_)
      · refine g_iconst C (v := (1 : Int32)) dX12_isLit_35 (by decide) ?_
        refine g_goto C (tgt := 40) dX12_isLit_36 (by decide) ?_
        exact g_zret C dX12_isLit_40 ⟨by decide, by decide⟩
      · refine g_iconst C (v := (0 : Int32)) dX12_isLit_39 (by decide) ?_
        exact g_zret C dX12_isLit_40 ⟨by decide, by decide⟩
