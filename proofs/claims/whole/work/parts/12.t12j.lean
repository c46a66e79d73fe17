abbrev rmX12_kindOf : Room := { frames := 0, cells := 0, slots := 0, locals := 0 }
theorem flX12_kindOf_27 : Cond.fieldLink RX12 27 "LightLinesModel" "points" "[I" ∈ wsX12_kindOf := by decide +kernel
theorem flX12_kindOf_30 : Cond.fieldLink RX12 30 "LightLinesModel" "px" "[I" ∈ wsX12_kindOf := by decide +kernel
theorem flX12_kindOf_33 : Cond.fieldLink RX12 33 "LightLinesModel" "py" "[I" ∈ wsX12_kindOf := by decide +kernel
set_option maxRecDepth 100000 in
theorem ulX12_kindOf_X12 : ∀ w ∈ u_ws RX12 TX12 42, w ∈ wsX12_kindOf := by decide +kernel
set_option maxHeartbeats 4000000 in
set_option maxRecDepth 100000 in
theorem t_X12_kindOf_67 {Γ : Cx} (C : CF Γ cX12_kindOf 4 (some .int) wsX12_kindOf RX12 rmX12_kindOf 0 0) (x2 : Int32) (s0 : Int32) (S : St) : G Γ cvI 4 0 0 67 [(2, .int x2)] [.int s0] S (b_X12_kindOf_67  x2 s0 S) := by
  unfold b_X12_kindOf_67
  refine g_istore_n C (lv2 := [(3, .int s0), (2, .int x2)]) dX12_kindOf_67 rfl (by decide) (by first | rfl | simp [va_rf_cat, vi_cat, vl_cat]) ?_
  refine g_iload_n C dX12_kindOf_68 rfl 1 rfl ?_
  refine g_iconst C (v := (1 : Int32)) dX12_kindOf_69 (by decide) ?_
  refine g_icmp_ne C (tgt := 77) dX12_kindOf_70 (by decide) (fun h1 => ?_) (fun h1 => ?_)
  · refine g_iconst C (v := (1 : Int32)) dX12_kindOf_73 (by decide) ?_
    refine g_goto C (tgt := 86) dX12_kindOf_74 (by decide) ?_
    exact g_iret C dX12_kindOf_86 ⟨by decide, by decide⟩
  · refine g_iload_n C dX12_kindOf_77 rfl 0 rfl ?_
    refine g_if_eq C (tgt := 85) dX12_kindOf_78 (by decide) (fun h2 => ?_) (fun h2 => ?_)
    · refine g_iconst C (v := (2 : Int32)) dX12_kindOf_85 (by decide) ?_
      exact g_iret C dX12_kindOf_86 ⟨by decide, by decide⟩
    · refine g_iconst C (v := (3 : Int32)) dX12_kindOf_81 (by decide) ?_
      refine g_goto C (tgt := 86) dX12_kindOf_82 (by decide) ?_
      exact g_iret C dX12_kindOf_86 ⟨by decide, by decide⟩
set_option maxHeartbeats 4000000 in
set_option maxRecDepth 100000 in
theorem t_X12_kindOf_66 {Γ : Cx} (C : CF Γ cX12_kindOf 4 (some .int) wsX12_kindOf RX12 rmX12_kindOf 0 0) (x2 : Int32) (S : St) : G Γ cvI 4 0 0 66 [(2, .int x2)] [] S (b_X12_kindOf_66  x2 S) := by
  unfold b_X12_kindOf_66
  refine g_iconst C (v := (0 : Int32)) dX12_kindOf_66 (by decide) ?_
  exact g_sub (lv2 := [(2, .int x2)]) [0] rfl (t_X12_kindOf_67 C x2 (0 : Int32) S)
set_option maxHeartbeats 4000000 in
set_option maxRecDepth 100000 in
theorem m_X12_kindOf (a0 : Option Nat) (x1 : Int32) (S : St) : ∀ l D cy H0 o, f_X12_kindOf a0 x1 S = some o → Met l yX12_kindOf wsX12_kindOf rmX12_kindOf (Pq D cy H0 [va_rf a0, .int x1] S) (Qx D cy H0 (cvI o)) 0 0 (fun q => H0.size ≤ q) := by
  refine met_of (cc := cX12_kindOf) (maxL := 4) (ret := (some .int)) [va_rf a0, .int x1] [(0, va_rf a0), (1, .int x1)] (by decide) rfl rfl (by simp [lg_sl, va_rf_cat, vi_cat, vl_cat]) (by simp [lv_args, va_rf_cat, vi_cat, vl_cat]) (fun Γ C => ?_)
  unfold f_X12_kindOf
  refine g_aload_n C dX12_kindOf_0 rfl 0 rfl ?_
  refine g_getR C (ci := 11) (k := 6) dX12_kindOf_1 rfl (by decide) (by decide) (by decide) ulX12_kindOf_X12 flX12_kindOf_27 rfl (fun v1 ev1 => ?_)
  refine g_iload_n C dX12_kindOf_4 rfl 1 rfl ?_
  refine g_ild C dX12_kindOf_5 (fun v2 ev2 => ?_)
  refine g_istore_n C (lv2 := [(2, .int v2), (0, va_rf a0), (1, .int x1)]) dX12_kindOf_6 rfl (by decide) (by first | rfl | simp [va_rf_cat, vi_cat, vl_cat]) ?_
  refine g_iload_n C dX12_kindOf_7 rfl 0 rfl ?_
  refine g_iconst C (v := (2 : Int32)) dX12_kindOf_8 (by decide) ?_
  refine g_icmp_le C (tgt := 66) dX12_kindOf_9 (by decide) (fun h3 => ?_) (fun h3 => ?_)
  · exact g_sub (lv2 := [(2, .int v2)]) [0] rfl (t_X12_kindOf_66 C v2 S)
  · refine g_aload_n C dX12_kindOf_12 rfl 1 rfl ?_
    refine g_getR C (ci := 11) (k := 7) dX12_kindOf_13 rfl (by decide) (by decide) (by decide) ulX12_kindOf_X12 flX12_kindOf_30 rfl (fun v4 ev4 => ?_)
    refine g_bipush C (v := (8 : Int32)) dX12_kindOf_16 (by decide) ?_
    refine g_iload_n C dX12_kindOf_18 rfl 2 rfl ?_
    refine g_imul C dX12_kindOf_19 ?_
    refine g_ild C dX12_kindOf_20 (fun v5 ev5 => ?_)
    refine g_aload_n C dX12_kindOf_21 rfl 1 rfl ?_
    refine g_getR C (ci := 11) (k := 7) dX12_kindOf_22 rfl (by decide) (by decide) (by decide) ulX12_kindOf_X12 flX12_kindOf_30 rfl (fun v6 ev6 => ?_)
    refine g_bipush C (v := (8 : Int32)) dX12_kindOf_25 (by decide) ?_
    refine g_iload_n C dX12_kindOf_27 rfl 2 rfl ?_
    refine g_imul C dX12_kindOf_28 ?_
    refine g_iload_n C dX12_kindOf_29 rfl 0 rfl ?_
    refine g_iadd C dX12_kindOf_30 ?_
    refine g_iconst C (v := (1 : Int32)) dX12_kindOf_31 (by decide) ?_
    refine g_isub C dX12_kindOf_32 ?_
    refine g_ild C dX12_kindOf_33 (fun v7 ev7 => ?_)
    refine g_icmp_ne C (tgt := 66) dX12_kindOf_34 (by decide) (fun h8 => ?_) (fun h8 => ?_)
    · refine g_aload_n C dX12_kindOf_37 rfl 1 rfl ?_
      refine g_getR C (ci := 11) (k := 8) dX12_kindOf_38 rfl (by decide) (by decide) (by decide) ulX12_kindOf_X12 flX12_kindOf_33 rfl (fun v9 ev9 => ?_)
      refine g_bipush C (v := (8 : Int32)) dX12_kindOf_41 (by decide) ?_
      refine g_iload_n C dX12_kindOf_43 rfl 2 rfl ?_
      refine g_imul C dX12_kindOf_44 ?_
      refine g_ild C dX12_kindOf_45 (fun v10 ev10 => ?_)
      refine g_aload_n C dX12_kindOf_46 rfl 1 rfl ?_
      refine g_getR C (ci := 11) (k := 8) dX12_kindOf_47 rfl (by decide) (by decide) (by decide) ulX12_kindOf_X12 flX12_kindOf_33 rfl (fun v11 ev11 => ?_)
      refine g_bipush C (v := (8 : Int32)) dX12_kindOf_50 (by decide) ?_
      refine g_iload_n C dX12_kindOf_52 rfl 2 rfl ?_
      refine g_imul C dX12_kindOf_53 ?_
      refine g_iload_n C dX12_kindOf_54 rfl 0 rfl ?_
      refine g_iadd C dX12_kindOf_55 ?_
      refine g_iconst C (v := (1 : Int32)) dX12_kindOf_56 (by decide) ?_
      refine g_isub C dX12_kindOf_57 ?_
      refine g_ild C dX12_kindOf_58 (fun v12 ev12 => ?_)
      refine g_icmp_ne C (tgt := 66) dX12_kindOf_59 (by decide) (fun h13 => ?_) (fun h13 => ?_)
      · refine g_iconst C (v := (1 : Int32)) dX12_kindOf_62 (by decide) ?_
        refine g_goto C (tgt := 67) dX12_kindOf_63 (by decide) ?_
        exact g_sub (lv2 := [(2, .int v2)]) [0] rfl (t_X12_kindOf_67 C v2 (1 : Int32) S)
      · exact g_sub (lv2 := [(2, .int v2)]) [0] rfl (t_X12_kindOf_66 C v2 S)
    · exact g_sub (lv2 := [(2, .int v2)]) [0] rfl (t_X12_kindOf_66 C v2 S)
abbrev rmX12_kind : Room := { frames := 2, cells := 0, slots := 0, locals := 46 }
theorem flX12_kind_1 : Cond.fieldLink RX12 1 "LightLinesModel" "thrown" "I" ∈ wsX12_kind := by decide +kernel
set_option maxRecDepth 100000 in
theorem ulX12_kind_X12 : ∀ w ∈ u_ws RX12 TX12 42, w ∈ wsX12_kind := by decide +kernel
set_option maxHeartbeats 4000000 in
set_option maxRecDepth 100000 in
theorem m_X12_kind (a0 : Option Nat) (x1 : Int32) (S : St) : ∀ l D cy H0 o, f_X12_kind a0 x1 S = some o → Met l yX12_kind wsX12_kind rmX12_kind (Pq D cy H0 [va_rf a0, .int x1] S) (Qx D cy H0 (cvI o)) 0 0 (fun q => H0.size ≤ q) := by
  refine met_of (cc := cX12_kind) (maxL := 2) (ret := (some .int)) [va_rf a0, .int x1] [(0, va_rf a0), (1, .int x1)] (by decide) rfl rfl (by simp [lg_sl, va_rf_cat, vi_cat, vl_cat]) (by simp [lv_args, va_rf_cat, vi_cat, vl_cat]) (fun Γ C => ?_)
  unfold f_X12_kind
  refine g_aload_n C dX12_kind_0 rfl 0 rfl ?_
  refine g_iconst C (v := (0 : Int32)) dX12_kind_1 (by decide) ?_
  refine g_putI C (ci := 11) (k := 0) (ty0 := tyX12) dX12_kind_2 rfl (by decide) (by decide) (by decide) tyX12_ok nmX12 ulX12_kind_X12 flX12_kind_1 rfl rfl ⟨rfl, rfl⟩ (fun S1 eS1 => ?_)
  refine g_aload_n C dX12_kind_5 rfl 0 rfl ?_
  refine g_iload_n C dX12_kind_6 rfl 1 rfl ?_
  refine g_callV C (n := 1) (ci := 11) [.int x1] [] (m_X12_isStroke a0 x1 S1) dX12_kind_7 gX12_kind_X12_isStroke rfl ⟨rfl, rfl⟩ (by decide +kernel) ⟨by decide, by decide⟩ ⟨by decide, by decide⟩ rfl (by decide) rfl rfl (by first | exact Nat.le_of_ble_eq_true rfl | simp [va_rf_cat, vi_cat, vl_cat]) (fun o2 eo2 => ?_)
  show G Γ cvI 2 0 0 10 [(0, va_rf a0), (1, .int x1)] [.int o2.1] o2.2 _
  refine g_if_eq C (tgt := 21) dX12_kind_10 (by decide) (fun h3 => ?_) (fun h3 => ?_)
  · refine g_ldc C (v := (-1000001 : Int32)) dX12_kind_21 (by decide +kernel) ?_
    exact g_iret C dX12_kind_23 ⟨by decide, by decide⟩
  · refine g_aload_n C dX12_kind_13 rfl 0 rfl ?_
    refine g_iload_n C dX12_kind_14 rfl 1 rfl ?_
    refine g_callV C (n := 1) (ci := 11) [.int x1] [] (m_X12_kindOf a0 x1 o2.2) dX12_kind_15 gX12_kind_X12_kindOf rfl ⟨rfl, rfl⟩ (by decide +kernel) ⟨by decide, by decide⟩ ⟨by decide, by decide⟩ rfl (by decide) rfl rfl (by first | exact Nat.le_of_ble_eq_true rfl | simp [va_rf_cat, vi_cat, vl_cat]) (fun o4 eo4 => ?_)
    show G Γ cvI 2 0 0 18 [(0, va_rf a0), (1, .int x1)] [.int o4.1] o4.2 _
    refine g_goto C (tgt := 23) dX12_kind_18 (by decide) ?_
    exact g_iret C dX12_kind_23 ⟨by decide, by decide⟩
abbrev rmX12_as : Room := { frames := 2, cells := 0, slots := 0, locals := 46 }
theorem flX12_as_1 : Cond.fieldLink RX12 1 "LightLinesModel" "thrown" "I" ∈ wsX12_as := by decide +kernel
theorem flX12_as_7 : Cond.fieldLink RX12 7 "LightLinesModel" "status" "I" ∈ wsX12_as := by decide +kernel
theorem flX12_as_27 : Cond.fieldLink RX12 27 "LightLinesModel" "points" "[I" ∈ wsX12_as := by decide +kernel
set_option maxRecDepth 100000 in
theorem ulX12_as_X12 : ∀ w ∈ u_ws RX12 TX12 42, w ∈ wsX12_as := by decide +kernel
set_option maxHeartbeats 4000000 in
set_option maxRecDepth 100000 in
theorem t_X12_as_58 {Γ : Cx} (C : CF Γ cX12_as 4 (some .int) wsX12_as RX12 rmX12_as 0 0) (a0 : Option Nat) (x1 : Int32) (S : St) : G Γ cvI 4 0 0 58 [(0, va_rf a0), (1, .int x1)] [] S (b_X12_as_58  a0 x1 S) := by
  unfold b_X12_as_58
  refine g_aload_n C dX12_as_58 rfl 0 rfl ?_
  refine g_getR C (ci := 11) (k := 6) dX12_as_59 rfl (by decide) (by decide) (by decide) ulX12_as_X12 flX12_as_27 rfl (fun v1 ev1 => ?_)
  refine g_iload_n C dX12_as_62 rfl 1 rfl ?_
  refine g_ild C dX12_as_63 (fun v2 ev2 => ?_)
  refine g_goto C (tgt := 72) dX12_as_64 (by decide) ?_
  exact g_iret C dX12_as_72 ⟨by decide, by decide⟩
set_option maxHeartbeats 4000000 in
set_option maxRecDepth 100000 in
theorem t_X12_as_67 {Γ : Cx} (C : CF Γ cX12_as 4 (some .int) wsX12_as RX12 rmX12_as 0 0) (a0 : Option Nat) (S : St) : G Γ cvI 4 0 0 67 [(0, va_rf a0)] [] S (b_X12_as_67  a0 S) := by
  unfold b_X12_as_67
  refine g_aload_n C dX12_as_67 rfl 0 rfl ?_
  refine g_iconst C (v := (3 : Int32)) dX12_as_68 (by decide) ?_
  refine g_callV C (n := 1) (ci := 11) [.int (3 : Int32)] [] (m_X12_found a0 (3 : Int32) S) dX12_as_69 gX12_as_X12_found rfl ⟨rfl, rfl⟩ (by decide +kernel) ⟨by decide, by decide⟩ ⟨by decide, by decide⟩ rfl (by decide) rfl rfl (by first | exact Nat.le_of_ble_eq_true rfl | simp [va_rf_cat, vi_cat, vl_cat]) (fun o1 eo1 => ?_)
  show G Γ cvI 4 0 0 72 [(0, va_rf a0)] [.int o1.1] o1.2 _
  exact g_iret C dX12_as_72 ⟨by decide, by decide⟩
set_option maxHeartbeats 4000000 in
set_option maxRecDepth 100000 in
theorem m_X12_as (a0 : Option Nat) (x1 : Int32) (x2 : Int32) (S : St) : ∀ l D cy H0 o, f_X12_as a0 x1 x2 S = some o → Met l yX12_as wsX12_as rmX12_as (Pq D cy H0 [va_rf a0, .int x1, .int x2] S) (Qx D cy H0 (cvI o)) 0 0 (fun q => H0.size ≤ q) := by
  refine met_of (cc := cX12_as) (maxL := 4) (ret := (some .int)) [va_rf a0, .int x1, .int x2] [(0, va_rf a0), (1, .int x1), (2, .int x2)] (by decide) rfl rfl (by simp [lg_sl, va_rf_cat, vi_cat, vl_cat]) (by simp [lv_args, va_rf_cat, vi_cat, vl_cat]) (fun Γ C => ?_)
  unfold f_X12_as
  refine g_aload_n C dX12_as_0 rfl 0 rfl ?_
  refine g_iconst C (v := (0 : Int32)) dX12_as_1 (by decide) ?_
  refine g_putI C (ci := 11) (k := 0) (ty0 := tyX12) dX12_as_2 rfl (by decide) (by decide) (by decide) tyX12_ok nmX12 ulX12_as_X12 flX12_as_1 rfl rfl ⟨rfl, rfl⟩ (fun S1 eS1 => ?_)
  refine g_aload_n C dX12_as_5 rfl 0 rfl ?_
  refine g_iload_n C dX12_as_6 rfl 1 rfl ?_
  refine g_callV C (n := 1) (ci := 11) [.int x1] [] (m_X12_isStroke a0 x1 S1) dX12_as_7 gX12_as_X12_isStroke rfl ⟨rfl, rfl⟩ (by decide +kernel) ⟨by decide, by decide⟩ ⟨by decide, by decide⟩ rfl (by decide) rfl rfl (by first | exact Nat.le_of_ble_eq_true rfl | simp [va_rf_cat, vi_cat, vl_cat]) (fun o2 eo2 => ?_)
  show G Γ cvI 4 0 0 10 [(0, va_rf a0), (1, .int x1), (2, .int x2)] [.int o2.1] o2.2 _
  refine g_if_eq C (tgt := 25) dX12_as_10 (by decide) (fun h3 => ?_) (fun h3 => ?_)
  · refine g_ldc C (v := (-1000001 : Int32)) dX12_as_25 (by decide +kernel) ?_
    exact g_iret C dX12_as_27 ⟨by decide, by decide⟩
  · refine g_iload_n C dX12_as_13 rfl 2 rfl ?_
    refine g_i2l C dX12_as_14 ?_
    refine g_lconst C (v := (0 : Int64)) dX12_as_15 (by decide) ?_
    refine g_ldc2 C (v := (3 : Int64)) dX12_as_16 (by decide +kernel) ?_
    refine g_callS C (n := 3) [.long x2.toInt64, .long (0 : Int64), .long (3 : Int64)] [] (m_X12_in x2.toInt64 (0 : Int64) (3 : Int64) o2.2) dX12_as_19 gX12_as_X12_in rfl ⟨rfl, rfl⟩ (by decide +kernel) ⟨by decide, by decide⟩ ⟨by decide, by decide⟩ rfl rfl (by first | exact Nat.le_of_ble_eq_true rfl | simp [va_rf_cat, vi_cat, vl_cat]) (fun o4 eo4 => ?_)
    show G Γ cvI 4 0 0 22 [(0, va_rf a0), (1, .int x1), (2, .int x2)] [.int o4.1] o4.2 _
    refine g_if_ne C (tgt := 28) dX12_as_22 (by decide) (fun h5 => ?_) (fun h5 => ?_)
    · refine g_ldc C (v := (-1000001 : Int32)) dX12_as_25 (by decide +kernel) ?_
      exact g_iret C dX12_as_27 ⟨by decide, by decide⟩
    · refine g_aload_n C dX12_as_28 rfl 0 rfl ?_
      refine g_iconst C (v := (0 : Int32)) dX12_as_29 (by decide) ?_
      refine g_putI C (ci := 11) (k := 1) (ty0 := tyX12) dX12_as_30 rfl (by decide) (by decide) (by decide) tyX12_ok nmX12 ulX12_as_X12 flX12_as_7 rfl rfl ⟨rfl, rfl⟩ (fun S6 eS6 => ?_)
      refine g_aload_n C dX12_as_33 rfl 0 rfl ?_
      refine g_iload_n C dX12_as_34 rfl 1 rfl ?_
      refine g_callV C (n := 1) (ci := 11) [.int x1] [] (m_X12_kindOf a0 x1 S6) dX12_as_35 gX12_as_X12_kindOf rfl ⟨rfl, rfl⟩ (by decide +kernel) ⟨by decide, by decide⟩ ⟨by decide, by decide⟩ rfl (by decide) rfl rfl (by first | exact Nat.le_of_ble_eq_true rfl | simp [va_rf_cat, vi_cat, vl_cat]) (fun o7 eo7 => ?_)
      show G Γ cvI 4 0 0 38 [(0, va_rf a0), (1, .int x1), (2, .int x2)] [.int o7.1] o7.2 _
      refine g_istore_n C (lv2 := [(3, .int o7.1), (0, va_rf a0), (1, .int x1), (2, .int x2)]) dX12_as_38 rfl (by decide) (by first | rfl | simp [va_rf_cat, vi_cat, vl_cat]) ?_
      refine g_iload_n C dX12_as_39 rfl 3 rfl ?_
      refine g_if_eq C (tgt := 58) dX12_as_40 (by decide) (fun h8 => ?_) (fun h8 => ?_)
      · exact g_sub (lv2 := [(0, va_rf a0), (1, .int x1)]) [1, 2] rfl (t_X12_as_58 C a0 x1 o7.2)
      · refine g_iload_n C dX12_as_43 rfl 0 rfl ?_
        refine g_iload_n C dX12_as_44 rfl 3 rfl ?_
        refine g_icmp_eq C (tgt := 58) dX12_as_45 (by decide) (fun h9 => ?_) (fun h9 => ?_)
        · exact g_sub (lv2 := [(0, va_rf a0), (1, .int x1)]) [1, 2] rfl (t_X12_as_58 C a0 x1 o7.2)
        · refine g_iload_n C dX12_as_48 rfl 3 rfl ?_
          refine g_iconst C (v := (2 : Int32)) dX12_as_49 (by decide) ?_
          refine g_icmp_ne C (tgt := 67) dX12_as_50 (by decide) (fun h10 => ?_) (fun h10 => ?_)
          · refine g_iload_n C dX12_as_53 rfl 0 rfl ?_
            refine g_iconst C (v := (3 : Int32)) dX12_as_54 (by decide) ?_
            refine g_icmp_ne C (tgt := 67) dX12_as_55 (by decide) (fun h11 => ?_) (fun h11 => ?_)
            · exact g_sub (lv2 := [(0, va_rf a0), (1, .int x1)]) [1, 2] rfl (t_X12_as_58 C a0 x1 o7.2)
            · exact g_sub (lv2 := [(0, va_rf a0)]) [1] rfl (t_X12_as_67 C a0 o7.2)
          · exact g_sub (lv2 := [(0, va_rf a0)]) [1] rfl (t_X12_as_67 C a0 o7.2)
abbrev rmX12_began : Room := { frames := 0, cells := 0, slots := 0, locals := 0 }
theorem flX12_began_85 : Cond.fieldLink RX12 85 "LightLinesModel" "trace" "[I" ∈ wsX12_began := by decide +kernel
theorem flX12_began_273 : Cond.fieldLink RX12 273 "LightLinesModel" "traced" "I" ∈ wsX12_began := by decide +kernel
set_option maxRecDepth 100000 in
theorem ulX12_began_X12 : ∀ w ∈ u_ws RX12 TX12 42, w ∈ wsX12_began := by decide +kernel
set_option maxHeartbeats 4000000 in
set_option maxRecDepth 100000 in
theorem m_X12_began (a0 : Option Nat) (x1 : Int32) (S : St) : ∀ l D cy H0 o, f_X12_began a0 x1 S = some o → Met l yX12_began wsX12_began rmX12_began (Pq D cy H0 [va_rf a0, .int x1] S) (Qx D cy H0 (cvV o)) 0 0 (fun q => H0.size ≤ q) := by
  refine met_of (cc := cX12_began) (maxL := 2) (ret := none) [va_rf a0, .int x1] [(0, va_rf a0), (1, .int x1)] (by decide) rfl rfl (by simp [lg_sl, va_rf_cat, vi_cat, vl_cat]) (by simp [lv_args, va_rf_cat, vi_cat, vl_cat]) (fun Γ C => ?_)
  unfold f_X12_began
  refine g_aload_n C dX12_began_0 rfl 0 rfl ?_
  refine g_getI C (ci := 11) (k := 41) dX12_began_1 rfl (by decide) (by decide) (by decide) ulX12_began_X12 flX12_began_273 rfl (fun v1 ev1 => ?_)
  refine g_bipush C (v := (16 : Int32)) dX12_began_4 (by decide) ?_
  refine g_icmp_ge C (tgt := 29) dX12_began_6 (by decide) (fun h2 => ?_) (fun h2 => ?_)
  · exact g_vret C dX12_began_29 ⟨by decide, by decide⟩
  · refine g_aload_n C dX12_began_9 rfl 0 rfl ?_
    refine g_getR C (ci := 11) (k := 40) dX12_began_10 rfl (by decide) (by decide) (by decide) ulX12_began_X12 flX12_began_85 rfl (fun v3 ev3 => ?_)
    refine g_aload_n C dX12_began_13 rfl 0 rfl ?_
    refine g_getI C (ci := 11) (k := 41) dX12_began_14 rfl (by decide) (by decide) (by decide) ulX12_began_X12 flX12_began_273 rfl (fun v4 ev4 => ?_)
    refine g_iload_n C dX12_began_17 rfl 1 rfl ?_
    refine g_ist C dX12_began_18 (fun S5 eS5 => ?_)
    refine g_aload_n C dX12_began_19 rfl 0 rfl ?_
    refine g_dupr C dX12_began_20 ?_
    refine g_getI C (ci := 11) (k := 41) dX12_began_21 rfl (by decide) (by decide) (by decide) ulX12_began_X12 flX12_began_273 rfl (fun v6 ev6 => ?_)
    refine g_iconst C (v := (1 : Int32)) dX12_began_24 (by decide) ?_
    refine g_iadd C dX12_began_25 ?_
    refine g_putI C (ci := 11) (k := 41) (ty0 := tyX12) dX12_began_26 rfl (by decide) (by decide) (by decide) tyX12_ok nmX12 ulX12_began_X12 flX12_began_273 rfl rfl ⟨rfl, rfl⟩ (fun S7 eS7 => ?_)
    exact g_vret C dX12_began_29 ⟨by decide, by decide⟩
abbrev rmX12_sized : Room := { frames := 2, cells := 0, slots := 0, locals := 45 }
theorem flX12_sized_27 : Cond.fieldLink RX12 27 "LightLinesModel" "points" "[I" ∈ wsX12_sized := by decide +kernel
theorem flX12_sized_30 : Cond.fieldLink RX12 30 "LightLinesModel" "px" "[I" ∈ wsX12_sized := by decide +kernel
theorem flX12_sized_33 : Cond.fieldLink RX12 33 "LightLinesModel" "py" "[I" ∈ wsX12_sized := by decide +kernel
set_option maxRecDepth 100000 in
theorem ulX12_sized_X12 : ∀ w ∈ u_ws RX12 TX12 42, w ∈ wsX12_sized := by decide +kernel
set_option maxHeartbeats 4000000 in
set_option maxRecDepth 100000 in
theorem t_X12_sized_117 {Γ : Cx} (C : CF Γ cX12_sized 5 (some .int) wsX12_sized RX12 rmX12_sized 0 0) (x2 : Int32) (x3 : Int32) (S : St) : G Γ cvI 5 0 0 117 [(2, .int x2), (3, .int x3)] [] S (b_X12_sized_117  x2 x3 S) := by
  unfold b_X12_sized_117
  refine g_iload_n C dX12_sized_117 rfl 0 rfl ?_
  refine g_iconst C (v := (3 : Int32)) dX12_sized_118 (by decide) ?_
  refine g_icmp_ne C (tgt := 128) dX12_sized_119 (by decide) (fun h1 => ?_) (fun h1 => ?_)
  · refine g_iconst C (v := (2 : Int32)) dX12_sized_122 (by decide) ?_
    refine g_iload_n C dX12_sized_123 rfl 1 rfl ?_
    refine g_imul C dX12_sized_124 ?_
    refine g_goto C (tgt := 129) dX12_sized_125 (by decide) ?_
    exact g_iret C dX12_sized_129 ⟨by decide, by decide⟩
  · refine g_iload_n C dX12_sized_128 rfl 1 rfl ?_
    exact g_iret C dX12_sized_129 ⟨by decide, by decide⟩
set_option maxHeartbeats 4000000 in
set_option maxRecDepth 100000 in
theorem t_X12_sized_57 {Γ : Cx} (C : CF Γ cX12_sized 5 (some .int) wsX12_sized RX12 rmX12_sized 0 0) : ∀ (n : Nat) (a0 : Option Nat) (x1 : Int32) (x2 : Int32) (x3 : Int32) (x4 : Int32) (S : St), G Γ cvI 5 0 0 57 [(0, va_rf a0), (1, .int x1), (2, .int x2), (3, .int x3), (4, .int x4)] [] S (b_X12_sized_57  n a0 x1 x2 x3 x4 S) := by
  intro n
  induction n with
  | zero => intro a0 x1 x2 x3 x4 S; exact g_none
  | succ n ih =>
    intro a0 x1 x2 x3 x4 S
    rw [b_X12_sized_57]
    refine g_iload C dX12_sized_57 4 rfl ?_
    refine g_bipush C (v := (8 : Int32)) dX12_sized_59 (by decide) ?_
    refine g_iload_n C dX12_sized_61 rfl 1 rfl ?_
    refine g_imul C dX12_sized_62 ?_
    refine g_aload_n C dX12_sized_63 rfl 0 rfl ?_
    refine g_getR C (ci := 11) (k := 6) dX12_sized_64 rfl (by decide) (by decide) (by decide) ulX12_sized_X12 flX12_sized_27 rfl (fun v1 ev1 => ?_)
    refine g_iload_n C dX12_sized_67 rfl 1 rfl ?_
    refine g_ild C dX12_sized_68 (fun v2 ev2 => ?_)
    refine g_iadd C dX12_sized_69 ?_
    refine g_icmp_ge C (tgt := 117) dX12_sized_70 (by decide) (fun h3 => ?_) (fun h3 => ?_)
    · exact g_sub (lv2 := [(2, .int x2), (3, .int x3)]) [2, 3] rfl (t_X12_sized_117 C x2 x3 S)
    · refine g_iload_n C dX12_sized_73 rfl 3 rfl ?_
      refine g_aload_n C dX12_sized_74 rfl 0 rfl ?_
      refine g_getR C (ci := 11) (k := 7) dX12_sized_75 rfl (by decide) (by decide) (by decide) ulX12_sized_X12 flX12_sized_30 rfl (fun v4 ev4 => ?_)
      refine g_iload C dX12_sized_78 4 rfl ?_
      refine g_iconst C (v := (1 : Int32)) dX12_sized_80 (by decide) ?_
      refine g_isub C dX12_sized_81 ?_
      refine g_ild C dX12_sized_82 (fun v5 ev5 => ?_)
      refine g_aload_n C dX12_sized_83 rfl 0 rfl ?_
      refine g_getR C (ci := 11) (k := 8) dX12_sized_84 rfl (by decide) (by decide) (by decide) ulX12_sized_X12 flX12_sized_33 rfl (fun v6 ev6 => ?_)
      refine g_iload C dX12_sized_87 4 rfl ?_
      refine g_iconst C (v := (1 : Int32)) dX12_sized_89 (by decide) ?_
      refine g_isub C dX12_sized_90 ?_
      refine g_ild C dX12_sized_91 (fun v7 ev7 => ?_)
      refine g_aload_n C dX12_sized_92 rfl 0 rfl ?_
      refine g_getR C (ci := 11) (k := 7) dX12_sized_93 rfl (by decide) (by decide) (by decide) ulX12_sized_X12 flX12_sized_30 rfl (fun v8 ev8 => ?_)
      refine g_iload C dX12_sized_96 4 rfl ?_
      refine g_ild C dX12_sized_98 (fun v9 ev9 => ?_)
      refine g_aload_n C dX12_sized_99 rfl 0 rfl ?_
      refine g_getR C (ci := 11) (k := 8) dX12_sized_100 rfl (by decide) (by decide) (by decide) ulX12_sized_X12 flX12_sized_33 rfl (fun v10 ev10 => ?_)
      refine g_iload C dX12_sized_103 4 rfl ?_
      refine g_ild C dX12_sized_105 (fun v11 ev11 => ?_)
      refine g_callS C (n := 4) [.int v5, .int v7, .int v9, .int v11] [.int x3] (m_X12_way v5 v7 v9 v11 S) dX12_sized_106 gX12_sized_X12_way rfl ⟨rfl, rfl⟩ (by decide +kernel) ⟨by decide, by decide⟩ ⟨by decide, by decide⟩ rfl rfl (by first | exact Nat.le_of_ble_eq_true rfl | simp [va_rf_cat, vi_cat, vl_cat]) (fun o12 eo12 => ?_)
      show G Γ cvI 5 0 0 109 [(0, va_rf a0), (1, .int x1), (2, .int x2), (3, .int x3), (4, .int x4)] [.int o12.1, .int x3] o12.2 _
      refine g_iadd C dX12_sized_109 ?_
      refine g_topi (fun y13 => ?_)
      refine g_istore_n C (lv2 := [(3, .int y13), (0, va_rf a0), (1, .int x1), (2, .int x2), (4, .int x4)]) dX12_sized_110 rfl (by decide) (by first | rfl | simp [va_rf_cat, vi_cat, vl_cat]) ?_
      refine g_iinc1 C dX12_sized_111 4 rfl (by decide) (by decide) (fun y14 => ?_)
      refine g_lveq (lv2 := [(4, .int y14), (3, .int y13), (0, va_rf a0), (1, .int x1), (2, .int x2)]) (by first | rfl | simp [va_rf_cat, vi_cat, vl_cat]) ?_
      refine g_goto C (tgt := 57) dX12_sized_114 (by decide) ?_
      exact g_sub (lv2 := [(0, va_rf a0), (1, .int x1), (2, .int x2), (3, .int y13), (4, .int y14)]) [2, 3, 4, 1, 0] rfl (ih a0 x1 x2 y13 y14 o12.2)
set_option maxHeartbeats 4000000 in
set_option maxRecDepth 100000 in
theorem t_X12_sized_30 {Γ : Cx} (C : CF Γ cX12_sized 5 (some .int) wsX12_sized RX12 rmX12_sized 0 0) (a0 : Option Nat) (x1 : Int32) (x2 : Int32) (S : St) : G Γ cvI 5 0 0 30 [(0, va_rf a0), (1, .int x1), (2, .int x2)] [] S (b_X12_sized_30  a0 x1 x2 S) := by
  unfold b_X12_sized_30
  refine g_aload_n C dX12_sized_30 rfl 0 rfl ?_
  refine g_bipush C (v := (11 : Int32)) dX12_sized_31 (by decide) ?_
  refine g_callV C (n := 1) (ci := 11) [.int (11 : Int32)] [] (m_X12_began a0 (11 : Int32) S) dX12_sized_33 gX12_sized_X12_began rfl ⟨rfl, rfl⟩ (by decide +kernel) ⟨by decide, by decide⟩ ⟨by decide, by decide⟩ rfl (by decide) rfl rfl (by first | exact Nat.le_of_ble_eq_true rfl | simp [va_rf_cat, vi_cat, vl_cat]) (fun o1 eo1 => ?_)
  show G Γ cvI 5 0 0 36 [(0, va_rf a0), (1, .int x1), (2, .int x2)] [] o1 _
  refine g_aload_n C dX12_sized_36 rfl 0 rfl ?_
  refine g_bipush C (v := (10 : Int32)) dX12_sized_37 (by decide) ?_
  refine g_callV C (n := 1) (ci := 11) [.int (10 : Int32)] [] (m_X12_began a0 (10 : Int32) o1) dX12_sized_39 gX12_sized_X12_began rfl ⟨rfl, rfl⟩ (by decide +kernel) ⟨by decide, by decide⟩ ⟨by decide, by decide⟩ rfl (by decide) rfl rfl (by first | exact Nat.le_of_ble_eq_true rfl | simp [va_rf_cat, vi_cat, vl_cat]) (fun o2 eo2 => ?_)
  show G Γ cvI 5 0 0 42 [(0, va_rf a0), (1, .int x1), (2, .int x2)] [] o2 _
  refine g_aload_n C dX12_sized_42 rfl 0 rfl ?_
  refine g_getR C (ci := 11) (k := 6) dX12_sized_43 rfl (by decide) (by decide) (by decide) ulX12_sized_X12 flX12_sized_27 rfl (fun v3 ev3 => ?_)
  refine g_iload_n C dX12_sized_46 rfl 1 rfl ?_
  refine g_ild C dX12_sized_47 (fun v4 ev4 => ?_)
  refine g_istore_n C (lv2 := [(3, .int v4), (0, va_rf a0), (1, .int x1), (2, .int x2)]) dX12_sized_48 rfl (by decide) (by first | rfl | simp [va_rf_cat, vi_cat, vl_cat]) ?_
  refine g_bipush C (v := (8 : Int32)) dX12_sized_49 (by decide) ?_
  refine g_iload_n C dX12_sized_51 rfl 2 rfl ?_
  refine g_imul C dX12_sized_52 ?_
  refine g_iconst C (v := (1 : Int32)) dX12_sized_53 (by decide) ?_
  refine g_iadd C dX12_sized_54 ?_
  refine g_topi (fun y5 => ?_)
  refine g_istore C (lv2 := [(4, .int y5), (3, .int v4), (0, va_rf a0), (1, .int x1), (2, .int x2)]) dX12_sized_55 (by decide) (by first | rfl | simp [va_rf_cat, vi_cat, vl_cat]) ?_
  exact g_sub (lv2 := [(0, va_rf a0), (1, .int x1), (2, .int x2), (3, .int v4), (4, .int y5)]) [2, 3, 4, 1, 0] rfl (t_X12_sized_57 C FU a0 x1 x2 v4 y5 o2)
set_option maxHeartbeats 4000000 in
set_option maxRecDepth 100000 in
theorem m_X12_sized (a0 : Option Nat) (x1 : Int32) (S : St) : ∀ l D cy H0 o, f_X12_sized a0 x1 S = some o → Met l yX12_sized wsX12_sized rmX12_sized (Pq D cy H0 [va_rf a0, .int x1] S) (Qx D cy H0 (cvI o)) 0 0 (fun q => H0.size ≤ q) := by
  refine met_of (cc := cX12_sized) (maxL := 5) (ret := (some .int)) [va_rf a0, .int x1] [(0, va_rf a0), (1, .int x1)] (by decide) rfl rfl (by simp [lg_sl, va_rf_cat, vi_cat, vl_cat]) (by simp [lv_args, va_rf_cat, vi_cat, vl_cat]) (fun Γ C => ?_)
  unfold f_X12_sized
  refine g_aload_n C dX12_sized_0 rfl 0 rfl ?_
  refine g_iload_n C dX12_sized_1 rfl 1 rfl ?_
  refine g_callV C (n := 1) (ci := 11) [.int x1] [] (m_X12_kindOf a0 x1 S) dX12_sized_2 gX12_sized_X12_kindOf rfl ⟨rfl, rfl⟩ (by decide +kernel) ⟨by decide, by decide⟩ ⟨by decide, by decide⟩ rfl (by decide) rfl rfl (by first | exact Nat.le_of_ble_eq_true rfl | simp [va_rf_cat, vi_cat, vl_cat]) (fun o1 eo1 => ?_)
  show G Γ cvI 5 0 0 5 [(0, va_rf a0), (1, .int x1)] [.int o1.1] o1.2 _
  refine g_istore_n C (lv2 := [(2, .int o1.1), (0, va_rf a0), (1, .int x1)]) dX12_sized_5 rfl (by decide) (by first | rfl | simp [va_rf_cat, vi_cat, vl_cat]) ?_
  refine g_iload_n C dX12_sized_6 rfl 0 rfl ?_
  refine g_iconst C (v := (1 : Int32)) dX12_sized_7 (by decide) ?_
  refine g_icmp_ne C (tgt := 19) dX12_sized_8 (by decide) (fun h2 => ?_) (fun h2 => ?_)
  · refine g_aload_n C dX12_sized_11 rfl 1 rfl ?_
    refine g_bipush C (v := (13 : Int32)) dX12_sized_12 (by decide) ?_
    refine g_callV C (n := 1) (ci := 11) [.int (13 : Int32)] [] (m_X12_began a0 (13 : Int32) o1.2) dX12_sized_14 gX12_sized_X12_began rfl ⟨rfl, rfl⟩ (by decide +kernel) ⟨by decide, by decide⟩ ⟨by decide, by decide⟩ rfl (by decide) rfl rfl (by first | exact Nat.le_of_ble_eq_true rfl | simp [va_rf_cat, vi_cat, vl_cat]) (fun o3 eo3 => ?_)
    show G Γ cvI 5 0 0 17 [(2, .int o1.1), (0, va_rf a0), (1, .int x1)] [] o3 _
    refine g_iconst C (v := (0 : Int32)) dX12_sized_17 (by decide) ?_
    exact g_iret C dX12_sized_18 ⟨by decide, by decide⟩
  · refine g_iload_n C dX12_sized_19 rfl 0 rfl ?_
    refine g_iconst C (v := (3 : Int32)) dX12_sized_20 (by decide) ?_
    refine g_icmp_ne C (tgt := 30) dX12_sized_21 (by decide) (fun h4 => ?_) (fun h4 => ?_)
    · refine g_aload_n C dX12_sized_24 rfl 1 rfl ?_
      refine g_bipush C (v := (12 : Int32)) dX12_sized_25 (by decide) ?_
      refine g_callV C (n := 1) (ci := 11) [.int (12 : Int32)] [] (m_X12_began a0 (12 : Int32) o1.2) dX12_sized_27 gX12_sized_X12_began rfl ⟨rfl, rfl⟩ (by decide +kernel) ⟨by decide, by decide⟩ ⟨by decide, by decide⟩ rfl (by decide) rfl rfl (by first | exact Nat.le_of_ble_eq_true rfl | simp [va_rf_cat, vi_cat, vl_cat]) (fun o5 eo5 => ?_)
      show G Γ cvI 5 0 0 30 [(2, .int o1.1), (0, va_rf a0), (1, .int x1)] [] o5 _
      exact g_sub (lv2 := [(0, va_rf a0), (1, .int x1), (2, .int o1.1)]) [1, 2, 0] rfl (t_X12_sized_30 C a0 x1 o1.1 o5)
    · exact g_sub (lv2 := [(0, va_rf a0), (1, .int x1), (2, .int o1.1)]) [1, 2, 0] rfl (t_X12_sized_30 C a0 x1 o1.1 o1.2)
abbrev rmX12_marked : Room := { frames := 3, cells := 0, slots := 0, locals := 69 }
theorem flX12_marked_30 : Cond.fieldLink RX12 30 "LightLinesModel" "px" "[I" ∈ wsX12_marked := by decide +kernel
theorem flX12_marked_33 : Cond.fieldLink RX12 33 "LightLinesModel" "py" "[I" ∈ wsX12_marked := by decide +kernel
set_option maxRecDepth 100000 in
theorem ulX12_marked_X12 : ∀ w ∈ u_ws RX12 TX12 42, w ∈ wsX12_marked := by decide +kernel
set_option maxHeartbeats 4000000 in
set_option maxRecDepth 100000 in
theorem t_X12_marked_59 {Γ : Cx} (C : CF Γ cX12_marked 3 (some .int) wsX12_marked RX12 rmX12_marked 0 0) (s0 : Int32) (s1 : Int32) (S : St) : G Γ cvI 3 0 0 59 [] [.int s1, .int s0] S (b_X12_marked_59  s0 s1 S) := by
  unfold b_X12_marked_59
  refine g_iadd C dX12_marked_59 ?_
  exact g_iret C dX12_marked_60 ⟨by decide, by decide⟩
set_option maxHeartbeats 4000000 in
set_option maxRecDepth 100000 in
theorem t_X12_marked_19 {Γ : Cx} (C : CF Γ cX12_marked 3 (some .int) wsX12_marked RX12 rmX12_marked 0 0) (a0 : Option Nat) (x1 : Int32) (x2 : Int32) (r0 : Option Nat) (s1 : Int32) (S : St) : G Γ cvI 3 0 0 19 [(0, va_rf a0), (1, .int x1), (2, .int x2)] [.int s1, va_rf r0] S (b_X12_marked_19  a0 x1 x2 r0 s1 S) := by
  unfold b_X12_marked_19
  refine g_callV C (n := 1) (ci := 11) [.int s1] [] (m_X12_began r0 s1 S) dX12_marked_19 gX12_marked_X12_began rfl ⟨rfl, rfl⟩ (by decide +kernel) ⟨by decide, by decide⟩ ⟨by decide, by decide⟩ rfl (by decide) rfl rfl (by first | exact Nat.le_of_ble_eq_true rfl | simp [va_rf_cat, vi_cat, vl_cat]) (fun o1 eo1 => ?_)
  show G Γ cvI 3 0 0 22 [(0, va_rf a0), (1, .int x1), (2, .int x2)] [] o1 _
  refine g_aload_n C dX12_marked_22 rfl 0 rfl ?_
  refine g_bipush C (v := (20 : Int32)) dX12_marked_23 (by decide) ?_
  refine g_callV C (n := 1) (ci := 11) [.int (20 : Int32)] [] (m_X12_began a0 (20 : Int32) o1) dX12_marked_25 gX12_marked_X12_began rfl ⟨rfl, rfl⟩ (by decide +kernel) ⟨by decide, by decide⟩ ⟨by decide, by decide⟩ rfl (by decide) rfl rfl (by first | exact Nat.le_of_ble_eq_true rfl | simp [va_rf_cat, vi_cat, vl_cat]) (fun o2 eo2 => ?_)
  show G Γ cvI 3 0 0 28 [(0, va_rf a0), (1, .int x1), (2, .int x2)] [] o2 _
  refine g_aload_n C dX12_marked_28 rfl 0 rfl ?_
  refine g_getR C (ci := 11) (k := 7) dX12_marked_29 rfl (by decide) (by decide) (by decide) ulX12_marked_X12 flX12_marked_30 rfl (fun v3 ev3 => ?_)
  refine g_bipush C (v := (8 : Int32)) dX12_marked_32 (by decide) ?_
  refine g_iload_n C dX12_marked_34 rfl 1 rfl ?_
  refine g_imul C dX12_marked_35 ?_
  refine g_ild C dX12_marked_36 (fun v4 ev4 => ?_)
  refine g_iload_n C dX12_marked_37 rfl 2 rfl ?_
  refine g_iconst C (v := (1 : Int32)) dX12_marked_38 (by decide) ?_
  refine g_icmp_ne C (tgt := 54) dX12_marked_39 (by decide) (fun h5 => ?_) (fun h5 => ?_)
  · refine g_aload_n C dX12_marked_42 rfl 0 rfl ?_
    refine g_getR C (ci := 11) (k := 8) dX12_marked_43 rfl (by decide) (by decide) (by decide) ulX12_marked_X12 flX12_marked_33 rfl (fun v6 ev6 => ?_)
    refine g_bipush C (v := (8 : Int32)) dX12_marked_46 (by decide) ?_
    refine g_iload_n C dX12_marked_48 rfl 1 rfl ?_
    refine g_imul C dX12_marked_49 ?_
    refine g_ild C dX12_marked_50 (fun v7 ev7 => ?_)
    refine g_goto C (tgt := 59) dX12_marked_51 (by decide) ?_
    exact g_sub (lv2 := []) [] rfl (t_X12_marked_59 C v4 v7 o2)
  · refine g_aload_n C dX12_marked_54 rfl 0 rfl ?_
    refine g_iload_n C dX12_marked_55 rfl 1 rfl ?_
    refine g_callV C (n := 1) (ci := 11) [.int x1] [.int v4] (m_X12_sized a0 x1 o2) dX12_marked_56 gX12_marked_X12_sized rfl ⟨rfl, rfl⟩ (by decide +kernel) ⟨by decide, by decide⟩ ⟨by decide, by decide⟩ rfl (by decide) rfl rfl (by first | exact Nat.le_of_ble_eq_true rfl | simp [va_rf_cat, vi_cat, vl_cat]) (fun o8 eo8 => ?_)
    show G Γ cvI 3 0 0 59 [(0, va_rf a0), (1, .int x1), (2, .int x2)] [.int o8.1, .int v4] o8.2 _
    exact g_sub (lv2 := []) [] rfl (t_X12_marked_59 C v4 o8.1 o8.2)
set_option maxHeartbeats 4000000 in
set_option maxRecDepth 100000 in
theorem m_X12_marked (a0 : Option Nat) (x1 : Int32) (S : St) : ∀ l D cy H0 o, f_X12_marked a0 x1 S = some o → Met l yX12_marked wsX12_marked rmX12_marked (Pq D cy H0 [va_rf a0, .int x1] S) (Qx D cy H0 (cvI o)) 0 0 (fun q => H0.size ≤ q) := by
  refine met_of (cc := cX12_marked) (maxL := 3) (ret := (some .int)) [va_rf a0, .int x1] [(0, va_rf a0), (1, .int x1)] (by decide) rfl rfl (by simp [lg_sl, va_rf_cat, vi_cat, vl_cat]) (by simp [lv_args, va_rf_cat, vi_cat, vl_cat]) (fun Γ C => ?_)
  unfold f_X12_marked
  refine g_aload_n C dX12_marked_0 rfl 0 rfl ?_
  refine g_iload_n C dX12_marked_1 rfl 1 rfl ?_
  refine g_callV C (n := 1) (ci := 11) [.int x1] [] (m_X12_kindOf a0 x1 S) dX12_marked_2 gX12_marked_X12_kindOf rfl ⟨rfl, rfl⟩ (by decide +kernel) ⟨by decide, by decide⟩ ⟨by decide, by decide⟩ rfl (by decide) rfl rfl (by first | exact Nat.le_of_ble_eq_true rfl | simp [va_rf_cat, vi_cat, vl_cat]) (fun o1 eo1 => ?_)
  show G Γ cvI 3 0 0 5 [(0, va_rf a0), (1, .int x1)] [.int o1.1] o1.2 _
  refine g_istore_n C (lv2 := [(2, .int o1.1), (0, va_rf a0), (1, .int x1)]) dX12_marked_5 rfl (by decide) (by first | rfl | simp [va_rf_cat, vi_cat, vl_cat]) ?_
  refine g_aload_n C dX12_marked_6 rfl 1 rfl ?_
  refine g_iload_n C dX12_marked_7 rfl 0 rfl ?_
  refine g_iconst C (v := (1 : Int32)) dX12_marked_8 (by decide) ?_
  refine g_icmp_ne C (tgt := 17) dX12_marked_9 (by decide) (fun h2 => ?_) (fun h2 => ?_)
  · refine g_bipush C (v := (22 : Int32)) dX12_marked_12 (by decide) ?_
    refine g_goto C (tgt := 19) dX12_marked_14 (by decide) ?_
    exact g_sub (lv2 := [(0, va_rf a0), (1, .int x1), (2, .int o1.1)]) [1, 2, 0] rfl (t_X12_marked_19 C a0 x1 o1.1 a0 (22 : Int32) o1.2)
  · refine g_bipush C (v := (21 : Int32)) dX12_marked_17 (by decide) ?_
    exact g_sub (lv2 := [(0, va_rf a0), (1, .int x1), (2, .int o1.1)]) [1, 2, 0] rfl (t_X12_marked_19 C a0 x1 o1.1 a0 (21 : Int32) o1.2)
abbrev rmX12_ask : Room := { frames := 4, cells := 0, slots := 0, locals := 91 }
theorem flX12_ask_1 : Cond.fieldLink RX12 1 "LightLinesModel" "thrown" "I" ∈ wsX12_ask := by decide +kernel
theorem flX12_ask_273 : Cond.fieldLink RX12 273 "LightLinesModel" "traced" "I" ∈ wsX12_ask := by decide +kernel
set_option maxRecDepth 100000 in
theorem ulX12_ask_X12 : ∀ w ∈ u_ws RX12 TX12 42, w ∈ wsX12_ask := by decide +kernel
set_option maxHeartbeats 4000000 in
set_option maxRecDepth 100000 in
theorem m_X12_ask (a0 : Option Nat) (x1 : Int32) (x2 : Int32) (S : St) : ∀ l D cy H0 o, f_X12_ask a0 x1 x2 S = some o → Met l yX12_ask wsX12_ask rmX12_ask (Pq D cy H0 [va_rf a0, .int x1, .int x2] S) (Qx D cy H0 (cvI o)) 0 0 (fun q => H0.size ≤ q) := by
  refine met_of (cc := cX12_ask) (maxL := 3) (ret := (some .int)) [va_rf a0, .int x1, .int x2] [(0, va_rf a0), (1, .int x1), (2, .int x2)] (by decide) rfl rfl (by simp [lg_sl, va_rf_cat, vi_cat, vl_cat]) (by simp [lv_args, va_rf_cat, vi_cat, vl_cat]) (fun Γ C => ?_)
  unfold f_X12_ask
  refine g_aload_n C dX12_ask_0 rfl 0 rfl ?_
  refine g_iconst C (v := (0 : Int32)) dX12_ask_1 (by decide) ?_
  refine g_putI C (ci := 11) (k := 0) (ty0 := tyX12) dX12_ask_2 rfl (by decide) (by decide) (by decide) tyX12_ok nmX12 ulX12_ask_X12 flX12_ask_1 rfl rfl ⟨rfl, rfl⟩ (fun S1 eS1 => ?_)
  refine g_aload_n C dX12_ask_5 rfl 0 rfl ?_
  refine g_iload_n C dX12_ask_6 rfl 1 rfl ?_
  refine g_callV C (n := 1) (ci := 11) [.int x1] [] (m_X12_isStroke a0 x1 S1) dX12_ask_7 gX12_ask_X12_isStroke rfl ⟨rfl, rfl⟩ (by decide +kernel) ⟨by decide, by decide⟩ ⟨by decide, by decide⟩ rfl (by decide) rfl rfl (by first | exact Nat.le_of_ble_eq_true rfl | simp [va_rf_cat, vi_cat, vl_cat]) (fun o2 eo2 => ?_)
  show G Γ cvI 3 0 0 10 [(0, va_rf a0), (1, .int x1), (2, .int x2)] [.int o2.1] o2.2 _
  refine g_if_eq C (tgt := 23) dX12_ask_10 (by decide) (fun h3 => ?_) (fun h3 => ?_)
  · refine g_ldc C (v := (-1000001 : Int32)) dX12_ask_23 (by decide +kernel) ?_
    exact g_iret C dX12_ask_25 ⟨by decide, by decide⟩
  · refine g_iload_n C dX12_ask_13 rfl 2 rfl ?_
    refine g_i2l C dX12_ask_14 ?_
    refine g_lconst C (v := (0 : Int64)) dX12_ask_15 (by decide) ?_
    refine g_lconst C (v := (1 : Int64)) dX12_ask_16 (by decide) ?_
    refine g_callS C (n := 3) [.long x2.toInt64, .long (0 : Int64), .long (1 : Int64)] [] (m_X12_in x2.toInt64 (0 : Int64) (1 : Int64) o2.2) dX12_ask_17 gX12_ask_X12_in rfl ⟨rfl, rfl⟩ (by decide +kernel) ⟨by decide, by decide⟩ ⟨by decide, by decide⟩ rfl rfl (by first | exact Nat.le_of_ble_eq_true rfl | simp [va_rf_cat, vi_cat, vl_cat]) (fun o4 eo4 => ?_)
    show G Γ cvI 3 0 0 20 [(0, va_rf a0), (1, .int x1), (2, .int x2)] [.int o4.1] o4.2 _
    refine g_if_ne C (tgt := 26) dX12_ask_20 (by decide) (fun h5 => ?_) (fun h5 => ?_)
    · refine g_ldc C (v := (-1000001 : Int32)) dX12_ask_23 (by decide +kernel) ?_
      exact g_iret C dX12_ask_25 ⟨by decide, by decide⟩
    · refine g_aload_n C dX12_ask_26 rfl 0 rfl ?_
      refine g_iconst C (v := (0 : Int32)) dX12_ask_27 (by decide) ?_
      refine g_putI C (ci := 11) (k := 41) (ty0 := tyX12) dX12_ask_28 rfl (by decide) (by decide) (by decide) tyX12_ok nmX12 ulX12_ask_X12 flX12_ask_273 rfl rfl ⟨rfl, rfl⟩ (fun S6 eS6 => ?_)
      refine g_iload_n C dX12_ask_31 rfl 2 rfl ?_
      refine g_if_ne C (tgt := 43) dX12_ask_32 (by decide) (fun h7 => ?_) (fun h7 => ?_)
      · refine g_aload_n C dX12_ask_35 rfl 0 rfl ?_
        refine g_iload_n C dX12_ask_36 rfl 1 rfl ?_
        refine g_callV C (n := 1) (ci := 11) [.int x1] [] (m_X12_sized a0 x1 S6) dX12_ask_37 gX12_ask_X12_sized rfl ⟨rfl, rfl⟩ (by decide +kernel) ⟨by decide, by decide⟩ ⟨by decide, by decide⟩ rfl (by decide) rfl rfl (by first | exact Nat.le_of_ble_eq_true rfl | simp [va_rf_cat, vi_cat, vl_cat]) (fun o8 eo8 => ?_)
        show G Γ cvI 3 0 0 40 [(0, va_rf a0), (1, .int x1), (2, .int x2)] [.int o8.1] o8.2 _
        refine g_goto C (tgt := 48) dX12_ask_40 (by decide) ?_
        exact g_iret C dX12_ask_48 ⟨by decide, by decide⟩
      · refine g_aload_n C dX12_ask_43 rfl 0 rfl ?_
        refine g_iload_n C dX12_ask_44 rfl 1 rfl ?_
        refine g_callV C (n := 1) (ci := 11) [.int x1] [] (m_X12_marked a0 x1 S6) dX12_ask_45 gX12_ask_X12_marked rfl ⟨rfl, rfl⟩ (by decide +kernel) ⟨by decide, by decide⟩ ⟨by decide, by decide⟩ rfl (by decide) rfl rfl (by first | exact Nat.le_of_ble_eq_true rfl | simp [va_rf_cat, vi_cat, vl_cat]) (fun o9 eo9 => ?_)
        show G Γ cvI 3 0 0 48 [(0, va_rf a0), (1, .int x1), (2, .int x2)] [.int o9.1] o9.2 _
        exact g_iret C dX12_ask_48 ⟨by decide, by decide⟩
abbrev rmX12_trace : Room := { frames := 1, cells := 0, slots := 0, locals := 25 }
theorem flX12_trace_1 : Cond.fieldLink RX12 1 "LightLinesModel" "thrown" "I" ∈ wsX12_trace := by decide +kernel
theorem flX12_trace_85 : Cond.fieldLink RX12 85 "LightLinesModel" "trace" "[I" ∈ wsX12_trace := by decide +kernel
theorem flX12_trace_273 : Cond.fieldLink RX12 273 "LightLinesModel" "traced" "I" ∈ wsX12_trace := by decide +kernel
set_option maxRecDepth 100000 in
theorem ulX12_trace_X12 : ∀ w ∈ u_ws RX12 TX12 42, w ∈ wsX12_trace := by decide +kernel
set_option maxHeartbeats 4000000 in
set_option maxRecDepth 100000 in
theorem m_X12_trace (a0 : Option Nat) (x1 : Int32) (S : St) : ∀ l D cy H0 o, f_X12_trace a0 x1 S = some o → Met l yX12_trace wsX12_trace rmX12_trace (Pq D cy H0 [va_rf a0, .int x1] S) (Qx D cy H0 (cvI o)) 0 0 (fun q => H0.size ≤ q) := by
  refine met_of (cc := cX12_trace) (maxL := 2) (ret := (some .int)) [va_rf a0, .int x1] [(0, va_rf a0), (1, .int x1)] (by decide) rfl rfl (by simp [lg_sl, va_rf_cat, vi_cat, vl_cat]) (by simp [lv_args, va_rf_cat, vi_cat, vl_cat]) (fun Γ C => ?_)
  unfold f_X12_trace
  refine g_aload_n C dX12_trace_0 rfl 0 rfl ?_
  refine g_iconst C (v := (0 : Int32)) dX12_trace_1 (by decide) ?_
  refine g_putI C (ci := 11) (k := 0) (ty0 := tyX12) dX12_trace_2 rfl (by decide) (by decide) (by decide) tyX12_ok nmX12 ulX12_trace_X12 flX12_trace_1 rfl rfl ⟨rfl, rfl⟩ (fun S1 eS1 => ?_)
  refine g_iload_n C dX12_trace_5 rfl 1 rfl ?_
  refine g_i2l C dX12_trace_6 ?_
  refine g_lconst C (v := (0 : Int64)) dX12_trace_7 (by decide) ?_
  refine g_aload_n C dX12_trace_8 rfl 0 rfl ?_
  refine g_getI C (ci := 11) (k := 41) dX12_trace_9 rfl (by decide) (by decide) (by decide) ulX12_trace_X12 flX12_trace_273 rfl (fun v2 ev2 => ?_)
  refine g_iconst C (v := (1 : Int32)) dX12_trace_12 (by decide) ?_
  refine g_isub C dX12_trace_13 ?_
  refine g_i2l C dX12_trace_14 ?_
  refine g_callS C (n := 3) [.long x1.toInt64, .long (0 : Int64), .long ((v2 - (1 : Int32)).toInt64)] [] (m_X12_in x1.toInt64 (0 : Int64) ((v2 - (1 : Int32)).toInt64) S1) dX12_trace_15 gX12_trace_X12_in rfl ⟨rfl, rfl⟩ (by decide +kernel) ⟨by decide, by decide⟩ ⟨by decide, by decide⟩ rfl rfl (by first | exact Nat.le_of_ble_eq_true rfl | simp [va_rf_cat, vi_cat, vl_cat]) (fun o3 eo3 => ?_)
  show G Γ cvI 2 0 0 18 [(0, va_rf a0), (1, .int x1)] [.int o3.1] o3.2 _
  refine g_if_eq C (tgt := 30) dX12_trace_18 (by decide) (fun h4 => ?_) (fun h4 => ?_)
  · refine g_ldc C (v := (-1000000 : Int32)) dX12_trace_30 (by decide +kernel) ?_
    exact g_iret C dX12_trace_32 ⟨by decide, by decide⟩
  · refine g_aload_n C dX12_trace_21 rfl 0 rfl ?_
    refine g_getR C (ci := 11) (k := 40) dX12_trace_22 rfl (by decide) (by decide) (by decide) ulX12_trace_X12 flX12_trace_85 rfl (fun v5 ev5 => ?_)
    refine g_iload_n C dX12_trace_25 rfl 1 rfl ?_
    refine g_ild C dX12_trace_26 (fun v6 ev6 => ?_)
    refine g_goto C (tgt := 32) dX12_trace_27 (by decide) ?_
    exact g_iret C dX12_trace_32 ⟨by decide, by decide⟩
