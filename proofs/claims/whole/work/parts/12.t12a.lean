abbrev rmX12_in : Room := { frames := 0, cells := 0, slots := 0, locals := 0 }
set_option maxHeartbeats 4000000 in
set_option maxRecDepth 100000 in
theorem m_X12_in (j0 : Int64) (j2 : Int64) (j4 : Int64) (S : St) : ∀ l D cy H0 o, f_X12_in j0 j2 j4 S = some o → Met l yX12_in wsX12_in rmX12_in (Pq D cy H0 [.long j0, .long j2, .long j4] S) (Qx D cy H0 (cvI o)) 0 0 (fun q => H0.size ≤ q) := by
  refine met_of (cc := cX12_in) (maxL := 6) (ret := (some .boolean)) [.long j0, .long j2, .long j4] [(0, .long j0), (2, .long j2), (4, .long j4)] (by decide) rfl rfl (by simp [lg_sl, va_rf_cat, vi_cat, vl_cat]) (by simp [lv_args, va_rf_cat, vi_cat, vl_cat]) (fun Γ C => ?_)
  unfold f_X12_in
  refine g_lload_n C dX12_in_0 rfl 0 rfl ?_
  refine g_lload_n C dX12_in_1 rfl 1 rfl ?_
  refine g_lcmp C dX12_in_2 ?_
  refine g_if_lt C (tgt := 17) dX12_in_3 (by decide) (fun h1 => ?_) (fun h1 => ?_)
  · refine g_iconst C (v := (0 : Int32)) dX12_in_17 (by decide) ?_
    exact g_zret C dX12_in_18 ⟨by decide, by decide⟩
  · refine g_lload_n C dX12_in_6 rfl 0 rfl ?_
    refine g_lload C dX12_in_7 2 rfl ?_
    refine g_lcmp C dX12_in_9 ?_
    refine g_if_gt C (tgt := 17) dX12_in_10 (by decide) (fun h2 => ?_) (fun h2 => ?_)
    · refine g_iconst C (v := (0 : Int32)) dX12_in_17 (by decide) ?_
      exact g_zret C dX12_in_18 ⟨by decide, by decide⟩
    · refine g_iconst C (v := (1 : Int32)) dX12_in_13 (by decide) ?_
      refine g_goto C (tgt := 18) dX12_in_14 (by decide) ?_
      exact g_zret C dX12_in_18 ⟨by decide, by decide⟩
abbrev rmX12_found : Room := { frames := 0, cells := 0, slots := 0, locals := 0 }
theorem flX12_found_7 : Cond.fieldLink RX12 7 "LightLinesModel" "status" "I" ∈ wsX12_found := by decide +kernel
set_option maxRecDepth 100000 in
theorem ulX12_found_X12 : ∀ w ∈ u_ws RX12 TX12 42, w ∈ wsX12_found := by decide +kernel
set_option maxHeartbeats 4000000 in
set_option maxRecDepth 100000 in
theorem m_X12_found (a0 : Option Nat) (x1 : Int32) (S : St) : ∀ l D cy H0 o, f_X12_found a0 x1 S = some o → Met l yX12_found wsX12_found rmX12_found (Pq D cy H0 [va_rf a0, .int x1] S) (Qx D cy H0 (cvI o)) 0 0 (fun q => H0.size ≤ q) := by
  refine met_of (cc := cX12_found) (maxL := 2) (ret := (some .int)) [va_rf a0, .int x1] [(0, va_rf a0), (1, .int x1)] (by decide) rfl rfl (by simp [lg_sl, va_rf_cat, vi_cat, vl_cat]) (by simp [lv_args, va_rf_cat, vi_cat, vl_cat]) (fun Γ C => ?_)
  unfold f_X12_found
  refine g_aload_n C dX12_found_0 rfl 0 rfl ?_
  refine g_iload_n C dX12_found_1 rfl 1 rfl ?_
  refine g_putI C (ci := 11) (k := 1) (ty0 := tyX12) dX12_found_2 rfl (by decide) (by decide) (by decide) tyX12_ok nmX12 ulX12_found_X12 flX12_found_7 rfl rfl ⟨rfl, rfl⟩ (fun S1 eS1 => ?_)
  refine g_ldc C (v := (-1000010 : Int32)) dX12_found_5 (by decide +kernel) ?_
  refine g_iload_n C dX12_found_7 rfl 1 rfl ?_
  refine g_isub C dX12_found_8 ?_
  exact g_iret C dX12_found_9 ⟨by decide, by decide⟩
abbrev rmX12_isSheet : Room := { frames := 1, cells := 0, slots := 0, locals := 25 }
set_option maxHeartbeats 4000000 in
set_option maxRecDepth 100000 in
theorem m_X12_isSheet (x0 : Int32) (S : St) : ∀ l D cy H0 o, f_X12_isSheet x0 S = some o → Met l yX12_isSheet wsX12_isSheet rmX12_isSheet (Pq D cy H0 [.int x0] S) (Qx D cy H0 (cvI o)) 0 0 (fun q => H0.size ≤ q) := by
  refine met_of (cc := cX12_isSheet) (maxL := 1) (ret := (some .boolean)) [.int x0] [(0, .int x0)] (by decide) rfl rfl (by simp [lg_sl, va_rf_cat, vi_cat, vl_cat]) (by simp [lv_args, va_rf_cat, vi_cat, vl_cat]) (fun Γ C => ?_)
  unfold f_X12_isSheet
  refine g_iload_n C dX12_isSheet_0 rfl 0 rfl ?_
  refine g_i2l C dX12_isSheet_1 ?_
  refine g_lconst C (v := (0 : Int64)) dX12_isSheet_2 (by decide) ?_
  refine g_ldc2 C (v := (7 : Int64)) dX12_isSheet_3 (by decide +kernel) ?_
  refine g_callS C (n := 3) [.long x0.toInt64, .long (0 : Int64), .long (7 : Int64)] [] (m_X12_in x0.toInt64 (0 : Int64) (7 : Int64) S) dX12_isSheet_6 gX12_isSheet_X12_in rfl ⟨rfl, rfl⟩ (by decide +kernel) ⟨by decide, by decide⟩ ⟨by decide, by decide⟩ rfl rfl (by first | exact Nat.le_of_ble_eq_true rfl | simp [va_rf_cat, vi_cat, vl_cat]) (fun o1 eo1 => ?_)
  show G Γ cvI 1 0 0 9 [(0, .int x0)] [.int o1.1] o1.2 _
  exact g_zret C dX12_isSheet_9 ⟨by decide, by decide⟩
abbrev rmX12_sheet : Room := { frames := 2, cells := 0, slots := 0, locals := 45 }
theorem flX12_sheet_1 : Cond.fieldLink RX12 1 "LightLinesModel" "thrown" "I" ∈ wsX12_sheet := by decide +kernel
theorem flX12_sheet_7 : Cond.fieldLink RX12 7 "LightLinesModel" "status" "I" ∈ wsX12_sheet := by decide +kernel
theorem flX12_sheet_17 : Cond.fieldLink RX12 17 "LightLinesModel" "lane" "[I" ∈ wsX12_sheet := by decide +kernel
theorem flX12_sheet_21 : Cond.fieldLink RX12 21 "LightLinesModel" "many" "[I" ∈ wsX12_sheet := by decide +kernel
theorem flX12_sheet_24 : Cond.fieldLink RX12 24 "LightLinesModel" "item" "[I" ∈ wsX12_sheet := by decide +kernel
set_option maxRecDepth 100000 in
theorem ulX12_sheet_X12 : ∀ w ∈ u_ws RX12 TX12 42, w ∈ wsX12_sheet := by decide +kernel
set_option maxHeartbeats 4000000 in
set_option maxRecDepth 100000 in
theorem t_X12_sheet_91 {Γ : Cx} (C : CF Γ cX12_sheet 5 (some .int) wsX12_sheet RX12 rmX12_sheet 0 0) (x3 : Int32) (S : St) : G Γ cvI 5 0 0 91 [(3, .int x3)] [] S (b_X12_sheet_91  x3 S) := by
  unfold b_X12_sheet_91
  refine g_iload_n C dX12_sheet_91 rfl 0 rfl ?_
  exact g_iret C dX12_sheet_92 ⟨by decide, by decide⟩
set_option maxHeartbeats 4000000 in
set_option maxRecDepth 100000 in
theorem t_X12_sheet_65 {Γ : Cx} (C : CF Γ cX12_sheet 5 (some .int) wsX12_sheet RX12 rmX12_sheet 0 0) : ∀ (n : Nat) (a0 : Option Nat) (x1 : Int32) (x3 : Int32) (x4 : Int32) (S : St), G Γ cvI 5 0 0 65 [(0, va_rf a0), (1, .int x1), (3, .int x3), (4, .int x4)] [] S (b_X12_sheet_65  n a0 x1 x3 x4 S) := by
  intro n
  induction n with
  | zero => intro a0 x1 x3 x4 S; exact g_none
  | succ n ih =>
    intro a0 x1 x3 x4 S
    rw [b_X12_sheet_65]
    refine g_iload C dX12_sheet_65 3 rfl ?_
    refine g_bipush C (v := (40 : Int32)) dX12_sheet_67 (by decide) ?_
    refine g_icmp_ge C (tgt := 91) dX12_sheet_69 (by decide) (fun h1 => ?_) (fun h1 => ?_)
    · exact g_sub (lv2 := [(3, .int x3)]) [2] rfl (t_X12_sheet_91 C x3 S)
    · refine g_aload_n C dX12_sheet_72 rfl 0 rfl ?_
      refine g_getR C (ci := 11) (k := 4) dX12_sheet_73 rfl (by decide) (by decide) (by decide) ulX12_sheet_X12 flX12_sheet_24 rfl (fun v2 ev2 => ?_)
      refine g_bipush C (v := (40 : Int32)) dX12_sheet_76 (by decide) ?_
      refine g_iload_n C dX12_sheet_78 rfl 1 rfl ?_
      refine g_imul C dX12_sheet_79 ?_
      refine g_iload C dX12_sheet_80 3 rfl ?_
      refine g_iadd C dX12_sheet_82 ?_
      refine g_iconst C (v := (0 : Int32)) dX12_sheet_83 (by decide) ?_
      refine g_ist C dX12_sheet_84 (fun S3 eS3 => ?_)
      refine g_iinc1 C dX12_sheet_85 3 rfl (by decide) (by decide) (fun y4 => ?_)
      refine g_lveq (lv2 := [(4, .int y4), (0, va_rf a0), (1, .int x1), (3, .int x3)]) (by first | rfl | simp [va_rf_cat, vi_cat, vl_cat]) ?_
      refine g_goto C (tgt := 65) dX12_sheet_88 (by decide) ?_
      exact g_sub (lv2 := [(0, va_rf a0), (1, .int x1), (3, .int x3), (4, .int y4)]) [1, 2, 3, 0] rfl (ih a0 x1 x3 y4 S3)
set_option maxHeartbeats 4000000 in
set_option maxRecDepth 100000 in
theorem m_X12_sheet (a0 : Option Nat) (x1 : Int32) (x2 : Int32) (x3 : Int32) (S : St) : ∀ l D cy H0 o, f_X12_sheet a0 x1 x2 x3 S = some o → Met l yX12_sheet wsX12_sheet rmX12_sheet (Pq D cy H0 [va_rf a0, .int x1, .int x2, .int x3] S) (Qx D cy H0 (cvI o)) 0 0 (fun q => H0.size ≤ q) := by
  refine met_of (cc := cX12_sheet) (maxL := 5) (ret := (some .int)) [va_rf a0, .int x1, .int x2, .int x3] [(0, va_rf a0), (1, .int x1), (2, .int x2), (3, .int x3)] (by decide) rfl rfl (by simp [lg_sl, va_rf_cat, vi_cat, vl_cat]) (by simp [lv_args, va_rf_cat, vi_cat, vl_cat]) (fun Γ C => ?_)
  unfold f_X12_sheet
  refine g_aload_n C dX12_sheet_0 rfl 0 rfl ?_
  refine g_iconst C (v := (0 : Int32)) dX12_sheet_1 (by decide) ?_
  refine g_putI C (ci := 11) (k := 0) (ty0 := tyX12) dX12_sheet_2 rfl (by decide) (by decide) (by decide) tyX12_ok nmX12 ulX12_sheet_X12 flX12_sheet_1 rfl rfl ⟨rfl, rfl⟩ (fun S1 eS1 => ?_)
  refine g_iload_n C dX12_sheet_5 rfl 1 rfl ?_
  refine g_callS C (n := 1) [.int x1] [] (m_X12_isSheet x1 S1) dX12_sheet_6 gX12_sheet_X12_isSheet rfl ⟨rfl, rfl⟩ (by decide +kernel) ⟨by decide, by decide⟩ ⟨by decide, by decide⟩ rfl rfl (by first | exact Nat.le_of_ble_eq_true rfl | simp [va_rf_cat, vi_cat, vl_cat]) (fun o2 eo2 => ?_)
  show G Γ cvI 5 0 0 9 [(0, va_rf a0), (1, .int x1), (2, .int x2), (3, .int x3)] [.int o2.1] o2.2 _
  refine g_if_eq C (tgt := 30) dX12_sheet_9 (by decide) (fun h3 => ?_) (fun h3 => ?_)
  · refine g_ldc C (v := (-1000001 : Int32)) dX12_sheet_30 (by decide +kernel) ?_
    exact g_iret C dX12_sheet_32 ⟨by decide, by decide⟩
  · refine g_iload_n C dX12_sheet_12 rfl 2 rfl ?_
    refine g_i2l C dX12_sheet_13 ?_
    refine g_lconst C (v := (0 : Int64)) dX12_sheet_14 (by decide) ?_
    refine g_ldc2 C (v := (2 : Int64)) dX12_sheet_15 (by decide +kernel) ?_
    refine g_callS C (n := 3) [.long x2.toInt64, .long (0 : Int64), .long (2 : Int64)] [] (m_X12_in x2.toInt64 (0 : Int64) (2 : Int64) o2.2) dX12_sheet_18 gX12_sheet_X12_in rfl ⟨rfl, rfl⟩ (by decide +kernel) ⟨by decide, by decide⟩ ⟨by decide, by decide⟩ rfl rfl (by first | exact Nat.le_of_ble_eq_true rfl | simp [va_rf_cat, vi_cat, vl_cat]) (fun o4 eo4 => ?_)
    show G Γ cvI 5 0 0 21 [(0, va_rf a0), (1, .int x1), (2, .int x2), (3, .int x3)] [.int o4.1] o4.2 _
    refine g_if_eq C (tgt := 30) dX12_sheet_21 (by decide) (fun h5 => ?_) (fun h5 => ?_)
    · refine g_ldc C (v := (-1000001 : Int32)) dX12_sheet_30 (by decide +kernel) ?_
      exact g_iret C dX12_sheet_32 ⟨by decide, by decide⟩
    · refine g_iload_n C dX12_sheet_24 rfl 3 rfl ?_
      refine g_bipush C (v := (40 : Int32)) dX12_sheet_25 (by decide) ?_
      refine g_icmp_le C (tgt := 33) dX12_sheet_27 (by decide) (fun h6 => ?_) (fun h6 => ?_)
      · refine g_aload_n C dX12_sheet_33 rfl 0 rfl ?_
        refine g_iconst C (v := (0 : Int32)) dX12_sheet_34 (by decide) ?_
        refine g_putI C (ci := 11) (k := 1) (ty0 := tyX12) dX12_sheet_35 rfl (by decide) (by decide) (by decide) tyX12_ok nmX12 ulX12_sheet_X12 flX12_sheet_7 rfl rfl ⟨rfl, rfl⟩ (fun S7 eS7 => ?_)
        refine g_iload_n C dX12_sheet_38 rfl 3 rfl ?_
        refine g_if_ge C (tgt := 48) dX12_sheet_39 (by decide) (fun h8 => ?_) (fun h8 => ?_)
        · refine g_aload_n C dX12_sheet_48 rfl 0 rfl ?_
          refine g_getR C (ci := 11) (k := 2) dX12_sheet_49 rfl (by decide) (by decide) (by decide) ulX12_sheet_X12 flX12_sheet_17 rfl (fun v9 ev9 => ?_)
          refine g_iload_n C dX12_sheet_52 rfl 1 rfl ?_
          refine g_iload_n C dX12_sheet_53 rfl 2 rfl ?_
          refine g_ist C dX12_sheet_54 (fun S10 eS10 => ?_)
          refine g_aload_n C dX12_sheet_55 rfl 0 rfl ?_
          refine g_getR C (ci := 11) (k := 3) dX12_sheet_56 rfl (by decide) (by decide) (by decide) ulX12_sheet_X12 flX12_sheet_21 rfl (fun v11 ev11 => ?_)
          refine g_iload_n C dX12_sheet_59 rfl 1 rfl ?_
          refine g_iload_n C dX12_sheet_60 rfl 3 rfl ?_
          refine g_ist C dX12_sheet_61 (fun S12 eS12 => ?_)
          refine g_iconst C (v := (0 : Int32)) dX12_sheet_62 (by decide) ?_
          refine g_istore C (lv2 := [(4, .int (0 : Int32)), (0, va_rf a0), (1, .int x1), (2, .int x2), (3, .int x3)]) dX12_sheet_63 (by decide) (by first | rfl | simp [va_rf_cat, vi_cat, vl_cat]) ?_
          exact g_sub (lv2 := [(0, va_rf a0), (1, .int x1), (3, .int x3), (4, .int (0 : Int32))]) [1, 2, 4, 0] rfl (t_X12_sheet_65 C FU a0 x1 x3 (0 : Int32) S12)
        · refine g_aload_n C dX12_sheet_42 rfl 0 rfl ?_
          refine g_iconst C (v := (4 : Int32)) dX12_sheet_43 (by decide) ?_
          refine g_callV C (n := 1) (ci := 11) [.int (4 : Int32)] [] (m_X12_found a0 (4 : Int32) S7) dX12_sheet_44 gX12_sheet_X12_found rfl ⟨rfl, rfl⟩ (by decide +kernel) ⟨by decide, by decide⟩ ⟨by decide, by decide⟩ rfl (by decide) rfl rfl (by first | exact Nat.le_of_ble_eq_true rfl | simp [va_rf_cat, vi_cat, vl_cat]) (fun o13 eo13 => ?_)
          show G Γ cvI 5 0 0 47 [(0, va_rf a0), (1, .int x1), (2, .int x2), (3, .int x3)] [.int o13.1] o13.2 _
          exact g_iret C dX12_sheet_47 ⟨by decide, by decide⟩
      · refine g_ldc C (v := (-1000001 : Int32)) dX12_sheet_30 (by decide +kernel) ?_
        exact g_iret C dX12_sheet_32 ⟨by decide, by decide⟩
abbrev rmX12_set : Room := { frames := 2, cells := 0, slots := 0, locals := 45 }
theorem flX12_set_1 : Cond.fieldLink RX12 1 "LightLinesModel" "thrown" "I" ∈ wsX12_set := by decide +kernel
theorem flX12_set_7 : Cond.fieldLink RX12 7 "LightLinesModel" "status" "I" ∈ wsX12_set := by decide +kernel
theorem flX12_set_17 : Cond.fieldLink RX12 17 "LightLinesModel" "lane" "[I" ∈ wsX12_set := by decide +kernel
theorem flX12_set_21 : Cond.fieldLink RX12 21 "LightLinesModel" "many" "[I" ∈ wsX12_set := by decide +kernel
theorem flX12_set_24 : Cond.fieldLink RX12 24 "LightLinesModel" "item" "[I" ∈ wsX12_set := by decide +kernel
set_option maxRecDepth 100000 in
theorem ulX12_set_X12 : ∀ w ∈ u_ws RX12 TX12 42, w ∈ wsX12_set := by decide +kernel
set_option maxHeartbeats 4000000 in
set_option maxRecDepth 100000 in
theorem t_X12_set_99 {Γ : Cx} (C : CF Γ cX12_set 4 (some .int) wsX12_set RX12 rmX12_set 0 0) (a0 : Option Nat) (x1 : Int32) (x2 : Int32) (r0 : Option Nat) (s1 : Int32) (s2 : Int32) (S : St) : G Γ cvI 4 0 0 99 [(0, va_rf a0), (1, .int x1), (2, .int x2)] [.int s2, .int s1, va_rf r0] S (b_X12_set_99  a0 x1 x2 r0 s1 s2 S) := by
  unfold b_X12_set_99
  refine g_ist C dX12_set_99 (fun S1 eS1 => ?_)
  refine g_aload_n C dX12_set_100 rfl 0 rfl ?_
  refine g_getR C (ci := 11) (k := 4) dX12_set_101 rfl (by decide) (by decide) (by decide) ulX12_set_X12 flX12_set_24 rfl (fun v2 ev2 => ?_)
  refine g_bipush C (v := (40 : Int32)) dX12_set_104 (by decide) ?_
  refine g_iload_n C dX12_set_106 rfl 1 rfl ?_
  refine g_imul C dX12_set_107 ?_
  refine g_iload_n C dX12_set_108 rfl 2 rfl ?_
  refine g_iadd C dX12_set_109 ?_
  refine g_ild C dX12_set_110 (fun v3 ev3 => ?_)
  exact g_iret C dX12_set_111 ⟨by decide, by decide⟩
set_option maxHeartbeats 4000000 in
set_option maxRecDepth 100000 in
theorem m_X12_set (a0 : Option Nat) (x1 : Int32) (x2 : Int32) (x3 : Int32) (S : St) : ∀ l D cy H0 o, f_X12_set a0 x1 x2 x3 S = some o → Met l yX12_set wsX12_set rmX12_set (Pq D cy H0 [va_rf a0, .int x1, .int x2, .int x3] S) (Qx D cy H0 (cvI o)) 0 0 (fun q => H0.size ≤ q) := by
  refine met_of (cc := cX12_set) (maxL := 4) (ret := (some .int)) [va_rf a0, .int x1, .int x2, .int x3] [(0, va_rf a0), (1, .int x1), (2, .int x2), (3, .int x3)] (by decide) rfl rfl (by simp [lg_sl, va_rf_cat, vi_cat, vl_cat]) (by simp [lv_args, va_rf_cat, vi_cat, vl_cat]) (fun Γ C => ?_)
  unfold f_X12_set
  refine g_aload_n C dX12_set_0 rfl 0 rfl ?_
  refine g_iconst C (v := (0 : Int32)) dX12_set_1 (by decide) ?_
  refine g_putI C (ci := 11) (k := 0) (ty0 := tyX12) dX12_set_2 rfl (by decide) (by decide) (by decide) tyX12_ok nmX12 ulX12_set_X12 flX12_set_1 rfl rfl ⟨rfl, rfl⟩ (fun S1 eS1 => ?_)
  refine g_iload_n C dX12_set_5 rfl 1 rfl ?_
  refine g_callS C (n := 1) [.int x1] [] (m_X12_isSheet x1 S1) dX12_set_6 gX12_set_X12_isSheet rfl ⟨rfl, rfl⟩ (by decide +kernel) ⟨by decide, by decide⟩ ⟨by decide, by decide⟩ rfl rfl (by first | exact Nat.le_of_ble_eq_true rfl | simp [va_rf_cat, vi_cat, vl_cat]) (fun o2 eo2 => ?_)
  show G Γ cvI 4 0 0 9 [(0, va_rf a0), (1, .int x1), (2, .int x2), (3, .int x3)] [.int o2.1] o2.2 _
  refine g_if_ne C (tgt := 15) dX12_set_9 (by decide) (fun h3 => ?_) (fun h3 => ?_)
  · refine g_ldc C (v := (-1000001 : Int32)) dX12_set_12 (by decide +kernel) ?_
    exact g_iret C dX12_set_14 ⟨by decide, by decide⟩
  · refine g_aload_n C dX12_set_15 rfl 0 rfl ?_
    refine g_iconst C (v := (0 : Int32)) dX12_set_16 (by decide) ?_
    refine g_putI C (ci := 11) (k := 1) (ty0 := tyX12) dX12_set_17 rfl (by decide) (by decide) (by decide) tyX12_ok nmX12 ulX12_set_X12 flX12_set_7 rfl rfl ⟨rfl, rfl⟩ (fun S4 eS4 => ?_)
    refine g_aload_n C dX12_set_20 rfl 0 rfl ?_
    refine g_getR C (ci := 11) (k := 2) dX12_set_21 rfl (by decide) (by decide) (by decide) ulX12_set_X12 flX12_set_17 rfl (fun v5 ev5 => ?_)
    refine g_iload_n C dX12_set_24 rfl 1 rfl ?_
    refine g_ild C dX12_set_25 (fun v6 ev6 => ?_)
    refine g_if_ge C (tgt := 35) dX12_set_26 (by decide) (fun h7 => ?_) (fun h7 => ?_)
    · refine g_iload_n C dX12_set_35 rfl 2 rfl ?_
      refine g_i2l C dX12_set_36 ?_
      refine g_lconst C (v := (0 : Int64)) dX12_set_37 (by decide) ?_
      refine g_aload_n C dX12_set_38 rfl 0 rfl ?_
      refine g_getR C (ci := 11) (k := 3) dX12_set_39 rfl (by decide) (by decide) (by decide) ulX12_set_X12 flX12_set_21 rfl (fun v8 ev8 => ?_)
      refine g_iload_n C dX12_set_42 rfl 1 rfl ?_
      refine g_ild C dX12_set_43 (fun v9 ev9 => ?_)
      refine g_iconst C (v := (1 : Int32)) dX12_set_44 (by decide) ?_
      refine g_isub C dX12_set_45 ?_
      refine g_i2l C dX12_set_46 ?_
      refine g_callS C (n := 3) [.long x2.toInt64, .long (0 : Int64), .long ((v9 - (1 : Int32)).toInt64)] [] (m_X12_in x2.toInt64 (0 : Int64) ((v9 - (1 : Int32)).toInt64) S4) dX12_set_47 gX12_set_X12_in rfl ⟨rfl, rfl⟩ (by decide +kernel) ⟨by decide, by decide⟩ ⟨by decide, by decide⟩ rfl rfl (by first | exact Nat.le_of_ble_eq_true rfl | simp [va_rf_cat, vi_cat, vl_cat]) (fun o10 eo10 => ?_)
      show G Γ cvI 4 0 0 50 [(0, va_rf a0), (1, .int x1), (2, .int x2), (3, .int x3)] [.int o10.1] o10.2 _
      refine g_if_ne C (tgt := 59) dX12_set_50 (by decide) (fun h11 => ?_) (fun h11 => ?_)
      · refine g_aload_n C dX12_set_53 rfl 0 rfl ?_
        refine g_iconst C (v := (2 : Int32)) dX12_set_54 (by decide) ?_
        refine g_callV C (n := 1) (ci := 11) [.int (2 : Int32)] [] (m_X12_found a0 (2 : Int32) o10.2) dX12_set_55 gX12_set_X12_found rfl ⟨rfl, rfl⟩ (by decide +kernel) ⟨by decide, by decide⟩ ⟨by decide, by decide⟩ rfl (by decide) rfl rfl (by first | exact Nat.le_of_ble_eq_true rfl | simp [va_rf_cat, vi_cat, vl_cat]) (fun o12 eo12 => ?_)
        show G Γ cvI 4 0 0 58 [(0, va_rf a0), (1, .int x1), (2, .int x2), (3, .int x3)] [.int o12.1] o12.2 _
        exact g_iret C dX12_set_58 ⟨by decide, by decide⟩
      · refine g_aload_n C dX12_set_59 rfl 0 rfl ?_
        refine g_getR C (ci := 11) (k := 4) dX12_set_60 rfl (by decide) (by decide) (by decide) ulX12_set_X12 flX12_set_24 rfl (fun v13 ev13 => ?_)
        refine g_bipush C (v := (40 : Int32)) dX12_set_63 (by decide) ?_
        refine g_iload_n C dX12_set_65 rfl 1 rfl ?_
        refine g_imul C dX12_set_66 ?_
        refine g_iload_n C dX12_set_67 rfl 2 rfl ?_
        refine g_iadd C dX12_set_68 ?_
        refine g_aload_n C dX12_set_69 rfl 0 rfl ?_
        refine g_getR C (ci := 11) (k := 2) dX12_set_70 rfl (by decide) (by decide) (by decide) ulX12_set_X12 flX12_set_17 rfl (fun v14 ev14 => ?_)
        refine g_iload_n C dX12_set_73 rfl 1 rfl ?_
        refine g_ild C dX12_set_74 (fun v15 ev15 => ?_)
        refine g_if_ne C (tgt := 83) dX12_set_75 (by decide) (fun h16 => ?_) (fun h16 => ?_)
        · refine g_iload_n C dX12_set_78 rfl 3 rfl ?_
          refine g_i2b C dX12_set_79 ?_
          refine g_goto C (tgt := 99) dX12_set_80 (by decide) ?_
          exact g_sub (lv2 := [(0, va_rf a0), (1, .int x1), (2, .int x2)]) [0, 1, 2] rfl (t_X12_set_99 C a0 x1 x2 v13 (((40 : Int32) * x1) + x2) x3.toInt8.toInt32 o10.2)
        · refine g_aload_n C dX12_set_83 rfl 0 rfl ?_
          refine g_getR C (ci := 11) (k := 2) dX12_set_84 rfl (by decide) (by decide) (by decide) ulX12_set_X12 flX12_set_17 rfl (fun v17 ev17 => ?_)
          refine g_iload_n C dX12_set_87 rfl 1 rfl ?_
          refine g_ild C dX12_set_88 (fun v18 ev18 => ?_)
          refine g_iconst C (v := (1 : Int32)) dX12_set_89 (by decide) ?_
          refine g_icmp_ne C (tgt := 98) dX12_set_90 (by decide) (fun h19 => ?_) (fun h19 => ?_)
          · refine g_iload_n C dX12_set_93 rfl 3 rfl ?_
            refine g_i2s C dX12_set_94 ?_
            refine g_goto C (tgt := 99) dX12_set_95 (by decide) ?_
            exact g_sub (lv2 := [(0, va_rf a0), (1, .int x1), (2, .int x2)]) [0, 1, 2] rfl (t_X12_set_99 C a0 x1 x2 v13 (((40 : Int32) * x1) + x2) x3.toInt16.toInt32 o10.2)
          · refine g_iload_n C dX12_set_98 rfl 3 rfl ?_
            exact g_sub (lv2 := [(0, va_rf a0), (1, .int x1), (2, .int x2)]) [0, 1, 2] rfl (t_X12_set_99 C a0 x1 x2 v13 (((40 : Int32) * x1) + x2) x3 o10.2)
    · refine g_aload_n C dX12_set_29 rfl 0 rfl ?_
      refine g_iconst C (v := (1 : Int32)) dX12_set_30 (by decide) ?_
      refine g_callV C (n := 1) (ci := 11) [.int (1 : Int32)] [] (m_X12_found a0 (1 : Int32) S4) dX12_set_31 gX12_set_X12_found rfl ⟨rfl, rfl⟩ (by decide +kernel) ⟨by decide, by decide⟩ ⟨by decide, by decide⟩ rfl (by decide) rfl rfl (by first | exact Nat.le_of_ble_eq_true rfl | simp [va_rf_cat, vi_cat, vl_cat]) (fun o20 eo20 => ?_)
      show G Γ cvI 4 0 0 34 [(0, va_rf a0), (1, .int x1), (2, .int x2), (3, .int x3)] [.int o20.1] o20.2 _
      exact g_iret C dX12_set_34 ⟨by decide, by decide⟩
abbrev rmX12_copy : Room := { frames := 2, cells := 0, slots := 0, locals := 45 }
theorem flX12_copy_1 : Cond.fieldLink RX12 1 "LightLinesModel" "thrown" "I" ∈ wsX12_copy := by decide +kernel
theorem flX12_copy_7 : Cond.fieldLink RX12 7 "LightLinesModel" "status" "I" ∈ wsX12_copy := by decide +kernel
theorem flX12_copy_17 : Cond.fieldLink RX12 17 "LightLinesModel" "lane" "[I" ∈ wsX12_copy := by decide +kernel
theorem flX12_copy_21 : Cond.fieldLink RX12 21 "LightLinesModel" "many" "[I" ∈ wsX12_copy := by decide +kernel
theorem flX12_copy_24 : Cond.fieldLink RX12 24 "LightLinesModel" "item" "[I" ∈ wsX12_copy := by decide +kernel
set_option maxRecDepth 100000 in
theorem ulX12_copy_X12 : ∀ w ∈ u_ws RX12 TX12 42, w ∈ wsX12_copy := by decide +kernel
set_option maxHeartbeats 4000000 in
set_option maxRecDepth 100000 in
theorem t_X12_copy_45 {Γ : Cx} (C : CF Γ cX12_copy 9 (some .int) wsX12_copy RX12 rmX12_copy 0 0) (a0 : Option Nat) (S : St) : G Γ cvI 9 0 0 45 [(0, va_rf a0)] [] S (b_X12_copy_45  a0 S) := by
  unfold b_X12_copy_45
  refine g_aload_n C dX12_copy_45 rfl 0 rfl ?_
  refine g_iconst C (v := (1 : Int32)) dX12_copy_46 (by decide) ?_
  refine g_callV C (n := 1) (ci := 11) [.int (1 : Int32)] [] (m_X12_found a0 (1 : Int32) S) dX12_copy_47 gX12_copy_X12_found rfl ⟨rfl, rfl⟩ (by decide +kernel) ⟨by decide, by decide⟩ ⟨by decide, by decide⟩ rfl (by decide) rfl rfl (by first | exact Nat.le_of_ble_eq_true rfl | simp [va_rf_cat, vi_cat, vl_cat]) (fun o1 eo1 => ?_)
  show G Γ cvI 9 0 0 50 [(0, va_rf a0)] [.int o1.1] o1.2 _
  exact g_iret C dX12_copy_50 ⟨by decide, by decide⟩
set_option maxHeartbeats 4000000 in
set_option maxRecDepth 100000 in
theorem t_X12_copy_121 {Γ : Cx} (C : CF Γ cX12_copy 9 (some .int) wsX12_copy RX12 rmX12_copy 0 0) (a0 : Option Nat) (S : St) : G Γ cvI 9 0 0 121 [(0, va_rf a0)] [] S (b_X12_copy_121  a0 S) := by
  unfold b_X12_copy_121
  refine g_aload_n C dX12_copy_121 rfl 0 rfl ?_
  refine g_iconst C (v := (2 : Int32)) dX12_copy_122 (by decide) ?_
  refine g_callV C (n := 1) (ci := 11) [.int (2 : Int32)] [] (m_X12_found a0 (2 : Int32) S) dX12_copy_123 gX12_copy_X12_found rfl ⟨rfl, rfl⟩ (by decide +kernel) ⟨by decide, by decide⟩ ⟨by decide, by decide⟩ rfl (by decide) rfl rfl (by first | exact Nat.le_of_ble_eq_true rfl | simp [va_rf_cat, vi_cat, vl_cat]) (fun o1 eo1 => ?_)
  show G Γ cvI 9 0 0 126 [(0, va_rf a0)] [.int o1.1] o1.2 _
  exact g_iret C dX12_copy_126 ⟨by decide, by decide⟩
set_option maxHeartbeats 4000000 in
set_option maxRecDepth 100000 in
theorem t_X12_copy_167 {Γ : Cx} (C : CF Γ cX12_copy 9 (some .int) wsX12_copy RX12 rmX12_copy 0 0) (rc143 : Option Nat → Int32 → Int32 → Int32 → Int32 → Int32 → Int32 → Int32 → St → Option (Int32 × St)) (hrc143 : ∀ (a0 : Option Nat) (x1 : Int32) (x2 : Int32) (x3 : Int32) (x4 : Int32) (x5 : Int32) (x6 : Int32) (x7 : Int32) (S : St), G Γ cvI 9 0 0 143 [(0, va_rf a0), (1, .int x1), (2, .int x2), (3, .int x3), (4, .int x4), (5, .int x5), (6, .int x6), (7, .int x7)] [] S (rc143 a0 x1 x2 x3 x4 x5 x6 x7 S)) (a0 : Option Nat) (x1 : Int32) (x2 : Int32) (x3 : Int32) (x4 : Int32) (x5 : Int32) (x6 : Int32) (x7 : Int32) (s0 : Int32) (S : St) : G Γ cvI 9 0 0 167 [(0, va_rf a0), (1, .int x1), (2, .int x2), (3, .int x3), (4, .int x4), (5, .int x5), (6, .int x6), (7, .int x7)] [.int s0] S (b_X12_copy_167 rc143 a0 x1 x2 x3 x4 x5 x6 x7 s0 S) := by
  unfold b_X12_copy_167
  refine g_istore C (lv2 := [(8, .int s0), (0, va_rf a0), (1, .int x1), (2, .int x2), (3, .int x3), (4, .int x4), (5, .int x5), (6, .int x6), (7, .int x7)]) dX12_copy_167 (by decide) (by first | rfl | simp [va_rf_cat, vi_cat, vl_cat]) ?_
  refine g_aload_n C dX12_copy_169 rfl 1 rfl ?_
  refine g_getR C (ci := 11) (k := 4) dX12_copy_170 rfl (by decide) (by decide) (by decide) ulX12_copy_X12 flX12_copy_24 rfl (fun v1 ev1 => ?_)
  refine g_bipush C (v := (40 : Int32)) dX12_copy_173 (by decide) ?_
  refine g_iload_n C dX12_copy_175 rfl 4 rfl ?_
  refine g_imul C dX12_copy_176 ?_
  refine g_iload C dX12_copy_177 5 rfl ?_
  refine g_iadd C dX12_copy_179 ?_
  refine g_iload C dX12_copy_180 0 rfl ?_
  refine g_iadd C dX12_copy_182 ?_
  refine g_aload_n C dX12_copy_183 rfl 1 rfl ?_
  refine g_getR C (ci := 11) (k := 4) dX12_copy_184 rfl (by decide) (by decide) (by decide) ulX12_copy_X12 flX12_copy_24 rfl (fun v2 ev2 => ?_)
  refine g_bipush C (v := (40 : Int32)) dX12_copy_187 (by decide) ?_
  refine g_iload_n C dX12_copy_189 rfl 2 rfl ?_
  refine g_imul C dX12_copy_190 ?_
  refine g_iload_n C dX12_copy_191 rfl 3 rfl ?_
  refine g_iadd C dX12_copy_192 ?_
  refine g_iload C dX12_copy_193 0 rfl ?_
  refine g_iadd C dX12_copy_195 ?_
  refine g_ild C dX12_copy_196 (fun v3 ev3 => ?_)
  refine g_ist C dX12_copy_197 (fun S4 eS4 => ?_)
  refine g_iinc1 C dX12_copy_198 8 rfl (by decide) (by decide) (fun y5 => ?_)
  refine g_lveq (lv2 := [(7, .int y5), (8, .int s0), (0, va_rf a0), (1, .int x1), (2, .int x2), (3, .int x3), (4, .int x4), (5, .int x5), (6, .int x6)]) (by first | rfl | simp [va_rf_cat, vi_cat, vl_cat]) ?_
  refine g_goto C (tgt := 143) dX12_copy_201 (by decide) ?_
  exact g_sub (lv2 := [(0, va_rf a0), (1, .int x1), (2, .int x2), (3, .int x3), (4, .int x4), (5, .int x5), (6, .int x6), (7, .int y5)]) [2, 3, 4, 5, 6, 7, 8, 0] rfl (hrc143 a0 x1 x2 x3 x4 x5 x6 y5 S4)
set_option maxHeartbeats 4000000 in
set_option maxRecDepth 100000 in
theorem t_X12_copy_204 {Γ : Cx} (C : CF Γ cX12_copy 9 (some .int) wsX12_copy RX12 rmX12_copy 0 0) (x5 : Int32) (S : St) : G Γ cvI 9 0 0 204 [(5, .int x5)] [] S (b_X12_copy_204  x5 S) := by
  unfold b_X12_copy_204
  refine g_iload C dX12_copy_204 0 rfl ?_
  exact g_iret C dX12_copy_206 ⟨by decide, by decide⟩
set_option maxHeartbeats 4000000 in
set_option maxRecDepth 100000 in
theorem t_X12_copy_143 {Γ : Cx} (C : CF Γ cX12_copy 9 (some .int) wsX12_copy RX12 rmX12_copy 0 0) : ∀ (n : Nat) (a0 : Option Nat) (x1 : Int32) (x2 : Int32) (x3 : Int32) (x4 : Int32) (x5 : Int32) (x6 : Int32) (x7 : Int32) (S : St), G Γ cvI 9 0 0 143 [(0, va_rf a0), (1, .int x1), (2, .int x2), (3, .int x3), (4, .int x4), (5, .int x5), (6, .int x6), (7, .int x7)] [] S (b_X12_copy_143  n a0 x1 x2 x3 x4 x5 x6 x7 S) := by
  intro n
  induction n with
  | zero => intro a0 x1 x2 x3 x4 x5 x6 x7 S; exact g_none
  | succ n ih =>
    intro a0 x1 x2 x3 x4 x5 x6 x7 S
    rw [b_X12_copy_143]
    refine g_iload C dX12_copy_143 7 rfl ?_
    refine g_iload C dX12_copy_145 5 rfl ?_
    refine g_icmp_ge C (tgt := 204) dX12_copy_147 (by decide) (fun h1 => ?_) (fun h1 => ?_)
    · exact g_sub (lv2 := [(5, .int x5)]) [5] rfl (t_X12_copy_204 C x5 S)
    · refine g_iload C dX12_copy_150 6 rfl ?_
      refine g_if_eq C (tgt := 160) dX12_copy_152 (by decide) (fun h2 => ?_) (fun h2 => ?_)
      · refine g_iload C dX12_copy_160 5 rfl ?_
        refine g_iconst C (v := (1 : Int32)) dX12_copy_162 (by decide) ?_
        refine g_isub C dX12_copy_163 ?_
        refine g_iload C dX12_copy_164 7 rfl ?_
        refine g_isub C dX12_copy_166 ?_
        exact g_sub (lv2 := [(0, va_rf a0), (1, .int x1), (2, .int x2), (3, .int x3), (4, .int x4), (5, .int x5), (6, .int x6), (7, .int x7)]) [0, 1, 2, 3, 4, 5, 6, 7] rfl (t_X12_copy_167 C (b_X12_copy_143 n) ih a0 x1 x2 x3 x4 x5 x6 x7 ((x5 - (1 : Int32)) - x7) S)
      · refine g_iload C dX12_copy_155 7 rfl ?_
        refine g_goto C (tgt := 167) dX12_copy_157 (by decide) ?_
        exact g_sub (lv2 := [(0, va_rf a0), (1, .int x1), (2, .int x2), (3, .int x3), (4, .int x4), (5, .int x5), (6, .int x6), (7, .int x7)]) [0, 1, 2, 3, 4, 5, 6, 7] rfl (t_X12_copy_167 C (b_X12_copy_143 n) ih a0 x1 x2 x3 x4 x5 x6 x7 x7 S)
set_option maxHeartbeats 4000000 in
set_option maxRecDepth 100000 in
theorem t_X12_copy_138 {Γ : Cx} (C : CF Γ cX12_copy 9 (some .int) wsX12_copy RX12 rmX12_copy 0 0) (a0 : Option Nat) (x1 : Int32) (x2 : Int32) (x3 : Int32) (x4 : Int32) (x5 : Int32) (s0 : Int32) (S : St) : G Γ cvI 9 0 0 138 [(0, va_rf a0), (1, .int x1), (2, .int x2), (3, .int x3), (4, .int x4), (5, .int x5)] [.int s0] S (b_X12_copy_138  a0 x1 x2 x3 x4 x5 s0 S) := by
  unfold b_X12_copy_138
  refine g_istore C (lv2 := [(6, .int s0), (0, va_rf a0), (1, .int x1), (2, .int x2), (3, .int x3), (4, .int x4), (5, .int x5)]) dX12_copy_138 (by decide) (by first | rfl | simp [va_rf_cat, vi_cat, vl_cat]) ?_
  refine g_iconst C (v := (0 : Int32)) dX12_copy_140 (by decide) ?_
  refine g_istore C (lv2 := [(7, .int (0 : Int32)), (6, .int s0), (0, va_rf a0), (1, .int x1), (2, .int x2), (3, .int x3), (4, .int x4), (5, .int x5)]) dX12_copy_141 (by decide) (by first | rfl | simp [va_rf_cat, vi_cat, vl_cat]) ?_
  exact g_sub (lv2 := [(0, va_rf a0), (1, .int x1), (2, .int x2), (3, .int x3), (4, .int x4), (5, .int x5), (6, .int s0), (7, .int (0 : Int32))]) [2, 3, 4, 5, 6, 7, 1, 0] rfl (t_X12_copy_143 C FU a0 x1 x2 x3 x4 x5 s0 (0 : Int32) S)
set_option maxHeartbeats 4000000 in
set_option maxRecDepth 100000 in
theorem m_X12_copy (a0 : Option Nat) (x1 : Int32) (x2 : Int32) (x3 : Int32) (x4 : Int32) (x5 : Int32) (S : St) : ∀ l D cy H0 o, f_X12_copy a0 x1 x2 x3 x4 x5 S = some o → Met l yX12_copy wsX12_copy rmX12_copy (Pq D cy H0 [va_rf a0, .int x1, .int x2, .int x3, .int x4, .int x5] S) (Qx D cy H0 (cvI o)) 0 0 (fun q => H0.size ≤ q) := by
  refine met_of (cc := cX12_copy) (maxL := 9) (ret := (some .int)) [va_rf a0, .int x1, .int x2, .int x3, .int x4, .int x5] [(0, va_rf a0), (1, .int x1), (2, .int x2), (3, .int x3), (4, .int x4), (5, .int x5)] (by decide) rfl rfl (by simp [lg_sl, va_rf_cat, vi_cat, vl_cat]) (by simp [lv_args, va_rf_cat, vi_cat, vl_cat]) (fun Γ C => ?_)
  unfold f_X12_copy
  refine g_aload_n C dX12_copy_0 rfl 0 rfl ?_
  refine g_iconst C (v := (0 : Int32)) dX12_copy_1 (by decide) ?_
  refine g_putI C (ci := 11) (k := 0) (ty0 := tyX12) dX12_copy_2 rfl (by decide) (by decide) (by decide) tyX12_ok nmX12 ulX12_copy_X12 flX12_copy_1 rfl rfl ⟨rfl, rfl⟩ (fun S1 eS1 => ?_)
  refine g_iload_n C dX12_copy_5 rfl 1 rfl ?_
  refine g_callS C (n := 1) [.int x1] [] (m_X12_isSheet x1 S1) dX12_copy_6 gX12_copy_X12_isSheet rfl ⟨rfl, rfl⟩ (by decide +kernel) ⟨by decide, by decide⟩ ⟨by decide, by decide⟩ rfl rfl (by first | exact Nat.le_of_ble_eq_true rfl | simp [va_rf_cat, vi_cat, vl_cat]) (fun o2 eo2 => ?_)
  show G Γ cvI 9 0 0 9 [(0, va_rf a0), (1, .int x1), (2, .int x2), (3, .int x3), (4, .int x4), (5, .int x5)] [.int o2.1] o2.2 _
  refine g_if_eq C (tgt := 19) dX12_copy_9 (by decide) (fun h3 => ?_) (fun h3 => ?_)
  · refine g_ldc C (v := (-1000001 : Int32)) dX12_copy_19 (by decide +kernel) ?_
    exact g_iret C dX12_copy_21 ⟨by decide, by decide⟩
  · refine g_iload_n C dX12_copy_12 rfl 3 rfl ?_
    refine g_callS C (n := 1) [.int x3] [] (m_X12_isSheet x3 o2.2) dX12_copy_13 gX12_copy_X12_isSheet rfl ⟨rfl, rfl⟩ (by decide +kernel) ⟨by decide, by decide⟩ ⟨by decide, by decide⟩ rfl rfl (by first | exact Nat.le_of_ble_eq_true rfl | simp [va_rf_cat, vi_cat, vl_cat]) (fun o4 eo4 => ?_)
    show G Γ cvI 9 0 0 16 [(0, va_rf a0), (1, .int x1), (2, .int x2), (3, .int x3), (4, .int x4), (5, .int x5)] [.int o4.1] o4.2 _
    refine g_if_ne C (tgt := 22) dX12_copy_16 (by decide) (fun h5 => ?_) (fun h5 => ?_)
    · refine g_ldc C (v := (-1000001 : Int32)) dX12_copy_19 (by decide +kernel) ?_
      exact g_iret C dX12_copy_21 ⟨by decide, by decide⟩
    · refine g_aload_n C dX12_copy_22 rfl 0 rfl ?_
      refine g_iconst C (v := (0 : Int32)) dX12_copy_23 (by decide) ?_
      refine g_putI C (ci := 11) (k := 1) (ty0 := tyX12) dX12_copy_24 rfl (by decide) (by decide) (by decide) tyX12_ok nmX12 ulX12_copy_X12 flX12_copy_7 rfl rfl ⟨rfl, rfl⟩ (fun S6 eS6 => ?_)
      refine g_aload_n C dX12_copy_27 rfl 0 rfl ?_
      refine g_getR C (ci := 11) (k := 2) dX12_copy_28 rfl (by decide) (by decide) (by decide) ulX12_copy_X12 flX12_copy_17 rfl (fun v7 ev7 => ?_)
      refine g_iload_n C dX12_copy_31 rfl 1 rfl ?_
      refine g_ild C dX12_copy_32 (fun v8 ev8 => ?_)
      refine g_if_lt C (tgt := 45) dX12_copy_33 (by decide) (fun h9 => ?_) (fun h9 => ?_)
      · exact g_sub (lv2 := [(0, va_rf a0)]) [0] rfl (t_X12_copy_45 C a0 S6)
      · refine g_aload_n C dX12_copy_36 rfl 0 rfl ?_
        refine g_getR C (ci := 11) (k := 2) dX12_copy_37 rfl (by decide) (by decide) (by decide) ulX12_copy_X12 flX12_copy_17 rfl (fun v10 ev10 => ?_)
        refine g_iload_n C dX12_copy_40 rfl 3 rfl ?_
        refine g_ild C dX12_copy_41 (fun v11 ev11 => ?_)
        refine g_if_ge C (tgt := 51) dX12_copy_42 (by decide) (fun h12 => ?_) (fun h12 => ?_)
        · refine g_aload_n C dX12_copy_51 rfl 0 rfl ?_
          refine g_getR C (ci := 11) (k := 2) dX12_copy_52 rfl (by decide) (by decide) (by decide) ulX12_copy_X12 flX12_copy_17 rfl (fun v13 ev13 => ?_)
          refine g_iload_n C dX12_copy_55 rfl 1 rfl ?_
          refine g_ild C dX12_copy_56 (fun v14 ev14 => ?_)
          refine g_aload_n C dX12_copy_57 rfl 0 rfl ?_
          refine g_getR C (ci := 11) (k := 2) dX12_copy_58 rfl (by decide) (by decide) (by decide) ulX12_copy_X12 flX12_copy_17 rfl (fun v15 ev15 => ?_)
          refine g_iload_n C dX12_copy_61 rfl 3 rfl ?_
          refine g_ild C dX12_copy_62 (fun v16 ev16 => ?_)
          refine g_icmp_eq C (tgt := 72) dX12_copy_63 (by decide) (fun h17 => ?_) (fun h17 => ?_)
          · refine g_iload_n C dX12_copy_72 rfl 2 rfl ?_
            refine g_if_lt C (tgt := 121) dX12_copy_73 (by decide) (fun h18 => ?_) (fun h18 => ?_)
            · exact g_sub (lv2 := [(0, va_rf a0)]) [0] rfl (t_X12_copy_121 C a0 S6)
            · refine g_iload C dX12_copy_76 4 rfl ?_
              refine g_if_lt C (tgt := 121) dX12_copy_78 (by decide) (fun h19 => ?_) (fun h19 => ?_)
              · exact g_sub (lv2 := [(0, va_rf a0)]) [0] rfl (t_X12_copy_121 C a0 S6)
              · refine g_iload C dX12_copy_81 5 rfl ?_
                refine g_if_lt C (tgt := 121) dX12_copy_83 (by decide) (fun h20 => ?_) (fun h20 => ?_)
                · exact g_sub (lv2 := [(0, va_rf a0)]) [0] rfl (t_X12_copy_121 C a0 S6)
                · refine g_iload_n C dX12_copy_86 rfl 2 rfl ?_
                  refine g_i2l C dX12_copy_87 ?_
                  refine g_iload C dX12_copy_88 5 rfl ?_
                  refine g_i2l C dX12_copy_90 ?_
                  refine g_ladd C dX12_copy_91 ?_
                  refine g_aload_n C dX12_copy_92 rfl 0 rfl ?_
                  refine g_getR C (ci := 11) (k := 3) dX12_copy_93 rfl (by decide) (by decide) (by decide) ulX12_copy_X12 flX12_copy_21 rfl (fun v21 ev21 => ?_)
                  refine g_iload_n C dX12_copy_96 rfl 1 rfl ?_
                  refine g_ild C dX12_copy_97 (fun v22 ev22 => ?_)
                  refine g_i2l C dX12_copy_98 ?_
                  refine g_lcmp C dX12_copy_99 ?_
                  refine g_if_gt C (tgt := 121) dX12_copy_100 (by decide) (fun h23 => ?_) (fun h23 => ?_)
                  · exact g_sub (lv2 := [(0, va_rf a0)]) [0] rfl (t_X12_copy_121 C a0 S6)
                  · refine g_iload C dX12_copy_103 4 rfl ?_
                    refine g_i2l C dX12_copy_105 ?_
                    refine g_iload C dX12_copy_106 5 rfl ?_
                    refine g_i2l C dX12_copy_108 ?_
                    refine g_ladd C dX12_copy_109 ?_
                    refine g_aload_n C dX12_copy_110 rfl 0 rfl ?_
                    refine g_getR C (ci := 11) (k := 3) dX12_copy_111 rfl (by decide) (by decide) (by decide) ulX12_copy_X12 flX12_copy_21 rfl (fun v24 ev24 => ?_)
                    refine g_iload_n C dX12_copy_114 rfl 3 rfl ?_
                    refine g_ild C dX12_copy_115 (fun v25 ev25 => ?_)
                    refine g_i2l C dX12_copy_116 ?_
                    refine g_lcmp C dX12_copy_117 ?_
                    refine g_if_le C (tgt := 127) dX12_copy_118 (by decide) (fun h26 => ?_) (fun h26 => ?_)
                    · refine g_iload_n C dX12_copy_127 rfl 2 rfl ?_
                      refine g_iload C dX12_copy_128 4 rfl ?_
                      refine g_icmp_lt C (tgt := 137) dX12_copy_130 (by decide) (fun h27 => ?_) (fun h27 => ?_)
                      · refine g_iconst C (v := (0 : Int32)) dX12_copy_137 (by decide) ?_
                        exact g_sub (lv2 := [(0, va_rf a0), (1, .int x1), (2, .int x2), (3, .int x3), (4, .int x4), (5, .int x5)]) [0, 1, 2, 3, 4, 5] rfl (t_X12_copy_138 C a0 x1 x2 x3 x4 x5 (0 : Int32) S6)
                      · refine g_iconst C (v := (1 : Int32)) dX12_copy_133 (by decide) ?_
                        refine g_goto C (tgt := 138) dX12_copy_134 (by decide) ?_
                        exact g_sub (lv2 := [(0, va_rf a0), (1, .int x1), (2, .int x2), (3, .int x3), (4, .int x4), (5, .int x5)]) [0, 1, 2, 3, 4, 5] rfl (t_X12_copy_138 C a0 x1 x2 x3 x4 x5 (1 : Int32) S6)
                    · exact g_sub (lv2 := [(0, va_rf a0)]) [0] rfl (t_X12_copy_121 C a0 S6)
          · refine g_aload_n C dX12_copy_66 rfl 0 rfl ?_
            refine g_iconst C (v := (5 : Int32)) dX12_copy_67 (by decide) ?_
            refine g_callV C (n := 1) (ci := 11) [.int (5 : Int32)] [] (m_X12_found a0 (5 : Int32) S6) dX12_copy_68 gX12_copy_X12_found rfl ⟨rfl, rfl⟩ (by decide +kernel) ⟨by decide, by decide⟩ ⟨by decide, by decide⟩ rfl (by decide) rfl rfl (by first | exact Nat.le_of_ble_eq_true rfl | simp [va_rf_cat, vi_cat, vl_cat]) (fun o28 eo28 => ?_)
            show G Γ cvI 9 0 0 71 [(0, va_rf a0), (1, .int x1), (2, .int x2), (3, .int x3), (4, .int x4), (5, .int x5)] [.int o28.1] o28.2 _
            exact g_iret C dX12_copy_71 ⟨by decide, by decide⟩
        · exact g_sub (lv2 := [(0, va_rf a0)]) [0] rfl (t_X12_copy_45 C a0 S6)
abbrev rmX12_drop : Room := { frames := 2, cells := 0, slots := 0, locals := 45 }
theorem flX12_drop_1 : Cond.fieldLink RX12 1 "LightLinesModel" "thrown" "I" ∈ wsX12_drop := by decide +kernel
theorem flX12_drop_7 : Cond.fieldLink RX12 7 "LightLinesModel" "status" "I" ∈ wsX12_drop := by decide +kernel
theorem flX12_drop_17 : Cond.fieldLink RX12 17 "LightLinesModel" "lane" "[I" ∈ wsX12_drop := by decide +kernel
theorem flX12_drop_21 : Cond.fieldLink RX12 21 "LightLinesModel" "many" "[I" ∈ wsX12_drop := by decide +kernel
set_option maxRecDepth 100000 in
theorem ulX12_drop_X12 : ∀ w ∈ u_ws RX12 TX12 42, w ∈ wsX12_drop := by decide +kernel
set_option maxHeartbeats 4000000 in
set_option maxRecDepth 100000 in
theorem m_X12_drop (a0 : Option Nat) (x1 : Int32) (S : St) : ∀ l D cy H0 o, f_X12_drop a0 x1 S = some o → Met l yX12_drop wsX12_drop rmX12_drop (Pq D cy H0 [va_rf a0, .int x1] S) (Qx D cy H0 (cvI o)) 0 0 (fun q => H0.size ≤ q) := by
  refine met_of (cc := cX12_drop) (maxL := 2) (ret := (some .int)) [va_rf a0, .int x1] [(0, va_rf a0), (1, .int x1)] (by decide) rfl rfl (by simp [lg_sl, va_rf_cat, vi_cat, vl_cat]) (by simp [lv_args, va_rf_cat, vi_cat, vl_cat]) (fun Γ C => ?_)
  unfold f_X12_drop
  refine g_aload_n C dX12_drop_0 rfl 0 rfl ?_
  refine g_iconst C (v := (0 : Int32)) dX12_drop_1 (by decide) ?_
  refine g_putI C (ci := 11) (k := 0) (ty0 := tyX12) dX12_drop_2 rfl (by decide) (by decide) (by decide) tyX12_ok nmX12 ulX12_drop_X12 flX12_drop_1 rfl rfl ⟨rfl, rfl⟩ (fun S1 eS1 => ?_)
  refine g_iload_n C dX12_drop_5 rfl 1 rfl ?_
  refine g_callS C (n := 1) [.int x1] [] (m_X12_isSheet x1 S1) dX12_drop_6 gX12_drop_X12_isSheet rfl ⟨rfl, rfl⟩ (by decide +kernel) ⟨by decide, by decide⟩ ⟨by decide, by decide⟩ rfl rfl (by first | exact Nat.le_of_ble_eq_true rfl | simp [va_rf_cat, vi_cat, vl_cat]) (fun o2 eo2 => ?_)
  show G Γ cvI 2 0 0 9 [(0, va_rf a0), (1, .int x1)] [.int o2.1] o2.2 _
  refine g_if_ne C (tgt := 15) dX12_drop_9 (by decide) (fun h3 => ?_) (fun h3 => ?_)
  · refine g_ldc C (v := (-1000001 : Int32)) dX12_drop_12 (by decide +kernel) ?_
    exact g_iret C dX12_drop_14 ⟨by decide, by decide⟩
  · refine g_aload_n C dX12_drop_15 rfl 0 rfl ?_
    refine g_iconst C (v := (0 : Int32)) dX12_drop_16 (by decide) ?_
    refine g_putI C (ci := 11) (k := 1) (ty0 := tyX12) dX12_drop_17 rfl (by decide) (by decide) (by decide) tyX12_ok nmX12 ulX12_drop_X12 flX12_drop_7 rfl rfl ⟨rfl, rfl⟩ (fun S4 eS4 => ?_)
    refine g_aload_n C dX12_drop_20 rfl 0 rfl ?_
    refine g_getR C (ci := 11) (k := 2) dX12_drop_21 rfl (by decide) (by decide) (by decide) ulX12_drop_X12 flX12_drop_17 rfl (fun v5 ev5 => ?_)
    refine g_iload_n C dX12_drop_24 rfl 1 rfl ?_
    refine g_ild C dX12_drop_25 (fun v6 ev6 => ?_)
    refine g_if_ge C (tgt := 35) dX12_drop_26 (by decide) (fun h7 => ?_) (fun h7 => ?_)
    · refine g_aload_n C dX12_drop_35 rfl 0 rfl ?_
      refine g_getR C (ci := 11) (k := 2) dX12_drop_36 rfl (by decide) (by decide) (by decide) ulX12_drop_X12 flX12_drop_17 rfl (fun v8 ev8 => ?_)
      refine g_iload_n C dX12_drop_39 rfl 1 rfl ?_
      refine g_iconst C (v := (-1 : Int32)) dX12_drop_40 (by decide) ?_
      refine g_ist C dX12_drop_41 (fun S9 eS9 => ?_)
      refine g_aload_n C dX12_drop_42 rfl 0 rfl ?_
      refine g_getR C (ci := 11) (k := 3) dX12_drop_43 rfl (by decide) (by decide) (by decide) ulX12_drop_X12 flX12_drop_21 rfl (fun v10 ev10 => ?_)
      refine g_iload_n C dX12_drop_46 rfl 1 rfl ?_
      refine g_ild C dX12_drop_47 (fun v11 ev11 => ?_)
      exact g_iret C dX12_drop_48 ⟨by decide, by decide⟩
    · refine g_aload_n C dX12_drop_29 rfl 0 rfl ?_
      refine g_iconst C (v := (1 : Int32)) dX12_drop_30 (by decide) ?_
      refine g_callV C (n := 1) (ci := 11) [.int (1 : Int32)] [] (m_X12_found a0 (1 : Int32) S4) dX12_drop_31 gX12_drop_X12_found rfl ⟨rfl, rfl⟩ (by decide +kernel) ⟨by decide, by decide⟩ ⟨by decide, by decide⟩ rfl (by decide) rfl rfl (by first | exact Nat.le_of_ble_eq_true rfl | simp [va_rf_cat, vi_cat, vl_cat]) (fun o12 eo12 => ?_)
      show G Γ cvI 2 0 0 34 [(0, va_rf a0), (1, .int x1)] [.int o12.1] o12.2 _
      exact g_iret C dX12_drop_34 ⟨by decide, by decide⟩
abbrev rmX12_isStroke : Room := { frames := 1, cells := 0, slots := 0, locals := 25 }
theorem flX12_isStroke_105 : Cond.fieldLink RX12 105 "LightLinesModel" "strokes" "I" ∈ wsX12_isStroke := by decide +kernel
set_option maxRecDepth 100000 in
theorem ulX12_isStroke_X12 : ∀ w ∈ u_ws RX12 TX12 42, w ∈ wsX12_isStroke := by decide +kernel
set_option maxHeartbeats 4000000 in
set_option maxRecDepth 100000 in
theorem m_X12_isStroke (a0 : Option Nat) (x1 : Int32) (S : St) : ∀ l D cy H0 o, f_X12_isStroke a0 x1 S = some o → Met l yX12_isStroke wsX12_isStroke rmX12_isStroke (Pq D cy H0 [va_rf a0, .int x1] S) (Qx D cy H0 (cvI o)) 0 0 (fun q => H0.size ≤ q) := by
  refine met_of (cc := cX12_isStroke) (maxL := 2) (ret := (some .boolean)) [va_rf a0, .int x1] [(0, va_rf a0), (1, .int x1)] (by decide) rfl rfl (by simp [lg_sl, va_rf_cat, vi_cat, vl_cat]) (by simp [lv_args, va_rf_cat, vi_cat, vl_cat]) (fun Γ C => ?_)
  unfold f_X12_isStroke
  refine g_iload_n C dX12_isStroke_0 rfl 1 rfl ?_
  refine g_i2l C dX12_isStroke_1 ?_
  refine g_lconst C (v := (0 : Int64)) dX12_isStroke_2 (by decide) ?_
  refine g_aload_n C dX12_isStroke_3 rfl 0 rfl ?_
  refine g_getI C (ci := 11) (k := 5) dX12_isStroke_4 rfl (by decide) (by decide) (by decide) ulX12_isStroke_X12 flX12_isStroke_105 rfl (fun v1 ev1 => ?_)
  refine g_iconst C (v := (1 : Int32)) dX12_isStroke_7 (by decide) ?_
  refine g_isub C dX12_isStroke_8 ?_
  refine g_i2l C dX12_isStroke_9 ?_
  refine g_callS C (n := 3) [.long x1.toInt64, .long (0 : Int64), .long ((v1 - (1 : Int32)).toInt64)] [] (m_X12_in x1.toInt64 (0 : Int64) ((v1 - (1 : Int32)).toInt64) S) dX12_isStroke_10 gX12_isStroke_X12_in rfl ⟨rfl, rfl⟩ (by decide +kernel) ⟨by decide, by decide⟩ ⟨by decide, by decide⟩ rfl rfl (by first | exact Nat.le_of_ble_eq_true rfl | simp [va_rf_cat, vi_cat, vl_cat]) (fun o2 eo2 => ?_)
  show G Γ cvI 2 0 0 13 [(0, va_rf a0), (1, .int x1)] [.int o2.1] o2.2 _
  exact g_zret C dX12_isStroke_13 ⟨by decide, by decide⟩
