abbrev rmX11_sheet : Room := { frames := 2, cells := 0, slots := 0, locals := 45 }
theorem flX11_sheet_11 : Cond.fieldLink RX11 11 "LightLines" "sheets" "[LLightLines$Sheet;" ∈ wsX11_sheet := by decide +kernel
set_option maxRecDepth 100000 in
theorem ulX11_sheet_X11 : ∀ w ∈ u_ws RX11 TX11 7, w ∈ wsX11_sheet := by decide +kernel
set_option maxHeartbeats 4000000 in
set_option maxRecDepth 100000 in
theorem m_X11_sheet (a0 : Option Nat) (x1 : Int32) (x2 : Int32) (x3 : Int32) (S : St) : ∀ l D cy H0 o, f_X11_sheet a0 x1 x2 x3 S = some o → Met l yX11_sheet wsX11_sheet rmX11_sheet (Pq D cy H0 [va_rf a0, .int x1, .int x2, .int x3] S) (Qx D cy H0 (cvI o)) 0 0 (fun q => H0.size ≤ q) := by
  refine met_of (cc := cX11_sheet) (maxL := 4) (ret := (some .int)) [va_rf a0, .int x1, .int x2, .int x3] [(0, va_rf a0), (1, .int x1), (2, .int x2), (3, .int x3)] (by decide) rfl rfl (by simp [lg_sl, va_rf_cat, vi_cat, vl_cat]) (by simp [lv_args, va_rf_cat, vi_cat, vl_cat]) (fun Γ C => ?_)
  unfold f_X11_sheet
  refine g_iload_n C dX11_sheet_0 rfl 1 rfl ?_
  refine g_callS C (n := 1) [.int x1] [] (m_X11_isSheet x1 S) dX11_sheet_1 gX11_sheet_X11_isSheet rfl ⟨rfl, rfl⟩ (by decide +kernel) ⟨by decide, by decide⟩ ⟨by decide, by decide⟩ rfl rfl (by first | exact Nat.le_of_ble_eq_true rfl | simp [va_rf_cat, vi_cat, vl_cat]) (fun o1 eo1 => ?_)
  show G Γ cvI 4 0 0 4 [(0, va_rf a0), (1, .int x1), (2, .int x2), (3, .int x3)] [.int o1.1] o1.2 _
  refine g_if_eq C (tgt := 22) dX11_sheet_4 (by decide) (fun h2 => ?_) (fun h2 => ?_)
  · refine g_ldc C (v := (-1000001 : Int32)) dX11_sheet_22 (by decide +kernel) ?_
    exact g_iret C dX11_sheet_24 ⟨by decide, by decide⟩
  · refine g_iload_n C dX11_sheet_7 rfl 2 rfl ?_
    refine g_iconst C (v := (0 : Int32)) dX11_sheet_8 (by decide) ?_
    refine g_iconst C (v := (2 : Int32)) dX11_sheet_9 (by decide) ?_
    refine g_callS C (n := 3) [.int x2, .int (0 : Int32), .int (2 : Int32)] [] (m_X11_isWithin x2 (0 : Int32) (2 : Int32) o1.2) dX11_sheet_10 gX11_sheet_X11_isWithin rfl ⟨rfl, rfl⟩ (by decide +kernel) ⟨by decide, by decide⟩ ⟨by decide, by decide⟩ rfl rfl (by first | exact Nat.le_of_ble_eq_true rfl | simp [va_rf_cat, vi_cat, vl_cat]) (fun o3 eo3 => ?_)
    show G Γ cvI 4 0 0 13 [(0, va_rf a0), (1, .int x1), (2, .int x2), (3, .int x3)] [.int o3.1] o3.2 _
    refine g_if_eq C (tgt := 22) dX11_sheet_13 (by decide) (fun h4 => ?_) (fun h4 => ?_)
    · refine g_ldc C (v := (-1000001 : Int32)) dX11_sheet_22 (by decide +kernel) ?_
      exact g_iret C dX11_sheet_24 ⟨by decide, by decide⟩
    · refine g_iload_n C dX11_sheet_16 rfl 3 rfl ?_
      refine g_bipush C (v := (40 : Int32)) dX11_sheet_17 (by decide) ?_
      refine g_icmp_le C (tgt := 25) dX11_sheet_19 (by decide) (fun h5 => ?_) (fun h5 => ?_)
      · refine g_iload_n C dX11_sheet_25 rfl 3 rfl ?_
        refine g_if_ge C (tgt := 35) dX11_sheet_26 (by decide) (fun h6 => ?_) (fun h6 => ?_)
        · refine g_aload_n C dX11_sheet_35 rfl 0 rfl ?_
          refine g_getR C (ci := 10) (k := 0) dX11_sheet_36 rfl (by decide) (by decide) (by decide) ulX11_sheet_X11 flX11_sheet_11 rfl (fun v7 ev7 => ?_)
          refine g_iload_n C dX11_sheet_39 rfl 1 rfl ?_
          refine g_ald16 C dX11_sheet_40 (fun v8 ev8 => ?_)
          refine g_iload_n C dX11_sheet_41 rfl 2 rfl ?_
          refine g_iload_n C dX11_sheet_42 rfl 3 rfl ?_
          refine g_callV C (n := 2) (ci := 5) [.int x2, .int x3] [] (m_X5_lay v8 x2 x3 o3.2) dX11_sheet_43 gX11_sheet_X5_lay rfl ⟨rfl, rfl⟩ (by decide +kernel) ⟨by decide, by decide⟩ ⟨by decide, by decide⟩ rfl (by decide) rfl rfl (by first | exact Nat.le_of_ble_eq_true rfl | simp [va_rf_cat, vi_cat, vl_cat]) (fun o9 eo9 => ?_)
          show G Γ cvI 4 0 0 46 [(0, va_rf a0), (1, .int x1), (2, .int x2), (3, .int x3)] [] o9 _
          refine g_aload_n C dX11_sheet_46 rfl 0 rfl ?_
          refine g_iload_n C dX11_sheet_47 rfl 3 rfl ?_
          refine g_callV C (n := 1) (ci := 10) [.int x3] [] (m_X11_fine a0 x3 o9) dX11_sheet_48 gX11_sheet_X11_fine rfl ⟨rfl, rfl⟩ (by decide +kernel) ⟨by decide, by decide⟩ ⟨by decide, by decide⟩ rfl (by decide) rfl rfl (by first | exact Nat.le_of_ble_eq_true rfl | simp [va_rf_cat, vi_cat, vl_cat]) (fun o10 eo10 => ?_)
          show G Γ cvI 4 0 0 51 [(0, va_rf a0), (1, .int x1), (2, .int x2), (3, .int x3)] [.int o10.1] o10.2 _
          exact g_iret C dX11_sheet_51 ⟨by decide, by decide⟩
        · refine g_aload_n C dX11_sheet_29 rfl 0 rfl ?_
          refine g_iconst C (v := (4 : Int32)) dX11_sheet_30 (by decide) ?_
          refine g_callV C (n := 1) (ci := 10) [.int (4 : Int32)] [] (m_X11_found a0 (4 : Int32) o3.2) dX11_sheet_31 gX11_sheet_X11_found rfl ⟨rfl, rfl⟩ (by decide +kernel) ⟨by decide, by decide⟩ ⟨by decide, by decide⟩ rfl (by decide) rfl rfl (by first | exact Nat.le_of_ble_eq_true rfl | simp [va_rf_cat, vi_cat, vl_cat]) (fun o11 eo11 => ?_)
          show G Γ cvI 4 0 0 34 [(0, va_rf a0), (1, .int x1), (2, .int x2), (3, .int x3)] [.int o11.1] o11.2 _
          exact g_iret C dX11_sheet_34 ⟨by decide, by decide⟩
      · refine g_ldc C (v := (-1000001 : Int32)) dX11_sheet_22 (by decide +kernel) ?_
        exact g_iret C dX11_sheet_24 ⟨by decide, by decide⟩
abbrev rmX11_set : Room := { frames := 3, cells := 0, slots := 0, locals := 65 }
theorem flX11_set_11 : Cond.fieldLink RX11 11 "LightLines" "sheets" "[LLightLines$Sheet;" ∈ wsX11_set := by decide +kernel
set_option maxRecDepth 100000 in
theorem ulX11_set_X11 : ∀ w ∈ u_ws RX11 TX11 7, w ∈ wsX11_set := by decide +kernel
set_option maxHeartbeats 4000000 in
set_option maxRecDepth 100000 in
theorem m_X11_set (a0 : Option Nat) (x1 : Int32) (x2 : Int32) (x3 : Int32) (S : St) : ∀ l D cy H0 o, f_X11_set a0 x1 x2 x3 S = some o → Met l yX11_set wsX11_set rmX11_set (Pq D cy H0 [va_rf a0, .int x1, .int x2, .int x3] S) (Qx D cy H0 (cvI o)) 0 0 (fun q => H0.size ≤ q) := by
  refine met_of (cc := cX11_set) (maxL := 5) (ret := (some .int)) [va_rf a0, .int x1, .int x2, .int x3] [(0, va_rf a0), (1, .int x1), (2, .int x2), (3, .int x3)] (by decide) rfl rfl (by simp [lg_sl, va_rf_cat, vi_cat, vl_cat]) (by simp [lv_args, va_rf_cat, vi_cat, vl_cat]) (fun Γ C => ?_)
  unfold f_X11_set
  refine g_iload_n C dX11_set_0 rfl 1 rfl ?_
  refine g_callS C (n := 1) [.int x1] [] (m_X11_isSheet x1 S) dX11_set_1 gX11_set_X11_isSheet rfl ⟨rfl, rfl⟩ (by decide +kernel) ⟨by decide, by decide⟩ ⟨by decide, by decide⟩ rfl rfl (by first | exact Nat.le_of_ble_eq_true rfl | simp [va_rf_cat, vi_cat, vl_cat]) (fun o1 eo1 => ?_)
  show G Γ cvI 5 0 0 4 [(0, va_rf a0), (1, .int x1), (2, .int x2), (3, .int x3)] [.int o1.1] o1.2 _
  refine g_if_ne C (tgt := 10) dX11_set_4 (by decide) (fun h2 => ?_) (fun h2 => ?_)
  · refine g_ldc C (v := (-1000001 : Int32)) dX11_set_7 (by decide +kernel) ?_
    exact g_iret C dX11_set_9 ⟨by decide, by decide⟩
  · refine g_aload_n C dX11_set_10 rfl 0 rfl ?_
    refine g_getR C (ci := 10) (k := 0) dX11_set_11 rfl (by decide) (by decide) (by decide) ulX11_set_X11 flX11_set_11 rfl (fun v3 ev3 => ?_)
    refine g_iload_n C dX11_set_14 rfl 1 rfl ?_
    refine g_ald16 C dX11_set_15 (fun v4 ev4 => ?_)
    refine g_astore C (i := 4) (lv2 := [(4, va_rf v4), (0, va_rf a0), (1, .int x1), (2, .int x2), (3, .int x3)]) dX11_set_16 (by decide) (by first | rfl | simp [va_rf_cat, vi_cat, vl_cat]) ?_
    refine g_aload C dX11_set_18 0 rfl ?_
    refine g_callV C (n := 0) (ci := 5) [] [] (m_X5_isMissing v4 o1.2) dX11_set_20 gX11_set_X5_isMissing rfl ⟨rfl, rfl⟩ (by decide +kernel) ⟨by decide, by decide⟩ ⟨by decide, by decide⟩ rfl (by decide) rfl rfl (by first | exact Nat.le_of_ble_eq_true rfl | simp [va_rf_cat, vi_cat, vl_cat]) (fun o5 eo5 => ?_)
    show G Γ cvI 5 0 0 23 [(4, va_rf v4), (0, va_rf a0), (1, .int x1), (2, .int x2), (3, .int x3)] [.int o5.1] o5.2 _
    refine g_if_eq C (tgt := 32) dX11_set_23 (by decide) (fun h6 => ?_) (fun h6 => ?_)
    · refine g_aload C dX11_set_32 0 rfl ?_
      refine g_iload_n C dX11_set_34 rfl 3 rfl ?_
      refine g_iconst C (v := (1 : Int32)) dX11_set_35 (by decide) ?_
      refine g_callV C (n := 2) (ci := 5) [.int x2, .int (1 : Int32)] [] (m_X5_has v4 x2 (1 : Int32) o5.2) dX11_set_36 gX11_set_X5_has rfl ⟨rfl, rfl⟩ (by decide +kernel) ⟨by decide, by decide⟩ ⟨by decide, by decide⟩ rfl (by decide) rfl rfl (by first | exact Nat.le_of_ble_eq_true rfl | simp [va_rf_cat, vi_cat, vl_cat]) (fun o7 eo7 => ?_)
      show G Γ cvI 5 0 0 39 [(4, va_rf v4), (0, va_rf a0), (1, .int x1), (2, .int x2), (3, .int x3)] [.int o7.1] o7.2 _
      refine g_if_ne C (tgt := 48) dX11_set_39 (by decide) (fun h8 => ?_) (fun h8 => ?_)
      · refine g_aload_n C dX11_set_42 rfl 1 rfl ?_
        refine g_iconst C (v := (2 : Int32)) dX11_set_43 (by decide) ?_
        refine g_callV C (n := 1) (ci := 10) [.int (2 : Int32)] [] (m_X11_found a0 (2 : Int32) o7.2) dX11_set_44 gX11_set_X11_found rfl ⟨rfl, rfl⟩ (by decide +kernel) ⟨by decide, by decide⟩ ⟨by decide, by decide⟩ rfl (by decide) rfl rfl (by first | exact Nat.le_of_ble_eq_true rfl | simp [va_rf_cat, vi_cat, vl_cat]) (fun o9 eo9 => ?_)
        show G Γ cvI 5 0 0 47 [(4, va_rf v4), (0, va_rf a0), (1, .int x1), (2, .int x2), (3, .int x3)] [.int o9.1] o9.2 _
        exact g_iret C dX11_set_47 ⟨by decide, by decide⟩
      · refine g_aload_n C dX11_set_48 rfl 1 rfl ?_
        refine g_aload C dX11_set_49 0 rfl ?_
        refine g_iload_n C dX11_set_51 rfl 3 rfl ?_
        refine g_iload_n C dX11_set_52 rfl 4 rfl ?_
        refine g_callV C (n := 2) (ci := 5) [.int x2, .int x3] [va_rf a0] (m_X5_put v4 x2 x3 o7.2) dX11_set_53 gX11_set_X5_put rfl ⟨rfl, rfl⟩ (by decide +kernel) ⟨by decide, by decide⟩ ⟨by decide, by decide⟩ rfl (by decide) rfl rfl (by first | exact Nat.le_of_ble_eq_true rfl | simp [va_rf_cat, vi_cat, vl_cat]) (fun o10 eo10 => ?_)
        show G Γ cvI 5 0 0 56 [(4, va_rf v4), (0, va_rf a0), (1, .int x1), (2, .int x2), (3, .int x3)] [.int o10.1, va_rf a0] o10.2 _
        refine g_callV C (n := 1) (ci := 10) [.int o10.1] [] (m_X11_fine a0 o10.1 o10.2) dX11_set_56 gX11_set_X11_fine rfl ⟨rfl, rfl⟩ (by decide +kernel) ⟨by decide, by decide⟩ ⟨by decide, by decide⟩ rfl (by decide) rfl rfl (by first | exact Nat.le_of_ble_eq_true rfl | simp [va_rf_cat, vi_cat, vl_cat]) (fun o11 eo11 => ?_)
        show G Γ cvI 5 0 0 59 [(4, va_rf v4), (0, va_rf a0), (1, .int x1), (2, .int x2), (3, .int x3)] [.int o11.1] o11.2 _
        exact g_iret C dX11_set_59 ⟨by decide, by decide⟩
    · refine g_aload_n C dX11_set_26 rfl 1 rfl ?_
      refine g_iconst C (v := (1 : Int32)) dX11_set_27 (by decide) ?_
      refine g_callV C (n := 1) (ci := 10) [.int (1 : Int32)] [] (m_X11_found a0 (1 : Int32) o5.2) dX11_set_28 gX11_set_X11_found rfl ⟨rfl, rfl⟩ (by decide +kernel) ⟨by decide, by decide⟩ ⟨by decide, by decide⟩ rfl (by decide) rfl rfl (by first | exact Nat.le_of_ble_eq_true rfl | simp [va_rf_cat, vi_cat, vl_cat]) (fun o12 eo12 => ?_)
      show G Γ cvI 5 0 0 31 [(4, va_rf v4), (0, va_rf a0), (1, .int x1), (2, .int x2), (3, .int x3)] [.int o12.1] o12.2 _
      exact g_iret C dX11_set_31 ⟨by decide, by decide⟩
abbrev rmX11_copy : Room := { frames := 2, cells := 0, slots := 0, locals := 48 }
theorem flX11_copy_11 : Cond.fieldLink RX11 11 "LightLines" "sheets" "[LLightLines$Sheet;" ∈ wsX11_copy := by decide +kernel
theorem flX11_copy_83 : Cond.fieldLink RX11 83 "LightLines$Sheet" "lane" "I" ∈ wsX11_copy := by decide +kernel
theorem flX11_copy_87 : Cond.fieldLink RX11 87 "LightLines$Sheet" "items" "[I" ∈ wsX11_copy := by decide +kernel
set_option maxRecDepth 100000 in
theorem ulX11_copy_X11 : ∀ w ∈ u_ws RX11 TX11 7, w ∈ wsX11_copy := by decide +kernel
set_option maxRecDepth 100000 in
theorem ulX11_copy_X5 : ∀ w ∈ u_ws RX5 TX5 3, w ∈ wsX11_copy := by decide +kernel
set_option maxHeartbeats 4000000 in
set_option maxRecDepth 100000 in
theorem t_X11_copy_49 {Γ : Cx} (C : CF Γ cX11_copy 8 (some .int) wsX11_copy RX11 rmX11_copy 0 0) (a0 : Option Nat) (S : St) : G Γ cvI 8 0 0 49 [(0, va_rf a0)] [] S (b_X11_copy_49  a0 S) := by
  unfold b_X11_copy_49
  refine g_aload_n C dX11_copy_49 rfl 0 rfl ?_
  refine g_iconst C (v := (1 : Int32)) dX11_copy_50 (by decide) ?_
  refine g_callV C (n := 1) (ci := 10) [.int (1 : Int32)] [] (m_X11_found a0 (1 : Int32) S) dX11_copy_51 gX11_copy_X11_found rfl ⟨rfl, rfl⟩ (by decide +kernel) ⟨by decide, by decide⟩ ⟨by decide, by decide⟩ rfl (by decide) rfl rfl (by first | exact Nat.le_of_ble_eq_true rfl | simp [va_rf_cat, vi_cat, vl_cat]) (fun o1 eo1 => ?_)
  show G Γ cvI 8 0 0 54 [(0, va_rf a0)] [.int o1.1] o1.2 _
  exact g_iret C dX11_copy_54 ⟨by decide, by decide⟩
set_option maxHeartbeats 4000000 in
set_option maxRecDepth 100000 in
theorem t_X11_copy_97 {Γ : Cx} (C : CF Γ cX11_copy 8 (some .int) wsX11_copy RX11 rmX11_copy 0 0) (a0 : Option Nat) (S : St) : G Γ cvI 8 0 0 97 [(0, va_rf a0)] [] S (b_X11_copy_97  a0 S) := by
  unfold b_X11_copy_97
  refine g_aload_n C dX11_copy_97 rfl 0 rfl ?_
  refine g_iconst C (v := (2 : Int32)) dX11_copy_98 (by decide) ?_
  refine g_callV C (n := 1) (ci := 10) [.int (2 : Int32)] [] (m_X11_found a0 (2 : Int32) S) dX11_copy_99 gX11_copy_X11_found rfl ⟨rfl, rfl⟩ (by decide +kernel) ⟨by decide, by decide⟩ ⟨by decide, by decide⟩ rfl (by decide) rfl rfl (by first | exact Nat.le_of_ble_eq_true rfl | simp [va_rf_cat, vi_cat, vl_cat]) (fun o1 eo1 => ?_)
  show G Γ cvI 8 0 0 102 [(0, va_rf a0)] [.int o1.1] o1.2 _
  exact g_iret C dX11_copy_102 ⟨by decide, by decide⟩
set_option maxHeartbeats 4000000 in
set_option maxRecDepth 100000 in
theorem m_X11_copy (a0 : Option Nat) (x1 : Int32) (x2 : Int32) (x3 : Int32) (x4 : Int32) (x5 : Int32) (S : St) : ∀ l D cy H0 o, f_X11_copy a0 x1 x2 x3 x4 x5 S = some o → Met l yX11_copy wsX11_copy rmX11_copy (Pq D cy H0 [va_rf a0, .int x1, .int x2, .int x3, .int x4, .int x5] S) (Qx D cy H0 (cvI o)) 0 0 (fun q => H0.size ≤ q) := by
  refine met_of (cc := cX11_copy) (maxL := 8) (ret := (some .int)) [va_rf a0, .int x1, .int x2, .int x3, .int x4, .int x5] [(0, va_rf a0), (1, .int x1), (2, .int x2), (3, .int x3), (4, .int x4), (5, .int x5)] (by decide) rfl rfl (by simp [lg_sl, va_rf_cat, vi_cat, vl_cat]) (by simp [lv_args, va_rf_cat, vi_cat, vl_cat]) (fun Γ C => ?_)
  unfold f_X11_copy
  refine g_iload_n C dX11_copy_0 rfl 1 rfl ?_
  refine g_callS C (n := 1) [.int x1] [] (m_X11_isSheet x1 S) dX11_copy_1 gX11_copy_X11_isSheet rfl ⟨rfl, rfl⟩ (by decide +kernel) ⟨by decide, by decide⟩ ⟨by decide, by decide⟩ rfl rfl (by first | exact Nat.le_of_ble_eq_true rfl | simp [va_rf_cat, vi_cat, vl_cat]) (fun o1 eo1 => ?_)
  show G Γ cvI 8 0 0 4 [(0, va_rf a0), (1, .int x1), (2, .int x2), (3, .int x3), (4, .int x4), (5, .int x5)] [.int o1.1] o1.2 _
  refine g_if_eq C (tgt := 14) dX11_copy_4 (by decide) (fun h2 => ?_) (fun h2 => ?_)
  · refine g_ldc C (v := (-1000001 : Int32)) dX11_copy_14 (by decide +kernel) ?_
    exact g_iret C dX11_copy_16 ⟨by decide, by decide⟩
  · refine g_iload_n C dX11_copy_7 rfl 3 rfl ?_
    refine g_callS C (n := 1) [.int x3] [] (m_X11_isSheet x3 o1.2) dX11_copy_8 gX11_copy_X11_isSheet rfl ⟨rfl, rfl⟩ (by decide +kernel) ⟨by decide, by decide⟩ ⟨by decide, by decide⟩ rfl rfl (by first | exact Nat.le_of_ble_eq_true rfl | simp [va_rf_cat, vi_cat, vl_cat]) (fun o3 eo3 => ?_)
    show G Γ cvI 8 0 0 11 [(0, va_rf a0), (1, .int x1), (2, .int x2), (3, .int x3), (4, .int x4), (5, .int x5)] [.int o3.1] o3.2 _
    refine g_if_ne C (tgt := 17) dX11_copy_11 (by decide) (fun h4 => ?_) (fun h4 => ?_)
    · refine g_ldc C (v := (-1000001 : Int32)) dX11_copy_14 (by decide +kernel) ?_
      exact g_iret C dX11_copy_16 ⟨by decide, by decide⟩
    · refine g_aload_n C dX11_copy_17 rfl 0 rfl ?_
      refine g_getR C (ci := 10) (k := 0) dX11_copy_18 rfl (by decide) (by decide) (by decide) ulX11_copy_X11 flX11_copy_11 rfl (fun v5 ev5 => ?_)
      refine g_iload_n C dX11_copy_21 rfl 1 rfl ?_
      refine g_ald16 C dX11_copy_22 (fun v6 ev6 => ?_)
      refine g_astore C (i := 6) (lv2 := [(6, va_rf v6), (0, va_rf a0), (1, .int x1), (2, .int x2), (3, .int x3), (4, .int x4), (5, .int x5)]) dX11_copy_23 (by decide) (by first | rfl | simp [va_rf_cat, vi_cat, vl_cat]) ?_
      refine g_aload_n C dX11_copy_25 rfl 1 rfl ?_
      refine g_getR C (ci := 10) (k := 0) dX11_copy_26 rfl (by decide) (by decide) (by decide) ulX11_copy_X11 flX11_copy_11 rfl (fun v7 ev7 => ?_)
      refine g_iload_n C dX11_copy_29 rfl 4 rfl ?_
      refine g_ald16 C dX11_copy_30 (fun v8 ev8 => ?_)
      refine g_astore C (i := 7) (lv2 := [(7, va_rf v8), (6, va_rf v6), (0, va_rf a0), (1, .int x1), (2, .int x2), (3, .int x3), (4, .int x4), (5, .int x5)]) dX11_copy_31 (by decide) (by first | rfl | simp [va_rf_cat, vi_cat, vl_cat]) ?_
      refine g_aload C dX11_copy_33 1 rfl ?_
      refine g_callV C (n := 0) (ci := 5) [] [] (m_X5_isMissing v6 o3.2) dX11_copy_35 gX11_copy_X5_isMissing rfl ⟨rfl, rfl⟩ (by decide +kernel) ⟨by decide, by decide⟩ ⟨by decide, by decide⟩ rfl (by decide) rfl rfl (by first | exact Nat.le_of_ble_eq_true rfl | simp [va_rf_cat, vi_cat, vl_cat]) (fun o9 eo9 => ?_)
      show G Γ cvI 8 0 0 38 [(7, va_rf v8), (6, va_rf v6), (0, va_rf a0), (1, .int x1), (2, .int x2), (3, .int x3), (4, .int x4), (5, .int x5)] [.int o9.1] o9.2 _
      refine g_if_ne C (tgt := 49) dX11_copy_38 (by decide) (fun h10 => ?_) (fun h10 => ?_)
      · refine g_aload C dX11_copy_41 0 rfl ?_
        refine g_callV C (n := 0) (ci := 5) [] [] (m_X5_isMissing v8 o9.2) dX11_copy_43 gX11_copy_X5_isMissing rfl ⟨rfl, rfl⟩ (by decide +kernel) ⟨by decide, by decide⟩ ⟨by decide, by decide⟩ rfl (by decide) rfl rfl (by first | exact Nat.le_of_ble_eq_true rfl | simp [va_rf_cat, vi_cat, vl_cat]) (fun o11 eo11 => ?_)
        show G Γ cvI 8 0 0 46 [(7, va_rf v8), (6, va_rf v6), (0, va_rf a0), (1, .int x1), (2, .int x2), (3, .int x3), (4, .int x4), (5, .int x5)] [.int o11.1] o11.2 _
        refine g_if_eq C (tgt := 55) dX11_copy_46 (by decide) (fun h12 => ?_) (fun h12 => ?_)
        · refine g_aload C dX11_copy_55 1 rfl ?_
          refine g_getI C (ci := 5) (k := 1) dX11_copy_57 rfl (by decide) (by decide) (by decide) ulX11_copy_X5 flX11_copy_83 rfl (fun v13 ev13 => ?_)
          refine g_aload C dX11_copy_60 0 rfl ?_
          refine g_getI C (ci := 5) (k := 1) dX11_copy_62 rfl (by decide) (by decide) (by decide) ulX11_copy_X5 flX11_copy_83 rfl (fun v14 ev14 => ?_)
          refine g_icmp_eq C (tgt := 74) dX11_copy_65 (by decide) (fun h15 => ?_) (fun h15 => ?_)
          · refine g_aload C dX11_copy_74 1 rfl ?_
            refine g_iload_n C dX11_copy_76 rfl 4 rfl ?_
            refine g_iload C dX11_copy_77 7 rfl ?_
            refine g_callV C (n := 2) (ci := 5) [.int x2, .int x5] [] (m_X5_has v6 x2 x5 o11.2) dX11_copy_79 gX11_copy_X5_has rfl ⟨rfl, rfl⟩ (by decide +kernel) ⟨by decide, by decide⟩ ⟨by decide, by decide⟩ rfl (by decide) rfl rfl (by first | exact Nat.le_of_ble_eq_true rfl | simp [va_rf_cat, vi_cat, vl_cat]) (fun o16 eo16 => ?_)
            show G Γ cvI 8 0 0 82 [(7, va_rf v8), (6, va_rf v6), (0, va_rf a0), (1, .int x1), (2, .int x2), (3, .int x3), (4, .int x4), (5, .int x5)] [.int o16.1] o16.2 _
            refine g_if_eq C (tgt := 97) dX11_copy_82 (by decide) (fun h17 => ?_) (fun h17 => ?_)
            · exact g_sub (lv2 := [(0, va_rf a0)]) [2] rfl (t_X11_copy_97 C a0 o16.2)
            · refine g_aload C dX11_copy_85 0 rfl ?_
              refine g_iload C dX11_copy_87 6 rfl ?_
              refine g_iload C dX11_copy_89 7 rfl ?_
              refine g_callV C (n := 2) (ci := 5) [.int x4, .int x5] [] (m_X5_has v8 x4 x5 o16.2) dX11_copy_91 gX11_copy_X5_has rfl ⟨rfl, rfl⟩ (by decide +kernel) ⟨by decide, by decide⟩ ⟨by decide, by decide⟩ rfl (by decide) rfl rfl (by first | exact Nat.le_of_ble_eq_true rfl | simp [va_rf_cat, vi_cat, vl_cat]) (fun o18 eo18 => ?_)
              show G Γ cvI 8 0 0 94 [(7, va_rf v8), (6, va_rf v6), (0, va_rf a0), (1, .int x1), (2, .int x2), (3, .int x3), (4, .int x4), (5, .int x5)] [.int o18.1] o18.2 _
              refine g_if_ne C (tgt := 103) dX11_copy_94 (by decide) (fun h19 => ?_) (fun h19 => ?_)
              · exact g_sub (lv2 := [(0, va_rf a0)]) [2] rfl (t_X11_copy_97 C a0 o18.2)
              · refine g_aload C dX11_copy_103 1 rfl ?_
                refine g_getR C (ci := 5) (k := 0) dX11_copy_105 rfl (by decide) (by decide) (by decide) ulX11_copy_X5 flX11_copy_87 rfl (fun v20 ev20 => ?_)
                refine g_iload_n C dX11_copy_108 rfl 4 rfl ?_
                refine g_aload C dX11_copy_109 0 rfl ?_
                refine g_getR C (ci := 5) (k := 0) dX11_copy_111 rfl (by decide) (by decide) (by decide) ulX11_copy_X5 flX11_copy_87 rfl (fun v21 ev21 => ?_)
                refine g_iload C dX11_copy_114 6 rfl ?_
                refine g_iload C dX11_copy_116 7 rfl ?_
                refine g_acp C dX11_copy_118 (by decide +kernel) (by decide +kernel) (by decide +kernel) (by decide +kernel) ⟨by decide, by decide⟩ (by first | exact Nat.le_of_ble_eq_true rfl | simp [va_rf_cat, vi_cat, vl_cat]) (fun S22 eS22 => ?_)
                refine g_aload_n C dX11_copy_121 rfl 2 rfl ?_
                refine g_iload C dX11_copy_122 7 rfl ?_
                refine g_callV C (n := 1) (ci := 10) [.int x5] [] (m_X11_fine a0 x5 S22) dX11_copy_124 gX11_copy_X11_fine rfl ⟨rfl, rfl⟩ (by decide +kernel) ⟨by decide, by decide⟩ ⟨by decide, by decide⟩ rfl (by decide) rfl rfl (by first | exact Nat.le_of_ble_eq_true rfl | simp [va_rf_cat, vi_cat, vl_cat]) (fun o23 eo23 => ?_)
                show G Γ cvI 8 0 0 127 [(7, va_rf v8), (6, va_rf v6), (0, va_rf a0), (1, .int x1), (2, .int x2), (3, .int x3), (4, .int x4), (5, .int x5)] [.int o23.1] o23.2 _
                exact g_iret C dX11_copy_127 ⟨by decide, by decide⟩
          · refine g_aload_n C dX11_copy_68 rfl 2 rfl ?_
            refine g_iconst C (v := (5 : Int32)) dX11_copy_69 (by decide) ?_
            refine g_callV C (n := 1) (ci := 10) [.int (5 : Int32)] [] (m_X11_found a0 (5 : Int32) o11.2) dX11_copy_70 gX11_copy_X11_found rfl ⟨rfl, rfl⟩ (by decide +kernel) ⟨by decide, by decide⟩ ⟨by decide, by decide⟩ rfl (by decide) rfl rfl (by first | exact Nat.le_of_ble_eq_true rfl | simp [va_rf_cat, vi_cat, vl_cat]) (fun o24 eo24 => ?_)
            show G Γ cvI 8 0 0 73 [(7, va_rf v8), (6, va_rf v6), (0, va_rf a0), (1, .int x1), (2, .int x2), (3, .int x3), (4, .int x4), (5, .int x5)] [.int o24.1] o24.2 _
            exact g_iret C dX11_copy_73 ⟨by decide, by decide⟩
        · exact g_sub (lv2 := [(0, va_rf a0)]) [2] rfl (t_X11_copy_49 C a0 o11.2)
      · exact g_sub (lv2 := [(0, va_rf a0)]) [2] rfl (t_X11_copy_49 C a0 o9.2)
abbrev rmX11_drop : Room := { frames := 2, cells := 0, slots := 0, locals := 42 }
theorem flX11_drop_11 : Cond.fieldLink RX11 11 "LightLines" "sheets" "[LLightLines$Sheet;" ∈ wsX11_drop := by decide +kernel
theorem flX11_drop_83 : Cond.fieldLink RX11 83 "LightLines$Sheet" "lane" "I" ∈ wsX11_drop := by decide +kernel
theorem flX11_drop_97 : Cond.fieldLink RX11 97 "LightLines$Sheet" "size" "I" ∈ wsX11_drop := by decide +kernel
set_option maxRecDepth 100000 in
theorem ulX11_drop_X11 : ∀ w ∈ u_ws RX11 TX11 7, w ∈ wsX11_drop := by decide +kernel
set_option maxRecDepth 100000 in
theorem ulX11_drop_X5 : ∀ w ∈ u_ws RX5 TX5 3, w ∈ wsX11_drop := by decide +kernel
set_option maxHeartbeats 4000000 in
set_option maxRecDepth 100000 in
theorem m_X11_drop (a0 : Option Nat) (x1 : Int32) (S : St) : ∀ l D cy H0 o, f_X11_drop a0 x1 S = some o → Met l yX11_drop wsX11_drop rmX11_drop (Pq D cy H0 [va_rf a0, .int x1] S) (Qx D cy H0 (cvI o)) 0 0 (fun q => H0.size ≤ q) := by
  refine met_of (cc := cX11_drop) (maxL := 3) (ret := (some .int)) [va_rf a0, .int x1] [(0, va_rf a0), (1, .int x1)] (by decide) rfl rfl (by simp [lg_sl, va_rf_cat, vi_cat, vl_cat]) (by simp [lv_args, va_rf_cat, vi_cat, vl_cat]) (fun Γ C => ?_)
  unfold f_X11_drop
  refine g_iload_n C dX11_drop_0 rfl 1 rfl ?_
  refine g_callS C (n := 1) [.int x1] [] (m_X11_isSheet x1 S) dX11_drop_1 gX11_drop_X11_isSheet rfl ⟨rfl, rfl⟩ (by decide +kernel) ⟨by decide, by decide⟩ ⟨by decide, by decide⟩ rfl rfl (by first | exact Nat.le_of_ble_eq_true rfl | simp [va_rf_cat, vi_cat, vl_cat]) (fun o1 eo1 => ?_)
  show G Γ cvI 3 0 0 4 [(0, va_rf a0), (1, .int x1)] [.int o1.1] o1.2 _
  refine g_if_ne C (tgt := 10) dX11_drop_4 (by decide) (fun h2 => ?_) (fun h2 => ?_)
  · refine g_ldc C (v := (-1000001 : Int32)) dX11_drop_7 (by decide +kernel) ?_
    exact g_iret C dX11_drop_9 ⟨by decide, by decide⟩
  · refine g_aload_n C dX11_drop_10 rfl 0 rfl ?_
    refine g_getR C (ci := 10) (k := 0) dX11_drop_11 rfl (by decide) (by decide) (by decide) ulX11_drop_X11 flX11_drop_11 rfl (fun v3 ev3 => ?_)
    refine g_iload_n C dX11_drop_14 rfl 1 rfl ?_
    refine g_ald16 C dX11_drop_15 (fun v4 ev4 => ?_)
    refine g_astore_n C (i := 2) (lv2 := [(2, va_rf v4), (0, va_rf a0), (1, .int x1)]) dX11_drop_16 rfl (by decide) (by first | rfl | simp [va_rf_cat, vi_cat, vl_cat]) ?_
    refine g_aload_n C dX11_drop_17 rfl 0 rfl ?_
    refine g_callV C (n := 0) (ci := 5) [] [] (m_X5_isMissing v4 o1.2) dX11_drop_18 gX11_drop_X5_isMissing rfl ⟨rfl, rfl⟩ (by decide +kernel) ⟨by decide, by decide⟩ ⟨by decide, by decide⟩ rfl (by decide) rfl rfl (by first | exact Nat.le_of_ble_eq_true rfl | simp [va_rf_cat, vi_cat, vl_cat]) (fun o5 eo5 => ?_)
    show G Γ cvI 3 0 0 21 [(2, va_rf v4), (0, va_rf a0), (1, .int x1)] [.int o5.1] o5.2 _
    refine g_if_eq C (tgt := 30) dX11_drop_21 (by decide) (fun h6 => ?_) (fun h6 => ?_)
    · refine g_aload_n C dX11_drop_30 rfl 0 rfl ?_
      refine g_iconst C (v := (-1 : Int32)) dX11_drop_31 (by decide) ?_
      refine g_putI C (ci := 5) (k := 1) (ty0 := tyX5) dX11_drop_32 rfl (by decide) (by decide) (by decide) tyX5_ok nmX5 ulX11_drop_X5 flX11_drop_83 rfl rfl ⟨rfl, rfl⟩ (fun S7 eS7 => ?_)
      refine g_aload_n C dX11_drop_35 rfl 1 rfl ?_
      refine g_aload_n C dX11_drop_36 rfl 0 rfl ?_
      refine g_getI C (ci := 5) (k := 2) dX11_drop_37 rfl (by decide) (by decide) (by decide) ulX11_drop_X5 flX11_drop_97 rfl (fun v8 ev8 => ?_)
      refine g_callV C (n := 1) (ci := 10) [.int v8] [] (m_X11_fine a0 v8 S7) dX11_drop_40 gX11_drop_X11_fine rfl ⟨rfl, rfl⟩ (by decide +kernel) ⟨by decide, by decide⟩ ⟨by decide, by decide⟩ rfl (by decide) rfl rfl (by first | exact Nat.le_of_ble_eq_true rfl | simp [va_rf_cat, vi_cat, vl_cat]) (fun o9 eo9 => ?_)
      show G Γ cvI 3 0 0 43 [(2, va_rf v4), (0, va_rf a0), (1, .int x1)] [.int o9.1] o9.2 _
      exact g_iret C dX11_drop_43 ⟨by decide, by decide⟩
    · refine g_aload_n C dX11_drop_24 rfl 1 rfl ?_
      refine g_iconst C (v := (1 : Int32)) dX11_drop_25 (by decide) ?_
      refine g_callV C (n := 1) (ci := 10) [.int (1 : Int32)] [] (m_X11_found a0 (1 : Int32) o5.2) dX11_drop_26 gX11_drop_X11_found rfl ⟨rfl, rfl⟩ (by decide +kernel) ⟨by decide, by decide⟩ ⟨by decide, by decide⟩ rfl (by decide) rfl rfl (by first | exact Nat.le_of_ble_eq_true rfl | simp [va_rf_cat, vi_cat, vl_cat]) (fun o10 eo10 => ?_)
      show G Γ cvI 3 0 0 29 [(2, va_rf v4), (0, va_rf a0), (1, .int x1)] [.int o10.1] o10.2 _
      exact g_iret C dX11_drop_29 ⟨by decide, by decide⟩
abbrev rmX11_strokeOf : Room := { frames := 4, cells := 3, slots := 18, locals := 90 }
set_option maxRecDepth 100000 in
theorem ulX11_strokeOf_X1 : ∀ w ∈ u_ws RX1 TX1 2, w ∈ wsX11_strokeOf := by decide +kernel
set_option maxRecDepth 100000 in
theorem ulX11_strokeOf_X2 : ∀ w ∈ u_ws RX2 TX2 2, w ∈ wsX11_strokeOf := by decide +kernel
set_option maxRecDepth 100000 in
theorem ulX11_strokeOf_X7 : ∀ w ∈ u_ws RX7 TX7 2, w ∈ wsX11_strokeOf := by decide +kernel
set_option maxHeartbeats 4000000 in
set_option maxRecDepth 100000 in
theorem t_X11_strokeOf_105 {Γ : Cx} (C : CF Γ cX11_strokeOf 6 (some (.object "LightLines$Stroke")) wsX11_strokeOf RX11 rmX11_strokeOf 3 18) (a3 : Option Nat) (a4 : Option Nat) (s0 : Int32) (S : St) : G Γ cvR 6 2 16 105 [(3, va_rf a3), (4, va_rf a4)] [.int s0] S (b_X11_strokeOf_105  a3 a4 s0 S) := by
  unfold b_X11_strokeOf_105
  refine g_istore C (i := 5) (lv2 := [(5, .int s0), (3, va_rf a3), (4, va_rf a4)]) dX11_strokeOf_105 (by decide) (by first | rfl | simp [va_rf_cat, vi_cat, vl_cat]) ?_
  refine g_iload C dX11_strokeOf_107 0 rfl ?_
  refine g_if_eq C (tgt := 125) dX11_strokeOf_109 (by decide) (fun h1 => ?_) (fun h1 => ?_)
  · refine g_new C (ci := 1) (ty0 := tyX1) dX11_strokeOf_125 rfl (by decide) tyX1_ok (by decide +kernel) ulX11_strokeOf_X1 (by decide +kernel) (by decide +kernel) (by decide +kernel) ⟨by decide, by decide⟩ (fun S2 => ?_)
    show G Γ cvR 6 3 18 128 [(5, .int s0), (3, va_rf a3), (4, va_rf a4)] [va_rf (some S.2.2.2)] S2 _
    refine g_dupr C dX11_strokeOf_128 ?_
    refine g_aload_n C dX11_strokeOf_129 rfl 1 rfl ?_
    refine g_aload C dX11_strokeOf_130 2 rfl ?_
    refine g_callI C (n := 2) [va_rf a3, va_rf a4] [va_rf (some S.2.2.2)] (m_X1_init S.2.2.2 a3 a4 S2) dX11_strokeOf_132 gX11_strokeOf_X1_init rfl ⟨rfl, rfl⟩ (by decide +kernel) (by decide +kernel) (by decide +kernel) rfl (by decide +kernel) ⟨by decide, by decide⟩ ⟨by decide, by decide⟩ rfl rfl (by first | exact Nat.le_of_ble_eq_true rfl | simp [va_rf_cat, vi_cat, vl_cat]) (fun o3 eo3 => ?_)
    show G Γ cvR 6 3 18 135 [(5, .int s0), (3, va_rf a3), (4, va_rf a4)] [va_rf (some S.2.2.2)] o3 _
    exact g_aret C (Or.inl ⟨_, rfl⟩) dX11_strokeOf_135 ⟨by decide, by decide⟩
  · refine g_new C (ci := 2) (ty0 := tyX2) dX11_strokeOf_112 rfl (by decide) tyX2_ok (by decide +kernel) ulX11_strokeOf_X2 (by decide +kernel) (by decide +kernel) (by decide +kernel) ⟨by decide, by decide⟩ (fun S4 => ?_)
    show G Γ cvR 6 3 18 115 [(5, .int s0), (3, va_rf a3), (4, va_rf a4)] [va_rf (some S.2.2.2)] S4 _
    refine g_dupr C dX11_strokeOf_115 ?_
    refine g_aload_n C dX11_strokeOf_116 rfl 1 rfl ?_
    refine g_aload C dX11_strokeOf_117 2 rfl ?_
    refine g_callI C (n := 2) [va_rf a3, va_rf a4] [va_rf (some S.2.2.2)] (m_X2_init S.2.2.2 a3 a4 S4) dX11_strokeOf_119 gX11_strokeOf_X2_init rfl ⟨rfl, rfl⟩ (by decide +kernel) (by decide +kernel) (by decide +kernel) rfl (by decide +kernel) ⟨by decide, by decide⟩ ⟨by decide, by decide⟩ rfl rfl (by first | exact Nat.le_of_ble_eq_true rfl | simp [va_rf_cat, vi_cat, vl_cat]) (fun o5 eo5 => ?_)
    show G Γ cvR 6 3 18 122 [(5, .int s0), (3, va_rf a3), (4, va_rf a4)] [va_rf (some S.2.2.2)] o5 _
    refine g_goto C (tgt := 135) dX11_strokeOf_122 (by decide) ?_
    exact g_aret C (Or.inl ⟨_, rfl⟩) dX11_strokeOf_135 ⟨by decide, by decide⟩
set_option maxHeartbeats 4000000 in
set_option maxRecDepth 100000 in
theorem t_X11_strokeOf_104 {Γ : Cx} (C : CF Γ cX11_strokeOf 6 (some (.object "LightLines$Stroke")) wsX11_strokeOf RX11 rmX11_strokeOf 3 18) (a3 : Option Nat) (a4 : Option Nat) (S : St) : G Γ cvR 6 2 16 104 [(3, va_rf a3), (4, va_rf a4)] [] S (b_X11_strokeOf_104  a3 a4 S) := by
  unfold b_X11_strokeOf_104
  refine g_iconst C (v := (0 : Int32)) dX11_strokeOf_104 (by decide) ?_
  exact g_sub (lv2 := [(3, va_rf a3), (4, va_rf a4)]) [0, 1] rfl (t_X11_strokeOf_105 C a3 a4 (0 : Int32) S)
set_option maxHeartbeats 4000000 in
set_option maxRecDepth 100000 in
theorem t_X11_strokeOf_55 {Γ : Cx} (C : CF Γ cX11_strokeOf 6 (some (.object "LightLines$Stroke")) wsX11_strokeOf RX11 rmX11_strokeOf 3 18) (x2 : Int32) (a3 : Option Nat) (a4 : Option Nat) (S : St) : G Γ cvR 6 2 16 55 [(2, .int x2), (3, va_rf a3), (4, va_rf a4)] [] S (b_X11_strokeOf_55  x2 a3 a4 S) := by
  unfold b_X11_strokeOf_55
  refine g_iload_n C dX11_strokeOf_55 rfl 0 rfl ?_
  refine g_iconst C (v := (1 : Int32)) dX11_strokeOf_56 (by decide) ?_
  refine g_icmp_ne C (tgt := 71) dX11_strokeOf_57 (by decide) (fun h1 => ?_) (fun h1 => ?_)
  · refine g_new C (ci := 7) (ty0 := tyX7) dX11_strokeOf_60 rfl (by decide) tyX7_ok (by decide +kernel) ulX11_strokeOf_X7 (by decide +kernel) (by decide +kernel) (by decide +kernel) ⟨by decide, by decide⟩ (fun S2 => ?_)
    show G Γ cvR 6 3 18 63 [(2, .int x2), (3, va_rf a3), (4, va_rf a4)] [va_rf (some S.2.2.2)] S2 _
    refine g_dupr C dX11_strokeOf_63 ?_
    refine g_aload_n C dX11_strokeOf_64 rfl 1 rfl ?_
    refine g_aload C dX11_strokeOf_65 2 rfl ?_
    refine g_callI C (n := 2) [va_rf a3, va_rf a4] [va_rf (some S.2.2.2)] (m_X7_init S.2.2.2 a3 a4 S2) dX11_strokeOf_67 gX11_strokeOf_X7_init rfl ⟨rfl, rfl⟩ (by decide +kernel) (by decide +kernel) (by decide +kernel) rfl (by decide +kernel) ⟨by decide, by decide⟩ ⟨by decide, by decide⟩ rfl rfl (by first | exact Nat.le_of_ble_eq_true rfl | simp [va_rf_cat, vi_cat, vl_cat]) (fun o3 eo3 => ?_)
    show G Γ cvR 6 3 18 70 [(2, .int x2), (3, va_rf a3), (4, va_rf a4)] [va_rf (some S.2.2.2)] o3 _
    exact g_aret C (Or.inl ⟨_, rfl⟩) dX11_strokeOf_70 ⟨by decide, by decide⟩
  · refine g_iload_n C dX11_strokeOf_71 rfl 0 rfl ?_
    refine g_iconst C (v := (3 : Int32)) dX11_strokeOf_72 (by decide) ?_
    refine g_icmp_lt C (tgt := 104) dX11_strokeOf_73 (by decide) (fun h4 => ?_) (fun h4 => ?_)
    · exact g_sub (lv2 := [(3, va_rf a3), (4, va_rf a4)]) [1, 2] rfl (t_X11_strokeOf_104 C a3 a4 S)
    · refine g_aload_n C dX11_strokeOf_76 rfl 1 rfl ?_
      refine g_iconst C (v := (0 : Int32)) dX11_strokeOf_77 (by decide) ?_
      refine g_ild C dX11_strokeOf_78 (fun v5 ev5 => ?_)
      refine g_aload_n C dX11_strokeOf_79 rfl 1 rfl ?_
      refine g_iload_n C dX11_strokeOf_80 rfl 0 rfl ?_
      refine g_iconst C (v := (1 : Int32)) dX11_strokeOf_81 (by decide) ?_
      refine g_isub C dX11_strokeOf_82 ?_
      refine g_ild C dX11_strokeOf_83 (fun v6 ev6 => ?_)
      refine g_icmp_ne C (tgt := 104) dX11_strokeOf_84 (by decide) (fun h7 => ?_) (fun h7 => ?_)
      · refine g_aload C dX11_strokeOf_87 2 rfl ?_
        refine g_iconst C (v := (0 : Int32)) dX11_strokeOf_89 (by decide) ?_
        refine g_ild C dX11_strokeOf_90 (fun v8 ev8 => ?_)
        refine g_aload C dX11_strokeOf_91 2 rfl ?_
        refine g_iload_n C dX11_strokeOf_93 rfl 0 rfl ?_
        refine g_iconst C (v := (1 : Int32)) dX11_strokeOf_94 (by decide) ?_
        refine g_isub C dX11_strokeOf_95 ?_
        refine g_ild C dX11_strokeOf_96 (fun v9 ev9 => ?_)
        refine g_icmp_ne C (tgt := 104) dX11_strokeOf_97 (by decide) (fun h10 => ?_) (fun h10 => ?_)
        · refine g_iconst C (v := (1 : Int32)) dX11_strokeOf_100 (by decide) ?_
          refine g_goto C (tgt := 105) dX11_strokeOf_101 (by decide) ?_
          exact g_sub (lv2 := [(3, va_rf a3), (4, va_rf a4)]) [1, 2] rfl (t_X11_strokeOf_105 C a3 a4 (1 : Int32) S)
        · exact g_sub (lv2 := [(3, va_rf a3), (4, va_rf a4)]) [1, 2] rfl (t_X11_strokeOf_104 C a3 a4 S)
      · exact g_sub (lv2 := [(3, va_rf a3), (4, va_rf a4)]) [1, 2] rfl (t_X11_strokeOf_104 C a3 a4 S)
set_option maxHeartbeats 4000000 in
set_option maxRecDepth 100000 in
theorem t_X11_strokeOf_12 {Γ : Cx} (C : CF Γ cX11_strokeOf 6 (some (.object "LightLines$Stroke")) wsX11_strokeOf RX11 rmX11_strokeOf 3 18) : ∀ (n : Nat) (a0 : Option Nat) (x1 : Int32) (x2 : Int32) (a3 : Option Nat) (a4 : Option Nat) (x5 : Int32) (S : St), G Γ cvR 6 2 16 12 [(0, va_rf a0), (1, .int x1), (2, .int x2), (3, va_rf a3), (4, va_rf a4), (5, .int x5)] [] S (b_X11_strokeOf_12  n a0 x1 x2 a3 a4 x5 S) := by
  intro n
  induction n with
  | zero => intro a0 x1 x2 a3 a4 x5 S; exact g_none
  | succ n ih =>
    intro a0 x1 x2 a3 a4 x5 S
    rw [b_X11_strokeOf_12]
    refine g_iload C dX11_strokeOf_12 5 rfl ?_
    refine g_iload_n C dX11_strokeOf_14 rfl 2 rfl ?_
    refine g_icmp_ge C (tgt := 55) dX11_strokeOf_15 (by decide) (fun h1 => ?_) (fun h1 => ?_)
    · exact g_sub (lv2 := [(2, .int x2), (3, va_rf a3), (4, va_rf a4)]) [2, 3, 4] rfl (t_X11_strokeOf_55 C x2 a3 a4 S)
    · refine g_aload_n C dX11_strokeOf_18 rfl 3 rfl ?_
      refine g_iload C dX11_strokeOf_19 5 rfl ?_
      refine g_aload_n C dX11_strokeOf_21 rfl 0 rfl ?_
      refine g_iload_n C dX11_strokeOf_22 rfl 1 rfl ?_
      refine g_iconst C (v := (2 : Int32)) dX11_strokeOf_23 (by decide) ?_
      refine g_iload C dX11_strokeOf_24 5 rfl ?_
      refine g_imul C dX11_strokeOf_26 ?_
      refine g_iadd C dX11_strokeOf_27 ?_
      refine g_callV C (n := 1) (ci := 5) [.int (x1 + ((2 : Int32) * x5))] [.int x5, va_rf a3] (m_X5_item a0 (x1 + ((2 : Int32) * x5)) S) dX11_strokeOf_28 gX11_strokeOf_X5_item rfl ⟨rfl, rfl⟩ (by decide +kernel) ⟨by decide, by decide⟩ ⟨by decide, by decide⟩ rfl (by decide) rfl rfl (by first | exact Nat.le_of_ble_eq_true rfl | simp [va_rf_cat, vi_cat, vl_cat]) (fun o2 eo2 => ?_)
      show G Γ cvR 6 2 16 31 [(0, va_rf a0), (1, .int x1), (2, .int x2), (3, va_rf a3), (4, va_rf a4), (5, .int x5)] [.int o2.1, .int x5, va_rf a3] o2.2 _
      refine g_ist C dX11_strokeOf_31 (fun S3 eS3 => ?_)
      refine g_aload C dX11_strokeOf_32 4 rfl ?_
      refine g_iload C dX11_strokeOf_34 5 rfl ?_
      refine g_aload_n C dX11_strokeOf_36 rfl 0 rfl ?_
      refine g_iload_n C dX11_strokeOf_37 rfl 1 rfl ?_
      refine g_iconst C (v := (2 : Int32)) dX11_strokeOf_38 (by decide) ?_
      refine g_iload C dX11_strokeOf_39 5 rfl ?_
      refine g_imul C dX11_strokeOf_41 ?_
      refine g_iadd C dX11_strokeOf_42 ?_
      refine g_iconst C (v := (1 : Int32)) dX11_strokeOf_43 (by decide) ?_
      refine g_iadd C dX11_strokeOf_44 ?_
      refine g_callV C (n := 1) (ci := 5) [.int ((x1 + ((2 : Int32) * x5)) + (1 : Int32))] [.int x5, va_rf a4] (m_X5_item a0 ((x1 + ((2 : Int32) * x5)) + (1 : Int32)) S3) dX11_strokeOf_45 gX11_strokeOf_X5_item rfl ⟨rfl, rfl⟩ (by decide +kernel) ⟨by decide, by decide⟩ ⟨by decide, by decide⟩ rfl (by decide) rfl rfl (by first | exact Nat.le_of_ble_eq_true rfl | simp [va_rf_cat, vi_cat, vl_cat]) (fun o4 eo4 => ?_)
      show G Γ cvR 6 2 16 48 [(0, va_rf a0), (1, .int x1), (2, .int x2), (3, va_rf a3), (4, va_rf a4), (5, .int x5)] [.int o4.1, .int x5, va_rf a4] o4.2 _
      refine g_ist C dX11_strokeOf_48 (fun S5 eS5 => ?_)
      refine g_iinc1 C dX11_strokeOf_49 5 rfl (by decide) (by decide) (fun y6 => ?_)
      refine g_lveq (lv2 := [(5, .int y6), (0, va_rf a0), (1, .int x1), (2, .int x2), (3, va_rf a3), (4, va_rf a4)]) (by first | rfl | simp [va_rf_cat, vi_cat, vl_cat]) ?_
      refine g_goto C (tgt := 12) dX11_strokeOf_52 (by decide) ?_
      exact g_sub (lv2 := [(0, va_rf a0), (1, .int x1), (2, .int x2), (3, va_rf a3), (4, va_rf a4), (5, .int y6)]) [1, 2, 3, 4, 5, 0] rfl (ih a0 x1 x2 a3 a4 y6 S5)
set_option maxHeartbeats 4000000 in
set_option maxRecDepth 100000 in
theorem m_X11_strokeOf (a0 : Option Nat) (x1 : Int32) (x2 : Int32) (S : St) : ∀ l D cy H0 o, f_X11_strokeOf a0 x1 x2 S = some o → Met l yX11_strokeOf wsX11_strokeOf rmX11_strokeOf (Pq D cy H0 [va_rf a0, .int x1, .int x2] S) (Qx D cy H0 (cvR o)) 3 18 (fun q => H0.size ≤ q) := by
  refine met_of (cc := cX11_strokeOf) (maxL := 6) (ret := (some (.object "LightLines$Stroke"))) [va_rf a0, .int x1, .int x2] [(0, va_rf a0), (1, .int x1), (2, .int x2)] (by decide) rfl rfl (by simp [lg_sl, va_rf_cat, vi_cat, vl_cat]) (by simp [lv_args, va_rf_cat, vi_cat, vl_cat]) (fun Γ C => ?_)
  unfold f_X11_strokeOf
  refine g_iload_n C dX11_strokeOf_0 rfl 2 rfl ?_
  refine g_newa C (kd := 14) (t0 := 1) (mx := 8) (ty := .int) dX11_strokeOf_1 rfl rfl ⟨by decide, by decide⟩ (fun _ => rfl) (fun _ _ h => h) (by decide) (by decide +kernel) ⟨by decide, by decide⟩ (fun S1 eS1 => ?_)
  show G Γ cvR 6 1 8 3 [(0, va_rf a0), (1, .int x1), (2, .int x2)] [va_rf (some S.2.2.2)] S1 _
  refine g_astore_n C (i := 3) (lv2 := [(3, va_rf (some S.2.2.2)), (0, va_rf a0), (1, .int x1), (2, .int x2)]) dX11_strokeOf_3 rfl (by decide) (by first | rfl | simp [va_rf_cat, vi_cat, vl_cat]) ?_
  refine g_iload_n C dX11_strokeOf_4 rfl 3 rfl ?_
  refine g_newa C (kd := 14) (t0 := 1) (mx := 8) (ty := .int) dX11_strokeOf_5 rfl rfl ⟨by decide, by decide⟩ (fun _ => rfl) (fun _ _ h => h) (by decide) (by decide +kernel) ⟨by decide, by decide⟩ (fun S2 eS2 => ?_)
  show G Γ cvR 6 2 16 7 [(3, va_rf (some S.2.2.2)), (0, va_rf a0), (1, .int x1), (2, .int x2)] [va_rf (some S1.2.2.2)] S2 _
  refine g_astore C (i := 4) (lv2 := [(4, va_rf (some S1.2.2.2)), (3, va_rf (some S.2.2.2)), (0, va_rf a0), (1, .int x1), (2, .int x2)]) dX11_strokeOf_7 (by decide) (by first | rfl | simp [va_rf_cat, vi_cat, vl_cat]) ?_
  refine g_iconst C (v := (0 : Int32)) dX11_strokeOf_9 (by decide) ?_
  refine g_istore C (i := 5) (lv2 := [(5, .int (0 : Int32)), (4, va_rf (some S1.2.2.2)), (3, va_rf (some S.2.2.2)), (0, va_rf a0), (1, .int x1), (2, .int x2)]) dX11_strokeOf_10 (by decide) (by first | rfl | simp [va_rf_cat, vi_cat, vl_cat]) ?_
  exact g_sub (lv2 := [(0, va_rf a0), (1, .int x1), (2, .int x2), (3, va_rf (some S.2.2.2)), (4, va_rf (some S1.2.2.2)), (5, .int (0 : Int32))]) [3, 4, 5, 2, 1, 0] rfl (t_X11_strokeOf_12 C FU a0 x1 x2 (some S.2.2.2) (some S1.2.2.2) (0 : Int32) S2)
abbrev rmX11_stroke : Room := { frames := 5, cells := 3, slots := 18, locals := 115 }
theorem flX11_stroke_11 : Cond.fieldLink RX11 11 "LightLines" "sheets" "[LLightLines$Sheet;" ∈ wsX11_stroke := by decide +kernel
theorem flX11_stroke_18 : Cond.fieldLink RX11 18 "LightLines" "strokes" "LLightLines$Strokes;" ∈ wsX11_stroke := by decide +kernel
theorem flX11_stroke_32 : Cond.fieldLink RX11 32 "LightLines" "show" "LLightLines$Show;" ∈ wsX11_stroke := by decide +kernel
theorem flX11_stroke_100 : Cond.fieldLink RX11 100 "LightLines$Strokes" "held" "I" ∈ wsX11_stroke := by decide +kernel
set_option maxRecDepth 100000 in
theorem ulX11_stroke_X11 : ∀ w ∈ u_ws RX11 TX11 7, w ∈ wsX11_stroke := by decide +kernel
set_option maxRecDepth 100000 in
theorem ulX11_stroke_X9 : ∀ w ∈ u_ws RX9 TX9 4, w ∈ wsX11_stroke := by decide +kernel
set_option maxHeartbeats 4000000 in
set_option maxRecDepth 100000 in
theorem m_X11_stroke (a0 : Option Nat) (x1 : Int32) (x2 : Int32) (x3 : Int32) (S : St) : ∀ l D cy H0 o, f_X11_stroke a0 x1 x2 x3 S = some o → Met l yX11_stroke wsX11_stroke rmX11_stroke (Pq D cy H0 [va_rf a0, .int x1, .int x2, .int x3] S) (Qx D cy H0 (cvI o)) 3 18 (fun q => H0.size ≤ q) := by
  refine met_of (cc := cX11_stroke) (maxL := 5) (ret := (some .int)) [va_rf a0, .int x1, .int x2, .int x3] [(0, va_rf a0), (1, .int x1), (2, .int x2), (3, .int x3)] (by decide) rfl rfl (by simp [lg_sl, va_rf_cat, vi_cat, vl_cat]) (by simp [lv_args, va_rf_cat, vi_cat, vl_cat]) (fun Γ C => ?_)
  unfold f_X11_stroke
  refine g_iload_n C dX11_stroke_0 rfl 1 rfl ?_
  refine g_callS C (n := 1) [.int x1] [] (m_X11_isSheet x1 S) dX11_stroke_1 gX11_stroke_X11_isSheet rfl ⟨rfl, rfl⟩ (by decide +kernel) ⟨by decide, by decide⟩ ⟨by decide, by decide⟩ rfl rfl (by first | exact Nat.le_of_ble_eq_true rfl | simp [va_rf_cat, vi_cat, vl_cat]) (fun o1 eo1 => ?_)
  show G Γ cvI 5 0 0 4 [(0, va_rf a0), (1, .int x1), (2, .int x2), (3, .int x3)] [.int o1.1] o1.2 _
  refine g_if_eq C (tgt := 17) dX11_stroke_4 (by decide) (fun h2 => ?_) (fun h2 => ?_)
  · refine g_ldc C (v := (-1000001 : Int32)) dX11_stroke_17 (by decide +kernel) ?_
    exact g_iret C dX11_stroke_19 ⟨by decide, by decide⟩
  · refine g_iload_n C dX11_stroke_7 rfl 3 rfl ?_
    refine g_iconst C (v := (1 : Int32)) dX11_stroke_8 (by decide) ?_
    refine g_bipush C (v := (8 : Int32)) dX11_stroke_9 (by decide) ?_
    refine g_callS C (n := 3) [.int x3, .int (1 : Int32), .int (8 : Int32)] [] (m_X11_isWithin x3 (1 : Int32) (8 : Int32) o1.2) dX11_stroke_11 gX11_stroke_X11_isWithin rfl ⟨rfl, rfl⟩ (by decide +kernel) ⟨by decide, by decide⟩ ⟨by decide, by decide⟩ rfl rfl (by first | exact Nat.le_of_ble_eq_true rfl | simp [va_rf_cat, vi_cat, vl_cat]) (fun o3 eo3 => ?_)
    show G Γ cvI 5 0 0 14 [(0, va_rf a0), (1, .int x1), (2, .int x2), (3, .int x3)] [.int o3.1] o3.2 _
    refine g_if_ne C (tgt := 20) dX11_stroke_14 (by decide) (fun h4 => ?_) (fun h4 => ?_)
    · refine g_ldc C (v := (-1000001 : Int32)) dX11_stroke_17 (by decide +kernel) ?_
      exact g_iret C dX11_stroke_19 ⟨by decide, by decide⟩
    · refine g_aload_n C dX11_stroke_20 rfl 0 rfl ?_
      refine g_getR C (ci := 10) (k := 1) dX11_stroke_21 rfl (by decide) (by decide) (by decide) ulX11_stroke_X11 flX11_stroke_18 rfl (fun v5 ev5 => ?_)
      refine g_getI C (ci := 8) (k := 3) dX11_stroke_24 rfl (by decide) (by decide) (by decide) ulX11_stroke_X9 flX11_stroke_100 rfl (fun v6 ev6 => ?_)
      refine g_bipush C (v := (8 : Int32)) dX11_stroke_27 (by decide) ?_
      refine g_icmp_lt C (tgt := 35) dX11_stroke_29 (by decide) (fun h7 => ?_) (fun h7 => ?_)
      · refine g_aload_n C dX11_stroke_35 rfl 0 rfl ?_
        refine g_getR C (ci := 10) (k := 0) dX11_stroke_36 rfl (by decide) (by decide) (by decide) ulX11_stroke_X11 flX11_stroke_11 rfl (fun v8 ev8 => ?_)
        refine g_iload_n C dX11_stroke_39 rfl 1 rfl ?_
        refine g_ald16 C dX11_stroke_40 (fun v9 ev9 => ?_)
        refine g_astore C (i := 4) (lv2 := [(4, va_rf v9), (0, va_rf a0), (1, .int x1), (2, .int x2), (3, .int x3)]) dX11_stroke_41 (by decide) (by first | rfl | simp [va_rf_cat, vi_cat, vl_cat]) ?_
        refine g_aload C dX11_stroke_43 0 rfl ?_
        refine g_callV C (n := 0) (ci := 5) [] [] (m_X5_isMissing v9 o3.2) dX11_stroke_45 gX11_stroke_X5_isMissing rfl ⟨rfl, rfl⟩ (by decide +kernel) ⟨by decide, by decide⟩ ⟨by decide, by decide⟩ rfl (by decide) rfl rfl (by first | exact Nat.le_of_ble_eq_true rfl | simp [va_rf_cat, vi_cat, vl_cat]) (fun o10 eo10 => ?_)
        show G Γ cvI 5 0 0 48 [(4, va_rf v9), (0, va_rf a0), (1, .int x1), (2, .int x2), (3, .int x3)] [.int o10.1] o10.2 _
        refine g_if_eq C (tgt := 57) dX11_stroke_48 (by decide) (fun h11 => ?_) (fun h11 => ?_)
        · refine g_aload C dX11_stroke_57 0 rfl ?_
          refine g_iload_n C dX11_stroke_59 rfl 3 rfl ?_
          refine g_iconst C (v := (2 : Int32)) dX11_stroke_60 (by decide) ?_
          refine g_iload_n C dX11_stroke_61 rfl 4 rfl ?_
          refine g_imul C dX11_stroke_62 ?_
          refine g_callV C (n := 2) (ci := 5) [.int x2, .int ((2 : Int32) * x3)] [] (m_X5_has v9 x2 ((2 : Int32) * x3) o10.2) dX11_stroke_63 gX11_stroke_X5_has rfl ⟨rfl, rfl⟩ (by decide +kernel) ⟨by decide, by decide⟩ ⟨by decide, by decide⟩ rfl (by decide) rfl rfl (by first | exact Nat.le_of_ble_eq_true rfl | simp [va_rf_cat, vi_cat, vl_cat]) (fun o12 eo12 => ?_)
          show G Γ cvI 5 0 0 66 [(4, va_rf v9), (0, va_rf a0), (1, .int x1), (2, .int x2), (3, .int x3)] [.int o12.1] o12.2 _
          refine g_if_ne C (tgt := 75) dX11_stroke_66 (by decide) (fun h13 => ?_) (fun h13 => ?_)
          · refine g_aload_n C dX11_stroke_69 rfl 1 rfl ?_
            refine g_iconst C (v := (2 : Int32)) dX11_stroke_70 (by decide) ?_
            refine g_callV C (n := 1) (ci := 10) [.int (2 : Int32)] [] (m_X11_found a0 (2 : Int32) o12.2) dX11_stroke_71 gX11_stroke_X11_found rfl ⟨rfl, rfl⟩ (by decide +kernel) ⟨by decide, by decide⟩ ⟨by decide, by decide⟩ rfl (by decide) rfl rfl (by first | exact Nat.le_of_ble_eq_true rfl | simp [va_rf_cat, vi_cat, vl_cat]) (fun o14 eo14 => ?_)
            show G Γ cvI 5 0 0 74 [(4, va_rf v9), (0, va_rf a0), (1, .int x1), (2, .int x2), (3, .int x3)] [.int o14.1] o14.2 _
            exact g_iret C dX11_stroke_74 ⟨by decide, by decide⟩
          · refine g_aload C dX11_stroke_75 0 rfl ?_
            refine g_iload_n C dX11_stroke_77 rfl 3 rfl ?_
            refine g_iload_n C dX11_stroke_78 rfl 4 rfl ?_
            refine g_callV C (n := 2) (ci := 5) [.int x2, .int x3] [] (m_X5_holdsPlaces v9 x2 x3 o12.2) dX11_stroke_79 gX11_stroke_X5_holdsPlaces rfl ⟨rfl, rfl⟩ (by decide +kernel) ⟨by decide, by decide⟩ ⟨by decide, by decide⟩ rfl (by decide) rfl rfl (by first | exact Nat.le_of_ble_eq_true rfl | simp [va_rf_cat, vi_cat, vl_cat]) (fun o15 eo15 => ?_)
            show G Γ cvI 5 0 0 82 [(4, va_rf v9), (0, va_rf a0), (1, .int x1), (2, .int x2), (3, .int x3)] [.int o15.1] o15.2 _
            refine g_if_ne C (tgt := 88) dX11_stroke_82 (by decide) (fun h16 => ?_) (fun h16 => ?_)
            · refine g_ldc C (v := (-1000001 : Int32)) dX11_stroke_85 (by decide +kernel) ?_
              exact g_iret C dX11_stroke_87 ⟨by decide, by decide⟩
            · refine g_aload_n C dX11_stroke_88 rfl 1 rfl ?_
              refine g_getR C (ci := 10) (k := 3) dX11_stroke_89 rfl (by decide) (by decide) (by decide) ulX11_stroke_X11 flX11_stroke_32 rfl (fun v17 ev17 => ?_)
              refine g_callV C (n := 0) (ci := 6) [] [] (m_X6_pathIsStale v17 o15.2) dX11_stroke_92 gX11_stroke_X6_pathIsStale rfl ⟨rfl, rfl⟩ (by decide +kernel) ⟨by decide, by decide⟩ ⟨by decide, by decide⟩ rfl (by decide) rfl rfl (by first | exact Nat.le_of_ble_eq_true rfl | simp [va_rf_cat, vi_cat, vl_cat]) (fun o18 eo18 => ?_)
              show G Γ cvI 5 0 0 95 [(4, va_rf v9), (0, va_rf a0), (1, .int x1), (2, .int x2), (3, .int x3)] [] o18 _
              refine g_aload_n C dX11_stroke_95 rfl 1 rfl ?_
              refine g_aload_n C dX11_stroke_96 rfl 1 rfl ?_
              refine g_getR C (ci := 10) (k := 1) dX11_stroke_97 rfl (by decide) (by decide) (by decide) ulX11_stroke_X11 flX11_stroke_18 rfl (fun v19 ev19 => ?_)
              refine g_aload C dX11_stroke_100 0 rfl ?_
              refine g_iload_n C dX11_stroke_102 rfl 3 rfl ?_
              refine g_iload_n C dX11_stroke_103 rfl 4 rfl ?_
              refine g_callS C (n := 3) [va_rf v9, .int x2, .int x3] [va_rf v19, va_rf a0] (m_X11_strokeOf v9 x2 x3 o18) dX11_stroke_104 gX11_stroke_X11_strokeOf rfl ⟨rfl, rfl⟩ (by decide +kernel) ⟨by decide, by decide⟩ ⟨by decide, by decide⟩ rfl rfl (by first | exact Nat.le_of_ble_eq_true rfl | simp [va_rf_cat, vi_cat, vl_cat]) (fun o20 eo20 => ?_)
              show G Γ cvI 5 3 18 107 [(4, va_rf v9), (0, va_rf a0), (1, .int x1), (2, .int x2), (3, .int x3)] [va_rf o20.1, va_rf v19, va_rf a0] o20.2 _
              refine g_callV C (n := 1) (ci := 8) [va_rf o20.1] [va_rf a0] (m_X9_add v19 o20.1 o20.2) dX11_stroke_107 gX11_stroke_X9_add rfl ⟨rfl, rfl⟩ (by decide +kernel) ⟨by decide, by decide⟩ ⟨by decide, by decide⟩ rfl (by decide) rfl rfl (by first | exact Nat.le_of_ble_eq_true rfl | simp [va_rf_cat, vi_cat, vl_cat]) (fun o21 eo21 => ?_)
              show G Γ cvI 5 3 18 110 [(4, va_rf v9), (0, va_rf a0), (1, .int x1), (2, .int x2), (3, .int x3)] [.int o21.1, va_rf a0] o21.2 _
              refine g_callV C (n := 1) (ci := 10) [.int o21.1] [] (m_X11_fine a0 o21.1 o21.2) dX11_stroke_110 gX11_stroke_X11_fine rfl ⟨rfl, rfl⟩ (by decide +kernel) ⟨by decide, by decide⟩ ⟨by decide, by decide⟩ rfl (by decide) rfl rfl (by first | exact Nat.le_of_ble_eq_true rfl | simp [va_rf_cat, vi_cat, vl_cat]) (fun o22 eo22 => ?_)
              show G Γ cvI 5 3 18 113 [(4, va_rf v9), (0, va_rf a0), (1, .int x1), (2, .int x2), (3, .int x3)] [.int o22.1] o22.2 _
              exact g_iret C dX11_stroke_113 ⟨by decide, by decide⟩
        · refine g_aload_n C dX11_stroke_51 rfl 1 rfl ?_
          refine g_iconst C (v := (1 : Int32)) dX11_stroke_52 (by decide) ?_
          refine g_callV C (n := 1) (ci := 10) [.int (1 : Int32)] [] (m_X11_found a0 (1 : Int32) o10.2) dX11_stroke_53 gX11_stroke_X11_found rfl ⟨rfl, rfl⟩ (by decide +kernel) ⟨by decide, by decide⟩ ⟨by decide, by decide⟩ rfl (by decide) rfl rfl (by first | exact Nat.le_of_ble_eq_true rfl | simp [va_rf_cat, vi_cat, vl_cat]) (fun o23 eo23 => ?_)
          show G Γ cvI 5 0 0 56 [(4, va_rf v9), (0, va_rf a0), (1, .int x1), (2, .int x2), (3, .int x3)] [.int o23.1] o23.2 _
          exact g_iret C dX11_stroke_56 ⟨by decide, by decide⟩
      · refine g_ldc C (v := (-1000003 : Int32)) dX11_stroke_32 (by decide +kernel) ?_
        exact g_iret C dX11_stroke_34 ⟨by decide, by decide⟩
abbrev rmX11_point : Room := { frames := 1, cells := 0, slots := 0, locals := 22 }
theorem flX11_point_18 : Cond.fieldLink RX11 18 "LightLines" "strokes" "LLightLines$Strokes;" ∈ wsX11_point := by decide +kernel
set_option maxRecDepth 100000 in
theorem ulX11_point_X11 : ∀ w ∈ u_ws RX11 TX11 7, w ∈ wsX11_point := by decide +kernel
set_option maxHeartbeats 4000000 in
set_option maxRecDepth 100000 in
theorem m_X11_point (a0 : Option Nat) (x1 : Int32) (x2 : Int32) (x3 : Int32) (S : St) : ∀ l D cy H0 o, f_X11_point a0 x1 x2 x3 S = some o → Met l yX11_point wsX11_point rmX11_point (Pq D cy H0 [va_rf a0, .int x1, .int x2, .int x3] S) (Qx D cy H0 (cvI o)) 0 0 (fun q => H0.size ≤ q) := by
  refine met_of (cc := cX11_point) (maxL := 5) (ret := (some .int)) [va_rf a0, .int x1, .int x2, .int x3] [(0, va_rf a0), (1, .int x1), (2, .int x2), (3, .int x3)] (by decide) rfl rfl (by simp [lg_sl, va_rf_cat, vi_cat, vl_cat]) (by simp [lv_args, va_rf_cat, vi_cat, vl_cat]) (fun Γ C => ?_)
  unfold f_X11_point
  refine g_aload_n C dX11_point_0 rfl 0 rfl ?_
  refine g_getR C (ci := 10) (k := 1) dX11_point_1 rfl (by decide) (by decide) (by decide) ulX11_point_X11 flX11_point_18 rfl (fun v1 ev1 => ?_)
  refine g_iload_n C dX11_point_4 rfl 1 rfl ?_
  refine g_callV C (n := 1) (ci := 8) [.int x1] [] (m_X9_at v1 x1 S) dX11_point_5 gX11_point_X9_at rfl ⟨rfl, rfl⟩ (by decide +kernel) ⟨by decide, by decide⟩ ⟨by decide, by decide⟩ rfl (by decide) rfl rfl (by first | exact Nat.le_of_ble_eq_true rfl | simp [va_rf_cat, vi_cat, vl_cat]) (fun o2 eo2 => ?_)
  show G Γ cvI 5 0 0 8 [(0, va_rf a0), (1, .int x1), (2, .int x2), (3, .int x3)] [va_rf o2.1] o2.2 _
  refine g_astore C (i := 4) (lv2 := [(4, va_rf o2.1), (0, va_rf a0), (1, .int x1), (2, .int x2), (3, .int x3)]) dX11_point_8 (by decide) (by first | rfl | simp [va_rf_cat, vi_cat, vl_cat]) ?_
  refine g_aload C dX11_point_10 0 rfl ?_
  refine g_ifnull C (tgt := 39) dX11_point_12 (by decide) (fun h3 => ?_) (fun h3 => ?_)
  · refine g_ldc C (v := (-1000001 : Int32)) dX11_point_39 (by decide +kernel) ?_
    exact g_iret C dX11_point_41 ⟨by decide, by decide⟩
  · refine g_iload_n C dX11_point_15 rfl 3 rfl ?_
    refine g_iconst C (v := (0 : Int32)) dX11_point_16 (by decide) ?_
    refine g_aload C dX11_point_17 0 rfl ?_
    refine g_call3 C (n := 0) [] [.int (0 : Int32), .int x2] (m_X8_points o2.1 o2.2) (m_X8_points o2.1 o2.2) (m_X8_points o2.1 o2.2) dX11_point_19 (fun R s args ht hR => va_cwU 0 ht gX11_point_X8_points_u122X1 rfl rfl rfl rfl (by decide +kernel) (by subst hR; exact ⟨by decide, by decide⟩)) (fun R s args ht hR => va_cwU 0 ht gX11_point_X8_points_u122X2 rfl rfl rfl rfl (by decide +kernel) (by subst hR; exact ⟨by decide, by decide⟩)) (fun R s args ht hR => va_cwU 0 ht gX11_point_X8_points_u122X7 rfl rfl rfl rfl (by decide +kernel) (by subst hR; exact ⟨by decide, by decide⟩)) ⟨by decide, by decide⟩ rfl rfl (by first | exact Nat.le_of_ble_eq_true rfl | simp [va_rf_cat, vi_cat, vl_cat]) (fun o4 eo4 => ?_)
    show G Γ cvI 5 0 0 22 [(4, va_rf o2.1), (0, va_rf a0), (1, .int x1), (2, .int x2), (3, .int x3)] [.int o4.1, .int (0 : Int32), .int x2] o4.2 _
    refine g_iconst C (v := (1 : Int32)) dX11_point_22 (by decide) ?_
    refine g_isub C dX11_point_23 ?_
    refine g_callS C (n := 3) [.int x2, .int (0 : Int32), .int (o4.1 - (1 : Int32))] [] (m_X11_isWithin x2 (0 : Int32) (o4.1 - (1 : Int32)) o4.2) dX11_point_24 gX11_point_X11_isWithin rfl ⟨rfl, rfl⟩ (by decide +kernel) ⟨by decide, by decide⟩ ⟨by decide, by decide⟩ rfl rfl (by first | exact Nat.le_of_ble_eq_true rfl | simp [va_rf_cat, vi_cat, vl_cat]) (fun o5 eo5 => ?_)
    show G Γ cvI 5 0 0 27 [(4, va_rf o2.1), (0, va_rf a0), (1, .int x1), (2, .int x2), (3, .int x3)] [.int o5.1] o5.2 _
    refine g_if_eq C (tgt := 39) dX11_point_27 (by decide) (fun h6 => ?_) (fun h6 => ?_)
    · refine g_ldc C (v := (-1000001 : Int32)) dX11_point_39 (by decide +kernel) ?_
      exact g_iret C dX11_point_41 ⟨by decide, by decide⟩
    · refine g_iload_n C dX11_point_30 rfl 4 rfl ?_
      refine g_iconst C (v := (0 : Int32)) dX11_point_31 (by decide) ?_
      refine g_iconst C (v := (1 : Int32)) dX11_point_32 (by decide) ?_
      refine g_callS C (n := 3) [.int x3, .int (0 : Int32), .int (1 : Int32)] [] (m_X11_isWithin x3 (0 : Int32) (1 : Int32) o5.2) dX11_point_33 gX11_point_X11_isWithin rfl ⟨rfl, rfl⟩ (by decide +kernel) ⟨by decide, by decide⟩ ⟨by decide, by decide⟩ rfl rfl (by first | exact Nat.le_of_ble_eq_true rfl | simp [va_rf_cat, vi_cat, vl_cat]) (fun o7 eo7 => ?_)
      show G Γ cvI 5 0 0 36 [(4, va_rf o2.1), (0, va_rf a0), (1, .int x1), (2, .int x2), (3, .int x3)] [.int o7.1] o7.2 _
      refine g_if_ne C (tgt := 42) dX11_point_36 (by decide) (fun h8 => ?_) (fun h8 => ?_)
      · refine g_ldc C (v := (-1000001 : Int32)) dX11_point_39 (by decide +kernel) ?_
        exact g_iret C dX11_point_41 ⟨by decide, by decide⟩
      · refine g_iload_n C dX11_point_42 rfl 4 rfl ?_
        refine g_if_ne C (tgt := 55) dX11_point_43 (by decide) (fun h9 => ?_) (fun h9 => ?_)
        · refine g_aload C dX11_point_46 0 rfl ?_
          refine g_iload_n C dX11_point_48 rfl 3 rfl ?_
          refine g_call3 C (n := 1) [.int x2] [] (m_X8_xAt o2.1 x2 o7.2) (m_X8_xAt o2.1 x2 o7.2) (m_X8_xAt o2.1 x2 o7.2) dX11_point_49 (fun R s args ht hR => va_cwU 1 ht gX11_point_X8_xAt_u128X1 rfl rfl rfl rfl (by decide +kernel) (by subst hR; exact ⟨by decide, by decide⟩)) (fun R s args ht hR => va_cwU 1 ht gX11_point_X8_xAt_u128X2 rfl rfl rfl rfl (by decide +kernel) (by subst hR; exact ⟨by decide, by decide⟩)) (fun R s args ht hR => va_cwU 1 ht gX11_point_X8_xAt_u128X7 rfl rfl rfl rfl (by decide +kernel) (by subst hR; exact ⟨by decide, by decide⟩)) ⟨by decide, by decide⟩ rfl rfl (by first | exact Nat.le_of_ble_eq_true rfl | simp [va_rf_cat, vi_cat, vl_cat]) (fun o10 eo10 => ?_)
          show G Γ cvI 5 0 0 52 [(4, va_rf o2.1), (0, va_rf a0), (1, .int x1), (2, .int x2), (3, .int x3)] [.int o10.1] o10.2 _
          refine g_goto C (tgt := 61) dX11_point_52 (by decide) ?_
          exact g_iret C dX11_point_61 ⟨by decide, by decide⟩
        · refine g_aload C dX11_point_55 0 rfl ?_
          refine g_iload_n C dX11_point_57 rfl 3 rfl ?_
          refine g_call3 C (n := 1) [.int x2] [] (m_X8_yAt o2.1 x2 o7.2) (m_X8_yAt o2.1 x2 o7.2) (m_X8_yAt o2.1 x2 o7.2) dX11_point_58 (fun R s args ht hR => va_cwU 1 ht gX11_point_X8_yAt_u131X1 rfl rfl rfl rfl (by decide +kernel) (by subst hR; exact ⟨by decide, by decide⟩)) (fun R s args ht hR => va_cwU 1 ht gX11_point_X8_yAt_u131X2 rfl rfl rfl rfl (by decide +kernel) (by subst hR; exact ⟨by decide, by decide⟩)) (fun R s args ht hR => va_cwU 1 ht gX11_point_X8_yAt_u131X7 rfl rfl rfl rfl (by decide +kernel) (by subst hR; exact ⟨by decide, by decide⟩)) ⟨by decide, by decide⟩ rfl rfl (by first | exact Nat.le_of_ble_eq_true rfl | simp [va_rf_cat, vi_cat, vl_cat]) (fun o11 eo11 => ?_)
          show G Γ cvI 5 0 0 61 [(4, va_rf o2.1), (0, va_rf a0), (1, .int x1), (2, .int x2), (3, .int x3)] [.int o11.1] o11.2 _
          exact g_iret C dX11_point_61 ⟨by decide, by decide⟩
