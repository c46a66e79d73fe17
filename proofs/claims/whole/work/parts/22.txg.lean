abbrev rmX9_loops : Room := { frames := 1, cells := 0, slots := 0, locals := 21 }
theorem flX9_loops_24 : Cond.fieldLink RX9 24 "LightLines$Strokes" "held" "I" ∈ wsX9_loops := by decide +kernel
set_option maxRecDepth 100000 in
theorem ulX9_loops_X9 : ∀ w ∈ u_ws RX9 TX9 4, w ∈ wsX9_loops := by decide +kernel
set_option maxHeartbeats 4000000 in
set_option maxRecDepth 100000 in
theorem t_X9_loops_29 {Γ : Cx} (C : CF Γ cX9_loops 3 (some .int) wsX9_loops RX9 rmX9_loops 0 0) (rc4 : Option Nat → Int32 → Int32 → St → Option (Int32 × St)) (hrc4 : ∀ (a0 : Option Nat) (x1 : Int32) (x2 : Int32) (S : St), G Γ cvI 3 0 0 4 [(0, va_rf a0), (1, .int x1), (2, .int x2)] [] S (rc4 a0 x1 x2 S)) (a0 : Option Nat) (x2 : Int32) (s0 : Int32) (s1 : Int32) (S : St) : G Γ cvI 3 0 0 29 [(0, va_rf a0), (2, .int x2)] [.int s1, .int s0] S (b_X9_loops_29 rc4 a0 x2 s0 s1 S) := by
  unfold b_X9_loops_29
  refine g_iadd C dX9_loops_29 ?_
  refine g_topi (fun y1 => ?_)
  refine g_istore_n C (i := 1) (lv2 := [(1, .int y1), (0, va_rf a0), (2, .int x2)]) dX9_loops_30 rfl (by decide) (by first | rfl | simp [va_rf_cat, vi_cat, vl_cat]) ?_
  refine g_iinc1 C dX9_loops_31 2 rfl (by decide) (by decide) (fun y2 => ?_)
  refine g_lveq (lv2 := [(2, .int y2), (1, .int y1), (0, va_rf a0)]) (by first | rfl | simp [va_rf_cat, vi_cat, vl_cat]) ?_
  refine g_goto C (tgt := 4) dX9_loops_34 (by decide) ?_
  exact g_sub (lv2 := [(0, va_rf a0), (1, .int y1), (2, .int y2)]) [2, 1, 0] rfl (hrc4 a0 y1 y2 S)
set_option maxHeartbeats 4000000 in
set_option maxRecDepth 100000 in
theorem t_X9_loops_37 {Γ : Cx} (C : CF Γ cX9_loops 3 (some .int) wsX9_loops RX9 rmX9_loops 0 0) (x1 : Int32) (S : St) : G Γ cvI 3 0 0 37 [(1, .int x1)] [] S (b_X9_loops_37  x1 S) := by
  unfold b_X9_loops_37
  refine g_iload_n C dX9_loops_37 rfl 0 rfl ?_
  exact g_iret C dX9_loops_38 ⟨by decide, by decide⟩
set_option maxHeartbeats 4000000 in
set_option maxRecDepth 100000 in
theorem t_X9_loops_4 {Γ : Cx} (C : CF Γ cX9_loops 3 (some .int) wsX9_loops RX9 rmX9_loops 0 0) : ∀ (n : Nat) (a0 : Option Nat) (x1 : Int32) (x2 : Int32) (S : St), G Γ cvI 3 0 0 4 [(0, va_rf a0), (1, .int x1), (2, .int x2)] [] S (b_X9_loops_4  n a0 x1 x2 S) := by
  intro n
  induction n with
  | zero => intro a0 x1 x2 S; exact g_none
  | succ n ih =>
    intro a0 x1 x2 S
    rw [b_X9_loops_4]
    refine g_iload_n C dX9_loops_4 rfl 2 rfl ?_
    refine g_aload_n C dX9_loops_5 rfl 0 rfl ?_
    refine g_getI C (ci := 8) (k := 3) dX9_loops_6 rfl (by decide) (by decide) (by decide) ulX9_loops_X9 flX9_loops_24 rfl (fun v1 ev1 => ?_)
    refine g_icmp_ge C (tgt := 37) dX9_loops_9 (by decide) (fun h2 => ?_) (fun h2 => ?_)
    · exact g_sub (lv2 := [(1, .int x1)]) [1] rfl (t_X9_loops_37 C x1 S)
    · refine g_iload_n C dX9_loops_12 rfl 1 rfl ?_
      refine g_aload_n C dX9_loops_13 rfl 0 rfl ?_
      refine g_iload_n C dX9_loops_14 rfl 2 rfl ?_
      refine g_callV C (n := 1) (ci := 8) [.int x2] [.int x1] (m_X9_at a0 x2 S) dX9_loops_15 gX9_loops_X9_at rfl ⟨rfl, rfl⟩ (by decide +kernel) ⟨by decide, by decide⟩ ⟨by decide, by decide⟩ rfl (by decide) rfl rfl (by first | exact Nat.le_of_ble_eq_true rfl | simp [va_rf_cat, vi_cat, vl_cat]) (fun o3 eo3 => ?_)
      show G Γ cvI 3 0 0 18 [(0, va_rf a0), (1, .int x1), (2, .int x2)] [va_rf o3.1, .int x1] o3.2 _
      refine g_instLoop C dX9_loops_18 (by decide +kernel) (fun v4 ev4 => ?_)
      refine g_if_eq C (tgt := 28) dX9_loops_21 (by decide) (fun h5 => ?_) (fun h5 => ?_)
      · refine g_iconst C (v := (0 : Int32)) dX9_loops_28 (by decide) ?_
        exact g_sub (lv2 := [(0, va_rf a0), (2, .int x2)]) [0, 2] rfl (t_X9_loops_29 C (b_X9_loops_4 n) ih a0 x2 x1 (0 : Int32) o3.2)
      · refine g_iconst C (v := (1 : Int32)) dX9_loops_24 (by decide) ?_
        refine g_goto C (tgt := 29) dX9_loops_25 (by decide) ?_
        exact g_sub (lv2 := [(0, va_rf a0), (2, .int x2)]) [0, 2] rfl (t_X9_loops_29 C (b_X9_loops_4 n) ih a0 x2 x1 (1 : Int32) o3.2)
set_option maxHeartbeats 4000000 in
set_option maxRecDepth 100000 in
theorem m_X9_loops (a0 : Option Nat) (S : St) : ∀ l D cy H0 o, f_X9_loops a0 S = some o → Met l yX9_loops wsX9_loops rmX9_loops (Pq D cy H0 [va_rf a0] S) (Qx D cy H0 (cvI o)) 0 0 (fun q => H0.size ≤ q) := by
  refine met_of (cc := cX9_loops) (maxL := 3) (ret := (some .int)) [va_rf a0] [(0, va_rf a0)] (by decide) rfl rfl (by simp [lg_sl, va_rf_cat, vi_cat, vl_cat]) (by simp [lv_args, va_rf_cat, vi_cat, vl_cat]) (fun Γ C => ?_)
  unfold f_X9_loops
  refine g_iconst C (v := (0 : Int32)) dX9_loops_0 (by decide) ?_
  refine g_istore_n C (i := 1) (lv2 := [(1, .int (0 : Int32)), (0, va_rf a0)]) dX9_loops_1 rfl (by decide) (by first | rfl | simp [va_rf_cat, vi_cat, vl_cat]) ?_
  refine g_iconst C (v := (0 : Int32)) dX9_loops_2 (by decide) ?_
  refine g_istore_n C (i := 2) (lv2 := [(2, .int (0 : Int32)), (1, .int (0 : Int32)), (0, va_rf a0)]) dX9_loops_3 rfl (by decide) (by first | rfl | simp [va_rf_cat, vi_cat, vl_cat]) ?_
  exact g_sub (lv2 := [(0, va_rf a0), (1, .int (0 : Int32)), (2, .int (0 : Int32))]) [2, 1, 0] rfl (t_X9_loops_4 C FU a0 (0 : Int32) (0 : Int32) S)
abbrev rmX11_fine : Room := { frames := 0, cells := 0, slots := 0, locals := 0 }
theorem flX11_fine_288 : Cond.fieldLink RX11 288 "LightLines" "finding" "I" ∈ wsX11_fine := by decide +kernel
set_option maxRecDepth 100000 in
theorem ulX11_fine_X11 : ∀ w ∈ u_ws RX11 TX11 7, w ∈ wsX11_fine := by decide +kernel
set_option maxHeartbeats 4000000 in
set_option maxRecDepth 100000 in
theorem m_X11_fine (a0 : Option Nat) (x1 : Int32) (S : St) : ∀ l D cy H0 o, f_X11_fine a0 x1 S = some o → Met l yX11_fine wsX11_fine rmX11_fine (Pq D cy H0 [va_rf a0, .int x1] S) (Qx D cy H0 (cvI o)) 0 0 (fun q => H0.size ≤ q) := by
  refine met_of (cc := cX11_fine) (maxL := 2) (ret := (some .int)) [va_rf a0, .int x1] [(0, va_rf a0), (1, .int x1)] (by decide) rfl rfl (by simp [lg_sl, va_rf_cat, vi_cat, vl_cat]) (by simp [lv_args, va_rf_cat, vi_cat, vl_cat]) (fun Γ C => ?_)
  unfold f_X11_fine
  refine g_aload_n C dX11_fine_0 rfl 0 rfl ?_
  refine g_iconst C (v := (0 : Int32)) dX11_fine_1 (by decide) ?_
  refine g_putI C (ci := 10) (k := 6) (ty0 := tyX11) dX11_fine_2 rfl (by decide) (by decide) (by decide) tyX11_ok nmX11 ulX11_fine_X11 flX11_fine_288 rfl rfl ⟨rfl, rfl⟩ (fun S1 eS1 => ?_)
  refine g_iload_n C dX11_fine_5 rfl 1 rfl ?_
  exact g_iret C dX11_fine_6 ⟨by decide, by decide⟩
abbrev rmX11_found : Room := { frames := 0, cells := 0, slots := 0, locals := 0 }
theorem flX11_found_288 : Cond.fieldLink RX11 288 "LightLines" "finding" "I" ∈ wsX11_found := by decide +kernel
set_option maxRecDepth 100000 in
theorem ulX11_found_X11 : ∀ w ∈ u_ws RX11 TX11 7, w ∈ wsX11_found := by decide +kernel
set_option maxHeartbeats 4000000 in
set_option maxRecDepth 100000 in
theorem m_X11_found (a0 : Option Nat) (x1 : Int32) (S : St) : ∀ l D cy H0 o, f_X11_found a0 x1 S = some o → Met l yX11_found wsX11_found rmX11_found (Pq D cy H0 [va_rf a0, .int x1] S) (Qx D cy H0 (cvI o)) 0 0 (fun q => H0.size ≤ q) := by
  refine met_of (cc := cX11_found) (maxL := 2) (ret := (some .int)) [va_rf a0, .int x1] [(0, va_rf a0), (1, .int x1)] (by decide) rfl rfl (by simp [lg_sl, va_rf_cat, vi_cat, vl_cat]) (by simp [lv_args, va_rf_cat, vi_cat, vl_cat]) (fun Γ C => ?_)
  unfold f_X11_found
  refine g_aload_n C dX11_found_0 rfl 0 rfl ?_
  refine g_iload_n C dX11_found_1 rfl 1 rfl ?_
  refine g_putI C (ci := 10) (k := 6) (ty0 := tyX11) dX11_found_2 rfl (by decide) (by decide) (by decide) tyX11_ok nmX11 ulX11_found_X11 flX11_found_288 rfl rfl ⟨rfl, rfl⟩ (fun S1 eS1 => ?_)
  refine g_ldcw C (v := (-1000010 : Int32)) dX11_found_5 (by decide +kernel) ?_
  refine g_iload_n C dX11_found_8 rfl 1 rfl ?_
  refine g_isub C dX11_found_9 ?_
  exact g_iret C dX11_found_10 ⟨by decide, by decide⟩
abbrev rmX11_isSheet : Room := { frames := 1, cells := 0, slots := 0, locals := 22 }
set_option maxHeartbeats 4000000 in
set_option maxRecDepth 100000 in
theorem m_X11_isSheet (x0 : Int32) (S : St) : ∀ l D cy H0 o, f_X11_isSheet x0 S = some o → Met l yX11_isSheet wsX11_isSheet rmX11_isSheet (Pq D cy H0 [.int x0] S) (Qx D cy H0 (cvI o)) 0 0 (fun q => H0.size ≤ q) := by
  refine met_of (cc := cX11_isSheet) (maxL := 1) (ret := (some .boolean)) [.int x0] [(0, .int x0)] (by decide) rfl rfl (by simp [lg_sl, va_rf_cat, vi_cat, vl_cat]) (by simp [lv_args, va_rf_cat, vi_cat, vl_cat]) (fun Γ C => ?_)
  unfold f_X11_isSheet
  refine g_iload_n C dX11_isSheet_0 rfl 0 rfl ?_
  refine g_iconst C (v := (0 : Int32)) dX11_isSheet_1 (by decide) ?_
  refine g_bipush C (v := (7 : Int32)) dX11_isSheet_2 (by decide) ?_
  refine g_callS C (n := 3) [.int x0, .int (0 : Int32), .int (7 : Int32)] [] (m_X11_isWithin x0 (0 : Int32) (7 : Int32) S) dX11_isSheet_4 gX11_isSheet_X11_isWithin rfl ⟨rfl, rfl⟩ (by decide +kernel) ⟨by decide, by decide⟩ ⟨by decide, by decide⟩ rfl rfl (by first | exact Nat.le_of_ble_eq_true rfl | simp [va_rf_cat, vi_cat, vl_cat]) (fun o1 eo1 => ?_)
  show G Γ cvI 1 0 0 7 [(0, .int x0)] [.int o1.1] o1.2 _
  exact g_zret C dX11_isSheet_7 ⟨by decide, by decide⟩
abbrev rmX11_sheet : Room := { frames := 2, cells := 0, slots := 0, locals := 45 }
theorem flX11_sheet_11 : Cond.fieldLink RX11 11 "LightLines" "sheets" "[LLightLines$Sheet;" ∈ wsX11_sheet := by decide +kernel
set_option maxRecDepth 100000 in
theorem ulX11_sheet_X11 : ∀ w ∈ u_ws RX11 TX11 7, w ∈ wsX11_sheet := by decide +kernel
set_option maxHeartbeats 4000000 in
set_option maxRecDepth 100000 in
theorem m_X11_sheet (a0 : Option Nat) (x1 : Int32) (x2 : Int32) (x3 : Int32) (S : St) : ∀ l D cy H0 o, f_X11_sheet a0 x1 x2 x3 S = some o → Met l yX11_sheet wsX11_sheet rmX11_sheet (Pq D cy H0 [va_rf a0, .int x1, .int x2, .int x3] S) (Qx D cy H0 (cvI o)) 0 0 (fun q => H0.size ≤ q) := by
  refine met_of (cc := cX11_sheet) (maxL := 4) (ret := (some .int)) [va_rf a0, .int x1, .int x2, .int x3] [(0, va_rf a0), (1, .int x1), (2, .int x2), (3, .int x3)] (by decide) rfl rfl (by simp [lg_sl, va_rf_cat, vi_cat, vl_cat]) (by simp [lv_args, va_rf_cat, vi_cat, vl_cat]) (fun Γ C => ?_)
  unfold f_X11_sheet
  refine g_iload_n C dX11_sheet_0 rfl 1 rfl ?_
  refine g_callS C (n := 1) [.int x1] [] (m_X11_isSheet x1 S) dX11_sheet_1 gX11_sheet_X11_isSheet rfl ⟨rfl, rfl⟩ (by decide +kernel) ⟨by decide, by decide⟩ ⟨by decide, by decide⟩ rfl rfl (by first | exact Nat.le_of_ble_eq_true rfl | simp [va_rf_cat, vi_cat, vl_cat]) (fun o1 eo1 => ?_)
  show G Γ cvI 4 0 0 4 [(0, va_rf a0), (1, .int x1), (2, .int x2), (3, .int x3)] [.int o1.1] o1.2 _
  refine g_if_eq C (tgt := 22) dX11_sheet_4 (by decide) (fun h2 => ?_) (fun h2 => ?_)
  · refine g_ldc C (v := (-1000001 : Int32)) dX11_sheet_22 (by decide +kernel) ?_
    exact g_iret C dX11_sheet_24 ⟨by decide, by decide⟩
  · refine g_iload_n C dX11_sheet_7 rfl 2 rfl ?_
    refine g_iconst C (v := (0 : Int32)) dX11_sheet_8 (by decide) ?_
    refine g_iconst C (v := (2 : Int32)) dX11_sheet_9 (by decide) ?_
    refine g_callS C (n := 3) [.int x2, .int (0 : Int32), .int (2 : Int32)] [] (m_X11_isWithin x2 (0 : Int32) (2 : Int32) o1.2) dX11_sheet_10 gX11_sheet_X11_isWithin rfl ⟨rfl, rfl⟩ (by decide +kernel) ⟨by decide, by decide⟩ ⟨by decide, by decide⟩ rfl rfl (by first | exact Nat.le_of_ble_eq_true rfl | simp [va_rf_cat, vi_cat, vl_cat]) (fun o3 eo3 => ?_)
    show G Γ cvI 4 0 0 13 [(0, va_rf a0), (1, .int x1), (2, .int x2), (3, .int x3)] [.int o3.1] o3.2 _
    refine g_if_eq C (tgt := 22) dX11_sheet_13 (by decide) (fun h4 => ?_) (fun h4 => ?_)
    · refine g_ldc C (v := (-1000001 : Int32)) dX11_sheet_22 (by decide +kernel) ?_
      exact g_iret C dX11_sheet_24 ⟨by decide, by decide⟩
    · refine g_iload_n C dX11_sheet_16 rfl 3 rfl ?_
      refine g_bipush C (v := (40 : Int32)) dX11_sheet_17 (by decide) ?_
      refine g_icmp_le C (tgt := 25) dX11_sheet_19 (by decide) (fun h5 => ?_) (fun h5 => ?_)
      · refine g_iload_n C dX11_sheet_25 rfl 3 rfl ?_
        refine g_if_ge C (tgt := 35) dX11_sheet_26 (by decide) (fun h6 => ?_) (fun h6 => ?_)
        · refine g_aload_n C dX11_sheet_35 rfl 0 rfl ?_
          refine g_getR C (ci := 10) (k := 0) dX11_sheet_36 rfl (by decide) (by decide) (by decide) ulX11_sheet_X11 flX11_sheet_11 rfl (fun v7 ev7 => ?_)
          refine g_iload_n C dX11_sheet_39 rfl 1 rfl ?_
          refine g_ald16 C dX11_sheet_40 (fun v8 ev8 => ?_)
          refine g_iload_n C dX11_sheet_41 rfl 2 rfl ?_
          refine g_iload_n C dX11_sheet_42 rfl 3 rfl ?_
          refine g_callV C (n := 2) (ci := 5) [.int x2, .int x3] [] (m_X5_lay v8 x2 x3 o3.2) dX11_sheet_43 gX11_sheet_X5_lay rfl ⟨rfl, rfl⟩ (by decide +kernel) ⟨by decide, by decide⟩ ⟨by decide, by decide⟩ rfl (by decide) rfl rfl (by first | exact Nat.le_of_ble_eq_true rfl | simp [va_rf_cat, vi_cat, vl_cat]) (fun o9 eo9 => ?_)
          show G Γ cvI 4 0 0 46 [(0, va_rf a0), (1, .int x1), (2, .int x2), (3, .int x3)] [] o9 _
          refine g_aload_n C dX11_sheet_46 rfl 0 rfl ?_
          refine g_iload_n C dX11_sheet_47 rfl 3 rfl ?_
          refine g_callV C (n := 1) (ci := 10) [.int x3] [] (m_X11_fine a0 x3 o9) dX11_sheet_48 gX11_sheet_X11_fine rfl ⟨rfl, rfl⟩ (by decide +kernel) ⟨by decide, by decide⟩ ⟨by decide, by decide⟩ rfl (by decide) rfl rfl (by first | exact Nat.le_of_ble_eq_true rfl | simp [va_rf_cat, vi_cat, vl_cat]) (fun o10 eo10 => ?_)
          show G Γ cvI 4 0 0 51 [(0, va_rf a0), (1, .int x1), (2, .int x2), (3, .int x3)] [.int o10.1] o10.2 _
          exact g_iret C dX11_sheet_51 ⟨by decide, by decide⟩
        · refine g_aload_n C dX11_sheet_29 rfl 0 rfl ?_
          refine g_iconst C (v := (4 : Int32)) dX11_sheet_30 (by decide) ?_
          refine g_callV C (n := 1) (ci := 10) [.int (4 : Int32)] [] (m_X11_found a0 (4 : Int32) o3.2) dX11_sheet_31 gX11_sheet_X11_found rfl ⟨rfl, rfl⟩ (by decide +kernel) ⟨by decide, by decide⟩ ⟨by decide, by decide⟩ rfl (by decide) rfl rfl (by first | exact Nat.le_of_ble_eq_true rfl | simp [va_rf_cat, vi_cat, vl_cat]) (fun o11 eo11 => ?_)
          show G Γ cvI 4 0 0 34 [(0, va_rf a0), (1, .int x1), (2, .int x2), (3, .int x3)] [.int o11.1] o11.2 _
          exact g_iret C dX11_sheet_34 ⟨by decide, by decide⟩
      · refine g_ldc C (v := (-1000001 : Int32)) dX11_sheet_22 (by decide +kernel) ?_
        exact g_iret C dX11_sheet_24 ⟨by decide, by decide⟩
abbrev rmX11_set : Room := { frames := 3, cells := 0, slots := 0, locals := 65 }
theorem flX11_set_11 : Cond.fieldLink RX11 11 "LightLines" "sheets" "[LLightLines$Sheet;" ∈ wsX11_set := by decide +kernel
set_option maxRecDepth 100000 in
theorem ulX11_set_X11 : ∀ w ∈ u_ws RX11 TX11 7, w ∈ wsX11_set := by decide +kernel
set_option maxHeartbeats 4000000 in
set_option maxRecDepth 100000 in
theorem m_X11_set (a0 : Option Nat) (x1 : Int32) (x2 : Int32) (x3 : Int32) (S : St) : ∀ l D cy H0 o, f_X11_set a0 x1 x2 x3 S = some o → Met l yX11_set wsX11_set rmX11_set (Pq D cy H0 [va_rf a0, .int x1, .int x2, .int x3] S) (Qx D cy H0 (cvI o)) 0 0 (fun q => H0.size ≤ q) := by
  refine met_of (cc := cX11_set) (maxL := 5) (ret := (some .int)) [va_rf a0, .int x1, .int x2, .int x3] [(0, va_rf a0), (1, .int x1), (2, .int x2), (3, .int x3)] (by decide) rfl rfl (by simp [lg_sl, va_rf_cat, vi_cat, vl_cat]) (by simp [lv_args, va_rf_cat, vi_cat, vl_cat]) (fun Γ C => ?_)
  unfold f_X11_set
  refine g_iload_n C dX11_set_0 rfl 1 rfl ?_
  refine g_callS C (n := 1) [.int x1] [] (m_X11_isSheet x1 S) dX11_set_1 gX11_set_X11_isSheet rfl ⟨rfl, rfl⟩ (by decide +kernel) ⟨by decide, by decide⟩ ⟨by decide, by decide⟩ rfl rfl (by first | exact Nat.le_of_ble_eq_true rfl | simp [va_rf_cat, vi_cat, vl_cat]) (fun o1 eo1 => ?_)
  show G Γ cvI 5 0 0 4 [(0, va_rf a0), (1, .int x1), (2, .int x2), (3, .int x3)] [.int o1.1] o1.2 _
  refine g_if_ne C (tgt := 10) dX11_set_4 (by decide) (fun h2 => ?_) (fun h2 => ?_)
  · refine g_ldc C (v := (-1000001 : Int32)) dX11_set_7 (by decide +kernel) ?_
    exact g_iret C dX11_set_9 ⟨by decide, by decide⟩
  · refine g_aload_n C dX11_set_10 rfl 0 rfl ?_
    refine g_getR C (ci := 10) (k := 0) dX11_set_11 rfl (by decide) (by decide) (by decide) ulX11_set_X11 flX11_set_11 rfl (fun v3 ev3 => ?_)
    refine g_iload_n C dX11_set_14 rfl 1 rfl ?_
    refine g_ald16 C dX11_set_15 (fun v4 ev4 => ?_)
    refine g_astore C (i := 4) (lv2 := [(4, va_rf v4), (0, va_rf a0), (1, .int x1), (2, .int x2), (3, .int x3)]) dX11_set_16 (by decide) (by first | rfl | simp [va_rf_cat, vi_cat, vl_cat]) ?_
    refine g_aload C dX11_set_18 0 rfl ?_
    refine g_callV C (n := 0) (ci := 5) [] [] (m_X5_isMissing v4 o1.2) dX11_set_20 gX11_set_X5_isMissing rfl ⟨rfl, rfl⟩ (by decide +kernel) ⟨by decide, by decide⟩ ⟨by decide, by decide⟩ rfl (by decide) rfl rfl (by first | exact Nat.le_of_ble_eq_true rfl | simp [va_rf_cat, vi_cat, vl_cat]) (fun o5 eo5 => ?_)
    show G Γ cvI 5 0 0 23 [(4, va_rf v4), (0, va_rf a0), (1, .int x1), (2, .int x2), (3, .int x3)] [.int o5.1] o5.2 _
    refine g_if_eq C (tgt := 32) dX11_set_23 (by decide) (fun h6 => ?_) (fun h6 => ?_)
    · refine g_aload C dX11_set_32 0 rfl ?_
      refine g_iload_n C dX11_set_34 rfl 3 rfl ?_
      refine g_iconst C (v := (1 : Int32)) dX11_set_35 (by decide) ?_
      refine g_callV C (n := 2) (ci := 5) [.int x2, .int (1 : Int32)] [] (m_X5_has v4 x2 (1 : Int32) o5.2) dX11_set_36 gX11_set_X5_has rfl ⟨rfl, rfl⟩ (by decide +kernel) ⟨by decide, by decide⟩ ⟨by decide, by decide⟩ rfl (by decide) rfl rfl (by first | exact Nat.le_of_ble_eq_true rfl | simp [va_rf_cat, vi_cat, vl_cat]) (fun o7 eo7 => ?_)
      show G Γ cvI 5 0 0 39 [(4, va_rf v4), (0, va_rf a0), (1, .int x1), (2, .int x2), (3, .int x3)] [.int o7.1] o7.2 _
      refine g_if_ne C (tgt := 48) dX11_set_39 (by decide) (fun h8 => ?_) (fun h8 => ?_)
      · refine g_aload_n C dX11_set_42 rfl 1 rfl ?_
        refine g_iconst C (v := (2 : Int32)) dX11_set_43 (by decide) ?_
        refine g_callV C (n := 1) (ci := 10) [.int (2 : Int32)] [] (m_X11_found a0 (2 : Int32) o7.2) dX11_set_44 gX11_set_X11_found rfl ⟨rfl, rfl⟩ (by decide +kernel) ⟨by decide, by decide⟩ ⟨by decide, by decide⟩ rfl (by decide) rfl rfl (by first | exact Nat.le_of_ble_eq_true rfl | simp [va_rf_cat, vi_cat, vl_cat]) (fun o9 eo9 => ?_)
        show G Γ cvI 5 0 0 47 [(4, va_rf v4), (0, va_rf a0), (1, .int x1), (2, .int x2), (3, .int x3)] [.int o9.1] o9.2 _
        exact g_iret C dX11_set_47 ⟨by decide, by decide⟩
      · refine g_aload_n C dX11_set_48 rfl 1 rfl ?_
        refine g_aload C dX11_set_49 0 rfl ?_
        refine g_iload_n C dX11_set_51 rfl 3 rfl ?_
        refine g_iload_n C dX11_set_52 rfl 4 rfl ?_
        refine g_callV C (n := 2) (ci := 5) [.int x2, .int x3] [va_rf a0] (m_X5_put v4 x2 x3 o7.2) dX11_set_53 gX11_set_X5_put rfl ⟨rfl, rfl⟩ (by decide +kernel) ⟨by decide, by decide⟩ ⟨by decide, by decide⟩ rfl (by decide) rfl rfl (by first | exact Nat.le_of_ble_eq_true rfl | simp [va_rf_cat, vi_cat, vl_cat]) (fun o10 eo10 => ?_)
        show G Γ cvI 5 0 0 56 [(4, va_rf v4), (0, va_rf a0), (1, .int x1), (2, .int x2), (3, .int x3)] [.int o10.1, va_rf a0] o10.2 _
        refine g_callV C (n := 1) (ci := 10) [.int o10.1] [] (m_X11_fine a0 o10.1 o10.2) dX11_set_56 gX11_set_X11_fine rfl ⟨rfl, rfl⟩ (by decide +kernel) ⟨by decide, by decide⟩ ⟨by decide, by decide⟩ rfl (by decide) rfl rfl (by first | exact Nat.le_of_ble_eq_true rfl | simp [va_rf_cat, vi_cat, vl_cat]) (fun o11 eo11 => ?_)
        show G Γ cvI 5 0 0 59 [(4, va_rf v4), (0, va_rf a0), (1, .int x1), (2, .int x2), (3, .int x3)] [.int o11.1] o11.2 _
        exact g_iret C dX11_set_59 ⟨by decide, by decide⟩
    · refine g_aload_n C dX11_set_26 rfl 1 rfl ?_
      refine g_iconst C (v := (1 : Int32)) dX11_set_27 (by decide) ?_
      refine g_callV C (n := 1) (ci := 10) [.int (1 : Int32)] [] (m_X11_found a0 (1 : Int32) o5.2) dX11_set_28 gX11_set_X11_found rfl ⟨rfl, rfl⟩ (by decide +kernel) ⟨by decide, by decide⟩ ⟨by decide, by decide⟩ rfl (by decide) rfl rfl (by first | exact Nat.le_of_ble_eq_true rfl | simp [va_rf_cat, vi_cat, vl_cat]) (fun o12 eo12 => ?_)
      show G Γ cvI 5 0 0 31 [(4, va_rf v4), (0, va_rf a0), (1, .int x1), (2, .int x2), (3, .int x3)] [.int o12.1] o12.2 _
      exact g_iret C dX11_set_31 ⟨by decide, by decide⟩
abbrev rmX11_drop : Room := { frames := 2, cells := 0, slots := 0, locals := 42 }
theorem flX11_drop_11 : Cond.fieldLink RX11 11 "LightLines" "sheets" "[LLightLines$Sheet;" ∈ wsX11_drop := by decide +kernel
theorem flX11_drop_83 : Cond.fieldLink RX11 83 "LightLines$Sheet" "lane" "I" ∈ wsX11_drop := by decide +kernel
theorem flX11_drop_97 : Cond.fieldLink RX11 97 "LightLines$Sheet" "size" "I" ∈ wsX11_drop := by decide +kernel
set_option maxRecDepth 100000 in
theorem ulX11_drop_X11 : ∀ w ∈ u_ws RX11 TX11 7, w ∈ wsX11_drop := by decide +kernel
set_option maxRecDepth 100000 in
theorem ulX11_drop_X5 : ∀ w ∈ u_ws RX5 TX5 3, w ∈ wsX11_drop := by decide +kernel
set_option maxHeartbeats 4000000 in
set_option maxRecDepth 100000 in
theorem m_X11_drop (a0 : Option Nat) (x1 : Int32) (S : St) : ∀ l D cy H0 o, f_X11_drop a0 x1 S = some o → Met l yX11_drop wsX11_drop rmX11_drop (Pq D cy H0 [va_rf a0, .int x1] S) (Qx D cy H0 (cvI o)) 0 0 (fun q => H0.size ≤ q) := by
  refine met_of (cc := cX11_drop) (maxL := 3) (ret := (some .int)) [va_rf a0, .int x1] [(0, va_rf a0), (1, .int x1)] (by decide) rfl rfl (by simp [lg_sl, va_rf_cat, vi_cat, vl_cat]) (by simp [lv_args, va_rf_cat, vi_cat, vl_cat]) (fun Γ C => ?_)
  unfold f_X11_drop
  refine g_iload_n C dX11_drop_0 rfl 1 rfl ?_
  refine g_callS C (n := 1) [.int x1] [] (m_X11_isSheet x1 S) dX11_drop_1 gX11_drop_X11_isSheet rfl ⟨rfl, rfl⟩ (by decide +kernel) ⟨by decide, by decide⟩ ⟨by decide, by decide⟩ rfl rfl (by first | exact Nat.le_of_ble_eq_true rfl | simp [va_rf_cat, vi_cat, vl_cat]) (fun o1 eo1 => ?_)
  show G Γ cvI 3 0 0 4 [(0, va_rf a0), (1, .int x1)] [.int o1.1] o1.2 _
  refine g_if_ne C (tgt := 10) dX11_drop_4 (by decide) (fun h2 => ?_) (fun h2 => ?_)
  · refine g_ldc C (v := (-1000001 : Int32)) dX11_drop_7 (by decide +kernel) ?_
    exact g_iret C dX11_drop_9 ⟨by decide, by decide⟩
  · refine g_aload_n C dX11_drop_10 rfl 0 rfl ?_
    refine g_getR C (ci := 10) (k := 0) dX11_drop_11 rfl (by decide) (by decide) (by decide) ulX11_drop_X11 flX11_drop_11 rfl (fun v3 ev3 => ?_)
    refine g_iload_n C dX11_drop_14 rfl 1 rfl ?_
    refine g_ald16 C dX11_drop_15 (fun v4 ev4 => ?_)
    refine g_astore_n C (i := 2) (lv2 := [(2, va_rf v4), (0, va_rf a0), (1, .int x1)]) dX11_drop_16 rfl (by decide) (by first | rfl | simp [va_rf_cat, vi_cat, vl_cat]) ?_
    refine g_aload_n C dX11_drop_17 rfl 0 rfl ?_
    refine g_callV C (n := 0) (ci := 5) [] [] (m_X5_isMissing v4 o1.2) dX11_drop_18 gX11_drop_X5_isMissing rfl ⟨rfl, rfl⟩ (by decide +kernel) ⟨by decide, by decide⟩ ⟨by decide, by decide⟩ rfl (by decide) rfl rfl (by first | exact Nat.le_of_ble_eq_true rfl | simp [va_rf_cat, vi_cat, vl_cat]) (fun o5 eo5 => ?_)
    show G Γ cvI 3 0 0 21 [(2, va_rf v4), (0, va_rf a0), (1, .int x1)] [.int o5.1] o5.2 _
    refine g_if_eq C (tgt := 30) dX11_drop_21 (by decide) (fun h6 => ?_) (fun h6 => ?_)
    · refine g_aload_n C dX11_drop_30 rfl 0 rfl ?_
      refine g_iconst C (v := (-1 : Int32)) dX11_drop_31 (by decide) ?_
      refine g_putI C (ci := 5) (k := 1) (ty0 := tyX5) dX11_drop_32 rfl (by decide) (by decide) (by decide) tyX5_ok nmX5 ulX11_drop_X5 flX11_drop_83 rfl rfl ⟨rfl, rfl⟩ (fun S7 eS7 => ?_)
      refine g_aload_n C dX11_drop_35 rfl 1 rfl ?_
      refine g_aload_n C dX11_drop_36 rfl 0 rfl ?_
      refine g_getI C (ci := 5) (k := 2) dX11_drop_37 rfl (by decide) (by decide) (by decide) ulX11_drop_X5 flX11_drop_97 rfl (fun v8 ev8 => ?_)
      refine g_callV C (n := 1) (ci := 10) [.int v8] [] (m_X11_fine a0 v8 S7) dX11_drop_40 gX11_drop_X11_fine rfl ⟨rfl, rfl⟩ (by decide +kernel) ⟨by decide, by decide⟩ ⟨by decide, by decide⟩ rfl (by decide) rfl rfl (by first | exact Nat.le_of_ble_eq_true rfl | simp [va_rf_cat, vi_cat, vl_cat]) (fun o9 eo9 => ?_)
      show G Γ cvI 3 0 0 43 [(2, va_rf v4), (0, va_rf a0), (1, .int x1)] [.int o9.1] o9.2 _
      exact g_iret C dX11_drop_43 ⟨by decide, by decide⟩
    · refine g_aload_n C dX11_drop_24 rfl 1 rfl ?_
      refine g_iconst C (v := (1 : Int32)) dX11_drop_25 (by decide) ?_
      refine g_callV C (n := 1) (ci := 10) [.int (1 : Int32)] [] (m_X11_found a0 (1 : Int32) o5.2) dX11_drop_26 gX11_drop_X11_found rfl ⟨rfl, rfl⟩ (by decide +kernel) ⟨by decide, by decide⟩ ⟨by decide, by decide⟩ rfl (by decide) rfl rfl (by first | exact Nat.le_of_ble_eq_true rfl | simp [va_rf_cat, vi_cat, vl_cat]) (fun o10 eo10 => ?_)
      show G Γ cvI 3 0 0 29 [(2, va_rf v4), (0, va_rf a0), (1, .int x1)] [.int o10.1] o10.2 _
      exact g_iret C dX11_drop_29 ⟨by decide, by decide⟩
abbrev rmX11_point : Room := { frames := 1, cells := 0, slots := 0, locals := 22 }
theorem flX11_point_18 : Cond.fieldLink RX11 18 "LightLines" "strokes" "LLightLines$Strokes;" ∈ wsX11_point := by decide +kernel
set_option maxRecDepth 100000 in
theorem ulX11_point_X11 : ∀ w ∈ u_ws RX11 TX11 7, w ∈ wsX11_point := by decide +kernel
set_option maxHeartbeats 4000000 in
set_option maxRecDepth 100000 in
theorem m_X11_point (a0 : Option Nat) (x1 : Int32) (x2 : Int32) (x3 : Int32) (S : St) : ∀ l D cy H0 o, f_X11_point a0 x1 x2 x3 S = some o → Met l yX11_point wsX11_point rmX11_point (Pq D cy H0 [va_rf a0, .int x1, .int x2, .int x3] S) (Qx D cy H0 (cvI o)) 0 0 (fun q => H0.size ≤ q) := by
  refine met_of (cc := cX11_point) (maxL := 5) (ret := (some .int)) [va_rf a0, .int x1, .int x2, .int x3] [(0, va_rf a0), (1, .int x1), (2, .int x2), (3, .int x3)] (by decide) rfl rfl (by simp [lg_sl, va_rf_cat, vi_cat, vl_cat]) (by simp [lv_args, va_rf_cat, vi_cat, vl_cat]) (fun Γ C => ?_)
  unfold f_X11_point
  refine g_aload_n C dX11_point_0 rfl 0 rfl ?_
  refine g_getR C (ci := 10) (k := 1) dX11_point_1 rfl (by decide) (by decide) (by decide) ulX11_point_X11 flX11_point_18 rfl (fun v1 ev1 => ?_)
  refine g_iload_n C dX11_point_4 rfl 1 rfl ?_
  refine g_callV C (n := 1) (ci := 8) [.int x1] [] (m_X9_at v1 x1 S) dX11_point_5 gX11_point_X9_at rfl ⟨rfl, rfl⟩ (by decide +kernel) ⟨by decide, by decide⟩ ⟨by decide, by decide⟩ rfl (by decide) rfl rfl (by first | exact Nat.le_of_ble_eq_true rfl | simp [va_rf_cat, vi_cat, vl_cat]) (fun o2 eo2 => ?_)
  show G Γ cvI 5 0 0 8 [(0, va_rf a0), (1, .int x1), (2, .int x2), (3, .int x3)] [va_rf o2.1] o2.2 _
  refine g_astore C (i := 4) (lv2 := [(4, va_rf o2.1), (0, va_rf a0), (1, .int x1), (2, .int x2), (3, .int x3)]) dX11_point_8 (by decide) (by first | rfl | simp [va_rf_cat, vi_cat, vl_cat]) ?_
  refine g_aload C dX11_point_10 0 rfl ?_
  refine g_ifnull C (tgt := 39) dX11_point_12 (by decide) (fun h3 => ?_) (fun h3 => ?_)
  · refine g_ldc C (v := (-1000001 : Int32)) dX11_point_39 (by decide +kernel) ?_
    exact g_iret C dX11_point_41 ⟨by decide, by decide⟩
  · refine g_iload_n C dX11_point_15 rfl 3 rfl ?_
    refine g_iconst C (v := (0 : Int32)) dX11_point_16 (by decide) ?_
    refine g_aload C dX11_point_17 0 rfl ?_
    refine g_call3 C (n := 0) [] [.int (0 : Int32), .int x2] (m_X8_points o2.1 o2.2) (m_X8_points o2.1 o2.2) (m_X8_points o2.1 o2.2) dX11_point_19 (fun R s args ht hR => va_cwU 0 ht gX11_point_X8_points_u122X1 rfl rfl rfl rfl (by decide +kernel) (by subst hR; exact ⟨by decide, by decide⟩)) (fun R s args ht hR => va_cwU 0 ht gX11_point_X8_points_u122X2 rfl rfl rfl rfl (by decide +kernel) (by subst hR; exact ⟨by decide, by decide⟩)) (fun R s args ht hR => va_cwU 0 ht gX11_point_X8_points_u122X7 rfl rfl rfl rfl (by decide +kernel) (by subst hR; exact ⟨by decide, by decide⟩)) ⟨by decide, by decide⟩ rfl rfl (by first | exact Nat.le_of_ble_eq_true rfl | simp [va_rf_cat, vi_cat, vl_cat]) (fun o4 eo4 => ?_)
    show G Γ cvI 5 0 0 22 [(4, va_rf o2.1), (0, va_rf a0), (1, .int x1), (2, .int x2), (3, .int x3)] [.int o4.1, .int (0 : Int32), .int x2] o4.2 _
    refine g_iconst C (v := (1 : Int32)) dX11_point_22 (by decide) ?_
    refine g_isub C dX11_point_23 ?_
    refine g_callS C (n := 3) [.int x2, .int (0 : Int32), .int (o4.1 - (1 : Int32))] [] (m_X11_isWithin x2 (0 : Int32) (o4.1 - (1 : Int32)) o4.2) dX11_point_24 gX11_point_X11_isWithin rfl ⟨rfl, rfl⟩ (by decide +kernel) ⟨by decide, by decide⟩ ⟨by decide, by decide⟩ rfl rfl (by first | exact Nat.le_of_ble_eq_true rfl | simp [va_rf_cat, vi_cat, vl_cat]) (fun o5 eo5 => ?_)
    show G Γ cvI 5 0 0 27 [(4, va_rf o2.1), (0, va_rf a0), (1, .int x1), (2, .int x2), (3, .int x3)] [.int o5.1] o5.2 _
    refine g_if_eq C (tgt := 39) dX11_point_27 (by decide) (fun h6 => ?_) (fun h6 => ?_)
    · refine g_ldc C (v := (-1000001 : Int32)) dX11_point_39 (by decide +kernel) ?_
      exact g_iret C dX11_point_41 ⟨by decide, by decide⟩
    · refine g_iload_n C dX11_point_30 rfl 4 rfl ?_
      refine g_iconst C (v := (0 : Int32)) dX11_point_31 (by decide) ?_
      refine g_iconst C (v := (1 : Int32)) dX11_point_32 (by decide) ?_
      refine g_callS C (n := 3) [.int x3, .int (0 : Int32), .int (1 : Int32)] [] (m_X11_isWithin x3 (0 : Int32) (1 : Int32) o5.2) dX11_point_33 gX11_point_X11_isWithin rfl ⟨rfl, rfl⟩ (by decide +kernel) ⟨by decide, by decide⟩ ⟨by decide, by decide⟩ rfl rfl (by first | exact Nat.le_of_ble_eq_true rfl | simp [va_rf_cat, vi_cat, vl_cat]) (fun o7 eo7 => ?_)
      show G Γ cvI 5 0 0 36 [(4, va_rf o2.1), (0, va_rf a0), (1, .int x1), (2, .int x2), (3, .int x3)] [.int o7.1] o7.2 _
      refine g_if_ne C (tgt := 42) dX11_point_36 (by decide) (fun h8 => ?_) (fun h8 => ?_)
      · refine g_ldc C (v := (-1000001 : Int32)) dX11_point_39 (by decide +kernel) ?_
        exact g_iret C dX11_point_41 ⟨by decide, by decide⟩
      · refine g_iload_n C dX11_point_42 rfl 4 rfl ?_
        refine g_if_ne C (tgt := 55) dX11_point_43 (by decide) (fun h9 => ?_) (fun h9 => ?_)
        · refine g_aload C dX11_point_46 0 rfl ?_
          refine g_iload_n C dX11_point_48 rfl 3 rfl ?_
          refine g_call3 C (n := 1) [.int x2] [] (m_X8_xAt o2.1 x2 o7.2) (m_X8_xAt o2.1 x2 o7.2) (m_X8_xAt o2.1 x2 o7.2) dX11_point_49 (fun R s args ht hR => va_cwU 1 ht gX11_point_X8_xAt_u128X1 rfl rfl rfl rfl (by decide +kernel) (by subst hR; exact ⟨by decide, by decide⟩)) (fun R s args ht hR => va_cwU 1 ht gX11_point_X8_xAt_u128X2 rfl rfl rfl rfl (by decide +kernel) (by subst hR; exact ⟨by decide, by decide⟩)) (fun R s args ht hR => va_cwU 1 ht gX11_point_X8_xAt_u128X7 rfl rfl rfl rfl (by decide +kernel) (by subst hR; exact ⟨by decide, by decide⟩)) ⟨by decide, by decide⟩ rfl rfl (by first | exact Nat.le_of_ble_eq_true rfl | simp [va_rf_cat, vi_cat, vl_cat]) (fun o10 eo10 => ?_)
          show G Γ cvI 5 0 0 52 [(4, va_rf o2.1), (0, va_rf a0), (1, .int x1), (2, .int x2), (3, .int x3)] [.int o10.1] o10.2 _
          refine g_goto C (tgt := 61) dX11_point_52 (by decide) ?_
          exact g_iret C dX11_point_61 ⟨by decide, by decide⟩
        · refine g_aload C dX11_point_55 0 rfl ?_
          refine g_iload_n C dX11_point_57 rfl 3 rfl ?_
          refine g_call3 C (n := 1) [.int x2] [] (m_X8_yAt o2.1 x2 o7.2) (m_X8_yAt o2.1 x2 o7.2) (m_X8_yAt o2.1 x2 o7.2) dX11_point_58 (fun R s args ht hR => va_cwU 1 ht gX11_point_X8_yAt_u131X1 rfl rfl rfl rfl (by decide +kernel) (by subst hR; exact ⟨by decide, by decide⟩)) (fun R s args ht hR => va_cwU 1 ht gX11_point_X8_yAt_u131X2 rfl rfl rfl rfl (by decide +kernel) (by subst hR; exact ⟨by decide, by decide⟩)) (fun R s args ht hR => va_cwU 1 ht gX11_point_X8_yAt_u131X7 rfl rfl rfl rfl (by decide +kernel) (by subst hR; exact ⟨by decide, by decide⟩)) ⟨by decide, by decide⟩ rfl rfl (by first | exact Nat.le_of_ble_eq_true rfl | simp [va_rf_cat, vi_cat, vl_cat]) (fun o11 eo11 => ?_)
          show G Γ cvI 5 0 0 61 [(4, va_rf o2.1), (0, va_rf a0), (1, .int x1), (2, .int x2), (3, .int x3)] [.int o11.1] o11.2 _
          exact g_iret C dX11_point_61 ⟨by decide, by decide⟩
abbrev rmX11_plan : Room := { frames := 3, cells := 0, slots := 0, locals := 74 }
theorem flX11_plan_11 : Cond.fieldLink RX11 11 "LightLines" "sheets" "[LLightLines$Sheet;" ∈ wsX11_plan := by decide +kernel
theorem flX11_plan_18 : Cond.fieldLink RX11 18 "LightLines" "strokes" "LLightLines$Strokes;" ∈ wsX11_plan := by decide +kernel
theorem flX11_plan_32 : Cond.fieldLink RX11 32 "LightLines" "show" "LLightLines$Show;" ∈ wsX11_plan := by decide +kernel
theorem flX11_plan_100 : Cond.fieldLink RX11 100 "LightLines$Strokes" "held" "I" ∈ wsX11_plan := by decide +kernel
set_option maxRecDepth 100000 in
theorem ulX11_plan_X11 : ∀ w ∈ u_ws RX11 TX11 7, w ∈ wsX11_plan := by decide +kernel
set_option maxRecDepth 100000 in
theorem ulX11_plan_X9 : ∀ w ∈ u_ws RX9 TX9 4, w ∈ wsX11_plan := by decide +kernel
set_option maxHeartbeats 4000000 in
set_option maxRecDepth 100000 in
theorem t_X11_plan_133 {Γ : Cx} (C : CF Γ cX11_plan 5 (some .int) wsX11_plan RX11 rmX11_plan 0 0) (a0 : Option Nat) (S : St) : G Γ cvI 5 0 0 133 [(0, va_rf a0)] [] S (b_X11_plan_133  a0 S) := by
  unfold b_X11_plan_133
  refine g_aload_n C dX11_plan_133 rfl 0 rfl ?_
  refine g_getR C (ci := 10) (k := 3) dX11_plan_134 rfl (by decide) (by decide) (by decide) ulX11_plan_X11 flX11_plan_32 rfl (fun v1 ev1 => ?_)
  refine g_callV C (n := 0) (ci := 6) [] [] (m_X6_pathIsStale v1 S) dX11_plan_137 gX11_plan_X6_pathIsStale rfl ⟨rfl, rfl⟩ (by decide +kernel) ⟨by decide, by decide⟩ ⟨by decide, by decide⟩ rfl (by decide) rfl rfl (by first | exact Nat.le_of_ble_eq_true rfl | simp [va_rf_cat, vi_cat, vl_cat]) (fun o2 eo2 => ?_)
  show G Γ cvI 5 0 0 140 [(0, va_rf a0)] [] o2 _
  refine g_aload_n C dX11_plan_140 rfl 0 rfl ?_
  refine g_aload_n C dX11_plan_141 rfl 0 rfl ?_
  refine g_getR C (ci := 10) (k := 1) dX11_plan_142 rfl (by decide) (by decide) (by decide) ulX11_plan_X11 flX11_plan_18 rfl (fun v3 ev3 => ?_)
  refine g_callV C (n := 0) (ci := 8) [] [va_rf a0] (m_X9_darkWay v3 o2) dX11_plan_145 gX11_plan_X9_darkWay rfl ⟨rfl, rfl⟩ (by decide +kernel) ⟨by decide, by decide⟩ ⟨by decide, by decide⟩ rfl (by decide) rfl rfl (by first | exact Nat.le_of_ble_eq_true rfl | simp [va_rf_cat, vi_cat, vl_cat]) (fun o4 eo4 => ?_)
  show G Γ cvI 5 0 0 148 [(0, va_rf a0)] [.int o4.1, va_rf a0] o4.2 _
  refine g_callV C (n := 1) (ci := 10) [.int o4.1] [] (m_X11_fine a0 o4.1 o4.2) dX11_plan_148 gX11_plan_X11_fine rfl ⟨rfl, rfl⟩ (by decide +kernel) ⟨by decide, by decide⟩ ⟨by decide, by decide⟩ rfl (by decide) rfl rfl (by first | exact Nat.le_of_ble_eq_true rfl | simp [va_rf_cat, vi_cat, vl_cat]) (fun o5 eo5 => ?_)
  show G Γ cvI 5 0 0 151 [(0, va_rf a0)] [.int o5.1] o5.2 _
  exact g_iret C dX11_plan_151 ⟨by decide, by decide⟩
set_option maxHeartbeats 4000000 in
set_option maxRecDepth 100000 in
theorem t_X11_plan_84 {Γ : Cx} (C : CF Γ cX11_plan 5 (some .int) wsX11_plan RX11 rmX11_plan 0 0) : ∀ (n : Nat) (a0 : Option Nat) (x2 : Int32) (a3 : Option Nat) (x4 : Int32) (S : St), G Γ cvI 5 0 0 84 [(0, va_rf a0), (2, .int x2), (3, va_rf a3), (4, .int x4)] [] S (b_X11_plan_84  n a0 x2 a3 x4 S) := by
  intro n
  induction n with
  | zero => intro a0 x2 a3 x4 S; exact g_none
  | succ n ih =>
    intro a0 x2 a3 x4 S
    rw [b_X11_plan_84]
    refine g_iload C dX11_plan_84 3 rfl ?_
    refine g_aload_n C dX11_plan_86 rfl 0 rfl ?_
    refine g_getR C (ci := 10) (k := 1) dX11_plan_87 rfl (by decide) (by decide) (by decide) ulX11_plan_X11 flX11_plan_18 rfl (fun v1 ev1 => ?_)
    refine g_getI C (ci := 8) (k := 3) dX11_plan_90 rfl (by decide) (by decide) (by decide) ulX11_plan_X9 flX11_plan_100 rfl (fun v2 ev2 => ?_)
    refine g_icmp_ge C (tgt := 133) dX11_plan_93 (by decide) (fun h3 => ?_) (fun h3 => ?_)
    · exact g_sub (lv2 := [(0, va_rf a0)]) [0] rfl (t_X11_plan_133 C a0 S)
    · refine g_aload_n C dX11_plan_96 rfl 0 rfl ?_
      refine g_getR C (ci := 10) (k := 1) dX11_plan_97 rfl (by decide) (by decide) (by decide) ulX11_plan_X11 flX11_plan_18 rfl (fun v4 ev4 => ?_)
      refine g_iload C dX11_plan_100 3 rfl ?_
      refine g_aload_n C dX11_plan_102 rfl 2 rfl ?_
      refine g_iload_n C dX11_plan_103 rfl 1 rfl ?_
      refine g_iconst C (v := (2 : Int32)) dX11_plan_104 (by decide) ?_
      refine g_iload C dX11_plan_105 3 rfl ?_
      refine g_imul C dX11_plan_107 ?_
      refine g_iadd C dX11_plan_108 ?_
      refine g_callV C (n := 1) (ci := 5) [.int (x2 + ((2 : Int32) * x4))] [.int x4, va_rf v4] (m_X5_item a3 (x2 + ((2 : Int32) * x4)) S) dX11_plan_109 gX11_plan_X5_item rfl ⟨rfl, rfl⟩ (by decide +kernel) ⟨by decide, by decide⟩ ⟨by decide, by decide⟩ rfl (by decide) rfl rfl (by first | exact Nat.le_of_ble_eq_true rfl | simp [va_rf_cat, vi_cat, vl_cat]) (fun o5 eo5 => ?_)
      show G Γ cvI 5 0 0 112 [(0, va_rf a0), (2, .int x2), (3, va_rf a3), (4, .int x4)] [.int o5.1, .int x4, va_rf v4] o5.2 _
      refine g_aload_n C dX11_plan_112 rfl 2 rfl ?_
      refine g_iload_n C dX11_plan_113 rfl 1 rfl ?_
      refine g_iconst C (v := (2 : Int32)) dX11_plan_114 (by decide) ?_
      refine g_iload C dX11_plan_115 3 rfl ?_
      refine g_imul C dX11_plan_117 ?_
      refine g_iadd C dX11_plan_118 ?_
      refine g_iconst C (v := (1 : Int32)) dX11_plan_119 (by decide) ?_
      refine g_iadd C dX11_plan_120 ?_
      refine g_callV C (n := 1) (ci := 5) [.int ((x2 + ((2 : Int32) * x4)) + (1 : Int32))] [.int o5.1, .int x4, va_rf v4] (m_X5_item a3 ((x2 + ((2 : Int32) * x4)) + (1 : Int32)) o5.2) dX11_plan_121 gX11_plan_X5_item rfl ⟨rfl, rfl⟩ (by decide +kernel) ⟨by decide, by decide⟩ ⟨by decide, by decide⟩ rfl (by decide) rfl rfl (by first | exact Nat.le_of_ble_eq_true rfl | simp [va_rf_cat, vi_cat, vl_cat]) (fun o6 eo6 => ?_)
      show G Γ cvI 5 0 0 124 [(0, va_rf a0), (2, .int x2), (3, va_rf a3), (4, .int x4)] [.int o6.1, .int o5.1, .int x4, va_rf v4] o6.2 _
      refine g_callV C (n := 3) (ci := 8) [.int x4, .int o5.1, .int o6.1] [] (m_X9_planAt v4 x4 o5.1 o6.1 o6.2) dX11_plan_124 gX11_plan_X9_planAt rfl ⟨rfl, rfl⟩ (by decide +kernel) ⟨by decide, by decide⟩ ⟨by decide, by decide⟩ rfl (by decide) rfl rfl (by first | exact Nat.le_of_ble_eq_true rfl | simp [va_rf_cat, vi_cat, vl_cat]) (fun o7 eo7 => ?_)
      show G Γ cvI 5 0 0 127 [(0, va_rf a0), (2, .int x2), (3, va_rf a3), (4, .int x4)] [] o7 _
      refine g_iinc1 C dX11_plan_127 3 rfl (by decide) (by decide) (fun y8 => ?_)
      refine g_lveq (lv2 := [(4, .int y8), (0, va_rf a0), (2, .int x2), (3, va_rf a3)]) (by first | rfl | simp [va_rf_cat, vi_cat, vl_cat]) ?_
      refine g_goto C (tgt := 84) dX11_plan_130 (by decide) ?_
      exact g_sub (lv2 := [(0, va_rf a0), (2, .int x2), (3, va_rf a3), (4, .int y8)]) [1, 2, 3, 0] rfl (ih a0 x2 a3 y8 o7)
set_option maxHeartbeats 4000000 in
set_option maxRecDepth 100000 in
theorem m_X11_plan (a0 : Option Nat) (x1 : Int32) (x2 : Int32) (S : St) : ∀ l D cy H0 o, f_X11_plan a0 x1 x2 S = some o → Met l yX11_plan wsX11_plan rmX11_plan (Pq D cy H0 [va_rf a0, .int x1, .int x2] S) (Qx D cy H0 (cvI o)) 0 0 (fun q => H0.size ≤ q) := by
  refine met_of (cc := cX11_plan) (maxL := 5) (ret := (some .int)) [va_rf a0, .int x1, .int x2] [(0, va_rf a0), (1, .int x1), (2, .int x2)] (by decide) rfl rfl (by simp [lg_sl, va_rf_cat, vi_cat, vl_cat]) (by simp [lv_args, va_rf_cat, vi_cat, vl_cat]) (fun Γ C => ?_)
  unfold f_X11_plan
  refine g_iload_n C dX11_plan_0 rfl 1 rfl ?_
  refine g_callS C (n := 1) [.int x1] [] (m_X11_isSheet x1 S) dX11_plan_1 gX11_plan_X11_isSheet rfl ⟨rfl, rfl⟩ (by decide +kernel) ⟨by decide, by decide⟩ ⟨by decide, by decide⟩ rfl rfl (by first | exact Nat.le_of_ble_eq_true rfl | simp [va_rf_cat, vi_cat, vl_cat]) (fun o1 eo1 => ?_)
  show G Γ cvI 5 0 0 4 [(0, va_rf a0), (1, .int x1), (2, .int x2)] [.int o1.1] o1.2 _
  refine g_if_ne C (tgt := 10) dX11_plan_4 (by decide) (fun h2 => ?_) (fun h2 => ?_)
  · refine g_ldc C (v := (-1000001 : Int32)) dX11_plan_7 (by decide +kernel) ?_
    exact g_iret C dX11_plan_9 ⟨by decide, by decide⟩
  · refine g_aload_n C dX11_plan_10 rfl 0 rfl ?_
    refine g_getR C (ci := 10) (k := 1) dX11_plan_11 rfl (by decide) (by decide) (by decide) ulX11_plan_X11 flX11_plan_18 rfl (fun v3 ev3 => ?_)
    refine g_getI C (ci := 8) (k := 3) dX11_plan_14 rfl (by decide) (by decide) (by decide) ulX11_plan_X9 flX11_plan_100 rfl (fun v4 ev4 => ?_)
    refine g_if_ne C (tgt := 23) dX11_plan_17 (by decide) (fun h5 => ?_) (fun h5 => ?_)
    · refine g_ldc C (v := (-1000002 : Int32)) dX11_plan_20 (by decide +kernel) ?_
      exact g_iret C dX11_plan_22 ⟨by decide, by decide⟩
    · refine g_aload_n C dX11_plan_23 rfl 0 rfl ?_
      refine g_getR C (ci := 10) (k := 0) dX11_plan_24 rfl (by decide) (by decide) (by decide) ulX11_plan_X11 flX11_plan_11 rfl (fun v6 ev6 => ?_)
      refine g_iload_n C dX11_plan_27 rfl 1 rfl ?_
      refine g_ald16 C dX11_plan_28 (fun v7 ev7 => ?_)
      refine g_astore_n C (i := 3) (lv2 := [(3, va_rf v7), (0, va_rf a0), (1, .int x1), (2, .int x2)]) dX11_plan_29 rfl (by decide) (by first | rfl | simp [va_rf_cat, vi_cat, vl_cat]) ?_
      refine g_aload_n C dX11_plan_30 rfl 0 rfl ?_
      refine g_callV C (n := 0) (ci := 5) [] [] (m_X5_isMissing v7 o1.2) dX11_plan_31 gX11_plan_X5_isMissing rfl ⟨rfl, rfl⟩ (by decide +kernel) ⟨by decide, by decide⟩ ⟨by decide, by decide⟩ rfl (by decide) rfl rfl (by first | exact Nat.le_of_ble_eq_true rfl | simp [va_rf_cat, vi_cat, vl_cat]) (fun o8 eo8 => ?_)
      show G Γ cvI 5 0 0 34 [(3, va_rf v7), (0, va_rf a0), (1, .int x1), (2, .int x2)] [.int o8.1] o8.2 _
      refine g_if_eq C (tgt := 43) dX11_plan_34 (by decide) (fun h9 => ?_) (fun h9 => ?_)
      · refine g_aload_n C dX11_plan_43 rfl 0 rfl ?_
        refine g_iload_n C dX11_plan_44 rfl 3 rfl ?_
        refine g_iconst C (v := (2 : Int32)) dX11_plan_45 (by decide) ?_
        refine g_aload_n C dX11_plan_46 rfl 1 rfl ?_
        refine g_getR C (ci := 10) (k := 1) dX11_plan_47 rfl (by decide) (by decide) (by decide) ulX11_plan_X11 flX11_plan_18 rfl (fun v10 ev10 => ?_)
        refine g_getI C (ci := 8) (k := 3) dX11_plan_50 rfl (by decide) (by decide) (by decide) ulX11_plan_X9 flX11_plan_100 rfl (fun v11 ev11 => ?_)
        refine g_imul C dX11_plan_53 ?_
        refine g_callV C (n := 2) (ci := 5) [.int x2, .int ((2 : Int32) * v11)] [] (m_X5_has v7 x2 ((2 : Int32) * v11) o8.2) dX11_plan_54 gX11_plan_X5_has rfl ⟨rfl, rfl⟩ (by decide +kernel) ⟨by decide, by decide⟩ ⟨by decide, by decide⟩ rfl (by decide) rfl rfl (by first | exact Nat.le_of_ble_eq_true rfl | simp [va_rf_cat, vi_cat, vl_cat]) (fun o12 eo12 => ?_)
        show G Γ cvI 5 0 0 57 [(3, va_rf v7), (0, va_rf a0), (1, .int x1), (2, .int x2)] [.int o12.1] o12.2 _
        refine g_if_ne C (tgt := 66) dX11_plan_57 (by decide) (fun h13 => ?_) (fun h13 => ?_)
        · refine g_aload_n C dX11_plan_60 rfl 1 rfl ?_
          refine g_iconst C (v := (2 : Int32)) dX11_plan_61 (by decide) ?_
          refine g_callV C (n := 1) (ci := 10) [.int (2 : Int32)] [] (m_X11_found a0 (2 : Int32) o12.2) dX11_plan_62 gX11_plan_X11_found rfl ⟨rfl, rfl⟩ (by decide +kernel) ⟨by decide, by decide⟩ ⟨by decide, by decide⟩ rfl (by decide) rfl rfl (by first | exact Nat.le_of_ble_eq_true rfl | simp [va_rf_cat, vi_cat, vl_cat]) (fun o14 eo14 => ?_)
          show G Γ cvI 5 0 0 65 [(3, va_rf v7), (0, va_rf a0), (1, .int x1), (2, .int x2)] [.int o14.1] o14.2 _
          exact g_iret C dX11_plan_65 ⟨by decide, by decide⟩
        · refine g_aload_n C dX11_plan_66 rfl 1 rfl ?_
          refine g_getR C (ci := 10) (k := 1) dX11_plan_67 rfl (by decide) (by decide) (by decide) ulX11_plan_X11 flX11_plan_18 rfl (fun v15 ev15 => ?_)
          refine g_aload_n C dX11_plan_70 rfl 0 rfl ?_
          refine g_iload_n C dX11_plan_71 rfl 3 rfl ?_
          refine g_callV C (n := 2) (ci := 8) [va_rf v7, .int x2] [] (m_X9_isPlan v15 v7 x2 o12.2) dX11_plan_72 gX11_plan_X9_isPlan rfl ⟨rfl, rfl⟩ (by decide +kernel) ⟨by decide, by decide⟩ ⟨by decide, by decide⟩ rfl (by decide) rfl rfl (by first | exact Nat.le_of_ble_eq_true rfl | simp [va_rf_cat, vi_cat, vl_cat]) (fun o16 eo16 => ?_)
          show G Γ cvI 5 0 0 75 [(3, va_rf v7), (0, va_rf a0), (1, .int x1), (2, .int x2)] [.int o16.1] o16.2 _
          refine g_if_ne C (tgt := 81) dX11_plan_75 (by decide) (fun h17 => ?_) (fun h17 => ?_)
          · refine g_ldc C (v := (-1000001 : Int32)) dX11_plan_78 (by decide +kernel) ?_
            exact g_iret C dX11_plan_80 ⟨by decide, by decide⟩
          · refine g_iconst C (v := (0 : Int32)) dX11_plan_81 (by decide) ?_
            refine g_istore C (i := 4) (lv2 := [(4, .int (0 : Int32)), (3, va_rf v7), (0, va_rf a0), (1, .int x1), (2, .int x2)]) dX11_plan_82 (by decide) (by first | rfl | simp [va_rf_cat, vi_cat, vl_cat]) ?_
            exact g_sub (lv2 := [(0, va_rf a0), (2, .int x2), (3, va_rf v7), (4, .int (0 : Int32))]) [2, 4, 1, 0] rfl (t_X11_plan_84 C FU a0 x2 v7 (0 : Int32) o16.2)
      · refine g_aload_n C dX11_plan_37 rfl 1 rfl ?_
        refine g_iconst C (v := (1 : Int32)) dX11_plan_38 (by decide) ?_
        refine g_callV C (n := 1) (ci := 10) [.int (1 : Int32)] [] (m_X11_found a0 (1 : Int32) o8.2) dX11_plan_39 gX11_plan_X11_found rfl ⟨rfl, rfl⟩ (by decide +kernel) ⟨by decide, by decide⟩ ⟨by decide, by decide⟩ rfl (by decide) rfl rfl (by first | exact Nat.le_of_ble_eq_true rfl | simp [va_rf_cat, vi_cat, vl_cat]) (fun o18 eo18 => ?_)
        show G Γ cvI 5 0 0 42 [(3, va_rf v7), (0, va_rf a0), (1, .int x1), (2, .int x2)] [.int o18.1] o18.2 _
        exact g_iret C dX11_plan_42 ⟨by decide, by decide⟩
abbrev rmX11_best : Room := { frames := 6, cells := 0, slots := 0, locals := 151 }
theorem flX11_best_18 : Cond.fieldLink RX11 18 "LightLines" "strokes" "LLightLines$Strokes;" ∈ wsX11_best := by decide +kernel
theorem flX11_best_25 : Cond.fieldLink RX11 25 "LightLines" "search" "LLightLines$PlanSearch;" ∈ wsX11_best := by decide +kernel
theorem flX11_best_32 : Cond.fieldLink RX11 32 "LightLines" "show" "LLightLines$Show;" ∈ wsX11_best := by decide +kernel
theorem flX11_best_100 : Cond.fieldLink RX11 100 "LightLines$Strokes" "held" "I" ∈ wsX11_best := by decide +kernel
set_option maxRecDepth 100000 in
theorem ulX11_best_X11 : ∀ w ∈ u_ws RX11 TX11 7, w ∈ wsX11_best := by decide +kernel
set_option maxRecDepth 100000 in
theorem ulX11_best_X9 : ∀ w ∈ u_ws RX9 TX9 4, w ∈ wsX11_best := by decide +kernel
set_option maxHeartbeats 4000000 in
set_option maxRecDepth 100000 in
theorem m_X11_best (a0 : Option Nat) (S : St) : ∀ l D cy H0 o, f_X11_best a0 S = some o → Met l yX11_best wsX11_best rmX11_best (Pq D cy H0 [va_rf a0] S) (Qx D cy H0 (cvI o)) 0 0 (fun q => H0.size ≤ q) := by
  refine met_of (cc := cX11_best) (maxL := 1) (ret := (some .int)) [va_rf a0] [(0, va_rf a0)] (by decide) rfl rfl (by simp [lg_sl, va_rf_cat, vi_cat, vl_cat]) (by simp [lv_args, va_rf_cat, vi_cat, vl_cat]) (fun Γ C => ?_)
  unfold f_X11_best
  refine g_aload_n C dX11_best_0 rfl 0 rfl ?_
  refine g_getR C (ci := 10) (k := 1) dX11_best_1 rfl (by decide) (by decide) (by decide) ulX11_best_X11 flX11_best_18 rfl (fun v1 ev1 => ?_)
  refine g_getI C (ci := 8) (k := 3) dX11_best_4 rfl (by decide) (by decide) (by decide) ulX11_best_X9 flX11_best_100 rfl (fun v2 ev2 => ?_)
  refine g_if_ne C (tgt := 13) dX11_best_7 (by decide) (fun h3 => ?_) (fun h3 => ?_)
  · refine g_ldc C (v := (-1000002 : Int32)) dX11_best_10 (by decide +kernel) ?_
    exact g_iret C dX11_best_12 ⟨by decide, by decide⟩
  · refine g_aload_n C dX11_best_13 rfl 0 rfl ?_
    refine g_getR C (ci := 10) (k := 2) dX11_best_14 rfl (by decide) (by decide) (by decide) ulX11_best_X11 flX11_best_25 rfl (fun v4 ev4 => ?_)
    refine g_aload_n C dX11_best_17 rfl 0 rfl ?_
    refine g_getR C (ci := 10) (k := 1) dX11_best_18 rfl (by decide) (by decide) (by decide) ulX11_best_X11 flX11_best_18 rfl (fun v5 ev5 => ?_)
    refine g_callV C (n := 1) (ci := 4) [va_rf v5] [] (m_X4_putBest v4 v5 S) dX11_best_21 gX11_best_X4_putBest rfl ⟨rfl, rfl⟩ (by decide +kernel) ⟨by decide, by decide⟩ ⟨by decide, by decide⟩ rfl (by decide) rfl rfl (by first | exact Nat.le_of_ble_eq_true rfl | simp [va_rf_cat, vi_cat, vl_cat]) (fun o6 eo6 => ?_)
    show G Γ cvI 1 0 0 24 [(0, va_rf a0)] [] o6 _
    refine g_aload_n C dX11_best_24 rfl 0 rfl ?_
    refine g_getR C (ci := 10) (k := 3) dX11_best_25 rfl (by decide) (by decide) (by decide) ulX11_best_X11 flX11_best_32 rfl (fun v7 ev7 => ?_)
    refine g_callV C (n := 0) (ci := 6) [] [] (m_X6_pathIsStale v7 o6) dX11_best_28 gX11_best_X6_pathIsStale rfl ⟨rfl, rfl⟩ (by decide +kernel) ⟨by decide, by decide⟩ ⟨by decide, by decide⟩ rfl (by decide) rfl rfl (by first | exact Nat.le_of_ble_eq_true rfl | simp [va_rf_cat, vi_cat, vl_cat]) (fun o8 eo8 => ?_)
    show G Γ cvI 1 0 0 31 [(0, va_rf a0)] [] o8 _
    refine g_aload_n C dX11_best_31 rfl 0 rfl ?_
    refine g_getR C (ci := 10) (k := 1) dX11_best_32 rfl (by decide) (by decide) (by decide) ulX11_best_X11 flX11_best_18 rfl (fun v9 ev9 => ?_)
    refine g_callV C (n := 0) (ci := 8) [] [] (m_X9_darkWay v9 o8) dX11_best_35 gX11_best_X9_darkWay rfl ⟨rfl, rfl⟩ (by decide +kernel) ⟨by decide, by decide⟩ ⟨by decide, by decide⟩ rfl (by decide) rfl rfl (by first | exact Nat.le_of_ble_eq_true rfl | simp [va_rf_cat, vi_cat, vl_cat]) (fun o10 eo10 => ?_)
    show G Γ cvI 1 0 0 38 [(0, va_rf a0)] [.int o10.1] o10.2 _
    exact g_iret C dX11_best_38 ⟨by decide, by decide⟩
abbrev rmX11_order : Room := { frames := 1, cells := 0, slots := 0, locals := 22 }
theorem flX11_order_18 : Cond.fieldLink RX11 18 "LightLines" "strokes" "LLightLines$Strokes;" ∈ wsX11_order := by decide +kernel
theorem flX11_order_100 : Cond.fieldLink RX11 100 "LightLines$Strokes" "held" "I" ∈ wsX11_order := by decide +kernel
theorem flX11_order_154 : Cond.fieldLink RX11 154 "LightLines$Strokes" "order" "[I" ∈ wsX11_order := by decide +kernel
theorem flX11_order_157 : Cond.fieldLink RX11 157 "LightLines$Strokes" "directions" "[I" ∈ wsX11_order := by decide +kernel
set_option maxRecDepth 100000 in
theorem ulX11_order_X11 : ∀ w ∈ u_ws RX11 TX11 7, w ∈ wsX11_order := by decide +kernel
set_option maxRecDepth 100000 in
theorem ulX11_order_X9 : ∀ w ∈ u_ws RX9 TX9 4, w ∈ wsX11_order := by decide +kernel
set_option maxHeartbeats 4000000 in
set_option maxRecDepth 100000 in
theorem m_X11_order (a0 : Option Nat) (x1 : Int32) (x2 : Int32) (S : St) : ∀ l D cy H0 o, f_X11_order a0 x1 x2 S = some o → Met l yX11_order wsX11_order rmX11_order (Pq D cy H0 [va_rf a0, .int x1, .int x2] S) (Qx D cy H0 (cvI o)) 0 0 (fun q => H0.size ≤ q) := by
  refine met_of (cc := cX11_order) (maxL := 3) (ret := (some .int)) [va_rf a0, .int x1, .int x2] [(0, va_rf a0), (1, .int x1), (2, .int x2)] (by decide) rfl rfl (by simp [lg_sl, va_rf_cat, vi_cat, vl_cat]) (by simp [lv_args, va_rf_cat, vi_cat, vl_cat]) (fun Γ C => ?_)
  unfold f_X11_order
  refine g_iload_n C dX11_order_0 rfl 2 rfl ?_
  refine g_iconst C (v := (0 : Int32)) dX11_order_1 (by decide) ?_
  refine g_iconst C (v := (1 : Int32)) dX11_order_2 (by decide) ?_
  refine g_callS C (n := 3) [.int x2, .int (0 : Int32), .int (1 : Int32)] [] (m_X11_isWithin x2 (0 : Int32) (1 : Int32) S) dX11_order_3 gX11_order_X11_isWithin rfl ⟨rfl, rfl⟩ (by decide +kernel) ⟨by decide, by decide⟩ ⟨by decide, by decide⟩ rfl rfl (by first | exact Nat.le_of_ble_eq_true rfl | simp [va_rf_cat, vi_cat, vl_cat]) (fun o1 eo1 => ?_)
  show G Γ cvI 3 0 0 6 [(0, va_rf a0), (1, .int x1), (2, .int x2)] [.int o1.1] o1.2 _
  refine g_if_ne C (tgt := 12) dX11_order_6 (by decide) (fun h2 => ?_) (fun h2 => ?_)
  · refine g_ldc C (v := (-1000001 : Int32)) dX11_order_9 (by decide +kernel) ?_
    exact g_iret C dX11_order_11 ⟨by decide, by decide⟩
  · refine g_iload_n C dX11_order_12 rfl 1 rfl ?_
    refine g_iconst C (v := (0 : Int32)) dX11_order_13 (by decide) ?_
    refine g_aload_n C dX11_order_14 rfl 0 rfl ?_
    refine g_getR C (ci := 10) (k := 1) dX11_order_15 rfl (by decide) (by decide) (by decide) ulX11_order_X11 flX11_order_18 rfl (fun v3 ev3 => ?_)
    refine g_getI C (ci := 8) (k := 3) dX11_order_18 rfl (by decide) (by decide) (by decide) ulX11_order_X9 flX11_order_100 rfl (fun v4 ev4 => ?_)
    refine g_iconst C (v := (1 : Int32)) dX11_order_21 (by decide) ?_
    refine g_isub C dX11_order_22 ?_
    refine g_callS C (n := 3) [.int x1, .int (0 : Int32), .int (v4 - (1 : Int32))] [] (m_X11_isWithin x1 (0 : Int32) (v4 - (1 : Int32)) o1.2) dX11_order_23 gX11_order_X11_isWithin rfl ⟨rfl, rfl⟩ (by decide +kernel) ⟨by decide, by decide⟩ ⟨by decide, by decide⟩ rfl rfl (by first | exact Nat.le_of_ble_eq_true rfl | simp [va_rf_cat, vi_cat, vl_cat]) (fun o5 eo5 => ?_)
    show G Γ cvI 3 0 0 26 [(0, va_rf a0), (1, .int x1), (2, .int x2)] [.int o5.1] o5.2 _
    refine g_if_ne C (tgt := 32) dX11_order_26 (by decide) (fun h6 => ?_) (fun h6 => ?_)
    · refine g_ldc C (v := (-1000000 : Int32)) dX11_order_29 (by decide +kernel) ?_
      exact g_iret C dX11_order_31 ⟨by decide, by decide⟩
    · refine g_iload_n C dX11_order_32 rfl 2 rfl ?_
      refine g_if_ne C (tgt := 48) dX11_order_33 (by decide) (fun h7 => ?_) (fun h7 => ?_)
      · refine g_aload_n C dX11_order_36 rfl 0 rfl ?_
        refine g_getR C (ci := 10) (k := 1) dX11_order_37 rfl (by decide) (by decide) (by decide) ulX11_order_X11 flX11_order_18 rfl (fun v8 ev8 => ?_)
        refine g_getR C (ci := 8) (k := 1) dX11_order_40 rfl (by decide) (by decide) (by decide) ulX11_order_X9 flX11_order_154 rfl (fun v9 ev9 => ?_)
        refine g_iload_n C dX11_order_43 rfl 1 rfl ?_
        refine g_ild C dX11_order_44 (fun v10 ev10 => ?_)
        refine g_goto C (tgt := 57) dX11_order_45 (by decide) ?_
        exact g_iret C dX11_order_57 ⟨by decide, by decide⟩
      · refine g_aload_n C dX11_order_48 rfl 0 rfl ?_
        refine g_getR C (ci := 10) (k := 1) dX11_order_49 rfl (by decide) (by decide) (by decide) ulX11_order_X11 flX11_order_18 rfl (fun v11 ev11 => ?_)
        refine g_getR C (ci := 8) (k := 2) dX11_order_52 rfl (by decide) (by decide) (by decide) ulX11_order_X9 flX11_order_157 rfl (fun v12 ev12 => ?_)
        refine g_iload_n C dX11_order_55 rfl 1 rfl ?_
        refine g_ild C dX11_order_56 (fun v13 ev13 => ?_)
        exact g_iret C dX11_order_57 ⟨by decide, by decide⟩
abbrev rmX11_isZone : Room := { frames := 1, cells := 0, slots := 0, locals := 22 }
set_option maxHeartbeats 4000000 in
set_option maxRecDepth 100000 in
theorem m_X11_isZone (x0 : Int32) (S : St) : ∀ l D cy H0 o, f_X11_isZone x0 S = some o → Met l yX11_isZone wsX11_isZone rmX11_isZone (Pq D cy H0 [.int x0] S) (Qx D cy H0 (cvI o)) 0 0 (fun q => H0.size ≤ q) := by
  refine met_of (cc := cX11_isZone) (maxL := 1) (ret := (some .boolean)) [.int x0] [(0, .int x0)] (by decide) rfl rfl (by simp [lg_sl, va_rf_cat, vi_cat, vl_cat]) (by simp [lv_args, va_rf_cat, vi_cat, vl_cat]) (fun Γ C => ?_)
  unfold f_X11_isZone
  refine g_iload_n C dX11_isZone_0 rfl 0 rfl ?_
  refine g_iconst C (v := (0 : Int32)) dX11_isZone_1 (by decide) ?_
  refine g_iconst C (v := (3 : Int32)) dX11_isZone_2 (by decide) ?_
  refine g_callS C (n := 3) [.int x0, .int (0 : Int32), .int (3 : Int32)] [] (m_X11_isWithin x0 (0 : Int32) (3 : Int32) S) dX11_isZone_3 gX11_isZone_X11_isWithin rfl ⟨rfl, rfl⟩ (by decide +kernel) ⟨by decide, by decide⟩ ⟨by decide, by decide⟩ rfl rfl (by first | exact Nat.le_of_ble_eq_true rfl | simp [va_rf_cat, vi_cat, vl_cat]) (fun o1 eo1 => ?_)
  show G Γ cvI 1 0 0 6 [(0, .int x0)] [.int o1.1] o1.2 _
  exact g_zret C dX11_isZone_6 ⟨by decide, by decide⟩
abbrev rmX11_zone : Room := { frames := 3, cells := 0, slots := 0, locals := 70 }
theorem flX11_zone_32 : Cond.fieldLink RX11 32 "LightLines" "show" "LLightLines$Show;" ∈ wsX11_zone := by decide +kernel
set_option maxRecDepth 100000 in
theorem ulX11_zone_X11 : ∀ w ∈ u_ws RX11 TX11 7, w ∈ wsX11_zone := by decide +kernel
set_option maxHeartbeats 4000000 in
set_option maxRecDepth 100000 in
theorem m_X11_zone (a0 : Option Nat) (x1 : Int32) (x2 : Int32) (x3 : Int32) (x4 : Int32) (x5 : Int32) (S : St) : ∀ l D cy H0 o, f_X11_zone a0 x1 x2 x3 x4 x5 S = some o → Met l yX11_zone wsX11_zone rmX11_zone (Pq D cy H0 [va_rf a0, .int x1, .int x2, .int x3, .int x4, .int x5] S) (Qx D cy H0 (cvI o)) 0 0 (fun q => H0.size ≤ q) := by
  refine met_of (cc := cX11_zone) (maxL := 6) (ret := (some .int)) [va_rf a0, .int x1, .int x2, .int x3, .int x4, .int x5] [(0, va_rf a0), (1, .int x1), (2, .int x2), (3, .int x3), (4, .int x4), (5, .int x5)] (by decide) rfl rfl (by simp [lg_sl, va_rf_cat, vi_cat, vl_cat]) (by simp [lv_args, va_rf_cat, vi_cat, vl_cat]) (fun Γ C => ?_)
  unfold f_X11_zone
  refine g_iload_n C dX11_zone_0 rfl 1 rfl ?_
  refine g_callS C (n := 1) [.int x1] [] (m_X11_isZone x1 S) dX11_zone_1 gX11_zone_X11_isZone rfl ⟨rfl, rfl⟩ (by decide +kernel) ⟨by decide, by decide⟩ ⟨by decide, by decide⟩ rfl rfl (by first | exact Nat.le_of_ble_eq_true rfl | simp [va_rf_cat, vi_cat, vl_cat]) (fun o1 eo1 => ?_)
  show G Γ cvI 6 0 0 4 [(0, va_rf a0), (1, .int x1), (2, .int x2), (3, .int x3), (4, .int x4), (5, .int x5)] [.int o1.1] o1.2 _
  refine g_if_eq C (tgt := 43) dX11_zone_4 (by decide) (fun h2 => ?_) (fun h2 => ?_)
  · refine g_ldc C (v := (-1000001 : Int32)) dX11_zone_43 (by decide +kernel) ?_
    exact g_iret C dX11_zone_45 ⟨by decide, by decide⟩
  · refine g_iload_n C dX11_zone_7 rfl 2 rfl ?_
    refine g_if_lt C (tgt := 43) dX11_zone_8 (by decide) (fun h3 => ?_) (fun h3 => ?_)
    · refine g_ldc C (v := (-1000001 : Int32)) dX11_zone_43 (by decide +kernel) ?_
      exact g_iret C dX11_zone_45 ⟨by decide, by decide⟩
    · refine g_iload_n C dX11_zone_11 rfl 2 rfl ?_
      refine g_iload C dX11_zone_12 4 rfl ?_
      refine g_icmp_gt C (tgt := 43) dX11_zone_14 (by decide) (fun h4 => ?_) (fun h4 => ?_)
      · refine g_ldc C (v := (-1000001 : Int32)) dX11_zone_43 (by decide +kernel) ?_
        exact g_iret C dX11_zone_45 ⟨by decide, by decide⟩
      · refine g_iload C dX11_zone_17 4 rfl ?_
        refine g_sipush C (v := (1000 : Int32)) dX11_zone_19 (by decide) ?_
        refine g_icmp_gt C (tgt := 43) dX11_zone_22 (by decide) (fun h5 => ?_) (fun h5 => ?_)
        · refine g_ldc C (v := (-1000001 : Int32)) dX11_zone_43 (by decide +kernel) ?_
          exact g_iret C dX11_zone_45 ⟨by decide, by decide⟩
        · refine g_iload_n C dX11_zone_25 rfl 3 rfl ?_
          refine g_if_lt C (tgt := 43) dX11_zone_26 (by decide) (fun h6 => ?_) (fun h6 => ?_)
          · refine g_ldc C (v := (-1000001 : Int32)) dX11_zone_43 (by decide +kernel) ?_
            exact g_iret C dX11_zone_45 ⟨by decide, by decide⟩
          · refine g_iload_n C dX11_zone_29 rfl 3 rfl ?_
            refine g_iload C dX11_zone_30 5 rfl ?_
            refine g_icmp_gt C (tgt := 43) dX11_zone_32 (by decide) (fun h7 => ?_) (fun h7 => ?_)
            · refine g_ldc C (v := (-1000001 : Int32)) dX11_zone_43 (by decide +kernel) ?_
              exact g_iret C dX11_zone_45 ⟨by decide, by decide⟩
            · refine g_iload C dX11_zone_35 5 rfl ?_
              refine g_sipush C (v := (1000 : Int32)) dX11_zone_37 (by decide) ?_
              refine g_icmp_le C (tgt := 46) dX11_zone_40 (by decide) (fun h8 => ?_) (fun h8 => ?_)
              · refine g_aload_n C dX11_zone_46 rfl 0 rfl ?_
                refine g_getR C (ci := 10) (k := 3) dX11_zone_47 rfl (by decide) (by decide) (by decide) ulX11_zone_X11 flX11_zone_32 rfl (fun v9 ev9 => ?_)
                refine g_iload_n C dX11_zone_50 rfl 1 rfl ?_
                refine g_iload_n C dX11_zone_51 rfl 2 rfl ?_
                refine g_iload_n C dX11_zone_52 rfl 3 rfl ?_
                refine g_iload C dX11_zone_53 4 rfl ?_
                refine g_iload C dX11_zone_55 5 rfl ?_
                refine g_callV C (n := 5) (ci := 6) [.int x1, .int x2, .int x3, .int x4, .int x5] [] (m_X6_shutZone v9 x1 x2 x3 x4 x5 o1.2) dX11_zone_57 gX11_zone_X6_shutZone rfl ⟨rfl, rfl⟩ (by decide +kernel) ⟨by decide, by decide⟩ ⟨by decide, by decide⟩ rfl (by decide) rfl rfl (by first | exact Nat.le_of_ble_eq_true rfl | simp [va_rf_cat, vi_cat, vl_cat]) (fun o10 eo10 => ?_)
                show G Γ cvI 6 0 0 60 [(0, va_rf a0), (1, .int x1), (2, .int x2), (3, .int x3), (4, .int x4), (5, .int x5)] [] o10 _
                refine g_iconst C (v := (1 : Int32)) dX11_zone_60 (by decide) ?_
                exact g_iret C dX11_zone_61 ⟨by decide, by decide⟩
              · refine g_ldc C (v := (-1000001 : Int32)) dX11_zone_43 (by decide +kernel) ?_
                exact g_iret C dX11_zone_45 ⟨by decide, by decide⟩
