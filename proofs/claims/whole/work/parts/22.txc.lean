abbrev rmX8_sizeAsked : Room := { frames := 1, cells := 0, slots := 0, locals := 21 }
set_option maxHeartbeats 4000000 in
set_option maxRecDepth 100000 in
theorem m_X8_sizeAsked (a0 : Option Nat) (a1 : Option Nat) (S : St) : ∀ l D cy H0 o, f_X8_sizeAsked a0 a1 S = some o → Met l yX8_sizeAsked wsX8_sizeAsked rmX8_sizeAsked (Pq D cy H0 [va_rf a0, va_rf a1] S) (Qx D cy H0 (cvI o)) 0 0 (fun q => H0.size ≤ q) := by
  refine met_of (cc := cX8_sizeAsked) (maxL := 2) (ret := (some .int)) [va_rf a0, va_rf a1] [(0, va_rf a0), (1, va_rf a1)] (by decide) rfl rfl (by simp [lg_sl, va_rf_cat, vi_cat, vl_cat]) (by simp [lv_args, va_rf_cat, vi_cat, vl_cat]) (fun Γ C => ?_)
  unfold f_X8_sizeAsked
  refine g_aload_n C dX8_sizeAsked_0 rfl 1 rfl ?_
  refine g_bipush C (v := (10 : Int32)) dX8_sizeAsked_1 (by decide) ?_
  refine g_callV C (n := 1) (ci := 9) [.int (10 : Int32)] [] (m_X10_leave a1 (10 : Int32) S) dX8_sizeAsked_3 gX8_sizeAsked_X10_leave rfl ⟨rfl, rfl⟩ (by decide +kernel) ⟨by decide, by decide⟩ ⟨by decide, by decide⟩ rfl (by decide) rfl rfl (by first | exact Nat.le_of_ble_eq_true rfl | simp [va_rf_cat, vi_cat, vl_cat]) (fun o1 eo1 => ?_)
  show G Γ cvI 2 0 0 6 [(0, va_rf a0), (1, va_rf a1)] [] o1 _
  refine g_aload_n C dX8_sizeAsked_6 rfl 0 rfl ?_
  refine g_call3 C (n := 0) [] [] (m_X8_points a0 o1) (m_X8_points a0 o1) (m_X8_points a0 o1) dX8_sizeAsked_7 (fun R s args ht hR => va_cwU 0 ht gX8_sizeAsked_X8_points_u18X1 rfl rfl rfl rfl (by decide +kernel) (by subst hR; exact ⟨by decide, by decide⟩)) (fun R s args ht hR => va_cwU 0 ht gX8_sizeAsked_X8_points_u18X2 rfl rfl rfl rfl (by decide +kernel) (by subst hR; exact ⟨by decide, by decide⟩)) (fun R s args ht hR => va_cwU 0 ht gX8_sizeAsked_X8_points_u18X7 rfl rfl rfl rfl (by decide +kernel) (by subst hR; exact ⟨by decide, by decide⟩)) ⟨by decide, by decide⟩ rfl rfl (by first | exact Nat.le_of_ble_eq_true rfl | simp [va_rf_cat, vi_cat, vl_cat]) (fun o2 eo2 => ?_)
  show G Γ cvI 2 0 0 10 [(0, va_rf a0), (1, va_rf a1)] [.int o2.1] o2.2 _
  exact g_iret C dX8_sizeAsked_10 ⟨by decide, by decide⟩
abbrev rmX8_xAt : Room := { frames := 0, cells := 0, slots := 0, locals := 0 }
theorem flX8_xAt_9 : Cond.fieldLink RX8 9 "LightLines$Stroke" "xs" "[I" ∈ wsX8_xAt := by decide +kernel
set_option maxRecDepth 100000 in
theorem ulX8_xAt_X1 : ∀ w ∈ u_ws RX1 TX1 2, w ∈ wsX8_xAt := by decide +kernel
set_option maxRecDepth 100000 in
theorem ulX8_xAt_X2 : ∀ w ∈ u_ws RX2 TX2 2, w ∈ wsX8_xAt := by decide +kernel
set_option maxRecDepth 100000 in
theorem ulX8_xAt_X7 : ∀ w ∈ u_ws RX7 TX7 2, w ∈ wsX8_xAt := by decide +kernel
set_option maxHeartbeats 4000000 in
set_option maxRecDepth 100000 in
theorem m_X8_xAt (a0 : Option Nat) (x1 : Int32) (S : St) : ∀ l D cy H0 o, f_X8_xAt a0 x1 S = some o → Met l yX8_xAt wsX8_xAt rmX8_xAt (Pq D cy H0 [va_rf a0, .int x1] S) (Qx D cy H0 (cvI o)) 0 0 (fun q => H0.size ≤ q) := by
  refine met_of (cc := cX8_xAt) (maxL := 2) (ret := (some .int)) [va_rf a0, .int x1] [(0, va_rf a0), (1, .int x1)] (by decide) rfl rfl (by simp [lg_sl, va_rf_cat, vi_cat, vl_cat]) (by simp [lv_args, va_rf_cat, vi_cat, vl_cat]) (fun Γ C => ?_)
  unfold f_X8_xAt
  refine g_iload_n C dX8_xAt_0 rfl 1 rfl ?_
  refine g_if_lt C (tgt := 22) dX8_xAt_1 (by decide) (fun h1 => ?_) (fun h1 => ?_)
  · refine g_iconst C (v := (0 : Int32)) dX8_xAt_22 (by decide) ?_
    exact g_iret C dX8_xAt_23 ⟨by decide, by decide⟩
  · refine g_iload_n C dX8_xAt_4 rfl 1 rfl ?_
    refine g_aload_n C dX8_xAt_5 rfl 0 rfl ?_
    refine g_getS C (k := 0) dX8_xAt_6 (by decide) ulX8_xAt_X1 ulX8_xAt_X2 ulX8_xAt_X7 flX8_xAt_9 flX8_xAt_9 flX8_xAt_9 rfl rfl rfl (fun v2 ev2 => ?_)
    refine g_len14 C dX8_xAt_9 (fun v3 ev3 => ?_)
    refine g_icmp_ge C (tgt := 22) dX8_xAt_10 (by decide) (fun h4 => ?_) (fun h4 => ?_)
    · refine g_iconst C (v := (0 : Int32)) dX8_xAt_22 (by decide) ?_
      exact g_iret C dX8_xAt_23 ⟨by decide, by decide⟩
    · refine g_aload_n C dX8_xAt_13 rfl 0 rfl ?_
      refine g_getS C (k := 0) dX8_xAt_14 (by decide) ulX8_xAt_X1 ulX8_xAt_X2 ulX8_xAt_X7 flX8_xAt_9 flX8_xAt_9 flX8_xAt_9 rfl rfl rfl (fun v5 ev5 => ?_)
      refine g_iload_n C dX8_xAt_17 rfl 1 rfl ?_
      refine g_ild C dX8_xAt_18 (fun v6 ev6 => ?_)
      refine g_goto C (tgt := 23) dX8_xAt_19 (by decide) ?_
      exact g_iret C dX8_xAt_23 ⟨by decide, by decide⟩
abbrev rmX8_yAt : Room := { frames := 0, cells := 0, slots := 0, locals := 0 }
theorem flX8_yAt_15 : Cond.fieldLink RX8 15 "LightLines$Stroke" "ys" "[I" ∈ wsX8_yAt := by decide +kernel
set_option maxRecDepth 100000 in
theorem ulX8_yAt_X1 : ∀ w ∈ u_ws RX1 TX1 2, w ∈ wsX8_yAt := by decide +kernel
set_option maxRecDepth 100000 in
theorem ulX8_yAt_X2 : ∀ w ∈ u_ws RX2 TX2 2, w ∈ wsX8_yAt := by decide +kernel
set_option maxRecDepth 100000 in
theorem ulX8_yAt_X7 : ∀ w ∈ u_ws RX7 TX7 2, w ∈ wsX8_yAt := by decide +kernel
set_option maxHeartbeats 4000000 in
set_option maxRecDepth 100000 in
theorem m_X8_yAt (a0 : Option Nat) (x1 : Int32) (S : St) : ∀ l D cy H0 o, f_X8_yAt a0 x1 S = some o → Met l yX8_yAt wsX8_yAt rmX8_yAt (Pq D cy H0 [va_rf a0, .int x1] S) (Qx D cy H0 (cvI o)) 0 0 (fun q => H0.size ≤ q) := by
  refine met_of (cc := cX8_yAt) (maxL := 2) (ret := (some .int)) [va_rf a0, .int x1] [(0, va_rf a0), (1, .int x1)] (by decide) rfl rfl (by simp [lg_sl, va_rf_cat, vi_cat, vl_cat]) (by simp [lv_args, va_rf_cat, vi_cat, vl_cat]) (fun Γ C => ?_)
  unfold f_X8_yAt
  refine g_iload_n C dX8_yAt_0 rfl 1 rfl ?_
  refine g_if_lt C (tgt := 22) dX8_yAt_1 (by decide) (fun h1 => ?_) (fun h1 => ?_)
  · refine g_iconst C (v := (0 : Int32)) dX8_yAt_22 (by decide) ?_
    exact g_iret C dX8_yAt_23 ⟨by decide, by decide⟩
  · refine g_iload_n C dX8_yAt_4 rfl 1 rfl ?_
    refine g_aload_n C dX8_yAt_5 rfl 0 rfl ?_
    refine g_getS C (k := 1) dX8_yAt_6 (by decide) ulX8_yAt_X1 ulX8_yAt_X2 ulX8_yAt_X7 flX8_yAt_15 flX8_yAt_15 flX8_yAt_15 rfl rfl rfl (fun v2 ev2 => ?_)
    refine g_len14 C dX8_yAt_9 (fun v3 ev3 => ?_)
    refine g_icmp_ge C (tgt := 22) dX8_yAt_10 (by decide) (fun h4 => ?_) (fun h4 => ?_)
    · refine g_iconst C (v := (0 : Int32)) dX8_yAt_22 (by decide) ?_
      exact g_iret C dX8_yAt_23 ⟨by decide, by decide⟩
    · refine g_aload_n C dX8_yAt_13 rfl 0 rfl ?_
      refine g_getS C (k := 1) dX8_yAt_14 (by decide) ulX8_yAt_X1 ulX8_yAt_X2 ulX8_yAt_X7 flX8_yAt_15 flX8_yAt_15 flX8_yAt_15 rfl rfl rfl (fun v5 ev5 => ?_)
      refine g_iload_n C dX8_yAt_17 rfl 1 rfl ?_
      refine g_ild C dX8_yAt_18 (fun v6 ev6 => ?_)
      refine g_goto C (tgt := 23) dX8_yAt_19 (by decide) ?_
      exact g_iret C dX8_yAt_23 ⟨by decide, by decide⟩
abbrev rmX1_sizeAsked : Room := { frames := 2, cells := 0, slots := 0, locals := 47 }
set_option maxHeartbeats 4000000 in
set_option maxRecDepth 100000 in
theorem t_X1_sizeAsked_58 {Γ : Cx} (C : CF Γ cX1_sizeAsked 4 (some .int) wsX1_sizeAsked RX1 rmX1_sizeAsked 0 0) (x2 : Int32) (S : St) : G Γ cvI 4 0 0 58 [(2, .int x2)] [] S (b_X1_sizeAsked_58  x2 S) := by
  unfold b_X1_sizeAsked_58
  refine g_iload_n C dX1_sizeAsked_58 rfl 0 rfl ?_
  exact g_iret C dX1_sizeAsked_59 ⟨by decide, by decide⟩
set_option maxHeartbeats 4000000 in
set_option maxRecDepth 100000 in
theorem t_X1_sizeAsked_14 {Γ : Cx} (C : CF Γ cX1_sizeAsked 4 (some .int) wsX1_sizeAsked RX1 rmX1_sizeAsked 0 0) : ∀ (n : Nat) (a0 : Option Nat) (x2 : Int32) (x3 : Int32) (S : St), G Γ cvI 4 0 0 14 [(0, va_rf a0), (2, .int x2), (3, .int x3)] [] S (b_X1_sizeAsked_14  n a0 x2 x3 S) := by
  intro n
  induction n with
  | zero => intro a0 x2 x3 S; exact g_none
  | succ n ih =>
    intro a0 x2 x3 S
    rw [b_X1_sizeAsked_14]
    refine g_iload_n C dX1_sizeAsked_14 rfl 2 rfl ?_
    refine g_aload_n C dX1_sizeAsked_15 rfl 0 rfl ?_
    refine g_call2 C (n := 0) [] [.int x3] (m_X8_points a0 S) (m_X8_points a0 S) dX1_sizeAsked_16 (fun R s args ht hR => va_cwU 0 ht gX1_sizeAsked_X8_points_u17X1 rfl rfl rfl rfl (by decide +kernel) (by subst hR; exact ⟨by decide, by decide⟩)) (fun R s args ht hR => va_cwU 0 ht gX1_sizeAsked_X8_points_u17X2 rfl rfl rfl rfl (by decide +kernel) (by subst hR; exact ⟨by decide, by decide⟩)) ⟨by decide, by decide⟩ rfl rfl (by first | exact Nat.le_of_ble_eq_true rfl | simp [va_rf_cat, vi_cat, vl_cat]) (fun o1 eo1 => ?_)
    show G Γ cvI 4 0 0 19 [(0, va_rf a0), (2, .int x2), (3, .int x3)] [.int o1.1, .int x3] o1.2 _
    refine g_icmp_ge C (tgt := 58) dX1_sizeAsked_19 (by decide) (fun h2 => ?_) (fun h2 => ?_)
    · exact g_sub (lv2 := [(2, .int x2)]) [1] rfl (t_X1_sizeAsked_58 C x2 o1.2)
    · refine g_iload_n C dX1_sizeAsked_22 rfl 1 rfl ?_
      refine g_aload_n C dX1_sizeAsked_23 rfl 0 rfl ?_
      refine g_iload_n C dX1_sizeAsked_24 rfl 2 rfl ?_
      refine g_iconst C (v := (1 : Int32)) dX1_sizeAsked_25 (by decide) ?_
      refine g_isub C dX1_sizeAsked_26 ?_
      refine g_call2 C (n := 1) [.int (x3 - (1 : Int32))] [.int x2] (m_X8_xAt a0 (x3 - (1 : Int32)) o1.2) (m_X8_xAt a0 (x3 - (1 : Int32)) o1.2) dX1_sizeAsked_27 (fun R s args ht hR => va_cwU 1 ht gX1_sizeAsked_X8_xAt_u23X1 rfl rfl rfl rfl (by decide +kernel) (by subst hR; exact ⟨by decide, by decide⟩)) (fun R s args ht hR => va_cwU 1 ht gX1_sizeAsked_X8_xAt_u23X2 rfl rfl rfl rfl (by decide +kernel) (by subst hR; exact ⟨by decide, by decide⟩)) ⟨by decide, by decide⟩ rfl rfl (by first | exact Nat.le_of_ble_eq_true rfl | simp [va_rf_cat, vi_cat, vl_cat]) (fun o3 eo3 => ?_)
      show G Γ cvI 4 0 0 30 [(0, va_rf a0), (2, .int x2), (3, .int x3)] [.int o3.1, .int x2] o3.2 _
      refine g_aload_n C dX1_sizeAsked_30 rfl 0 rfl ?_
      refine g_iload_n C dX1_sizeAsked_31 rfl 2 rfl ?_
      refine g_iconst C (v := (1 : Int32)) dX1_sizeAsked_32 (by decide) ?_
      refine g_isub C dX1_sizeAsked_33 ?_
      refine g_call2 C (n := 1) [.int (x3 - (1 : Int32))] [.int o3.1, .int x2] (m_X8_yAt a0 (x3 - (1 : Int32)) o3.2) (m_X8_yAt a0 (x3 - (1 : Int32)) o3.2) dX1_sizeAsked_34 (fun R s args ht hR => va_cwU 1 ht gX1_sizeAsked_X8_yAt_u27X1 rfl rfl rfl rfl (by decide +kernel) (by subst hR; exact ⟨by decide, by decide⟩)) (fun R s args ht hR => va_cwU 1 ht gX1_sizeAsked_X8_yAt_u27X2 rfl rfl rfl rfl (by decide +kernel) (by subst hR; exact ⟨by decide, by decide⟩)) ⟨by decide, by decide⟩ rfl rfl (by first | exact Nat.le_of_ble_eq_true rfl | simp [va_rf_cat, vi_cat, vl_cat]) (fun o4 eo4 => ?_)
      show G Γ cvI 4 0 0 37 [(0, va_rf a0), (2, .int x2), (3, .int x3)] [.int o4.1, .int o3.1, .int x2] o4.2 _
      refine g_aload_n C dX1_sizeAsked_37 rfl 0 rfl ?_
      refine g_iload_n C dX1_sizeAsked_38 rfl 2 rfl ?_
      refine g_call2 C (n := 1) [.int x3] [.int o4.1, .int o3.1, .int x2] (m_X8_xAt a0 x3 o4.2) (m_X8_xAt a0 x3 o4.2) dX1_sizeAsked_39 (fun R s args ht hR => va_cwU 1 ht gX1_sizeAsked_X8_xAt_u23X1 rfl rfl rfl rfl (by decide +kernel) (by subst hR; exact ⟨by decide, by decide⟩)) (fun R s args ht hR => va_cwU 1 ht gX1_sizeAsked_X8_xAt_u23X2 rfl rfl rfl rfl (by decide +kernel) (by subst hR; exact ⟨by decide, by decide⟩)) ⟨by decide, by decide⟩ rfl rfl (by first | exact Nat.le_of_ble_eq_true rfl | simp [va_rf_cat, vi_cat, vl_cat]) (fun o5 eo5 => ?_)
      show G Γ cvI 4 0 0 42 [(0, va_rf a0), (2, .int x2), (3, .int x3)] [.int o5.1, .int o4.1, .int o3.1, .int x2] o5.2 _
      refine g_aload_n C dX1_sizeAsked_42 rfl 0 rfl ?_
      refine g_iload_n C dX1_sizeAsked_43 rfl 2 rfl ?_
      refine g_call2 C (n := 1) [.int x3] [.int o5.1, .int o4.1, .int o3.1, .int x2] (m_X8_yAt a0 x3 o5.2) (m_X8_yAt a0 x3 o5.2) dX1_sizeAsked_44 (fun R s args ht hR => va_cwU 1 ht gX1_sizeAsked_X8_yAt_u27X1 rfl rfl rfl rfl (by decide +kernel) (by subst hR; exact ⟨by decide, by decide⟩)) (fun R s args ht hR => va_cwU 1 ht gX1_sizeAsked_X8_yAt_u27X2 rfl rfl rfl rfl (by decide +kernel) (by subst hR; exact ⟨by decide, by decide⟩)) ⟨by decide, by decide⟩ rfl rfl (by first | exact Nat.le_of_ble_eq_true rfl | simp [va_rf_cat, vi_cat, vl_cat]) (fun o6 eo6 => ?_)
      show G Γ cvI 4 0 0 47 [(0, va_rf a0), (2, .int x2), (3, .int x3)] [.int o6.1, .int o5.1, .int o4.1, .int o3.1, .int x2] o6.2 _
      refine g_callSN C (n := 4) (host := "LightLines") [.int o3.1, .int o4.1, .int o5.1, .int o6.1] [.int x2] (m_X11_way o3.1 o4.1 o5.1 o6.1 o6.2) dX1_sizeAsked_47 gX1_sizeAsked_X11_way_n30 (by decide +kernel) (by decide +kernel) (by decide +kernel) rfl ⟨rfl, rfl⟩ (by decide +kernel) ⟨by decide, by decide⟩ ⟨by decide, by decide⟩ rfl rfl (by first | exact Nat.le_of_ble_eq_true rfl | simp [va_rf_cat, vi_cat, vl_cat]) (fun o7 eo7 => ?_)
      show G Γ cvI 4 0 0 50 [(0, va_rf a0), (2, .int x2), (3, .int x3)] [.int o7.1, .int x2] o7.2 _
      refine g_iadd C dX1_sizeAsked_50 ?_
      refine g_topi (fun y8 => ?_)
      refine g_istore_n C (i := 2) (lv2 := [(2, .int y8), (0, va_rf a0), (3, .int x3)]) dX1_sizeAsked_51 rfl (by decide) (by first | rfl | simp [va_rf_cat, vi_cat, vl_cat]) ?_
      refine g_iinc1 C dX1_sizeAsked_52 2 rfl (by decide) (by decide) (fun y9 => ?_)
      refine g_lveq (lv2 := [(3, .int y9), (2, .int y8), (0, va_rf a0)]) (by first | rfl | simp [va_rf_cat, vi_cat, vl_cat]) ?_
      refine g_goto C (tgt := 14) dX1_sizeAsked_55 (by decide) ?_
      exact g_sub (lv2 := [(0, va_rf a0), (2, .int y8), (3, .int y9)]) [2, 1, 0] rfl (ih a0 y8 y9 o7.2)
set_option maxHeartbeats 4000000 in
set_option maxRecDepth 100000 in
theorem m_X1_sizeAsked (a0 : Option Nat) (a1 : Option Nat) (S : St) : ∀ l D cy H0 o, f_X1_sizeAsked a0 a1 S = some o → Met l yX1_sizeAsked wsX1_sizeAsked rmX1_sizeAsked (Pq D cy H0 [va_rf a0, va_rf a1] S) (Qx D cy H0 (cvI o)) 0 0 (fun q => H0.size ≤ q) := by
  refine met_of (cc := cX1_sizeAsked) (maxL := 4) (ret := (some .int)) [va_rf a0, va_rf a1] [(0, va_rf a0), (1, va_rf a1)] (by decide) rfl rfl (by simp [lg_sl, va_rf_cat, vi_cat, vl_cat]) (by simp [lv_args, va_rf_cat, vi_cat, vl_cat]) (fun Γ C => ?_)
  unfold f_X1_sizeAsked
  refine g_aload_n C dX1_sizeAsked_0 rfl 1 rfl ?_
  refine g_bipush C (v := (11 : Int32)) dX1_sizeAsked_1 (by decide) ?_
  refine g_callV C (n := 1) (ci := 9) [.int (11 : Int32)] [] (m_X10_leave a1 (11 : Int32) S) dX1_sizeAsked_3 gX1_sizeAsked_X10_leave rfl ⟨rfl, rfl⟩ (by decide +kernel) ⟨by decide, by decide⟩ ⟨by decide, by decide⟩ rfl (by decide) rfl rfl (by first | exact Nat.le_of_ble_eq_true rfl | simp [va_rf_cat, vi_cat, vl_cat]) (fun o1 eo1 => ?_)
  show G Γ cvI 4 0 0 6 [(0, va_rf a0), (1, va_rf a1)] [] o1 _
  refine g_aload_n C dX1_sizeAsked_6 rfl 0 rfl ?_
  refine g_aload_n C dX1_sizeAsked_7 rfl 1 rfl ?_
  refine g_callSU2 C (n := 1) [va_rf a1] [] (m_X8_sizeAsked a0 a1 o1) dX1_sizeAsked_8 gX1_sizeAsked_X8_sizeAsked_s13 rfl ⟨rfl, rfl⟩ (by decide +kernel) ⟨by decide, by decide⟩ ⟨by decide, by decide⟩ rfl rfl (by first | exact Nat.le_of_ble_eq_true rfl | simp [va_rf_cat, vi_cat, vl_cat]) (fun o2 eo2 => ?_)
  show G Γ cvI 4 0 0 11 [(0, va_rf a0), (1, va_rf a1)] [.int o2.1] o2.2 _
  refine g_istore_n C (i := 2) (lv2 := [(2, .int o2.1), (0, va_rf a0), (1, va_rf a1)]) dX1_sizeAsked_11 rfl (by decide) (by first | rfl | simp [va_rf_cat, vi_cat, vl_cat]) ?_
  refine g_iconst C (v := (1 : Int32)) dX1_sizeAsked_12 (by decide) ?_
  refine g_istore_n C (i := 3) (lv2 := [(3, .int (1 : Int32)), (2, .int o2.1), (0, va_rf a0), (1, va_rf a1)]) dX1_sizeAsked_13 rfl (by decide) (by first | rfl | simp [va_rf_cat, vi_cat, vl_cat]) ?_
  exact g_sub (lv2 := [(0, va_rf a0), (2, .int o2.1), (3, .int (1 : Int32))]) [2, 1, 0] rfl (t_X1_sizeAsked_14 C FU a0 o2.1 (1 : Int32) o2.2)
abbrev rmX2_sizeAsked : Room := { frames := 3, cells := 0, slots := 0, locals := 70 }
set_option maxHeartbeats 4000000 in
set_option maxRecDepth 100000 in
theorem m_X2_sizeAsked (a0 : Option Nat) (a1 : Option Nat) (S : St) : ∀ l D cy H0 o, f_X2_sizeAsked a0 a1 S = some o → Met l yX2_sizeAsked wsX2_sizeAsked rmX2_sizeAsked (Pq D cy H0 [va_rf a0, va_rf a1] S) (Qx D cy H0 (cvI o)) 0 0 (fun q => H0.size ≤ q) := by
  refine met_of (cc := cX2_sizeAsked) (maxL := 2) (ret := (some .int)) [va_rf a0, va_rf a1] [(0, va_rf a0), (1, va_rf a1)] (by decide) rfl rfl (by simp [lg_sl, va_rf_cat, vi_cat, vl_cat]) (by simp [lv_args, va_rf_cat, vi_cat, vl_cat]) (fun Γ C => ?_)
  unfold f_X2_sizeAsked
  refine g_aload_n C dX2_sizeAsked_0 rfl 1 rfl ?_
  refine g_bipush C (v := (12 : Int32)) dX2_sizeAsked_1 (by decide) ?_
  refine g_callV C (n := 1) (ci := 9) [.int (12 : Int32)] [] (m_X10_leave a1 (12 : Int32) S) dX2_sizeAsked_3 gX2_sizeAsked_X10_leave rfl ⟨rfl, rfl⟩ (by decide +kernel) ⟨by decide, by decide⟩ ⟨by decide, by decide⟩ rfl (by decide) rfl rfl (by first | exact Nat.le_of_ble_eq_true rfl | simp [va_rf_cat, vi_cat, vl_cat]) (fun o1 eo1 => ?_)
  show G Γ cvI 2 0 0 6 [(0, va_rf a0), (1, va_rf a1)] [] o1 _
  refine g_iconst C (v := (2 : Int32)) dX2_sizeAsked_6 (by decide) ?_
  refine g_aload_n C dX2_sizeAsked_7 rfl 0 rfl ?_
  refine g_aload_n C dX2_sizeAsked_8 rfl 1 rfl ?_
  refine g_callSU C (n := 1) (ci := 2) [va_rf a1] [.int (2 : Int32)] (m_X1_sizeAsked a0 a1 o1) dX2_sizeAsked_9 gX2_sizeAsked_X1_sizeAsked_s13 rfl ⟨rfl, rfl⟩ (by decide +kernel) ⟨by decide, by decide⟩ ⟨by decide, by decide⟩ rfl (by decide) rfl rfl (by first | exact Nat.le_of_ble_eq_true rfl | simp [va_rf_cat, vi_cat, vl_cat]) (fun o2 eo2 => ?_)
  show G Γ cvI 2 0 0 12 [(0, va_rf a0), (1, va_rf a1)] [.int o2.1, .int (2 : Int32)] o2.2 _
  refine g_imul C dX2_sizeAsked_12 ?_
  exact g_iret C dX2_sizeAsked_13 ⟨by decide, by decide⟩
abbrev rmX7_sizeAsked : Room := { frames := 1, cells := 0, slots := 0, locals := 21 }
set_option maxHeartbeats 4000000 in
set_option maxRecDepth 100000 in
theorem m_X7_sizeAsked (a0 : Option Nat) (a1 : Option Nat) (S : St) : ∀ l D cy H0 o, f_X7_sizeAsked a0 a1 S = some o → Met l yX7_sizeAsked wsX7_sizeAsked rmX7_sizeAsked (Pq D cy H0 [va_rf a0, va_rf a1] S) (Qx D cy H0 (cvI o)) 0 0 (fun q => H0.size ≤ q) := by
  refine met_of (cc := cX7_sizeAsked) (maxL := 2) (ret := (some .int)) [va_rf a0, va_rf a1] [(0, va_rf a0), (1, va_rf a1)] (by decide) rfl rfl (by simp [lg_sl, va_rf_cat, vi_cat, vl_cat]) (by simp [lv_args, va_rf_cat, vi_cat, vl_cat]) (fun Γ C => ?_)
  unfold f_X7_sizeAsked
  refine g_aload_n C dX7_sizeAsked_0 rfl 1 rfl ?_
  refine g_bipush C (v := (13 : Int32)) dX7_sizeAsked_1 (by decide) ?_
  refine g_callV C (n := 1) (ci := 9) [.int (13 : Int32)] [] (m_X10_leave a1 (13 : Int32) S) dX7_sizeAsked_3 gX7_sizeAsked_X10_leave rfl ⟨rfl, rfl⟩ (by decide +kernel) ⟨by decide, by decide⟩ ⟨by decide, by decide⟩ rfl (by decide) rfl rfl (by first | exact Nat.le_of_ble_eq_true rfl | simp [va_rf_cat, vi_cat, vl_cat]) (fun o1 eo1 => ?_)
  show G Γ cvI 2 0 0 6 [(0, va_rf a0), (1, va_rf a1)] [] o1 _
  refine g_iconst C (v := (0 : Int32)) dX7_sizeAsked_6 (by decide) ?_
  exact g_iret C dX7_sizeAsked_7 ⟨by decide, by decide⟩
abbrev rmX8_markAsked : Room := { frames := 1, cells := 0, slots := 0, locals := 21 }
set_option maxHeartbeats 4000000 in
set_option maxRecDepth 100000 in
theorem m_X8_markAsked (a0 : Option Nat) (a1 : Option Nat) (S : St) : ∀ l D cy H0 o, f_X8_markAsked a0 a1 S = some o → Met l yX8_markAsked wsX8_markAsked rmX8_markAsked (Pq D cy H0 [va_rf a0, va_rf a1] S) (Qx D cy H0 (cvI o)) 0 0 (fun q => H0.size ≤ q) := by
  refine met_of (cc := cX8_markAsked) (maxL := 2) (ret := (some .int)) [va_rf a0, va_rf a1] [(0, va_rf a0), (1, va_rf a1)] (by decide) rfl rfl (by simp [lg_sl, va_rf_cat, vi_cat, vl_cat]) (by simp [lv_args, va_rf_cat, vi_cat, vl_cat]) (fun Γ C => ?_)
  unfold f_X8_markAsked
  refine g_aload_n C dX8_markAsked_0 rfl 1 rfl ?_
  refine g_bipush C (v := (20 : Int32)) dX8_markAsked_1 (by decide) ?_
  refine g_callV C (n := 1) (ci := 9) [.int (20 : Int32)] [] (m_X10_leave a1 (20 : Int32) S) dX8_markAsked_3 gX8_markAsked_X10_leave rfl ⟨rfl, rfl⟩ (by decide +kernel) ⟨by decide, by decide⟩ ⟨by decide, by decide⟩ rfl (by decide) rfl rfl (by first | exact Nat.le_of_ble_eq_true rfl | simp [va_rf_cat, vi_cat, vl_cat]) (fun o1 eo1 => ?_)
  show G Γ cvI 2 0 0 6 [(0, va_rf a0), (1, va_rf a1)] [] o1 _
  refine g_aload_n C dX8_markAsked_6 rfl 0 rfl ?_
  refine g_iconst C (v := (0 : Int32)) dX8_markAsked_7 (by decide) ?_
  refine g_call3 C (n := 1) [.int (0 : Int32)] [] (m_X8_xAt a0 (0 : Int32) o1) (m_X8_xAt a0 (0 : Int32) o1) (m_X8_xAt a0 (0 : Int32) o1) dX8_markAsked_8 (fun R s args ht hR => va_cwU 1 ht gX8_markAsked_X8_xAt_u34X1 rfl rfl rfl rfl (by decide +kernel) (by subst hR; exact ⟨by decide, by decide⟩)) (fun R s args ht hR => va_cwU 1 ht gX8_markAsked_X8_xAt_u34X2 rfl rfl rfl rfl (by decide +kernel) (by subst hR; exact ⟨by decide, by decide⟩)) (fun R s args ht hR => va_cwU 1 ht gX8_markAsked_X8_xAt_u34X7 rfl rfl rfl rfl (by decide +kernel) (by subst hR; exact ⟨by decide, by decide⟩)) ⟨by decide, by decide⟩ rfl rfl (by first | exact Nat.le_of_ble_eq_true rfl | simp [va_rf_cat, vi_cat, vl_cat]) (fun o2 eo2 => ?_)
  show G Γ cvI 2 0 0 11 [(0, va_rf a0), (1, va_rf a1)] [.int o2.1] o2.2 _
  exact g_iret C dX8_markAsked_11 ⟨by decide, by decide⟩
abbrev rmX1_markAsked : Room := { frames := 4, cells := 0, slots := 0, locals := 91 }
set_option maxHeartbeats 4000000 in
set_option maxRecDepth 100000 in
theorem m_X1_markAsked (a0 : Option Nat) (a1 : Option Nat) (S : St) : ∀ l D cy H0 o, f_X1_markAsked a0 a1 S = some o → Met l yX1_markAsked wsX1_markAsked rmX1_markAsked (Pq D cy H0 [va_rf a0, va_rf a1] S) (Qx D cy H0 (cvI o)) 0 0 (fun q => H0.size ≤ q) := by
  refine met_of (cc := cX1_markAsked) (maxL := 3) (ret := (some .int)) [va_rf a0, va_rf a1] [(0, va_rf a0), (1, va_rf a1)] (by decide) rfl rfl (by simp [lg_sl, va_rf_cat, vi_cat, vl_cat]) (by simp [lv_args, va_rf_cat, vi_cat, vl_cat]) (fun Γ C => ?_)
  unfold f_X1_markAsked
  refine g_aload_n C dX1_markAsked_0 rfl 1 rfl ?_
  refine g_bipush C (v := (21 : Int32)) dX1_markAsked_1 (by decide) ?_
  refine g_callV C (n := 1) (ci := 9) [.int (21 : Int32)] [] (m_X10_leave a1 (21 : Int32) S) dX1_markAsked_3 gX1_markAsked_X10_leave rfl ⟨rfl, rfl⟩ (by decide +kernel) ⟨by decide, by decide⟩ ⟨by decide, by decide⟩ rfl (by decide) rfl rfl (by first | exact Nat.le_of_ble_eq_true rfl | simp [va_rf_cat, vi_cat, vl_cat]) (fun o1 eo1 => ?_)
  show G Γ cvI 3 0 0 6 [(0, va_rf a0), (1, va_rf a1)] [] o1 _
  refine g_aload_n C dX1_markAsked_6 rfl 0 rfl ?_
  refine g_aload_n C dX1_markAsked_7 rfl 1 rfl ?_
  refine g_callSU2 C (n := 1) [va_rf a1] [] (m_X8_markAsked a0 a1 o1) dX1_markAsked_8 gX1_markAsked_X8_markAsked_s36 rfl ⟨rfl, rfl⟩ (by decide +kernel) ⟨by decide, by decide⟩ ⟨by decide, by decide⟩ rfl rfl (by first | exact Nat.le_of_ble_eq_true rfl | simp [va_rf_cat, vi_cat, vl_cat]) (fun o2 eo2 => ?_)
  show G Γ cvI 3 0 0 11 [(0, va_rf a0), (1, va_rf a1)] [.int o2.1] o2.2 _
  refine g_istore_n C (i := 2) (lv2 := [(2, .int o2.1), (0, va_rf a0), (1, va_rf a1)]) dX1_markAsked_11 rfl (by decide) (by first | rfl | simp [va_rf_cat, vi_cat, vl_cat]) ?_
  refine g_iload_n C dX1_markAsked_12 rfl 0 rfl ?_
  refine g_aload_n C dX1_markAsked_13 rfl 1 rfl ?_
  refine g_aload_n C dX1_markAsked_14 rfl 2 rfl ?_
  refine g_call2v C (n := 1) [va_rf a1] [.int o2.1] (m_X1_sizeAsked a0 a1 o2.2) (m_X2_sizeAsked a0 a1 o2.2) dX1_markAsked_15 gX1_markAsked_X1_sizeAsked rfl ⟨rfl, rfl⟩ (by decide +kernel) ⟨by decide, by decide⟩ (fun R s args ht hR => va_cwO 1 ht gX1_markAsked_X2_sizeAsked_u39X2 rfl rfl rfl (b0 := cX1_sizeAsked) (m0 := 4) (r0 := (some .int)) (by decide +kernel) (by decide +kernel) (by subst hR; exact ⟨by decide, by decide⟩)) ⟨by decide, by decide⟩ rfl rfl (by first | exact Nat.le_of_ble_eq_true rfl | simp [va_rf_cat, vi_cat, vl_cat]) (fun o3 eo3 => ?_)
  show G Γ cvI 3 0 0 18 [(2, .int o2.1), (0, va_rf a0), (1, va_rf a1)] [.int o3.1, .int o2.1] o3.2 _
  refine g_iadd C dX1_markAsked_18 ?_
  exact g_iret C dX1_markAsked_19 ⟨by decide, by decide⟩
abbrev rmX2_init : Room := { frames := 3, cells := 0, slots := 0, locals := 68 }
set_option maxHeartbeats 4000000 in
set_option maxRecDepth 100000 in
theorem m_X2_init (a0 : Nat) (a1 : Option Nat) (a2 : Option Nat) (S : St) : ∀ l D cy H0 o, f_X2_init a0 a1 a2 S = some o → Met l yX2_init wsX2_init rmX2_init (Pq D cy H0 [va_rf (some a0), va_rf a1, va_rf a2] S) (Qx D cy H0 (cvV o)) 0 0 (fun q => H0.size ≤ q) := by
  refine met_ofI (cc := cX2_init) (maxL := 3) (ret := none) [va_rf (some a0), va_rf a1, va_rf a2] [(0, va_rf (some a0)), (1, va_rf a1), (2, va_rf a2)] (by decide) rfl rfl rfl (by simp [lg_sl, va_rf_cat, vi_cat, vl_cat]) (by simp [lv_args, va_rf_cat, vi_cat, vl_cat]) (fun Γ C hN => ?_)
  unfold f_X2_init
  refine g_aload_n C dX2_init_0 rfl 0 rfl ?_
  refine g_aload_n C dX2_init_1 rfl 1 rfl ?_
  refine g_aload_n C dX2_init_2 rfl 2 rfl ?_
  refine g_callI C (n := 2) [va_rf a1, va_rf a2] [] (m_X1_init a0 a1 a2 S) dX2_init_3 gX2_init_X1_init rfl ⟨rfl, rfl⟩ (by decide +kernel) (by decide +kernel) (by decide +kernel) rfl (by decide +kernel) ⟨by decide, by decide⟩ ⟨by decide, by decide⟩ rfl rfl (by first | exact Nat.le_of_ble_eq_true rfl | simp [va_rf_cat, vi_cat, vl_cat]) (fun o1 eo1 => ?_)
  show G Γ cvV 3 0 0 6 [(0, va_rf (some a0)), (1, va_rf a1), (2, va_rf a2)] [] o1 _
  exact g_vret C dX2_init_6 ⟨by decide, by decide⟩
abbrev rmX3_init : Room := { frames := 1, cells := 3, slots := 6000, locals := 24 }
theorem flX3_init_9 : Cond.fieldLink RX3 9 "LightLines$Path" "x" "[I" ∈ wsX3_init := by decide +kernel
theorem flX3_init_13 : Cond.fieldLink RX3 13 "LightLines$Path" "y" "[I" ∈ wsX3_init := by decide +kernel
theorem flX3_init_16 : Cond.fieldLink RX3 16 "LightLines$Path" "lit" "[Z" ∈ wsX3_init := by decide +kernel
set_option maxRecDepth 100000 in
theorem ulX3_init_X3 : ∀ w ∈ u_ws RX3 TX3 7, w ∈ wsX3_init := by decide +kernel
set_option maxHeartbeats 4000000 in
set_option maxRecDepth 100000 in
theorem m_X3_init (a0 : Nat) (S : St) : ∀ l D cy H0 o, f_X3_init a0 S = some o → Met l yX3_init wsX3_init rmX3_init (Pq D cy H0 [va_rf (some a0)] S) (Qx D cy H0 (cvV o)) 3 6000 (fun q => H0.size ≤ q) := by
  refine met_ofI (cc := cX3_init) (maxL := 1) (ret := none) [va_rf (some a0)] [(0, va_rf (some a0))] (by decide) rfl rfl rfl (by simp [lg_sl, va_rf_cat, vi_cat, vl_cat]) (by simp [lv_args, va_rf_cat, vi_cat, vl_cat]) (fun Γ C hN => ?_)
  unfold f_X3_init
  refine g_aload_n C dX3_init_0 rfl 0 rfl ?_
  refine g_objInit C dX3_init_1 (by decide +kernel) (by decide +kernel) (by decide +kernel) ⟨by decide, by decide⟩ (by first | exact Nat.le_of_ble_eq_true rfl | simp [va_rf_cat, vi_cat, vl_cat]) ?_
  refine g_aload_n C dX3_init_4 rfl 0 rfl ?_
  refine g_sipush C (v := (2000 : Int32)) dX3_init_5 (by decide) ?_
  refine g_newa C (kd := 14) (t0 := 1) (mx := 2000) (ty := .int) dX3_init_8 rfl rfl ⟨by decide, by decide⟩ (fun _ => rfl) (fun _ _ h => h) (by decide) (by decide +kernel) ⟨by decide, by decide⟩ (fun S1 eS1 => ?_)
  show G Γ cvV 1 1 2000 10 [(0, va_rf (some a0))] [va_rf (some S.2.2.2), va_rf (some a0)] S1 _
  refine g_putFR C hN (ci := 3) (k := 0) (ty0 := tyX3) dX3_init_10 rfl (by decide) (by decide) (by decide) tyX3_ok nmX3 ulX3_init_X3 flX3_init_9 rfl rfl rfl (rf_fit_a _) (fun S2 eS2 => ?_)
  refine g_aload_n C dX3_init_13 rfl 0 rfl ?_
  refine g_sipush C (v := (2000 : Int32)) dX3_init_14 (by decide) ?_
  refine g_newa C (kd := 14) (t0 := 1) (mx := 2000) (ty := .int) dX3_init_17 rfl rfl ⟨by decide, by decide⟩ (fun _ => rfl) (fun _ _ h => h) (by decide) (by decide +kernel) ⟨by decide, by decide⟩ (fun S3 eS3 => ?_)
  show G Γ cvV 1 2 4000 19 [(0, va_rf (some a0))] [va_rf (some S2.2.2.2), va_rf (some a0)] S3 _
  refine g_putFR C hN (ci := 3) (k := 1) (ty0 := tyX3) dX3_init_19 rfl (by decide) (by decide) (by decide) tyX3_ok nmX3 ulX3_init_X3 flX3_init_13 rfl rfl rfl (rf_fit_a _) (fun S4 eS4 => ?_)
  refine g_aload_n C dX3_init_22 rfl 0 rfl ?_
  refine g_sipush C (v := (2000 : Int32)) dX3_init_23 (by decide) ?_
  refine g_newa C (kd := 15) (t0 := 2) (mx := 2000) (ty := .boolean) dX3_init_26 rfl rfl ⟨by decide, by decide⟩ (fun _ => rfl) (fun _ _ h => h) (by decide) (by decide +kernel) ⟨by decide, by decide⟩ (fun S5 eS5 => ?_)
  show G Γ cvV 1 3 6000 28 [(0, va_rf (some a0))] [va_rf (some S4.2.2.2), va_rf (some a0)] S5 _
  refine g_putFR C hN (ci := 3) (k := 2) (ty0 := tyX3) dX3_init_28 rfl (by decide) (by decide) (by decide) tyX3_ok nmX3 ulX3_init_X3 flX3_init_16 rfl rfl rfl (rf_fit_a _) (fun S6 eS6 => ?_)
  exact g_vret C dX3_init_31 ⟨by decide, by decide⟩
abbrev rmX8_gone : Room := { frames := 1, cells := 0, slots := 0, locals := 20 }
set_option maxHeartbeats 4000000 in
set_option maxRecDepth 100000 in
theorem m_X8_gone (a0 : Option Nat) (x1 : Int32) (x2 : Int32) (S : St) : ∀ l D cy H0 o, f_X8_gone a0 x1 x2 S = some o → Met l yX8_gone wsX8_gone rmX8_gone (Pq D cy H0 [va_rf a0, .int x1, .int x2] S) (Qx D cy H0 (cvI o)) 0 0 (fun q => H0.size ≤ q) := by
  refine met_of (cc := cX8_gone) (maxL := 3) (ret := (some .int)) [va_rf a0, .int x1, .int x2] [(0, va_rf a0), (1, .int x1), (2, .int x2)] (by decide) rfl rfl (by simp [lg_sl, va_rf_cat, vi_cat, vl_cat]) (by simp [lv_args, va_rf_cat, vi_cat, vl_cat]) (fun Γ C => ?_)
  unfold f_X8_gone
  refine g_iload_n C dX8_gone_0 rfl 2 rfl ?_
  refine g_if_ne C (tgt := 8) dX8_gone_1 (by decide) (fun h1 => ?_) (fun h1 => ?_)
  · refine g_iload_n C dX8_gone_4 rfl 1 rfl ?_
    refine g_goto C (tgt := 16) dX8_gone_5 (by decide) ?_
    exact g_iret C dX8_gone_16 ⟨by decide, by decide⟩
  · refine g_aload_n C dX8_gone_8 rfl 0 rfl ?_
    refine g_call3 C (n := 0) [] [] (m_X8_points a0 S) (m_X8_points a0 S) (m_X8_points a0 S) dX8_gone_9 (fun R s args ht hR => va_cwU 0 ht gX8_gone_X8_points_u18X1 rfl rfl rfl rfl (by decide +kernel) (by subst hR; exact ⟨by decide, by decide⟩)) (fun R s args ht hR => va_cwU 0 ht gX8_gone_X8_points_u18X2 rfl rfl rfl rfl (by decide +kernel) (by subst hR; exact ⟨by decide, by decide⟩)) (fun R s args ht hR => va_cwU 0 ht gX8_gone_X8_points_u18X7 rfl rfl rfl rfl (by decide +kernel) (by subst hR; exact ⟨by decide, by decide⟩)) ⟨by decide, by decide⟩ rfl rfl (by first | exact Nat.le_of_ble_eq_true rfl | simp [va_rf_cat, vi_cat, vl_cat]) (fun o2 eo2 => ?_)
    show G Γ cvI 3 0 0 12 [(0, va_rf a0), (1, .int x1), (2, .int x2)] [.int o2.1] o2.2 _
    refine g_iconst C (v := (1 : Int32)) dX8_gone_12 (by decide) ?_
    refine g_isub C dX8_gone_13 ?_
    refine g_iload_n C dX8_gone_14 rfl 1 rfl ?_
    refine g_isub C dX8_gone_15 ?_
    exact g_iret C dX8_gone_16 ⟨by decide, by decide⟩
abbrev rmX3_holdsAt : Room := { frames := 2, cells := 0, slots := 0, locals := 42 }
set_option maxHeartbeats 4000000 in
set_option maxRecDepth 100000 in
theorem m_X3_holdsAt (a0 : Option Nat) (x1 : Int32) (x2 : Int32) (S : St) : ∀ l D cy H0 o, f_X3_holdsAt a0 x1 x2 S = some o → Met l yX3_holdsAt wsX3_holdsAt rmX3_holdsAt (Pq D cy H0 [va_rf a0, .int x1, .int x2] S) (Qx D cy H0 (cvI o)) 0 0 (fun q => H0.size ≤ q) := by
  refine met_of (cc := cX3_holdsAt) (maxL := 10) (ret := (some .int)) [va_rf a0, .int x1, .int x2] [(0, va_rf a0), (1, .int x1), (2, .int x2)] (by decide) rfl rfl (by simp [lg_sl, va_rf_cat, vi_cat, vl_cat]) (by simp [lv_args, va_rf_cat, vi_cat, vl_cat]) (fun Γ C => ?_)
  unfold f_X3_holdsAt
  refine g_aload_n C dX3_holdsAt_0 rfl 0 rfl ?_
  refine g_iload_n C dX3_holdsAt_1 rfl 1 rfl ?_
  refine g_iconst C (v := (1 : Int32)) dX3_holdsAt_2 (by decide) ?_
  refine g_isub C dX3_holdsAt_3 ?_
  refine g_iload_n C dX3_holdsAt_4 rfl 2 rfl ?_
  refine g_call3 C (n := 2) [.int (x1 - (1 : Int32)), .int x2] [] (m_X8_gone a0 (x1 - (1 : Int32)) x2 S) (m_X8_gone a0 (x1 - (1 : Int32)) x2 S) (m_X8_gone a0 (x1 - (1 : Int32)) x2 S) dX3_holdsAt_5 (fun R s args ht hR => va_cwU 2 ht gX3_holdsAt_X8_gone_u57X1 rfl rfl rfl rfl (by decide +kernel) (by subst hR; exact ⟨by decide, by decide⟩)) (fun R s args ht hR => va_cwU 2 ht gX3_holdsAt_X8_gone_u57X2 rfl rfl rfl rfl (by decide +kernel) (by subst hR; exact ⟨by decide, by decide⟩)) (fun R s args ht hR => va_cwU 2 ht gX3_holdsAt_X8_gone_u57X7 rfl rfl rfl rfl (by decide +kernel) (by subst hR; exact ⟨by decide, by decide⟩)) ⟨by decide, by decide⟩ rfl rfl (by first | exact Nat.le_of_ble_eq_true rfl | simp [va_rf_cat, vi_cat, vl_cat]) (fun o1 eo1 => ?_)
  show G Γ cvI 10 0 0 8 [(0, va_rf a0), (1, .int x1), (2, .int x2)] [.int o1.1] o1.2 _
  refine g_istore_n C (i := 3) (lv2 := [(3, .int o1.1), (0, va_rf a0), (1, .int x1), (2, .int x2)]) dX3_holdsAt_8 rfl (by decide) (by first | rfl | simp [va_rf_cat, vi_cat, vl_cat]) ?_
  refine g_aload_n C dX3_holdsAt_9 rfl 1 rfl ?_
  refine g_iload_n C dX3_holdsAt_10 rfl 2 rfl ?_
  refine g_iload_n C dX3_holdsAt_11 rfl 3 rfl ?_
  refine g_call3 C (n := 2) [.int x1, .int x2] [] (m_X8_gone a0 x1 x2 o1.2) (m_X8_gone a0 x1 x2 o1.2) (m_X8_gone a0 x1 x2 o1.2) dX3_holdsAt_12 (fun R s args ht hR => va_cwU 2 ht gX3_holdsAt_X8_gone_u57X1 rfl rfl rfl rfl (by decide +kernel) (by subst hR; exact ⟨by decide, by decide⟩)) (fun R s args ht hR => va_cwU 2 ht gX3_holdsAt_X8_gone_u57X2 rfl rfl rfl rfl (by decide +kernel) (by subst hR; exact ⟨by decide, by decide⟩)) (fun R s args ht hR => va_cwU 2 ht gX3_holdsAt_X8_gone_u57X7 rfl rfl rfl rfl (by decide +kernel) (by subst hR; exact ⟨by decide, by decide⟩)) ⟨by decide, by decide⟩ rfl rfl (by first | exact Nat.le_of_ble_eq_true rfl | simp [va_rf_cat, vi_cat, vl_cat]) (fun o2 eo2 => ?_)
  show G Γ cvI 10 0 0 15 [(3, .int o1.1), (0, va_rf a0), (1, .int x1), (2, .int x2)] [.int o2.1] o2.2 _
  refine g_istore C (i := 4) (lv2 := [(4, .int o2.1), (3, .int o1.1), (0, va_rf a0), (1, .int x1), (2, .int x2)]) dX3_holdsAt_15 (by decide) (by first | rfl | simp [va_rf_cat, vi_cat, vl_cat]) ?_
  refine g_aload_n C dX3_holdsAt_17 rfl 2 rfl ?_
  refine g_iload_n C dX3_holdsAt_18 rfl 3 rfl ?_
  refine g_iconst C (v := (1 : Int32)) dX3_holdsAt_19 (by decide) ?_
  refine g_iadd C dX3_holdsAt_20 ?_
  refine g_iload_n C dX3_holdsAt_21 rfl 4 rfl ?_
  refine g_call3 C (n := 2) [.int (x1 + (1 : Int32)), .int x2] [] (m_X8_gone a0 (x1 + (1 : Int32)) x2 o2.2) (m_X8_gone a0 (x1 + (1 : Int32)) x2 o2.2) (m_X8_gone a0 (x1 + (1 : Int32)) x2 o2.2) dX3_holdsAt_22 (fun R s args ht hR => va_cwU 2 ht gX3_holdsAt_X8_gone_u57X1 rfl rfl rfl rfl (by decide +kernel) (by subst hR; exact ⟨by decide, by decide⟩)) (fun R s args ht hR => va_cwU 2 ht gX3_holdsAt_X8_gone_u57X2 rfl rfl rfl rfl (by decide +kernel) (by subst hR; exact ⟨by decide, by decide⟩)) (fun R s args ht hR => va_cwU 2 ht gX3_holdsAt_X8_gone_u57X7 rfl rfl rfl rfl (by decide +kernel) (by subst hR; exact ⟨by decide, by decide⟩)) ⟨by decide, by decide⟩ rfl rfl (by first | exact Nat.le_of_ble_eq_true rfl | simp [va_rf_cat, vi_cat, vl_cat]) (fun o3 eo3 => ?_)
  show G Γ cvI 10 0 0 25 [(4, .int o2.1), (3, .int o1.1), (0, va_rf a0), (1, .int x1), (2, .int x2)] [.int o3.1] o3.2 _
  refine g_istore C (i := 5) (lv2 := [(5, .int o3.1), (4, .int o2.1), (3, .int o1.1), (0, va_rf a0), (1, .int x1), (2, .int x2)]) dX3_holdsAt_25 (by decide) (by first | rfl | simp [va_rf_cat, vi_cat, vl_cat]) ?_
  refine g_aload_n C dX3_holdsAt_27 rfl 3 rfl ?_
  refine g_iload C dX3_holdsAt_28 1 rfl ?_
  refine g_call3 C (n := 1) [.int o2.1] [] (m_X8_xAt a0 o2.1 o3.2) (m_X8_xAt a0 o2.1 o3.2) (m_X8_xAt a0 o2.1 o3.2) dX3_holdsAt_30 (fun R s args ht hR => va_cwU 1 ht gX3_holdsAt_X8_xAt_u63X1 rfl rfl rfl rfl (by decide +kernel) (by subst hR; exact ⟨by decide, by decide⟩)) (fun R s args ht hR => va_cwU 1 ht gX3_holdsAt_X8_xAt_u63X2 rfl rfl rfl rfl (by decide +kernel) (by subst hR; exact ⟨by decide, by decide⟩)) (fun R s args ht hR => va_cwU 1 ht gX3_holdsAt_X8_xAt_u63X7 rfl rfl rfl rfl (by decide +kernel) (by subst hR; exact ⟨by decide, by decide⟩)) ⟨by decide, by decide⟩ rfl rfl (by first | exact Nat.le_of_ble_eq_true rfl | simp [va_rf_cat, vi_cat, vl_cat]) (fun o4 eo4 => ?_)
  show G Γ cvI 10 0 0 33 [(5, .int o3.1), (4, .int o2.1), (3, .int o1.1), (0, va_rf a0), (1, .int x1), (2, .int x2)] [.int o4.1] o4.2 _
  refine g_aload_n C dX3_holdsAt_33 rfl 3 rfl ?_
  refine g_iload_n C dX3_holdsAt_34 rfl 2 rfl ?_
  refine g_call3 C (n := 1) [.int o1.1] [.int o4.1] (m_X8_xAt a0 o1.1 o4.2) (m_X8_xAt a0 o1.1 o4.2) (m_X8_xAt a0 o1.1 o4.2) dX3_holdsAt_35 (fun R s args ht hR => va_cwU 1 ht gX3_holdsAt_X8_xAt_u63X1 rfl rfl rfl rfl (by decide +kernel) (by subst hR; exact ⟨by decide, by decide⟩)) (fun R s args ht hR => va_cwU 1 ht gX3_holdsAt_X8_xAt_u63X2 rfl rfl rfl rfl (by decide +kernel) (by subst hR; exact ⟨by decide, by decide⟩)) (fun R s args ht hR => va_cwU 1 ht gX3_holdsAt_X8_xAt_u63X7 rfl rfl rfl rfl (by decide +kernel) (by subst hR; exact ⟨by decide, by decide⟩)) ⟨by decide, by decide⟩ rfl rfl (by first | exact Nat.le_of_ble_eq_true rfl | simp [va_rf_cat, vi_cat, vl_cat]) (fun o5 eo5 => ?_)
  show G Γ cvI 10 0 0 38 [(5, .int o3.1), (4, .int o2.1), (3, .int o1.1), (0, va_rf a0), (1, .int x1), (2, .int x2)] [.int o5.1, .int o4.1] o5.2 _
  refine g_isub C dX3_holdsAt_38 ?_
  refine g_topi (fun y6 => ?_)
  refine g_istore C (i := 6) (lv2 := [(6, .int y6), (5, .int o3.1), (4, .int o2.1), (3, .int o1.1), (0, va_rf a0), (1, .int x1), (2, .int x2)]) dX3_holdsAt_39 (by decide) (by first | rfl | simp [va_rf_cat, vi_cat, vl_cat]) ?_
  refine g_aload_n C dX3_holdsAt_41 rfl 4 rfl ?_
  refine g_iload C dX3_holdsAt_42 2 rfl ?_
  refine g_call3 C (n := 1) [.int o2.1] [] (m_X8_yAt a0 o2.1 o5.2) (m_X8_yAt a0 o2.1 o5.2) (m_X8_yAt a0 o2.1 o5.2) dX3_holdsAt_44 (fun R s args ht hR => va_cwU 1 ht gX3_holdsAt_X8_yAt_u67X1 rfl rfl rfl rfl (by decide +kernel) (by subst hR; exact ⟨by decide, by decide⟩)) (fun R s args ht hR => va_cwU 1 ht gX3_holdsAt_X8_yAt_u67X2 rfl rfl rfl rfl (by decide +kernel) (by subst hR; exact ⟨by decide, by decide⟩)) (fun R s args ht hR => va_cwU 1 ht gX3_holdsAt_X8_yAt_u67X7 rfl rfl rfl rfl (by decide +kernel) (by subst hR; exact ⟨by decide, by decide⟩)) ⟨by decide, by decide⟩ rfl rfl (by first | exact Nat.le_of_ble_eq_true rfl | simp [va_rf_cat, vi_cat, vl_cat]) (fun o7 eo7 => ?_)
  show G Γ cvI 10 0 0 47 [(6, .int y6), (5, .int o3.1), (4, .int o2.1), (3, .int o1.1), (0, va_rf a0), (1, .int x1), (2, .int x2)] [.int o7.1] o7.2 _
  refine g_aload_n C dX3_holdsAt_47 rfl 4 rfl ?_
  refine g_iload_n C dX3_holdsAt_48 rfl 3 rfl ?_
  refine g_call3 C (n := 1) [.int o1.1] [.int o7.1] (m_X8_yAt a0 o1.1 o7.2) (m_X8_yAt a0 o1.1 o7.2) (m_X8_yAt a0 o1.1 o7.2) dX3_holdsAt_49 (fun R s args ht hR => va_cwU 1 ht gX3_holdsAt_X8_yAt_u67X1 rfl rfl rfl rfl (by decide +kernel) (by subst hR; exact ⟨by decide, by decide⟩)) (fun R s args ht hR => va_cwU 1 ht gX3_holdsAt_X8_yAt_u67X2 rfl rfl rfl rfl (by decide +kernel) (by subst hR; exact ⟨by decide, by decide⟩)) (fun R s args ht hR => va_cwU 1 ht gX3_holdsAt_X8_yAt_u67X7 rfl rfl rfl rfl (by decide +kernel) (by subst hR; exact ⟨by decide, by decide⟩)) ⟨by decide, by decide⟩ rfl rfl (by first | exact Nat.le_of_ble_eq_true rfl | simp [va_rf_cat, vi_cat, vl_cat]) (fun o8 eo8 => ?_)
  show G Γ cvI 10 0 0 52 [(6, .int y6), (5, .int o3.1), (4, .int o2.1), (3, .int o1.1), (0, va_rf a0), (1, .int x1), (2, .int x2)] [.int o8.1, .int o7.1] o8.2 _
  refine g_isub C dX3_holdsAt_52 ?_
  refine g_topi (fun y9 => ?_)
  refine g_istore C (i := 7) (lv2 := [(7, .int y9), (6, .int y6), (5, .int o3.1), (4, .int o2.1), (3, .int o1.1), (0, va_rf a0), (1, .int x1), (2, .int x2)]) dX3_holdsAt_53 (by decide) (by first | rfl | simp [va_rf_cat, vi_cat, vl_cat]) ?_
  refine g_aload_n C dX3_holdsAt_55 rfl 5 rfl ?_
  refine g_iload C dX3_holdsAt_56 2 rfl ?_
  refine g_call3 C (n := 1) [.int o3.1] [] (m_X8_xAt a0 o3.1 o8.2) (m_X8_xAt a0 o3.1 o8.2) (m_X8_xAt a0 o3.1 o8.2) dX3_holdsAt_58 (fun R s args ht hR => va_cwU 1 ht gX3_holdsAt_X8_xAt_u63X1 rfl rfl rfl rfl (by decide +kernel) (by subst hR; exact ⟨by decide, by decide⟩)) (fun R s args ht hR => va_cwU 1 ht gX3_holdsAt_X8_xAt_u63X2 rfl rfl rfl rfl (by decide +kernel) (by subst hR; exact ⟨by decide, by decide⟩)) (fun R s args ht hR => va_cwU 1 ht gX3_holdsAt_X8_xAt_u63X7 rfl rfl rfl rfl (by decide +kernel) (by subst hR; exact ⟨by decide, by decide⟩)) ⟨by decide, by decide⟩ rfl rfl (by first | exact Nat.le_of_ble_eq_true rfl | simp [va_rf_cat, vi_cat, vl_cat]) (fun o10 eo10 => ?_)
  show G Γ cvI 10 0 0 61 [(7, .int y9), (6, .int y6), (5, .int o3.1), (4, .int o2.1), (3, .int o1.1), (0, va_rf a0), (1, .int x1), (2, .int x2)] [.int o10.1] o10.2 _
  refine g_aload_n C dX3_holdsAt_61 rfl 5 rfl ?_
  refine g_iload C dX3_holdsAt_62 3 rfl ?_
  refine g_call3 C (n := 1) [.int o2.1] [.int o10.1] (m_X8_xAt a0 o2.1 o10.2) (m_X8_xAt a0 o2.1 o10.2) (m_X8_xAt a0 o2.1 o10.2) dX3_holdsAt_64 (fun R s args ht hR => va_cwU 1 ht gX3_holdsAt_X8_xAt_u63X1 rfl rfl rfl rfl (by decide +kernel) (by subst hR; exact ⟨by decide, by decide⟩)) (fun R s args ht hR => va_cwU 1 ht gX3_holdsAt_X8_xAt_u63X2 rfl rfl rfl rfl (by decide +kernel) (by subst hR; exact ⟨by decide, by decide⟩)) (fun R s args ht hR => va_cwU 1 ht gX3_holdsAt_X8_xAt_u63X7 rfl rfl rfl rfl (by decide +kernel) (by subst hR; exact ⟨by decide, by decide⟩)) ⟨by decide, by decide⟩ rfl rfl (by first | exact Nat.le_of_ble_eq_true rfl | simp [va_rf_cat, vi_cat, vl_cat]) (fun o11 eo11 => ?_)
  show G Γ cvI 10 0 0 67 [(7, .int y9), (6, .int y6), (5, .int o3.1), (4, .int o2.1), (3, .int o1.1), (0, va_rf a0), (1, .int x1), (2, .int x2)] [.int o11.1, .int o10.1] o11.2 _
  refine g_isub C dX3_holdsAt_67 ?_
  refine g_topi (fun y12 => ?_)
  refine g_istore C (i := 8) (lv2 := [(8, .int y12), (7, .int y9), (6, .int y6), (5, .int o3.1), (4, .int o2.1), (3, .int o1.1), (0, va_rf a0), (1, .int x1), (2, .int x2)]) dX3_holdsAt_68 (by decide) (by first | rfl | simp [va_rf_cat, vi_cat, vl_cat]) ?_
  refine g_aload_n C dX3_holdsAt_70 rfl 6 rfl ?_
  refine g_iload C dX3_holdsAt_71 3 rfl ?_
  refine g_call3 C (n := 1) [.int o3.1] [] (m_X8_yAt a0 o3.1 o11.2) (m_X8_yAt a0 o3.1 o11.2) (m_X8_yAt a0 o3.1 o11.2) dX3_holdsAt_73 (fun R s args ht hR => va_cwU 1 ht gX3_holdsAt_X8_yAt_u67X1 rfl rfl rfl rfl (by decide +kernel) (by subst hR; exact ⟨by decide, by decide⟩)) (fun R s args ht hR => va_cwU 1 ht gX3_holdsAt_X8_yAt_u67X2 rfl rfl rfl rfl (by decide +kernel) (by subst hR; exact ⟨by decide, by decide⟩)) (fun R s args ht hR => va_cwU 1 ht gX3_holdsAt_X8_yAt_u67X7 rfl rfl rfl rfl (by decide +kernel) (by subst hR; exact ⟨by decide, by decide⟩)) ⟨by decide, by decide⟩ rfl rfl (by first | exact Nat.le_of_ble_eq_true rfl | simp [va_rf_cat, vi_cat, vl_cat]) (fun o13 eo13 => ?_)
  show G Γ cvI 10 0 0 76 [(8, .int y12), (7, .int y9), (6, .int y6), (5, .int o3.1), (4, .int o2.1), (3, .int o1.1), (0, va_rf a0), (1, .int x1), (2, .int x2)] [.int o13.1] o13.2 _
  refine g_aload_n C dX3_holdsAt_76 rfl 6 rfl ?_
  refine g_iload C dX3_holdsAt_77 4 rfl ?_
  refine g_call3 C (n := 1) [.int o2.1] [.int o13.1] (m_X8_yAt a0 o2.1 o13.2) (m_X8_yAt a0 o2.1 o13.2) (m_X8_yAt a0 o2.1 o13.2) dX3_holdsAt_79 (fun R s args ht hR => va_cwU 1 ht gX3_holdsAt_X8_yAt_u67X1 rfl rfl rfl rfl (by decide +kernel) (by subst hR; exact ⟨by decide, by decide⟩)) (fun R s args ht hR => va_cwU 1 ht gX3_holdsAt_X8_yAt_u67X2 rfl rfl rfl rfl (by decide +kernel) (by subst hR; exact ⟨by decide, by decide⟩)) (fun R s args ht hR => va_cwU 1 ht gX3_holdsAt_X8_yAt_u67X7 rfl rfl rfl rfl (by decide +kernel) (by subst hR; exact ⟨by decide, by decide⟩)) ⟨by decide, by decide⟩ rfl rfl (by first | exact Nat.le_of_ble_eq_true rfl | simp [va_rf_cat, vi_cat, vl_cat]) (fun o14 eo14 => ?_)
  show G Γ cvI 10 0 0 82 [(8, .int y12), (7, .int y9), (6, .int y6), (5, .int o3.1), (4, .int o2.1), (3, .int o1.1), (0, va_rf a0), (1, .int x1), (2, .int x2)] [.int o14.1, .int o13.1] o14.2 _
  refine g_isub C dX3_holdsAt_82 ?_
  refine g_topi (fun y15 => ?_)
  refine g_istore C (i := 9) (lv2 := [(9, .int y15), (8, .int y12), (7, .int y9), (6, .int y6), (5, .int o3.1), (4, .int o2.1), (3, .int o1.1), (0, va_rf a0), (1, .int x1), (2, .int x2)]) dX3_holdsAt_83 (by decide) (by first | rfl | simp [va_rf_cat, vi_cat, vl_cat]) ?_
  refine g_iload C dX3_holdsAt_85 3 rfl ?_
  refine g_iload C dX3_holdsAt_87 1 rfl ?_
  refine g_imul C dX3_holdsAt_89 ?_
  refine g_iload C dX3_holdsAt_90 2 rfl ?_
  refine g_iload C dX3_holdsAt_92 0 rfl ?_
  refine g_imul C dX3_holdsAt_94 ?_
  refine g_iadd C dX3_holdsAt_95 ?_
  refine g_if_ge C (tgt := 101) dX3_holdsAt_96 (by decide) (fun h16 => ?_) (fun h16 => ?_)
  · refine g_iload C dX3_holdsAt_101 3 rfl ?_
    refine g_iload C dX3_holdsAt_103 0 rfl ?_
    refine g_imul C dX3_holdsAt_105 ?_
    refine g_iload C dX3_holdsAt_106 2 rfl ?_
    refine g_iload C dX3_holdsAt_108 1 rfl ?_
    refine g_imul C dX3_holdsAt_110 ?_
    refine g_isub C dX3_holdsAt_111 ?_
    refine g_if_eq C (tgt := 119) dX3_holdsAt_112 (by decide) (fun h17 => ?_) (fun h17 => ?_)
    · refine g_iconst C (v := (0 : Int32)) dX3_holdsAt_119 (by decide) ?_
      exact g_iret C dX3_holdsAt_120 ⟨by decide, by decide⟩
    · refine g_iconst C (v := (1 : Int32)) dX3_holdsAt_115 (by decide) ?_
      refine g_goto C (tgt := 120) dX3_holdsAt_116 (by decide) ?_
      exact g_iret C dX3_holdsAt_120 ⟨by decide, by decide⟩
  · refine g_iconst C (v := (2 : Int32)) dX3_holdsAt_99 (by decide) ?_
    exact g_iret C dX3_holdsAt_100 ⟨by decide, by decide⟩
abbrev rmX3_stay : Room := { frames := 0, cells := 0, slots := 0, locals := 0 }
theorem flX3_stay_9 : Cond.fieldLink RX3 9 "LightLines$Path" "x" "[I" ∈ wsX3_stay := by decide +kernel
theorem flX3_stay_13 : Cond.fieldLink RX3 13 "LightLines$Path" "y" "[I" ∈ wsX3_stay := by decide +kernel
theorem flX3_stay_16 : Cond.fieldLink RX3 16 "LightLines$Path" "lit" "[Z" ∈ wsX3_stay := by decide +kernel
theorem flX3_stay_20 : Cond.fieldLink RX3 20 "LightLines$Path" "length" "I" ∈ wsX3_stay := by decide +kernel
theorem flX3_stay_24 : Cond.fieldLink RX3 24 "LightLines$Path" "isOver" "Z" ∈ wsX3_stay := by decide +kernel
theorem flX3_stay_28 : Cond.fieldLink RX3 28 "LightLines$Path" "atX" "I" ∈ wsX3_stay := by decide +kernel
theorem flX3_stay_31 : Cond.fieldLink RX3 31 "LightLines$Path" "atY" "I" ∈ wsX3_stay := by decide +kernel
set_option maxRecDepth 100000 in
theorem ulX3_stay_X3 : ∀ w ∈ u_ws RX3 TX3 7, w ∈ wsX3_stay := by decide +kernel
set_option maxHeartbeats 4000000 in
set_option maxRecDepth 100000 in
theorem t_X3_stay_78 {Γ : Cx} (C : CF Γ cX3_stay 4 none wsX3_stay RX3 rmX3_stay 0 0) (rc2 : Option Nat → Int32 → Int32 → Int32 → St → Option (St)) (hrc2 : ∀ (a0 : Option Nat) (x1 : Int32) (x2 : Int32) (x3 : Int32) (S : St), G Γ cvV 4 0 0 2 [(0, va_rf a0), (1, .int x1), (2, .int x2), (3, .int x3)] [] S (rc2 a0 x1 x2 x3 S)) (a0 : Option Nat) (x1 : Int32) (x2 : Int32) (x3 : Int32) (S : St) : G Γ cvV 4 0 0 78 [(0, va_rf a0), (1, .int x1), (2, .int x2), (3, .int x3)] [] S (b_X3_stay_78 rc2 a0 x1 x2 x3 S) := by
  unfold b_X3_stay_78
  refine g_iinc1 C dX3_stay_78 3 rfl (by decide) (by decide) (fun y1 => ?_)
  refine g_lveq (lv2 := [(3, .int y1), (0, va_rf a0), (1, .int x1), (2, .int x2)]) (by first | rfl | simp [va_rf_cat, vi_cat, vl_cat]) ?_
  refine g_goto C (tgt := 2) dX3_stay_81 (by decide) ?_
  exact g_sub (lv2 := [(0, va_rf a0), (1, .int x1), (2, .int x2), (3, .int y1)]) [1, 2, 3, 0] rfl (hrc2 a0 x1 x2 y1 S)
set_option maxHeartbeats 4000000 in
set_option maxRecDepth 100000 in
theorem t_X3_stay_2 {Γ : Cx} (C : CF Γ cX3_stay 4 none wsX3_stay RX3 rmX3_stay 0 0) : ∀ (n : Nat) (a0 : Option Nat) (x1 : Int32) (x2 : Int32) (x3 : Int32) (S : St), G Γ cvV 4 0 0 2 [(0, va_rf a0), (1, .int x1), (2, .int x2), (3, .int x3)] [] S (b_X3_stay_2  n a0 x1 x2 x3 S) := by
  intro n
  induction n with
  | zero => intro a0 x1 x2 x3 S; exact g_none
  | succ n ih =>
    intro a0 x1 x2 x3 S
    rw [b_X3_stay_2]
    refine g_iload_n C dX3_stay_2 rfl 3 rfl ?_
    refine g_iload_n C dX3_stay_3 rfl 1 rfl ?_
    refine g_icmp_ge C (tgt := 84) dX3_stay_4 (by decide) (fun h1 => ?_) (fun h1 => ?_)
    · exact g_vret C dX3_stay_84 ⟨by decide, by decide⟩
    · refine g_aload_n C dX3_stay_7 rfl 0 rfl ?_
      refine g_getI C (ci := 3) (k := 4) dX3_stay_8 rfl (by decide) (by decide) (by decide) ulX3_stay_X3 flX3_stay_24 rfl (fun v2 ev2 => ?_)
      refine g_if_ne C (tgt := 84) dX3_stay_11 (by decide) (fun h3 => ?_) (fun h3 => ?_)
      · refine g_aload_n C dX3_stay_14 rfl 0 rfl ?_
        refine g_getI C (ci := 3) (k := 3) dX3_stay_15 rfl (by decide) (by decide) (by decide) ulX3_stay_X3 flX3_stay_20 rfl (fun v4 ev4 => ?_)
        refine g_sipush C (v := (2000 : Int32)) dX3_stay_18 (by decide) ?_
        refine g_icmp_ge C (tgt := 73) dX3_stay_21 (by decide) (fun h5 => ?_) (fun h5 => ?_)
        · refine g_aload_n C dX3_stay_73 rfl 0 rfl ?_
          refine g_iconst C (v := (1 : Int32)) dX3_stay_74 (by decide) ?_
          refine g_putI C (ci := 3) (k := 4) (ty0 := tyX3) dX3_stay_75 rfl (by decide) (by decide) (by decide) tyX3_ok nmX3 ulX3_stay_X3 flX3_stay_24 rfl rfl ⟨rfl, rfl⟩ (fun S6 eS6 => ?_)
          exact g_sub (lv2 := [(0, va_rf a0), (1, .int x1), (2, .int x2), (3, .int x3)]) [0, 1, 2, 3] rfl (t_X3_stay_78 C (b_X3_stay_2 n) ih a0 x1 x2 x3 S6)
        · refine g_aload_n C dX3_stay_24 rfl 0 rfl ?_
          refine g_getR C (ci := 3) (k := 0) dX3_stay_25 rfl (by decide) (by decide) (by decide) ulX3_stay_X3 flX3_stay_9 rfl (fun v7 ev7 => ?_)
          refine g_aload_n C dX3_stay_28 rfl 0 rfl ?_
          refine g_getI C (ci := 3) (k := 3) dX3_stay_29 rfl (by decide) (by decide) (by decide) ulX3_stay_X3 flX3_stay_20 rfl (fun v8 ev8 => ?_)
          refine g_aload_n C dX3_stay_32 rfl 0 rfl ?_
          refine g_getI C (ci := 3) (k := 5) dX3_stay_33 rfl (by decide) (by decide) (by decide) ulX3_stay_X3 flX3_stay_28 rfl (fun v9 ev9 => ?_)
          refine g_ist C dX3_stay_36 (fun S10 eS10 => ?_)
          refine g_aload_n C dX3_stay_37 rfl 0 rfl ?_
          refine g_getR C (ci := 3) (k := 1) dX3_stay_38 rfl (by decide) (by decide) (by decide) ulX3_stay_X3 flX3_stay_13 rfl (fun v11 ev11 => ?_)
          refine g_aload_n C dX3_stay_41 rfl 0 rfl ?_
          refine g_getI C (ci := 3) (k := 3) dX3_stay_42 rfl (by decide) (by decide) (by decide) ulX3_stay_X3 flX3_stay_20 rfl (fun v12 ev12 => ?_)
          refine g_aload_n C dX3_stay_45 rfl 0 rfl ?_
          refine g_getI C (ci := 3) (k := 6) dX3_stay_46 rfl (by decide) (by decide) (by decide) ulX3_stay_X3 flX3_stay_31 rfl (fun v13 ev13 => ?_)
          refine g_ist C dX3_stay_49 (fun S14 eS14 => ?_)
          refine g_aload_n C dX3_stay_50 rfl 0 rfl ?_
          refine g_getR C (ci := 3) (k := 2) dX3_stay_51 rfl (by decide) (by decide) (by decide) ulX3_stay_X3 flX3_stay_16 rfl (fun v15 ev15 => ?_)
          refine g_aload_n C dX3_stay_54 rfl 0 rfl ?_
          refine g_getI C (ci := 3) (k := 3) dX3_stay_55 rfl (by decide) (by decide) (by decide) ulX3_stay_X3 flX3_stay_20 rfl (fun v16 ev16 => ?_)
          refine g_iload_n C dX3_stay_58 rfl 2 rfl ?_
          refine g_zst C dX3_stay_59 (fun S17 eS17 => ?_)
          refine g_aload_n C dX3_stay_60 rfl 0 rfl ?_
          refine g_dupr C dX3_stay_61 ?_
          refine g_getI C (ci := 3) (k := 3) dX3_stay_62 rfl (by decide) (by decide) (by decide) ulX3_stay_X3 flX3_stay_20 rfl (fun v18 ev18 => ?_)
          refine g_iconst C (v := (1 : Int32)) dX3_stay_65 (by decide) ?_
          refine g_iadd C dX3_stay_66 ?_
          refine g_putI C (ci := 3) (k := 3) (ty0 := tyX3) dX3_stay_67 rfl (by decide) (by decide) (by decide) tyX3_ok nmX3 ulX3_stay_X3 flX3_stay_20 rfl rfl ⟨rfl, rfl⟩ (fun S19 eS19 => ?_)
          refine g_goto C (tgt := 78) dX3_stay_70 (by decide) ?_
          exact g_sub (lv2 := [(0, va_rf a0), (1, .int x1), (2, .int x2), (3, .int x3)]) [0, 1, 2, 3] rfl (t_X3_stay_78 C (b_X3_stay_2 n) ih a0 x1 x2 x3 S19)
      · exact g_vret C dX3_stay_84 ⟨by decide, by decide⟩
set_option maxHeartbeats 4000000 in
set_option maxRecDepth 100000 in
theorem m_X3_stay (a0 : Option Nat) (x1 : Int32) (x2 : Int32) (S : St) : ∀ l D cy H0 o, f_X3_stay a0 x1 x2 S = some o → Met l yX3_stay wsX3_stay rmX3_stay (Pq D cy H0 [va_rf a0, .int x1, .int x2] S) (Qx D cy H0 (cvV o)) 0 0 (fun q => H0.size ≤ q) := by
  refine met_of (cc := cX3_stay) (maxL := 4) (ret := none) [va_rf a0, .int x1, .int x2] [(0, va_rf a0), (1, .int x1), (2, .int x2)] (by decide) rfl rfl (by simp [lg_sl, va_rf_cat, vi_cat, vl_cat]) (by simp [lv_args, va_rf_cat, vi_cat, vl_cat]) (fun Γ C => ?_)
  unfold f_X3_stay
  refine g_iconst C (v := (0 : Int32)) dX3_stay_0 (by decide) ?_
  refine g_istore_n C (i := 3) (lv2 := [(3, .int (0 : Int32)), (0, va_rf a0), (1, .int x1), (2, .int x2)]) dX3_stay_1 rfl (by decide) (by first | rfl | simp [va_rf_cat, vi_cat, vl_cat]) ?_
  exact g_sub (lv2 := [(0, va_rf a0), (1, .int x1), (2, .int x2), (3, .int (0 : Int32))]) [1, 2, 3, 0] rfl (t_X3_stay_2 C FU a0 x1 x2 (0 : Int32) S)
