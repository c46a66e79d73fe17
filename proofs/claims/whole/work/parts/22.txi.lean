abbrev rmX11_trace : Room := { frames := 1, cells := 0, slots := 0, locals := 22 }
theorem flX11_trace_46 : Cond.fieldLink RX11 46 "LightLines" "trace" "LLightLines$Trace;" ∈ wsX11_trace := by decide +kernel
theorem flX11_trace_262 : Cond.fieldLink RX11 262 "LightLines$Trace" "length" "I" ∈ wsX11_trace := by decide +kernel
theorem flX11_trace_270 : Cond.fieldLink RX11 270 "LightLines$Trace" "numbers" "[I" ∈ wsX11_trace := by decide +kernel
set_option maxRecDepth 100000 in
theorem ulX11_trace_X10 : ∀ w ∈ u_ws RX10 TX10 2, w ∈ wsX11_trace := by decide +kernel
set_option maxRecDepth 100000 in
theorem ulX11_trace_X11 : ∀ w ∈ u_ws RX11 TX11 7, w ∈ wsX11_trace := by decide +kernel
set_option maxHeartbeats 4000000 in
set_option maxRecDepth 100000 in
theorem m_X11_trace (a0 : Option Nat) (x1 : Int32) (S : St) : ∀ l D cy H0 o, f_X11_trace a0 x1 S = some o → Met l yX11_trace wsX11_trace rmX11_trace (Pq D cy H0 [va_rf a0, .int x1] S) (Qx D cy H0 (cvI o)) 0 0 (fun q => H0.size ≤ q) := by
  refine met_of (cc := cX11_trace) (maxL := 2) (ret := (some .int)) [va_rf a0, .int x1] [(0, va_rf a0), (1, .int x1)] (by decide) rfl rfl (by simp [lg_sl, va_rf_cat, vi_cat, vl_cat]) (by simp [lv_args, va_rf_cat, vi_cat, vl_cat]) (fun Γ C => ?_)
  unfold f_X11_trace
  refine g_iload_n C dX11_trace_0 rfl 1 rfl ?_
  refine g_iconst C (v := (0 : Int32)) dX11_trace_1 (by decide) ?_
  refine g_aload_n C dX11_trace_2 rfl 0 rfl ?_
  refine g_getR C (ci := 10) (k := 5) dX11_trace_3 rfl (by decide) (by decide) (by decide) ulX11_trace_X11 flX11_trace_46 rfl (fun v1 ev1 => ?_)
  refine g_getI C (ci := 9) (k := 1) dX11_trace_6 rfl (by decide) (by decide) (by decide) ulX11_trace_X10 flX11_trace_262 rfl (fun v2 ev2 => ?_)
  refine g_iconst C (v := (1 : Int32)) dX11_trace_9 (by decide) ?_
  refine g_isub C dX11_trace_10 ?_
  refine g_callS C (n := 3) [.int x1, .int (0 : Int32), .int (v2 - (1 : Int32))] [] (m_X11_isWithin x1 (0 : Int32) (v2 - (1 : Int32)) S) dX11_trace_11 gX11_trace_X11_isWithin rfl ⟨rfl, rfl⟩ (by decide +kernel) ⟨by decide, by decide⟩ ⟨by decide, by decide⟩ rfl rfl (by first | exact Nat.le_of_ble_eq_true rfl | simp [va_rf_cat, vi_cat, vl_cat]) (fun o3 eo3 => ?_)
  show G Γ cvI 2 0 0 14 [(0, va_rf a0), (1, .int x1)] [.int o3.1] o3.2 _
  refine g_if_eq C (tgt := 29) dX11_trace_14 (by decide) (fun h4 => ?_) (fun h4 => ?_)
  · refine g_ldc C (v := (-1000000 : Int32)) dX11_trace_29 (by decide +kernel) ?_
    exact g_iret C dX11_trace_31 ⟨by decide, by decide⟩
  · refine g_aload_n C dX11_trace_17 rfl 0 rfl ?_
    refine g_getR C (ci := 10) (k := 5) dX11_trace_18 rfl (by decide) (by decide) (by decide) ulX11_trace_X11 flX11_trace_46 rfl (fun v5 ev5 => ?_)
    refine g_getR C (ci := 9) (k := 0) dX11_trace_21 rfl (by decide) (by decide) (by decide) ulX11_trace_X10 flX11_trace_270 rfl (fun v6 ev6 => ?_)
    refine g_iload_n C dX11_trace_24 rfl 1 rfl ?_
    refine g_ild C dX11_trace_25 (fun v7 ev7 => ?_)
    refine g_goto C (tgt := 31) dX11_trace_26 (by decide) ?_
    exact g_iret C dX11_trace_31 ⟨by decide, by decide⟩
abbrev rmX11_sheetsHeld : Room := { frames := 1, cells := 0, slots := 0, locals := 20 }
theorem flX11_sheetsHeld_11 : Cond.fieldLink RX11 11 "LightLines" "sheets" "[LLightLines$Sheet;" ∈ wsX11_sheetsHeld := by decide +kernel
set_option maxRecDepth 100000 in
theorem ulX11_sheetsHeld_X11 : ∀ w ∈ u_ws RX11 TX11 7, w ∈ wsX11_sheetsHeld := by decide +kernel
set_option maxHeartbeats 4000000 in
set_option maxRecDepth 100000 in
theorem t_X11_sheetsHeld_25 {Γ : Cx} (C : CF Γ cX11_sheetsHeld 3 (some .int) wsX11_sheetsHeld RX11 rmX11_sheetsHeld 0 0) (rc4 : Option Nat → Int32 → Int32 → St → Option (Int32 × St)) (hrc4 : ∀ (a0 : Option Nat) (x1 : Int32) (x2 : Int32) (S : St), G Γ cvI 3 0 0 4 [(0, va_rf a0), (1, .int x1), (2, .int x2)] [] S (rc4 a0 x1 x2 S)) (a0 : Option Nat) (x1 : Int32) (x2 : Int32) (S : St) : G Γ cvI 3 0 0 25 [(0, va_rf a0), (1, .int x1), (2, .int x2)] [] S (b_X11_sheetsHeld_25 rc4 a0 x1 x2 S) := by
  unfold b_X11_sheetsHeld_25
  refine g_iinc1 C dX11_sheetsHeld_25 2 rfl (by decide) (by decide) (fun y1 => ?_)
  refine g_lveq (lv2 := [(2, .int y1), (0, va_rf a0), (1, .int x1)]) (by first | rfl | simp [va_rf_cat, vi_cat, vl_cat]) ?_
  refine g_goto C (tgt := 4) dX11_sheetsHeld_28 (by decide) ?_
  exact g_sub (lv2 := [(0, va_rf a0), (1, .int x1), (2, .int y1)]) [1, 2, 0] rfl (hrc4 a0 x1 y1 S)
set_option maxHeartbeats 4000000 in
set_option maxRecDepth 100000 in
theorem t_X11_sheetsHeld_31 {Γ : Cx} (C : CF Γ cX11_sheetsHeld 3 (some .int) wsX11_sheetsHeld RX11 rmX11_sheetsHeld 0 0) (x1 : Int32) (S : St) : G Γ cvI 3 0 0 31 [(1, .int x1)] [] S (b_X11_sheetsHeld_31  x1 S) := by
  unfold b_X11_sheetsHeld_31
  refine g_iload_n C dX11_sheetsHeld_31 rfl 0 rfl ?_
  exact g_iret C dX11_sheetsHeld_32 ⟨by decide, by decide⟩
set_option maxHeartbeats 4000000 in
set_option maxRecDepth 100000 in
theorem t_X11_sheetsHeld_4 {Γ : Cx} (C : CF Γ cX11_sheetsHeld 3 (some .int) wsX11_sheetsHeld RX11 rmX11_sheetsHeld 0 0) : ∀ (n : Nat) (a0 : Option Nat) (x1 : Int32) (x2 : Int32) (S : St), G Γ cvI 3 0 0 4 [(0, va_rf a0), (1, .int x1), (2, .int x2)] [] S (b_X11_sheetsHeld_4  n a0 x1 x2 S) := by
  intro n
  induction n with
  | zero => intro a0 x1 x2 S; exact g_none
  | succ n ih =>
    intro a0 x1 x2 S
    rw [b_X11_sheetsHeld_4]
    refine g_iload_n C dX11_sheetsHeld_4 rfl 2 rfl ?_
    refine g_bipush C (v := (8 : Int32)) dX11_sheetsHeld_5 (by decide) ?_
    refine g_icmp_ge C (tgt := 31) dX11_sheetsHeld_7 (by decide) (fun h1 => ?_) (fun h1 => ?_)
    · exact g_sub (lv2 := [(1, .int x1)]) [1] rfl (t_X11_sheetsHeld_31 C x1 S)
    · refine g_aload_n C dX11_sheetsHeld_10 rfl 0 rfl ?_
      refine g_getR C (ci := 10) (k := 0) dX11_sheetsHeld_11 rfl (by decide) (by decide) (by decide) ulX11_sheetsHeld_X11 flX11_sheetsHeld_11 rfl (fun v2 ev2 => ?_)
      refine g_iload_n C dX11_sheetsHeld_14 rfl 2 rfl ?_
      refine g_ald16 C dX11_sheetsHeld_15 (fun v3 ev3 => ?_)
      refine g_callV C (n := 0) (ci := 5) [] [] (m_X5_isMissing v3 S) dX11_sheetsHeld_16 gX11_sheetsHeld_X5_isMissing rfl ⟨rfl, rfl⟩ (by decide +kernel) ⟨by decide, by decide⟩ ⟨by decide, by decide⟩ rfl (by decide) rfl rfl (by first | exact Nat.le_of_ble_eq_true rfl | simp [va_rf_cat, vi_cat, vl_cat]) (fun o4 eo4 => ?_)
      show G Γ cvI 3 0 0 19 [(0, va_rf a0), (1, .int x1), (2, .int x2)] [.int o4.1] o4.2 _
      refine g_if_ne C (tgt := 25) dX11_sheetsHeld_19 (by decide) (fun h5 => ?_) (fun h5 => ?_)
      · refine g_iinc1 C dX11_sheetsHeld_22 1 rfl (by decide) (by decide) (fun y6 => ?_)
        refine g_lveq (lv2 := [(1, .int y6), (0, va_rf a0), (2, .int x2)]) (by first | rfl | simp [va_rf_cat, vi_cat, vl_cat]) ?_
        exact g_sub (lv2 := [(0, va_rf a0), (1, .int y6), (2, .int x2)]) [1, 0, 2] rfl (t_X11_sheetsHeld_25 C (b_X11_sheetsHeld_4 n) ih a0 y6 x2 o4.2)
      · exact g_sub (lv2 := [(0, va_rf a0), (1, .int x1), (2, .int x2)]) [0, 1, 2] rfl (t_X11_sheetsHeld_25 C (b_X11_sheetsHeld_4 n) ih a0 x1 x2 o4.2)
set_option maxHeartbeats 4000000 in
set_option maxRecDepth 100000 in
theorem m_X11_sheetsHeld (a0 : Option Nat) (S : St) : ∀ l D cy H0 o, f_X11_sheetsHeld a0 S = some o → Met l yX11_sheetsHeld wsX11_sheetsHeld rmX11_sheetsHeld (Pq D cy H0 [va_rf a0] S) (Qx D cy H0 (cvI o)) 0 0 (fun q => H0.size ≤ q) := by
  refine met_of (cc := cX11_sheetsHeld) (maxL := 3) (ret := (some .int)) [va_rf a0] [(0, va_rf a0)] (by decide) rfl rfl (by simp [lg_sl, va_rf_cat, vi_cat, vl_cat]) (by simp [lv_args, va_rf_cat, vi_cat, vl_cat]) (fun Γ C => ?_)
  unfold f_X11_sheetsHeld
  refine g_iconst C (v := (0 : Int32)) dX11_sheetsHeld_0 (by decide) ?_
  refine g_istore_n C (i := 1) (lv2 := [(1, .int (0 : Int32)), (0, va_rf a0)]) dX11_sheetsHeld_1 rfl (by decide) (by first | rfl | simp [va_rf_cat, vi_cat, vl_cat]) ?_
  refine g_iconst C (v := (0 : Int32)) dX11_sheetsHeld_2 (by decide) ?_
  refine g_istore_n C (i := 2) (lv2 := [(2, .int (0 : Int32)), (1, .int (0 : Int32)), (0, va_rf a0)]) dX11_sheetsHeld_3 rfl (by decide) (by first | rfl | simp [va_rf_cat, vi_cat, vl_cat]) ?_
  exact g_sub (lv2 := [(0, va_rf a0), (1, .int (0 : Int32)), (2, .int (0 : Int32))]) [2, 1, 0] rfl (t_X11_sheetsHeld_4 C FU a0 (0 : Int32) (0 : Int32) S)
abbrev rmX11_count : Room := { frames := 2, cells := 0, slots := 0, locals := 44 }
theorem flX11_count_18 : Cond.fieldLink RX11 18 "LightLines" "strokes" "LLightLines$Strokes;" ∈ wsX11_count := by decide +kernel
theorem flX11_count_32 : Cond.fieldLink RX11 32 "LightLines" "show" "LLightLines$Show;" ∈ wsX11_count := by decide +kernel
theorem flX11_count_39 : Cond.fieldLink RX11 39 "LightLines" "cues" "LLightLines$Cues;" ∈ wsX11_count := by decide +kernel
theorem flX11_count_100 : Cond.fieldLink RX11 100 "LightLines$Strokes" "held" "I" ∈ wsX11_count := by decide +kernel
theorem flX11_count_243 : Cond.fieldLink RX11 243 "LightLines$Cues" "length" "I" ∈ wsX11_count := by decide +kernel
theorem flX11_count_285 : Cond.fieldLink RX11 285 "LightLines$Cues" "kept" "I" ∈ wsX11_count := by decide +kernel
set_option maxRecDepth 100000 in
theorem ulX11_count_X0 : ∀ w ∈ u_ws RX0 TX0 10, w ∈ wsX11_count := by decide +kernel
set_option maxRecDepth 100000 in
theorem ulX11_count_X11 : ∀ w ∈ u_ws RX11 TX11 7, w ∈ wsX11_count := by decide +kernel
set_option maxRecDepth 100000 in
theorem ulX11_count_X9 : ∀ w ∈ u_ws RX9 TX9 4, w ∈ wsX11_count := by decide +kernel
set_option maxHeartbeats 4000000 in
set_option maxRecDepth 100000 in
theorem m_X11_count (a0 : Option Nat) (x1 : Int32) (S : St) : ∀ l D cy H0 o, f_X11_count a0 x1 S = some o → Met l yX11_count wsX11_count rmX11_count (Pq D cy H0 [va_rf a0, .int x1] S) (Qx D cy H0 (cvI o)) 0 0 (fun q => H0.size ≤ q) := by
  refine met_of (cc := cX11_count) (maxL := 2) (ret := (some .int)) [va_rf a0, .int x1] [(0, va_rf a0), (1, .int x1)] (by decide) rfl rfl (by simp [lg_sl, va_rf_cat, vi_cat, vl_cat]) (by simp [lv_args, va_rf_cat, vi_cat, vl_cat]) (fun Γ C => ?_)
  unfold f_X11_count
  refine g_iload_n C dX11_count_0 rfl 1 rfl ?_
  refine g_ite (fun h1 => ?_) (fun h1 => ?_)
  · refine g_tableIn C (v := 0) (off := 43) (tgt := 44) dX11_count_1 h1 (by decide) (by decide) (by decide) (by decide) ?_
    refine g_aload_n C dX11_count_44 rfl 0 rfl ?_
    refine g_callV C (n := 0) (ci := 10) [] [] (m_X11_sheetsHeld a0 S) dX11_count_45 gX11_count_X11_sheetsHeld rfl ⟨rfl, rfl⟩ (by decide +kernel) ⟨by decide, by decide⟩ ⟨by decide, by decide⟩ rfl (by decide) rfl rfl (by first | exact Nat.le_of_ble_eq_true rfl | simp [va_rf_cat, vi_cat, vl_cat]) (fun o2 eo2 => ?_)
    show G Γ cvI 2 0 0 48 [(0, va_rf a0), (1, .int x1)] [.int o2.1] o2.2 _
    exact g_iret C dX11_count_48 ⟨by decide, by decide⟩
  refine g_ite (fun h3 => ?_) (fun h3 => ?_)
  · refine g_tableIn C (v := 1) (off := 48) (tgt := 49) dX11_count_1 h3 (by decide) (by decide) (by decide) (by decide) ?_
    refine g_aload_n C dX11_count_49 rfl 0 rfl ?_
    refine g_getR C (ci := 10) (k := 1) dX11_count_50 rfl (by decide) (by decide) (by decide) ulX11_count_X11 flX11_count_18 rfl (fun v4 ev4 => ?_)
    refine g_getI C (ci := 8) (k := 3) dX11_count_53 rfl (by decide) (by decide) (by decide) ulX11_count_X9 flX11_count_100 rfl (fun v5 ev5 => ?_)
    exact g_iret C dX11_count_56 ⟨by decide, by decide⟩
  refine g_ite (fun h6 => ?_) (fun h6 => ?_)
  · refine g_tableIn C (v := 2) (off := 56) (tgt := 57) dX11_count_1 h6 (by decide) (by decide) (by decide) (by decide) ?_
    refine g_aload_n C dX11_count_57 rfl 0 rfl ?_
    refine g_getR C (ci := 10) (k := 1) dX11_count_58 rfl (by decide) (by decide) (by decide) ulX11_count_X11 flX11_count_18 rfl (fun v7 ev7 => ?_)
    refine g_callV C (n := 0) (ci := 8) [] [] (m_X9_pointsOfAll v7 S) dX11_count_61 gX11_count_X9_pointsOfAll rfl ⟨rfl, rfl⟩ (by decide +kernel) ⟨by decide, by decide⟩ ⟨by decide, by decide⟩ rfl (by decide) rfl rfl (by first | exact Nat.le_of_ble_eq_true rfl | simp [va_rf_cat, vi_cat, vl_cat]) (fun o8 eo8 => ?_)
    show G Γ cvI 2 0 0 64 [(0, va_rf a0), (1, .int x1)] [.int o8.1] o8.2 _
    exact g_iret C dX11_count_64 ⟨by decide, by decide⟩
  refine g_ite (fun h9 => ?_) (fun h9 => ?_)
  · refine g_tableIn C (v := 3) (off := 64) (tgt := 65) dX11_count_1 h9 (by decide) (by decide) (by decide) (by decide) ?_
    refine g_aload_n C dX11_count_65 rfl 0 rfl ?_
    refine g_getR C (ci := 10) (k := 1) dX11_count_66 rfl (by decide) (by decide) (by decide) ulX11_count_X11 flX11_count_18 rfl (fun v10 ev10 => ?_)
    refine g_callV C (n := 0) (ci := 8) [] [] (m_X9_loops v10 S) dX11_count_69 gX11_count_X9_loops rfl ⟨rfl, rfl⟩ (by decide +kernel) ⟨by decide, by decide⟩ ⟨by decide, by decide⟩ rfl (by decide) rfl rfl (by first | exact Nat.le_of_ble_eq_true rfl | simp [va_rf_cat, vi_cat, vl_cat]) (fun o11 eo11 => ?_)
    show G Γ cvI 2 0 0 72 [(0, va_rf a0), (1, .int x1)] [.int o11.1] o11.2 _
    exact g_iret C dX11_count_72 ⟨by decide, by decide⟩
  refine g_ite (fun h12 => ?_) (fun h12 => ?_)
  · refine g_tableIn C (v := 4) (off := 72) (tgt := 73) dX11_count_1 h12 (by decide) (by decide) (by decide) (by decide) ?_
    refine g_aload_n C dX11_count_73 rfl 0 rfl ?_
    refine g_getR C (ci := 10) (k := 3) dX11_count_74 rfl (by decide) (by decide) (by decide) ulX11_count_X11 flX11_count_32 rfl (fun v13 ev13 => ?_)
    refine g_callV C (n := 0) (ci := 6) [] [] (m_X6_zonesShut v13 S) dX11_count_77 gX11_count_X6_zonesShut rfl ⟨rfl, rfl⟩ (by decide +kernel) ⟨by decide, by decide⟩ ⟨by decide, by decide⟩ rfl (by decide) rfl rfl (by first | exact Nat.le_of_ble_eq_true rfl | simp [va_rf_cat, vi_cat, vl_cat]) (fun o14 eo14 => ?_)
    show G Γ cvI 2 0 0 80 [(0, va_rf a0), (1, .int x1)] [.int o14.1] o14.2 _
    exact g_iret C dX11_count_80 ⟨by decide, by decide⟩
  refine g_ite (fun h15 => ?_) (fun h15 => ?_)
  · refine g_tableIn C (v := 5) (off := 80) (tgt := 81) dX11_count_1 h15 (by decide) (by decide) (by decide) (by decide) ?_
    refine g_aload_n C dX11_count_81 rfl 0 rfl ?_
    refine g_getR C (ci := 10) (k := 4) dX11_count_82 rfl (by decide) (by decide) (by decide) ulX11_count_X11 flX11_count_39 rfl (fun v16 ev16 => ?_)
    refine g_getI C (ci := 0) (k := 2) dX11_count_85 rfl (by decide) (by decide) (by decide) ulX11_count_X0 flX11_count_285 rfl (fun v17 ev17 => ?_)
    exact g_iret C dX11_count_88 ⟨by decide, by decide⟩
  refine g_ite (fun h18 => ?_) (fun h18 => ?_)
  · refine g_tableIn C (v := 6) (off := 88) (tgt := 89) dX11_count_1 h18 (by decide) (by decide) (by decide) (by decide) ?_
    refine g_aload_n C dX11_count_89 rfl 0 rfl ?_
    refine g_getR C (ci := 10) (k := 4) dX11_count_90 rfl (by decide) (by decide) (by decide) ulX11_count_X11 flX11_count_39 rfl (fun v19 ev19 => ?_)
    refine g_getI C (ci := 0) (k := 1) dX11_count_93 rfl (by decide) (by decide) (by decide) ulX11_count_X0 flX11_count_243 rfl (fun v20 ev20 => ?_)
    exact g_iret C dX11_count_96 ⟨by decide, by decide⟩
  refine g_tableOut C (tgt := 97) dX11_count_1 (by have n0 := sw_n (k := 0) (by decide) h1; have n1 := sw_n (k := 1) (by decide) h3; have n2 := sw_n (k := 2) (by decide) h6; have n3 := sw_n (k := 3) (by decide) h9; have n4 := sw_n (k := 4) (by decide) h12; have n5 := sw_n (k := 5) (by decide) h15; have n6 := sw_n (k := 6) (by decide) h18; omega) (by decide) ?_
  refine g_ldc C (v := (-1000001 : Int32)) dX11_count_97 (by decide +kernel) ?_
  exact g_iret C dX11_count_99 ⟨by decide, by decide⟩
abbrev rmX11_status : Room := { frames := 0, cells := 0, slots := 0, locals := 0 }
theorem flX11_status_288 : Cond.fieldLink RX11 288 "LightLines" "finding" "I" ∈ wsX11_status := by decide +kernel
set_option maxRecDepth 100000 in
theorem ulX11_status_X11 : ∀ w ∈ u_ws RX11 TX11 7, w ∈ wsX11_status := by decide +kernel
set_option maxHeartbeats 4000000 in
set_option maxRecDepth 100000 in
theorem m_X11_status (a0 : Option Nat) (S : St) : ∀ l D cy H0 o, f_X11_status a0 S = some o → Met l yX11_status wsX11_status rmX11_status (Pq D cy H0 [va_rf a0] S) (Qx D cy H0 (cvI o)) 0 0 (fun q => H0.size ≤ q) := by
  refine met_of (cc := cX11_status) (maxL := 1) (ret := (some .int)) [va_rf a0] [(0, va_rf a0)] (by decide) rfl rfl (by simp [lg_sl, va_rf_cat, vi_cat, vl_cat]) (by simp [lv_args, va_rf_cat, vi_cat, vl_cat]) (fun Γ C => ?_)
  unfold f_X11_status
  refine g_aload_n C dX11_status_0 rfl 0 rfl ?_
  refine g_getI C (ci := 10) (k := 6) dX11_status_1 rfl (by decide) (by decide) (by decide) ulX11_status_X11 flX11_status_288 rfl (fun v1 ev1 => ?_)
  exact g_iret C dX11_status_4 ⟨by decide, by decide⟩
