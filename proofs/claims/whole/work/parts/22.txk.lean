abbrev rmX11_sheetsHeld : Room := { frames := 1, cells := 0, slots := 0, locals := 20 }
theorem flX11_sheetsHeld_11 : Cond.fieldLink RX11 11 "LightLines" "sheets" "[LLightLines$Sheet;" ∈ wsX11_sheetsHeld := by decide +kernel
set_option maxRecDepth 100000 in
theorem ulX11_sheetsHeld_X11 : ∀ w ∈ u_ws RX11 TX11 7, w ∈ wsX11_sheetsHeld := by decide +kernel
set_option maxHeartbeats 4000000 in
set_option maxRecDepth 100000 in
theorem t_X11_sheetsHeld_25 {Γ : Cx} (C : CF Γ cX11_sheetsHeld 3 (some .int) wsX11_sheetsHeld RX11 rmX11_sheetsHeld 0 0) (rc4 : Option Nat → Int32 → Int32 → St → Option (Int32 × St)) (hrc4 : ∀ (a0 : Option Nat) (x1 : Int32) (x2 : Int32) (S : St), G Γ cvI 3 0 0 4 [(0, va_rf a0), (1, .int x1), (2, .int x2)] [] S (rc4 a0 x1 x2 S)) (a0 : Option Nat) (x1 : Int32) (x2 : Int32) (S : St) : G Γ cvI 3 0 0 25 [(0, va_rf a0), (1, .int x1), (2, .int x2)] [] S (b_X11_sheetsHeld_25 rc4 a0 x1 x2 S) := by
  unfold b_X11_sheetsHeld_25
  refine g_iinc1 C dX11_sheetsHeld_25 2 rfl (by decide) (by decide) (fun y1 => ?_)
  refine g_lveq (lv2 := [(2, .int y1), (0, va_rf a0), (1, .int x1)]) (by first | rfl | simp [va_rf_cat, vi_cat, vl_cat]) ?_
  refine g_goto C (tgt := 4) dX11_sheetsHeld_28 (by decide) ?_
  exact g_sub (lv2 := [(0, va_rf a0), (1, .int x1), (2, .int y1)]) [1, 2, 0] rfl (hrc4 a0 x1 y1 S)
set_option maxHeartbeats 4000000 in
set_option maxRecDepth 100000 in
theorem t_X11_sheetsHeld_31 {Γ : Cx} (C : CF Γ cX11_sheetsHeld 3 (some .int) wsX11_sheetsHeld RX11 rmX11_sheetsHeld 0 0) (x1 : Int32) (S : St) : G Γ cvI 3 0 0 31 [(1, .int x1)] [] S (b_X11_sheetsHeld_31  x1 S) := by
  unfold b_X11_sheetsHeld_31
  refine g_iload_n C dX11_sheetsHeld_31 rfl 0 rfl ?_
  exact g_iret C dX11_sheetsHeld_32 ⟨by decide, by decide⟩
set_option maxHeartbeats 4000000 in
set_option maxRecDepth 100000 in
theorem t_X11_sheetsHeld_4 {Γ : Cx} (C : CF Γ cX11_sheetsHeld 3 (some .int) wsX11_sheetsHeld RX11 rmX11_sheetsHeld 0 0) : ∀ (n : Nat) (a0 : Option Nat) (x1 : Int32) (x2 : Int32) (S : St), G Γ cvI 3 0 0 4 [(0, va_rf a0), (1, .int x1), (2, .int x2)] [] S (b_X11_sheetsHeld_4  n a0 x1 x2 S) := by
  intro n
  induction n with
  | zero => intro a0 x1 x2 S; exact g_none
  | succ n ih =>
    intro a0 x1 x2 S
    rw [b_X11_sheetsHeld_4]
    refine g_iload_n C dX11_sheetsHeld_4 rfl 2 rfl ?_
    refine g_bipush C (v := (8 : Int32)) dX11_sheetsHeld_5 (by decide) ?_
    refine g_icmp_ge C (tgt := 31) dX11_sheetsHeld_7 (by decide) (fun h1 => ?_) (fun h1 => ?_)
    · exact g_sub (lv2 := [(1, .int x1)]) [1] rfl (t_X11_sheetsHeld_31 C x1 S)
    · refine g_aload_n C dX11_sheetsHeld_10 rfl 0 rfl ?_
      refine g_getR C (ci := 10) (k := 0) dX11_sheetsHeld_11 rfl (by decide) (by decide) (by decide) ulX11_sheetsHeld_X11 flX11_sheetsHeld_11 rfl (fun v2 ev2 => ?_)
      refine g_iload_n C dX11_sheetsHeld_14 rfl 2 rfl ?_
      refine g_ald16 C dX11_sheetsHeld_15 (fun v3 ev3 => ?_)
      refine g_callV C (n := 0) (ci := 5) [] [] (m_X5_isMissing v3 S) dX11_sheetsHeld_16 gX11_sheetsHeld_X5_isMissing rfl ⟨rfl, rfl⟩ (by decide +kernel) ⟨by decide, by decide⟩ ⟨by decide, by decide⟩ rfl (by decide) rfl rfl (by first | exact Nat.le_of_ble_eq_true rfl | simp [va_rf_cat, vi_cat, vl_cat]) (fun o4 eo4 => ?_)
      show G Γ cvI 3 0 0 19 [(0, va_rf a0), (1, .int x1), (2, .int x2)] [.int o4.1] o4.2 _
      refine g_if_ne C (tgt := 25) dX11_sheetsHeld_19 (by decide) (fun h5 => ?_) (fun h5 => ?_)
      · refine g_iinc1 C dX11_sheetsHeld_22 1 rfl (by decide) (by decide) (fun y6 => ?_)
        refine g_lveq (lv2 := [(1, .int y6), (0, va_rf a0), (2, .int x2)]) (by first | rfl | simp [va_rf_cat, vi_cat, vl_cat]) ?_
        exact g_sub (lv2 := [(0, va_rf a0), (1, .int y6), (2, .int x2)]) [1, 0, 2] rfl (t_X11_sheetsHeld_25 C (b_X11_sheetsHeld_4 n) ih a0 y6 x2 o4.2)
      · exact g_sub (lv2 := [(0, va_rf a0), (1, .int x1), (2, .int x2)]) [0, 1, 2] rfl (t_X11_sheetsHeld_25 C (b_X11_sheetsHeld_4 n) ih a0 x1 x2 o4.2)
set_option maxHeartbeats 4000000 in
set_option maxRecDepth 100000 in
theorem m_X11_sheetsHeld (a0 : Option Nat) (S : St) : ∀ l D cy H0 o, f_X11_sheetsHeld a0 S = some o → Met l yX11_sheetsHeld wsX11_sheetsHeld rmX11_sheetsHeld (Pq D cy H0 [va_rf a0] S) (Qx D cy H0 (cvI o)) 0 0 (fun q => H0.size ≤ q) := by
  refine met_of (cc := cX11_sheetsHeld) (maxL := 3) (ret := (some .int)) [va_rf a0] [(0, va_rf a0)] (by decide) rfl rfl (by simp [lg_sl, va_rf_cat, vi_cat, vl_cat]) (by simp [lv_args, va_rf_cat, vi_cat, vl_cat]) (fun Γ C => ?_)
  unfold f_X11_sheetsHeld
  refine g_iconst C (v := (0 : Int32)) dX11_sheetsHeld_0 (by decide) ?_
  refine g_istore_n C (i := 1) (lv2 := [(1, .int (0 : Int32)), (0, va_rf a0)]) dX11_sheetsHeld_1 rfl (by decide) (by first | rfl | simp [va_rf_cat, vi_cat, vl_cat]) ?_
  refine g_iconst C (v := (0 : Int32)) dX11_sheetsHeld_2 (by decide) ?_
  refine g_istore_n C (i := 2) (lv2 := [(2, .int (0 : Int32)), (1, .int (0 : Int32)), (0, va_rf a0)]) dX11_sheetsHeld_3 rfl (by decide) (by first | rfl | simp [va_rf_cat, vi_cat, vl_cat]) ?_
  exact g_sub (lv2 := [(0, va_rf a0), (1, .int (0 : Int32)), (2, .int (0 : Int32))]) [2, 1, 0] rfl (t_X11_sheetsHeld_4 C FU a0 (0 : Int32) (0 : Int32) S)
abbrev rmX11_count : Room := { frames := 2, cells := 0, slots := 0, locals := 44 }
theorem flX11_count_18 : Cond.fieldLink RX11 18 "LightLines" "strokes" "LLightLines$Strokes;" ∈ wsX11_count := by decide +kernel
theorem flX11_count_32 : Cond.fieldLink RX11 32 "LightLines" "show" "LLightLines$Show;" ∈ wsX11_count := by decide +kernel
theorem flX11_count_39 : Cond.fieldLink RX11 39 "LightLines" "cues" "LLightLines$Cues;" ∈ wsX11_count := by decide +kernel
theorem flX11_count_100 : Cond.fieldLink RX11 100 "LightLines$Strokes" "held" "I" ∈ wsX11_count := by decide +kernel
theorem flX11_count_243 : Cond.fieldLink RX11 243 "LightLines$Cues" "length" "I" ∈ wsX11_count := by decide +kernel
theorem flX11_count_285 : Cond.fieldLink RX11 285 "LightLines$Cues" "kept" "I" ∈ wsX11_count := by decide +kernel
set_option maxRecDepth 100000 in
theorem ulX11_count_X0 : ∀ w ∈ u_ws RX0 TX0 10, w ∈ wsX11_count := by decide +kernel
set_option maxRecDepth 100000 in
theorem ulX11_count_X11 : ∀ w ∈ u_ws RX11 TX11 7, w ∈ wsX11_count := by decide +kernel
set_option maxRecDepth 100000 in
theorem ulX11_count_X9 : ∀ w ∈ u_ws RX9 TX9 4, w ∈ wsX11_count := by decide +kernel
set_option maxHeartbeats 4000000 in
set_option maxRecDepth 100000 in
theorem m_X11_count (a0 : Option Nat) (x1 : Int32) (S : St) : ∀ l D cy H0 o, f_X11_count a0 x1 S = some o → Met l yX11_count wsX11_count rmX11_count (Pq D cy H0 [va_rf a0, .int x1] S) (Qx D cy H0 (cvI o)) 0 0 (fun q => H0.size ≤ q) := by
  refine met_of (cc := cX11_count) (maxL := 2) (ret := (some .int)) [va_rf a0, .int x1] [(0, va_rf a0), (1, .int x1)] (by decide) rfl rfl (by simp [lg_sl, va_rf_cat, vi_cat, vl_cat]) (by simp [lv_args, va_rf_cat, vi_cat, vl_cat]) (fun Γ C => ?_)
  unfold f_X11_count
  refine g_iload_n C dX11_count_0 rfl 1 rfl ?_
  refine g_ite (fun h1 => ?_) (fun h1 => ?_)
  · refine g_tableIn C (v := 0) (off := 43) (tgt := 44) dX11_count_1 h1 (by decide) (by decide) (by decide) (by decide) ?_
    refine g_aload_n C dX11_count_44 rfl 0 rfl ?_
    refine g_callV C (n := 0) (ci := 10) [] [] (m_X11_sheetsHeld a0 S) dX11_count_45 gX11_count_X11_sheetsHeld rfl ⟨rfl, rfl⟩ (by decide +kernel) ⟨by decide, by decide⟩ ⟨by decide, by decide⟩ rfl (by decide) rfl rfl (by first | exact Nat.le_of_ble_eq_true rfl | simp [va_rf_cat, vi_cat, vl_cat]) (fun o2 eo2 => ?_)
    show G Γ cvI 2 0 0 48 [(0, va_rf a0), (1, .int x1)] [.int o2.1] o2.2 _
    exact g_iret C dX11_count_48 ⟨by decide, by decide⟩
  refine g_ite (fun h3 => ?_) (fun h3 => ?_)
  · refine g_tableIn C (v := 1) (off := 48) (tgt := 49) dX11_count_1 h3 (by decide) (by decide) (by decide) (by decide) ?_
    refine g_aload_n C dX11_count_49 rfl 0 rfl ?_
    refine g_getR C (ci := 10) (k := 1) dX11_count_50 rfl (by decide) (by decide) (by decide) ulX11_count_X11 flX11_count_18 rfl (fun v4 ev4 => ?_)
    refine g_getI C (ci := 8) (k := 3) dX11_count_53 rfl (by decide) (by decide) (by decide) ulX11_count_X9 flX11_count_100 rfl (fun v5 ev5 => ?_)
    exact g_iret C dX11_count_56 ⟨by decide, by decide⟩
  refine g_ite (fun h6 => ?_) (fun h6 => ?_)
  · refine g_tableIn C (v := 2) (off := 56) (tgt := 57) dX11_count_1 h6 (by decide) (by decide) (by decide) (by decide) ?_
    refine g_aload_n C dX11_count_57 rfl 0 rfl ?_
    refine g_getR C (ci := 10) (k := 1) dX11_count_58 rfl (by decide) (by decide) (by decide) ulX11_count_X11 flX11_count_18 rfl (fun v7 ev7 => ?_)
    refine g_callV C (n := 0) (ci := 8) [] [] (m_X9_pointsOfAll v7 S) dX11_count_61 gX11_count_X9_pointsOfAll rfl ⟨rfl, rfl⟩ (by decide +kernel) ⟨by decide, by decide⟩ ⟨by decide, by decide⟩ rfl (by decide) rfl rfl (by first | exact Nat.le_of_ble_eq_true rfl | simp [va_rf_cat, vi_cat, vl_cat]) (fun o8 eo8 => ?_)
    show G Γ cvI 2 0 0 64 [(0, va_rf a0), (1, .int x1)] [.int o8.1] o8.2 _
    exact g_iret C dX11_count_64 ⟨by decide, by decide⟩
  refine g_ite (fun h9 => ?_) (fun h9 => ?_)
  · refine g_tableIn C (v := 3) (off := 64) (tgt := 65) dX11_count_1 h9 (by decide) (by decide) (by decide) (by decide) ?_
    refine g_aload_n C dX11_count_65 rfl 0 rfl ?_
    refine g_getR C (ci := 10) (k := 1) dX11_count_66 rfl (by decide) (by decide) (by decide) ulX11_count_X11 flX11_count_18 rfl (fun v10 ev10 => ?_)
    refine g_callV C (n := 0) (ci := 8) [] [] (m_X9_loops v10 S) dX11_count_69 gX11_count_X9_loops rfl ⟨rfl, rfl⟩ (by decide +kernel) ⟨by decide, by decide⟩ ⟨by decide, by decide⟩ rfl (by decide) rfl rfl (by first | exact Nat.le_of_ble_eq_true rfl | simp [va_rf_cat, vi_cat, vl_cat]) (fun o11 eo11 => ?_)
    show G Γ cvI 2 0 0 72 [(0, va_rf a0), (1, .int x1)] [.int o11.1] o11.2 _
    exact g_iret C dX11_count_72 ⟨by decide, by decide⟩
  refine g_ite (fun h12 => ?_) (fun h12 => ?_)
  · refine g_tableIn C (v := 4) (off := 72) (tgt := 73) dX11_count_1 h12 (by decide) (by decide) (by decide) (by decide) ?_
    refine g_aload_n C dX11_count_73 rfl 0 rfl ?_
    refine g_getR C (ci := 10) (k := 3) dX11_count_74 rfl (by decide) (by decide) (by decide) ulX11_count_X11 flX11_count_32 rfl (fun v13 ev13 => ?_)
    refine g_callV C (n := 0) (ci := 6) [] [] (m_X6_zonesShut v13 S) dX11_count_77 gX11_count_X6_zonesShut rfl ⟨rfl, rfl⟩ (by decide +kernel) ⟨by decide, by decide⟩ ⟨by decide, by decide⟩ rfl (by decide) rfl rfl (by first | exact Nat.le_of_ble_eq_true rfl | simp [va_rf_cat, vi_cat, vl_cat]) (fun o14 eo14 => ?_)
    show G Γ cvI 2 0 0 80 [(0, va_rf a0), (1, .int x1)] [.int o14.1] o14.2 _
    exact g_iret C dX11_count_80 ⟨by decide, by decide⟩
  refine g_ite (fun h15 => ?_) (fun h15 => ?_)
  · refine g_tableIn C (v := 5) (off := 80) (tgt := 81) dX11_count_1 h15 (by decide) (by decide) (by decide) (by decide) ?_
    refine g_aload_n C dX11_count_81 rfl 0 rfl ?_
    refine g_getR C (ci := 10) (k := 4) dX11_count_82 rfl (by decide) (by decide) (by decide) ulX11_count_X11 flX11_count_39 rfl (fun v16 ev16 => ?_)
    refine g_getI C (ci := 0) (k := 2) dX11_count_85 rfl (by decide) (by decide) (by decide) ulX11_count_X0 flX11_count_285 rfl (fun v17 ev17 => ?_)
    exact g_iret C dX11_count_88 ⟨by decide, by decide⟩
  refine g_ite (fun h18 => ?_) (fun h18 => ?_)
  · refine g_tableIn C (v := 6) (off := 88) (tgt := 89) dX11_count_1 h18 (by decide) (by decide) (by decide) (by decide) ?_
    refine g_aload_n C dX11_count_89 rfl 0 rfl ?_
    refine g_getR C (ci := 10) (k := 4) dX11_count_90 rfl (by decide) (by decide) (by decide) ulX11_count_X11 flX11_count_39 rfl (fun v19 ev19 => ?_)
    refine g_getI C (ci := 0) (k := 1) dX11_count_93 rfl (by decide) (by decide) (by decide) ulX11_count_X0 flX11_count_243 rfl (fun v20 ev20 => ?_)
    exact g_iret C dX11_count_96 ⟨by decide, by decide⟩
  refine g_tableOut C (tgt := 97) dX11_count_1 (by have n0 := sw_n (k := 0) (by decide) h1; have n1 := sw_n (k := 1) (by decide) h3; have n2 := sw_n (k := 2) (by decide) h6; have n3 := sw_n (k := 3) (by decide) h9; have n4 := sw_n (k := 4) (by decide) h12; have n5 := sw_n (k := 5) (by decide) h15; have n6 := sw_n (k := 6) (by decide) h18; omega) (by decide) ?_
  refine g_ldc C (v := (-1000001 : Int32)) dX11_count_97 (by decide +kernel) ?_
  exact g_iret C dX11_count_99 ⟨by decide, by decide⟩
abbrev rmX11_status : Room := { frames := 0, cells := 0, slots := 0, locals := 0 }
theorem flX11_status_288 : Cond.fieldLink RX11 288 "LightLines" "finding" "I" ∈ wsX11_status := by decide +kernel
set_option maxRecDepth 100000 in
theorem ulX11_status_X11 : ∀ w ∈ u_ws RX11 TX11 7, w ∈ wsX11_status := by decide +kernel
set_option maxHeartbeats 4000000 in
set_option maxRecDepth 100000 in
theorem m_X11_status (a0 : Option Nat) (S : St) : ∀ l D cy H0 o, f_X11_status a0 S = some o → Met l yX11_status wsX11_status rmX11_status (Pq D cy H0 [va_rf a0] S) (Qx D cy H0 (cvI o)) 0 0 (fun q => H0.size ≤ q) := by
  refine met_of (cc := cX11_status) (maxL := 1) (ret := (some .int)) [va_rf a0] [(0, va_rf a0)] (by decide) rfl rfl (by simp [lg_sl, va_rf_cat, vi_cat, vl_cat]) (by simp [lv_args, va_rf_cat, vi_cat, vl_cat]) (fun Γ C => ?_)
  unfold f_X11_status
  refine g_aload_n C dX11_status_0 rfl 0 rfl ?_
  refine g_getI C (ci := 10) (k := 6) dX11_status_1 rfl (by decide) (by decide) (by decide) ulX11_status_X11 flX11_status_288 rfl (fun v1 ev1 => ?_)
  exact g_iret C dX11_status_4 ⟨by decide, by decide⟩
abbrev rmX12_init : Room := { frames := 1, cells := 23, slots := 17143, locals := 24 }
theorem flX12_init_17 : Cond.fieldLink RX12 17 "LightLinesModel" "lane" "[I" ∈ wsX12_init := by decide +kernel
theorem flX12_init_21 : Cond.fieldLink RX12 21 "LightLinesModel" "many" "[I" ∈ wsX12_init := by decide +kernel
theorem flX12_init_24 : Cond.fieldLink RX12 24 "LightLinesModel" "item" "[I" ∈ wsX12_init := by decide +kernel
theorem flX12_init_27 : Cond.fieldLink RX12 27 "LightLinesModel" "points" "[I" ∈ wsX12_init := by decide +kernel
theorem flX12_init_30 : Cond.fieldLink RX12 30 "LightLinesModel" "px" "[I" ∈ wsX12_init := by decide +kernel
theorem flX12_init_33 : Cond.fieldLink RX12 33 "LightLinesModel" "py" "[I" ∈ wsX12_init := by decide +kernel
theorem flX12_init_36 : Cond.fieldLink RX12 36 "LightLinesModel" "order" "[I" ∈ wsX12_init := by decide +kernel
theorem flX12_init_39 : Cond.fieldLink RX12 39 "LightLinesModel" "back" "[I" ∈ wsX12_init := by decide +kernel
theorem flX12_init_42 : Cond.fieldLink RX12 42 "LightLinesModel" "least" "[I" ∈ wsX12_init := by decide +kernel
theorem flX12_init_45 : Cond.fieldLink RX12 45 "LightLinesModel" "rule" "[I" ∈ wsX12_init := by decide +kernel
theorem flX12_init_48 : Cond.fieldLink RX12 48 "LightLinesModel" "isZone" "[Z" ∈ wsX12_init := by decide +kernel
theorem flX12_init_52 : Cond.fieldLink RX12 52 "LightLinesModel" "zone" "[I" ∈ wsX12_init := by decide +kernel
theorem flX12_init_55 : Cond.fieldLink RX12 55 "LightLinesModel" "toldX" "[I" ∈ wsX12_init := by decide +kernel
theorem flX12_init_58 : Cond.fieldLink RX12 58 "LightLinesModel" "toldY" "[I" ∈ wsX12_init := by decide +kernel
theorem flX12_init_61 : Cond.fieldLink RX12 61 "LightLinesModel" "isTold" "[Z" ∈ wsX12_init := by decide +kernel
theorem flX12_init_64 : Cond.fieldLink RX12 64 "LightLinesModel" "mirrorX" "[I" ∈ wsX12_init := by decide +kernel
theorem flX12_init_67 : Cond.fieldLink RX12 67 "LightLinesModel" "mirrorY" "[I" ∈ wsX12_init := by decide +kernel
theorem flX12_init_70 : Cond.fieldLink RX12 70 "LightLinesModel" "isShut" "[Z" ∈ wsX12_init := by decide +kernel
theorem flX12_init_73 : Cond.fieldLink RX12 73 "LightLinesModel" "burns" "[I" ∈ wsX12_init := by decide +kernel
theorem flX12_init_76 : Cond.fieldLink RX12 76 "LightLinesModel" "tape" "[I" ∈ wsX12_init := by decide +kernel
theorem flX12_init_79 : Cond.fieldLink RX12 79 "LightLinesModel" "cue" "[I" ∈ wsX12_init := by decide +kernel
theorem flX12_init_82 : Cond.fieldLink RX12 82 "LightLinesModel" "reads" "[I" ∈ wsX12_init := by decide +kernel
theorem flX12_init_85 : Cond.fieldLink RX12 85 "LightLinesModel" "trace" "[I" ∈ wsX12_init := by decide +kernel
set_option maxRecDepth 100000 in
theorem ulX12_init_X12 : ∀ w ∈ u_ws RX12 TX12 42, w ∈ wsX12_init := by decide +kernel
set_option maxHeartbeats 4000000 in
set_option maxRecDepth 100000 in
theorem m_X12_init (a0 : Nat) (S : St) : ∀ l D cy H0 o, f_X12_init a0 S = some o → Met l yX12_init wsX12_init rmX12_init (Pq D cy H0 [va_rf (some a0)] S) (Qx D cy H0 (cvV o)) 23 17143 (fun q => H0.size ≤ q) := by
  refine met_ofI (cc := cX12_init) (maxL := 1) (ret := none) [va_rf (some a0)] [(0, va_rf (some a0))] (by decide) rfl rfl rfl (by simp [lg_sl, va_rf_cat, vi_cat, vl_cat]) (by simp [lv_args, va_rf_cat, vi_cat, vl_cat]) (fun Γ C hN => ?_)
  unfold f_X12_init
  refine g_aload_n C dX12_init_0 rfl 0 rfl ?_
  refine g_objInit C dX12_init_1 (by decide +kernel) (by decide +kernel) (by decide +kernel) ⟨by decide, by decide⟩ (by first | exact Nat.le_of_ble_eq_true rfl | simp [va_rf_cat, vi_cat, vl_cat]) ?_
  refine g_aload_n C dX12_init_4 rfl 0 rfl ?_
  refine g_bipush C (v := (8 : Int32)) dX12_init_5 (by decide) ?_
  refine g_newa C (kd := 14) (t0 := 1) (mx := 8) (ty := .int) dX12_init_7 rfl rfl ⟨by decide, by decide⟩ (fun _ => rfl) (fun _ _ h => h) (by decide) (by decide +kernel) ⟨by decide, by decide⟩ (fun S1 eS1 => ?_)
  show G Γ cvV 1 1 8 9 [(0, va_rf (some a0))] [va_rf (some S.2.2.2), va_rf (some a0)] S1 _
  refine g_dupr C dX12_init_9 ?_
  refine g_iconst C (v := (0 : Int32)) dX12_init_10 (by decide) ?_
  refine g_iconst C (v := (-1 : Int32)) dX12_init_11 (by decide) ?_
  refine g_ist C dX12_init_12 (fun S2 eS2 => ?_)
  refine g_dupr C dX12_init_13 ?_
  refine g_iconst C (v := (1 : Int32)) dX12_init_14 (by decide) ?_
  refine g_iconst C (v := (-1 : Int32)) dX12_init_15 (by decide) ?_
  refine g_ist C dX12_init_16 (fun S3 eS3 => ?_)
  refine g_dupr C dX12_init_17 ?_
  refine g_iconst C (v := (2 : Int32)) dX12_init_18 (by decide) ?_
  refine g_iconst C (v := (-1 : Int32)) dX12_init_19 (by decide) ?_
  refine g_ist C dX12_init_20 (fun S4 eS4 => ?_)
  refine g_dupr C dX12_init_21 ?_
  refine g_iconst C (v := (3 : Int32)) dX12_init_22 (by decide) ?_
  refine g_iconst C (v := (-1 : Int32)) dX12_init_23 (by decide) ?_
  refine g_ist C dX12_init_24 (fun S5 eS5 => ?_)
  refine g_dupr C dX12_init_25 ?_
  refine g_iconst C (v := (4 : Int32)) dX12_init_26 (by decide) ?_
  refine g_iconst C (v := (-1 : Int32)) dX12_init_27 (by decide) ?_
  refine g_ist C dX12_init_28 (fun S6 eS6 => ?_)
  refine g_dupr C dX12_init_29 ?_
  refine g_iconst C (v := (5 : Int32)) dX12_init_30 (by decide) ?_
  refine g_iconst C (v := (-1 : Int32)) dX12_init_31 (by decide) ?_
  refine g_ist C dX12_init_32 (fun S7 eS7 => ?_)
  refine g_dupr C dX12_init_33 ?_
  refine g_bipush C (v := (6 : Int32)) dX12_init_34 (by decide) ?_
  refine g_iconst C (v := (-1 : Int32)) dX12_init_36 (by decide) ?_
  refine g_ist C dX12_init_37 (fun S8 eS8 => ?_)
  refine g_dupr C dX12_init_38 ?_
  refine g_bipush C (v := (7 : Int32)) dX12_init_39 (by decide) ?_
  refine g_iconst C (v := (-1 : Int32)) dX12_init_41 (by decide) ?_
  refine g_ist C dX12_init_42 (fun S9 eS9 => ?_)
  refine g_putFR C hN (ci := 11) (k := 2) (ty0 := tyX12) dX12_init_43 rfl (by decide) (by decide) (by decide) tyX12_ok nmX12 ulX12_init_X12 flX12_init_17 rfl rfl rfl (rf_fit_a _) (fun S10 eS10 => ?_)
  refine g_aload_n C dX12_init_46 rfl 0 rfl ?_
  refine g_bipush C (v := (8 : Int32)) dX12_init_47 (by decide) ?_
  refine g_newa C (kd := 14) (t0 := 1) (mx := 8) (ty := .int) dX12_init_49 rfl rfl ⟨by decide, by decide⟩ (fun _ => rfl) (fun _ _ h => h) (by decide) (by decide +kernel) ⟨by decide, by decide⟩ (fun S11 eS11 => ?_)
  show G Γ cvV 1 2 16 51 [(0, va_rf (some a0))] [va_rf (some S10.2.2.2), va_rf (some a0)] S11 _
  refine g_putFR C hN (ci := 11) (k := 3) (ty0 := tyX12) dX12_init_51 rfl (by decide) (by decide) (by decide) tyX12_ok nmX12 ulX12_init_X12 flX12_init_21 rfl rfl rfl (rf_fit_a _) (fun S12 eS12 => ?_)
  refine g_aload_n C dX12_init_54 rfl 0 rfl ?_
  refine g_sipush C (v := (320 : Int32)) dX12_init_55 (by decide) ?_
  refine g_newa C (kd := 14) (t0 := 1) (mx := 320) (ty := .int) dX12_init_58 rfl rfl ⟨by decide, by decide⟩ (fun _ => rfl) (fun _ _ h => h) (by decide) (by decide +kernel) ⟨by decide, by decide⟩ (fun S13 eS13 => ?_)
  show G Γ cvV 1 3 336 60 [(0, va_rf (some a0))] [va_rf (some S12.2.2.2), va_rf (some a0)] S13 _
  refine g_putFR C hN (ci := 11) (k := 4) (ty0 := tyX12) dX12_init_60 rfl (by decide) (by decide) (by decide) tyX12_ok nmX12 ulX12_init_X12 flX12_init_24 rfl rfl rfl (rf_fit_a _) (fun S14 eS14 => ?_)
  refine g_aload_n C dX12_init_63 rfl 0 rfl ?_
  refine g_bipush C (v := (8 : Int32)) dX12_init_64 (by decide) ?_
  refine g_newa C (kd := 14) (t0 := 1) (mx := 8) (ty := .int) dX12_init_66 rfl rfl ⟨by decide, by decide⟩ (fun _ => rfl) (fun _ _ h => h) (by decide) (by decide +kernel) ⟨by decide, by decide⟩ (fun S15 eS15 => ?_)
  show G Γ cvV 1 4 344 68 [(0, va_rf (some a0))] [va_rf (some S14.2.2.2), va_rf (some a0)] S15 _
  refine g_putFR C hN (ci := 11) (k := 6) (ty0 := tyX12) dX12_init_68 rfl (by decide) (by decide) (by decide) tyX12_ok nmX12 ulX12_init_X12 flX12_init_27 rfl rfl rfl (rf_fit_a _) (fun S16 eS16 => ?_)
  refine g_aload_n C dX12_init_71 rfl 0 rfl ?_
  refine g_bipush C (v := (64 : Int32)) dX12_init_72 (by decide) ?_
  refine g_newa C (kd := 14) (t0 := 1) (mx := 64) (ty := .int) dX12_init_74 rfl rfl ⟨by decide, by decide⟩ (fun _ => rfl) (fun _ _ h => h) (by decide) (by decide +kernel) ⟨by decide, by decide⟩ (fun S17 eS17 => ?_)
  show G Γ cvV 1 5 408 76 [(0, va_rf (some a0))] [va_rf (some S16.2.2.2), va_rf (some a0)] S17 _
  refine g_putFR C hN (ci := 11) (k := 7) (ty0 := tyX12) dX12_init_76 rfl (by decide) (by decide) (by decide) tyX12_ok nmX12 ulX12_init_X12 flX12_init_30 rfl rfl rfl (rf_fit_a _) (fun S18 eS18 => ?_)
  refine g_aload_n C dX12_init_79 rfl 0 rfl ?_
  refine g_bipush C (v := (64 : Int32)) dX12_init_80 (by decide) ?_
  refine g_newa C (kd := 14) (t0 := 1) (mx := 64) (ty := .int) dX12_init_82 rfl rfl ⟨by decide, by decide⟩ (fun _ => rfl) (fun _ _ h => h) (by decide) (by decide +kernel) ⟨by decide, by decide⟩ (fun S19 eS19 => ?_)
  show G Γ cvV 1 6 472 84 [(0, va_rf (some a0))] [va_rf (some S18.2.2.2), va_rf (some a0)] S19 _
  refine g_putFR C hN (ci := 11) (k := 8) (ty0 := tyX12) dX12_init_84 rfl (by decide) (by decide) (by decide) tyX12_ok nmX12 ulX12_init_X12 flX12_init_33 rfl rfl rfl (rf_fit_a _) (fun S20 eS20 => ?_)
  refine g_aload_n C dX12_init_87 rfl 0 rfl ?_
  refine g_bipush C (v := (8 : Int32)) dX12_init_88 (by decide) ?_
  refine g_newa C (kd := 14) (t0 := 1) (mx := 8) (ty := .int) dX12_init_90 rfl rfl ⟨by decide, by decide⟩ (fun _ => rfl) (fun _ _ h => h) (by decide) (by decide +kernel) ⟨by decide, by decide⟩ (fun S21 eS21 => ?_)
  show G Γ cvV 1 7 480 92 [(0, va_rf (some a0))] [va_rf (some S20.2.2.2), va_rf (some a0)] S21 _
  refine g_putFR C hN (ci := 11) (k := 9) (ty0 := tyX12) dX12_init_92 rfl (by decide) (by decide) (by decide) tyX12_ok nmX12 ulX12_init_X12 flX12_init_36 rfl rfl rfl (rf_fit_a _) (fun S22 eS22 => ?_)
  refine g_aload_n C dX12_init_95 rfl 0 rfl ?_
  refine g_bipush C (v := (8 : Int32)) dX12_init_96 (by decide) ?_
  refine g_newa C (kd := 14) (t0 := 1) (mx := 8) (ty := .int) dX12_init_98 rfl rfl ⟨by decide, by decide⟩ (fun _ => rfl) (fun _ _ h => h) (by decide) (by decide +kernel) ⟨by decide, by decide⟩ (fun S23 eS23 => ?_)
  show G Γ cvV 1 8 488 100 [(0, va_rf (some a0))] [va_rf (some S22.2.2.2), va_rf (some a0)] S23 _
  refine g_putFR C hN (ci := 11) (k := 10) (ty0 := tyX12) dX12_init_100 rfl (by decide) (by decide) (by decide) tyX12_ok nmX12 ulX12_init_X12 flX12_init_39 rfl rfl rfl (rf_fit_a _) (fun S24 eS24 => ?_)
  refine g_aload_n C dX12_init_103 rfl 0 rfl ?_
  refine g_sipush C (v := (4096 : Int32)) dX12_init_104 (by decide) ?_
  refine g_newa C (kd := 14) (t0 := 1) (mx := 4096) (ty := .int) dX12_init_107 rfl rfl ⟨by decide, by decide⟩ (fun _ => rfl) (fun _ _ h => h) (by decide) (by decide +kernel) ⟨by decide, by decide⟩ (fun S25 eS25 => ?_)
  show G Γ cvV 1 9 4584 109 [(0, va_rf (some a0))] [va_rf (some S24.2.2.2), va_rf (some a0)] S25 _
  refine g_putFR C hN (ci := 11) (k := 11) (ty0 := tyX12) dX12_init_109 rfl (by decide) (by decide) (by decide) tyX12_ok nmX12 ulX12_init_X12 flX12_init_42 rfl rfl rfl (rf_fit_a _) (fun S26 eS26 => ?_)
  refine g_aload_n C dX12_init_112 rfl 0 rfl ?_
  refine g_bipush C (v := (6 : Int32)) dX12_init_113 (by decide) ?_
  refine g_newa C (kd := 14) (t0 := 1) (mx := 6) (ty := .int) dX12_init_115 rfl rfl ⟨by decide, by decide⟩ (fun _ => rfl) (fun _ _ h => h) (by decide) (by decide +kernel) ⟨by decide, by decide⟩ (fun S27 eS27 => ?_)
  show G Γ cvV 1 10 4590 117 [(0, va_rf (some a0))] [va_rf (some S26.2.2.2), va_rf (some a0)] S27 _
  refine g_putFR C hN (ci := 11) (k := 12) (ty0 := tyX12) dX12_init_117 rfl (by decide) (by decide) (by decide) tyX12_ok nmX12 ulX12_init_X12 flX12_init_45 rfl rfl rfl (rf_fit_a _) (fun S28 eS28 => ?_)
  refine g_aload_n C dX12_init_120 rfl 0 rfl ?_
  refine g_iconst C (v := (4 : Int32)) dX12_init_121 (by decide) ?_
  refine g_newa C (kd := 15) (t0 := 2) (mx := 4) (ty := .boolean) dX12_init_122 rfl rfl ⟨by decide, by decide⟩ (fun _ => rfl) (fun _ _ h => h) (by decide) (by decide +kernel) ⟨by decide, by decide⟩ (fun S29 eS29 => ?_)
  show G Γ cvV 1 11 4594 124 [(0, va_rf (some a0))] [va_rf (some S28.2.2.2), va_rf (some a0)] S29 _
  refine g_putFR C hN (ci := 11) (k := 13) (ty0 := tyX12) dX12_init_124 rfl (by decide) (by decide) (by decide) tyX12_ok nmX12 ulX12_init_X12 flX12_init_48 rfl rfl rfl (rf_fit_a _) (fun S30 eS30 => ?_)
  refine g_aload_n C dX12_init_127 rfl 0 rfl ?_
  refine g_bipush C (v := (16 : Int32)) dX12_init_128 (by decide) ?_
  refine g_newa C (kd := 14) (t0 := 1) (mx := 16) (ty := .int) dX12_init_130 rfl rfl ⟨by decide, by decide⟩ (fun _ => rfl) (fun _ _ h => h) (by decide) (by decide +kernel) ⟨by decide, by decide⟩ (fun S31 eS31 => ?_)
  show G Γ cvV 1 12 4610 132 [(0, va_rf (some a0))] [va_rf (some S30.2.2.2), va_rf (some a0)] S31 _
  refine g_putFR C hN (ci := 11) (k := 14) (ty0 := tyX12) dX12_init_132 rfl (by decide) (by decide) (by decide) tyX12_ok nmX12 ulX12_init_X12 flX12_init_52 rfl rfl rfl (rf_fit_a _) (fun S32 eS32 => ?_)
  refine g_aload_n C dX12_init_135 rfl 0 rfl ?_
  refine g_sipush C (v := (2000 : Int32)) dX12_init_136 (by decide) ?_
  refine g_newa C (kd := 14) (t0 := 1) (mx := 2000) (ty := .int) dX12_init_139 rfl rfl ⟨by decide, by decide⟩ (fun _ => rfl) (fun _ _ h => h) (by decide) (by decide +kernel) ⟨by decide, by decide⟩ (fun S33 eS33 => ?_)
  show G Γ cvV 1 13 6610 141 [(0, va_rf (some a0))] [va_rf (some S32.2.2.2), va_rf (some a0)] S33 _
  refine g_putFR C hN (ci := 11) (k := 17) (ty0 := tyX12) dX12_init_141 rfl (by decide) (by decide) (by decide) tyX12_ok nmX12 ulX12_init_X12 flX12_init_55 rfl rfl rfl (rf_fit_a _) (fun S34 eS34 => ?_)
  refine g_aload_n C dX12_init_144 rfl 0 rfl ?_
  refine g_sipush C (v := (2000 : Int32)) dX12_init_145 (by decide) ?_
  refine g_newa C (kd := 14) (t0 := 1) (mx := 2000) (ty := .int) dX12_init_148 rfl rfl ⟨by decide, by decide⟩ (fun _ => rfl) (fun _ _ h => h) (by decide) (by decide +kernel) ⟨by decide, by decide⟩ (fun S35 eS35 => ?_)
  show G Γ cvV 1 14 8610 150 [(0, va_rf (some a0))] [va_rf (some S34.2.2.2), va_rf (some a0)] S35 _
  refine g_putFR C hN (ci := 11) (k := 18) (ty0 := tyX12) dX12_init_150 rfl (by decide) (by decide) (by decide) tyX12_ok nmX12 ulX12_init_X12 flX12_init_58 rfl rfl rfl (rf_fit_a _) (fun S36 eS36 => ?_)
  refine g_aload_n C dX12_init_153 rfl 0 rfl ?_
  refine g_sipush C (v := (2000 : Int32)) dX12_init_154 (by decide) ?_
  refine g_newa C (kd := 15) (t0 := 2) (mx := 2000) (ty := .boolean) dX12_init_157 rfl rfl ⟨by decide, by decide⟩ (fun _ => rfl) (fun _ _ h => h) (by decide) (by decide +kernel) ⟨by decide, by decide⟩ (fun S37 eS37 => ?_)
  show G Γ cvV 1 15 10610 159 [(0, va_rf (some a0))] [va_rf (some S36.2.2.2), va_rf (some a0)] S37 _
  refine g_putFR C hN (ci := 11) (k := 19) (ty0 := tyX12) dX12_init_159 rfl (by decide) (by decide) (by decide) tyX12_ok nmX12 ulX12_init_X12 flX12_init_61 rfl rfl rfl (rf_fit_a _) (fun S38 eS38 => ?_)
  refine g_aload_n C dX12_init_162 rfl 0 rfl ?_
  refine g_sipush C (v := (2000 : Int32)) dX12_init_163 (by decide) ?_
  refine g_newa C (kd := 14) (t0 := 1) (mx := 2000) (ty := .int) dX12_init_166 rfl rfl ⟨by decide, by decide⟩ (fun _ => rfl) (fun _ _ h => h) (by decide) (by decide +kernel) ⟨by decide, by decide⟩ (fun S39 eS39 => ?_)
  show G Γ cvV 1 16 12610 168 [(0, va_rf (some a0))] [va_rf (some S38.2.2.2), va_rf (some a0)] S39 _
  refine g_putFR C hN (ci := 11) (k := 20) (ty0 := tyX12) dX12_init_168 rfl (by decide) (by decide) (by decide) tyX12_ok nmX12 ulX12_init_X12 flX12_init_64 rfl rfl rfl (rf_fit_a _) (fun S40 eS40 => ?_)
  refine g_aload_n C dX12_init_171 rfl 0 rfl ?_
  refine g_sipush C (v := (2000 : Int32)) dX12_init_172 (by decide) ?_
  refine g_newa C (kd := 14) (t0 := 1) (mx := 2000) (ty := .int) dX12_init_175 rfl rfl ⟨by decide, by decide⟩ (fun _ => rfl) (fun _ _ h => h) (by decide) (by decide +kernel) ⟨by decide, by decide⟩ (fun S41 eS41 => ?_)
  show G Γ cvV 1 17 14610 177 [(0, va_rf (some a0))] [va_rf (some S40.2.2.2), va_rf (some a0)] S41 _
  refine g_putFR C hN (ci := 11) (k := 21) (ty0 := tyX12) dX12_init_177 rfl (by decide) (by decide) (by decide) tyX12_ok nmX12 ulX12_init_X12 flX12_init_67 rfl rfl rfl (rf_fit_a _) (fun S42 eS42 => ?_)
  refine g_aload_n C dX12_init_180 rfl 0 rfl ?_
  refine g_sipush C (v := (2000 : Int32)) dX12_init_181 (by decide) ?_
  refine g_newa C (kd := 15) (t0 := 2) (mx := 2000) (ty := .boolean) dX12_init_184 rfl rfl ⟨by decide, by decide⟩ (fun _ => rfl) (fun _ _ h => h) (by decide) (by decide +kernel) ⟨by decide, by decide⟩ (fun S43 eS43 => ?_)
  show G Γ cvV 1 18 16610 186 [(0, va_rf (some a0))] [va_rf (some S42.2.2.2), va_rf (some a0)] S43 _
  refine g_putFR C hN (ci := 11) (k := 22) (ty0 := tyX12) dX12_init_186 rfl (by decide) (by decide) (by decide) tyX12_ok nmX12 ulX12_init_X12 flX12_init_70 rfl rfl rfl (rf_fit_a _) (fun S44 eS44 => ?_)
  refine g_aload_n C dX12_init_189 rfl 0 rfl ?_
  refine g_bipush C (v := (121 : Int32)) dX12_init_190 (by decide) ?_
  refine g_newa C (kd := 14) (t0 := 1) (mx := 121) (ty := .int) dX12_init_192 rfl rfl ⟨by decide, by decide⟩ (fun _ => rfl) (fun _ _ h => h) (by decide) (by decide +kernel) ⟨by decide, by decide⟩ (fun S45 eS45 => ?_)
  show G Γ cvV 1 19 16731 194 [(0, va_rf (some a0))] [va_rf (some S44.2.2.2), va_rf (some a0)] S45 _
  refine g_putFR C hN (ci := 11) (k := 23) (ty0 := tyX12) dX12_init_194 rfl (by decide) (by decide) (by decide) tyX12_ok nmX12 ulX12_init_X12 flX12_init_73 rfl rfl rfl (rf_fit_a _) (fun S46 eS46 => ?_)
  refine g_aload_n C dX12_init_197 rfl 0 rfl ?_
  refine g_sipush C (v := (300 : Int32)) dX12_init_198 (by decide) ?_
  refine g_newa C (kd := 14) (t0 := 1) (mx := 300) (ty := .int) dX12_init_201 rfl rfl ⟨by decide, by decide⟩ (fun _ => rfl) (fun _ _ h => h) (by decide) (by decide +kernel) ⟨by decide, by decide⟩ (fun S47 eS47 => ?_)
  show G Γ cvV 1 20 17031 203 [(0, va_rf (some a0))] [va_rf (some S46.2.2.2), va_rf (some a0)] S47 _
  refine g_putFR C hN (ci := 11) (k := 26) (ty0 := tyX12) dX12_init_203 rfl (by decide) (by decide) (by decide) tyX12_ok nmX12 ulX12_init_X12 flX12_init_76 rfl rfl rfl (rf_fit_a _) (fun S48 eS48 => ?_)
  refine g_aload_n C dX12_init_206 rfl 0 rfl ?_
  refine g_bipush C (v := (48 : Int32)) dX12_init_207 (by decide) ?_
  refine g_newa C (kd := 14) (t0 := 1) (mx := 48) (ty := .int) dX12_init_209 rfl rfl ⟨by decide, by decide⟩ (fun _ => rfl) (fun _ _ h => h) (by decide) (by decide +kernel) ⟨by decide, by decide⟩ (fun S49 eS49 => ?_)
  show G Γ cvV 1 21 17079 211 [(0, va_rf (some a0))] [va_rf (some S48.2.2.2), va_rf (some a0)] S49 _
  refine g_putFR C hN (ci := 11) (k := 37) (ty0 := tyX12) dX12_init_211 rfl (by decide) (by decide) (by decide) tyX12_ok nmX12 ulX12_init_X12 flX12_init_79 rfl rfl rfl (rf_fit_a _) (fun S50 eS50 => ?_)
  refine g_aload_n C dX12_init_214 rfl 0 rfl ?_
  refine g_bipush C (v := (48 : Int32)) dX12_init_215 (by decide) ?_
  refine g_newa C (kd := 14) (t0 := 1) (mx := 48) (ty := .int) dX12_init_217 rfl rfl ⟨by decide, by decide⟩ (fun _ => rfl) (fun _ _ h => h) (by decide) (by decide +kernel) ⟨by decide, by decide⟩ (fun S51 eS51 => ?_)
  show G Γ cvV 1 22 17127 219 [(0, va_rf (some a0))] [va_rf (some S50.2.2.2), va_rf (some a0)] S51 _
  refine g_putFR C hN (ci := 11) (k := 39) (ty0 := tyX12) dX12_init_219 rfl (by decide) (by decide) (by decide) tyX12_ok nmX12 ulX12_init_X12 flX12_init_82 rfl rfl rfl (rf_fit_a _) (fun S52 eS52 => ?_)
  refine g_aload_n C dX12_init_222 rfl 0 rfl ?_
  refine g_bipush C (v := (16 : Int32)) dX12_init_223 (by decide) ?_
  refine g_newa C (kd := 14) (t0 := 1) (mx := 16) (ty := .int) dX12_init_225 rfl rfl ⟨by decide, by decide⟩ (fun _ => rfl) (fun _ _ h => h) (by decide) (by decide +kernel) ⟨by decide, by decide⟩ (fun S53 eS53 => ?_)
  show G Γ cvV 1 23 17143 227 [(0, va_rf (some a0))] [va_rf (some S52.2.2.2), va_rf (some a0)] S53 _
  refine g_putFR C hN (ci := 11) (k := 40) (ty0 := tyX12) dX12_init_227 rfl (by decide) (by decide) (by decide) tyX12_ok nmX12 ulX12_init_X12 flX12_init_85 rfl rfl rfl (rf_fit_a _) (fun S54 eS54 => ?_)
  refine g_aload_n C dX12_init_230 rfl 0 rfl ?_
  refine g_getR C (ci := 11) (k := 12) dX12_init_231 rfl (by decide) (by decide) (by decide) ulX12_init_X12 flX12_init_45 rfl (fun v55 ev55 => ?_)
  refine g_iconst C (v := (0 : Int32)) dX12_init_234 (by decide) ?_
  refine g_bipush C (v := (50 : Int32)) dX12_init_235 (by decide) ?_
  refine g_ist C dX12_init_237 (fun S56 eS56 => ?_)
  refine g_aload_n C dX12_init_238 rfl 0 rfl ?_
  refine g_getR C (ci := 11) (k := 12) dX12_init_239 rfl (by decide) (by decide) (by decide) ulX12_init_X12 flX12_init_45 rfl (fun v57 ev57 => ?_)
  refine g_iconst C (v := (1 : Int32)) dX12_init_242 (by decide) ?_
  refine g_iconst C (v := (1 : Int32)) dX12_init_243 (by decide) ?_
  refine g_ist C dX12_init_244 (fun S58 eS58 => ?_)
  refine g_aload_n C dX12_init_245 rfl 0 rfl ?_
  refine g_getR C (ci := 11) (k := 12) dX12_init_246 rfl (by decide) (by decide) (by decide) ulX12_init_X12 flX12_init_45 rfl (fun v59 ev59 => ?_)
  refine g_iconst C (v := (2 : Int32)) dX12_init_249 (by decide) ?_
  refine g_bipush C (v := (8 : Int32)) dX12_init_250 (by decide) ?_
  refine g_ist C dX12_init_252 (fun S60 eS60 => ?_)
  refine g_aload_n C dX12_init_253 rfl 0 rfl ?_
  refine g_getR C (ci := 11) (k := 12) dX12_init_254 rfl (by decide) (by decide) (by decide) ulX12_init_X12 flX12_init_45 rfl (fun v61 ev61 => ?_)
  refine g_iconst C (v := (3 : Int32)) dX12_init_257 (by decide) ?_
  refine g_bipush C (v := (10 : Int32)) dX12_init_258 (by decide) ?_
  refine g_ist C dX12_init_260 (fun S62 eS62 => ?_)
  refine g_aload_n C dX12_init_261 rfl 0 rfl ?_
  refine g_getR C (ci := 11) (k := 12) dX12_init_262 rfl (by decide) (by decide) (by decide) ulX12_init_X12 flX12_init_45 rfl (fun v63 ev63 => ?_)
  refine g_iconst C (v := (4 : Int32)) dX12_init_265 (by decide) ?_
  refine g_iconst C (v := (0 : Int32)) dX12_init_266 (by decide) ?_
  refine g_ist C dX12_init_267 (fun S64 eS64 => ?_)
  refine g_aload_n C dX12_init_268 rfl 0 rfl ?_
  refine g_getR C (ci := 11) (k := 12) dX12_init_269 rfl (by decide) (by decide) (by decide) ulX12_init_X12 flX12_init_45 rfl (fun v65 ev65 => ?_)
  refine g_iconst C (v := (5 : Int32)) dX12_init_272 (by decide) ?_
  refine g_bipush C (v := (40 : Int32)) dX12_init_273 (by decide) ?_
  refine g_ist C dX12_init_275 (fun S66 eS66 => ?_)
  exact g_vret C dX12_init_276 ⟨by decide, by decide⟩
