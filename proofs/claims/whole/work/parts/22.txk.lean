abbrev rmX11_all : Room := { frames := 6, cells := 0, slots := 0, locals := 150 }
theorem flX11_all_18 : Cond.fieldLink RX11 18 "LightLines" "strokes" "LLightLines$Strokes;" ∈ wsX11_all := by decide +kernel
theorem flX11_all_32 : Cond.fieldLink RX11 32 "LightLines" "show" "LLightLines$Show;" ∈ wsX11_all := by decide +kernel
theorem flX11_all_217 : Cond.fieldLink RX11 217 "LightLines$Show" "toldLit" "I" ∈ wsX11_all := by decide +kernel
theorem flX11_all_220 : Cond.fieldLink RX11 220 "LightLines$Show" "seenLit" "I" ∈ wsX11_all := by decide +kernel
theorem flX11_all_223 : Cond.fieldLink RX11 223 "LightLines$Show" "shutTicks" "I" ∈ wsX11_all := by decide +kernel
theorem flX11_all_226 : Cond.fieldLink RX11 226 "LightLines$Show" "greatestLag" "I" ∈ wsX11_all := by decide +kernel
theorem flX11_all_229 : Cond.fieldLink RX11 229 "LightLines$Show" "greatestBurn" "I" ∈ wsX11_all := by decide +kernel
theorem flX11_all_232 : Cond.fieldLink RX11 232 "LightLines$Show" "rules" "[I" ∈ wsX11_all := by decide +kernel
set_option maxRecDepth 100000 in
theorem ulX11_all_X11 : ∀ w ∈ u_ws RX11 TX11 7, w ∈ wsX11_all := by decide +kernel
set_option maxRecDepth 100000 in
theorem ulX11_all_X6 : ∀ w ∈ u_ws RX6 TX6 13, w ∈ wsX11_all := by decide +kernel
set_option maxHeartbeats 4000000 in
set_option maxRecDepth 100000 in
theorem m_X11_all (a0 : Option Nat) (x1 : Int32) (S : St) : ∀ l D cy H0 o, f_X11_all a0 x1 S = some o → Met l yX11_all wsX11_all rmX11_all (Pq D cy H0 [va_rf a0, .int x1] S) (Qx D cy H0 (cvI o)) 0 0 (fun q => H0.size ≤ q) := by
  refine met_of (cc := cX11_all) (maxL := 2) (ret := (some .int)) [va_rf a0, .int x1] [(0, va_rf a0), (1, .int x1)] (by decide) rfl rfl (by simp [lg_sl, va_rf_cat, vi_cat, vl_cat]) (by simp [lv_args, va_rf_cat, vi_cat, vl_cat]) (fun Γ C => ?_)
  unfold f_X11_all
  refine g_iload_n C dX11_all_0 rfl 1 rfl ?_
  refine g_iconst C (v := (0 : Int32)) dX11_all_1 (by decide) ?_
  refine g_iconst C (v := (5 : Int32)) dX11_all_2 (by decide) ?_
  refine g_callS C (n := 3) [.int x1, .int (0 : Int32), .int (5 : Int32)] [] (m_X11_isWithin x1 (0 : Int32) (5 : Int32) S) dX11_all_3 gX11_all_X11_isWithin rfl ⟨rfl, rfl⟩ (by decide +kernel) ⟨by decide, by decide⟩ ⟨by decide, by decide⟩ rfl rfl (by first | exact Nat.le_of_ble_eq_true rfl | simp [va_rf_cat, vi_cat, vl_cat]) (fun o1 eo1 => ?_)
  show G Γ cvI 2 0 0 6 [(0, va_rf a0), (1, .int x1)] [.int o1.1] o1.2 _
  refine g_if_ne C (tgt := 12) dX11_all_6 (by decide) (fun h2 => ?_) (fun h2 => ?_)
  · refine g_ldc C (v := (-1000001 : Int32)) dX11_all_9 (by decide +kernel) ?_
    exact g_iret C dX11_all_11 ⟨by decide, by decide⟩
  · refine g_aload_n C dX11_all_12 rfl 0 rfl ?_
    refine g_getR C (ci := 10) (k := 3) dX11_all_13 rfl (by decide) (by decide) (by decide) ulX11_all_X11 flX11_all_32 rfl (fun v3 ev3 => ?_)
    refine g_iconst C (v := (3 : Int32)) dX11_all_16 (by decide) ?_
    refine g_aload_n C dX11_all_17 rfl 0 rfl ?_
    refine g_getR C (ci := 10) (k := 1) dX11_all_18 rfl (by decide) (by decide) (by decide) ulX11_all_X11 flX11_all_18 rfl (fun v4 ev4 => ?_)
    refine g_callV C (n := 2) (ci := 6) [.int (3 : Int32), va_rf v4] [] (m_X6_reaches v3 (3 : Int32) v4 o1.2) dX11_all_21 gX11_all_X6_reaches rfl ⟨rfl, rfl⟩ (by decide +kernel) ⟨by decide, by decide⟩ ⟨by decide, by decide⟩ rfl (by decide) rfl rfl (by first | exact Nat.le_of_ble_eq_true rfl | simp [va_rf_cat, vi_cat, vl_cat]) (fun o5 eo5 => ?_)
    show G Γ cvI 2 0 0 24 [(0, va_rf a0), (1, .int x1)] [.int o5.1] o5.2 _
    refine g_if_ne C (tgt := 30) dX11_all_24 (by decide) (fun h6 => ?_) (fun h6 => ?_)
    · refine g_ldc C (v := (-1000003 : Int32)) dX11_all_27 (by decide +kernel) ?_
      exact g_iret C dX11_all_29 ⟨by decide, by decide⟩
    · refine g_iload_n C dX11_all_30 rfl 1 rfl ?_
      refine g_ite (fun h7 => ?_) (fun h7 => ?_)
      · refine g_tableIn C (v := 0) (off := 33) (tgt := 64) dX11_all_31 h7 (by decide) (by decide) (by decide) (by decide) ?_
        refine g_aload_n C dX11_all_64 rfl 0 rfl ?_
        refine g_getR C (ci := 10) (k := 3) dX11_all_65 rfl (by decide) (by decide) (by decide) ulX11_all_X11 flX11_all_32 rfl (fun v8 ev8 => ?_)
        refine g_getI C (ci := 6) (k := 5) dX11_all_68 rfl (by decide) (by decide) (by decide) ulX11_all_X6 flX11_all_217 rfl (fun v9 ev9 => ?_)
        exact g_iret C dX11_all_71 ⟨by decide, by decide⟩
      refine g_ite (fun h10 => ?_) (fun h10 => ?_)
      · refine g_tableIn C (v := 1) (off := 41) (tgt := 72) dX11_all_31 h10 (by decide) (by decide) (by decide) (by decide) ?_
        refine g_aload_n C dX11_all_72 rfl 0 rfl ?_
        refine g_getR C (ci := 10) (k := 3) dX11_all_73 rfl (by decide) (by decide) (by decide) ulX11_all_X11 flX11_all_32 rfl (fun v11 ev11 => ?_)
        refine g_getI C (ci := 6) (k := 6) dX11_all_76 rfl (by decide) (by decide) (by decide) ulX11_all_X6 flX11_all_220 rfl (fun v12 ev12 => ?_)
        exact g_iret C dX11_all_79 ⟨by decide, by decide⟩
      refine g_ite (fun h13 => ?_) (fun h13 => ?_)
      · refine g_tableIn C (v := 2) (off := 49) (tgt := 80) dX11_all_31 h13 (by decide) (by decide) (by decide) (by decide) ?_
        refine g_aload_n C dX11_all_80 rfl 0 rfl ?_
        refine g_getR C (ci := 10) (k := 3) dX11_all_81 rfl (by decide) (by decide) (by decide) ulX11_all_X11 flX11_all_32 rfl (fun v14 ev14 => ?_)
        refine g_getI C (ci := 6) (k := 7) dX11_all_84 rfl (by decide) (by decide) (by decide) ulX11_all_X6 flX11_all_223 rfl (fun v15 ev15 => ?_)
        exact g_iret C dX11_all_87 ⟨by decide, by decide⟩
      refine g_ite (fun h16 => ?_) (fun h16 => ?_)
      · refine g_tableIn C (v := 3) (off := 57) (tgt := 88) dX11_all_31 h16 (by decide) (by decide) (by decide) (by decide) ?_
        refine g_aload_n C dX11_all_88 rfl 0 rfl ?_
        refine g_getR C (ci := 10) (k := 3) dX11_all_89 rfl (by decide) (by decide) (by decide) ulX11_all_X11 flX11_all_32 rfl (fun v17 ev17 => ?_)
        refine g_getI C (ci := 6) (k := 8) dX11_all_92 rfl (by decide) (by decide) (by decide) ulX11_all_X6 flX11_all_226 rfl (fun v18 ev18 => ?_)
        exact g_iret C dX11_all_95 ⟨by decide, by decide⟩
      refine g_ite (fun h19 => ?_) (fun h19 => ?_)
      · refine g_tableIn C (v := 4) (off := 65) (tgt := 96) dX11_all_31 h19 (by decide) (by decide) (by decide) (by decide) ?_
        refine g_aload_n C dX11_all_96 rfl 0 rfl ?_
        refine g_getR C (ci := 10) (k := 3) dX11_all_97 rfl (by decide) (by decide) (by decide) ulX11_all_X11 flX11_all_32 rfl (fun v20 ev20 => ?_)
        refine g_getI C (ci := 6) (k := 9) dX11_all_100 rfl (by decide) (by decide) (by decide) ulX11_all_X6 flX11_all_229 rfl (fun v21 ev21 => ?_)
        exact g_iret C dX11_all_103 ⟨by decide, by decide⟩
      refine g_tableOut C (tgt := 104) dX11_all_31 (by have n0 := sw_n (k := 0) (by decide) h7; have n1 := sw_n (k := 1) (by decide) h10; have n2 := sw_n (k := 2) (by decide) h13; have n3 := sw_n (k := 3) (by decide) h16; have n4 := sw_n (k := 4) (by decide) h19; omega) (by decide) ?_
      refine g_aload_n C dX11_all_104 rfl 0 rfl ?_
      refine g_getR C (ci := 10) (k := 3) dX11_all_105 rfl (by decide) (by decide) (by decide) ulX11_all_X11 flX11_all_32 rfl (fun v22 ev22 => ?_)
      refine g_getI C (ci := 6) (k := 9) dX11_all_108 rfl (by decide) (by decide) (by decide) ulX11_all_X6 flX11_all_229 rfl (fun v23 ev23 => ?_)
      refine g_aload_n C dX11_all_111 rfl 0 rfl ?_
      refine g_getR C (ci := 10) (k := 3) dX11_all_112 rfl (by decide) (by decide) (by decide) ulX11_all_X11 flX11_all_32 rfl (fun v24 ev24 => ?_)
      refine g_getR C (ci := 6) (k := 0) dX11_all_115 rfl (by decide) (by decide) (by decide) ulX11_all_X6 flX11_all_232 rfl (fun v25 ev25 => ?_)
      refine g_iconst C (v := (5 : Int32)) dX11_all_118 (by decide) ?_
      refine g_ild C dX11_all_119 (fun v26 ev26 => ?_)
      refine g_icmp_gt C (tgt := 127) dX11_all_120 (by decide) (fun h27 => ?_) (fun h27 => ?_)
      · refine g_iconst C (v := (0 : Int32)) dX11_all_127 (by decide) ?_
        exact g_iret C dX11_all_128 ⟨by decide, by decide⟩
      · refine g_iconst C (v := (1 : Int32)) dX11_all_123 (by decide) ?_
        refine g_goto C (tgt := 128) dX11_all_124 (by decide) ?_
        exact g_iret C dX11_all_128 ⟨by decide, by decide⟩
abbrev rmX11_burn : Room := { frames := 6, cells := 0, slots := 0, locals := 150 }
theorem flX11_burn_18 : Cond.fieldLink RX11 18 "LightLines" "strokes" "LLightLines$Strokes;" ∈ wsX11_burn := by decide +kernel
theorem flX11_burn_32 : Cond.fieldLink RX11 32 "LightLines" "show" "LLightLines$Show;" ∈ wsX11_burn := by decide +kernel
theorem flX11_burn_235 : Cond.fieldLink RX11 235 "LightLines$Show" "burns" "[[I" ∈ wsX11_burn := by decide +kernel
set_option maxRecDepth 100000 in
theorem ulX11_burn_X11 : ∀ w ∈ u_ws RX11 TX11 7, w ∈ wsX11_burn := by decide +kernel
set_option maxRecDepth 100000 in
theorem ulX11_burn_X6 : ∀ w ∈ u_ws RX6 TX6 13, w ∈ wsX11_burn := by decide +kernel
set_option maxHeartbeats 4000000 in
set_option maxRecDepth 100000 in
theorem m_X11_burn (a0 : Option Nat) (x1 : Int32) (x2 : Int32) (S : St) : ∀ l D cy H0 o, f_X11_burn a0 x1 x2 S = some o → Met l yX11_burn wsX11_burn rmX11_burn (Pq D cy H0 [va_rf a0, .int x1, .int x2] S) (Qx D cy H0 (cvI o)) 0 0 (fun q => H0.size ≤ q) := by
  refine met_of (cc := cX11_burn) (maxL := 3) (ret := (some .int)) [va_rf a0, .int x1, .int x2] [(0, va_rf a0), (1, .int x1), (2, .int x2)] (by decide) rfl rfl (by simp [lg_sl, va_rf_cat, vi_cat, vl_cat]) (by simp [lv_args, va_rf_cat, vi_cat, vl_cat]) (fun Γ C => ?_)
  unfold f_X11_burn
  refine g_iload_n C dX11_burn_0 rfl 1 rfl ?_
  refine g_iconst C (v := (0 : Int32)) dX11_burn_1 (by decide) ?_
  refine g_bipush C (v := (10 : Int32)) dX11_burn_2 (by decide) ?_
  refine g_callS C (n := 3) [.int x1, .int (0 : Int32), .int (10 : Int32)] [] (m_X11_isWithin x1 (0 : Int32) (10 : Int32) S) dX11_burn_4 gX11_burn_X11_isWithin rfl ⟨rfl, rfl⟩ (by decide +kernel) ⟨by decide, by decide⟩ ⟨by decide, by decide⟩ rfl rfl (by first | exact Nat.le_of_ble_eq_true rfl | simp [va_rf_cat, vi_cat, vl_cat]) (fun o1 eo1 => ?_)
  show G Γ cvI 3 0 0 7 [(0, va_rf a0), (1, .int x1), (2, .int x2)] [.int o1.1] o1.2 _
  refine g_if_eq C (tgt := 20) dX11_burn_7 (by decide) (fun h2 => ?_) (fun h2 => ?_)
  · refine g_ldc C (v := (-1000001 : Int32)) dX11_burn_20 (by decide +kernel) ?_
    exact g_iret C dX11_burn_22 ⟨by decide, by decide⟩
  · refine g_iload_n C dX11_burn_10 rfl 2 rfl ?_
    refine g_iconst C (v := (0 : Int32)) dX11_burn_11 (by decide) ?_
    refine g_bipush C (v := (10 : Int32)) dX11_burn_12 (by decide) ?_
    refine g_callS C (n := 3) [.int x2, .int (0 : Int32), .int (10 : Int32)] [] (m_X11_isWithin x2 (0 : Int32) (10 : Int32) o1.2) dX11_burn_14 gX11_burn_X11_isWithin rfl ⟨rfl, rfl⟩ (by decide +kernel) ⟨by decide, by decide⟩ ⟨by decide, by decide⟩ rfl rfl (by first | exact Nat.le_of_ble_eq_true rfl | simp [va_rf_cat, vi_cat, vl_cat]) (fun o3 eo3 => ?_)
    show G Γ cvI 3 0 0 17 [(0, va_rf a0), (1, .int x1), (2, .int x2)] [.int o3.1] o3.2 _
    refine g_if_ne C (tgt := 23) dX11_burn_17 (by decide) (fun h4 => ?_) (fun h4 => ?_)
    · refine g_ldc C (v := (-1000001 : Int32)) dX11_burn_20 (by decide +kernel) ?_
      exact g_iret C dX11_burn_22 ⟨by decide, by decide⟩
    · refine g_aload_n C dX11_burn_23 rfl 0 rfl ?_
      refine g_getR C (ci := 10) (k := 3) dX11_burn_24 rfl (by decide) (by decide) (by decide) ulX11_burn_X11 flX11_burn_32 rfl (fun v5 ev5 => ?_)
      refine g_iconst C (v := (3 : Int32)) dX11_burn_27 (by decide) ?_
      refine g_aload_n C dX11_burn_28 rfl 0 rfl ?_
      refine g_getR C (ci := 10) (k := 1) dX11_burn_29 rfl (by decide) (by decide) (by decide) ulX11_burn_X11 flX11_burn_18 rfl (fun v6 ev6 => ?_)
      refine g_callV C (n := 2) (ci := 6) [.int (3 : Int32), va_rf v6] [] (m_X6_reaches v5 (3 : Int32) v6 o3.2) dX11_burn_32 gX11_burn_X6_reaches rfl ⟨rfl, rfl⟩ (by decide +kernel) ⟨by decide, by decide⟩ ⟨by decide, by decide⟩ rfl (by decide) rfl rfl (by first | exact Nat.le_of_ble_eq_true rfl | simp [va_rf_cat, vi_cat, vl_cat]) (fun o7 eo7 => ?_)
      show G Γ cvI 3 0 0 35 [(0, va_rf a0), (1, .int x1), (2, .int x2)] [.int o7.1] o7.2 _
      refine g_if_eq C (tgt := 52) dX11_burn_35 (by decide) (fun h8 => ?_) (fun h8 => ?_)
      · refine g_ldc C (v := (-1000003 : Int32)) dX11_burn_52 (by decide +kernel) ?_
        exact g_iret C dX11_burn_54 ⟨by decide, by decide⟩
      · refine g_aload_n C dX11_burn_38 rfl 0 rfl ?_
        refine g_getR C (ci := 10) (k := 3) dX11_burn_39 rfl (by decide) (by decide) (by decide) ulX11_burn_X11 flX11_burn_32 rfl (fun v9 ev9 => ?_)
        refine g_getR C (ci := 6) (k := 4) dX11_burn_42 rfl (by decide) (by decide) (by decide) ulX11_burn_X6 flX11_burn_235 rfl (fun v10 ev10 => ?_)
        refine g_iload_n C dX11_burn_45 rfl 1 rfl ?_
        refine g_ald18 C dX11_burn_46 (fun v11 ev11 => ?_)
        refine g_iload_n C dX11_burn_47 rfl 2 rfl ?_
        refine g_ild C dX11_burn_48 (fun v12 ev12 => ?_)
        refine g_goto C (tgt := 54) dX11_burn_49 (by decide) ?_
        exact g_iret C dX11_burn_54 ⟨by decide, by decide⟩
abbrev rmX11_feed : Room := { frames := 1, cells := 0, slots := 0, locals := 24 }
theorem flX11_feed_39 : Cond.fieldLink RX11 39 "LightLines" "cues" "LLightLines$Cues;" ∈ wsX11_feed := by decide +kernel
theorem flX11_feed_243 : Cond.fieldLink RX11 243 "LightLines$Cues" "length" "I" ∈ wsX11_feed := by decide +kernel
set_option maxRecDepth 100000 in
theorem ulX11_feed_X0 : ∀ w ∈ u_ws RX0 TX0 10, w ∈ wsX11_feed := by decide +kernel
set_option maxRecDepth 100000 in
theorem ulX11_feed_X11 : ∀ w ∈ u_ws RX11 TX11 7, w ∈ wsX11_feed := by decide +kernel
set_option maxHeartbeats 4000000 in
set_option maxRecDepth 100000 in
theorem m_X11_feed (a0 : Option Nat) (j1 : Int64) (x3 : Int32) (S : St) : ∀ l D cy H0 o, f_X11_feed a0 j1 x3 S = some o → Met l yX11_feed wsX11_feed rmX11_feed (Pq D cy H0 [va_rf a0, .long j1, .int x3] S) (Qx D cy H0 (cvI o)) 0 0 (fun q => H0.size ≤ q) := by
  refine met_of (cc := cX11_feed) (maxL := 4) (ret := (some .int)) [va_rf a0, .long j1, .int x3] [(0, va_rf a0), (1, .long j1), (3, .int x3)] (by decide) rfl rfl (by simp [lg_sl, va_rf_cat, vi_cat, vl_cat]) (by simp [lv_args, va_rf_cat, vi_cat, vl_cat]) (fun Γ C => ?_)
  unfold f_X11_feed
  refine g_iload_n C dX11_feed_0 rfl 2 rfl ?_
  refine g_iconst C (v := (1 : Int32)) dX11_feed_1 (by decide) ?_
  refine g_bipush C (v := (8 : Int32)) dX11_feed_2 (by decide) ?_
  refine g_callS C (n := 3) [.int x3, .int (1 : Int32), .int (8 : Int32)] [] (m_X11_isWithin x3 (1 : Int32) (8 : Int32) S) dX11_feed_4 gX11_feed_X11_isWithin rfl ⟨rfl, rfl⟩ (by decide +kernel) ⟨by decide, by decide⟩ ⟨by decide, by decide⟩ rfl rfl (by first | exact Nat.le_of_ble_eq_true rfl | simp [va_rf_cat, vi_cat, vl_cat]) (fun o1 eo1 => ?_)
  show G Γ cvI 4 0 0 7 [(0, va_rf a0), (1, .long j1), (3, .int x3)] [.int o1.1] o1.2 _
  refine g_if_ne C (tgt := 13) dX11_feed_7 (by decide) (fun h2 => ?_) (fun h2 => ?_)
  · refine g_ldc C (v := (-1000001 : Int32)) dX11_feed_10 (by decide +kernel) ?_
    exact g_iret C dX11_feed_12 ⟨by decide, by decide⟩
  · refine g_aload_n C dX11_feed_13 rfl 0 rfl ?_
    refine g_getR C (ci := 10) (k := 4) dX11_feed_14 rfl (by decide) (by decide) (by decide) ulX11_feed_X11 flX11_feed_39 rfl (fun v3 ev3 => ?_)
    refine g_lload_n C dX11_feed_17 rfl 1 rfl ?_
    refine g_iload_n C dX11_feed_18 rfl 2 rfl ?_
    refine g_callV C (n := 2) (ci := 0) [.long j1, .int x3] [] (m_X0_takeBytes v3 j1 x3 o1.2) dX11_feed_19 gX11_feed_X0_takeBytes rfl ⟨rfl, rfl⟩ (by decide +kernel) ⟨by decide, by decide⟩ ⟨by decide, by decide⟩ rfl (by decide) rfl rfl (by first | exact Nat.le_of_ble_eq_true rfl | simp [va_rf_cat, vi_cat, vl_cat]) (fun o4 eo4 => ?_)
    show G Γ cvI 4 0 0 22 [(0, va_rf a0), (1, .long j1), (3, .int x3)] [.int o4.1] o4.2 _
    refine g_if_eq C (tgt := 35) dX11_feed_22 (by decide) (fun h5 => ?_) (fun h5 => ?_)
    · refine g_ldc C (v := (-1000003 : Int32)) dX11_feed_35 (by decide +kernel) ?_
      exact g_iret C dX11_feed_37 ⟨by decide, by decide⟩
    · refine g_aload_n C dX11_feed_25 rfl 0 rfl ?_
      refine g_getR C (ci := 10) (k := 4) dX11_feed_26 rfl (by decide) (by decide) (by decide) ulX11_feed_X11 flX11_feed_39 rfl (fun v6 ev6 => ?_)
      refine g_getI C (ci := 0) (k := 1) dX11_feed_29 rfl (by decide) (by decide) (by decide) ulX11_feed_X0 flX11_feed_243 rfl (fun v7 ev7 => ?_)
      refine g_goto C (tgt := 37) dX11_feed_32 (by decide) ?_
      exact g_iret C dX11_feed_37 ⟨by decide, by decide⟩
abbrev rmX11_cues : Room := { frames := 8, cells := 0, slots := 0, locals := 173 }
theorem flX11_cues_39 : Cond.fieldLink RX11 39 "LightLines" "cues" "LLightLines$Cues;" ∈ wsX11_cues := by decide +kernel
set_option maxRecDepth 100000 in
theorem ulX11_cues_X11 : ∀ w ∈ u_ws RX11 TX11 7, w ∈ wsX11_cues := by decide +kernel
set_option maxHeartbeats 4000000 in
set_option maxRecDepth 100000 in
theorem m_X11_cues (a0 : Option Nat) (S : St) : ∀ l D cy H0 o, f_X11_cues a0 S = some o → Met l yX11_cues wsX11_cues rmX11_cues (Pq D cy H0 [va_rf a0] S) (Qx D cy H0 (cvI o)) 0 0 (fun q => H0.size ≤ q) := by
  refine met_of (cc := cX11_cues) (maxL := 1) (ret := (some .int)) [va_rf a0] [(0, va_rf a0)] (by decide) rfl rfl (by simp [lg_sl, va_rf_cat, vi_cat, vl_cat]) (by simp [lv_args, va_rf_cat, vi_cat, vl_cat]) (fun Γ C => ?_)
  unfold f_X11_cues
  refine g_aload_n C dX11_cues_0 rfl 0 rfl ?_
  refine g_getR C (ci := 10) (k := 4) dX11_cues_1 rfl (by decide) (by decide) (by decide) ulX11_cues_X11 flX11_cues_39 rfl (fun v1 ev1 => ?_)
  refine g_callV C (n := 0) (ci := 0) [] [] (m_X0_readTape v1 S) dX11_cues_4 gX11_cues_X0_readTape rfl ⟨rfl, rfl⟩ (by decide +kernel) ⟨by decide, by decide⟩ ⟨by decide, by decide⟩ rfl (by decide) rfl rfl (by first | exact Nat.le_of_ble_eq_true rfl | simp [va_rf_cat, vi_cat, vl_cat]) (fun o2 eo2 => ?_)
  show G Γ cvI 1 0 0 7 [(0, va_rf a0)] [.int o2.1] o2.2 _
  exact g_iret C dX11_cues_7 ⟨by decide, by decide⟩
abbrev rmX11_fault : Room := { frames := 0, cells := 0, slots := 0, locals := 0 }
theorem flX11_fault_39 : Cond.fieldLink RX11 39 "LightLines" "cues" "LLightLines$Cues;" ∈ wsX11_fault := by decide +kernel
theorem flX11_fault_247 : Cond.fieldLink RX11 247 "LightLines$Cues" "latestFault" "I" ∈ wsX11_fault := by decide +kernel
set_option maxRecDepth 100000 in
theorem ulX11_fault_X0 : ∀ w ∈ u_ws RX0 TX0 10, w ∈ wsX11_fault := by decide +kernel
set_option maxRecDepth 100000 in
theorem ulX11_fault_X11 : ∀ w ∈ u_ws RX11 TX11 7, w ∈ wsX11_fault := by decide +kernel
set_option maxHeartbeats 4000000 in
set_option maxRecDepth 100000 in
theorem m_X11_fault (a0 : Option Nat) (S : St) : ∀ l D cy H0 o, f_X11_fault a0 S = some o → Met l yX11_fault wsX11_fault rmX11_fault (Pq D cy H0 [va_rf a0] S) (Qx D cy H0 (cvI o)) 0 0 (fun q => H0.size ≤ q) := by
  refine met_of (cc := cX11_fault) (maxL := 1) (ret := (some .int)) [va_rf a0] [(0, va_rf a0)] (by decide) rfl rfl (by simp [lg_sl, va_rf_cat, vi_cat, vl_cat]) (by simp [lv_args, va_rf_cat, vi_cat, vl_cat]) (fun Γ C => ?_)
  unfold f_X11_fault
  refine g_aload_n C dX11_fault_0 rfl 0 rfl ?_
  refine g_getR C (ci := 10) (k := 4) dX11_fault_1 rfl (by decide) (by decide) (by decide) ulX11_fault_X11 flX11_fault_39 rfl (fun v1 ev1 => ?_)
  refine g_getI C (ci := 0) (k := 3) dX11_fault_4 rfl (by decide) (by decide) (by decide) ulX11_fault_X0 flX11_fault_247 rfl (fun v2 ev2 => ?_)
  exact g_iret C dX11_fault_7 ⟨by decide, by decide⟩
abbrev rmX11_frame : Room := { frames := 2, cells := 0, slots := 0, locals := 50 }
theorem flX11_frame_39 : Cond.fieldLink RX11 39 "LightLines" "cues" "LLightLines$Cues;" ∈ wsX11_frame := by decide +kernel
set_option maxRecDepth 100000 in
theorem ulX11_frame_X11 : ∀ w ∈ u_ws RX11 TX11 7, w ∈ wsX11_frame := by decide +kernel
set_option maxHeartbeats 4000000 in
set_option maxRecDepth 100000 in
theorem m_X11_frame (a0 : Option Nat) (x1 : Int32) (x2 : Int32) (S : St) : ∀ l D cy H0 o, f_X11_frame a0 x1 x2 S = some o → Met l yX11_frame wsX11_frame rmX11_frame (Pq D cy H0 [va_rf a0, .int x1, .int x2] S) (Qx D cy H0 (cvI o)) 0 0 (fun q => H0.size ≤ q) := by
  refine met_of (cc := cX11_frame) (maxL := 3) (ret := (some .int)) [va_rf a0, .int x1, .int x2] [(0, va_rf a0), (1, .int x1), (2, .int x2)] (by decide) rfl rfl (by simp [lg_sl, va_rf_cat, vi_cat, vl_cat]) (by simp [lv_args, va_rf_cat, vi_cat, vl_cat]) (fun Γ C => ?_)
  unfold f_X11_frame
  refine g_iload_n C dX11_frame_0 rfl 1 rfl ?_
  refine g_iconst C (v := (0 : Int32)) dX11_frame_1 (by decide) ?_
  refine g_sipush C (v := (20000 : Int32)) dX11_frame_2 (by decide) ?_
  refine g_callS C (n := 3) [.int x1, .int (0 : Int32), .int (20000 : Int32)] [] (m_X11_isWithin x1 (0 : Int32) (20000 : Int32) S) dX11_frame_5 gX11_frame_X11_isWithin rfl ⟨rfl, rfl⟩ (by decide +kernel) ⟨by decide, by decide⟩ ⟨by decide, by decide⟩ rfl rfl (by first | exact Nat.le_of_ble_eq_true rfl | simp [va_rf_cat, vi_cat, vl_cat]) (fun o1 eo1 => ?_)
  show G Γ cvI 3 0 0 8 [(0, va_rf a0), (1, .int x1), (2, .int x2)] [.int o1.1] o1.2 _
  refine g_if_eq C (tgt := 20) dX11_frame_8 (by decide) (fun h2 => ?_) (fun h2 => ?_)
  · refine g_ldc C (v := (-1000001 : Int32)) dX11_frame_20 (by decide +kernel) ?_
    exact g_iret C dX11_frame_22 ⟨by decide, by decide⟩
  · refine g_iload_n C dX11_frame_11 rfl 2 rfl ?_
    refine g_iconst C (v := (0 : Int32)) dX11_frame_12 (by decide) ?_
    refine g_iconst C (v := (1 : Int32)) dX11_frame_13 (by decide) ?_
    refine g_callS C (n := 3) [.int x2, .int (0 : Int32), .int (1 : Int32)] [] (m_X11_isWithin x2 (0 : Int32) (1 : Int32) o1.2) dX11_frame_14 gX11_frame_X11_isWithin rfl ⟨rfl, rfl⟩ (by decide +kernel) ⟨by decide, by decide⟩ ⟨by decide, by decide⟩ rfl rfl (by first | exact Nat.le_of_ble_eq_true rfl | simp [va_rf_cat, vi_cat, vl_cat]) (fun o3 eo3 => ?_)
    show G Γ cvI 3 0 0 17 [(0, va_rf a0), (1, .int x1), (2, .int x2)] [.int o3.1] o3.2 _
    refine g_if_ne C (tgt := 23) dX11_frame_17 (by decide) (fun h4 => ?_) (fun h4 => ?_)
    · refine g_ldc C (v := (-1000001 : Int32)) dX11_frame_20 (by decide +kernel) ?_
      exact g_iret C dX11_frame_22 ⟨by decide, by decide⟩
    · refine g_iload_n C dX11_frame_23 rfl 2 rfl ?_
      refine g_if_ne C (tgt := 38) dX11_frame_24 (by decide) (fun h5 => ?_) (fun h5 => ?_)
      · refine g_aload_n C dX11_frame_27 rfl 0 rfl ?_
        refine g_getR C (ci := 10) (k := 4) dX11_frame_28 rfl (by decide) (by decide) (by decide) ulX11_frame_X11 flX11_frame_39 rfl (fun v6 ev6 => ?_)
        refine g_iload_n C dX11_frame_31 rfl 1 rfl ?_
        refine g_callV C (n := 1) (ci := 0) [.int x1] [] (m_X0_shownAt v6 x1 o3.2) dX11_frame_32 gX11_frame_X0_shownAt rfl ⟨rfl, rfl⟩ (by decide +kernel) ⟨by decide, by decide⟩ ⟨by decide, by decide⟩ rfl (by decide) rfl rfl (by first | exact Nat.le_of_ble_eq_true rfl | simp [va_rf_cat, vi_cat, vl_cat]) (fun o7 eo7 => ?_)
        show G Γ cvI 3 0 0 35 [(0, va_rf a0), (1, .int x1), (2, .int x2)] [.int o7.1] o7.2 _
        refine g_goto C (tgt := 46) dX11_frame_35 (by decide) ?_
        exact g_iret C dX11_frame_46 ⟨by decide, by decide⟩
      · refine g_aload_n C dX11_frame_38 rfl 0 rfl ?_
        refine g_getR C (ci := 10) (k := 4) dX11_frame_39 rfl (by decide) (by decide) (by decide) ulX11_frame_X11 flX11_frame_39 rfl (fun v8 ev8 => ?_)
        refine g_iload_n C dX11_frame_42 rfl 1 rfl ?_
        refine g_callV C (n := 1) (ci := 0) [.int x1] [] (m_X0_levelAt v8 x1 o3.2) dX11_frame_43 gX11_frame_X0_levelAt rfl ⟨rfl, rfl⟩ (by decide +kernel) ⟨by decide, by decide⟩ ⟨by decide, by decide⟩ rfl (by decide) rfl rfl (by first | exact Nat.le_of_ble_eq_true rfl | simp [va_rf_cat, vi_cat, vl_cat]) (fun o9 eo9 => ?_)
        show G Γ cvI 3 0 0 46 [(0, va_rf a0), (1, .int x1), (2, .int x2)] [.int o9.1] o9.2 _
        exact g_iret C dX11_frame_46 ⟨by decide, by decide⟩
abbrev rmX11_kind : Room := { frames := 1, cells := 0, slots := 0, locals := 21 }
theorem flX11_kind_18 : Cond.fieldLink RX11 18 "LightLines" "strokes" "LLightLines$Strokes;" ∈ wsX11_kind := by decide +kernel
set_option maxRecDepth 100000 in
theorem ulX11_kind_X11 : ∀ w ∈ u_ws RX11 TX11 7, w ∈ wsX11_kind := by decide +kernel
set_option maxHeartbeats 4000000 in
set_option maxRecDepth 100000 in
theorem m_X11_kind (a0 : Option Nat) (x1 : Int32) (S : St) : ∀ l D cy H0 o, f_X11_kind a0 x1 S = some o → Met l yX11_kind wsX11_kind rmX11_kind (Pq D cy H0 [va_rf a0, .int x1] S) (Qx D cy H0 (cvI o)) 0 0 (fun q => H0.size ≤ q) := by
  refine met_of (cc := cX11_kind) (maxL := 3) (ret := (some .int)) [va_rf a0, .int x1] [(0, va_rf a0), (1, .int x1)] (by decide) rfl rfl (by simp [lg_sl, va_rf_cat, vi_cat, vl_cat]) (by simp [lv_args, va_rf_cat, vi_cat, vl_cat]) (fun Γ C => ?_)
  unfold f_X11_kind
  refine g_aload_n C dX11_kind_0 rfl 0 rfl ?_
  refine g_getR C (ci := 10) (k := 1) dX11_kind_1 rfl (by decide) (by decide) (by decide) ulX11_kind_X11 flX11_kind_18 rfl (fun v1 ev1 => ?_)
  refine g_iload_n C dX11_kind_4 rfl 1 rfl ?_
  refine g_callV C (n := 1) (ci := 8) [.int x1] [] (m_X9_at v1 x1 S) dX11_kind_5 gX11_kind_X9_at rfl ⟨rfl, rfl⟩ (by decide +kernel) ⟨by decide, by decide⟩ ⟨by decide, by decide⟩ rfl (by decide) rfl rfl (by first | exact Nat.le_of_ble_eq_true rfl | simp [va_rf_cat, vi_cat, vl_cat]) (fun o2 eo2 => ?_)
  show G Γ cvI 3 0 0 8 [(0, va_rf a0), (1, .int x1)] [va_rf o2.1] o2.2 _
  refine g_astore_n C (i := 2) (lv2 := [(2, va_rf o2.1), (0, va_rf a0), (1, .int x1)]) dX11_kind_8 rfl (by decide) (by first | rfl | simp [va_rf_cat, vi_cat, vl_cat]) ?_
  refine g_aload_n C dX11_kind_9 rfl 0 rfl ?_
  refine g_ifnonnull C (tgt := 18) dX11_kind_10 (by decide) (fun h3 => ?_) (fun h3 => ?_)
  · refine g_ldc C (v := (-1000001 : Int32)) dX11_kind_13 (by decide +kernel) ?_
    refine g_goto C (tgt := 22) dX11_kind_15 (by decide) ?_
    exact g_iret C dX11_kind_22 ⟨by decide, by decide⟩
  · refine g_aload_n C dX11_kind_18 rfl 0 rfl ?_
    refine g_call3 C (n := 0) [] [] (m_X8_kindTold o2.1 o2.2) (m_X8_kindTold o2.1 o2.2) (m_X8_kindTold o2.1 o2.2) dX11_kind_19 (fun R s args ht hR => va_cwU 0 ht gX11_kind_X8_kindTold_u256X1 rfl rfl rfl rfl (by decide +kernel) (by subst hR; exact ⟨by decide, by decide⟩)) (fun R s args ht hR => va_cwU 0 ht gX11_kind_X8_kindTold_u256X2 rfl rfl rfl rfl (by decide +kernel) (by subst hR; exact ⟨by decide, by decide⟩)) (fun R s args ht hR => va_cwU 0 ht gX11_kind_X8_kindTold_u256X7 rfl rfl rfl rfl (by decide +kernel) (by subst hR; exact ⟨by decide, by decide⟩)) ⟨by decide, by decide⟩ rfl rfl (by first | exact Nat.le_of_ble_eq_true rfl | simp [va_rf_cat, vi_cat, vl_cat]) (fun o4 eo4 => ?_)
    show G Γ cvI 3 0 0 22 [(2, va_rf o2.1), (0, va_rf a0), (1, .int x1)] [.int o4.1] o4.2 _
    exact g_iret C dX11_kind_22 ⟨by decide, by decide⟩
abbrev rmX11_as : Room := { frames := 1, cells := 0, slots := 0, locals := 22 }
theorem flX11_as_18 : Cond.fieldLink RX11 18 "LightLines" "strokes" "LLightLines$Strokes;" ∈ wsX11_as := by decide +kernel
set_option maxRecDepth 100000 in
theorem ulX11_as_X11 : ∀ w ∈ u_ws RX11 TX11 7, w ∈ wsX11_as := by decide +kernel
set_option maxHeartbeats 4000000 in
set_option maxRecDepth 100000 in
theorem m_X11_as (a0 : Option Nat) (x1 : Int32) (x2 : Int32) (S : St) : ∀ l D cy H0 o, f_X11_as a0 x1 x2 S = some o → Met l yX11_as wsX11_as rmX11_as (Pq D cy H0 [va_rf a0, .int x1, .int x2] S) (Qx D cy H0 (cvI o)) 0 0 (fun q => H0.size ≤ q) := by
  refine met_of (cc := cX11_as) (maxL := 4) (ret := (some .int)) [va_rf a0, .int x1, .int x2] [(0, va_rf a0), (1, .int x1), (2, .int x2)] (by decide) rfl rfl (by simp [lg_sl, va_rf_cat, vi_cat, vl_cat]) (by simp [lv_args, va_rf_cat, vi_cat, vl_cat]) (fun Γ C => ?_)
  unfold f_X11_as
  refine g_aload_n C dX11_as_0 rfl 0 rfl ?_
  refine g_getR C (ci := 10) (k := 1) dX11_as_1 rfl (by decide) (by decide) (by decide) ulX11_as_X11 flX11_as_18 rfl (fun v1 ev1 => ?_)
  refine g_iload_n C dX11_as_4 rfl 1 rfl ?_
  refine g_callV C (n := 1) (ci := 8) [.int x1] [] (m_X9_at v1 x1 S) dX11_as_5 gX11_as_X9_at rfl ⟨rfl, rfl⟩ (by decide +kernel) ⟨by decide, by decide⟩ ⟨by decide, by decide⟩ rfl (by decide) rfl rfl (by first | exact Nat.le_of_ble_eq_true rfl | simp [va_rf_cat, vi_cat, vl_cat]) (fun o2 eo2 => ?_)
  show G Γ cvI 4 0 0 8 [(0, va_rf a0), (1, .int x1), (2, .int x2)] [va_rf o2.1] o2.2 _
  refine g_astore_n C (i := 3) (lv2 := [(3, va_rf o2.1), (0, va_rf a0), (1, .int x1), (2, .int x2)]) dX11_as_8 rfl (by decide) (by first | rfl | simp [va_rf_cat, vi_cat, vl_cat]) ?_
  refine g_aload_n C dX11_as_9 rfl 0 rfl ?_
  refine g_ifnull C (tgt := 22) dX11_as_10 (by decide) (fun h3 => ?_) (fun h3 => ?_)
  · refine g_ldc C (v := (-1000001 : Int32)) dX11_as_22 (by decide +kernel) ?_
    exact g_iret C dX11_as_24 ⟨by decide, by decide⟩
  · refine g_iload_n C dX11_as_13 rfl 3 rfl ?_
    refine g_iconst C (v := (0 : Int32)) dX11_as_14 (by decide) ?_
    refine g_iconst C (v := (3 : Int32)) dX11_as_15 (by decide) ?_
    refine g_callS C (n := 3) [.int x2, .int (0 : Int32), .int (3 : Int32)] [] (m_X11_isWithin x2 (0 : Int32) (3 : Int32) o2.2) dX11_as_16 gX11_as_X11_isWithin rfl ⟨rfl, rfl⟩ (by decide +kernel) ⟨by decide, by decide⟩ ⟨by decide, by decide⟩ rfl rfl (by first | exact Nat.le_of_ble_eq_true rfl | simp [va_rf_cat, vi_cat, vl_cat]) (fun o4 eo4 => ?_)
    show G Γ cvI 4 0 0 19 [(3, va_rf o2.1), (0, va_rf a0), (1, .int x1), (2, .int x2)] [.int o4.1] o4.2 _
    refine g_if_ne C (tgt := 25) dX11_as_19 (by decide) (fun h5 => ?_) (fun h5 => ?_)
    · refine g_ldc C (v := (-1000001 : Int32)) dX11_as_22 (by decide +kernel) ?_
      exact g_iret C dX11_as_24 ⟨by decide, by decide⟩
    · refine g_aload_n C dX11_as_25 rfl 0 rfl ?_
      refine g_iload_n C dX11_as_26 rfl 3 rfl ?_
      refine g_call3 C (n := 1) [.int x2] [] (m_X8_isOf o2.1 x2 o4.2) (m_X8_isOf o2.1 x2 o4.2) (m_X8_isOf o2.1 x2 o4.2) dX11_as_27 (fun R s args ht hR => va_cwU 1 ht gX11_as_X8_isOf_u259X1 rfl rfl rfl rfl (by decide +kernel) (by subst hR; exact ⟨by decide, by decide⟩)) (fun R s args ht hR => va_cwU 1 ht gX11_as_X8_isOf_u259X2 rfl rfl rfl rfl (by decide +kernel) (by subst hR; exact ⟨by decide, by decide⟩)) (fun R s args ht hR => va_cwU 1 ht gX11_as_X8_isOf_u259X7 rfl rfl rfl rfl (by decide +kernel) (by subst hR; exact ⟨by decide, by decide⟩)) ⟨by decide, by decide⟩ rfl rfl (by first | exact Nat.le_of_ble_eq_true rfl | simp [va_rf_cat, vi_cat, vl_cat]) (fun o6 eo6 => ?_)
      show G Γ cvI 4 0 0 30 [(3, va_rf o2.1), (0, va_rf a0), (1, .int x1), (2, .int x2)] [.int o6.1] o6.2 _
      refine g_if_eq C (tgt := 44) dX11_as_30 (by decide) (fun h7 => ?_) (fun h7 => ?_)
      · refine g_aload_n C dX11_as_44 rfl 1 rfl ?_
        refine g_iconst C (v := (3 : Int32)) dX11_as_45 (by decide) ?_
        refine g_callV C (n := 1) (ci := 10) [.int (3 : Int32)] [] (m_X11_found a0 (3 : Int32) o6.2) dX11_as_46 gX11_as_X11_found rfl ⟨rfl, rfl⟩ (by decide +kernel) ⟨by decide, by decide⟩ ⟨by decide, by decide⟩ rfl (by decide) rfl rfl (by first | exact Nat.le_of_ble_eq_true rfl | simp [va_rf_cat, vi_cat, vl_cat]) (fun o8 eo8 => ?_)
        show G Γ cvI 4 0 0 49 [(3, va_rf o2.1), (0, va_rf a0), (1, .int x1), (2, .int x2)] [.int o8.1] o8.2 _
        exact g_iret C dX11_as_49 ⟨by decide, by decide⟩
      · refine g_aload_n C dX11_as_33 rfl 1 rfl ?_
        refine g_aload_n C dX11_as_34 rfl 0 rfl ?_
        refine g_call3 C (n := 0) [] [va_rf a0] (m_X8_points o2.1 o6.2) (m_X8_points o2.1 o6.2) (m_X8_points o2.1 o6.2) dX11_as_35 (fun R s args ht hR => va_cwU 0 ht gX11_as_X8_points_u122X1 rfl rfl rfl rfl (by decide +kernel) (by subst hR; exact ⟨by decide, by decide⟩)) (fun R s args ht hR => va_cwU 0 ht gX11_as_X8_points_u122X2 rfl rfl rfl rfl (by decide +kernel) (by subst hR; exact ⟨by decide, by decide⟩)) (fun R s args ht hR => va_cwU 0 ht gX11_as_X8_points_u122X7 rfl rfl rfl rfl (by decide +kernel) (by subst hR; exact ⟨by decide, by decide⟩)) ⟨by decide, by decide⟩ rfl rfl (by first | exact Nat.le_of_ble_eq_true rfl | simp [va_rf_cat, vi_cat, vl_cat]) (fun o9 eo9 => ?_)
        show G Γ cvI 4 0 0 38 [(3, va_rf o2.1), (0, va_rf a0), (1, .int x1), (2, .int x2)] [.int o9.1, va_rf a0] o9.2 _
        refine g_callV C (n := 1) (ci := 10) [.int o9.1] [] (m_X11_fine a0 o9.1 o9.2) dX11_as_38 gX11_as_X11_fine rfl ⟨rfl, rfl⟩ (by decide +kernel) ⟨by decide, by decide⟩ ⟨by decide, by decide⟩ rfl (by decide) rfl rfl (by first | exact Nat.le_of_ble_eq_true rfl | simp [va_rf_cat, vi_cat, vl_cat]) (fun o10 eo10 => ?_)
        show G Γ cvI 4 0 0 41 [(3, va_rf o2.1), (0, va_rf a0), (1, .int x1), (2, .int x2)] [.int o10.1] o10.2 _
        refine g_goto C (tgt := 49) dX11_as_41 (by decide) ?_
        exact g_iret C dX11_as_49 ⟨by decide, by decide⟩
abbrev rmX11_ask : Room := { frames := 5, cells := 0, slots := 0, locals := 113 }
theorem flX11_ask_18 : Cond.fieldLink RX11 18 "LightLines" "strokes" "LLightLines$Strokes;" ∈ wsX11_ask := by decide +kernel
theorem flX11_ask_46 : Cond.fieldLink RX11 46 "LightLines" "trace" "LLightLines$Trace;" ∈ wsX11_ask := by decide +kernel
theorem flX11_ask_262 : Cond.fieldLink RX11 262 "LightLines$Trace" "length" "I" ∈ wsX11_ask := by decide +kernel
set_option maxRecDepth 100000 in
theorem ulX11_ask_X10 : ∀ w ∈ u_ws RX10 TX10 2, w ∈ wsX11_ask := by decide +kernel
set_option maxRecDepth 100000 in
theorem ulX11_ask_X11 : ∀ w ∈ u_ws RX11 TX11 7, w ∈ wsX11_ask := by decide +kernel
set_option maxHeartbeats 4000000 in
set_option maxRecDepth 100000 in
theorem m_X11_ask (a0 : Option Nat) (x1 : Int32) (x2 : Int32) (S : St) : ∀ l D cy H0 o, f_X11_ask a0 x1 x2 S = some o → Met l yX11_ask wsX11_ask rmX11_ask (Pq D cy H0 [va_rf a0, .int x1, .int x2] S) (Qx D cy H0 (cvI o)) 0 0 (fun q => H0.size ≤ q) := by
  refine met_of (cc := cX11_ask) (maxL := 4) (ret := (some .int)) [va_rf a0, .int x1, .int x2] [(0, va_rf a0), (1, .int x1), (2, .int x2)] (by decide) rfl rfl (by simp [lg_sl, va_rf_cat, vi_cat, vl_cat]) (by simp [lv_args, va_rf_cat, vi_cat, vl_cat]) (fun Γ C => ?_)
  unfold f_X11_ask
  refine g_aload_n C dX11_ask_0 rfl 0 rfl ?_
  refine g_getR C (ci := 10) (k := 1) dX11_ask_1 rfl (by decide) (by decide) (by decide) ulX11_ask_X11 flX11_ask_18 rfl (fun v1 ev1 => ?_)
  refine g_iload_n C dX11_ask_4 rfl 1 rfl ?_
  refine g_callV C (n := 1) (ci := 8) [.int x1] [] (m_X9_at v1 x1 S) dX11_ask_5 gX11_ask_X9_at rfl ⟨rfl, rfl⟩ (by decide +kernel) ⟨by decide, by decide⟩ ⟨by decide, by decide⟩ rfl (by decide) rfl rfl (by first | exact Nat.le_of_ble_eq_true rfl | simp [va_rf_cat, vi_cat, vl_cat]) (fun o2 eo2 => ?_)
  show G Γ cvI 4 0 0 8 [(0, va_rf a0), (1, .int x1), (2, .int x2)] [va_rf o2.1] o2.2 _
  refine g_astore_n C (i := 3) (lv2 := [(3, va_rf o2.1), (0, va_rf a0), (1, .int x1), (2, .int x2)]) dX11_ask_8 rfl (by decide) (by first | rfl | simp [va_rf_cat, vi_cat, vl_cat]) ?_
  refine g_aload_n C dX11_ask_9 rfl 0 rfl ?_
  refine g_ifnull C (tgt := 22) dX11_ask_10 (by decide) (fun h3 => ?_) (fun h3 => ?_)
  · refine g_ldc C (v := (-1000001 : Int32)) dX11_ask_22 (by decide +kernel) ?_
    exact g_iret C dX11_ask_24 ⟨by decide, by decide⟩
  · refine g_iload_n C dX11_ask_13 rfl 3 rfl ?_
    refine g_iconst C (v := (0 : Int32)) dX11_ask_14 (by decide) ?_
    refine g_iconst C (v := (1 : Int32)) dX11_ask_15 (by decide) ?_
    refine g_callS C (n := 3) [.int x2, .int (0 : Int32), .int (1 : Int32)] [] (m_X11_isWithin x2 (0 : Int32) (1 : Int32) o2.2) dX11_ask_16 gX11_ask_X11_isWithin rfl ⟨rfl, rfl⟩ (by decide +kernel) ⟨by decide, by decide⟩ ⟨by decide, by decide⟩ rfl rfl (by first | exact Nat.le_of_ble_eq_true rfl | simp [va_rf_cat, vi_cat, vl_cat]) (fun o4 eo4 => ?_)
    show G Γ cvI 4 0 0 19 [(3, va_rf o2.1), (0, va_rf a0), (1, .int x1), (2, .int x2)] [.int o4.1] o4.2 _
    refine g_if_ne C (tgt := 25) dX11_ask_19 (by decide) (fun h5 => ?_) (fun h5 => ?_)
    · refine g_ldc C (v := (-1000001 : Int32)) dX11_ask_22 (by decide +kernel) ?_
      exact g_iret C dX11_ask_24 ⟨by decide, by decide⟩
    · refine g_aload_n C dX11_ask_25 rfl 1 rfl ?_
      refine g_getR C (ci := 10) (k := 5) dX11_ask_26 rfl (by decide) (by decide) (by decide) ulX11_ask_X11 flX11_ask_46 rfl (fun v6 ev6 => ?_)
      refine g_iconst C (v := (0 : Int32)) dX11_ask_29 (by decide) ?_
      refine g_putI C (ci := 9) (k := 1) (ty0 := tyX10) dX11_ask_30 rfl (by decide) (by decide) (by decide) tyX10_ok nmX10 ulX11_ask_X10 flX11_ask_262 rfl rfl ⟨rfl, rfl⟩ (fun S7 eS7 => ?_)
      refine g_iload_n C dX11_ask_33 rfl 3 rfl ?_
      refine g_if_ne C (tgt := 48) dX11_ask_34 (by decide) (fun h8 => ?_) (fun h8 => ?_)
      · refine g_aload_n C dX11_ask_37 rfl 0 rfl ?_
        refine g_aload_n C dX11_ask_38 rfl 1 rfl ?_
        refine g_getR C (ci := 10) (k := 5) dX11_ask_39 rfl (by decide) (by decide) (by decide) ulX11_ask_X11 flX11_ask_46 rfl (fun v9 ev9 => ?_)
        refine g_call3 C (n := 1) [va_rf v9] [] (m_X1_sizeAsked o2.1 v9 S7) (m_X2_sizeAsked o2.1 v9 S7) (m_X7_sizeAsked o2.1 v9 S7) dX11_ask_42 (fun R s args ht hR => va_cwO 1 ht gX11_ask_X1_sizeAsked_u263X1 rfl rfl rfl (b0 := cX8_sizeAsked) (m0 := 2) (r0 := (some .int)) (by decide +kernel) (by decide +kernel) (by subst hR; exact ⟨by decide, by decide⟩)) (fun R s args ht hR => va_cwO 1 ht gX11_ask_X2_sizeAsked_u263X2 rfl rfl rfl (b0 := cX8_sizeAsked) (m0 := 2) (r0 := (some .int)) (by decide +kernel) (by decide +kernel) (by subst hR; exact ⟨by decide, by decide⟩)) (fun R s args ht hR => va_cwO 1 ht gX11_ask_X7_sizeAsked_u263X7 rfl rfl rfl (b0 := cX8_sizeAsked) (m0 := 2) (r0 := (some .int)) (by decide +kernel) (by decide +kernel) (by subst hR; exact ⟨by decide, by decide⟩)) ⟨by decide, by decide⟩ rfl rfl (by first | exact Nat.le_of_ble_eq_true rfl | simp [va_rf_cat, vi_cat, vl_cat]) (fun o10 eo10 => ?_)
        show G Γ cvI 4 0 0 45 [(3, va_rf o2.1), (0, va_rf a0), (1, .int x1), (2, .int x2)] [.int o10.1] o10.2 _
        refine g_goto C (tgt := 56) dX11_ask_45 (by decide) ?_
        exact g_iret C dX11_ask_56 ⟨by decide, by decide⟩
      · refine g_aload_n C dX11_ask_48 rfl 0 rfl ?_
        refine g_aload_n C dX11_ask_49 rfl 1 rfl ?_
        refine g_getR C (ci := 10) (k := 5) dX11_ask_50 rfl (by decide) (by decide) (by decide) ulX11_ask_X11 flX11_ask_46 rfl (fun v11 ev11 => ?_)
        refine g_call3 C (n := 1) [va_rf v11] [] (m_X1_markAsked o2.1 v11 S7) (m_X1_markAsked o2.1 v11 S7) (m_X7_markAsked o2.1 v11 S7) dX11_ask_53 (fun R s args ht hR => va_cwO 1 ht gX11_ask_X1_markAsked_u267X1 rfl rfl rfl (b0 := cX8_markAsked) (m0 := 2) (r0 := (some .int)) (by decide +kernel) (by decide +kernel) (by subst hR; exact ⟨by decide, by decide⟩)) (fun R s args ht hR => va_cwO 1 ht gX11_ask_X1_markAsked_u267X2 rfl rfl rfl (b0 := cX8_markAsked) (m0 := 2) (r0 := (some .int)) (by decide +kernel) (by decide +kernel) (by subst hR; exact ⟨by decide, by decide⟩)) (fun R s args ht hR => va_cwO 1 ht gX11_ask_X7_markAsked_u267X7 rfl rfl rfl (b0 := cX8_markAsked) (m0 := 2) (r0 := (some .int)) (by decide +kernel) (by decide +kernel) (by subst hR; exact ⟨by decide, by decide⟩)) ⟨by decide, by decide⟩ rfl rfl (by first | exact Nat.le_of_ble_eq_true rfl | simp [va_rf_cat, vi_cat, vl_cat]) (fun o12 eo12 => ?_)
        show G Γ cvI 4 0 0 56 [(3, va_rf o2.1), (0, va_rf a0), (1, .int x1), (2, .int x2)] [.int o12.1] o12.2 _
        exact g_iret C dX11_ask_56 ⟨by decide, by decide⟩
abbrev rmX11_trace : Room := { frames := 1, cells := 0, slots := 0, locals := 22 }
theorem flX11_trace_46 : Cond.fieldLink RX11 46 "LightLines" "trace" "LLightLines$Trace;" ∈ wsX11_trace := by decide +kernel
theorem flX11_trace_262 : Cond.fieldLink RX11 262 "LightLines$Trace" "length" "I" ∈ wsX11_trace := by decide +kernel
theorem flX11_trace_270 : Cond.fieldLink RX11 270 "LightLines$Trace" "numbers" "[I" ∈ wsX11_trace := by decide +kernel
set_option maxRecDepth 100000 in
theorem ulX11_trace_X10 : ∀ w ∈ u_ws RX10 TX10 2, w ∈ wsX11_trace := by decide +kernel
set_option maxRecDepth 100000 in
theorem ulX11_trace_X11 : ∀ w ∈ u_ws RX11 TX11 7, w ∈ wsX11_trace := by decide +kernel
set_option maxHeartbeats 4000000 in
set_option maxRecDepth 100000 in
theorem m_X11_trace (a0 : Option Nat) (x1 : Int32) (S : St) : ∀ l D cy H0 o, f_X11_trace a0 x1 S = some o → Met l yX11_trace wsX11_trace rmX11_trace (Pq D cy H0 [va_rf a0, .int x1] S) (Qx D cy H0 (cvI o)) 0 0 (fun q => H0.size ≤ q) := by
  refine met_of (cc := cX11_trace) (maxL := 2) (ret := (some .int)) [va_rf a0, .int x1] [(0, va_rf a0), (1, .int x1)] (by decide) rfl rfl (by simp [lg_sl, va_rf_cat, vi_cat, vl_cat]) (by simp [lv_args, va_rf_cat, vi_cat, vl_cat]) (fun Γ C => ?_)
  unfold f_X11_trace
  refine g_iload_n C dX11_trace_0 rfl 1 rfl ?_
  refine g_iconst C (v := (0 : Int32)) dX11_trace_1 (by decide) ?_
  refine g_aload_n C dX11_trace_2 rfl 0 rfl ?_
  refine g_getR C (ci := 10) (k := 5) dX11_trace_3 rfl (by decide) (by decide) (by decide) ulX11_trace_X11 flX11_trace_46 rfl (fun v1 ev1 => ?_)
  refine g_getI C (ci := 9) (k := 1) dX11_trace_6 rfl (by decide) (by decide) (by decide) ulX11_trace_X10 flX11_trace_262 rfl (fun v2 ev2 => ?_)
  refine g_iconst C (v := (1 : Int32)) dX11_trace_9 (by decide) ?_
  refine g_isub C dX11_trace_10 ?_
  refine g_callS C (n := 3) [.int x1, .int (0 : Int32), .int (v2 - (1 : Int32))] [] (m_X11_isWithin x1 (0 : Int32) (v2 - (1 : Int32)) S) dX11_trace_11 gX11_trace_X11_isWithin rfl ⟨rfl, rfl⟩ (by decide +kernel) ⟨by decide, by decide⟩ ⟨by decide, by decide⟩ rfl rfl (by first | exact Nat.le_of_ble_eq_true rfl | simp [va_rf_cat, vi_cat, vl_cat]) (fun o3 eo3 => ?_)
  show G Γ cvI 2 0 0 14 [(0, va_rf a0), (1, .int x1)] [.int o3.1] o3.2 _
  refine g_if_eq C (tgt := 29) dX11_trace_14 (by decide) (fun h4 => ?_) (fun h4 => ?_)
  · refine g_ldc C (v := (-1000000 : Int32)) dX11_trace_29 (by decide +kernel) ?_
    exact g_iret C dX11_trace_31 ⟨by decide, by decide⟩
  · refine g_aload_n C dX11_trace_17 rfl 0 rfl ?_
    refine g_getR C (ci := 10) (k := 5) dX11_trace_18 rfl (by decide) (by decide) (by decide) ulX11_trace_X11 flX11_trace_46 rfl (fun v5 ev5 => ?_)
    refine g_getR C (ci := 9) (k := 0) dX11_trace_21 rfl (by decide) (by decide) (by decide) ulX11_trace_X10 flX11_trace_270 rfl (fun v6 ev6 => ?_)
    refine g_iload_n C dX11_trace_24 rfl 1 rfl ?_
    refine g_ild C dX11_trace_25 (fun v7 ev7 => ?_)
    refine g_goto C (tgt := 31) dX11_trace_26 (by decide) ?_
    exact g_iret C dX11_trace_31 ⟨by decide, by decide⟩
abbrev rmX11_sheetsHeld : Room := { frames := 1, cells := 0, slots := 0, locals := 20 }
theorem flX11_sheetsHeld_11 : Cond.fieldLink RX11 11 "LightLines" "sheets" "[LLightLines$Sheet;" ∈ wsX11_sheetsHeld := by decide +kernel
set_option maxRecDepth 100000 in
theorem ulX11_sheetsHeld_X11 : ∀ w ∈ u_ws RX11 TX11 7, w ∈ wsX11_sheetsHeld := by decide +kernel
set_option maxHeartbeats 4000000 in
set_option maxRecDepth 100000 in
theorem t_X11_sheetsHeld_25 {Γ : Cx} (C : CF Γ cX11_sheetsHeld 3 (some .int) wsX11_sheetsHeld RX11 rmX11_sheetsHeld 0 0) (rc4 : Option Nat → Int32 → Int32 → St → Option (Int32 × St)) (hrc4 : ∀ (a0 : Option Nat) (x1 : Int32) (x2 : Int32) (S : St), G Γ cvI 3 0 0 4 [(0, va_rf a0), (1, .int x1), (2, .int x2)] [] S (rc4 a0 x1 x2 S)) (a0 : Option Nat) (x1 : Int32) (x2 : Int32) (S : St) : G Γ cvI 3 0 0 25 [(0, va_rf a0), (1, .int x1), (2, .int x2)] [] S (b_X11_sheetsHeld_25 rc4 a0 x1 x2 S) := by
  unfold b_X11_sheetsHeld_25
  refine g_iinc1 C dX11_sheetsHeld_25 2 rfl (by decide) (by decide) (fun y1 => ?_)
  refine g_lveq (lv2 := [(2, .int y1), (0, va_rf a0), (1, .int x1)]) (by first | rfl | simp [va_rf_cat, vi_cat, vl_cat]) ?_
  refine g_goto C (tgt := 4) dX11_sheetsHeld_28 (by decide) ?_
  exact g_sub (lv2 := [(0, va_rf a0), (1, .int x1), (2, .int y1)]) [1, 2, 0] rfl (hrc4 a0 x1 y1 S)
set_option maxHeartbeats 4000000 in
set_option maxRecDepth 100000 in
theorem t_X11_sheetsHeld_31 {Γ : Cx} (C : CF Γ cX11_sheetsHeld 3 (some .int) wsX11_sheetsHeld RX11 rmX11_sheetsHeld 0 0) (x1 : Int32) (S : St) : G Γ cvI 3 0 0 31 [(1, .int x1)] [] S (b_X11_sheetsHeld_31  x1 S) := by
  unfold b_X11_sheetsHeld_31
  refine g_iload_n C dX11_sheetsHeld_31 rfl 0 rfl ?_
  exact g_iret C dX11_sheetsHeld_32 ⟨by decide, by decide⟩
set_option maxHeartbeats 4000000 in
set_option maxRecDepth 100000 in
theorem t_X11_sheetsHeld_4 {Γ : Cx} (C : CF Γ cX11_sheetsHeld 3 (some .int) wsX11_sheetsHeld RX11 rmX11_sheetsHeld 0 0) : ∀ (n : Nat) (a0 : Option Nat) (x1 : Int32) (x2 : Int32) (S : St), G Γ cvI 3 0 0 4 [(0, va_rf a0), (1, .int x1), (2, .int x2)] [] S (b_X11_sheetsHeld_4  n a0 x1 x2 S) := by
  intro n
  induction n with
  | zero => intro a0 x1 x2 S; exact g_none
  | succ n ih =>
    intro a0 x1 x2 S
    rw [b_X11_sheetsHeld_4]
    refine g_iload_n C dX11_sheetsHeld_4 rfl 2 rfl ?_
    refine g_bipush C (v := (8 : Int32)) dX11_sheetsHeld_5 (by decide) ?_
    refine g_icmp_ge C (tgt := 31) dX11_sheetsHeld_7 (by decide) (fun h1 => ?_) (fun h1 => ?_)
    · exact g_sub (lv2 := [(1, .int x1)]) [1] rfl (t_X11_sheetsHeld_31 C x1 S)
    · refine g_aload_n C dX11_sheetsHeld_10 rfl 0 rfl ?_
      refine g_getR C (ci := 10) (k := 0) dX11_sheetsHeld_11 rfl (by decide) (by decide) (by decide) ulX11_sheetsHeld_X11 flX11_sheetsHeld_11 rfl (fun v2 ev2 => ?_)
      refine g_iload_n C dX11_sheetsHeld_14 rfl 2 rfl ?_
      refine g_ald16 C dX11_sheetsHeld_15 (fun v3 ev3 => ?_)
      refine g_callV C (n := 0) (ci := 5) [] [] (m_X5_isMissing v3 S) dX11_sheetsHeld_16 gX11_sheetsHeld_X5_isMissing rfl ⟨rfl, rfl⟩ (by decide +kernel) ⟨by decide, by decide⟩ ⟨by decide, by decide⟩ rfl (by decide) rfl rfl (by first | exact Nat.le_of_ble_eq_true rfl | simp [va_rf_cat, vi_cat, vl_cat]) (fun o4 eo4 => ?_)
      show G Γ cvI 3 0 0 19 [(0, va_rf a0), (1, .int x1), (2, .int x2)] [.int o4.1] o4.2 _
      refine g_if_ne C (tgt := 25) dX11_sheetsHeld_19 (by decide) (fun h5 => ?_) (fun h5 => ?_)
      · refine g_iinc1 C dX11_sheetsHeld_22 1 rfl (by decide) (by decide) (fun y6 => ?_)
        refine g_lveq (lv2 := [(1, .int y6), (0, va_rf a0), (2, .int x2)]) (by first | rfl | simp [va_rf_cat, vi_cat, vl_cat]) ?_
        exact g_sub (lv2 := [(0, va_rf a0), (1, .int y6), (2, .int x2)]) [1, 0, 2] rfl (t_X11_sheetsHeld_25 C (b_X11_sheetsHeld_4 n) ih a0 y6 x2 o4.2)
      · exact g_sub (lv2 := [(0, va_rf a0), (1, .int x1), (2, .int x2)]) [0, 1, 2] rfl (t_X11_sheetsHeld_25 C (b_X11_sheetsHeld_4 n) ih a0 x1 x2 o4.2)
set_option maxHeartbeats 4000000 in
set_option maxRecDepth 100000 in
theorem m_X11_sheetsHeld (a0 : Option Nat) (S : St) : ∀ l D cy H0 o, f_X11_sheetsHeld a0 S = some o → Met l yX11_sheetsHeld wsX11_sheetsHeld rmX11_sheetsHeld (Pq D cy H0 [va_rf a0] S) (Qx D cy H0 (cvI o)) 0 0 (fun q => H0.size ≤ q) := by
  refine met_of (cc := cX11_sheetsHeld) (maxL := 3) (ret := (some .int)) [va_rf a0] [(0, va_rf a0)] (by decide) rfl rfl (by simp [lg_sl, va_rf_cat, vi_cat, vl_cat]) (by simp [lv_args, va_rf_cat, vi_cat, vl_cat]) (fun Γ C => ?_)
  unfold f_X11_sheetsHeld
  refine g_iconst C (v := (0 : Int32)) dX11_sheetsHeld_0 (by decide) ?_
  refine g_istore_n C (i := 1) (lv2 := [(1, .int (0 : Int32)), (0, va_rf a0)]) dX11_sheetsHeld_1 rfl (by decide) (by first | rfl | simp [va_rf_cat, vi_cat, vl_cat]) ?_
  refine g_iconst C (v := (0 : Int32)) dX11_sheetsHeld_2 (by decide) ?_
  refine g_istore_n C (i := 2) (lv2 := [(2, .int (0 : Int32)), (1, .int (0 : Int32)), (0, va_rf a0)]) dX11_sheetsHeld_3 rfl (by decide) (by first | rfl | simp [va_rf_cat, vi_cat, vl_cat]) ?_
  exact g_sub (lv2 := [(0, va_rf a0), (1, .int (0 : Int32)), (2, .int (0 : Int32))]) [2, 1, 0] rfl (t_X11_sheetsHeld_4 C FU a0 (0 : Int32) (0 : Int32) S)
abbrev rmX11_count : Room := { frames := 2, cells := 0, slots := 0, locals := 44 }
theorem flX11_count_18 : Cond.fieldLink RX11 18 "LightLines" "strokes" "LLightLines$Strokes;" ∈ wsX11_count := by decide +kernel
theorem flX11_count_32 : Cond.fieldLink RX11 32 "LightLines" "show" "LLightLines$Show;" ∈ wsX11_count := by decide +kernel
theorem flX11_count_39 : Cond.fieldLink RX11 39 "LightLines" "cues" "LLightLines$Cues;" ∈ wsX11_count := by decide +kernel
theorem flX11_count_100 : Cond.fieldLink RX11 100 "LightLines$Strokes" "held" "I" ∈ wsX11_count := by decide +kernel
theorem flX11_count_243 : Cond.fieldLink RX11 243 "LightLines$Cues" "length" "I" ∈ wsX11_count := by decide +kernel
theorem flX11_count_285 : Cond.fieldLink RX11 285 "LightLines$Cues" "kept" "I" ∈ wsX11_count := by decide +kernel
set_option maxRecDepth 100000 in
theorem ulX11_count_X0 : ∀ w ∈ u_ws RX0 TX0 10, w ∈ wsX11_count := by decide +kernel
set_option maxRecDepth 100000 in
theorem ulX11_count_X11 : ∀ w ∈ u_ws RX11 TX11 7, w ∈ wsX11_count := by decide +kernel
set_option maxRecDepth 100000 in
theorem ulX11_count_X9 : ∀ w ∈ u_ws RX9 TX9 4, w ∈ wsX11_count := by decide +kernel
set_option maxHeartbeats 4000000 in
set_option maxRecDepth 100000 in
theorem m_X11_count (a0 : Option Nat) (x1 : Int32) (S : St) : ∀ l D cy H0 o, f_X11_count a0 x1 S = some o → Met l yX11_count wsX11_count rmX11_count (Pq D cy H0 [va_rf a0, .int x1] S) (Qx D cy H0 (cvI o)) 0 0 (fun q => H0.size ≤ q) := by
  refine met_of (cc := cX11_count) (maxL := 2) (ret := (some .int)) [va_rf a0, .int x1] [(0, va_rf a0), (1, .int x1)] (by decide) rfl rfl (by simp [lg_sl, va_rf_cat, vi_cat, vl_cat]) (by simp [lv_args, va_rf_cat, vi_cat, vl_cat]) (fun Γ C => ?_)
  unfold f_X11_count
  refine g_iload_n C dX11_count_0 rfl 1 rfl ?_
  refine g_ite (fun h1 => ?_) (fun h1 => ?_)
  · refine g_tableIn C (v := 0) (off := 43) (tgt := 44) dX11_count_1 h1 (by decide) (by decide) (by decide) (by decide) ?_
    refine g_aload_n C dX11_count_44 rfl 0 rfl ?_
    refine g_callV C (n := 0) (ci := 10) [] [] (m_X11_sheetsHeld a0 S) dX11_count_45 gX11_count_X11_sheetsHeld rfl ⟨rfl, rfl⟩ (by decide +kernel) ⟨by decide, by decide⟩ ⟨by decide, by decide⟩ rfl (by decide) rfl rfl (by first | exact Nat.le_of_ble_eq_true rfl | simp [va_rf_cat, vi_cat, vl_cat]) (fun o2 eo2 => ?_)
    show G Γ cvI 2 0 0 48 [(0, va_rf a0), (1, .int x1)] [.int o2.1] o2.2 _
    exact g_iret C dX11_count_48 ⟨by decide, by decide⟩
  refine g_ite (fun h3 => ?_) (fun h3 => ?_)
  · refine g_tableIn C (v := 1) (off := 48) (tgt := 49) dX11_count_1 h3 (by decide) (by decide) (by decide) (by decide) ?_
    refine g_aload_n C dX11_count_49 rfl 0 rfl ?_
    refine g_getR C (ci := 10) (k := 1) dX11_count_50 rfl (by decide) (by decide) (by decide) ulX11_count_X11 flX11_count_18 rfl (fun v4 ev4 => ?_)
    refine g_getI C (ci := 8) (k := 3) dX11_count_53 rfl (by decide) (by decide) (by decide) ulX11_count_X9 flX11_count_100 rfl (fun v5 ev5 => ?_)
    exact g_iret C dX11_count_56 ⟨by decide, by decide⟩
  refine g_ite (fun h6 => ?_) (fun h6 => ?_)
  · refine g_tableIn C (v := 2) (off := 56) (tgt := 57) dX11_count_1 h6 (by decide) (by decide) (by decide) (by decide) ?_
    refine g_aload_n C dX11_count_57 rfl 0 rfl ?_
    refine g_getR C (ci := 10) (k := 1) dX11_count_58 rfl (by decide) (by decide) (by decide) ulX11_count_X11 flX11_count_18 rfl (fun v7 ev7 => ?_)
    refine g_callV C (n := 0) (ci := 8) [] [] (m_X9_pointsOfAll v7 S) dX11_count_61 gX11_count_X9_pointsOfAll rfl ⟨rfl, rfl⟩ (by decide +kernel) ⟨by decide, by decide⟩ ⟨by decide, by decide⟩ rfl (by decide) rfl rfl (by first | exact Nat.le_of_ble_eq_true rfl | simp [va_rf_cat, vi_cat, vl_cat]) (fun o8 eo8 => ?_)
    show G Γ cvI 2 0 0 64 [(0, va_rf a0), (1, .int x1)] [.int o8.1] o8.2 _
    exact g_iret C dX11_count_64 ⟨by decide, by decide⟩
  refine g_ite (fun h9 => ?_) (fun h9 => ?_)
  · refine g_tableIn C (v := 3) (off := 64) (tgt := 65) dX11_count_1 h9 (by decide) (by decide) (by decide) (by decide) ?_
    refine g_aload_n C dX11_count_65 rfl 0 rfl ?_
    refine g_getR C (ci := 10) (k := 1) dX11_count_66 rfl (by decide) (by decide) (by decide) ulX11_count_X11 flX11_count_18 rfl (fun v10 ev10 => ?_)
    refine g_callV C (n := 0) (ci := 8) [] [] (m_X9_loops v10 S) dX11_count_69 gX11_count_X9_loops rfl ⟨rfl, rfl⟩ (by decide +kernel) ⟨by decide, by decide⟩ ⟨by decide, by decide⟩ rfl (by decide) rfl rfl (by first | exact Nat.le_of_ble_eq_true rfl | simp [va_rf_cat, vi_cat, vl_cat]) (fun o11 eo11 => ?_)
    show G Γ cvI 2 0 0 72 [(0, va_rf a0), (1, .int x1)] [.int o11.1] o11.2 _
    exact g_iret C dX11_count_72 ⟨by decide, by decide⟩
  refine g_ite (fun h12 => ?_) (fun h12 => ?_)
  · refine g_tableIn C (v := 4) (off := 72) (tgt := 73) dX11_count_1 h12 (by decide) (by decide) (by decide) (by decide) ?_
    refine g_aload_n C dX11_count_73 rfl 0 rfl ?_
    refine g_getR C (ci := 10) (k := 3) dX11_count_74 rfl (by decide) (by decide) (by decide) ulX11_count_X11 flX11_count_32 rfl (fun v13 ev13 => ?_)
    refine g_callV C (n := 0) (ci := 6) [] [] (m_X6_zonesShut v13 S) dX11_count_77 gX11_count_X6_zonesShut rfl ⟨rfl, rfl⟩ (by decide +kernel) ⟨by decide, by decide⟩ ⟨by decide, by decide⟩ rfl (by decide) rfl rfl (by first | exact Nat.le_of_ble_eq_true rfl | simp [va_rf_cat, vi_cat, vl_cat]) (fun o14 eo14 => ?_)
    show G Γ cvI 2 0 0 80 [(0, va_rf a0), (1, .int x1)] [.int o14.1] o14.2 _
    exact g_iret C dX11_count_80 ⟨by decide, by decide⟩
  refine g_ite (fun h15 => ?_) (fun h15 => ?_)
  · refine g_tableIn C (v := 5) (off := 80) (tgt := 81) dX11_count_1 h15 (by decide) (by decide) (by decide) (by decide) ?_
    refine g_aload_n C dX11_count_81 rfl 0 rfl ?_
    refine g_getR C (ci := 10) (k := 4) dX11_count_82 rfl (by decide) (by decide) (by decide) ulX11_count_X11 flX11_count_39 rfl (fun v16 ev16 => ?_)
    refine g_getI C (ci := 0) (k := 2) dX11_count_85 rfl (by decide) (by decide) (by decide) ulX11_count_X0 flX11_count_285 rfl (fun v17 ev17 => ?_)
    exact g_iret C dX11_count_88 ⟨by decide, by decide⟩
  refine g_ite (fun h18 => ?_) (fun h18 => ?_)
  · refine g_tableIn C (v := 6) (off := 88) (tgt := 89) dX11_count_1 h18 (by decide) (by decide) (by decide) (by decide) ?_
    refine g_aload_n C dX11_count_89 rfl 0 rfl ?_
    refine g_getR C (ci := 10) (k := 4) dX11_count_90 rfl (by decide) (by decide) (by decide) ulX11_count_X11 flX11_count_39 rfl (fun v19 ev19 => ?_)
    refine g_getI C (ci := 0) (k := 1) dX11_count_93 rfl (by decide) (by decide) (by decide) ulX11_count_X0 flX11_count_243 rfl (fun v20 ev20 => ?_)
    exact g_iret C dX11_count_96 ⟨by decide, by decide⟩
  refine g_tableOut C (tgt := 97) dX11_count_1 (by have n0 := sw_n (k := 0) (by decide) h1; have n1 := sw_n (k := 1) (by decide) h3; have n2 := sw_n (k := 2) (by decide) h6; have n3 := sw_n (k := 3) (by decide) h9; have n4 := sw_n (k := 4) (by decide) h12; have n5 := sw_n (k := 5) (by decide) h15; have n6 := sw_n (k := 6) (by decide) h18; omega) (by decide) ?_
  refine g_ldc C (v := (-1000001 : Int32)) dX11_count_97 (by decide +kernel) ?_
  exact g_iret C dX11_count_99 ⟨by decide, by decide⟩
abbrev rmX11_status : Room := { frames := 0, cells := 0, slots := 0, locals := 0 }
theorem flX11_status_288 : Cond.fieldLink RX11 288 "LightLines" "finding" "I" ∈ wsX11_status := by decide +kernel
set_option maxRecDepth 100000 in
theorem ulX11_status_X11 : ∀ w ∈ u_ws RX11 TX11 7, w ∈ wsX11_status := by decide +kernel
set_option maxHeartbeats 4000000 in
set_option maxRecDepth 100000 in
theorem m_X11_status (a0 : Option Nat) (S : St) : ∀ l D cy H0 o, f_X11_status a0 S = some o → Met l yX11_status wsX11_status rmX11_status (Pq D cy H0 [va_rf a0] S) (Qx D cy H0 (cvI o)) 0 0 (fun q => H0.size ≤ q) := by
  refine met_of (cc := cX11_status) (maxL := 1) (ret := (some .int)) [va_rf a0] [(0, va_rf a0)] (by decide) rfl rfl (by simp [lg_sl, va_rf_cat, vi_cat, vl_cat]) (by simp [lv_args, va_rf_cat, vi_cat, vl_cat]) (fun Γ C => ?_)
  unfold f_X11_status
  refine g_aload_n C dX11_status_0 rfl 0 rfl ?_
  refine g_getI C (ci := 10) (k := 6) dX11_status_1 rfl (by decide) (by decide) (by decide) ulX11_status_X11 flX11_status_288 rfl (fun v1 ev1 => ?_)
  exact g_iret C dX11_status_4 ⟨by decide, by decide⟩
