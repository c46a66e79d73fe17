abbrev rmX0_init : Room := { frames := 1, cells := 27, slots := 420, locals := 24 }
theorem flX0_init_11 : Cond.fieldLink RX0 11 "LightLines$Cues" "tape" "[B" ∈ wsX0_init := by decide +kernel
theorem flX0_init_17 : Cond.fieldLink RX0 17 "LightLines$Cues" "keptCues" "[[I" ∈ wsX0_init := by decide +kernel
theorem flX0_init_20 : Cond.fieldLink RX0 20 "LightLines$Cues" "readCues" "[[I" ∈ wsX0_init := by decide +kernel
set_option maxRecDepth 100000 in
theorem ulX0_init_X0 : ∀ w ∈ u_ws RX0 TX0 10, w ∈ wsX0_init := by decide +kernel
set_option maxHeartbeats 4000000 in
set_option maxRecDepth 100000 in
theorem m_X0_init (a0 : Nat) (S : St) : ∀ l D cy H0 o, f_X0_init a0 S = some o → Met l yX0_init wsX0_init rmX0_init (Pq D cy H0 [va_rf (some a0)] S) (Qx D cy H0 (cvV o)) 27 420 (fun q => H0.size ≤ q) := by
  refine met_ofI (cc := cX0_init) (maxL := 1) (ret := none) [va_rf (some a0)] [(0, va_rf (some a0))] (by decide) rfl rfl rfl (by simp [lg_sl, va_rf_cat, vi_cat, vl_cat]) (by simp [lv_args, va_rf_cat, vi_cat, vl_cat]) (fun Γ C hN => ?_)
  unfold f_X0_init
  refine g_aload_n C dX0_init_0 rfl 0 rfl ?_
  refine g_objInit C dX0_init_1 (by decide +kernel) (by decide +kernel) (by decide +kernel) ⟨by decide, by decide⟩ (by first | exact Nat.le_of_ble_eq_true rfl | simp [va_rf_cat, vi_cat, vl_cat]) ?_
  refine g_aload_n C dX0_init_4 rfl 0 rfl ?_
  refine g_sipush C (v := (300 : Int32)) dX0_init_5 (by decide) ?_
  refine g_newa C (kd := 13) (t0 := 0) (mx := 300) (ty := .byte) dX0_init_8 rfl rfl ⟨by decide, by decide⟩ (fun _ => rfl) (fun _ _ h => h) (by decide) (by decide +kernel) ⟨by decide, by decide⟩ (fun S1 eS1 => ?_)
  show G Γ cvV 1 1 300 10 [(0, va_rf (some a0))] [va_rf (some S.2.2.2), va_rf (some a0)] S1 _
  refine g_putFR C hN (ci := 0) (k := 0) (ty0 := tyX0) dX0_init_10 rfl (by decide) (by decide) (by decide) tyX0_ok nmX0 ulX0_init_X0 flX0_init_11 rfl rfl rfl (rf_fit_a _) (fun S2 eS2 => ?_)
  refine g_aload_n C dX0_init_13 rfl 0 rfl ?_
  refine g_bipush C (v := (12 : Int32)) dX0_init_14 (by decide) ?_
  refine g_iconst C (v := (4 : Int32)) dX0_init_16 (by decide) ?_
  refine g_mna C (N := 12) (M := 4) dX0_init_17 (by decide) (by decide) (by decide) (by decide) (by decide) (by decide) (by decide) (by decide +kernel) (by decide +kernel) ⟨by decide, by decide⟩ (fun S3 => ?_)
  show G Γ cvV 1 14 360 21 [(0, va_rf (some a0))] [va_rf (some S2.2.2.2), va_rf (some a0)] S3 _
  refine g_putR C (ci := 0) (k := 4) (ty0 := tyX0) dX0_init_21 rfl (by decide) (by decide) (by decide) tyX0_ok nmX0 ulX0_init_X0 flX0_init_17 rfl rfl (rf_fit_a _) (fun S4 eS4 => ?_)
  refine g_aload_n C dX0_init_24 rfl 0 rfl ?_
  refine g_bipush C (v := (12 : Int32)) dX0_init_25 (by decide) ?_
  refine g_iconst C (v := (4 : Int32)) dX0_init_27 (by decide) ?_
  refine g_mna C (N := 12) (M := 4) dX0_init_28 (by decide) (by decide) (by decide) (by decide) (by decide) (by decide) (by decide) (by decide +kernel) (by decide +kernel) ⟨by decide, by decide⟩ (fun S5 => ?_)
  show G Γ cvV 1 27 420 32 [(0, va_rf (some a0))] [va_rf (some S4.2.2.2), va_rf (some a0)] S5 _
  refine g_putR C (ci := 0) (k := 5) (ty0 := tyX0) dX0_init_32 rfl (by decide) (by decide) (by decide) tyX0_ok nmX0 ulX0_init_X0 flX0_init_20 rfl rfl (rf_fit_a _) (fun S6 eS6 => ?_)
  exact g_vret C dX0_init_35 ⟨by decide, by decide⟩
abbrev rmX0_takeBytes : Room := { frames := 0, cells := 0, slots := 0, locals := 0 }
theorem flX0_takeBytes_11 : Cond.fieldLink RX0 11 "LightLines$Cues" "tape" "[B" ∈ wsX0_takeBytes := by decide +kernel
theorem flX0_takeBytes_23 : Cond.fieldLink RX0 23 "LightLines$Cues" "length" "I" ∈ wsX0_takeBytes := by decide +kernel
set_option maxRecDepth 100000 in
theorem ulX0_takeBytes_X0 : ∀ w ∈ u_ws RX0 TX0 10, w ∈ wsX0_takeBytes := by decide +kernel
set_option maxHeartbeats 4000000 in
set_option maxRecDepth 100000 in
theorem t_X0_takeBytes_19 {Γ : Cx} (C : CF Γ cX0_takeBytes 5 (some .boolean) wsX0_takeBytes RX0 rmX0_takeBytes 0 0) : ∀ (n : Nat) (a0 : Option Nat) (j1 : Int64) (x4 : Int32) (S : St), G Γ cvI 5 0 0 19 [(0, va_rf a0), (1, .long j1), (4, .int x4)] [] S (b_X0_takeBytes_19  n a0 j1 x4 S) := by
  intro n
  induction n with
  | zero => intro a0 j1 x4 S; exact g_none
  | succ n ih =>
    intro a0 j1 x4 S
    rw [b_X0_takeBytes_19]
    refine g_iload C dX0_takeBytes_19 2 rfl ?_
    refine g_if_lt C (tgt := 58) dX0_takeBytes_21 (by decide) (fun h1 => ?_) (fun h1 => ?_)
    · refine g_iconst C (v := (1 : Int32)) dX0_takeBytes_58 (by decide) ?_
      exact g_zret C dX0_takeBytes_59 ⟨by decide, by decide⟩
    · refine g_aload_n C dX0_takeBytes_24 rfl 0 rfl ?_
      refine g_getR C (ci := 0) (k := 0) dX0_takeBytes_25 rfl (by decide) (by decide) (by decide) ulX0_takeBytes_X0 flX0_takeBytes_11 rfl (fun v2 ev2 => ?_)
      refine g_aload_n C dX0_takeBytes_28 rfl 0 rfl ?_
      refine g_getI C (ci := 0) (k := 1) dX0_takeBytes_29 rfl (by decide) (by decide) (by decide) ulX0_takeBytes_X0 flX0_takeBytes_23 rfl (fun v3 ev3 => ?_)
      refine g_lload_n C dX0_takeBytes_32 rfl 1 rfl ?_
      refine g_bipush C (v := (8 : Int32)) dX0_takeBytes_33 (by decide) ?_
      refine g_iload C dX0_takeBytes_35 2 rfl ?_
      refine g_imul C dX0_takeBytes_37 ?_
      refine g_lshr C dX0_takeBytes_38 ?_
      refine g_l2i C dX0_takeBytes_39 ?_
      refine g_i2b C dX0_takeBytes_40 ?_
      refine g_bst C dX0_takeBytes_41 (fun S4 eS4 => ?_)
      refine g_aload_n C dX0_takeBytes_42 rfl 0 rfl ?_
      refine g_dupr C dX0_takeBytes_43 ?_
      refine g_getI C (ci := 0) (k := 1) dX0_takeBytes_44 rfl (by decide) (by decide) (by decide) ulX0_takeBytes_X0 flX0_takeBytes_23 rfl (fun v5 ev5 => ?_)
      refine g_iconst C (v := (1 : Int32)) dX0_takeBytes_47 (by decide) ?_
      refine g_iadd C dX0_takeBytes_48 ?_
      refine g_putI C (ci := 0) (k := 1) (ty0 := tyX0) dX0_takeBytes_49 rfl (by decide) (by decide) (by decide) tyX0_ok nmX0 ulX0_takeBytes_X0 flX0_takeBytes_23 rfl rfl ⟨rfl, rfl⟩ (fun S6 eS6 => ?_)
      refine g_iinc1 C dX0_takeBytes_52 2 rfl (by decide) (by decide) (fun y7 => ?_)
      refine g_lveq (lv2 := [(4, .int y7), (0, va_rf a0), (1, .long j1)]) (by first | rfl | simp [va_rf_cat, vi_cat, vl_cat]) ?_
      refine g_goto C (tgt := 19) dX0_takeBytes_55 (by decide) ?_
      exact g_sub (lv2 := [(0, va_rf a0), (1, .long j1), (4, .int y7)]) [1, 2, 0] rfl (ih a0 j1 y7 S6)
set_option maxHeartbeats 4000000 in
set_option maxRecDepth 100000 in
theorem m_X0_takeBytes (a0 : Option Nat) (j1 : Int64) (x3 : Int32) (S : St) : ∀ l D cy H0 o, f_X0_takeBytes a0 j1 x3 S = some o → Met l yX0_takeBytes wsX0_takeBytes rmX0_takeBytes (Pq D cy H0 [va_rf a0, .long j1, .int x3] S) (Qx D cy H0 (cvI o)) 0 0 (fun q => H0.size ≤ q) := by
  refine met_of (cc := cX0_takeBytes) (maxL := 5) (ret := (some .boolean)) [va_rf a0, .long j1, .int x3] [(0, va_rf a0), (1, .long j1), (3, .int x3)] (by decide) rfl rfl (by simp [lg_sl, va_rf_cat, vi_cat, vl_cat]) (by simp [lv_args, va_rf_cat, vi_cat, vl_cat]) (fun Γ C => ?_)
  unfold f_X0_takeBytes
  refine g_iload_n C dX0_takeBytes_0 rfl 2 rfl ?_
  refine g_sipush C (v := (300 : Int32)) dX0_takeBytes_1 (by decide) ?_
  refine g_aload_n C dX0_takeBytes_4 rfl 0 rfl ?_
  refine g_getI C (ci := 0) (k := 1) dX0_takeBytes_5 rfl (by decide) (by decide) (by decide) ulX0_takeBytes_X0 flX0_takeBytes_23 rfl (fun v1 ev1 => ?_)
  refine g_isub C dX0_takeBytes_8 ?_
  refine g_icmp_le C (tgt := 14) dX0_takeBytes_9 (by decide) (fun h2 => ?_) (fun h2 => ?_)
  · refine g_iload_n C dX0_takeBytes_14 rfl 2 rfl ?_
    refine g_iconst C (v := (1 : Int32)) dX0_takeBytes_15 (by decide) ?_
    refine g_isub C dX0_takeBytes_16 ?_
    refine g_topi (fun y3 => ?_)
    refine g_istore C (i := 4) (lv2 := [(4, .int y3), (0, va_rf a0), (1, .long j1), (3, .int x3)]) dX0_takeBytes_17 (by decide) (by first | rfl | simp [va_rf_cat, vi_cat, vl_cat]) ?_
    exact g_sub (lv2 := [(0, va_rf a0), (1, .long j1), (4, .int y3)]) [1, 2, 0] rfl (t_X0_takeBytes_19 C FU a0 j1 y3 S)
  · refine g_iconst C (v := (0 : Int32)) dX0_takeBytes_12 (by decide) ?_
    exact g_zret C dX0_takeBytes_13 ⟨by decide, by decide⟩
abbrev rmX0_sortOf : Room := { frames := 0, cells := 0, slots := 0, locals := 0 }
set_option maxHeartbeats 4000000 in
set_option maxRecDepth 100000 in
theorem t_X0_sortOf_42 {Γ : Cx} (C : CF Γ cX0_sortOf 1 (some .int) wsX0_sortOf RX0 rmX0_sortOf 0 0) (x0 : Int32) (S : St) : G Γ cvI 1 0 0 42 [(0, .int x0)] [] S (b_X0_sortOf_42  x0 S) := by
  unfold b_X0_sortOf_42
  refine g_iload_n C dX0_sortOf_42 rfl 0 rfl ?_
  refine g_bipush C (v := (59 : Int32)) dX0_sortOf_43 (by decide) ?_
  refine g_icmp_ne C (tgt := 52) dX0_sortOf_45 (by decide) (fun h1 => ?_) (fun h1 => ?_)
  · refine g_iconst C (v := (3 : Int32)) dX0_sortOf_48 (by decide) ?_
    refine g_goto C (tgt := 53) dX0_sortOf_49 (by decide) ?_
    exact g_iret C dX0_sortOf_53 ⟨by decide, by decide⟩
  · refine g_iconst C (v := (4 : Int32)) dX0_sortOf_52 (by decide) ?_
    exact g_iret C dX0_sortOf_53 ⟨by decide, by decide⟩
set_option maxHeartbeats 4000000 in
set_option maxRecDepth 100000 in
theorem t_X0_sortOf_28 {Γ : Cx} (C : CF Γ cX0_sortOf 1 (some .int) wsX0_sortOf RX0 rmX0_sortOf 0 0) (x0 : Int32) (S : St) : G Γ cvI 1 0 0 28 [(0, .int x0)] [] S (b_X0_sortOf_28  x0 S) := by
  unfold b_X0_sortOf_28
  refine g_iload_n C dX0_sortOf_28 rfl 0 rfl ?_
  refine g_bipush C (v := (48 : Int32)) dX0_sortOf_29 (by decide) ?_
  refine g_icmp_lt C (tgt := 42) dX0_sortOf_31 (by decide) (fun h1 => ?_) (fun h1 => ?_)
  · exact g_sub (lv2 := [(0, .int x0)]) [0] rfl (t_X0_sortOf_42 C x0 S)
  · refine g_iload_n C dX0_sortOf_34 rfl 0 rfl ?_
    refine g_bipush C (v := (57 : Int32)) dX0_sortOf_35 (by decide) ?_
    refine g_icmp_gt C (tgt := 42) dX0_sortOf_37 (by decide) (fun h2 => ?_) (fun h2 => ?_)
    · exact g_sub (lv2 := [(0, .int x0)]) [0] rfl (t_X0_sortOf_42 C x0 S)
    · refine g_iconst C (v := (2 : Int32)) dX0_sortOf_40 (by decide) ?_
      exact g_iret C dX0_sortOf_41 ⟨by decide, by decide⟩
set_option maxHeartbeats 4000000 in
set_option maxRecDepth 100000 in
theorem m_X0_sortOf (x0 : Int32) (S : St) : ∀ l D cy H0 o, f_X0_sortOf x0 S = some o → Met l yX0_sortOf wsX0_sortOf rmX0_sortOf (Pq D cy H0 [.int x0] S) (Qx D cy H0 (cvI o)) 0 0 (fun q => H0.size ≤ q) := by
  refine met_of (cc := cX0_sortOf) (maxL := 1) (ret := (some .int)) [.int x0] [(0, .int x0)] (by decide) rfl rfl (by simp [lg_sl, va_rf_cat, vi_cat, vl_cat]) (by simp [lv_args, va_rf_cat, vi_cat, vl_cat]) (fun Γ C => ?_)
  unfold f_X0_sortOf
  refine g_iload_n C dX0_sortOf_0 rfl 0 rfl ?_
  refine g_bipush C (v := (32 : Int32)) dX0_sortOf_1 (by decide) ?_
  refine g_icmp_eq C (tgt := 12) dX0_sortOf_3 (by decide) (fun h1 => ?_) (fun h1 => ?_)
  · refine g_iconst C (v := (5 : Int32)) dX0_sortOf_12 (by decide) ?_
    exact g_iret C dX0_sortOf_13 ⟨by decide, by decide⟩
  · refine g_iload_n C dX0_sortOf_6 rfl 0 rfl ?_
    refine g_bipush C (v := (10 : Int32)) dX0_sortOf_7 (by decide) ?_
    refine g_icmp_ne C (tgt := 14) dX0_sortOf_9 (by decide) (fun h2 => ?_) (fun h2 => ?_)
    · refine g_iconst C (v := (5 : Int32)) dX0_sortOf_12 (by decide) ?_
      exact g_iret C dX0_sortOf_13 ⟨by decide, by decide⟩
    · refine g_iload_n C dX0_sortOf_14 rfl 0 rfl ?_
      refine g_bipush C (v := (97 : Int32)) dX0_sortOf_15 (by decide) ?_
      refine g_icmp_lt C (tgt := 28) dX0_sortOf_17 (by decide) (fun h3 => ?_) (fun h3 => ?_)
      · exact g_sub (lv2 := [(0, .int x0)]) [0] rfl (t_X0_sortOf_28 C x0 S)
      · refine g_iload_n C dX0_sortOf_20 rfl 0 rfl ?_
        refine g_bipush C (v := (122 : Int32)) dX0_sortOf_21 (by decide) ?_
        refine g_icmp_gt C (tgt := 28) dX0_sortOf_23 (by decide) (fun h4 => ?_) (fun h4 => ?_)
        · exact g_sub (lv2 := [(0, .int x0)]) [0] rfl (t_X0_sortOf_28 C x0 S)
        · refine g_iconst C (v := (1 : Int32)) dX0_sortOf_26 (by decide) ?_
          exact g_iret C dX0_sortOf_27 ⟨by decide, by decide⟩
abbrev rmX0_nextToken : Room := { frames := 1, cells := 0, slots := 0, locals := 20 }
theorem flX0_nextToken_11 : Cond.fieldLink RX0 11 "LightLines$Cues" "tape" "[B" ∈ wsX0_nextToken := by decide +kernel
theorem flX0_nextToken_23 : Cond.fieldLink RX0 23 "LightLines$Cues" "length" "I" ∈ wsX0_nextToken := by decide +kernel
theorem flX0_nextToken_30 : Cond.fieldLink RX0 30 "LightLines$Cues" "tokenEnd" "I" ∈ wsX0_nextToken := by decide +kernel
theorem flX0_nextToken_36 : Cond.fieldLink RX0 36 "LightLines$Cues" "token" "I" ∈ wsX0_nextToken := by decide +kernel
theorem flX0_nextToken_47 : Cond.fieldLink RX0 47 "LightLines$Cues" "tokenStart" "I" ∈ wsX0_nextToken := by decide +kernel
set_option maxRecDepth 100000 in
theorem ulX0_nextToken_X0 : ∀ w ∈ u_ws RX0 TX0 10, w ∈ wsX0_nextToken := by decide +kernel
set_option maxHeartbeats 4000000 in
set_option maxRecDepth 100000 in
theorem t_X0_nextToken_177 {Γ : Cx} (C : CF Γ cX0_nextToken 3 none wsX0_nextToken RX0 rmX0_nextToken 0 0) (r0 : Option Nat) (s1 : Int32) (S : St) : G Γ cvV 3 0 0 177 [] [.int s1, va_rf r0] S (b_X0_nextToken_177  r0 s1 S) := by
  unfold b_X0_nextToken_177
  refine g_putI C (ci := 0) (k := 7) (ty0 := tyX0) dX0_nextToken_177 rfl (by decide) (by decide) (by decide) tyX0_ok nmX0 ulX0_nextToken_X0 flX0_nextToken_36 rfl rfl ⟨rfl, rfl⟩ (fun S1 eS1 => ?_)
  exact g_vret C dX0_nextToken_180 ⟨by decide, by decide⟩
set_option maxHeartbeats 4000000 in
set_option maxRecDepth 100000 in
theorem t_X0_nextToken_154 {Γ : Cx} (C : CF Γ cX0_nextToken 3 none wsX0_nextToken RX0 rmX0_nextToken 0 0) (a0 : Option Nat) (s0 : Int32) (S : St) : G Γ cvV 3 0 0 154 [(0, va_rf a0)] [.int s0] S (b_X0_nextToken_154  a0 s0 S) := by
  unfold b_X0_nextToken_154
  refine g_istore_n C (i := 2) (lv2 := [(2, .int s0), (0, va_rf a0)]) dX0_nextToken_154 rfl (by decide) (by first | rfl | simp [va_rf_cat, vi_cat, vl_cat]) ?_
  refine g_aload_n C dX0_nextToken_155 rfl 1 rfl ?_
  refine g_aload_n C dX0_nextToken_156 rfl 1 rfl ?_
  refine g_getI C (ci := 0) (k := 9) dX0_nextToken_157 rfl (by decide) (by decide) (by decide) ulX0_nextToken_X0 flX0_nextToken_30 rfl (fun v1 ev1 => ?_)
  refine g_aload_n C dX0_nextToken_160 rfl 1 rfl ?_
  refine g_getI C (ci := 0) (k := 8) dX0_nextToken_161 rfl (by decide) (by decide) (by decide) ulX0_nextToken_X0 flX0_nextToken_47 rfl (fun v2 ev2 => ?_)
  refine g_isub C dX0_nextToken_164 ?_
  refine g_iload_n C dX0_nextToken_165 rfl 0 rfl ?_
  refine g_icmp_le C (tgt := 173) dX0_nextToken_166 (by decide) (fun h3 => ?_) (fun h3 => ?_)
  · refine g_aload_n C dX0_nextToken_173 rfl 1 rfl ?_
    refine g_getI C (ci := 0) (k := 7) dX0_nextToken_174 rfl (by decide) (by decide) (by decide) ulX0_nextToken_X0 flX0_nextToken_36 rfl (fun v4 ev4 => ?_)
    exact g_sub (lv2 := []) [] rfl (t_X0_nextToken_177 C a0 v4 S)
  · refine g_iconst C (v := (4 : Int32)) dX0_nextToken_169 (by decide) ?_
    refine g_goto C (tgt := 177) dX0_nextToken_170 (by decide) ?_
    exact g_sub (lv2 := []) [] rfl (t_X0_nextToken_177 C a0 (4 : Int32) S)
set_option maxHeartbeats 4000000 in
set_option maxRecDepth 100000 in
theorem t_X0_nextToken_140 {Γ : Cx} (C : CF Γ cX0_nextToken 3 none wsX0_nextToken RX0 rmX0_nextToken 0 0) (a0 : Option Nat) (S : St) : G Γ cvV 3 0 0 140 [(0, va_rf a0)] [] S (b_X0_nextToken_140  a0 S) := by
  unfold b_X0_nextToken_140
  refine g_aload_n C dX0_nextToken_140 rfl 0 rfl ?_
  refine g_getI C (ci := 0) (k := 7) dX0_nextToken_141 rfl (by decide) (by decide) (by decide) ulX0_nextToken_X0 flX0_nextToken_36 rfl (fun v1 ev1 => ?_)
  refine g_iconst C (v := (1 : Int32)) dX0_nextToken_144 (by decide) ?_
  refine g_icmp_ne C (tgt := 153) dX0_nextToken_145 (by decide) (fun h2 => ?_) (fun h2 => ?_)
  · refine g_bipush C (v := (6 : Int32)) dX0_nextToken_148 (by decide) ?_
    refine g_goto C (tgt := 154) dX0_nextToken_150 (by decide) ?_
    exact g_sub (lv2 := [(0, va_rf a0)]) [0] rfl (t_X0_nextToken_154 C a0 (6 : Int32) S)
  · refine g_iconst C (v := (4 : Int32)) dX0_nextToken_153 (by decide) ?_
    exact g_sub (lv2 := [(0, va_rf a0)]) [0] rfl (t_X0_nextToken_154 C a0 (4 : Int32) S)
set_option maxHeartbeats 4000000 in
set_option maxRecDepth 100000 in
theorem t_X0_nextToken_97 {Γ : Cx} (C : CF Γ cX0_nextToken 3 none wsX0_nextToken RX0 rmX0_nextToken 0 0) : ∀ (n : Nat) (a0 : Option Nat) (S : St), G Γ cvV 3 0 0 97 [(0, va_rf a0)] [] S (b_X0_nextToken_97  n a0 S) := by
  intro n
  induction n with
  | zero => intro a0 S; exact g_none
  | succ n ih =>
    intro a0 S
    rw [b_X0_nextToken_97]
    refine g_aload_n C dX0_nextToken_97 rfl 0 rfl ?_
    refine g_getI C (ci := 0) (k := 9) dX0_nextToken_98 rfl (by decide) (by decide) (by decide) ulX0_nextToken_X0 flX0_nextToken_30 rfl (fun v1 ev1 => ?_)
    refine g_aload_n C dX0_nextToken_101 rfl 0 rfl ?_
    refine g_getI C (ci := 0) (k := 1) dX0_nextToken_102 rfl (by decide) (by decide) (by decide) ulX0_nextToken_X0 flX0_nextToken_23 rfl (fun v2 ev2 => ?_)
    refine g_icmp_ge C (tgt := 140) dX0_nextToken_105 (by decide) (fun h3 => ?_) (fun h3 => ?_)
    · exact g_sub (lv2 := [(0, va_rf a0)]) [0] rfl (t_X0_nextToken_140 C a0 S)
    · refine g_aload_n C dX0_nextToken_108 rfl 0 rfl ?_
      refine g_getR C (ci := 0) (k := 0) dX0_nextToken_109 rfl (by decide) (by decide) (by decide) ulX0_nextToken_X0 flX0_nextToken_11 rfl (fun v4 ev4 => ?_)
      refine g_aload_n C dX0_nextToken_112 rfl 0 rfl ?_
      refine g_getI C (ci := 0) (k := 9) dX0_nextToken_113 rfl (by decide) (by decide) (by decide) ulX0_nextToken_X0 flX0_nextToken_30 rfl (fun v5 ev5 => ?_)
      refine g_bld C dX0_nextToken_116 (fun v6 ev6 => ?_)
      refine g_callS C (n := 1) [.int v6] [] (m_X0_sortOf v6 S) dX0_nextToken_117 gX0_nextToken_X0_sortOf rfl ⟨rfl, rfl⟩ (by decide +kernel) ⟨by decide, by decide⟩ ⟨by decide, by decide⟩ rfl rfl (by first | exact Nat.le_of_ble_eq_true rfl | simp [va_rf_cat, vi_cat, vl_cat]) (fun o7 eo7 => ?_)
      show G Γ cvV 3 0 0 120 [(0, va_rf a0)] [.int o7.1] o7.2 _
      refine g_aload_n C dX0_nextToken_120 rfl 0 rfl ?_
      refine g_getI C (ci := 0) (k := 7) dX0_nextToken_121 rfl (by decide) (by decide) (by decide) ulX0_nextToken_X0 flX0_nextToken_36 rfl (fun v8 ev8 => ?_)
      refine g_icmp_ne C (tgt := 140) dX0_nextToken_124 (by decide) (fun h9 => ?_) (fun h9 => ?_)
      · refine g_aload_n C dX0_nextToken_127 rfl 0 rfl ?_
        refine g_dupr C dX0_nextToken_128 ?_
        refine g_getI C (ci := 0) (k := 9) dX0_nextToken_129 rfl (by decide) (by decide) (by decide) ulX0_nextToken_X0 flX0_nextToken_30 rfl (fun v10 ev10 => ?_)
        refine g_iconst C (v := (1 : Int32)) dX0_nextToken_132 (by decide) ?_
        refine g_iadd C dX0_nextToken_133 ?_
        refine g_putI C (ci := 0) (k := 9) (ty0 := tyX0) dX0_nextToken_134 rfl (by decide) (by decide) (by decide) tyX0_ok nmX0 ulX0_nextToken_X0 flX0_nextToken_30 rfl rfl ⟨rfl, rfl⟩ (fun S11 eS11 => ?_)
        refine g_goto C (tgt := 97) dX0_nextToken_137 (by decide) ?_
        exact g_sub (lv2 := [(0, va_rf a0)]) [0] rfl (ih a0 S11)
      · exact g_sub (lv2 := [(0, va_rf a0)]) [0] rfl (t_X0_nextToken_140 C a0 o7.2)
set_option maxHeartbeats 4000000 in
set_option maxRecDepth 100000 in
theorem t_X0_nextToken_78 {Γ : Cx} (C : CF Γ cX0_nextToken 3 none wsX0_nextToken RX0 rmX0_nextToken 0 0) (a0 : Option Nat) (r0 : Option Nat) (s1 : Int32) (S : St) : G Γ cvV 3 0 0 78 [(0, va_rf a0)] [.int s1, va_rf r0] S (b_X0_nextToken_78  a0 r0 s1 S) := by
  unfold b_X0_nextToken_78
  refine g_putI C (ci := 0) (k := 9) (ty0 := tyX0) dX0_nextToken_78 rfl (by decide) (by decide) (by decide) tyX0_ok nmX0 ulX0_nextToken_X0 flX0_nextToken_30 rfl rfl ⟨rfl, rfl⟩ (fun S1 eS1 => ?_)
  refine g_aload_n C dX0_nextToken_81 rfl 0 rfl ?_
  refine g_getI C (ci := 0) (k := 7) dX0_nextToken_82 rfl (by decide) (by decide) (by decide) ulX0_nextToken_X0 flX0_nextToken_36 rfl (fun v2 ev2 => ?_)
  refine g_iconst C (v := (1 : Int32)) dX0_nextToken_85 (by decide) ?_
  refine g_icmp_eq C (tgt := 97) dX0_nextToken_86 (by decide) (fun h3 => ?_) (fun h3 => ?_)
  · exact g_sub (lv2 := [(0, va_rf a0)]) [0] rfl (t_X0_nextToken_97 C FU a0 S1)
  · refine g_aload_n C dX0_nextToken_89 rfl 0 rfl ?_
    refine g_getI C (ci := 0) (k := 7) dX0_nextToken_90 rfl (by decide) (by decide) (by decide) ulX0_nextToken_X0 flX0_nextToken_36 rfl (fun v4 ev4 => ?_)
    refine g_iconst C (v := (2 : Int32)) dX0_nextToken_93 (by decide) ?_
    refine g_icmp_ne C (tgt := 180) dX0_nextToken_94 (by decide) (fun h5 => ?_) (fun h5 => ?_)
    · exact g_sub (lv2 := [(0, va_rf a0)]) [0] rfl (t_X0_nextToken_97 C FU a0 S1)
    · exact g_vret C dX0_nextToken_180 ⟨by decide, by decide⟩
set_option maxHeartbeats 4000000 in
set_option maxRecDepth 100000 in
theorem t_X0_nextToken_59 {Γ : Cx} (C : CF Γ cX0_nextToken 3 none wsX0_nextToken RX0 rmX0_nextToken 0 0) (a0 : Option Nat) (x1 : Int32) (r0 : Option Nat) (s1 : Int32) (S : St) : G Γ cvV 3 0 0 59 [(0, va_rf a0), (1, .int x1)] [.int s1, va_rf r0] S (b_X0_nextToken_59  a0 x1 r0 s1 S) := by
  unfold b_X0_nextToken_59
  refine g_putI C (ci := 0) (k := 7) (ty0 := tyX0) dX0_nextToken_59 rfl (by decide) (by decide) (by decide) tyX0_ok nmX0 ulX0_nextToken_X0 flX0_nextToken_36 rfl rfl ⟨rfl, rfl⟩ (fun S1 eS1 => ?_)
  refine g_aload_n C dX0_nextToken_62 rfl 0 rfl ?_
  refine g_iload_n C dX0_nextToken_63 rfl 1 rfl ?_
  refine g_aload_n C dX0_nextToken_64 rfl 0 rfl ?_
  refine g_getI C (ci := 0) (k := 1) dX0_nextToken_65 rfl (by decide) (by decide) (by decide) ulX0_nextToken_X0 flX0_nextToken_23 rfl (fun v2 ev2 => ?_)
  refine g_icmp_ge C (tgt := 77) dX0_nextToken_68 (by decide) (fun h3 => ?_) (fun h3 => ?_)
  · refine g_iload_n C dX0_nextToken_77 rfl 1 rfl ?_
    exact g_sub (lv2 := [(0, va_rf a0)]) [0] rfl (t_X0_nextToken_78 C a0 a0 x1 S1)
  · refine g_iload_n C dX0_nextToken_71 rfl 1 rfl ?_
    refine g_iconst C (v := (1 : Int32)) dX0_nextToken_72 (by decide) ?_
    refine g_iadd C dX0_nextToken_73 ?_
    refine g_goto C (tgt := 78) dX0_nextToken_74 (by decide) ?_
    exact g_sub (lv2 := [(0, va_rf a0)]) [0] rfl (t_X0_nextToken_78 C a0 a0 (x1 + (1 : Int32)) S1)
set_option maxHeartbeats 4000000 in
set_option maxRecDepth 100000 in
theorem t_X0_nextToken_32 {Γ : Cx} (C : CF Γ cX0_nextToken 3 none wsX0_nextToken RX0 rmX0_nextToken 0 0) (a0 : Option Nat) (x1 : Int32) (S : St) : G Γ cvV 3 0 0 32 [(0, va_rf a0), (1, .int x1)] [] S (b_X0_nextToken_32  a0 x1 S) := by
  unfold b_X0_nextToken_32
  refine g_aload_n C dX0_nextToken_32 rfl 0 rfl ?_
  refine g_iload_n C dX0_nextToken_33 rfl 1 rfl ?_
  refine g_putI C (ci := 0) (k := 8) (ty0 := tyX0) dX0_nextToken_34 rfl (by decide) (by decide) (by decide) tyX0_ok nmX0 ulX0_nextToken_X0 flX0_nextToken_47 rfl rfl ⟨rfl, rfl⟩ (fun S1 eS1 => ?_)
  refine g_aload_n C dX0_nextToken_37 rfl 0 rfl ?_
  refine g_iload_n C dX0_nextToken_38 rfl 1 rfl ?_
  refine g_aload_n C dX0_nextToken_39 rfl 0 rfl ?_
  refine g_getI C (ci := 0) (k := 1) dX0_nextToken_40 rfl (by decide) (by decide) (by decide) ulX0_nextToken_X0 flX0_nextToken_23 rfl (fun v2 ev2 => ?_)
  refine g_icmp_ge C (tgt := 58) dX0_nextToken_43 (by decide) (fun h3 => ?_) (fun h3 => ?_)
  · refine g_iconst C (v := (0 : Int32)) dX0_nextToken_58 (by decide) ?_
    exact g_sub (lv2 := [(0, va_rf a0), (1, .int x1)]) [0, 1] rfl (t_X0_nextToken_59 C a0 x1 a0 (0 : Int32) S1)
  · refine g_aload_n C dX0_nextToken_46 rfl 0 rfl ?_
    refine g_getR C (ci := 0) (k := 0) dX0_nextToken_47 rfl (by decide) (by decide) (by decide) ulX0_nextToken_X0 flX0_nextToken_11 rfl (fun v4 ev4 => ?_)
    refine g_iload_n C dX0_nextToken_50 rfl 1 rfl ?_
    refine g_bld C dX0_nextToken_51 (fun v5 ev5 => ?_)
    refine g_callS C (n := 1) [.int v5] [va_rf a0] (m_X0_sortOf v5 S1) dX0_nextToken_52 gX0_nextToken_X0_sortOf rfl ⟨rfl, rfl⟩ (by decide +kernel) ⟨by decide, by decide⟩ ⟨by decide, by decide⟩ rfl rfl (by first | exact Nat.le_of_ble_eq_true rfl | simp [va_rf_cat, vi_cat, vl_cat]) (fun o6 eo6 => ?_)
    show G Γ cvV 3 0 0 55 [(0, va_rf a0), (1, .int x1)] [.int o6.1, va_rf a0] o6.2 _
    refine g_goto C (tgt := 59) dX0_nextToken_55 (by decide) ?_
    exact g_sub (lv2 := [(0, va_rf a0), (1, .int x1)]) [0, 1] rfl (t_X0_nextToken_59 C a0 x1 a0 o6.1 o6.2)
set_option maxHeartbeats 4000000 in
set_option maxRecDepth 100000 in
theorem t_X0_nextToken_5 {Γ : Cx} (C : CF Γ cX0_nextToken 3 none wsX0_nextToken RX0 rmX0_nextToken 0 0) : ∀ (n : Nat) (a0 : Option Nat) (x1 : Int32) (S : St), G Γ cvV 3 0 0 5 [(0, va_rf a0), (1, .int x1)] [] S (b_X0_nextToken_5  n a0 x1 S) := by
  intro n
  induction n with
  | zero => intro a0 x1 S; exact g_none
  | succ n ih =>
    intro a0 x1 S
    rw [b_X0_nextToken_5]
    refine g_iload_n C dX0_nextToken_5 rfl 1 rfl ?_
    refine g_aload_n C dX0_nextToken_6 rfl 0 rfl ?_
    refine g_getI C (ci := 0) (k := 1) dX0_nextToken_7 rfl (by decide) (by decide) (by decide) ulX0_nextToken_X0 flX0_nextToken_23 rfl (fun v1 ev1 => ?_)
    refine g_icmp_ge C (tgt := 32) dX0_nextToken_10 (by decide) (fun h2 => ?_) (fun h2 => ?_)
    · exact g_sub (lv2 := [(0, va_rf a0), (1, .int x1)]) [0, 1] rfl (t_X0_nextToken_32 C a0 x1 S)
    · refine g_aload_n C dX0_nextToken_13 rfl 0 rfl ?_
      refine g_getR C (ci := 0) (k := 0) dX0_nextToken_14 rfl (by decide) (by decide) (by decide) ulX0_nextToken_X0 flX0_nextToken_11 rfl (fun v3 ev3 => ?_)
      refine g_iload_n C dX0_nextToken_17 rfl 1 rfl ?_
      refine g_bld C dX0_nextToken_18 (fun v4 ev4 => ?_)
      refine g_callS C (n := 1) [.int v4] [] (m_X0_sortOf v4 S) dX0_nextToken_19 gX0_nextToken_X0_sortOf rfl ⟨rfl, rfl⟩ (by decide +kernel) ⟨by decide, by decide⟩ ⟨by decide, by decide⟩ rfl rfl (by first | exact Nat.le_of_ble_eq_true rfl | simp [va_rf_cat, vi_cat, vl_cat]) (fun o5 eo5 => ?_)
      show G Γ cvV 3 0 0 22 [(0, va_rf a0), (1, .int x1)] [.int o5.1] o5.2 _
      refine g_iconst C (v := (5 : Int32)) dX0_nextToken_22 (by decide) ?_
      refine g_icmp_ne C (tgt := 32) dX0_nextToken_23 (by decide) (fun h6 => ?_) (fun h6 => ?_)
      · refine g_iinc1 C dX0_nextToken_26 1 rfl (by decide) (by decide) (fun y7 => ?_)
        refine g_lveq (lv2 := [(1, .int y7), (0, va_rf a0)]) (by first | rfl | simp [va_rf_cat, vi_cat, vl_cat]) ?_
        refine g_goto C (tgt := 5) dX0_nextToken_29 (by decide) ?_
        exact g_sub (lv2 := [(0, va_rf a0), (1, .int y7)]) [1, 0] rfl (ih a0 y7 o5.2)
      · exact g_sub (lv2 := [(0, va_rf a0), (1, .int x1)]) [0, 1] rfl (t_X0_nextToken_32 C a0 x1 o5.2)
set_option maxHeartbeats 4000000 in
set_option maxRecDepth 100000 in
theorem m_X0_nextToken (a0 : Option Nat) (S : St) : ∀ l D cy H0 o, f_X0_nextToken a0 S = some o → Met l yX0_nextToken wsX0_nextToken rmX0_nextToken (Pq D cy H0 [va_rf a0] S) (Qx D cy H0 (cvV o)) 0 0 (fun q => H0.size ≤ q) := by
  refine met_of (cc := cX0_nextToken) (maxL := 3) (ret := none) [va_rf a0] [(0, va_rf a0)] (by decide) rfl rfl (by simp [lg_sl, va_rf_cat, vi_cat, vl_cat]) (by simp [lv_args, va_rf_cat, vi_cat, vl_cat]) (fun Γ C => ?_)
  unfold f_X0_nextToken
  refine g_aload_n C dX0_nextToken_0 rfl 0 rfl ?_
  refine g_getI C (ci := 0) (k := 9) dX0_nextToken_1 rfl (by decide) (by decide) (by decide) ulX0_nextToken_X0 flX0_nextToken_30 rfl (fun v1 ev1 => ?_)
  refine g_istore_n C (i := 1) (lv2 := [(1, .int v1), (0, va_rf a0)]) dX0_nextToken_4 rfl (by decide) (by first | rfl | simp [va_rf_cat, vi_cat, vl_cat]) ?_
  exact g_sub (lv2 := [(0, va_rf a0), (1, .int v1)]) [1, 0] rfl (t_X0_nextToken_5 C FU a0 v1 S)
abbrev rmJ0_isLatin1_aae02 : Room := { frames := 0, cells := 0, slots := 0, locals := 0 }
set_option maxHeartbeats 4000000 in
set_option maxRecDepth 100000 in
theorem m_J0_isLatin1_aae02 (a0 : Option Nat) (S : St) : ∀ l D cy H0 o, f_J0_isLatin1_aae02 a0 S = some o → Met l yJ0_isLatin1_aae02 wsJ0_isLatin1_aae02 rmJ0_isLatin1_aae02 (Pq D cy H0 [va_rf a0] S) (Qx D cy H0 (cvI o)) 0 0 (fun q => H0.size ≤ q) := by
  refine met_of (cc := cJ0_isLatin1_aae02) (maxL := 1) (ret := (some .boolean)) [va_rf a0] [(0, va_rf a0)] (by decide) rfl rfl (by simp [lg_sl, va_rf_cat, vi_cat, vl_cat]) (by simp [lv_args, va_rf_cat, vi_cat, vl_cat]) (fun Γ C => ?_)
  unfold f_J0_isLatin1_aae02
  refine g_gsCS C dJ0_isLatin1_aae02_0 (by decide +kernel) ?_
  refine g_if_eq C (tgt := 17) dJ0_isLatin1_aae02_3 (by decide) (fun h1 => ?_) (fun h1 => ?_)
  · refine g_iconst C (v := (0 : Int32)) dJ0_isLatin1_aae02_17 (by decide) ?_
    exact g_zret C dJ0_isLatin1_aae02_18 ⟨by decide, by decide⟩
  · refine g_aload_n C dJ0_isLatin1_aae02_6 rfl 0 rfl ?_
    refine g_strC C dJ0_isLatin1_aae02_7 (by decide +kernel) (fun v2 ev2 => ?_)
    refine g_if_ne C (tgt := 17) dJ0_isLatin1_aae02_10 (by decide) (fun h3 => ?_) (fun h3 => ?_)
    · refine g_iconst C (v := (1 : Int32)) dJ0_isLatin1_aae02_13 (by decide) ?_
      refine g_goto C (tgt := 18) dJ0_isLatin1_aae02_14 (by decide) ?_
      exact g_zret C dJ0_isLatin1_aae02_18 ⟨by decide, by decide⟩
    · refine g_iconst C (v := (0 : Int32)) dJ0_isLatin1_aae02_17 (by decide) ?_
      exact g_zret C dJ0_isLatin1_aae02_18 ⟨by decide, by decide⟩
abbrev rmJ3_checkIndex_8e157 : Room := { frames := 0, cells := 0, slots := 0, locals := 0 }
set_option maxHeartbeats 4000000 in
set_option maxRecDepth 100000 in
theorem t_J3_checkIndex_8e157_9 {Γ : Cx} (C : CF Γ cJ3_checkIndex_8e157 3 (some .int) wsJ3_checkIndex_8e157 RJ3 rmJ3_checkIndex_8e157 0 0) (x0 : Int32) (x1 : Int32) (a2 : Option Nat) (S : St) : G Γ cvI 3 0 0 9 [(0, .int x0), (1, .int x1), (2, va_rf a2)] [] S (b_J3_checkIndex_8e157_9  x0 x1 a2 S) := by
  unfold b_J3_checkIndex_8e157_9
  exact g_none
set_option maxHeartbeats 4000000 in
set_option maxRecDepth 100000 in
theorem m_J3_checkIndex_8e157 (x0 : Int32) (x1 : Int32) (a2 : Option Nat) (S : St) : ∀ l D cy H0 o, f_J3_checkIndex_8e157 x0 x1 a2 S = some o → Met l yJ3_checkIndex_8e157 wsJ3_checkIndex_8e157 rmJ3_checkIndex_8e157 (Pq D cy H0 [.int x0, .int x1, va_rf a2] S) (Qx D cy H0 (cvI o)) 0 0 (fun q => H0.size ≤ q) := by
  refine met_of (cc := cJ3_checkIndex_8e157) (maxL := 3) (ret := (some .int)) [.int x0, .int x1, va_rf a2] [(0, .int x0), (1, .int x1), (2, va_rf a2)] (by decide) rfl rfl (by simp [lg_sl, va_rf_cat, vi_cat, vl_cat]) (by simp [lv_args, va_rf_cat, vi_cat, vl_cat]) (fun Γ C => ?_)
  unfold f_J3_checkIndex_8e157
  refine g_iload_n C dJ3_checkIndex_8e157_0 rfl 0 rfl ?_
  refine g_if_lt C (tgt := 9) dJ3_checkIndex_8e157_1 (by decide) (fun h1 => ?_) (fun h1 => ?_)
  · exact g_sub (lv2 := [(0, .int x0), (1, .int x1), (2, va_rf a2)]) [0, 1, 2] rfl (t_J3_checkIndex_8e157_9 C x0 x1 a2 S)
  · refine g_iload_n C dJ3_checkIndex_8e157_4 rfl 0 rfl ?_
    refine g_iload_n C dJ3_checkIndex_8e157_5 rfl 1 rfl ?_
    refine g_icmp_lt C (tgt := 16) dJ3_checkIndex_8e157_6 (by decide) (fun h2 => ?_) (fun h2 => ?_)
    · refine g_iload_n C dJ3_checkIndex_8e157_16 rfl 0 rfl ?_
      exact g_iret C dJ3_checkIndex_8e157_17 ⟨by decide, by decide⟩
    · exact g_sub (lv2 := [(0, .int x0), (1, .int x1), (2, va_rf a2)]) [0, 1, 2] rfl (t_J3_checkIndex_8e157_9 C x0 x1 a2 S)
abbrev rmJ0_checkIndex_df160 : Room := { frames := 1, cells := 0, slots := 0, locals := 22 }
set_option maxHeartbeats 4000000 in
set_option maxRecDepth 100000 in
theorem m_J0_checkIndex_df160 (x0 : Int32) (x1 : Int32) (S : St) : ∀ l D cy H0 o, f_J0_checkIndex_df160 x0 x1 S = some o → Met l yJ0_checkIndex_df160 wsJ0_checkIndex_df160 rmJ0_checkIndex_df160 (Pq D cy H0 [.int x0, .int x1] S) (Qx D cy H0 (cvV o)) 0 0 (fun q => H0.size ≤ q) := by
  refine met_of (cc := cJ0_checkIndex_df160) (maxL := 2) (ret := none) [.int x0, .int x1] [(0, .int x0), (1, .int x1)] (by decide) rfl rfl (by simp [lg_sl, va_rf_cat, vi_cat, vl_cat]) (by simp [lv_args, va_rf_cat, vi_cat, vl_cat]) (fun Γ C => ?_)
  unfold f_J0_checkIndex_df160
  refine g_iload_n C dJ0_checkIndex_df160_0 rfl 0 rfl ?_
  refine g_iload_n C dJ0_checkIndex_df160_1 rfl 1 rfl ?_
  refine g_gsFm C dJ0_checkIndex_df160_2 (by decide +kernel) ?_
  refine g_callS C (n := 3) [.int x0, .int x1, va_rf (S.2.2.1 0 16)] [] (m_J3_checkIndex_8e157 x0 x1 (S.2.2.1 0 16) S) dJ0_checkIndex_df160_5 gJ0_checkIndex_df160_J3_checkIndex_8e157 rfl ⟨rfl, rfl⟩ (by decide +kernel) ⟨by decide, by decide⟩ ⟨by decide, by decide⟩ rfl rfl (by first | exact Nat.le_of_ble_eq_true rfl | simp [va_rf_cat, vi_cat, vl_cat]) (fun o1 eo1 => ?_)
  show G Γ cvV 2 0 0 8 [(0, .int x0), (1, .int x1)] [.int o1.1] o1.2 _
  refine g_popi C dJ0_checkIndex_df160_8 ?_
  exact g_vret C dJ0_checkIndex_df160_9 ⟨by decide, by decide⟩
abbrev rmJ1_charAt_3b067 : Room := { frames := 2, cells := 0, slots := 0, locals := 43 }
set_option maxHeartbeats 4000000 in
set_option maxRecDepth 100000 in
theorem m_J1_charAt_3b067 (a0 : Option Nat) (x1 : Int32) (S : St) : ∀ l D cy H0 o, f_J1_charAt_3b067 a0 x1 S = some o → Met l yJ1_charAt_3b067 wsJ1_charAt_3b067 rmJ1_charAt_3b067 (Pq D cy H0 [va_rf a0, .int x1] S) (Qx D cy H0 (cvI o)) 0 0 (fun q => H0.size ≤ q) := by
  refine met_of (cc := cJ1_charAt_3b067) (maxL := 2) (ret := (some .char)) [va_rf a0, .int x1] [(0, va_rf a0), (1, .int x1)] (by decide) rfl rfl (by simp [lg_sl, va_rf_cat, vi_cat, vl_cat]) (by simp [lv_args, va_rf_cat, vi_cat, vl_cat]) (fun Γ C => ?_)
  unfold f_J1_charAt_3b067
  refine g_iload_n C dJ1_charAt_3b067_0 rfl 1 rfl ?_
  refine g_aload_n C dJ1_charAt_3b067_1 rfl 0 rfl ?_
  refine g_strL C dJ1_charAt_3b067_2 (fun v1 ev1 => ?_)
  refine g_callS C (n := 2) [.int x1, .int v1] [] (m_J0_checkIndex_df160 x1 v1 S) dJ1_charAt_3b067_3 gJ1_charAt_3b067_J0_checkIndex_df160 rfl ⟨rfl, rfl⟩ (by decide +kernel) ⟨by decide, by decide⟩ ⟨by decide, by decide⟩ rfl rfl (by first | exact Nat.le_of_ble_eq_true rfl | simp [va_rf_cat, vi_cat, vl_cat]) (fun o2 eo2 => ?_)
  show G Γ cvI 2 0 0 6 [(0, va_rf a0), (1, .int x1)] [] o2 _
  refine g_aload_n C dJ1_charAt_3b067_6 rfl 0 rfl ?_
  refine g_iload_n C dJ1_charAt_3b067_7 rfl 1 rfl ?_
  refine g_strB C dJ1_charAt_3b067_8 (fun v3 ev3 => ?_)
  refine g_sipush C (v := (255 : Int32)) dJ1_charAt_3b067_9 (by decide) ?_
  refine g_iand C dJ1_charAt_3b067_12 ?_
  refine g_i2c C dJ1_charAt_3b067_13 ?_
  exact g_cret C dJ1_charAt_3b067_14 ⟨by decide, by decide⟩
abbrev rmJ0_charAt_5068e : Room := { frames := 3, cells := 0, slots := 0, locals := 64 }
set_option maxHeartbeats 4000000 in
set_option maxRecDepth 100000 in
theorem m_J0_charAt_5068e (a0 : Option Nat) (x1 : Int32) (S : St) : ∀ l D cy H0 o, f_J0_charAt_5068e a0 x1 S = some o → Met l yJ0_charAt_5068e wsJ0_charAt_5068e rmJ0_charAt_5068e (Pq D cy H0 [va_rf a0, .int x1] S) (Qx D cy H0 (cvI o)) 0 0 (fun q => H0.size ≤ q) := by
  refine met_of (cc := cJ0_charAt_5068e) (maxL := 2) (ret := (some .char)) [va_rf a0, .int x1] [(0, va_rf a0), (1, .int x1)] (by decide) rfl rfl (by simp [lg_sl, va_rf_cat, vi_cat, vl_cat]) (by simp [lv_args, va_rf_cat, vi_cat, vl_cat]) (fun Γ C => ?_)
  unfold f_J0_charAt_5068e
  refine g_aload_n C dJ0_charAt_5068e_0 rfl 0 rfl ?_
  refine g_callStr C (n := 0) [] [] (m_J0_isLatin1_aae02 a0 S) dJ0_charAt_5068e_1 gJ0_charAt_5068e_J0_isLatin1_aae02 rfl ⟨rfl, rfl⟩ (by decide +kernel) ⟨by decide, by decide⟩ ⟨by decide, by decide⟩ rfl rfl (by first | exact Nat.le_of_ble_eq_true rfl | simp [va_rf_cat, vi_cat, vl_cat]) (fun o1 eo1 => ?_)
  show G Γ cvI 2 0 0 4 [(0, va_rf a0), (1, .int x1)] [.int o1.1] o1.2 _
  refine g_if_eq C (tgt := 16) dJ0_charAt_5068e_4 (by decide) (fun h2 => ?_) (fun h2 => ?_)
  · exact g_none
  · refine g_aload_n C dJ0_charAt_5068e_7 rfl 0 rfl ?_
    refine g_strV C dJ0_charAt_5068e_8 (by decide +kernel) (fun v3 ev3 => ?_)
    refine g_iload_n C dJ0_charAt_5068e_11 rfl 1 rfl ?_
    refine g_callS C (n := 2) [va_rf v3, .int x1] [] (m_J1_charAt_3b067 v3 x1 o1.2) dJ0_charAt_5068e_12 gJ0_charAt_5068e_J1_charAt_3b067 rfl ⟨rfl, rfl⟩ (by decide +kernel) ⟨by decide, by decide⟩ ⟨by decide, by decide⟩ rfl rfl (by first | exact Nat.le_of_ble_eq_true rfl | simp [va_rf_cat, vi_cat, vl_cat]) (fun o4 eo4 => ?_)
    show G Γ cvI 2 0 0 15 [(0, va_rf a0), (1, .int x1)] [.int o4.1] o4.2 _
    exact g_cret C dJ0_charAt_5068e_15 ⟨by decide, by decide⟩
abbrev rmJ0_coder_7d493 : Room := { frames := 0, cells := 0, slots := 0, locals := 0 }
set_option maxHeartbeats 4000000 in
set_option maxRecDepth 100000 in
theorem m_J0_coder_7d493 (a0 : Option Nat) (S : St) : ∀ l D cy H0 o, f_J0_coder_7d493 a0 S = some o → Met l yJ0_coder_7d493 wsJ0_coder_7d493 rmJ0_coder_7d493 (Pq D cy H0 [va_rf a0] S) (Qx D cy H0 (cvI o)) 0 0 (fun q => H0.size ≤ q) := by
  refine met_of (cc := cJ0_coder_7d493) (maxL := 1) (ret := (some .byte)) [va_rf a0] [(0, va_rf a0)] (by decide) rfl rfl (by simp [lg_sl, va_rf_cat, vi_cat, vl_cat]) (by simp [lv_args, va_rf_cat, vi_cat, vl_cat]) (fun Γ C => ?_)
  unfold f_J0_coder_7d493
  refine g_gsCS C dJ0_coder_7d493_0 (by decide +kernel) ?_
  refine g_if_eq C (tgt := 13) dJ0_coder_7d493_3 (by decide) (fun h1 => ?_) (fun h1 => ?_)
  · refine g_iconst C (v := (1 : Int32)) dJ0_coder_7d493_13 (by decide) ?_
    exact g_bret C dJ0_coder_7d493_14 ⟨by decide, by decide⟩
  · refine g_aload_n C dJ0_coder_7d493_6 rfl 0 rfl ?_
    refine g_strC C dJ0_coder_7d493_7 (by decide +kernel) (fun v2 ev2 => ?_)
    refine g_goto C (tgt := 14) dJ0_coder_7d493_10 (by decide) ?_
    exact g_bret C dJ0_coder_7d493_14 ⟨by decide, by decide⟩
abbrev rmJ0_length_8abf5 : Room := { frames := 1, cells := 0, slots := 0, locals := 20 }
set_option maxHeartbeats 4000000 in
set_option maxRecDepth 100000 in
theorem m_J0_length_8abf5 (a0 : Option Nat) (S : St) : ∀ l D cy H0 o, f_J0_length_8abf5 a0 S = some o → Met l yJ0_length_8abf5 wsJ0_length_8abf5 rmJ0_length_8abf5 (Pq D cy H0 [va_rf a0] S) (Qx D cy H0 (cvI o)) 0 0 (fun q => H0.size ≤ q) := by
  refine met_of (cc := cJ0_length_8abf5) (maxL := 1) (ret := (some .int)) [va_rf a0] [(0, va_rf a0)] (by decide) rfl rfl (by simp [lg_sl, va_rf_cat, vi_cat, vl_cat]) (by simp [lv_args, va_rf_cat, vi_cat, vl_cat]) (fun Γ C => ?_)
  unfold f_J0_length_8abf5
  refine g_aload_n C dJ0_length_8abf5_0 rfl 0 rfl ?_
  refine g_strV C dJ0_length_8abf5_1 (by decide +kernel) (fun v1 ev1 => ?_)
  refine g_strL C dJ0_length_8abf5_4 (fun v2 ev2 => ?_)
  refine g_aload_n C dJ0_length_8abf5_5 rfl 0 rfl ?_
  refine g_callStr C (n := 0) [] [.int v2] (m_J0_coder_7d493 a0 S) dJ0_length_8abf5_6 gJ0_length_8abf5_J0_coder_7d493 rfl ⟨rfl, rfl⟩ (by decide +kernel) ⟨by decide, by decide⟩ ⟨by decide, by decide⟩ rfl rfl (by first | exact Nat.le_of_ble_eq_true rfl | simp [va_rf_cat, vi_cat, vl_cat]) (fun o3 eo3 => ?_)
  show G Γ cvI 1 0 0 9 [(0, va_rf a0)] [.int o3.1, .int v2] o3.2 _
  refine g_ishr C dJ0_length_8abf5_9 ?_
  exact g_iret C dJ0_length_8abf5_10 ⟨by decide, by decide⟩
abbrev rmX0_isWord : Room := { frames := 4, cells := 0, slots := 0, locals := 85 }
theorem flX0_isWord_11 : Cond.fieldLink RX0 11 "LightLines$Cues" "tape" "[B" ∈ wsX0_isWord := by decide +kernel
theorem flX0_isWord_30 : Cond.fieldLink RX0 30 "LightLines$Cues" "tokenEnd" "I" ∈ wsX0_isWord := by decide +kernel
theorem flX0_isWord_36 : Cond.fieldLink RX0 36 "LightLines$Cues" "token" "I" ∈ wsX0_isWord := by decide +kernel
theorem flX0_isWord_47 : Cond.fieldLink RX0 47 "LightLines$Cues" "tokenStart" "I" ∈ wsX0_isWord := by decide +kernel
set_option maxRecDepth 100000 in
theorem ulX0_isWord_X0 : ∀ w ∈ u_ws RX0 TX0 10, w ∈ wsX0_isWord := by decide +kernel
set_option maxHeartbeats 4000000 in
set_option maxRecDepth 100000 in
theorem t_X0_isWord_28 {Γ : Cx} (C : CF Γ cX0_isWord 3 (some .boolean) wsX0_isWord RX0 rmX0_isWord 0 0) : ∀ (n : Nat) (a0 : Option Nat) (a1 : Option Nat) (x2 : Int32) (S : St), G Γ cvI 3 0 0 28 [(0, va_rf a0), (1, va_rf a1), (2, .int x2)] [] S (b_X0_isWord_28  n a0 a1 x2 S) := by
  intro n
  induction n with
  | zero => intro a0 a1 x2 S; exact g_none
  | succ n ih =>
    intro a0 a1 x2 S
    rw [b_X0_isWord_28]
    refine g_iload_n C dX0_isWord_28 rfl 2 rfl ?_
    refine g_aload_n C dX0_isWord_29 rfl 1 rfl ?_
    refine g_callStr C (n := 0) [] [.int x2] (m_J0_length_8abf5 a1 S) dX0_isWord_30 gX0_isWord_J0_length_8abf5 rfl ⟨rfl, rfl⟩ (by decide +kernel) ⟨by decide, by decide⟩ ⟨by decide, by decide⟩ rfl rfl (by first | exact Nat.le_of_ble_eq_true rfl | simp [va_rf_cat, vi_cat, vl_cat]) (fun o1 eo1 => ?_)
    show G Γ cvI 3 0 0 33 [(0, va_rf a0), (1, va_rf a1), (2, .int x2)] [.int o1.1, .int x2] o1.2 _
    refine g_icmp_ge C (tgt := 63) dX0_isWord_33 (by decide) (fun h2 => ?_) (fun h2 => ?_)
    · refine g_iconst C (v := (1 : Int32)) dX0_isWord_63 (by decide) ?_
      exact g_zret C dX0_isWord_64 ⟨by decide, by decide⟩
    · refine g_aload_n C dX0_isWord_36 rfl 0 rfl ?_
      refine g_getR C (ci := 0) (k := 0) dX0_isWord_37 rfl (by decide) (by decide) (by decide) ulX0_isWord_X0 flX0_isWord_11 rfl (fun v3 ev3 => ?_)
      refine g_aload_n C dX0_isWord_40 rfl 0 rfl ?_
      refine g_getI C (ci := 0) (k := 8) dX0_isWord_41 rfl (by decide) (by decide) (by decide) ulX0_isWord_X0 flX0_isWord_47 rfl (fun v4 ev4 => ?_)
      refine g_iload_n C dX0_isWord_44 rfl 2 rfl ?_
      refine g_iadd C dX0_isWord_45 ?_
      refine g_bld C dX0_isWord_46 (fun v5 ev5 => ?_)
      refine g_aload_n C dX0_isWord_47 rfl 1 rfl ?_
      refine g_iload_n C dX0_isWord_48 rfl 2 rfl ?_
      refine g_callStr C (n := 1) [.int x2] [.int v5] (m_J0_charAt_5068e a1 x2 o1.2) dX0_isWord_49 gX0_isWord_J0_charAt_5068e rfl ⟨rfl, rfl⟩ (by decide +kernel) ⟨by decide, by decide⟩ ⟨by decide, by decide⟩ rfl rfl (by first | exact Nat.le_of_ble_eq_true rfl | simp [va_rf_cat, vi_cat, vl_cat]) (fun o6 eo6 => ?_)
      show G Γ cvI 3 0 0 52 [(0, va_rf a0), (1, va_rf a1), (2, .int x2)] [.int o6.1, .int v5] o6.2 _
      refine g_icmp_eq C (tgt := 57) dX0_isWord_52 (by decide) (fun h7 => ?_) (fun h7 => ?_)
      · refine g_iinc1 C dX0_isWord_57 2 rfl (by decide) (by decide) (fun y8 => ?_)
        refine g_lveq (lv2 := [(2, .int y8), (0, va_rf a0), (1, va_rf a1)]) (by first | rfl | simp [va_rf_cat, vi_cat, vl_cat]) ?_
        refine g_goto C (tgt := 28) dX0_isWord_60 (by decide) ?_
        exact g_sub (lv2 := [(0, va_rf a0), (1, va_rf a1), (2, .int y8)]) [1, 2, 0] rfl (ih a0 a1 y8 o6.2)
      · refine g_iconst C (v := (0 : Int32)) dX0_isWord_55 (by decide) ?_
        exact g_zret C dX0_isWord_56 ⟨by decide, by decide⟩
set_option maxHeartbeats 4000000 in
set_option maxRecDepth 100000 in
theorem m_X0_isWord (a0 : Option Nat) (a1 : Option Nat) (S : St) : ∀ l D cy H0 o, f_X0_isWord a0 a1 S = some o → Met l yX0_isWord wsX0_isWord rmX0_isWord (Pq D cy H0 [va_rf a0, va_rf a1] S) (Qx D cy H0 (cvI o)) 0 0 (fun q => H0.size ≤ q) := by
  refine met_of (cc := cX0_isWord) (maxL := 3) (ret := (some .boolean)) [va_rf a0, va_rf a1] [(0, va_rf a0), (1, va_rf a1)] (by decide) rfl rfl (by simp [lg_sl, va_rf_cat, vi_cat, vl_cat]) (by simp [lv_args, va_rf_cat, vi_cat, vl_cat]) (fun Γ C => ?_)
  unfold f_X0_isWord
  refine g_aload_n C dX0_isWord_0 rfl 0 rfl ?_
  refine g_getI C (ci := 0) (k := 7) dX0_isWord_1 rfl (by decide) (by decide) (by decide) ulX0_isWord_X0 flX0_isWord_36 rfl (fun v1 ev1 => ?_)
  refine g_iconst C (v := (1 : Int32)) dX0_isWord_4 (by decide) ?_
  refine g_icmp_ne C (tgt := 24) dX0_isWord_5 (by decide) (fun h2 => ?_) (fun h2 => ?_)
  · refine g_aload_n C dX0_isWord_8 rfl 0 rfl ?_
    refine g_getI C (ci := 0) (k := 9) dX0_isWord_9 rfl (by decide) (by decide) (by decide) ulX0_isWord_X0 flX0_isWord_30 rfl (fun v3 ev3 => ?_)
    refine g_aload_n C dX0_isWord_12 rfl 0 rfl ?_
    refine g_getI C (ci := 0) (k := 8) dX0_isWord_13 rfl (by decide) (by decide) (by decide) ulX0_isWord_X0 flX0_isWord_47 rfl (fun v4 ev4 => ?_)
    refine g_isub C dX0_isWord_16 ?_
    refine g_aload_n C dX0_isWord_17 rfl 1 rfl ?_
    refine g_callStr C (n := 0) [] [.int (v3 - v4)] (m_J0_length_8abf5 a1 S) dX0_isWord_18 gX0_isWord_J0_length_8abf5 rfl ⟨rfl, rfl⟩ (by decide +kernel) ⟨by decide, by decide⟩ ⟨by decide, by decide⟩ rfl rfl (by first | exact Nat.le_of_ble_eq_true rfl | simp [va_rf_cat, vi_cat, vl_cat]) (fun o5 eo5 => ?_)
    show G Γ cvI 3 0 0 21 [(0, va_rf a0), (1, va_rf a1)] [.int o5.1, .int (v3 - v4)] o5.2 _
    refine g_icmp_eq C (tgt := 26) dX0_isWord_21 (by decide) (fun h6 => ?_) (fun h6 => ?_)
    · refine g_iconst C (v := (0 : Int32)) dX0_isWord_26 (by decide) ?_
      refine g_istore_n C (i := 2) (lv2 := [(2, .int (0 : Int32)), (0, va_rf a0), (1, va_rf a1)]) dX0_isWord_27 rfl (by decide) (by first | rfl | simp [va_rf_cat, vi_cat, vl_cat]) ?_
      exact g_sub (lv2 := [(0, va_rf a0), (1, va_rf a1), (2, .int (0 : Int32))]) [1, 2, 0] rfl (t_X0_isWord_28 C FU a0 a1 (0 : Int32) o5.2)
    · refine g_iconst C (v := (0 : Int32)) dX0_isWord_24 (by decide) ?_
      exact g_zret C dX0_isWord_25 ⟨by decide, by decide⟩
  · refine g_iconst C (v := (0 : Int32)) dX0_isWord_24 (by decide) ?_
    exact g_zret C dX0_isWord_25 ⟨by decide, by decide⟩
abbrev rmX0_numberOfToken : Room := { frames := 0, cells := 0, slots := 0, locals := 0 }
theorem flX0_numberOfToken_11 : Cond.fieldLink RX0 11 "LightLines$Cues" "tape" "[B" ∈ wsX0_numberOfToken := by decide +kernel
theorem flX0_numberOfToken_30 : Cond.fieldLink RX0 30 "LightLines$Cues" "tokenEnd" "I" ∈ wsX0_numberOfToken := by decide +kernel
theorem flX0_numberOfToken_47 : Cond.fieldLink RX0 47 "LightLines$Cues" "tokenStart" "I" ∈ wsX0_numberOfToken := by decide +kernel
set_option maxRecDepth 100000 in
theorem ulX0_numberOfToken_X0 : ∀ w ∈ u_ws RX0 TX0 10, w ∈ wsX0_numberOfToken := by decide +kernel
set_option maxHeartbeats 4000000 in
set_option maxRecDepth 100000 in
theorem t_X0_numberOfToken_45 {Γ : Cx} (C : CF Γ cX0_numberOfToken 3 (some .int) wsX0_numberOfToken RX0 rmX0_numberOfToken 0 0) (x1 : Int32) (S : St) : G Γ cvI 3 0 0 45 [(1, .int x1)] [] S (b_X0_numberOfToken_45  x1 S) := by
  unfold b_X0_numberOfToken_45
  refine g_iload_n C dX0_numberOfToken_45 rfl 0 rfl ?_
  exact g_iret C dX0_numberOfToken_46 ⟨by decide, by decide⟩
set_option maxHeartbeats 4000000 in
set_option maxRecDepth 100000 in
theorem t_X0_numberOfToken_7 {Γ : Cx} (C : CF Γ cX0_numberOfToken 3 (some .int) wsX0_numberOfToken RX0 rmX0_numberOfToken 0 0) : ∀ (n : Nat) (a0 : Option Nat) (x1 : Int32) (x2 : Int32) (S : St), G Γ cvI 3 0 0 7 [(0, va_rf a0), (1, .int x1), (2, .int x2)] [] S (b_X0_numberOfToken_7  n a0 x1 x2 S) := by
  intro n
  induction n with
  | zero => intro a0 x1 x2 S; exact g_none
  | succ n ih =>
    intro a0 x1 x2 S
    rw [b_X0_numberOfToken_7]
    refine g_iload_n C dX0_numberOfToken_7 rfl 2 rfl ?_
    refine g_aload_n C dX0_numberOfToken_8 rfl 0 rfl ?_
    refine g_getI C (ci := 0) (k := 9) dX0_numberOfToken_9 rfl (by decide) (by decide) (by decide) ulX0_numberOfToken_X0 flX0_numberOfToken_30 rfl (fun v1 ev1 => ?_)
    refine g_icmp_ge C (tgt := 45) dX0_numberOfToken_12 (by decide) (fun h2 => ?_) (fun h2 => ?_)
    · exact g_sub (lv2 := [(1, .int x1)]) [1] rfl (t_X0_numberOfToken_45 C x1 S)
    · refine g_iload_n C dX0_numberOfToken_15 rfl 2 rfl ?_
      refine g_aload_n C dX0_numberOfToken_16 rfl 0 rfl ?_
      refine g_getR C (ci := 0) (k := 0) dX0_numberOfToken_17 rfl (by decide) (by decide) (by decide) ulX0_numberOfToken_X0 flX0_numberOfToken_11 rfl (fun v3 ev3 => ?_)
      refine g_len13 C dX0_numberOfToken_20 (fun v4 ev4 => ?_)
      refine g_icmp_ge C (tgt := 45) dX0_numberOfToken_21 (by decide) (fun h5 => ?_) (fun h5 => ?_)
      · exact g_sub (lv2 := [(1, .int x1)]) [1] rfl (t_X0_numberOfToken_45 C x1 S)
      · refine g_bipush C (v := (10 : Int32)) dX0_numberOfToken_24 (by decide) ?_
        refine g_iload_n C dX0_numberOfToken_26 rfl 1 rfl ?_
        refine g_imul C dX0_numberOfToken_27 ?_
        refine g_aload_n C dX0_numberOfToken_28 rfl 0 rfl ?_
        refine g_getR C (ci := 0) (k := 0) dX0_numberOfToken_29 rfl (by decide) (by decide) (by decide) ulX0_numberOfToken_X0 flX0_numberOfToken_11 rfl (fun v6 ev6 => ?_)
        refine g_iload_n C dX0_numberOfToken_32 rfl 2 rfl ?_
        refine g_bld C dX0_numberOfToken_33 (fun v7 ev7 => ?_)
        refine g_iadd C dX0_numberOfToken_34 ?_
        refine g_bipush C (v := (48 : Int32)) dX0_numberOfToken_35 (by decide) ?_
        refine g_isub C dX0_numberOfToken_37 ?_
        refine g_topi (fun y8 => ?_)
        refine g_istore_n C (i := 1) (lv2 := [(1, .int y8), (0, va_rf a0), (2, .int x2)]) dX0_numberOfToken_38 rfl (by decide) (by first | rfl | simp [va_rf_cat, vi_cat, vl_cat]) ?_
        refine g_iinc1 C dX0_numberOfToken_39 2 rfl (by decide) (by decide) (fun y9 => ?_)
        refine g_lveq (lv2 := [(2, .int y9), (1, .int y8), (0, va_rf a0)]) (by first | rfl | simp [va_rf_cat, vi_cat, vl_cat]) ?_
        refine g_goto C (tgt := 7) dX0_numberOfToken_42 (by decide) ?_
        exact g_sub (lv2 := [(0, va_rf a0), (1, .int y8), (2, .int y9)]) [2, 1, 0] rfl (ih a0 y8 y9 S)
set_option maxHeartbeats 4000000 in
set_option maxRecDepth 100000 in
theorem m_X0_numberOfToken (a0 : Option Nat) (S : St) : ∀ l D cy H0 o, f_X0_numberOfToken a0 S = some o → Met l yX0_numberOfToken wsX0_numberOfToken rmX0_numberOfToken (Pq D cy H0 [va_rf a0] S) (Qx D cy H0 (cvI o)) 0 0 (fun q => H0.size ≤ q) := by
  refine met_of (cc := cX0_numberOfToken) (maxL := 3) (ret := (some .int)) [va_rf a0] [(0, va_rf a0)] (by decide) rfl rfl (by simp [lg_sl, va_rf_cat, vi_cat, vl_cat]) (by simp [lv_args, va_rf_cat, vi_cat, vl_cat]) (fun Γ C => ?_)
  unfold f_X0_numberOfToken
  refine g_iconst C (v := (0 : Int32)) dX0_numberOfToken_0 (by decide) ?_
  refine g_istore_n C (i := 1) (lv2 := [(1, .int (0 : Int32)), (0, va_rf a0)]) dX0_numberOfToken_1 rfl (by decide) (by first | rfl | simp [va_rf_cat, vi_cat, vl_cat]) ?_
  refine g_aload_n C dX0_numberOfToken_2 rfl 1 rfl ?_
  refine g_getI C (ci := 0) (k := 8) dX0_numberOfToken_3 rfl (by decide) (by decide) (by decide) ulX0_numberOfToken_X0 flX0_numberOfToken_47 rfl (fun v1 ev1 => ?_)
  refine g_istore_n C (i := 2) (lv2 := [(2, .int v1), (1, .int (0 : Int32)), (0, va_rf a0)]) dX0_numberOfToken_6 rfl (by decide) (by first | rfl | simp [va_rf_cat, vi_cat, vl_cat]) ?_
  exact g_sub (lv2 := [(0, va_rf a0), (1, .int (0 : Int32)), (2, .int v1)]) [2, 1, 0] rfl (t_X0_numberOfToken_7 C FU a0 (0 : Int32) v1 S)
abbrev rmX11_isWithin : Room := { frames := 0, cells := 0, slots := 0, locals := 0 }
set_option maxHeartbeats 4000000 in
set_option maxRecDepth 100000 in
theorem m_X11_isWithin (x0 : Int32) (x1 : Int32) (x2 : Int32) (S : St) : ∀ l D cy H0 o, f_X11_isWithin x0 x1 x2 S = some o → Met l yX11_isWithin wsX11_isWithin rmX11_isWithin (Pq D cy H0 [.int x0, .int x1, .int x2] S) (Qx D cy H0 (cvI o)) 0 0 (fun q => H0.size ≤ q) := by
  refine met_of (cc := cX11_isWithin) (maxL := 3) (ret := (some .boolean)) [.int x0, .int x1, .int x2] [(0, .int x0), (1, .int x1), (2, .int x2)] (by decide) rfl rfl (by simp [lg_sl, va_rf_cat, vi_cat, vl_cat]) (by simp [lv_args, va_rf_cat, vi_cat, vl_cat]) (fun Γ C => ?_)
  unfold f_X11_isWithin
  refine g_iload_n C dX11_isWithin_0 rfl 0 rfl ?_
  refine g_iload_n C dX11_isWithin_1 rfl 1 rfl ?_
  refine g_icmp_lt C (tgt := 14) dX11_isWithin_2 (by decide) (fun h1 => ?_) (fun h1 => ?_)
  · refine g_iconst C (v := (0 : Int32)) dX11_isWithin_14 (by decide) ?_
    exact g_zret C dX11_isWithin_15 ⟨by decide, by decide⟩
  · refine g_iload_n C dX11_isWithin_5 rfl 0 rfl ?_
    refine g_iload_n C dX11_isWithin_6 rfl 2 rfl ?_
    refine g_icmp_gt C (tgt := 14) dX11_isWithin_7 (by decide) (fun h2 => ?_) (fun h2 => ?_)
    · refine g_iconst C (v := (0 : Int32)) dX11_isWithin_14 (by decide) ?_
      exact g_zret C dX11_isWithin_15 ⟨by decide, by decide⟩
    · refine g_iconst C (v := (1 : Int32)) dX11_isWithin_10 (by decide) ?_
      refine g_goto C (tgt := 15) dX11_isWithin_11 (by decide) ?_
      exact g_zret C dX11_isWithin_15 ⟨by decide, by decide⟩
abbrev rmX0_readNumber : Room := { frames := 2, cells := 0, slots := 0, locals := 42 }
theorem flX0_readNumber_36 : Cond.fieldLink RX0 36 "LightLines$Cues" "token" "I" ∈ wsX0_readNumber := by decide +kernel
set_option maxRecDepth 100000 in
theorem ulX0_readNumber_X0 : ∀ w ∈ u_ws RX0 TX0 10, w ∈ wsX0_readNumber := by decide +kernel
set_option maxHeartbeats 4000000 in
set_option maxRecDepth 100000 in
theorem m_X0_readNumber (a0 : Option Nat) (a1 : Option Nat) (x2 : Int32) (x3 : Int32) (x4 : Int32) (S : St) : ∀ l D cy H0 o, f_X0_readNumber a0 a1 x2 x3 x4 S = some o → Met l yX0_readNumber wsX0_readNumber rmX0_readNumber (Pq D cy H0 [va_rf a0, va_rf a1, .int x2, .int x3, .int x4] S) (Qx D cy H0 (cvI o)) 0 0 (fun q => H0.size ≤ q) := by
  refine met_of (cc := cX0_readNumber) (maxL := 6) (ret := (some .int)) [va_rf a0, va_rf a1, .int x2, .int x3, .int x4] [(0, va_rf a0), (1, va_rf a1), (2, .int x2), (3, .int x3), (4, .int x4)] (by decide) rfl rfl (by simp [lg_sl, va_rf_cat, vi_cat, vl_cat]) (by simp [lv_args, va_rf_cat, vi_cat, vl_cat]) (fun Γ C => ?_)
  unfold f_X0_readNumber
  refine g_aload_n C dX0_readNumber_0 rfl 0 rfl ?_
  refine g_getI C (ci := 0) (k := 7) dX0_readNumber_1 rfl (by decide) (by decide) (by decide) ulX0_readNumber_X0 flX0_readNumber_36 rfl (fun v1 ev1 => ?_)
  refine g_iconst C (v := (2 : Int32)) dX0_readNumber_4 (by decide) ?_
  refine g_icmp_eq C (tgt := 10) dX0_readNumber_5 (by decide) (fun h2 => ?_) (fun h2 => ?_)
  · refine g_aload_n C dX0_readNumber_10 rfl 0 rfl ?_
    refine g_callV C (n := 0) (ci := 0) [] [] (m_X0_numberOfToken a0 S) dX0_readNumber_11 gX0_readNumber_X0_numberOfToken rfl ⟨rfl, rfl⟩ (by decide +kernel) ⟨by decide, by decide⟩ ⟨by decide, by decide⟩ rfl (by decide) rfl rfl (by first | exact Nat.le_of_ble_eq_true rfl | simp [va_rf_cat, vi_cat, vl_cat]) (fun o3 eo3 => ?_)
    show G Γ cvI 6 0 0 14 [(0, va_rf a0), (1, va_rf a1), (2, .int x2), (3, .int x3), (4, .int x4)] [.int o3.1] o3.2 _
    refine g_istore C (i := 5) (lv2 := [(5, .int o3.1), (0, va_rf a0), (1, va_rf a1), (2, .int x2), (3, .int x3), (4, .int x4)]) dX0_readNumber_14 (by decide) (by first | rfl | simp [va_rf_cat, vi_cat, vl_cat]) ?_
    refine g_iload C dX0_readNumber_16 0 rfl ?_
    refine g_iload_n C dX0_readNumber_18 rfl 4 rfl ?_
    refine g_iload C dX0_readNumber_19 5 rfl ?_
    refine g_callSN C (n := 3) (host := "LightLines") [.int o3.1, .int x3, .int x4] [] (m_X11_isWithin o3.1 x3 x4 o3.2) dX0_readNumber_21 gX0_readNumber_X11_isWithin_n76 (by decide +kernel) (by decide +kernel) (by decide +kernel) rfl ⟨rfl, rfl⟩ (by decide +kernel) ⟨by decide, by decide⟩ ⟨by decide, by decide⟩ rfl rfl (by first | exact Nat.le_of_ble_eq_true rfl | simp [va_rf_cat, vi_cat, vl_cat]) (fun o4 eo4 => ?_)
    show G Γ cvI 6 0 0 24 [(5, .int o3.1), (0, va_rf a0), (1, va_rf a1), (2, .int x2), (3, .int x3), (4, .int x4)] [.int o4.1] o4.2 _
    refine g_if_ne C (tgt := 29) dX0_readNumber_24 (by decide) (fun h5 => ?_) (fun h5 => ?_)
    · refine g_iconst C (v := (2 : Int32)) dX0_readNumber_27 (by decide) ?_
      exact g_iret C dX0_readNumber_28 ⟨by decide, by decide⟩
    · refine g_aload_n C dX0_readNumber_29 rfl 2 rfl ?_
      refine g_iload_n C dX0_readNumber_30 rfl 3 rfl ?_
      refine g_iload C dX0_readNumber_31 0 rfl ?_
      refine g_ist C dX0_readNumber_33 (fun S6 eS6 => ?_)
      refine g_aload_n C dX0_readNumber_34 rfl 1 rfl ?_
      refine g_callV C (n := 0) (ci := 0) [] [] (m_X0_nextToken a0 S6) dX0_readNumber_35 gX0_readNumber_X0_nextToken rfl ⟨rfl, rfl⟩ (by decide +kernel) ⟨by decide, by decide⟩ ⟨by decide, by decide⟩ rfl (by decide) rfl rfl (by first | exact Nat.le_of_ble_eq_true rfl | simp [va_rf_cat, vi_cat, vl_cat]) (fun o7 eo7 => ?_)
      show G Γ cvI 6 0 0 38 [(5, .int o3.1), (0, va_rf a0), (1, va_rf a1), (2, .int x2), (3, .int x3), (4, .int x4)] [] o7 _
      refine g_iconst C (v := (0 : Int32)) dX0_readNumber_38 (by decide) ?_
      exact g_iret C dX0_readNumber_39 ⟨by decide, by decide⟩
  · refine g_iconst C (v := (1 : Int32)) dX0_readNumber_8 (by decide) ?_
    exact g_iret C dX0_readNumber_9 ⟨by decide, by decide⟩
