abbrev rmX0_readDeed : Room := { frames := 5, cells := 0, slots := 0, locals := 107 }
set_option maxHeartbeats 4000000 in
set_option maxRecDepth 100000 in
theorem m_X0_readDeed (a0 : Option Nat) (a1 : Option Nat) (S : St) : ∀ l D cy H0 o, f_X0_readDeed a0 a1 S = some o → Met l yX0_readDeed wsX0_readDeed rmX0_readDeed (Pq D cy H0 [va_rf a0, va_rf a1] S) (Qx D cy H0 (cvI o)) 0 0 (fun q => H0.size ≤ q) := by
  refine met_of (cc := cX0_readDeed) (maxL := 3) (ret := (some .int)) [va_rf a0, va_rf a1] [(0, va_rf a0), (1, va_rf a1)] (by decide) rfl rfl (by simp [lg_sl, va_rf_cat, vi_cat, vl_cat]) (by simp [lv_args, va_rf_cat, vi_cat, vl_cat]) (fun Γ C => ?_)
  unfold f_X0_readDeed
  refine g_aload_n C dX0_readDeed_0 rfl 0 rfl ?_
  refine g_ldcS C (k := 1) dX0_readDeed_1 (by decide) (fun D cy H0 s h => h.2.2.2.1.2.2.2.2.2.2.2.1) ?_
  refine g_callV C (n := 1) (ci := 0) [va_rf (S.2.2.1 0 1)] [] (m_X0_isWord a0 (S.2.2.1 0 1) S) dX0_readDeed_3 gX0_readDeed_X0_isWord rfl ⟨rfl, rfl⟩ (by decide +kernel) ⟨by decide, by decide⟩ ⟨by decide, by decide⟩ rfl (by decide) rfl rfl (by first | exact Nat.le_of_ble_eq_true rfl | simp [va_rf_cat, vi_cat, vl_cat]) (fun o1 eo1 => ?_)
  show G Γ cvI 3 0 0 6 [(0, va_rf a0), (1, va_rf a1)] [.int o1.1] o1.2 _
  refine g_if_eq C (tgt := 19) dX0_readDeed_6 (by decide) (fun h2 => ?_) (fun h2 => ?_)
  · refine g_aload_n C dX0_readDeed_19 rfl 0 rfl ?_
    refine g_ldcS C (k := 2) dX0_readDeed_20 (by decide) (fun D cy H0 s h => h.2.2.2.1.2.2.2.2.2.2.2.2.1) ?_
    refine g_callV C (n := 1) (ci := 0) [va_rf (o1.2.2.2.1 0 2)] [] (m_X0_isWord a0 (o1.2.2.2.1 0 2) o1.2) dX0_readDeed_22 gX0_readDeed_X0_isWord rfl ⟨rfl, rfl⟩ (by decide +kernel) ⟨by decide, by decide⟩ ⟨by decide, by decide⟩ rfl (by decide) rfl rfl (by first | exact Nat.le_of_ble_eq_true rfl | simp [va_rf_cat, vi_cat, vl_cat]) (fun o3 eo3 => ?_)
    show G Γ cvI 3 0 0 25 [(0, va_rf a0), (1, va_rf a1)] [.int o3.1] o3.2 _
    refine g_if_eq C (tgt := 47) dX0_readDeed_25 (by decide) (fun h4 => ?_) (fun h4 => ?_)
    · refine g_aload_n C dX0_readDeed_47 rfl 0 rfl ?_
      refine g_ldcS C (k := 3) dX0_readDeed_48 (by decide) (fun D cy H0 s h => h.2.2.2.1.2.2.2.2.2.2.2.2.2.1) ?_
      refine g_callV C (n := 1) (ci := 0) [va_rf (o3.2.2.2.1 0 3)] [] (m_X0_isWord a0 (o3.2.2.2.1 0 3) o3.2) dX0_readDeed_50 gX0_readDeed_X0_isWord rfl ⟨rfl, rfl⟩ (by decide +kernel) ⟨by decide, by decide⟩ ⟨by decide, by decide⟩ rfl (by decide) rfl rfl (by first | exact Nat.le_of_ble_eq_true rfl | simp [va_rf_cat, vi_cat, vl_cat]) (fun o5 eo5 => ?_)
      show G Γ cvI 3 0 0 53 [(0, va_rf a0), (1, va_rf a1)] [.int o5.1] o5.2 _
      refine g_if_eq C (tgt := 93) dX0_readDeed_53 (by decide) (fun h6 => ?_) (fun h6 => ?_)
      · refine g_iconst C (v := (1 : Int32)) dX0_readDeed_93 (by decide) ?_
        exact g_iret C dX0_readDeed_94 ⟨by decide, by decide⟩
      · refine g_aload_n C dX0_readDeed_56 rfl 1 rfl ?_
        refine g_iconst C (v := (1 : Int32)) dX0_readDeed_57 (by decide) ?_
        refine g_iconst C (v := (2 : Int32)) dX0_readDeed_58 (by decide) ?_
        refine g_ist C dX0_readDeed_59 (fun S7 eS7 => ?_)
        refine g_aload_n C dX0_readDeed_60 rfl 0 rfl ?_
        refine g_callV C (n := 0) (ci := 0) [] [] (m_X0_nextToken a0 S7) dX0_readDeed_61 gX0_readDeed_X0_nextToken rfl ⟨rfl, rfl⟩ (by decide +kernel) ⟨by decide, by decide⟩ ⟨by decide, by decide⟩ rfl (by decide) rfl rfl (by first | exact Nat.le_of_ble_eq_true rfl | simp [va_rf_cat, vi_cat, vl_cat]) (fun o8 eo8 => ?_)
        show G Γ cvI 3 0 0 64 [(0, va_rf a0), (1, va_rf a1)] [] o8 _
        refine g_aload_n C dX0_readDeed_64 rfl 0 rfl ?_
        refine g_aload_n C dX0_readDeed_65 rfl 1 rfl ?_
        refine g_iconst C (v := (2 : Int32)) dX0_readDeed_66 (by decide) ?_
        refine g_iconst C (v := (0 : Int32)) dX0_readDeed_67 (by decide) ?_
        refine g_bipush C (v := (100 : Int32)) dX0_readDeed_68 (by decide) ?_
        refine g_callV C (n := 4) (ci := 0) [va_rf a1, .int (2 : Int32), .int (0 : Int32), .int (100 : Int32)] [] (m_X0_readNumber a0 a1 (2 : Int32) (0 : Int32) (100 : Int32) o8) dX0_readDeed_70 gX0_readDeed_X0_readNumber rfl ⟨rfl, rfl⟩ (by decide +kernel) ⟨by decide, by decide⟩ ⟨by decide, by decide⟩ rfl (by decide) rfl rfl (by first | exact Nat.le_of_ble_eq_true rfl | simp [va_rf_cat, vi_cat, vl_cat]) (fun o9 eo9 => ?_)
        show G Γ cvI 3 0 0 73 [(0, va_rf a0), (1, va_rf a1)] [.int o9.1] o9.2 _
        refine g_istore_n C (i := 2) (lv2 := [(2, .int o9.1), (0, va_rf a0), (1, va_rf a1)]) dX0_readDeed_73 rfl (by decide) (by first | rfl | simp [va_rf_cat, vi_cat, vl_cat]) ?_
        refine g_iload_n C dX0_readDeed_74 rfl 0 rfl ?_
        refine g_if_eq C (tgt := 82) dX0_readDeed_75 (by decide) (fun h10 => ?_) (fun h10 => ?_)
        · refine g_aload_n C dX0_readDeed_82 rfl 1 rfl ?_
          refine g_aload_n C dX0_readDeed_83 rfl 2 rfl ?_
          refine g_iconst C (v := (3 : Int32)) dX0_readDeed_84 (by decide) ?_
          refine g_iconst C (v := (0 : Int32)) dX0_readDeed_85 (by decide) ?_
          refine g_sipush C (v := (9999 : Int32)) dX0_readDeed_86 (by decide) ?_
          refine g_callV C (n := 4) (ci := 0) [va_rf a1, .int (3 : Int32), .int (0 : Int32), .int (9999 : Int32)] [] (m_X0_readNumber a0 a1 (3 : Int32) (0 : Int32) (9999 : Int32) o9.2) dX0_readDeed_89 gX0_readDeed_X0_readNumber rfl ⟨rfl, rfl⟩ (by decide +kernel) ⟨by decide, by decide⟩ ⟨by decide, by decide⟩ rfl (by decide) rfl rfl (by first | exact Nat.le_of_ble_eq_true rfl | simp [va_rf_cat, vi_cat, vl_cat]) (fun o11 eo11 => ?_)
          show G Γ cvI 3 0 0 92 [(2, .int o9.1), (0, va_rf a0), (1, va_rf a1)] [.int o11.1] o11.2 _
          exact g_iret C dX0_readDeed_92 ⟨by decide, by decide⟩
        · refine g_iload_n C dX0_readDeed_78 rfl 0 rfl ?_
          refine g_goto C (tgt := 92) dX0_readDeed_79 (by decide) ?_
          exact g_iret C dX0_readDeed_92 ⟨by decide, by decide⟩
    · refine g_aload_n C dX0_readDeed_28 rfl 1 rfl ?_
      refine g_iconst C (v := (1 : Int32)) dX0_readDeed_29 (by decide) ?_
      refine g_iconst C (v := (0 : Int32)) dX0_readDeed_30 (by decide) ?_
      refine g_ist C dX0_readDeed_31 (fun S12 eS12 => ?_)
      refine g_aload_n C dX0_readDeed_32 rfl 0 rfl ?_
      refine g_callV C (n := 0) (ci := 0) [] [] (m_X0_nextToken a0 S12) dX0_readDeed_33 gX0_readDeed_X0_nextToken rfl ⟨rfl, rfl⟩ (by decide +kernel) ⟨by decide, by decide⟩ ⟨by decide, by decide⟩ rfl (by decide) rfl rfl (by first | exact Nat.le_of_ble_eq_true rfl | simp [va_rf_cat, vi_cat, vl_cat]) (fun o13 eo13 => ?_)
      show G Γ cvI 3 0 0 36 [(0, va_rf a0), (1, va_rf a1)] [] o13 _
      refine g_aload_n C dX0_readDeed_36 rfl 0 rfl ?_
      refine g_aload_n C dX0_readDeed_37 rfl 1 rfl ?_
      refine g_iconst C (v := (2 : Int32)) dX0_readDeed_38 (by decide) ?_
      refine g_iconst C (v := (0 : Int32)) dX0_readDeed_39 (by decide) ?_
      refine g_sipush C (v := (9999 : Int32)) dX0_readDeed_40 (by decide) ?_
      refine g_callV C (n := 4) (ci := 0) [va_rf a1, .int (2 : Int32), .int (0 : Int32), .int (9999 : Int32)] [] (m_X0_readNumber a0 a1 (2 : Int32) (0 : Int32) (9999 : Int32) o13) dX0_readDeed_43 gX0_readDeed_X0_readNumber rfl ⟨rfl, rfl⟩ (by decide +kernel) ⟨by decide, by decide⟩ ⟨by decide, by decide⟩ rfl (by decide) rfl rfl (by first | exact Nat.le_of_ble_eq_true rfl | simp [va_rf_cat, vi_cat, vl_cat]) (fun o14 eo14 => ?_)
      show G Γ cvI 3 0 0 46 [(0, va_rf a0), (1, va_rf a1)] [.int o14.1] o14.2 _
      exact g_iret C dX0_readDeed_46 ⟨by decide, by decide⟩
  · refine g_aload_n C dX0_readDeed_9 rfl 1 rfl ?_
    refine g_iconst C (v := (1 : Int32)) dX0_readDeed_10 (by decide) ?_
    refine g_iconst C (v := (1 : Int32)) dX0_readDeed_11 (by decide) ?_
    refine g_ist C dX0_readDeed_12 (fun S15 eS15 => ?_)
    refine g_aload_n C dX0_readDeed_13 rfl 0 rfl ?_
    refine g_callV C (n := 0) (ci := 0) [] [] (m_X0_nextToken a0 S15) dX0_readDeed_14 gX0_readDeed_X0_nextToken rfl ⟨rfl, rfl⟩ (by decide +kernel) ⟨by decide, by decide⟩ ⟨by decide, by decide⟩ rfl (by decide) rfl rfl (by first | exact Nat.le_of_ble_eq_true rfl | simp [va_rf_cat, vi_cat, vl_cat]) (fun o16 eo16 => ?_)
    show G Γ cvI 3 0 0 17 [(0, va_rf a0), (1, va_rf a1)] [] o16 _
    refine g_iconst C (v := (0 : Int32)) dX0_readDeed_17 (by decide) ?_
    exact g_iret C dX0_readDeed_18 ⟨by decide, by decide⟩
abbrev rmX0_readCue : Room := { frames := 6, cells := 0, slots := 0, locals := 129 }
theorem flX0_readCue_20 : Cond.fieldLink RX0 20 "LightLines$Cues" "readCues" "[[I" ∈ wsX0_readCue := by decide +kernel
theorem flX0_readCue_27 : Cond.fieldLink RX0 27 "LightLines$Cues" "read" "I" ∈ wsX0_readCue := by decide +kernel
theorem flX0_readCue_36 : Cond.fieldLink RX0 36 "LightLines$Cues" "token" "I" ∈ wsX0_readCue := by decide +kernel
set_option maxRecDepth 100000 in
theorem ulX0_readCue_X0 : ∀ w ∈ u_ws RX0 TX0 10, w ∈ wsX0_readCue := by decide +kernel
set_option maxHeartbeats 4000000 in
set_option maxRecDepth 100000 in
theorem t_X0_readCue_112 {Γ : Cx} (C : CF Γ cX0_readCue 3 (some .int) wsX0_readCue RX0 rmX0_readCue 0 0) (x2 : Int32) (S : St) : G Γ cvI 3 0 0 112 [(2, .int x2)] [] S (b_X0_readCue_112  x2 S) := by
  unfold b_X0_readCue_112
  refine g_iload_n C dX0_readCue_112 rfl 0 rfl ?_
  exact g_iret C dX0_readCue_113 ⟨by decide, by decide⟩
set_option maxHeartbeats 4000000 in
set_option maxRecDepth 100000 in
theorem t_X0_readCue_94 {Γ : Cx} (C : CF Γ cX0_readCue 3 (some .int) wsX0_readCue RX0 rmX0_readCue 0 0) (a0 : Option Nat) (x2 : Int32) (S : St) : G Γ cvI 3 0 0 94 [(0, va_rf a0), (2, .int x2)] [] S (b_X0_readCue_94  a0 x2 S) := by
  unfold b_X0_readCue_94
  refine g_iload_n C dX0_readCue_94 rfl 1 rfl ?_
  refine g_if_ne C (tgt := 112) dX0_readCue_95 (by decide) (fun h1 => ?_) (fun h1 => ?_)
  · refine g_aload_n C dX0_readCue_98 rfl 0 rfl ?_
    refine g_dupr C dX0_readCue_99 ?_
    refine g_getI C (ci := 0) (k := 6) dX0_readCue_100 rfl (by decide) (by decide) (by decide) ulX0_readCue_X0 flX0_readCue_27 rfl (fun v2 ev2 => ?_)
    refine g_iconst C (v := (1 : Int32)) dX0_readCue_103 (by decide) ?_
    refine g_iadd C dX0_readCue_104 ?_
    refine g_putI C (ci := 0) (k := 6) (ty0 := tyX0) dX0_readCue_105 rfl (by decide) (by decide) (by decide) tyX0_ok nmX0 ulX0_readCue_X0 flX0_readCue_27 rfl rfl ⟨rfl, rfl⟩ (fun S3 eS3 => ?_)
    refine g_aload_n C dX0_readCue_108 rfl 0 rfl ?_
    refine g_callV C (n := 0) (ci := 0) [] [] (m_X0_nextToken a0 S3) dX0_readCue_109 gX0_readCue_X0_nextToken rfl ⟨rfl, rfl⟩ (by decide +kernel) ⟨by decide, by decide⟩ ⟨by decide, by decide⟩ rfl (by decide) rfl rfl (by first | exact Nat.le_of_ble_eq_true rfl | simp [va_rf_cat, vi_cat, vl_cat]) (fun o4 eo4 => ?_)
    show G Γ cvI 3 0 0 112 [(0, va_rf a0), (2, .int x2)] [] o4 _
    exact g_sub (lv2 := [(2, .int x2)]) [1] rfl (t_X0_readCue_112 C x2 o4)
  · exact g_sub (lv2 := [(2, .int x2)]) [1] rfl (t_X0_readCue_112 C x2 S)
set_option maxHeartbeats 4000000 in
set_option maxRecDepth 100000 in
theorem t_X0_readCue_80 {Γ : Cx} (C : CF Γ cX0_readCue 3 (some .int) wsX0_readCue RX0 rmX0_readCue 0 0) (a0 : Option Nat) (x2 : Int32) (S : St) : G Γ cvI 3 0 0 80 [(0, va_rf a0), (2, .int x2)] [] S (b_X0_readCue_80  a0 x2 S) := by
  unfold b_X0_readCue_80
  refine g_iload_n C dX0_readCue_80 rfl 1 rfl ?_
  refine g_if_ne C (tgt := 94) dX0_readCue_81 (by decide) (fun h1 => ?_) (fun h1 => ?_)
  · refine g_aload_n C dX0_readCue_84 rfl 0 rfl ?_
    refine g_getI C (ci := 0) (k := 7) dX0_readCue_85 rfl (by decide) (by decide) (by decide) ulX0_readCue_X0 flX0_readCue_36 rfl (fun v2 ev2 => ?_)
    refine g_iconst C (v := (3 : Int32)) dX0_readCue_88 (by decide) ?_
    refine g_icmp_eq C (tgt := 94) dX0_readCue_89 (by decide) (fun h3 => ?_) (fun h3 => ?_)
    · exact g_sub (lv2 := [(0, va_rf a0), (2, .int x2)]) [0, 1] rfl (t_X0_readCue_94 C a0 x2 S)
    · refine g_iconst C (v := (1 : Int32)) dX0_readCue_92 (by decide) ?_
      refine g_istore_n C (i := 2) (lv2 := [(2, .int (1 : Int32)), (0, va_rf a0)]) dX0_readCue_93 rfl (by decide) (by first | rfl | simp [va_rf_cat, vi_cat, vl_cat]) ?_
      exact g_sub (lv2 := [(0, va_rf a0), (2, .int (1 : Int32))]) [1, 0] rfl (t_X0_readCue_94 C a0 (1 : Int32) S)
  · exact g_sub (lv2 := [(0, va_rf a0), (2, .int x2)]) [0, 1] rfl (t_X0_readCue_94 C a0 x2 S)
set_option maxHeartbeats 4000000 in
set_option maxRecDepth 100000 in
theorem t_X0_readCue_63 {Γ : Cx} (C : CF Γ cX0_readCue 3 (some .int) wsX0_readCue RX0 rmX0_readCue 0 0) (a0 : Option Nat) (a1 : Option Nat) (r0 : Option Nat) (r1 : Option Nat) (s2 : Int32) (s3 : Int32) (S : St) : G Γ cvI 3 0 0 63 [(0, va_rf a0), (1, va_rf a1)] [.int s3, .int s2, va_rf r1, va_rf r0] S (b_X0_readCue_63  a0 a1 r0 r1 s2 s3 S) := by
  unfold b_X0_readCue_63
  refine g_sipush C (v := (9999 : Int32)) dX0_readCue_63 (by decide) ?_
  refine g_callV C (n := 4) (ci := 0) [va_rf r1, .int s2, .int s3, .int (9999 : Int32)] [] (m_X0_readNumber r0 r1 s2 s3 (9999 : Int32) S) dX0_readCue_66 gX0_readCue_X0_readNumber rfl ⟨rfl, rfl⟩ (by decide +kernel) ⟨by decide, by decide⟩ ⟨by decide, by decide⟩ rfl (by decide) rfl rfl (by first | exact Nat.le_of_ble_eq_true rfl | simp [va_rf_cat, vi_cat, vl_cat]) (fun o1 eo1 => ?_)
  show G Γ cvI 3 0 0 69 [(0, va_rf a0), (1, va_rf a1)] [.int o1.1] o1.2 _
  refine g_istore_n C (i := 2) (lv2 := [(2, .int o1.1), (0, va_rf a0), (1, va_rf a1)]) dX0_readCue_69 rfl (by decide) (by first | rfl | simp [va_rf_cat, vi_cat, vl_cat]) ?_
  refine g_iload_n C dX0_readCue_70 rfl 0 rfl ?_
  refine g_if_ne C (tgt := 80) dX0_readCue_71 (by decide) (fun h2 => ?_) (fun h2 => ?_)
  · refine g_aload_n C dX0_readCue_74 rfl 1 rfl ?_
    refine g_aload_n C dX0_readCue_75 rfl 2 rfl ?_
    refine g_callV C (n := 1) (ci := 0) [va_rf a1] [] (m_X0_readDeed a0 a1 o1.2) dX0_readCue_76 gX0_readCue_X0_readDeed rfl ⟨rfl, rfl⟩ (by decide +kernel) ⟨by decide, by decide⟩ ⟨by decide, by decide⟩ rfl (by decide) rfl rfl (by first | exact Nat.le_of_ble_eq_true rfl | simp [va_rf_cat, vi_cat, vl_cat]) (fun o3 eo3 => ?_)
    show G Γ cvI 3 0 0 79 [(2, .int o1.1), (0, va_rf a0), (1, va_rf a1)] [.int o3.1] o3.2 _
    refine g_istore_n C (i := 2) (lv2 := [(2, .int o3.1), (0, va_rf a0), (1, va_rf a1)]) dX0_readCue_79 rfl (by decide) (by first | rfl | simp [va_rf_cat, vi_cat, vl_cat]) ?_
    exact g_sub (lv2 := [(0, va_rf a0), (2, .int o3.1)]) [1, 0] rfl (t_X0_readCue_80 C a0 o3.1 o3.2)
  · exact g_sub (lv2 := [(0, va_rf a0), (2, .int o1.1)]) [1, 0] rfl (t_X0_readCue_80 C a0 o1.1 o1.2)
set_option maxHeartbeats 4000000 in
set_option maxRecDepth 100000 in
theorem m_X0_readCue (a0 : Option Nat) (S : St) : ∀ l D cy H0 o, f_X0_readCue a0 S = some o → Met l yX0_readCue wsX0_readCue rmX0_readCue (Pq D cy H0 [va_rf a0] S) (Qx D cy H0 (cvI o)) 0 0 (fun q => H0.size ≤ q) := by
  refine met_of (cc := cX0_readCue) (maxL := 3) (ret := (some .int)) [va_rf a0] [(0, va_rf a0)] (by decide) rfl rfl (by simp [lg_sl, va_rf_cat, vi_cat, vl_cat]) (by simp [lv_args, va_rf_cat, vi_cat, vl_cat]) (fun Γ C => ?_)
  unfold f_X0_readCue
  refine g_aload_n C dX0_readCue_0 rfl 0 rfl ?_
  refine g_ldcS C (k := 0) dX0_readCue_1 (by decide) (fun D cy H0 s h => h.2.2.2.1.2.2.2.2.2.2.1) ?_
  refine g_callV C (n := 1) (ci := 0) [va_rf (S.2.2.1 0 0)] [] (m_X0_isWord a0 (S.2.2.1 0 0) S) dX0_readCue_3 gX0_readCue_X0_isWord rfl ⟨rfl, rfl⟩ (by decide +kernel) ⟨by decide, by decide⟩ ⟨by decide, by decide⟩ rfl (by decide) rfl rfl (by first | exact Nat.le_of_ble_eq_true rfl | simp [va_rf_cat, vi_cat, vl_cat]) (fun o1 eo1 => ?_)
  show G Γ cvI 3 0 0 6 [(0, va_rf a0)] [.int o1.1] o1.2 _
  refine g_if_ne C (tgt := 11) dX0_readCue_6 (by decide) (fun h2 => ?_) (fun h2 => ?_)
  · refine g_iconst C (v := (1 : Int32)) dX0_readCue_9 (by decide) ?_
    exact g_iret C dX0_readCue_10 ⟨by decide, by decide⟩
  · refine g_aload_n C dX0_readCue_11 rfl 0 rfl ?_
    refine g_getI C (ci := 0) (k := 6) dX0_readCue_12 rfl (by decide) (by decide) (by decide) ulX0_readCue_X0 flX0_readCue_27 rfl (fun v3 ev3 => ?_)
    refine g_bipush C (v := (12 : Int32)) dX0_readCue_15 (by decide) ?_
    refine g_icmp_lt C (tgt := 22) dX0_readCue_17 (by decide) (fun h4 => ?_) (fun h4 => ?_)
    · refine g_aload_n C dX0_readCue_22 rfl 0 rfl ?_
      refine g_getR C (ci := 0) (k := 5) dX0_readCue_23 rfl (by decide) (by decide) (by decide) ulX0_readCue_X0 flX0_readCue_20 rfl (fun v5 ev5 => ?_)
      refine g_aload_n C dX0_readCue_26 rfl 0 rfl ?_
      refine g_getI C (ci := 0) (k := 6) dX0_readCue_27 rfl (by decide) (by decide) (by decide) ulX0_readCue_X0 flX0_readCue_27 rfl (fun v6 ev6 => ?_)
      refine g_ald18 C dX0_readCue_30 (fun v7 ev7 => ?_)
      refine g_astore_n C (i := 1) (lv2 := [(1, va_rf v7), (0, va_rf a0)]) dX0_readCue_31 rfl (by decide) (by first | rfl | simp [va_rf_cat, vi_cat, vl_cat]) ?_
      refine g_aload_n C dX0_readCue_32 rfl 1 rfl ?_
      refine g_callV C (n := 0) (ci := 0) [] [] (m_X0_nextToken a0 o1.2) dX0_readCue_33 gX0_readCue_X0_nextToken rfl ⟨rfl, rfl⟩ (by decide +kernel) ⟨by decide, by decide⟩ ⟨by decide, by decide⟩ rfl (by decide) rfl rfl (by first | exact Nat.le_of_ble_eq_true rfl | simp [va_rf_cat, vi_cat, vl_cat]) (fun o8 eo8 => ?_)
      show G Γ cvI 3 0 0 36 [(1, va_rf v7), (0, va_rf a0)] [] o8 _
      refine g_aload_n C dX0_readCue_36 rfl 1 rfl ?_
      refine g_aload_n C dX0_readCue_37 rfl 0 rfl ?_
      refine g_iconst C (v := (0 : Int32)) dX0_readCue_38 (by decide) ?_
      refine g_aload_n C dX0_readCue_39 rfl 1 rfl ?_
      refine g_getI C (ci := 0) (k := 6) dX0_readCue_40 rfl (by decide) (by decide) (by decide) ulX0_readCue_X0 flX0_readCue_27 rfl (fun v9 ev9 => ?_)
      refine g_if_ne C (tgt := 50) dX0_readCue_43 (by decide) (fun h10 => ?_) (fun h10 => ?_)
      · refine g_iconst C (v := (0 : Int32)) dX0_readCue_46 (by decide) ?_
        refine g_goto C (tgt := 63) dX0_readCue_47 (by decide) ?_
        exact g_sub (lv2 := [(0, va_rf a0), (1, va_rf v7)]) [1, 0] rfl (t_X0_readCue_63 C a0 v7 a0 v7 (0 : Int32) (0 : Int32) o8)
      · refine g_aload_n C dX0_readCue_50 rfl 1 rfl ?_
        refine g_getR C (ci := 0) (k := 5) dX0_readCue_51 rfl (by decide) (by decide) (by decide) ulX0_readCue_X0 flX0_readCue_20 rfl (fun v11 ev11 => ?_)
        refine g_aload_n C dX0_readCue_54 rfl 1 rfl ?_
        refine g_getI C (ci := 0) (k := 6) dX0_readCue_55 rfl (by decide) (by decide) (by decide) ulX0_readCue_X0 flX0_readCue_27 rfl (fun v12 ev12 => ?_)
        refine g_iconst C (v := (1 : Int32)) dX0_readCue_58 (by decide) ?_
        refine g_isub C dX0_readCue_59 ?_
        refine g_ald18 C dX0_readCue_60 (fun v13 ev13 => ?_)
        refine g_iconst C (v := (0 : Int32)) dX0_readCue_61 (by decide) ?_
        refine g_ild C dX0_readCue_62 (fun v14 ev14 => ?_)
        exact g_sub (lv2 := [(0, va_rf a0), (1, va_rf v7)]) [1, 0] rfl (t_X0_readCue_63 C a0 v7 a0 v7 (0 : Int32) v14 o8)
    · refine g_iconst C (v := (3 : Int32)) dX0_readCue_20 (by decide) ?_
      exact g_iret C dX0_readCue_21 ⟨by decide, by decide⟩
abbrev rmX0_readTape : Room := { frames := 7, cells := 0, slots := 0, locals := 151 }
theorem flX0_readTape_17 : Cond.fieldLink RX0 17 "LightLines$Cues" "keptCues" "[[I" ∈ wsX0_readTape := by decide +kernel
theorem flX0_readTape_20 : Cond.fieldLink RX0 20 "LightLines$Cues" "readCues" "[[I" ∈ wsX0_readTape := by decide +kernel
theorem flX0_readTape_23 : Cond.fieldLink RX0 23 "LightLines$Cues" "length" "I" ∈ wsX0_readTape := by decide +kernel
theorem flX0_readTape_27 : Cond.fieldLink RX0 27 "LightLines$Cues" "read" "I" ∈ wsX0_readTape := by decide +kernel
theorem flX0_readTape_30 : Cond.fieldLink RX0 30 "LightLines$Cues" "tokenEnd" "I" ∈ wsX0_readTape := by decide +kernel
theorem flX0_readTape_36 : Cond.fieldLink RX0 36 "LightLines$Cues" "token" "I" ∈ wsX0_readTape := by decide +kernel
theorem flX0_readTape_43 : Cond.fieldLink RX0 43 "LightLines$Cues" "latestFault" "I" ∈ wsX0_readTape := by decide +kernel
theorem flX0_readTape_47 : Cond.fieldLink RX0 47 "LightLines$Cues" "tokenStart" "I" ∈ wsX0_readTape := by decide +kernel
theorem flX0_readTape_50 : Cond.fieldLink RX0 50 "LightLines$Cues" "kept" "I" ∈ wsX0_readTape := by decide +kernel
set_option maxRecDepth 100000 in
theorem ulX0_readTape_X0 : ∀ w ∈ u_ws RX0 TX0 10, w ∈ wsX0_readTape := by decide +kernel
set_option maxHeartbeats 4000000 in
set_option maxRecDepth 100000 in
theorem t_X0_readTape_46 {Γ : Cx} (C : CF Γ cX0_readTape 3 (some .int) wsX0_readTape RX0 rmX0_readTape 0 0) (a0 : Option Nat) (x1 : Int32) (S : St) : G Γ cvI 3 0 0 46 [(0, va_rf a0), (1, .int x1)] [] S (b_X0_readTape_46  a0 x1 S) := by
  unfold b_X0_readTape_46
  refine g_aload_n C dX0_readTape_46 rfl 0 rfl ?_
  refine g_iconst C (v := (0 : Int32)) dX0_readTape_47 (by decide) ?_
  refine g_putI C (ci := 0) (k := 1) (ty0 := tyX0) dX0_readTape_48 rfl (by decide) (by decide) (by decide) tyX0_ok nmX0 ulX0_readTape_X0 flX0_readTape_23 rfl rfl ⟨rfl, rfl⟩ (fun S1 eS1 => ?_)
  refine g_iload_n C dX0_readTape_51 rfl 1 rfl ?_
  refine g_if_eq C (tgt := 68) dX0_readTape_52 (by decide) (fun h2 => ?_) (fun h2 => ?_)
  · refine g_aload_n C dX0_readTape_68 rfl 0 rfl ?_
    refine g_getR C (ci := 0) (k := 4) dX0_readTape_69 rfl (by decide) (by decide) (by decide) ulX0_readTape_X0 flX0_readTape_17 rfl (fun v3 ev3 => ?_)
    refine g_astore_n C (i := 2) (lv2 := [(2, va_rf v3), (0, va_rf a0), (1, .int x1)]) dX0_readTape_72 rfl (by decide) (by first | rfl | simp [va_rf_cat, vi_cat, vl_cat]) ?_
    refine g_aload_n C dX0_readTape_73 rfl 1 rfl ?_
    refine g_aload_n C dX0_readTape_74 rfl 1 rfl ?_
    refine g_getR C (ci := 0) (k := 5) dX0_readTape_75 rfl (by decide) (by decide) (by decide) ulX0_readTape_X0 flX0_readTape_20 rfl (fun v4 ev4 => ?_)
    refine g_putR C (ci := 0) (k := 4) (ty0 := tyX0) dX0_readTape_78 rfl (by decide) (by decide) (by decide) tyX0_ok nmX0 ulX0_readTape_X0 flX0_readTape_17 rfl rfl (rf_fit_a _) (fun S5 eS5 => ?_)
    refine g_aload_n C dX0_readTape_81 rfl 1 rfl ?_
    refine g_aload_n C dX0_readTape_82 rfl 0 rfl ?_
    refine g_putR C (ci := 0) (k := 5) (ty0 := tyX0) dX0_readTape_83 rfl (by decide) (by decide) (by decide) tyX0_ok nmX0 ulX0_readTape_X0 flX0_readTape_20 rfl rfl (rf_fit_a _) (fun S6 eS6 => ?_)
    refine g_aload_n C dX0_readTape_86 rfl 1 rfl ?_
    refine g_aload_n C dX0_readTape_87 rfl 1 rfl ?_
    refine g_getI C (ci := 0) (k := 6) dX0_readTape_88 rfl (by decide) (by decide) (by decide) ulX0_readTape_X0 flX0_readTape_27 rfl (fun v7 ev7 => ?_)
    refine g_putI C (ci := 0) (k := 2) (ty0 := tyX0) dX0_readTape_91 rfl (by decide) (by decide) (by decide) tyX0_ok nmX0 ulX0_readTape_X0 flX0_readTape_50 rfl rfl ⟨rfl, rfl⟩ (fun S8 eS8 => ?_)
    refine g_aload_n C dX0_readTape_94 rfl 1 rfl ?_
    refine g_getI C (ci := 0) (k := 2) dX0_readTape_95 rfl (by decide) (by decide) (by decide) ulX0_readTape_X0 flX0_readTape_50 rfl (fun v9 ev9 => ?_)
    exact g_iret C dX0_readTape_98 ⟨by decide, by decide⟩
  · refine g_aload_n C dX0_readTape_55 rfl 0 rfl ?_
    refine g_iload_n C dX0_readTape_56 rfl 1 rfl ?_
    refine g_putI C (ci := 0) (k := 3) (ty0 := tyX0) dX0_readTape_57 rfl (by decide) (by decide) (by decide) tyX0_ok nmX0 ulX0_readTape_X0 flX0_readTape_43 rfl rfl ⟨rfl, rfl⟩ (fun S10 eS10 => ?_)
    refine g_ldc C (v := (-1000100 : Int32)) dX0_readTape_60 (by decide +kernel) ?_
    refine g_aload_n C dX0_readTape_62 rfl 0 rfl ?_
    refine g_getI C (ci := 0) (k := 8) dX0_readTape_63 rfl (by decide) (by decide) (by decide) ulX0_readTape_X0 flX0_readTape_47 rfl (fun v11 ev11 => ?_)
    refine g_isub C dX0_readTape_66 ?_
    exact g_iret C dX0_readTape_67 ⟨by decide, by decide⟩
set_option maxHeartbeats 4000000 in
set_option maxRecDepth 100000 in
theorem t_X0_readTape_18 {Γ : Cx} (C : CF Γ cX0_readTape 3 (some .int) wsX0_readTape RX0 rmX0_readTape 0 0) : ∀ (n : Nat) (a0 : Option Nat) (x1 : Int32) (x2 : Int32) (S : St), G Γ cvI 3 0 0 18 [(0, va_rf a0), (1, .int x1), (2, .int x2)] [] S (b_X0_readTape_18  n a0 x1 x2 S) := by
  intro n
  induction n with
  | zero => intro a0 x1 x2 S; exact g_none
  | succ n ih =>
    intro a0 x1 x2 S
    rw [b_X0_readTape_18]
    refine g_iload_n C dX0_readTape_18 rfl 2 rfl ?_
    refine g_bipush C (v := (12 : Int32)) dX0_readTape_19 (by decide) ?_
    refine g_icmp_gt C (tgt := 46) dX0_readTape_21 (by decide) (fun h1 => ?_) (fun h1 => ?_)
    · exact g_sub (lv2 := [(0, va_rf a0), (1, .int x1)]) [0, 1] rfl (t_X0_readTape_46 C a0 x1 S)
    · refine g_iload_n C dX0_readTape_24 rfl 1 rfl ?_
      refine g_if_ne C (tgt := 46) dX0_readTape_25 (by decide) (fun h2 => ?_) (fun h2 => ?_)
      · refine g_aload_n C dX0_readTape_28 rfl 0 rfl ?_
        refine g_getI C (ci := 0) (k := 7) dX0_readTape_29 rfl (by decide) (by decide) (by decide) ulX0_readTape_X0 flX0_readTape_36 rfl (fun v3 ev3 => ?_)
        refine g_if_eq C (tgt := 46) dX0_readTape_32 (by decide) (fun h4 => ?_) (fun h4 => ?_)
        · exact g_sub (lv2 := [(0, va_rf a0), (1, .int x1)]) [0, 1] rfl (t_X0_readTape_46 C a0 x1 S)
        · refine g_aload_n C dX0_readTape_35 rfl 0 rfl ?_
          refine g_callV C (n := 0) (ci := 0) [] [] (m_X0_readCue a0 S) dX0_readTape_36 gX0_readTape_X0_readCue rfl ⟨rfl, rfl⟩ (by decide +kernel) ⟨by decide, by decide⟩ ⟨by decide, by decide⟩ rfl (by decide) rfl rfl (by first | exact Nat.le_of_ble_eq_true rfl | simp [va_rf_cat, vi_cat, vl_cat]) (fun o5 eo5 => ?_)
          show G Γ cvI 3 0 0 39 [(0, va_rf a0), (1, .int x1), (2, .int x2)] [.int o5.1] o5.2 _
          refine g_istore_n C (i := 1) (lv2 := [(1, .int o5.1), (0, va_rf a0), (2, .int x2)]) dX0_readTape_39 rfl (by decide) (by first | rfl | simp [va_rf_cat, vi_cat, vl_cat]) ?_
          refine g_iinc1 C dX0_readTape_40 2 rfl (by decide) (by decide) (fun y6 => ?_)
          refine g_lveq (lv2 := [(2, .int y6), (1, .int o5.1), (0, va_rf a0)]) (by first | rfl | simp [va_rf_cat, vi_cat, vl_cat]) ?_
          refine g_goto C (tgt := 18) dX0_readTape_43 (by decide) ?_
          exact g_sub (lv2 := [(0, va_rf a0), (1, .int o5.1), (2, .int y6)]) [2, 1, 0] rfl (ih a0 o5.1 y6 o5.2)
      · exact g_sub (lv2 := [(0, va_rf a0), (1, .int x1)]) [0, 1] rfl (t_X0_readTape_46 C a0 x1 S)
set_option maxHeartbeats 4000000 in
set_option maxRecDepth 100000 in
theorem m_X0_readTape (a0 : Option Nat) (S : St) : ∀ l D cy H0 o, f_X0_readTape a0 S = some o → Met l yX0_readTape wsX0_readTape rmX0_readTape (Pq D cy H0 [va_rf a0] S) (Qx D cy H0 (cvI o)) 0 0 (fun q => H0.size ≤ q) := by
  refine met_of (cc := cX0_readTape) (maxL := 3) (ret := (some .int)) [va_rf a0] [(0, va_rf a0)] (by decide) rfl rfl (by simp [lg_sl, va_rf_cat, vi_cat, vl_cat]) (by simp [lv_args, va_rf_cat, vi_cat, vl_cat]) (fun Γ C => ?_)
  unfold f_X0_readTape
  refine g_iconst C (v := (0 : Int32)) dX0_readTape_0 (by decide) ?_
  refine g_istore_n C (i := 1) (lv2 := [(1, .int (0 : Int32)), (0, va_rf a0)]) dX0_readTape_1 rfl (by decide) (by first | rfl | simp [va_rf_cat, vi_cat, vl_cat]) ?_
  refine g_aload_n C dX0_readTape_2 rfl 1 rfl ?_
  refine g_iconst C (v := (0 : Int32)) dX0_readTape_3 (by decide) ?_
  refine g_putI C (ci := 0) (k := 6) (ty0 := tyX0) dX0_readTape_4 rfl (by decide) (by decide) (by decide) tyX0_ok nmX0 ulX0_readTape_X0 flX0_readTape_27 rfl rfl ⟨rfl, rfl⟩ (fun S1 eS1 => ?_)
  refine g_aload_n C dX0_readTape_7 rfl 1 rfl ?_
  refine g_iconst C (v := (0 : Int32)) dX0_readTape_8 (by decide) ?_
  refine g_putI C (ci := 0) (k := 9) (ty0 := tyX0) dX0_readTape_9 rfl (by decide) (by decide) (by decide) tyX0_ok nmX0 ulX0_readTape_X0 flX0_readTape_30 rfl rfl ⟨rfl, rfl⟩ (fun S2 eS2 => ?_)
  refine g_aload_n C dX0_readTape_12 rfl 1 rfl ?_
  refine g_callV C (n := 0) (ci := 0) [] [] (m_X0_nextToken a0 S2) dX0_readTape_13 gX0_readTape_X0_nextToken rfl ⟨rfl, rfl⟩ (by decide +kernel) ⟨by decide, by decide⟩ ⟨by decide, by decide⟩ rfl (by decide) rfl rfl (by first | exact Nat.le_of_ble_eq_true rfl | simp [va_rf_cat, vi_cat, vl_cat]) (fun o3 eo3 => ?_)
  show G Γ cvI 3 0 0 16 [(1, .int (0 : Int32)), (0, va_rf a0)] [] o3 _
  refine g_iconst C (v := (0 : Int32)) dX0_readTape_16 (by decide) ?_
  refine g_istore_n C (i := 2) (lv2 := [(2, .int (0 : Int32)), (1, .int (0 : Int32)), (0, va_rf a0)]) dX0_readTape_17 rfl (by decide) (by first | rfl | simp [va_rf_cat, vi_cat, vl_cat]) ?_
  exact g_sub (lv2 := [(0, va_rf a0), (1, .int (0 : Int32)), (2, .int (0 : Int32))]) [2, 1, 0] rfl (t_X0_readTape_18 C FU a0 (0 : Int32) (0 : Int32) o3)
abbrev rmX0_shownAt : Room := { frames := 0, cells := 0, slots := 0, locals := 0 }
theorem flX0_shownAt_17 : Cond.fieldLink RX0 17 "LightLines$Cues" "keptCues" "[[I" ∈ wsX0_shownAt := by decide +kernel
theorem flX0_shownAt_50 : Cond.fieldLink RX0 50 "LightLines$Cues" "kept" "I" ∈ wsX0_shownAt := by decide +kernel
set_option maxRecDepth 100000 in
theorem ulX0_shownAt_X0 : ∀ w ∈ u_ws RX0 TX0 10, w ∈ wsX0_shownAt := by decide +kernel
set_option maxHeartbeats 4000000 in
set_option maxRecDepth 100000 in
theorem t_X0_shownAt_62 {Γ : Cx} (C : CF Γ cX0_shownAt 4 (some .int) wsX0_shownAt RX0 rmX0_shownAt 0 0) (rc4 : Option Nat → Int32 → Int32 → Int32 → St → Option (Int32 × St)) (hrc4 : ∀ (a0 : Option Nat) (x1 : Int32) (x2 : Int32) (x3 : Int32) (S : St), G Γ cvI 4 0 0 4 [(0, va_rf a0), (1, .int x1), (2, .int x2), (3, .int x3)] [] S (rc4 a0 x1 x2 x3 S)) (a0 : Option Nat) (x1 : Int32) (x2 : Int32) (x3 : Int32) (S : St) : G Γ cvI 4 0 0 62 [(0, va_rf a0), (1, .int x1), (2, .int x2), (3, .int x3)] [] S (b_X0_shownAt_62 rc4 a0 x1 x2 x3 S) := by
  unfold b_X0_shownAt_62
  refine g_iinc1 C dX0_shownAt_62 3 rfl (by decide) (by decide) (fun y1 => ?_)
  refine g_lveq (lv2 := [(3, .int y1), (0, va_rf a0), (1, .int x1), (2, .int x2)]) (by first | rfl | simp [va_rf_cat, vi_cat, vl_cat]) ?_
  refine g_goto C (tgt := 4) dX0_shownAt_65 (by decide) ?_
  exact g_sub (lv2 := [(0, va_rf a0), (1, .int x1), (2, .int x2), (3, .int y1)]) [1, 2, 3, 0] rfl (hrc4 a0 x1 x2 y1 S)
set_option maxHeartbeats 4000000 in
set_option maxRecDepth 100000 in
theorem t_X0_shownAt_68 {Γ : Cx} (C : CF Γ cX0_shownAt 4 (some .int) wsX0_shownAt RX0 rmX0_shownAt 0 0) (x2 : Int32) (S : St) : G Γ cvI 4 0 0 68 [(2, .int x2)] [] S (b_X0_shownAt_68  x2 S) := by
  unfold b_X0_shownAt_68
  refine g_iload_n C dX0_shownAt_68 rfl 0 rfl ?_
  exact g_iret C dX0_shownAt_69 ⟨by decide, by decide⟩
set_option maxHeartbeats 4000000 in
set_option maxRecDepth 100000 in
theorem t_X0_shownAt_4 {Γ : Cx} (C : CF Γ cX0_shownAt 4 (some .int) wsX0_shownAt RX0 rmX0_shownAt 0 0) : ∀ (n : Nat) (a0 : Option Nat) (x1 : Int32) (x2 : Int32) (x3 : Int32) (S : St), G Γ cvI 4 0 0 4 [(0, va_rf a0), (1, .int x1), (2, .int x2), (3, .int x3)] [] S (b_X0_shownAt_4  n a0 x1 x2 x3 S) := by
  intro n
  induction n with
  | zero => intro a0 x1 x2 x3 S; exact g_none
  | succ n ih =>
    intro a0 x1 x2 x3 S
    rw [b_X0_shownAt_4]
    refine g_iload_n C dX0_shownAt_4 rfl 3 rfl ?_
    refine g_aload_n C dX0_shownAt_5 rfl 0 rfl ?_
    refine g_getI C (ci := 0) (k := 2) dX0_shownAt_6 rfl (by decide) (by decide) (by decide) ulX0_shownAt_X0 flX0_shownAt_50 rfl (fun v1 ev1 => ?_)
    refine g_icmp_ge C (tgt := 68) dX0_shownAt_9 (by decide) (fun h2 => ?_) (fun h2 => ?_)
    · exact g_sub (lv2 := [(2, .int x2)]) [2] rfl (t_X0_shownAt_68 C x2 S)
    · refine g_aload_n C dX0_shownAt_12 rfl 0 rfl ?_
      refine g_getR C (ci := 0) (k := 4) dX0_shownAt_13 rfl (by decide) (by decide) (by decide) ulX0_shownAt_X0 flX0_shownAt_17 rfl (fun v3 ev3 => ?_)
      refine g_iload_n C dX0_shownAt_16 rfl 3 rfl ?_
      refine g_ald18 C dX0_shownAt_17 (fun v4 ev4 => ?_)
      refine g_iconst C (v := (0 : Int32)) dX0_shownAt_18 (by decide) ?_
      refine g_ild C dX0_shownAt_19 (fun v5 ev5 => ?_)
      refine g_iload_n C dX0_shownAt_20 rfl 1 rfl ?_
      refine g_icmp_gt C (tgt := 68) dX0_shownAt_21 (by decide) (fun h6 => ?_) (fun h6 => ?_)
      · exact g_sub (lv2 := [(2, .int x2)]) [2] rfl (t_X0_shownAt_68 C x2 S)
      · refine g_aload_n C dX0_shownAt_24 rfl 0 rfl ?_
        refine g_getR C (ci := 0) (k := 4) dX0_shownAt_25 rfl (by decide) (by decide) (by decide) ulX0_shownAt_X0 flX0_shownAt_17 rfl (fun v7 ev7 => ?_)
        refine g_iload_n C dX0_shownAt_28 rfl 3 rfl ?_
        refine g_ald18 C dX0_shownAt_29 (fun v8 ev8 => ?_)
        refine g_iconst C (v := (1 : Int32)) dX0_shownAt_30 (by decide) ?_
        refine g_ild C dX0_shownAt_31 (fun v9 ev9 => ?_)
        refine g_if_ne C (tgt := 47) dX0_shownAt_32 (by decide) (fun h10 => ?_) (fun h10 => ?_)
        · refine g_aload_n C dX0_shownAt_35 rfl 0 rfl ?_
          refine g_getR C (ci := 0) (k := 4) dX0_shownAt_36 rfl (by decide) (by decide) (by decide) ulX0_shownAt_X0 flX0_shownAt_17 rfl (fun v11 ev11 => ?_)
          refine g_iload_n C dX0_shownAt_39 rfl 3 rfl ?_
          refine g_ald18 C dX0_shownAt_40 (fun v12 ev12 => ?_)
          refine g_iconst C (v := (2 : Int32)) dX0_shownAt_41 (by decide) ?_
          refine g_ild C dX0_shownAt_42 (fun v13 ev13 => ?_)
          refine g_istore_n C (i := 2) (lv2 := [(2, .int v13), (0, va_rf a0), (1, .int x1), (3, .int x3)]) dX0_shownAt_43 rfl (by decide) (by first | rfl | simp [va_rf_cat, vi_cat, vl_cat]) ?_
          refine g_goto C (tgt := 62) dX0_shownAt_44 (by decide) ?_
          exact g_sub (lv2 := [(0, va_rf a0), (1, .int x1), (2, .int v13), (3, .int x3)]) [1, 2, 0, 3] rfl (t_X0_shownAt_62 C (b_X0_shownAt_4 n) ih a0 x1 v13 x3 S)
        · refine g_aload_n C dX0_shownAt_47 rfl 0 rfl ?_
          refine g_getR C (ci := 0) (k := 4) dX0_shownAt_48 rfl (by decide) (by decide) (by decide) ulX0_shownAt_X0 flX0_shownAt_17 rfl (fun v14 ev14 => ?_)
          refine g_iload_n C dX0_shownAt_51 rfl 3 rfl ?_
          refine g_ald18 C dX0_shownAt_52 (fun v15 ev15 => ?_)
          refine g_iconst C (v := (1 : Int32)) dX0_shownAt_53 (by decide) ?_
          refine g_ild C dX0_shownAt_54 (fun v16 ev16 => ?_)
          refine g_iconst C (v := (1 : Int32)) dX0_shownAt_55 (by decide) ?_
          refine g_icmp_ne C (tgt := 62) dX0_shownAt_56 (by decide) (fun h17 => ?_) (fun h17 => ?_)
          · refine g_bipush C (v := (-2 : Int32)) dX0_shownAt_59 (by decide) ?_
            refine g_istore_n C (i := 2) (lv2 := [(2, .int (-2 : Int32)), (0, va_rf a0), (1, .int x1), (3, .int x3)]) dX0_shownAt_61 rfl (by decide) (by first | rfl | simp [va_rf_cat, vi_cat, vl_cat]) ?_
            exact g_sub (lv2 := [(0, va_rf a0), (1, .int x1), (2, .int (-2 : Int32)), (3, .int x3)]) [1, 2, 0, 3] rfl (t_X0_shownAt_62 C (b_X0_shownAt_4 n) ih a0 x1 (-2 : Int32) x3 S)
          · exact g_sub (lv2 := [(0, va_rf a0), (1, .int x1), (2, .int x2), (3, .int x3)]) [0, 1, 2, 3] rfl (t_X0_shownAt_62 C (b_X0_shownAt_4 n) ih a0 x1 x2 x3 S)
set_option maxHeartbeats 4000000 in
set_option maxRecDepth 100000 in
theorem m_X0_shownAt (a0 : Option Nat) (x1 : Int32) (S : St) : ∀ l D cy H0 o, f_X0_shownAt a0 x1 S = some o → Met l yX0_shownAt wsX0_shownAt rmX0_shownAt (Pq D cy H0 [va_rf a0, .int x1] S) (Qx D cy H0 (cvI o)) 0 0 (fun q => H0.size ≤ q) := by
  refine met_of (cc := cX0_shownAt) (maxL := 4) (ret := (some .int)) [va_rf a0, .int x1] [(0, va_rf a0), (1, .int x1)] (by decide) rfl rfl (by simp [lg_sl, va_rf_cat, vi_cat, vl_cat]) (by simp [lv_args, va_rf_cat, vi_cat, vl_cat]) (fun Γ C => ?_)
  unfold f_X0_shownAt
  refine g_iconst C (v := (-1 : Int32)) dX0_shownAt_0 (by decide) ?_
  refine g_istore_n C (i := 2) (lv2 := [(2, .int (-1 : Int32)), (0, va_rf a0), (1, .int x1)]) dX0_shownAt_1 rfl (by decide) (by first | rfl | simp [va_rf_cat, vi_cat, vl_cat]) ?_
  refine g_iconst C (v := (0 : Int32)) dX0_shownAt_2 (by decide) ?_
  refine g_istore_n C (i := 3) (lv2 := [(3, .int (0 : Int32)), (2, .int (-1 : Int32)), (0, va_rf a0), (1, .int x1)]) dX0_shownAt_3 rfl (by decide) (by first | rfl | simp [va_rf_cat, vi_cat, vl_cat]) ?_
  exact g_sub (lv2 := [(0, va_rf a0), (1, .int x1), (2, .int (-1 : Int32)), (3, .int (0 : Int32))]) [2, 3, 1, 0] rfl (t_X0_shownAt_4 C FU a0 x1 (-1 : Int32) (0 : Int32) S)
abbrev rmX0_faded : Room := { frames := 0, cells := 0, slots := 0, locals := 0 }
set_option maxHeartbeats 4000000 in
set_option maxRecDepth 100000 in
theorem t_X0_faded_9 {Γ : Cx} (C : CF Γ cX0_faded 4 (some .int) wsX0_faded RX0 rmX0_faded 0 0) (x1 : Int32) (S : St) : G Γ cvI 4 0 0 9 [(1, .int x1)] [] S (b_X0_faded_9  x1 S) := by
  unfold b_X0_faded_9
  refine g_iload_n C dX0_faded_9 rfl 0 rfl ?_
  refine g_goto C (tgt := 22) dX0_faded_10 (by decide) ?_
  exact g_iret C dX0_faded_22 ⟨by decide, by decide⟩
set_option maxHeartbeats 4000000 in
set_option maxRecDepth 100000 in
theorem m_X0_faded (x0 : Int32) (x1 : Int32) (x2 : Int32) (x3 : Int32) (S : St) : ∀ l D cy H0 o, f_X0_faded x0 x1 x2 x3 S = some o → Met l yX0_faded wsX0_faded rmX0_faded (Pq D cy H0 [.int x0, .int x1, .int x2, .int x3] S) (Qx D cy H0 (cvI o)) 0 0 (fun q => H0.size ≤ q) := by
  refine met_of (cc := cX0_faded) (maxL := 4) (ret := (some .int)) [.int x0, .int x1, .int x2, .int x3] [(0, .int x0), (1, .int x1), (2, .int x2), (3, .int x3)] (by decide) rfl rfl (by simp [lg_sl, va_rf_cat, vi_cat, vl_cat]) (by simp [lv_args, va_rf_cat, vi_cat, vl_cat]) (fun Γ C => ?_)
  unfold f_X0_faded
  refine g_iload_n C dX0_faded_0 rfl 3 rfl ?_
  refine g_if_le C (tgt := 9) dX0_faded_1 (by decide) (fun h1 => ?_) (fun h1 => ?_)
  · exact g_sub (lv2 := [(1, .int x1)]) [1] rfl (t_X0_faded_9 C x1 S)
  · refine g_iload_n C dX0_faded_4 rfl 2 rfl ?_
    refine g_iload_n C dX0_faded_5 rfl 3 rfl ?_
    refine g_icmp_lt C (tgt := 13) dX0_faded_6 (by decide) (fun h2 => ?_) (fun h2 => ?_)
    · refine g_iload_n C dX0_faded_13 rfl 0 rfl ?_
      refine g_iload_n C dX0_faded_14 rfl 1 rfl ?_
      refine g_iload_n C dX0_faded_15 rfl 0 rfl ?_
      refine g_isub C dX0_faded_16 ?_
      refine g_iload_n C dX0_faded_17 rfl 2 rfl ?_
      refine g_imul C dX0_faded_18 ?_
      refine g_iload_n C dX0_faded_19 rfl 3 rfl ?_
      refine g_idiv C dX0_faded_20 (fun v3 ev3 => ?_)
      refine g_iadd C dX0_faded_21 ?_
      exact g_iret C dX0_faded_22 ⟨by decide, by decide⟩
    · exact g_sub (lv2 := [(1, .int x1)]) [1] rfl (t_X0_faded_9 C x1 S)
abbrev rmX0_levelAt : Room := { frames := 1, cells := 0, slots := 0, locals := 23 }
theorem flX0_levelAt_17 : Cond.fieldLink RX0 17 "LightLines$Cues" "keptCues" "[[I" ∈ wsX0_levelAt := by decide +kernel
theorem flX0_levelAt_50 : Cond.fieldLink RX0 50 "LightLines$Cues" "kept" "I" ∈ wsX0_levelAt := by decide +kernel
set_option maxRecDepth 100000 in
theorem ulX0_levelAt_X0 : ∀ w ∈ u_ws RX0 TX0 10, w ∈ wsX0_levelAt := by decide +kernel
set_option maxHeartbeats 4000000 in
set_option maxRecDepth 100000 in
theorem t_X0_levelAt_86 {Γ : Cx} (C : CF Γ cX0_levelAt 8 (some .int) wsX0_levelAt RX0 rmX0_levelAt 0 0) (rc15 : Option Nat → Int32 → Int32 → Int32 → Int32 → Int32 → Int32 → St → Option (Int32 × St)) (hrc15 : ∀ (a0 : Option Nat) (x1 : Int32) (x2 : Int32) (x3 : Int32) (x4 : Int32) (x5 : Int32) (x6 : Int32) (S : St), G Γ cvI 8 0 0 15 [(0, va_rf a0), (1, .int x1), (2, .int x2), (3, .int x3), (4, .int x4), (5, .int x5), (6, .int x6)] [] S (rc15 a0 x1 x2 x3 x4 x5 x6 S)) (a0 : Option Nat) (x1 : Int32) (x2 : Int32) (x3 : Int32) (x4 : Int32) (x5 : Int32) (x6 : Int32) (S : St) : G Γ cvI 8 0 0 86 [(0, va_rf a0), (1, .int x1), (2, .int x2), (3, .int x3), (4, .int x4), (5, .int x5), (6, .int x6)] [] S (b_X0_levelAt_86 rc15 a0 x1 x2 x3 x4 x5 x6 S) := by
  unfold b_X0_levelAt_86
  refine g_iinc1 C dX0_levelAt_86 6 rfl (by decide) (by decide) (fun y1 => ?_)
  refine g_lveq (lv2 := [(6, .int y1), (0, va_rf a0), (1, .int x1), (2, .int x2), (3, .int x3), (4, .int x4), (5, .int x5)]) (by first | rfl | simp [va_rf_cat, vi_cat, vl_cat]) ?_
  refine g_goto C (tgt := 15) dX0_levelAt_89 (by decide) ?_
  exact g_sub (lv2 := [(0, va_rf a0), (1, .int x1), (2, .int x2), (3, .int x3), (4, .int x4), (5, .int x5), (6, .int y1)]) [1, 2, 3, 4, 5, 6, 0] rfl (hrc15 a0 x1 x2 x3 x4 x5 y1 S)
set_option maxHeartbeats 4000000 in
set_option maxRecDepth 100000 in
theorem t_X0_levelAt_92 {Γ : Cx} (C : CF Γ cX0_levelAt 8 (some .int) wsX0_levelAt RX0 rmX0_levelAt 0 0) (x1 : Int32) (x2 : Int32) (x3 : Int32) (x4 : Int32) (x5 : Int32) (S : St) : G Γ cvI 8 0 0 92 [(1, .int x1), (2, .int x2), (3, .int x3), (4, .int x4), (5, .int x5)] [] S (b_X0_levelAt_92  x1 x2 x3 x4 x5 S) := by
  unfold b_X0_levelAt_92
  refine g_iload_n C dX0_levelAt_92 rfl 1 rfl ?_
  refine g_iload_n C dX0_levelAt_93 rfl 2 rfl ?_
  refine g_iload_n C dX0_levelAt_94 rfl 0 rfl ?_
  refine g_iload C dX0_levelAt_95 3 rfl ?_
  refine g_isub C dX0_levelAt_97 ?_
  refine g_iload C dX0_levelAt_98 4 rfl ?_
  refine g_callS C (n := 4) [.int x2, .int x3, .int (x1 - x4), .int x5] [] (m_X0_faded x2 x3 (x1 - x4) x5 S) dX0_levelAt_100 gX0_levelAt_X0_faded rfl ⟨rfl, rfl⟩ (by decide +kernel) ⟨by decide, by decide⟩ ⟨by decide, by decide⟩ rfl rfl (by first | exact Nat.le_of_ble_eq_true rfl | simp [va_rf_cat, vi_cat, vl_cat]) (fun o1 eo1 => ?_)
  show G Γ cvI 8 0 0 103 [(1, .int x1), (2, .int x2), (3, .int x3), (4, .int x4), (5, .int x5)] [.int o1.1] o1.2 _
  exact g_iret C dX0_levelAt_103 ⟨by decide, by decide⟩
set_option maxHeartbeats 4000000 in
set_option maxRecDepth 100000 in
theorem t_X0_levelAt_15 {Γ : Cx} (C : CF Γ cX0_levelAt 8 (some .int) wsX0_levelAt RX0 rmX0_levelAt 0 0) : ∀ (n : Nat) (a0 : Option Nat) (x1 : Int32) (x2 : Int32) (x3 : Int32) (x4 : Int32) (x5 : Int32) (x6 : Int32) (S : St), G Γ cvI 8 0 0 15 [(0, va_rf a0), (1, .int x1), (2, .int x2), (3, .int x3), (4, .int x4), (5, .int x5), (6, .int x6)] [] S (b_X0_levelAt_15  n a0 x1 x2 x3 x4 x5 x6 S) := by
  intro n
  induction n with
  | zero => intro a0 x1 x2 x3 x4 x5 x6 S; exact g_none
  | succ n ih =>
    intro a0 x1 x2 x3 x4 x5 x6 S
    rw [b_X0_levelAt_15]
    refine g_iload C dX0_levelAt_15 6 rfl ?_
    refine g_aload_n C dX0_levelAt_17 rfl 0 rfl ?_
    refine g_getI C (ci := 0) (k := 2) dX0_levelAt_18 rfl (by decide) (by decide) (by decide) ulX0_levelAt_X0 flX0_levelAt_50 rfl (fun v1 ev1 => ?_)
    refine g_icmp_ge C (tgt := 92) dX0_levelAt_21 (by decide) (fun h2 => ?_) (fun h2 => ?_)
    · exact g_sub (lv2 := [(1, .int x1), (2, .int x2), (3, .int x3), (4, .int x4), (5, .int x5)]) [1, 2, 3, 4, 5] rfl (t_X0_levelAt_92 C x1 x2 x3 x4 x5 S)
    · refine g_aload_n C dX0_levelAt_24 rfl 0 rfl ?_
      refine g_getR C (ci := 0) (k := 4) dX0_levelAt_25 rfl (by decide) (by decide) (by decide) ulX0_levelAt_X0 flX0_levelAt_17 rfl (fun v3 ev3 => ?_)
      refine g_iload C dX0_levelAt_28 6 rfl ?_
      refine g_ald18 C dX0_levelAt_30 (fun v4 ev4 => ?_)
      refine g_iconst C (v := (0 : Int32)) dX0_levelAt_31 (by decide) ?_
      refine g_ild C dX0_levelAt_32 (fun v5 ev5 => ?_)
      refine g_iload_n C dX0_levelAt_33 rfl 1 rfl ?_
      refine g_icmp_gt C (tgt := 92) dX0_levelAt_34 (by decide) (fun h6 => ?_) (fun h6 => ?_)
      · exact g_sub (lv2 := [(1, .int x1), (2, .int x2), (3, .int x3), (4, .int x4), (5, .int x5)]) [1, 2, 3, 4, 5] rfl (t_X0_levelAt_92 C x1 x2 x3 x4 x5 S)
      · refine g_aload_n C dX0_levelAt_37 rfl 0 rfl ?_
        refine g_getR C (ci := 0) (k := 4) dX0_levelAt_38 rfl (by decide) (by decide) (by decide) ulX0_levelAt_X0 flX0_levelAt_17 rfl (fun v7 ev7 => ?_)
        refine g_iload C dX0_levelAt_41 6 rfl ?_
        refine g_ald18 C dX0_levelAt_43 (fun v8 ev8 => ?_)
        refine g_astore C (i := 7) (lv2 := [(7, va_rf v8), (0, va_rf a0), (1, .int x1), (2, .int x2), (3, .int x3), (4, .int x4), (5, .int x5), (6, .int x6)]) dX0_levelAt_44 (by decide) (by first | rfl | simp [va_rf_cat, vi_cat, vl_cat]) ?_
        refine g_aload C dX0_levelAt_46 0 rfl ?_
        refine g_iconst C (v := (1 : Int32)) dX0_levelAt_48 (by decide) ?_
        refine g_ild C dX0_levelAt_49 (fun v9 ev9 => ?_)
        refine g_iconst C (v := (2 : Int32)) dX0_levelAt_50 (by decide) ?_
        refine g_icmp_ne C (tgt := 86) dX0_levelAt_51 (by decide) (fun h10 => ?_) (fun h10 => ?_)
        · refine g_iload_n C dX0_levelAt_54 rfl 3 rfl ?_
          refine g_iload_n C dX0_levelAt_55 rfl 4 rfl ?_
          refine g_aload C dX0_levelAt_56 0 rfl ?_
          refine g_iconst C (v := (0 : Int32)) dX0_levelAt_58 (by decide) ?_
          refine g_ild C dX0_levelAt_59 (fun v11 ev11 => ?_)
          refine g_iload C dX0_levelAt_60 5 rfl ?_
          refine g_isub C dX0_levelAt_62 ?_
          refine g_iload C dX0_levelAt_63 6 rfl ?_
          refine g_callS C (n := 4) [.int x2, .int x3, .int (v11 - x4), .int x5] [] (m_X0_faded x2 x3 (v11 - x4) x5 S) dX0_levelAt_65 gX0_levelAt_X0_faded rfl ⟨rfl, rfl⟩ (by decide +kernel) ⟨by decide, by decide⟩ ⟨by decide, by decide⟩ rfl rfl (by first | exact Nat.le_of_ble_eq_true rfl | simp [va_rf_cat, vi_cat, vl_cat]) (fun o12 eo12 => ?_)
          show G Γ cvI 8 0 0 68 [(7, va_rf v8), (0, va_rf a0), (1, .int x1), (2, .int x2), (3, .int x3), (4, .int x4), (5, .int x5), (6, .int x6)] [.int o12.1] o12.2 _
          refine g_istore_n C (i := 2) (lv2 := [(2, .int o12.1), (7, va_rf v8), (0, va_rf a0), (1, .int x1), (3, .int x3), (4, .int x4), (5, .int x5), (6, .int x6)]) dX0_levelAt_68 rfl (by decide) (by first | rfl | simp [va_rf_cat, vi_cat, vl_cat]) ?_
          refine g_aload C dX0_levelAt_69 1 rfl ?_
          refine g_iconst C (v := (2 : Int32)) dX0_levelAt_71 (by decide) ?_
          refine g_ild C dX0_levelAt_72 (fun v13 ev13 => ?_)
          refine g_istore_n C (i := 3) (lv2 := [(3, .int v13), (2, .int o12.1), (7, va_rf v8), (0, va_rf a0), (1, .int x1), (4, .int x4), (5, .int x5), (6, .int x6)]) dX0_levelAt_73 rfl (by decide) (by first | rfl | simp [va_rf_cat, vi_cat, vl_cat]) ?_
          refine g_aload C dX0_levelAt_74 2 rfl ?_
          refine g_iconst C (v := (0 : Int32)) dX0_levelAt_76 (by decide) ?_
          refine g_ild C dX0_levelAt_77 (fun v14 ev14 => ?_)
          refine g_istore C (i := 4) (lv2 := [(4, .int v14), (3, .int v13), (2, .int o12.1), (7, va_rf v8), (0, va_rf a0), (1, .int x1), (5, .int x5), (6, .int x6)]) dX0_levelAt_78 (by decide) (by first | rfl | simp [va_rf_cat, vi_cat, vl_cat]) ?_
          refine g_aload C dX0_levelAt_80 3 rfl ?_
          refine g_iconst C (v := (3 : Int32)) dX0_levelAt_82 (by decide) ?_
          refine g_ild C dX0_levelAt_83 (fun v15 ev15 => ?_)
          refine g_istore C (i := 5) (lv2 := [(5, .int v15), (4, .int v14), (3, .int v13), (2, .int o12.1), (7, va_rf v8), (0, va_rf a0), (1, .int x1), (6, .int x6)]) dX0_levelAt_84 (by decide) (by first | rfl | simp [va_rf_cat, vi_cat, vl_cat]) ?_
          exact g_sub (lv2 := [(0, va_rf a0), (1, .int x1), (2, .int o12.1), (3, .int v13), (4, .int v14), (5, .int v15), (6, .int x6)]) [5, 6, 3, 2, 1, 0, 7] rfl (t_X0_levelAt_86 C (b_X0_levelAt_15 n) ih a0 x1 o12.1 v13 v14 v15 x6 o12.2)
        · exact g_sub (lv2 := [(0, va_rf a0), (1, .int x1), (2, .int x2), (3, .int x3), (4, .int x4), (5, .int x5), (6, .int x6)]) [1, 2, 3, 4, 5, 6, 7] rfl (t_X0_levelAt_86 C (b_X0_levelAt_15 n) ih a0 x1 x2 x3 x4 x5 x6 S)
set_option maxHeartbeats 4000000 in
set_option maxRecDepth 100000 in
theorem m_X0_levelAt (a0 : Option Nat) (x1 : Int32) (S : St) : ∀ l D cy H0 o, f_X0_levelAt a0 x1 S = some o → Met l yX0_levelAt wsX0_levelAt rmX0_levelAt (Pq D cy H0 [va_rf a0, .int x1] S) (Qx D cy H0 (cvI o)) 0 0 (fun q => H0.size ≤ q) := by
  refine met_of (cc := cX0_levelAt) (maxL := 8) (ret := (some .int)) [va_rf a0, .int x1] [(0, va_rf a0), (1, .int x1)] (by decide) rfl rfl (by simp [lg_sl, va_rf_cat, vi_cat, vl_cat]) (by simp [lv_args, va_rf_cat, vi_cat, vl_cat]) (fun Γ C => ?_)
  unfold f_X0_levelAt
  refine g_bipush C (v := (100 : Int32)) dX0_levelAt_0 (by decide) ?_
  refine g_istore_n C (i := 2) (lv2 := [(2, .int (100 : Int32)), (0, va_rf a0), (1, .int x1)]) dX0_levelAt_2 rfl (by decide) (by first | rfl | simp [va_rf_cat, vi_cat, vl_cat]) ?_
  refine g_bipush C (v := (100 : Int32)) dX0_levelAt_3 (by decide) ?_
  refine g_istore_n C (i := 3) (lv2 := [(3, .int (100 : Int32)), (2, .int (100 : Int32)), (0, va_rf a0), (1, .int x1)]) dX0_levelAt_5 rfl (by decide) (by first | rfl | simp [va_rf_cat, vi_cat, vl_cat]) ?_
  refine g_iconst C (v := (0 : Int32)) dX0_levelAt_6 (by decide) ?_
  refine g_istore C (i := 4) (lv2 := [(4, .int (0 : Int32)), (3, .int (100 : Int32)), (2, .int (100 : Int32)), (0, va_rf a0), (1, .int x1)]) dX0_levelAt_7 (by decide) (by first | rfl | simp [va_rf_cat, vi_cat, vl_cat]) ?_
  refine g_iconst C (v := (0 : Int32)) dX0_levelAt_9 (by decide) ?_
  refine g_istore C (i := 5) (lv2 := [(5, .int (0 : Int32)), (4, .int (0 : Int32)), (3, .int (100 : Int32)), (2, .int (100 : Int32)), (0, va_rf a0), (1, .int x1)]) dX0_levelAt_10 (by decide) (by first | rfl | simp [va_rf_cat, vi_cat, vl_cat]) ?_
  refine g_iconst C (v := (0 : Int32)) dX0_levelAt_12 (by decide) ?_
  refine g_istore C (i := 6) (lv2 := [(6, .int (0 : Int32)), (5, .int (0 : Int32)), (4, .int (0 : Int32)), (3, .int (100 : Int32)), (2, .int (100 : Int32)), (0, va_rf a0), (1, .int x1)]) dX0_levelAt_13 (by decide) (by first | rfl | simp [va_rf_cat, vi_cat, vl_cat]) ?_
  exact g_sub (lv2 := [(0, va_rf a0), (1, .int x1), (2, .int (100 : Int32)), (3, .int (100 : Int32)), (4, .int (0 : Int32)), (5, .int (0 : Int32)), (6, .int (0 : Int32))]) [5, 6, 4, 3, 2, 1, 0] rfl (t_X0_levelAt_15 C FU a0 x1 (100 : Int32) (100 : Int32) (0 : Int32) (0 : Int32) (0 : Int32) S)
abbrev rmX8_init : Room := { frames := 1, cells := 0, slots := 0, locals := 24 }
theorem flX8_init_9 : Cond.fieldLink RX8 9 "LightLines$Stroke" "xs" "[I" ∈ wsX8_init := by decide +kernel
theorem flX8_init_15 : Cond.fieldLink RX8 15 "LightLines$Stroke" "ys" "[I" ∈ wsX8_init := by decide +kernel
set_option maxRecDepth 100000 in
theorem ulX8_init_X1 : ∀ w ∈ u_ws RX1 TX1 2, w ∈ wsX8_init := by decide +kernel
set_option maxRecDepth 100000 in
theorem ulX8_init_X2 : ∀ w ∈ u_ws RX2 TX2 2, w ∈ wsX8_init := by decide +kernel
set_option maxRecDepth 100000 in
theorem ulX8_init_X7 : ∀ w ∈ u_ws RX7 TX7 2, w ∈ wsX8_init := by decide +kernel
set_option maxHeartbeats 4000000 in
set_option maxRecDepth 100000 in
theorem m_X8_init (a0 : Nat) (a1 : Option Nat) (a2 : Option Nat) (S : St) : ∀ l D cy H0 o, f_X8_init a0 a1 a2 S = some o → Met l yX8_init wsX8_init rmX8_init (Pq D cy H0 [va_rf (some a0), va_rf a1, va_rf a2] S) (Qx D cy H0 (cvV o)) 0 0 (fun q => H0.size ≤ q) := by
  refine met_ofI (cc := cX8_init) (maxL := 3) (ret := none) [va_rf (some a0), va_rf a1, va_rf a2] [(0, va_rf (some a0)), (1, va_rf a1), (2, va_rf a2)] (by decide) rfl rfl rfl (by simp [lg_sl, va_rf_cat, vi_cat, vl_cat]) (by simp [lv_args, va_rf_cat, vi_cat, vl_cat]) (fun Γ C hN => ?_)
  unfold f_X8_init
  refine g_aload_n C dX8_init_0 rfl 0 rfl ?_
  refine g_objInit C dX8_init_1 (by decide +kernel) (by decide +kernel) (by decide +kernel) ⟨by decide, by decide⟩ (by first | exact Nat.le_of_ble_eq_true rfl | simp [va_rf_cat, vi_cat, vl_cat]) ?_
  refine g_aload_n C dX8_init_4 rfl 0 rfl ?_
  refine g_aload_n C dX8_init_5 rfl 1 rfl ?_
  refine g_putFS C hN (k := 0) dX8_init_6 (by decide) ulX8_init_X1 ulX8_init_X2 ulX8_init_X7 flX8_init_9 flX8_init_9 flX8_init_9 rfl rfl rfl rfl (fun S1 eS1 => ?_)
  refine g_aload_n C dX8_init_9 rfl 0 rfl ?_
  refine g_aload_n C dX8_init_10 rfl 2 rfl ?_
  refine g_putFS C hN (k := 1) dX8_init_11 (by decide) ulX8_init_X1 ulX8_init_X2 ulX8_init_X7 flX8_init_15 flX8_init_15 flX8_init_15 rfl rfl rfl rfl (fun S2 eS2 => ?_)
  exact g_vret C dX8_init_14 ⟨by decide, by decide⟩
abbrev rmX1_init : Room := { frames := 2, cells := 0, slots := 0, locals := 46 }
set_option maxHeartbeats 4000000 in
set_option maxRecDepth 100000 in
theorem m_X1_init (a0 : Nat) (a1 : Option Nat) (a2 : Option Nat) (S : St) : ∀ l D cy H0 o, f_X1_init a0 a1 a2 S = some o → Met l yX1_init wsX1_init rmX1_init (Pq D cy H0 [va_rf (some a0), va_rf a1, va_rf a2] S) (Qx D cy H0 (cvV o)) 0 0 (fun q => H0.size ≤ q) := by
  refine met_ofI (cc := cX1_init) (maxL := 3) (ret := none) [va_rf (some a0), va_rf a1, va_rf a2] [(0, va_rf (some a0)), (1, va_rf a1), (2, va_rf a2)] (by decide) rfl rfl rfl (by simp [lg_sl, va_rf_cat, vi_cat, vl_cat]) (by simp [lv_args, va_rf_cat, vi_cat, vl_cat]) (fun Γ C hN => ?_)
  unfold f_X1_init
  refine g_aload_n C dX1_init_0 rfl 0 rfl ?_
  refine g_aload_n C dX1_init_1 rfl 1 rfl ?_
  refine g_aload_n C dX1_init_2 rfl 2 rfl ?_
  refine g_callI C (n := 2) [va_rf a1, va_rf a2] [] (m_X8_init a0 a1 a2 S) dX1_init_3 gX1_init_X8_init rfl ⟨rfl, rfl⟩ (by decide +kernel) (by decide +kernel) (by decide +kernel) rfl (by decide +kernel) ⟨by decide, by decide⟩ ⟨by decide, by decide⟩ rfl rfl (by first | exact Nat.le_of_ble_eq_true rfl | simp [va_rf_cat, vi_cat, vl_cat]) (fun o1 eo1 => ?_)
  show G Γ cvV 3 0 0 6 [(0, va_rf (some a0)), (1, va_rf a1), (2, va_rf a2)] [] o1 _
  exact g_vret C dX1_init_6 ⟨by decide, by decide⟩
abbrev rmX10_leave : Room := { frames := 0, cells := 0, slots := 0, locals := 0 }
theorem flX10_leave_7 : Cond.fieldLink RX10 7 "LightLines$Trace" "numbers" "[I" ∈ wsX10_leave := by decide +kernel
theorem flX10_leave_13 : Cond.fieldLink RX10 13 "LightLines$Trace" "length" "I" ∈ wsX10_leave := by decide +kernel
set_option maxRecDepth 100000 in
theorem ulX10_leave_X10 : ∀ w ∈ u_ws RX10 TX10 2, w ∈ wsX10_leave := by decide +kernel
set_option maxHeartbeats 4000000 in
set_option maxRecDepth 100000 in
theorem m_X10_leave (a0 : Option Nat) (x1 : Int32) (S : St) : ∀ l D cy H0 o, f_X10_leave a0 x1 S = some o → Met l yX10_leave wsX10_leave rmX10_leave (Pq D cy H0 [va_rf a0, .int x1] S) (Qx D cy H0 (cvV o)) 0 0 (fun q => H0.size ≤ q) := by
  refine met_of (cc := cX10_leave) (maxL := 2) (ret := none) [va_rf a0, .int x1] [(0, va_rf a0), (1, .int x1)] (by decide) rfl rfl (by simp [lg_sl, va_rf_cat, vi_cat, vl_cat]) (by simp [lv_args, va_rf_cat, vi_cat, vl_cat]) (fun Γ C => ?_)
  unfold f_X10_leave
  refine g_aload_n C dX10_leave_0 rfl 0 rfl ?_
  refine g_getI C (ci := 9) (k := 1) dX10_leave_1 rfl (by decide) (by decide) (by decide) ulX10_leave_X10 flX10_leave_13 rfl (fun v1 ev1 => ?_)
  refine g_aload_n C dX10_leave_4 rfl 0 rfl ?_
  refine g_getR C (ci := 9) (k := 0) dX10_leave_5 rfl (by decide) (by decide) (by decide) ulX10_leave_X10 flX10_leave_7 rfl (fun v2 ev2 => ?_)
  refine g_len14 C dX10_leave_8 (fun v3 ev3 => ?_)
  refine g_icmp_ge C (tgt := 32) dX10_leave_9 (by decide) (fun h4 => ?_) (fun h4 => ?_)
  · exact g_vret C dX10_leave_32 ⟨by decide, by decide⟩
  · refine g_aload_n C dX10_leave_12 rfl 0 rfl ?_
    refine g_getR C (ci := 9) (k := 0) dX10_leave_13 rfl (by decide) (by decide) (by decide) ulX10_leave_X10 flX10_leave_7 rfl (fun v5 ev5 => ?_)
    refine g_aload_n C dX10_leave_16 rfl 0 rfl ?_
    refine g_getI C (ci := 9) (k := 1) dX10_leave_17 rfl (by decide) (by decide) (by decide) ulX10_leave_X10 flX10_leave_13 rfl (fun v6 ev6 => ?_)
    refine g_iload_n C dX10_leave_20 rfl 1 rfl ?_
    refine g_ist C dX10_leave_21 (fun S7 eS7 => ?_)
    refine g_aload_n C dX10_leave_22 rfl 0 rfl ?_
    refine g_dupr C dX10_leave_23 ?_
    refine g_getI C (ci := 9) (k := 1) dX10_leave_24 rfl (by decide) (by decide) (by decide) ulX10_leave_X10 flX10_leave_13 rfl (fun v8 ev8 => ?_)
    refine g_iconst C (v := (1 : Int32)) dX10_leave_27 (by decide) ?_
    refine g_iadd C dX10_leave_28 ?_
    refine g_putI C (ci := 9) (k := 1) (ty0 := tyX10) dX10_leave_29 rfl (by decide) (by decide) (by decide) tyX10_ok nmX10 ulX10_leave_X10 flX10_leave_13 rfl rfl ⟨rfl, rfl⟩ (fun S9 eS9 => ?_)
    exact g_vret C dX10_leave_32 ⟨by decide, by decide⟩
abbrev rmX11_way : Room := { frames := 1, cells := 0, slots := 0, locals := 24 }
set_option maxHeartbeats 4000000 in
set_option maxRecDepth 100000 in
theorem m_X11_way (x0 : Int32) (x1 : Int32) (x2 : Int32) (x3 : Int32) (S : St) : ∀ l D cy H0 o, f_X11_way x0 x1 x2 x3 S = some o → Met l yX11_way wsX11_way rmX11_way (Pq D cy H0 [.int x0, .int x1, .int x2, .int x3] S) (Qx D cy H0 (cvI o)) 0 0 (fun q => H0.size ≤ q) := by
  refine met_of (cc := cX11_way) (maxL := 4) (ret := (some .int)) [.int x0, .int x1, .int x2, .int x3] [(0, .int x0), (1, .int x1), (2, .int x2), (3, .int x3)] (by decide) rfl rfl (by simp [lg_sl, va_rf_cat, vi_cat, vl_cat]) (by simp [lv_args, va_rf_cat, vi_cat, vl_cat]) (fun Γ C => ?_)
  unfold f_X11_way
  refine g_iload_n C dX11_way_0 rfl 2 rfl ?_
  refine g_iload_n C dX11_way_1 rfl 0 rfl ?_
  refine g_isub C dX11_way_2 ?_
  refine g_mabs C dX11_way_3 (by decide +kernel) (by decide +kernel) (by decide +kernel) (by decide +kernel) ⟨by decide, by decide⟩ ⟨by decide, by decide⟩ (by first | exact Nat.le_of_ble_eq_true rfl | simp [va_rf_cat, vi_cat, vl_cat]) ?_
  refine g_iload_n C dX11_way_6 rfl 3 rfl ?_
  refine g_iload_n C dX11_way_7 rfl 1 rfl ?_
  refine g_isub C dX11_way_8 ?_
  refine g_mabs C dX11_way_9 (by decide +kernel) (by decide +kernel) (by decide +kernel) (by decide +kernel) ⟨by decide, by decide⟩ ⟨by decide, by decide⟩ (by first | exact Nat.le_of_ble_eq_true rfl | simp [va_rf_cat, vi_cat, vl_cat]) ?_
  refine g_mmax C dX11_way_12 (by decide +kernel) (by decide +kernel) (by decide +kernel) (by decide +kernel) ⟨by decide, by decide⟩ ⟨by decide, by decide⟩ (by first | exact Nat.le_of_ble_eq_true rfl | simp [va_rf_cat, vi_cat, vl_cat]) ?_
  exact g_iret C dX11_way_15 ⟨by decide, by decide⟩
abbrev rmX8_points : Room := { frames := 0, cells := 0, slots := 0, locals := 0 }
theorem flX8_points_9 : Cond.fieldLink RX8 9 "LightLines$Stroke" "xs" "[I" ∈ wsX8_points := by decide +kernel
set_option maxRecDepth 100000 in
theorem ulX8_points_X1 : ∀ w ∈ u_ws RX1 TX1 2, w ∈ wsX8_points := by decide +kernel
set_option maxRecDepth 100000 in
theorem ulX8_points_X2 : ∀ w ∈ u_ws RX2 TX2 2, w ∈ wsX8_points := by decide +kernel
set_option maxRecDepth 100000 in
theorem ulX8_points_X7 : ∀ w ∈ u_ws RX7 TX7 2, w ∈ wsX8_points := by decide +kernel
set_option maxHeartbeats 4000000 in
set_option maxRecDepth 100000 in
theorem m_X8_points (a0 : Option Nat) (S : St) : ∀ l D cy H0 o, f_X8_points a0 S = some o → Met l yX8_points wsX8_points rmX8_points (Pq D cy H0 [va_rf a0] S) (Qx D cy H0 (cvI o)) 0 0 (fun q => H0.size ≤ q) := by
  refine met_of (cc := cX8_points) (maxL := 1) (ret := (some .int)) [va_rf a0] [(0, va_rf a0)] (by decide) rfl rfl (by simp [lg_sl, va_rf_cat, vi_cat, vl_cat]) (by simp [lv_args, va_rf_cat, vi_cat, vl_cat]) (fun Γ C => ?_)
  unfold f_X8_points
  refine g_aload_n C dX8_points_0 rfl 0 rfl ?_
  refine g_getS C (k := 0) dX8_points_1 (by decide) ulX8_points_X1 ulX8_points_X2 ulX8_points_X7 flX8_points_9 flX8_points_9 flX8_points_9 rfl rfl rfl (fun v1 ev1 => ?_)
  refine g_len14 C dX8_points_4 (fun v2 ev2 => ?_)
  exact g_iret C dX8_points_5 ⟨by decide, by decide⟩
