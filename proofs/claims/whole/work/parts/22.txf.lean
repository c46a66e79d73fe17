abbrev rmX5_holdsPlaces : Room := { frames := 2, cells := 0, slots := 0, locals := 43 }
set_option maxHeartbeats 4000000 in
set_option maxRecDepth 100000 in
theorem t_X5_holdsPlaces_2 {Γ : Cx} (C : CF Γ cX5_holdsPlaces 4 (some .boolean) wsX5_holdsPlaces RX5 rmX5_holdsPlaces 0 0) : ∀ (n : Nat) (a0 : Option Nat) (x1 : Int32) (x2 : Int32) (x3 : Int32) (S : St), G Γ cvI 4 0 0 2 [(0, va_rf a0), (1, .int x1), (2, .int x2), (3, .int x3)] [] S (b_X5_holdsPlaces_2  n a0 x1 x2 x3 S) := by
  intro n
  induction n with
  | zero => intro a0 x1 x2 x3 S; exact g_none
  | succ n ih =>
    intro a0 x1 x2 x3 S
    rw [b_X5_holdsPlaces_2]
    refine g_iload_n C dX5_holdsPlaces_2 rfl 3 rfl ?_
    refine g_iconst C (v := (2 : Int32)) dX5_holdsPlaces_3 (by decide) ?_
    refine g_iload_n C dX5_holdsPlaces_4 rfl 2 rfl ?_
    refine g_imul C dX5_holdsPlaces_5 ?_
    refine g_icmp_ge C (tgt := 34) dX5_holdsPlaces_6 (by decide) (fun h1 => ?_) (fun h1 => ?_)
    · refine g_iconst C (v := (1 : Int32)) dX5_holdsPlaces_34 (by decide) ?_
      exact g_zret C dX5_holdsPlaces_35 ⟨by decide, by decide⟩
    · refine g_aload_n C dX5_holdsPlaces_9 rfl 0 rfl ?_
      refine g_iload_n C dX5_holdsPlaces_10 rfl 1 rfl ?_
      refine g_iload_n C dX5_holdsPlaces_11 rfl 3 rfl ?_
      refine g_iadd C dX5_holdsPlaces_12 ?_
      refine g_callV C (n := 1) (ci := 5) [.int (x1 + x3)] [] (m_X5_item a0 (x1 + x3) S) dX5_holdsPlaces_13 gX5_holdsPlaces_X5_item rfl ⟨rfl, rfl⟩ (by decide +kernel) ⟨by decide, by decide⟩ ⟨by decide, by decide⟩ rfl (by decide) rfl rfl (by first | exact Nat.le_of_ble_eq_true rfl | simp [va_rf_cat, vi_cat, vl_cat]) (fun o2 eo2 => ?_)
      show G Γ cvI 4 0 0 16 [(0, va_rf a0), (1, .int x1), (2, .int x2), (3, .int x3)] [.int o2.1] o2.2 _
      refine g_iconst C (v := (0 : Int32)) dX5_holdsPlaces_16 (by decide) ?_
      refine g_sipush C (v := (1000 : Int32)) dX5_holdsPlaces_17 (by decide) ?_
      refine g_callSN C (n := 3) (host := "LightLines") [.int o2.1, .int (0 : Int32), .int (1000 : Int32)] [] (m_X11_isWithin o2.1 (0 : Int32) (1000 : Int32) o2.2) dX5_holdsPlaces_20 gX5_holdsPlaces_X11_isWithin_n39 (by decide +kernel) (by decide +kernel) (by decide +kernel) rfl ⟨rfl, rfl⟩ (by decide +kernel) ⟨by decide, by decide⟩ ⟨by decide, by decide⟩ rfl rfl (by first | exact Nat.le_of_ble_eq_true rfl | simp [va_rf_cat, vi_cat, vl_cat]) (fun o3 eo3 => ?_)
      show G Γ cvI 4 0 0 23 [(0, va_rf a0), (1, .int x1), (2, .int x2), (3, .int x3)] [.int o3.1] o3.2 _
      refine g_if_ne C (tgt := 28) dX5_holdsPlaces_23 (by decide) (fun h4 => ?_) (fun h4 => ?_)
      · refine g_iconst C (v := (0 : Int32)) dX5_holdsPlaces_26 (by decide) ?_
        exact g_zret C dX5_holdsPlaces_27 ⟨by decide, by decide⟩
      · refine g_iinc1 C dX5_holdsPlaces_28 3 rfl (by decide) (by decide) (fun y5 => ?_)
        refine g_lveq (lv2 := [(3, .int y5), (0, va_rf a0), (1, .int x1), (2, .int x2)]) (by first | rfl | simp [va_rf_cat, vi_cat, vl_cat]) ?_
        refine g_goto C (tgt := 2) dX5_holdsPlaces_31 (by decide) ?_
        exact g_sub (lv2 := [(0, va_rf a0), (1, .int x1), (2, .int x2), (3, .int y5)]) [1, 2, 3, 0] rfl (ih a0 x1 x2 y5 o3.2)
set_option maxHeartbeats 4000000 in
set_option maxRecDepth 100000 in
theorem m_X5_holdsPlaces (a0 : Option Nat) (x1 : Int32) (x2 : Int32) (S : St) : ∀ l D cy H0 o, f_X5_holdsPlaces a0 x1 x2 S = some o → Met l yX5_holdsPlaces wsX5_holdsPlaces rmX5_holdsPlaces (Pq D cy H0 [va_rf a0, .int x1, .int x2] S) (Qx D cy H0 (cvI o)) 0 0 (fun q => H0.size ≤ q) := by
  refine met_of (cc := cX5_holdsPlaces) (maxL := 4) (ret := (some .boolean)) [va_rf a0, .int x1, .int x2] [(0, va_rf a0), (1, .int x1), (2, .int x2)] (by decide) rfl rfl (by simp [lg_sl, va_rf_cat, vi_cat, vl_cat]) (by simp [lv_args, va_rf_cat, vi_cat, vl_cat]) (fun Γ C => ?_)
  unfold f_X5_holdsPlaces
  refine g_iconst C (v := (0 : Int32)) dX5_holdsPlaces_0 (by decide) ?_
  refine g_istore_n C (i := 3) (lv2 := [(3, .int (0 : Int32)), (0, va_rf a0), (1, .int x1), (2, .int x2)]) dX5_holdsPlaces_1 rfl (by decide) (by first | rfl | simp [va_rf_cat, vi_cat, vl_cat]) ?_
  exact g_sub (lv2 := [(0, va_rf a0), (1, .int x1), (2, .int x2), (3, .int (0 : Int32))]) [1, 2, 3, 0] rfl (t_X5_holdsPlaces_2 C FU a0 x1 x2 (0 : Int32) S)
abbrev rmX6_init : Room := { frames := 2, cells := 25, slots := 10169, locals := 44 }
theorem flX6_init_9 : Cond.fieldLink RX6 9 "LightLines$Show" "rules" "[I" ∈ wsX6_init := by decide +kernel
theorem flX6_init_18 : Cond.fieldLink RX6 18 "LightLines$Show" "path" "LLightLines$Path;" ∈ wsX6_init := by decide +kernel
theorem flX6_init_22 : Cond.fieldLink RX6 22 "LightLines$Show" "mirrorX" "[I" ∈ wsX6_init := by decide +kernel
theorem flX6_init_25 : Cond.fieldLink RX6 25 "LightLines$Show" "mirrorY" "[I" ∈ wsX6_init := by decide +kernel
theorem flX6_init_30 : Cond.fieldLink RX6 30 "LightLines$Show" "burns" "[[I" ∈ wsX6_init := by decide +kernel
theorem flX6_init_33 : Cond.fieldLink RX6 33 "LightLines$Show" "rims" "[[I" ∈ wsX6_init := by decide +kernel
theorem flX6_init_36 : Cond.fieldLink RX6 36 "LightLines$Show" "isZoneShut" "[Z" ∈ wsX6_init := by decide +kernel
theorem flX6_init_40 : Cond.fieldLink RX6 40 "LightLines$Show" "stage" "I" ∈ wsX6_init := by decide +kernel
set_option maxRecDepth 100000 in
theorem ulX6_init_X3 : ∀ w ∈ u_ws RX3 TX3 7, w ∈ wsX6_init := by decide +kernel
set_option maxRecDepth 100000 in
theorem ulX6_init_X6 : ∀ w ∈ u_ws RX6 TX6 13, w ∈ wsX6_init := by decide +kernel
set_option maxHeartbeats 4000000 in
set_option maxRecDepth 100000 in
theorem m_X6_init (a0 : Nat) (S : St) : ∀ l D cy H0 o, f_X6_init a0 S = some o → Met l yX6_init wsX6_init rmX6_init (Pq D cy H0 [va_rf (some a0)] S) (Qx D cy H0 (cvV o)) 25 10169 (fun q => H0.size ≤ q) := by
  refine met_ofI (cc := cX6_init) (maxL := 1) (ret := none) [va_rf (some a0)] [(0, va_rf (some a0))] (by decide) rfl rfl rfl (by simp [lg_sl, va_rf_cat, vi_cat, vl_cat]) (by simp [lv_args, va_rf_cat, vi_cat, vl_cat]) (fun Γ C hN => ?_)
  unfold f_X6_init
  refine g_aload_n C dX6_init_0 rfl 0 rfl ?_
  refine g_objInit C dX6_init_1 (by decide +kernel) (by decide +kernel) (by decide +kernel) ⟨by decide, by decide⟩ (by first | exact Nat.le_of_ble_eq_true rfl | simp [va_rf_cat, vi_cat, vl_cat]) ?_
  refine g_aload_n C dX6_init_4 rfl 0 rfl ?_
  refine g_bipush C (v := (6 : Int32)) dX6_init_5 (by decide) ?_
  refine g_newa C (kd := 14) (t0 := 1) (mx := 6) (ty := .int) dX6_init_7 rfl rfl ⟨by decide, by decide⟩ (fun _ => rfl) (fun _ _ h => h) (by decide) (by decide +kernel) ⟨by decide, by decide⟩ (fun S1 eS1 => ?_)
  show G Γ cvV 1 1 6 9 [(0, va_rf (some a0))] [va_rf (some S.2.2.2), va_rf (some a0)] S1 _
  refine g_dupr C dX6_init_9 ?_
  refine g_iconst C (v := (0 : Int32)) dX6_init_10 (by decide) ?_
  refine g_bipush C (v := (50 : Int32)) dX6_init_11 (by decide) ?_
  refine g_ist C dX6_init_13 (fun S2 eS2 => ?_)
  refine g_dupr C dX6_init_14 ?_
  refine g_iconst C (v := (1 : Int32)) dX6_init_15 (by decide) ?_
  refine g_iconst C (v := (1 : Int32)) dX6_init_16 (by decide) ?_
  refine g_ist C dX6_init_17 (fun S3 eS3 => ?_)
  refine g_dupr C dX6_init_18 ?_
  refine g_iconst C (v := (2 : Int32)) dX6_init_19 (by decide) ?_
  refine g_bipush C (v := (8 : Int32)) dX6_init_20 (by decide) ?_
  refine g_ist C dX6_init_22 (fun S4 eS4 => ?_)
  refine g_dupr C dX6_init_23 ?_
  refine g_iconst C (v := (3 : Int32)) dX6_init_24 (by decide) ?_
  refine g_bipush C (v := (10 : Int32)) dX6_init_25 (by decide) ?_
  refine g_ist C dX6_init_27 (fun S5 eS5 => ?_)
  refine g_dupr C dX6_init_28 ?_
  refine g_iconst C (v := (4 : Int32)) dX6_init_29 (by decide) ?_
  refine g_iconst C (v := (0 : Int32)) dX6_init_30 (by decide) ?_
  refine g_ist C dX6_init_31 (fun S6 eS6 => ?_)
  refine g_dupr C dX6_init_32 ?_
  refine g_iconst C (v := (5 : Int32)) dX6_init_33 (by decide) ?_
  refine g_bipush C (v := (40 : Int32)) dX6_init_34 (by decide) ?_
  refine g_ist C dX6_init_36 (fun S7 eS7 => ?_)
  refine g_putFR C hN (ci := 6) (k := 0) (ty0 := tyX6) dX6_init_37 rfl (by decide) (by decide) (by decide) tyX6_ok nmX6 ulX6_init_X6 flX6_init_9 rfl rfl rfl (rf_fit_a _) (fun S8 eS8 => ?_)
  refine g_aload_n C dX6_init_40 rfl 0 rfl ?_
  refine g_new C (ci := 3) (ty0 := tyX3) dX6_init_41 rfl (by decide) tyX3_ok (by decide +kernel) ulX6_init_X3 (by decide +kernel) (by decide +kernel) (by decide +kernel) ⟨by decide, by decide⟩ (fun S9 => ?_)
  show G Γ cvV 1 2 13 44 [(0, va_rf (some a0))] [va_rf (some S8.2.2.2), va_rf (some a0)] S9 _
  refine g_dupr C dX6_init_44 ?_
  refine g_callIN C (n := 0) (host := "LightLines") [] [va_rf (some S8.2.2.2), va_rf (some a0)] (m_X3_init S8.2.2.2 S9) dX6_init_45 gX6_init_X3_init_n17 (by decide +kernel) rfl ⟨rfl, rfl⟩ (by decide +kernel) (by decide +kernel) rfl (by decide +kernel) ⟨by decide, by decide⟩ ⟨by decide, by decide⟩ rfl rfl (by first | exact Nat.le_of_ble_eq_true rfl | simp [va_rf_cat, vi_cat, vl_cat]) (fun o10 eo10 => ?_)
  show G Γ cvV 1 5 6013 48 [(0, va_rf (some a0))] [va_rf (some S8.2.2.2), va_rf (some a0)] o10 _
  refine g_putFR C hN (ci := 6) (k := 1) (ty0 := tyX6) dX6_init_48 rfl (by decide) (by decide) (by decide) tyX6_ok nmX6 ulX6_init_X6 flX6_init_18 rfl rfl rfl (rf_fit_o _) (fun S11 eS11 => ?_)
  refine g_aload_n C dX6_init_51 rfl 0 rfl ?_
  refine g_sipush C (v := (2000 : Int32)) dX6_init_52 (by decide) ?_
  refine g_newa C (kd := 14) (t0 := 1) (mx := 2000) (ty := .int) dX6_init_55 rfl rfl ⟨by decide, by decide⟩ (fun _ => rfl) (fun _ _ h => h) (by decide) (by decide +kernel) ⟨by decide, by decide⟩ (fun S12 eS12 => ?_)
  show G Γ cvV 1 6 8013 57 [(0, va_rf (some a0))] [va_rf (some S11.2.2.2), va_rf (some a0)] S12 _
  refine g_putFR C hN (ci := 6) (k := 2) (ty0 := tyX6) dX6_init_57 rfl (by decide) (by decide) (by decide) tyX6_ok nmX6 ulX6_init_X6 flX6_init_22 rfl rfl rfl (rf_fit_a _) (fun S13 eS13 => ?_)
  refine g_aload_n C dX6_init_60 rfl 0 rfl ?_
  refine g_sipush C (v := (2000 : Int32)) dX6_init_61 (by decide) ?_
  refine g_newa C (kd := 14) (t0 := 1) (mx := 2000) (ty := .int) dX6_init_64 rfl rfl ⟨by decide, by decide⟩ (fun _ => rfl) (fun _ _ h => h) (by decide) (by decide +kernel) ⟨by decide, by decide⟩ (fun S14 eS14 => ?_)
  show G Γ cvV 1 7 10013 66 [(0, va_rf (some a0))] [va_rf (some S13.2.2.2), va_rf (some a0)] S14 _
  refine g_putFR C hN (ci := 6) (k := 3) (ty0 := tyX6) dX6_init_66 rfl (by decide) (by decide) (by decide) tyX6_ok nmX6 ulX6_init_X6 flX6_init_25 rfl rfl rfl (rf_fit_a _) (fun S15 eS15 => ?_)
  refine g_aload_n C dX6_init_69 rfl 0 rfl ?_
  refine g_bipush C (v := (11 : Int32)) dX6_init_70 (by decide) ?_
  refine g_bipush C (v := (11 : Int32)) dX6_init_72 (by decide) ?_
  refine g_mna C (N := 11) (M := 11) dX6_init_74 (by decide) (by decide) (by decide) (by decide) (by decide) (by decide) (by decide) (by decide +kernel) (by decide +kernel) ⟨by decide, by decide⟩ (fun S16 => ?_)
  show G Γ cvV 1 19 10145 78 [(0, va_rf (some a0))] [va_rf (some S15.2.2.2), va_rf (some a0)] S16 _
  refine g_putFR C hN (ci := 6) (k := 4) (ty0 := tyX6) dX6_init_78 rfl (by decide) (by decide) (by decide) tyX6_ok nmX6 ulX6_init_X6 flX6_init_30 rfl rfl rfl (rf_fit_a _) (fun S17 eS17 => ?_)
  refine g_aload_n C dX6_init_81 rfl 0 rfl ?_
  refine g_iconst C (v := (4 : Int32)) dX6_init_82 (by decide) ?_
  refine g_iconst C (v := (4 : Int32)) dX6_init_83 (by decide) ?_
  refine g_mna C (N := 4) (M := 4) dX6_init_84 (by decide) (by decide) (by decide) (by decide) (by decide) (by decide) (by decide) (by decide +kernel) (by decide +kernel) ⟨by decide, by decide⟩ (fun S18 => ?_)
  show G Γ cvV 1 24 10165 88 [(0, va_rf (some a0))] [va_rf (some S17.2.2.2), va_rf (some a0)] S18 _
  refine g_putFR C hN (ci := 6) (k := 10) (ty0 := tyX6) dX6_init_88 rfl (by decide) (by decide) (by decide) tyX6_ok nmX6 ulX6_init_X6 flX6_init_33 rfl rfl rfl (rf_fit_a _) (fun S19 eS19 => ?_)
  refine g_aload_n C dX6_init_91 rfl 0 rfl ?_
  refine g_iconst C (v := (4 : Int32)) dX6_init_92 (by decide) ?_
  refine g_newa C (kd := 15) (t0 := 2) (mx := 4) (ty := .boolean) dX6_init_93 rfl rfl ⟨by decide, by decide⟩ (fun _ => rfl) (fun _ _ h => h) (by decide) (by decide +kernel) ⟨by decide, by decide⟩ (fun S20 eS20 => ?_)
  show G Γ cvV 1 25 10169 95 [(0, va_rf (some a0))] [va_rf (some S19.2.2.2), va_rf (some a0)] S20 _
  refine g_putFR C hN (ci := 6) (k := 11) (ty0 := tyX6) dX6_init_95 rfl (by decide) (by decide) (by decide) tyX6_ok nmX6 ulX6_init_X6 flX6_init_36 rfl rfl rfl (rf_fit_a _) (fun S21 eS21 => ?_)
  refine g_aload_n C dX6_init_98 rfl 0 rfl ?_
  refine g_iconst C (v := (0 : Int32)) dX6_init_99 (by decide) ?_
  refine g_putI C (ci := 6) (k := 12) (ty0 := tyX6) dX6_init_100 rfl (by decide) (by decide) (by decide) tyX6_ok nmX6 ulX6_init_X6 flX6_init_40 rfl rfl ⟨rfl, rfl⟩ (fun S22 eS22 => ?_)
  exact g_vret C dX6_init_103 ⟨by decide, by decide⟩
abbrev rmX6_pathIsStale : Room := { frames := 0, cells := 0, slots := 0, locals := 0 }
theorem flX6_pathIsStale_40 : Cond.fieldLink RX6 40 "LightLines$Show" "stage" "I" ∈ wsX6_pathIsStale := by decide +kernel
set_option maxRecDepth 100000 in
theorem ulX6_pathIsStale_X6 : ∀ w ∈ u_ws RX6 TX6 13, w ∈ wsX6_pathIsStale := by decide +kernel
set_option maxHeartbeats 4000000 in
set_option maxRecDepth 100000 in
theorem m_X6_pathIsStale (a0 : Option Nat) (S : St) : ∀ l D cy H0 o, f_X6_pathIsStale a0 S = some o → Met l yX6_pathIsStale wsX6_pathIsStale rmX6_pathIsStale (Pq D cy H0 [va_rf a0] S) (Qx D cy H0 (cvV o)) 0 0 (fun q => H0.size ≤ q) := by
  refine met_of (cc := cX6_pathIsStale) (maxL := 1) (ret := none) [va_rf a0] [(0, va_rf a0)] (by decide) rfl rfl (by simp [lg_sl, va_rf_cat, vi_cat, vl_cat]) (by simp [lv_args, va_rf_cat, vi_cat, vl_cat]) (fun Γ C => ?_)
  unfold f_X6_pathIsStale
  refine g_aload_n C dX6_pathIsStale_0 rfl 0 rfl ?_
  refine g_iconst C (v := (0 : Int32)) dX6_pathIsStale_1 (by decide) ?_
  refine g_putI C (ci := 6) (k := 12) (ty0 := tyX6) dX6_pathIsStale_2 rfl (by decide) (by decide) (by decide) tyX6_ok nmX6 ulX6_pathIsStale_X6 flX6_pathIsStale_40 rfl rfl ⟨rfl, rfl⟩ (fun S1 eS1 => ?_)
  exact g_vret C dX6_pathIsStale_5 ⟨by decide, by decide⟩
abbrev rmX6_stageEndsAt : Room := { frames := 1, cells := 0, slots := 0, locals := 24 }
theorem flX6_stageEndsAt_40 : Cond.fieldLink RX6 40 "LightLines$Show" "stage" "I" ∈ wsX6_stageEndsAt := by decide +kernel
set_option maxRecDepth 100000 in
theorem ulX6_stageEndsAt_X6 : ∀ w ∈ u_ws RX6 TX6 13, w ∈ wsX6_stageEndsAt := by decide +kernel
set_option maxHeartbeats 4000000 in
set_option maxRecDepth 100000 in
theorem m_X6_stageEndsAt (a0 : Option Nat) (x1 : Int32) (S : St) : ∀ l D cy H0 o, f_X6_stageEndsAt a0 x1 S = some o → Met l yX6_stageEndsAt wsX6_stageEndsAt rmX6_stageEndsAt (Pq D cy H0 [va_rf a0, .int x1] S) (Qx D cy H0 (cvV o)) 0 0 (fun q => H0.size ≤ q) := by
  refine met_of (cc := cX6_stageEndsAt) (maxL := 2) (ret := none) [va_rf a0, .int x1] [(0, va_rf a0), (1, .int x1)] (by decide) rfl rfl (by simp [lg_sl, va_rf_cat, vi_cat, vl_cat]) (by simp [lv_args, va_rf_cat, vi_cat, vl_cat]) (fun Γ C => ?_)
  unfold f_X6_stageEndsAt
  refine g_aload_n C dX6_stageEndsAt_0 rfl 0 rfl ?_
  refine g_aload_n C dX6_stageEndsAt_1 rfl 0 rfl ?_
  refine g_getI C (ci := 6) (k := 12) dX6_stageEndsAt_2 rfl (by decide) (by decide) (by decide) ulX6_stageEndsAt_X6 flX6_stageEndsAt_40 rfl (fun v1 ev1 => ?_)
  refine g_iload_n C dX6_stageEndsAt_5 rfl 1 rfl ?_
  refine g_mmin C dX6_stageEndsAt_6 (by decide +kernel) (by decide +kernel) (by decide +kernel) (by decide +kernel) ⟨by decide, by decide⟩ ⟨by decide, by decide⟩ (by first | exact Nat.le_of_ble_eq_true rfl | simp [va_rf_cat, vi_cat, vl_cat]) ?_
  refine g_putI C (ci := 6) (k := 12) (ty0 := tyX6) dX6_stageEndsAt_9 rfl (by decide) (by decide) (by decide) tyX6_ok nmX6 ulX6_stageEndsAt_X6 flX6_stageEndsAt_40 rfl rfl ⟨rfl, rfl⟩ (fun S2 eS2 => ?_)
  exact g_vret C dX6_stageEndsAt_12 ⟨by decide, by decide⟩
abbrev rmX6_changeRule : Room := { frames := 2, cells := 0, slots := 0, locals := 45 }
theorem flX6_changeRule_9 : Cond.fieldLink RX6 9 "LightLines$Show" "rules" "[I" ∈ wsX6_changeRule := by decide +kernel
set_option maxRecDepth 100000 in
theorem ulX6_changeRule_X6 : ∀ w ∈ u_ws RX6 TX6 13, w ∈ wsX6_changeRule := by decide +kernel
set_option maxHeartbeats 4000000 in
set_option maxRecDepth 100000 in
theorem t_X6_changeRule_75 {Γ : Cx} (C : CF Γ cX6_changeRule 4 (some .int) wsX6_changeRule RX6 rmX6_changeRule 0 0) (x3 : Int32) (S : St) : G Γ cvI 4 0 0 75 [(3, .int x3)] [] S (b_X6_changeRule_75  x3 S) := by
  unfold b_X6_changeRule_75
  refine g_iload_n C dX6_changeRule_75 rfl 0 rfl ?_
  exact g_iret C dX6_changeRule_76 ⟨by decide, by decide⟩
set_option maxHeartbeats 4000000 in
set_option maxRecDepth 100000 in
theorem t_X6_changeRule_39 {Γ : Cx} (C : CF Γ cX6_changeRule 4 (some .int) wsX6_changeRule RX6 rmX6_changeRule 0 0) (a0 : Option Nat) (x3 : Int32) (S : St) : G Γ cvI 4 0 0 39 [(0, va_rf a0), (3, .int x3)] [] S (b_X6_changeRule_39  a0 x3 S) := by
  unfold b_X6_changeRule_39
  refine g_aload_n C dX6_changeRule_39 rfl 0 rfl ?_
  refine g_iconst C (v := (0 : Int32)) dX6_changeRule_40 (by decide) ?_
  refine g_callV C (n := 1) (ci := 6) [.int (0 : Int32)] [] (m_X6_stageEndsAt a0 (0 : Int32) S) dX6_changeRule_41 gX6_changeRule_X6_stageEndsAt rfl ⟨rfl, rfl⟩ (by decide +kernel) ⟨by decide, by decide⟩ ⟨by decide, by decide⟩ rfl (by decide) rfl rfl (by first | exact Nat.le_of_ble_eq_true rfl | simp [va_rf_cat, vi_cat, vl_cat]) (fun o1 eo1 => ?_)
  show G Γ cvI 4 0 0 44 [(0, va_rf a0), (3, .int x3)] [] o1 _
  refine g_goto C (tgt := 75) dX6_changeRule_44 (by decide) ?_
  exact g_sub (lv2 := [(3, .int x3)]) [1] rfl (t_X6_changeRule_75 C x3 o1)
set_option maxHeartbeats 4000000 in
set_option maxRecDepth 100000 in
theorem t_X6_changeRule_57 {Γ : Cx} (C : CF Γ cX6_changeRule 4 (some .int) wsX6_changeRule RX6 rmX6_changeRule 0 0) (a0 : Option Nat) (x3 : Int32) (S : St) : G Γ cvI 4 0 0 57 [(0, va_rf a0), (3, .int x3)] [] S (b_X6_changeRule_57  a0 x3 S) := by
  unfold b_X6_changeRule_57
  refine g_aload_n C dX6_changeRule_57 rfl 0 rfl ?_
  refine g_iconst C (v := (1 : Int32)) dX6_changeRule_58 (by decide) ?_
  refine g_callV C (n := 1) (ci := 6) [.int (1 : Int32)] [] (m_X6_stageEndsAt a0 (1 : Int32) S) dX6_changeRule_59 gX6_changeRule_X6_stageEndsAt rfl ⟨rfl, rfl⟩ (by decide +kernel) ⟨by decide, by decide⟩ ⟨by decide, by decide⟩ rfl (by decide) rfl rfl (by first | exact Nat.le_of_ble_eq_true rfl | simp [va_rf_cat, vi_cat, vl_cat]) (fun o1 eo1 => ?_)
  show G Γ cvI 4 0 0 62 [(0, va_rf a0), (3, .int x3)] [] o1 _
  refine g_goto C (tgt := 75) dX6_changeRule_62 (by decide) ?_
  exact g_sub (lv2 := [(3, .int x3)]) [1] rfl (t_X6_changeRule_75 C x3 o1)
set_option maxHeartbeats 4000000 in
set_option maxRecDepth 100000 in
theorem m_X6_changeRule (a0 : Option Nat) (x1 : Int32) (x2 : Int32) (S : St) : ∀ l D cy H0 o, f_X6_changeRule a0 x1 x2 S = some o → Met l yX6_changeRule wsX6_changeRule rmX6_changeRule (Pq D cy H0 [va_rf a0, .int x1, .int x2] S) (Qx D cy H0 (cvI o)) 0 0 (fun q => H0.size ≤ q) := by
  refine met_of (cc := cX6_changeRule) (maxL := 4) (ret := (some .int)) [va_rf a0, .int x1, .int x2] [(0, va_rf a0), (1, .int x1), (2, .int x2)] (by decide) rfl rfl (by simp [lg_sl, va_rf_cat, vi_cat, vl_cat]) (by simp [lv_args, va_rf_cat, vi_cat, vl_cat]) (fun Γ C => ?_)
  unfold f_X6_changeRule
  refine g_iload_n C dX6_changeRule_0 rfl 1 rfl ?_
  refine g_if_lt C (tgt := 13) dX6_changeRule_1 (by decide) (fun h1 => ?_) (fun h1 => ?_)
  · refine g_ldc C (v := (-1000001 : Int32)) dX6_changeRule_13 (by decide +kernel) ?_
    exact g_iret C dX6_changeRule_15 ⟨by decide, by decide⟩
  · refine g_iload_n C dX6_changeRule_4 rfl 1 rfl ?_
    refine g_aload_n C dX6_changeRule_5 rfl 0 rfl ?_
    refine g_getR C (ci := 6) (k := 0) dX6_changeRule_6 rfl (by decide) (by decide) (by decide) ulX6_changeRule_X6 flX6_changeRule_9 rfl (fun v2 ev2 => ?_)
    refine g_len14 C dX6_changeRule_9 (fun v3 ev3 => ?_)
    refine g_icmp_lt C (tgt := 16) dX6_changeRule_10 (by decide) (fun h4 => ?_) (fun h4 => ?_)
    · refine g_aload_n C dX6_changeRule_16 rfl 0 rfl ?_
      refine g_getR C (ci := 6) (k := 0) dX6_changeRule_17 rfl (by decide) (by decide) (by decide) ulX6_changeRule_X6 flX6_changeRule_9 rfl (fun v5 ev5 => ?_)
      refine g_iload_n C dX6_changeRule_20 rfl 1 rfl ?_
      refine g_ild C dX6_changeRule_21 (fun v6 ev6 => ?_)
      refine g_istore_n C (i := 3) (lv2 := [(3, .int v6), (0, va_rf a0), (1, .int x1), (2, .int x2)]) dX6_changeRule_22 rfl (by decide) (by first | rfl | simp [va_rf_cat, vi_cat, vl_cat]) ?_
      refine g_aload_n C dX6_changeRule_23 rfl 1 rfl ?_
      refine g_getR C (ci := 6) (k := 0) dX6_changeRule_24 rfl (by decide) (by decide) (by decide) ulX6_changeRule_X6 flX6_changeRule_9 rfl (fun v7 ev7 => ?_)
      refine g_iload_n C dX6_changeRule_27 rfl 2 rfl ?_
      refine g_iload_n C dX6_changeRule_28 rfl 3 rfl ?_
      refine g_ist C dX6_changeRule_29 (fun S8 eS8 => ?_)
      refine g_iload_n C dX6_changeRule_30 rfl 2 rfl ?_
      refine g_if_eq C (tgt := 39) dX6_changeRule_31 (by decide) (fun h9 => ?_) (fun h9 => ?_)
      · exact g_sub (lv2 := [(0, va_rf a0), (3, .int v6)]) [1, 0] rfl (t_X6_changeRule_39 C a0 v6 S8)
      · refine g_iload_n C dX6_changeRule_34 rfl 2 rfl ?_
        refine g_iconst C (v := (1 : Int32)) dX6_changeRule_35 (by decide) ?_
        refine g_icmp_ne C (tgt := 47) dX6_changeRule_36 (by decide) (fun h10 => ?_) (fun h10 => ?_)
        · exact g_sub (lv2 := [(0, va_rf a0), (3, .int v6)]) [1, 0] rfl (t_X6_changeRule_39 C a0 v6 S8)
        · refine g_iload_n C dX6_changeRule_47 rfl 2 rfl ?_
          refine g_iconst C (v := (2 : Int32)) dX6_changeRule_48 (by decide) ?_
          refine g_icmp_eq C (tgt := 57) dX6_changeRule_49 (by decide) (fun h11 => ?_) (fun h11 => ?_)
          · exact g_sub (lv2 := [(0, va_rf a0), (3, .int v6)]) [1, 0] rfl (t_X6_changeRule_57 C a0 v6 S8)
          · refine g_iload_n C dX6_changeRule_52 rfl 2 rfl ?_
            refine g_iconst C (v := (3 : Int32)) dX6_changeRule_53 (by decide) ?_
            refine g_icmp_ne C (tgt := 65) dX6_changeRule_54 (by decide) (fun h12 => ?_) (fun h12 => ?_)
            · exact g_sub (lv2 := [(0, va_rf a0), (3, .int v6)]) [1, 0] rfl (t_X6_changeRule_57 C a0 v6 S8)
            · refine g_iload_n C dX6_changeRule_65 rfl 2 rfl ?_
              refine g_iconst C (v := (4 : Int32)) dX6_changeRule_66 (by decide) ?_
              refine g_icmp_ne C (tgt := 75) dX6_changeRule_67 (by decide) (fun h13 => ?_) (fun h13 => ?_)
              · refine g_aload_n C dX6_changeRule_70 rfl 1 rfl ?_
                refine g_iconst C (v := (2 : Int32)) dX6_changeRule_71 (by decide) ?_
                refine g_callV C (n := 1) (ci := 6) [.int (2 : Int32)] [] (m_X6_stageEndsAt a0 (2 : Int32) S8) dX6_changeRule_72 gX6_changeRule_X6_stageEndsAt rfl ⟨rfl, rfl⟩ (by decide +kernel) ⟨by decide, by decide⟩ ⟨by decide, by decide⟩ rfl (by decide) rfl rfl (by first | exact Nat.le_of_ble_eq_true rfl | simp [va_rf_cat, vi_cat, vl_cat]) (fun o14 eo14 => ?_)
                show G Γ cvI 4 0 0 75 [(3, .int v6), (0, va_rf a0), (1, .int x1), (2, .int x2)] [] o14 _
                exact g_sub (lv2 := [(3, .int v6)]) [0] rfl (t_X6_changeRule_75 C v6 o14)
              · exact g_sub (lv2 := [(3, .int v6)]) [0] rfl (t_X6_changeRule_75 C v6 S8)
    · refine g_ldc C (v := (-1000001 : Int32)) dX6_changeRule_13 (by decide +kernel) ?_
      exact g_iret C dX6_changeRule_15 ⟨by decide, by decide⟩
abbrev rmX6_shutZone : Room := { frames := 2, cells := 0, slots := 0, locals := 45 }
theorem flX6_shutZone_33 : Cond.fieldLink RX6 33 "LightLines$Show" "rims" "[[I" ∈ wsX6_shutZone := by decide +kernel
theorem flX6_shutZone_36 : Cond.fieldLink RX6 36 "LightLines$Show" "isZoneShut" "[Z" ∈ wsX6_shutZone := by decide +kernel
set_option maxRecDepth 100000 in
theorem ulX6_shutZone_X6 : ∀ w ∈ u_ws RX6 TX6 13, w ∈ wsX6_shutZone := by decide +kernel
set_option maxHeartbeats 4000000 in
set_option maxRecDepth 100000 in
theorem m_X6_shutZone (a0 : Option Nat) (x1 : Int32) (x2 : Int32) (x3 : Int32) (x4 : Int32) (x5 : Int32) (S : St) : ∀ l D cy H0 o, f_X6_shutZone a0 x1 x2 x3 x4 x5 S = some o → Met l yX6_shutZone wsX6_shutZone rmX6_shutZone (Pq D cy H0 [va_rf a0, .int x1, .int x2, .int x3, .int x4, .int x5] S) (Qx D cy H0 (cvV o)) 0 0 (fun q => H0.size ≤ q) := by
  refine met_of (cc := cX6_shutZone) (maxL := 6) (ret := none) [va_rf a0, .int x1, .int x2, .int x3, .int x4, .int x5] [(0, va_rf a0), (1, .int x1), (2, .int x2), (3, .int x3), (4, .int x4), (5, .int x5)] (by decide) rfl rfl (by simp [lg_sl, va_rf_cat, vi_cat, vl_cat]) (by simp [lv_args, va_rf_cat, vi_cat, vl_cat]) (fun Γ C => ?_)
  unfold f_X6_shutZone
  refine g_iload_n C dX6_shutZone_0 rfl 1 rfl ?_
  refine g_if_lt C (tgt := 59) dX6_shutZone_1 (by decide) (fun h1 => ?_) (fun h1 => ?_)
  · exact g_vret C dX6_shutZone_59 ⟨by decide, by decide⟩
  · refine g_iload_n C dX6_shutZone_4 rfl 1 rfl ?_
    refine g_iconst C (v := (4 : Int32)) dX6_shutZone_5 (by decide) ?_
    refine g_icmp_ge C (tgt := 59) dX6_shutZone_6 (by decide) (fun h2 => ?_) (fun h2 => ?_)
    · exact g_vret C dX6_shutZone_59 ⟨by decide, by decide⟩
    · refine g_aload_n C dX6_shutZone_9 rfl 0 rfl ?_
      refine g_getR C (ci := 6) (k := 10) dX6_shutZone_10 rfl (by decide) (by decide) (by decide) ulX6_shutZone_X6 flX6_shutZone_33 rfl (fun v3 ev3 => ?_)
      refine g_iload_n C dX6_shutZone_13 rfl 1 rfl ?_
      refine g_ald18 C dX6_shutZone_14 (fun v4 ev4 => ?_)
      refine g_iconst C (v := (0 : Int32)) dX6_shutZone_15 (by decide) ?_
      refine g_iload_n C dX6_shutZone_16 rfl 2 rfl ?_
      refine g_ist C dX6_shutZone_17 (fun S5 eS5 => ?_)
      refine g_aload_n C dX6_shutZone_18 rfl 0 rfl ?_
      refine g_getR C (ci := 6) (k := 10) dX6_shutZone_19 rfl (by decide) (by decide) (by decide) ulX6_shutZone_X6 flX6_shutZone_33 rfl (fun v6 ev6 => ?_)
      refine g_iload_n C dX6_shutZone_22 rfl 1 rfl ?_
      refine g_ald18 C dX6_shutZone_23 (fun v7 ev7 => ?_)
      refine g_iconst C (v := (1 : Int32)) dX6_shutZone_24 (by decide) ?_
      refine g_iload_n C dX6_shutZone_25 rfl 3 rfl ?_
      refine g_ist C dX6_shutZone_26 (fun S8 eS8 => ?_)
      refine g_aload_n C dX6_shutZone_27 rfl 0 rfl ?_
      refine g_getR C (ci := 6) (k := 10) dX6_shutZone_28 rfl (by decide) (by decide) (by decide) ulX6_shutZone_X6 flX6_shutZone_33 rfl (fun v9 ev9 => ?_)
      refine g_iload_n C dX6_shutZone_31 rfl 1 rfl ?_
      refine g_ald18 C dX6_shutZone_32 (fun v10 ev10 => ?_)
      refine g_iconst C (v := (2 : Int32)) dX6_shutZone_33 (by decide) ?_
      refine g_iload C dX6_shutZone_34 4 rfl ?_
      refine g_ist C dX6_shutZone_36 (fun S11 eS11 => ?_)
      refine g_aload_n C dX6_shutZone_37 rfl 0 rfl ?_
      refine g_getR C (ci := 6) (k := 10) dX6_shutZone_38 rfl (by decide) (by decide) (by decide) ulX6_shutZone_X6 flX6_shutZone_33 rfl (fun v12 ev12 => ?_)
      refine g_iload_n C dX6_shutZone_41 rfl 1 rfl ?_
      refine g_ald18 C dX6_shutZone_42 (fun v13 ev13 => ?_)
      refine g_iconst C (v := (3 : Int32)) dX6_shutZone_43 (by decide) ?_
      refine g_iload C dX6_shutZone_44 5 rfl ?_
      refine g_ist C dX6_shutZone_46 (fun S14 eS14 => ?_)
      refine g_aload_n C dX6_shutZone_47 rfl 0 rfl ?_
      refine g_getR C (ci := 6) (k := 11) dX6_shutZone_48 rfl (by decide) (by decide) (by decide) ulX6_shutZone_X6 flX6_shutZone_36 rfl (fun v15 ev15 => ?_)
      refine g_iload_n C dX6_shutZone_51 rfl 1 rfl ?_
      refine g_iconst C (v := (1 : Int32)) dX6_shutZone_52 (by decide) ?_
      refine g_zst C dX6_shutZone_53 (fun S16 eS16 => ?_)
      refine g_aload_n C dX6_shutZone_54 rfl 0 rfl ?_
      refine g_iconst C (v := (2 : Int32)) dX6_shutZone_55 (by decide) ?_
      refine g_callV C (n := 1) (ci := 6) [.int (2 : Int32)] [] (m_X6_stageEndsAt a0 (2 : Int32) S16) dX6_shutZone_56 gX6_shutZone_X6_stageEndsAt rfl ⟨rfl, rfl⟩ (by decide +kernel) ⟨by decide, by decide⟩ ⟨by decide, by decide⟩ rfl (by decide) rfl rfl (by first | exact Nat.le_of_ble_eq_true rfl | simp [va_rf_cat, vi_cat, vl_cat]) (fun o17 eo17 => ?_)
      show G Γ cvV 6 0 0 59 [(0, va_rf a0), (1, .int x1), (2, .int x2), (3, .int x3), (4, .int x4), (5, .int x5)] [] o17 _
      exact g_vret C dX6_shutZone_59 ⟨by decide, by decide⟩
abbrev rmX6_openZone : Room := { frames := 2, cells := 0, slots := 0, locals := 45 }
theorem flX6_openZone_36 : Cond.fieldLink RX6 36 "LightLines$Show" "isZoneShut" "[Z" ∈ wsX6_openZone := by decide +kernel
set_option maxRecDepth 100000 in
theorem ulX6_openZone_X6 : ∀ w ∈ u_ws RX6 TX6 13, w ∈ wsX6_openZone := by decide +kernel
set_option maxHeartbeats 4000000 in
set_option maxRecDepth 100000 in
theorem t_X6_openZone_40 {Γ : Cx} (C : CF Γ cX6_openZone 3 (some .boolean) wsX6_openZone RX6 rmX6_openZone 0 0) (x2 : Int32) (S : St) : G Γ cvI 3 0 0 40 [(2, .int x2)] [] S (b_X6_openZone_40  x2 S) := by
  unfold b_X6_openZone_40
  refine g_iload_n C dX6_openZone_40 rfl 0 rfl ?_
  exact g_zret C dX6_openZone_41 ⟨by decide, by decide⟩
set_option maxHeartbeats 4000000 in
set_option maxRecDepth 100000 in
theorem t_X6_openZone_23 {Γ : Cx} (C : CF Γ cX6_openZone 3 (some .boolean) wsX6_openZone RX6 rmX6_openZone 0 0) (a0 : Option Nat) (x1 : Int32) (s0 : Int32) (S : St) : G Γ cvI 3 0 0 23 [(0, va_rf a0), (1, .int x1)] [.int s0] S (b_X6_openZone_23  a0 x1 s0 S) := by
  unfold b_X6_openZone_23
  refine g_istore_n C (i := 2) (lv2 := [(2, .int s0), (0, va_rf a0), (1, .int x1)]) dX6_openZone_23 rfl (by decide) (by first | rfl | simp [va_rf_cat, vi_cat, vl_cat]) ?_
  refine g_iload_n C dX6_openZone_24 rfl 0 rfl ?_
  refine g_if_eq C (tgt := 40) dX6_openZone_25 (by decide) (fun h1 => ?_) (fun h1 => ?_)
  · exact g_sub (lv2 := [(2, .int s0)]) [0] rfl (t_X6_openZone_40 C s0 S)
  · refine g_aload_n C dX6_openZone_28 rfl 1 rfl ?_
    refine g_getR C (ci := 6) (k := 11) dX6_openZone_29 rfl (by decide) (by decide) (by decide) ulX6_openZone_X6 flX6_openZone_36 rfl (fun v2 ev2 => ?_)
    refine g_iload_n C dX6_openZone_32 rfl 2 rfl ?_
    refine g_iconst C (v := (0 : Int32)) dX6_openZone_33 (by decide) ?_
    refine g_zst C dX6_openZone_34 (fun S3 eS3 => ?_)
    refine g_aload_n C dX6_openZone_35 rfl 1 rfl ?_
    refine g_iconst C (v := (2 : Int32)) dX6_openZone_36 (by decide) ?_
    refine g_callV C (n := 1) (ci := 6) [.int (2 : Int32)] [] (m_X6_stageEndsAt a0 (2 : Int32) S3) dX6_openZone_37 gX6_openZone_X6_stageEndsAt rfl ⟨rfl, rfl⟩ (by decide +kernel) ⟨by decide, by decide⟩ ⟨by decide, by decide⟩ rfl (by decide) rfl rfl (by first | exact Nat.le_of_ble_eq_true rfl | simp [va_rf_cat, vi_cat, vl_cat]) (fun o4 eo4 => ?_)
    show G Γ cvI 3 0 0 40 [(2, .int s0), (0, va_rf a0), (1, .int x1)] [] o4 _
    exact g_sub (lv2 := [(2, .int s0)]) [0] rfl (t_X6_openZone_40 C s0 o4)
set_option maxHeartbeats 4000000 in
set_option maxRecDepth 100000 in
theorem t_X6_openZone_22 {Γ : Cx} (C : CF Γ cX6_openZone 3 (some .boolean) wsX6_openZone RX6 rmX6_openZone 0 0) (a0 : Option Nat) (x1 : Int32) (S : St) : G Γ cvI 3 0 0 22 [(0, va_rf a0), (1, .int x1)] [] S (b_X6_openZone_22  a0 x1 S) := by
  unfold b_X6_openZone_22
  refine g_iconst C (v := (0 : Int32)) dX6_openZone_22 (by decide) ?_
  exact g_sub (lv2 := [(0, va_rf a0), (1, .int x1)]) [0, 1] rfl (t_X6_openZone_23 C a0 x1 (0 : Int32) S)
set_option maxHeartbeats 4000000 in
set_option maxRecDepth 100000 in
theorem m_X6_openZone (a0 : Option Nat) (x1 : Int32) (S : St) : ∀ l D cy H0 o, f_X6_openZone a0 x1 S = some o → Met l yX6_openZone wsX6_openZone rmX6_openZone (Pq D cy H0 [va_rf a0, .int x1] S) (Qx D cy H0 (cvI o)) 0 0 (fun q => H0.size ≤ q) := by
  refine met_of (cc := cX6_openZone) (maxL := 3) (ret := (some .boolean)) [va_rf a0, .int x1] [(0, va_rf a0), (1, .int x1)] (by decide) rfl rfl (by simp [lg_sl, va_rf_cat, vi_cat, vl_cat]) (by simp [lv_args, va_rf_cat, vi_cat, vl_cat]) (fun Γ C => ?_)
  unfold f_X6_openZone
  refine g_iload_n C dX6_openZone_0 rfl 1 rfl ?_
  refine g_if_lt C (tgt := 22) dX6_openZone_1 (by decide) (fun h1 => ?_) (fun h1 => ?_)
  · exact g_sub (lv2 := [(0, va_rf a0), (1, .int x1)]) [0, 1] rfl (t_X6_openZone_22 C a0 x1 S)
  · refine g_iload_n C dX6_openZone_4 rfl 1 rfl ?_
    refine g_iconst C (v := (4 : Int32)) dX6_openZone_5 (by decide) ?_
    refine g_icmp_ge C (tgt := 22) dX6_openZone_6 (by decide) (fun h2 => ?_) (fun h2 => ?_)
    · exact g_sub (lv2 := [(0, va_rf a0), (1, .int x1)]) [0, 1] rfl (t_X6_openZone_22 C a0 x1 S)
    · refine g_aload_n C dX6_openZone_9 rfl 0 rfl ?_
      refine g_getR C (ci := 6) (k := 11) dX6_openZone_10 rfl (by decide) (by decide) (by decide) ulX6_openZone_X6 flX6_openZone_36 rfl (fun v3 ev3 => ?_)
      refine g_iload_n C dX6_openZone_13 rfl 1 rfl ?_
      refine g_zld C dX6_openZone_14 (fun v4 ev4 => ?_)
      refine g_if_eq C (tgt := 22) dX6_openZone_15 (by decide) (fun h5 => ?_) (fun h5 => ?_)
      · exact g_sub (lv2 := [(0, va_rf a0), (1, .int x1)]) [0, 1] rfl (t_X6_openZone_22 C a0 x1 S)
      · refine g_iconst C (v := (1 : Int32)) dX6_openZone_18 (by decide) ?_
        refine g_goto C (tgt := 23) dX6_openZone_19 (by decide) ?_
        exact g_sub (lv2 := [(0, va_rf a0), (1, .int x1)]) [0, 1] rfl (t_X6_openZone_23 C a0 x1 (1 : Int32) S)
abbrev rmX6_zonesShut : Room := { frames := 0, cells := 0, slots := 0, locals := 0 }
theorem flX6_zonesShut_36 : Cond.fieldLink RX6 36 "LightLines$Show" "isZoneShut" "[Z" ∈ wsX6_zonesShut := by decide +kernel
set_option maxRecDepth 100000 in
theorem ulX6_zonesShut_X6 : ∀ w ∈ u_ws RX6 TX6 13, w ∈ wsX6_zonesShut := by decide +kernel
set_option maxHeartbeats 4000000 in
set_option maxRecDepth 100000 in
theorem t_X6_zonesShut_24 {Γ : Cx} (C : CF Γ cX6_zonesShut 3 (some .int) wsX6_zonesShut RX6 rmX6_zonesShut 0 0) (rc4 : Option Nat → Int32 → Int32 → St → Option (Int32 × St)) (hrc4 : ∀ (a0 : Option Nat) (x1 : Int32) (x2 : Int32) (S : St), G Γ cvI 3 0 0 4 [(0, va_rf a0), (1, .int x1), (2, .int x2)] [] S (rc4 a0 x1 x2 S)) (a0 : Option Nat) (x2 : Int32) (s0 : Int32) (s1 : Int32) (S : St) : G Γ cvI 3 0 0 24 [(0, va_rf a0), (2, .int x2)] [.int s1, .int s0] S (b_X6_zonesShut_24 rc4 a0 x2 s0 s1 S) := by
  unfold b_X6_zonesShut_24
  refine g_iadd C dX6_zonesShut_24 ?_
  refine g_topi (fun y1 => ?_)
  refine g_istore_n C (i := 1) (lv2 := [(1, .int y1), (0, va_rf a0), (2, .int x2)]) dX6_zonesShut_25 rfl (by decide) (by first | rfl | simp [va_rf_cat, vi_cat, vl_cat]) ?_
  refine g_iinc1 C dX6_zonesShut_26 2 rfl (by decide) (by decide) (fun y2 => ?_)
  refine g_lveq (lv2 := [(2, .int y2), (1, .int y1), (0, va_rf a0)]) (by first | rfl | simp [va_rf_cat, vi_cat, vl_cat]) ?_
  refine g_goto C (tgt := 4) dX6_zonesShut_29 (by decide) ?_
  exact g_sub (lv2 := [(0, va_rf a0), (1, .int y1), (2, .int y2)]) [2, 1, 0] rfl (hrc4 a0 y1 y2 S)
set_option maxHeartbeats 4000000 in
set_option maxRecDepth 100000 in
theorem t_X6_zonesShut_32 {Γ : Cx} (C : CF Γ cX6_zonesShut 3 (some .int) wsX6_zonesShut RX6 rmX6_zonesShut 0 0) (x1 : Int32) (S : St) : G Γ cvI 3 0 0 32 [(1, .int x1)] [] S (b_X6_zonesShut_32  x1 S) := by
  unfold b_X6_zonesShut_32
  refine g_iload_n C dX6_zonesShut_32 rfl 0 rfl ?_
  exact g_iret C dX6_zonesShut_33 ⟨by decide, by decide⟩
set_option maxHeartbeats 4000000 in
set_option maxRecDepth 100000 in
theorem t_X6_zonesShut_4 {Γ : Cx} (C : CF Γ cX6_zonesShut 3 (some .int) wsX6_zonesShut RX6 rmX6_zonesShut 0 0) : ∀ (n : Nat) (a0 : Option Nat) (x1 : Int32) (x2 : Int32) (S : St), G Γ cvI 3 0 0 4 [(0, va_rf a0), (1, .int x1), (2, .int x2)] [] S (b_X6_zonesShut_4  n a0 x1 x2 S) := by
  intro n
  induction n with
  | zero => intro a0 x1 x2 S; exact g_none
  | succ n ih =>
    intro a0 x1 x2 S
    rw [b_X6_zonesShut_4]
    refine g_iload_n C dX6_zonesShut_4 rfl 2 rfl ?_
    refine g_iconst C (v := (4 : Int32)) dX6_zonesShut_5 (by decide) ?_
    refine g_icmp_ge C (tgt := 32) dX6_zonesShut_6 (by decide) (fun h1 => ?_) (fun h1 => ?_)
    · exact g_sub (lv2 := [(1, .int x1)]) [1] rfl (t_X6_zonesShut_32 C x1 S)
    · refine g_iload_n C dX6_zonesShut_9 rfl 1 rfl ?_
      refine g_aload_n C dX6_zonesShut_10 rfl 0 rfl ?_
      refine g_getR C (ci := 6) (k := 11) dX6_zonesShut_11 rfl (by decide) (by decide) (by decide) ulX6_zonesShut_X6 flX6_zonesShut_36 rfl (fun v2 ev2 => ?_)
      refine g_iload_n C dX6_zonesShut_14 rfl 2 rfl ?_
      refine g_zld C dX6_zonesShut_15 (fun v3 ev3 => ?_)
      refine g_if_eq C (tgt := 23) dX6_zonesShut_16 (by decide) (fun h4 => ?_) (fun h4 => ?_)
      · refine g_iconst C (v := (0 : Int32)) dX6_zonesShut_23 (by decide) ?_
        exact g_sub (lv2 := [(0, va_rf a0), (2, .int x2)]) [0, 2] rfl (t_X6_zonesShut_24 C (b_X6_zonesShut_4 n) ih a0 x2 x1 (0 : Int32) S)
      · refine g_iconst C (v := (1 : Int32)) dX6_zonesShut_19 (by decide) ?_
        refine g_goto C (tgt := 24) dX6_zonesShut_20 (by decide) ?_
        exact g_sub (lv2 := [(0, va_rf a0), (2, .int x2)]) [0, 2] rfl (t_X6_zonesShut_24 C (b_X6_zonesShut_4 n) ih a0 x2 x1 (1 : Int32) S)
set_option maxHeartbeats 4000000 in
set_option maxRecDepth 100000 in
theorem m_X6_zonesShut (a0 : Option Nat) (S : St) : ∀ l D cy H0 o, f_X6_zonesShut a0 S = some o → Met l yX6_zonesShut wsX6_zonesShut rmX6_zonesShut (Pq D cy H0 [va_rf a0] S) (Qx D cy H0 (cvI o)) 0 0 (fun q => H0.size ≤ q) := by
  refine met_of (cc := cX6_zonesShut) (maxL := 3) (ret := (some .int)) [va_rf a0] [(0, va_rf a0)] (by decide) rfl rfl (by simp [lg_sl, va_rf_cat, vi_cat, vl_cat]) (by simp [lv_args, va_rf_cat, vi_cat, vl_cat]) (fun Γ C => ?_)
  unfold f_X6_zonesShut
  refine g_iconst C (v := (0 : Int32)) dX6_zonesShut_0 (by decide) ?_
  refine g_istore_n C (i := 1) (lv2 := [(1, .int (0 : Int32)), (0, va_rf a0)]) dX6_zonesShut_1 rfl (by decide) (by first | rfl | simp [va_rf_cat, vi_cat, vl_cat]) ?_
  refine g_iconst C (v := (0 : Int32)) dX6_zonesShut_2 (by decide) ?_
  refine g_istore_n C (i := 2) (lv2 := [(2, .int (0 : Int32)), (1, .int (0 : Int32)), (0, va_rf a0)]) dX6_zonesShut_3 rfl (by decide) (by first | rfl | simp [va_rf_cat, vi_cat, vl_cat]) ?_
  exact g_sub (lv2 := [(0, va_rf a0), (1, .int (0 : Int32)), (2, .int (0 : Int32))]) [2, 1, 0] rfl (t_X6_zonesShut_4 C FU a0 (0 : Int32) (0 : Int32) S)
abbrev rmX6_follow : Room := { frames := 0, cells := 0, slots := 0, locals := 0 }
theorem flX6_follow_9 : Cond.fieldLink RX6 9 "LightLines$Show" "rules" "[I" ∈ wsX6_follow := by decide +kernel
theorem flX6_follow_18 : Cond.fieldLink RX6 18 "LightLines$Show" "path" "LLightLines$Path;" ∈ wsX6_follow := by decide +kernel
theorem flX6_follow_76 : Cond.fieldLink RX6 76 "LightLines$Path" "length" "I" ∈ wsX6_follow := by decide +kernel
set_option maxRecDepth 100000 in
theorem ulX6_follow_X3 : ∀ w ∈ u_ws RX3 TX3 7, w ∈ wsX6_follow := by decide +kernel
set_option maxRecDepth 100000 in
theorem ulX6_follow_X6 : ∀ w ∈ u_ws RX6 TX6 13, w ∈ wsX6_follow := by decide +kernel
set_option maxHeartbeats 4000000 in
set_option maxRecDepth 100000 in
theorem t_X6_follow_8 {Γ : Cx} (C : CF Γ cX6_follow 6 none wsX6_follow RX6 rmX6_follow 0 0) : ∀ (n : Nat) (a0 : Option Nat) (a1 : Option Nat) (a2 : Option Nat) (x3 : Int32) (x4 : Int32) (x5 : Int32) (S : St), G Γ cvV 6 0 0 8 [(0, va_rf a0), (1, va_rf a1), (2, va_rf a2), (3, .int x3), (4, .int x4), (5, .int x5)] [] S (b_X6_follow_8  n a0 a1 a2 x3 x4 x5 S) := by
  intro n
  induction n with
  | zero => intro a0 a1 a2 x3 x4 x5 S; exact g_none
  | succ n ih =>
    intro a0 a1 a2 x3 x4 x5 S
    rw [b_X6_follow_8]
    refine g_iload C dX6_follow_8 5 rfl ?_
    refine g_aload_n C dX6_follow_10 rfl 0 rfl ?_
    refine g_getR C (ci := 6) (k := 1) dX6_follow_11 rfl (by decide) (by decide) (by decide) ulX6_follow_X6 flX6_follow_18 rfl (fun v1 ev1 => ?_)
    refine g_getI C (ci := 3) (k := 3) dX6_follow_14 rfl (by decide) (by decide) (by decide) ulX6_follow_X3 flX6_follow_76 rfl (fun v2 ev2 => ?_)
    refine g_icmp_ge C (tgt := 67) dX6_follow_17 (by decide) (fun h3 => ?_) (fun h3 => ?_)
    · exact g_vret C dX6_follow_67 ⟨by decide, by decide⟩
    · refine g_iload C dX6_follow_20 4 rfl ?_
      refine g_aload_n C dX6_follow_22 rfl 1 rfl ?_
      refine g_iload C dX6_follow_23 5 rfl ?_
      refine g_ild C dX6_follow_25 (fun v4 ev4 => ?_)
      refine g_iload_n C dX6_follow_26 rfl 3 rfl ?_
      refine g_isub C dX6_follow_27 ?_
      refine g_aload_n C dX6_follow_28 rfl 0 rfl ?_
      refine g_getR C (ci := 6) (k := 0) dX6_follow_29 rfl (by decide) (by decide) (by decide) ulX6_follow_X6 flX6_follow_9 rfl (fun v5 ev5 => ?_)
      refine g_iconst C (v := (2 : Int32)) dX6_follow_32 (by decide) ?_
      refine g_ild C dX6_follow_33 (fun v6 ev6 => ?_)
      refine g_imul C dX6_follow_34 ?_
      refine g_iload C dX6_follow_35 4 rfl ?_
      refine g_aload_n C dX6_follow_37 rfl 0 rfl ?_
      refine g_getR C (ci := 6) (k := 0) dX6_follow_38 rfl (by decide) (by decide) (by decide) ulX6_follow_X6 flX6_follow_9 rfl (fun v7 ev7 => ?_)
      refine g_iconst C (v := (3 : Int32)) dX6_follow_41 (by decide) ?_
      refine g_ild C dX6_follow_42 (fun v8 ev8 => ?_)
      refine g_imul C dX6_follow_43 ?_
      refine g_isub C dX6_follow_44 ?_
      refine g_bipush C (v := (16 : Int32)) dX6_follow_45 (by decide) ?_
      refine g_idiv C dX6_follow_47 (fun v9 ev9 => ?_)
      refine g_iadd C dX6_follow_48 ?_
      refine g_topi (fun y10 => ?_)
      refine g_istore C (i := 4) (lv2 := [(4, .int y10), (0, va_rf a0), (1, va_rf a1), (2, va_rf a2), (3, .int x3), (5, .int x5)]) dX6_follow_49 (by decide) (by first | rfl | simp [va_rf_cat, vi_cat, vl_cat]) ?_
      refine g_iload_n C dX6_follow_51 rfl 4 rfl ?_
      refine g_iload C dX6_follow_52 0 rfl ?_
      refine g_iadd C dX6_follow_54 ?_
      refine g_topi (fun y11 => ?_)
      refine g_istore_n C (i := 3) (lv2 := [(3, .int y11), (4, .int y10), (0, va_rf a0), (1, va_rf a1), (2, va_rf a2), (5, .int x5)]) dX6_follow_55 rfl (by decide) (by first | rfl | simp [va_rf_cat, vi_cat, vl_cat]) ?_
      refine g_aload_n C dX6_follow_56 rfl 4 rfl ?_
      refine g_iload C dX6_follow_57 5 rfl ?_
      refine g_iload_n C dX6_follow_59 rfl 0 rfl ?_
      refine g_ist C dX6_follow_60 (fun S12 eS12 => ?_)
      refine g_iinc1 C dX6_follow_61 5 rfl (by decide) (by decide) (fun y13 => ?_)
      refine g_lveq (lv2 := [(5, .int y13), (3, .int y11), (4, .int y10), (0, va_rf a0), (1, va_rf a1), (2, va_rf a2)]) (by first | rfl | simp [va_rf_cat, vi_cat, vl_cat]) ?_
      refine g_goto C (tgt := 8) dX6_follow_64 (by decide) ?_
      exact g_sub (lv2 := [(0, va_rf a0), (1, va_rf a1), (2, va_rf a2), (3, .int y11), (4, .int y10), (5, .int y13)]) [3, 4, 5, 1, 2, 0] rfl (ih a0 a1 a2 y11 y10 y13 S12)
set_option maxHeartbeats 4000000 in
set_option maxRecDepth 100000 in
theorem m_X6_follow (a0 : Option Nat) (a1 : Option Nat) (a2 : Option Nat) (S : St) : ∀ l D cy H0 o, f_X6_follow a0 a1 a2 S = some o → Met l yX6_follow wsX6_follow rmX6_follow (Pq D cy H0 [va_rf a0, va_rf a1, va_rf a2] S) (Qx D cy H0 (cvV o)) 0 0 (fun q => H0.size ≤ q) := by
  refine met_of (cc := cX6_follow) (maxL := 6) (ret := none) [va_rf a0, va_rf a1, va_rf a2] [(0, va_rf a0), (1, va_rf a1), (2, va_rf a2)] (by decide) rfl rfl (by simp [lg_sl, va_rf_cat, vi_cat, vl_cat]) (by simp [lv_args, va_rf_cat, vi_cat, vl_cat]) (fun Γ C => ?_)
  unfold f_X6_follow
  refine g_iconst C (v := (0 : Int32)) dX6_follow_0 (by decide) ?_
  refine g_istore_n C (i := 3) (lv2 := [(3, .int (0 : Int32)), (0, va_rf a0), (1, va_rf a1), (2, va_rf a2)]) dX6_follow_1 rfl (by decide) (by first | rfl | simp [va_rf_cat, vi_cat, vl_cat]) ?_
  refine g_iconst C (v := (0 : Int32)) dX6_follow_2 (by decide) ?_
  refine g_istore C (i := 4) (lv2 := [(4, .int (0 : Int32)), (3, .int (0 : Int32)), (0, va_rf a0), (1, va_rf a1), (2, va_rf a2)]) dX6_follow_3 (by decide) (by first | rfl | simp [va_rf_cat, vi_cat, vl_cat]) ?_
  refine g_iconst C (v := (0 : Int32)) dX6_follow_5 (by decide) ?_
  refine g_istore C (i := 5) (lv2 := [(5, .int (0 : Int32)), (4, .int (0 : Int32)), (3, .int (0 : Int32)), (0, va_rf a0), (1, va_rf a1), (2, va_rf a2)]) dX6_follow_6 (by decide) (by first | rfl | simp [va_rf_cat, vi_cat, vl_cat]) ?_
  exact g_sub (lv2 := [(0, va_rf a0), (1, va_rf a1), (2, va_rf a2), (3, .int (0 : Int32)), (4, .int (0 : Int32)), (5, .int (0 : Int32))]) [3, 4, 5, 2, 1, 0] rfl (t_X6_follow_8 C FU a0 a1 a2 (0 : Int32) (0 : Int32) (0 : Int32) S)
abbrev rmX6_burnAt : Room := { frames := 1, cells := 0, slots := 0, locals := 24 }
theorem flX6_burnAt_30 : Cond.fieldLink RX6 30 "LightLines$Show" "burns" "[[I" ∈ wsX6_burnAt := by decide +kernel
theorem flX6_burnAt_109 : Cond.fieldLink RX6 109 "LightLines$Show" "greatestBurn" "I" ∈ wsX6_burnAt := by decide +kernel
set_option maxRecDepth 100000 in
theorem ulX6_burnAt_X6 : ∀ w ∈ u_ws RX6 TX6 13, w ∈ wsX6_burnAt := by decide +kernel
set_option maxHeartbeats 4000000 in
set_option maxRecDepth 100000 in
theorem m_X6_burnAt (a0 : Option Nat) (x1 : Int32) (x2 : Int32) (S : St) : ∀ l D cy H0 o, f_X6_burnAt a0 x1 x2 S = some o → Met l yX6_burnAt wsX6_burnAt rmX6_burnAt (Pq D cy H0 [va_rf a0, .int x1, .int x2] S) (Qx D cy H0 (cvV o)) 0 0 (fun q => H0.size ≤ q) := by
  refine met_of (cc := cX6_burnAt) (maxL := 4) (ret := none) [va_rf a0, .int x1, .int x2] [(0, va_rf a0), (1, .int x1), (2, .int x2)] (by decide) rfl rfl (by simp [lg_sl, va_rf_cat, vi_cat, vl_cat]) (by simp [lv_args, va_rf_cat, vi_cat, vl_cat]) (fun Γ C => ?_)
  unfold f_X6_burnAt
  refine g_iload_n C dX6_burnAt_0 rfl 1 rfl ?_
  refine g_iconst C (v := (0 : Int32)) dX6_burnAt_1 (by decide) ?_
  refine g_sipush C (v := (1000 : Int32)) dX6_burnAt_2 (by decide) ?_
  refine g_callSN C (n := 3) (host := "LightLines") [.int x1, .int (0 : Int32), .int (1000 : Int32)] [] (m_X11_isWithin x1 (0 : Int32) (1000 : Int32) S) dX6_burnAt_5 gX6_burnAt_X11_isWithin_n79 (by decide +kernel) (by decide +kernel) (by decide +kernel) rfl ⟨rfl, rfl⟩ (by decide +kernel) ⟨by decide, by decide⟩ ⟨by decide, by decide⟩ rfl rfl (by first | exact Nat.le_of_ble_eq_true rfl | simp [va_rf_cat, vi_cat, vl_cat]) (fun o1 eo1 => ?_)
  show G Γ cvV 4 0 0 8 [(0, va_rf a0), (1, .int x1), (2, .int x2)] [.int o1.1] o1.2 _
  refine g_if_eq C (tgt := 59) dX6_burnAt_8 (by decide) (fun h2 => ?_) (fun h2 => ?_)
  · exact g_vret C dX6_burnAt_59 ⟨by decide, by decide⟩
  · refine g_iload_n C dX6_burnAt_11 rfl 2 rfl ?_
    refine g_iconst C (v := (0 : Int32)) dX6_burnAt_12 (by decide) ?_
    refine g_sipush C (v := (1000 : Int32)) dX6_burnAt_13 (by decide) ?_
    refine g_callSN C (n := 3) (host := "LightLines") [.int x2, .int (0 : Int32), .int (1000 : Int32)] [] (m_X11_isWithin x2 (0 : Int32) (1000 : Int32) o1.2) dX6_burnAt_16 gX6_burnAt_X11_isWithin_n79 (by decide +kernel) (by decide +kernel) (by decide +kernel) rfl ⟨rfl, rfl⟩ (by decide +kernel) ⟨by decide, by decide⟩ ⟨by decide, by decide⟩ rfl rfl (by first | exact Nat.le_of_ble_eq_true rfl | simp [va_rf_cat, vi_cat, vl_cat]) (fun o3 eo3 => ?_)
    show G Γ cvV 4 0 0 19 [(0, va_rf a0), (1, .int x1), (2, .int x2)] [.int o3.1] o3.2 _
    refine g_if_eq C (tgt := 59) dX6_burnAt_19 (by decide) (fun h4 => ?_) (fun h4 => ?_)
    · exact g_vret C dX6_burnAt_59 ⟨by decide, by decide⟩
    · refine g_aload_n C dX6_burnAt_22 rfl 0 rfl ?_
      refine g_getR C (ci := 6) (k := 4) dX6_burnAt_23 rfl (by decide) (by decide) (by decide) ulX6_burnAt_X6 flX6_burnAt_30 rfl (fun v5 ev5 => ?_)
      refine g_iload_n C dX6_burnAt_26 rfl 1 rfl ?_
      refine g_bipush C (v := (100 : Int32)) dX6_burnAt_27 (by decide) ?_
      refine g_idiv C dX6_burnAt_29 (fun v6 ev6 => ?_)
      refine g_ald18 C dX6_burnAt_30 (fun v7 ev7 => ?_)
      refine g_astore_n C (i := 3) (lv2 := [(3, va_rf v7), (0, va_rf a0), (1, .int x1), (2, .int x2)]) dX6_burnAt_31 rfl (by decide) (by first | rfl | simp [va_rf_cat, vi_cat, vl_cat]) ?_
      refine g_aload_n C dX6_burnAt_32 rfl 0 rfl ?_
      refine g_iload_n C dX6_burnAt_33 rfl 3 rfl ?_
      refine g_bipush C (v := (100 : Int32)) dX6_burnAt_34 (by decide) ?_
      refine g_idiv C dX6_burnAt_36 (fun v8 ev8 => ?_)
      refine g_dup2 C dX6_burnAt_37 ?_
      refine g_ild C dX6_burnAt_38 (fun v9 ev9 => ?_)
      refine g_iconst C (v := (1 : Int32)) dX6_burnAt_39 (by decide) ?_
      refine g_iadd C dX6_burnAt_40 ?_
      refine g_ist C dX6_burnAt_41 (fun S10 eS10 => ?_)
      refine g_aload_n C dX6_burnAt_42 rfl 1 rfl ?_
      refine g_aload_n C dX6_burnAt_43 rfl 1 rfl ?_
      refine g_getI C (ci := 6) (k := 9) dX6_burnAt_44 rfl (by decide) (by decide) (by decide) ulX6_burnAt_X6 flX6_burnAt_109 rfl (fun v11 ev11 => ?_)
      refine g_aload_n C dX6_burnAt_47 rfl 0 rfl ?_
      refine g_iload_n C dX6_burnAt_48 rfl 3 rfl ?_
      refine g_bipush C (v := (100 : Int32)) dX6_burnAt_49 (by decide) ?_
      refine g_idiv C dX6_burnAt_51 (fun v12 ev12 => ?_)
      refine g_ild C dX6_burnAt_52 (fun v13 ev13 => ?_)
      refine g_mmax C dX6_burnAt_53 (by decide +kernel) (by decide +kernel) (by decide +kernel) (by decide +kernel) ⟨by decide, by decide⟩ ⟨by decide, by decide⟩ (by first | exact Nat.le_of_ble_eq_true rfl | simp [va_rf_cat, vi_cat, vl_cat]) ?_
      refine g_putI C (ci := 6) (k := 9) (ty0 := tyX6) dX6_burnAt_56 rfl (by decide) (by decide) (by decide) tyX6_ok nmX6 ulX6_burnAt_X6 flX6_burnAt_109 rfl rfl ⟨rfl, rfl⟩ (fun S14 eS14 => ?_)
      exact g_vret C dX6_burnAt_59 ⟨by decide, by decide⟩
abbrev rmX6_isShut : Room := { frames := 1, cells := 0, slots := 0, locals := 22 }
theorem flX6_isShut_22 : Cond.fieldLink RX6 22 "LightLines$Show" "mirrorX" "[I" ∈ wsX6_isShut := by decide +kernel
theorem flX6_isShut_25 : Cond.fieldLink RX6 25 "LightLines$Show" "mirrorY" "[I" ∈ wsX6_isShut := by decide +kernel
theorem flX6_isShut_33 : Cond.fieldLink RX6 33 "LightLines$Show" "rims" "[[I" ∈ wsX6_isShut := by decide +kernel
theorem flX6_isShut_36 : Cond.fieldLink RX6 36 "LightLines$Show" "isZoneShut" "[Z" ∈ wsX6_isShut := by decide +kernel
set_option maxRecDepth 100000 in
theorem ulX6_isShut_X6 : ∀ w ∈ u_ws RX6 TX6 13, w ∈ wsX6_isShut := by decide +kernel
set_option maxHeartbeats 4000000 in
set_option maxRecDepth 100000 in
theorem t_X6_isShut_74 {Γ : Cx} (C : CF Γ cX6_isShut 3 (some .boolean) wsX6_isShut RX6 rmX6_isShut 0 0) (rc2 : Option Nat → Int32 → Int32 → St → Option (Int32 × St)) (hrc2 : ∀ (a0 : Option Nat) (x1 : Int32) (x2 : Int32) (S : St), G Γ cvI 3 0 0 2 [(0, va_rf a0), (1, .int x1), (2, .int x2)] [] S (rc2 a0 x1 x2 S)) (a0 : Option Nat) (x1 : Int32) (x2 : Int32) (S : St) : G Γ cvI 3 0 0 74 [(0, va_rf a0), (1, .int x1), (2, .int x2)] [] S (b_X6_isShut_74 rc2 a0 x1 x2 S) := by
  unfold b_X6_isShut_74
  refine g_iinc1 C dX6_isShut_74 2 rfl (by decide) (by decide) (fun y1 => ?_)
  refine g_lveq (lv2 := [(2, .int y1), (0, va_rf a0), (1, .int x1)]) (by first | rfl | simp [va_rf_cat, vi_cat, vl_cat]) ?_
  refine g_goto C (tgt := 2) dX6_isShut_77 (by decide) ?_
  exact g_sub (lv2 := [(0, va_rf a0), (1, .int x1), (2, .int y1)]) [1, 2, 0] rfl (hrc2 a0 x1 y1 S)
set_option maxHeartbeats 4000000 in
set_option maxRecDepth 100000 in
theorem t_X6_isShut_2 {Γ : Cx} (C : CF Γ cX6_isShut 3 (some .boolean) wsX6_isShut RX6 rmX6_isShut 0 0) : ∀ (n : Nat) (a0 : Option Nat) (x1 : Int32) (x2 : Int32) (S : St), G Γ cvI 3 0 0 2 [(0, va_rf a0), (1, .int x1), (2, .int x2)] [] S (b_X6_isShut_2  n a0 x1 x2 S) := by
  intro n
  induction n with
  | zero => intro a0 x1 x2 S; exact g_none
  | succ n ih =>
    intro a0 x1 x2 S
    rw [b_X6_isShut_2]
    refine g_iload_n C dX6_isShut_2 rfl 2 rfl ?_
    refine g_iconst C (v := (4 : Int32)) dX6_isShut_3 (by decide) ?_
    refine g_icmp_ge C (tgt := 80) dX6_isShut_4 (by decide) (fun h1 => ?_) (fun h1 => ?_)
    · refine g_iconst C (v := (0 : Int32)) dX6_isShut_80 (by decide) ?_
      exact g_zret C dX6_isShut_81 ⟨by decide, by decide⟩
    · refine g_aload_n C dX6_isShut_7 rfl 0 rfl ?_
      refine g_getR C (ci := 6) (k := 11) dX6_isShut_8 rfl (by decide) (by decide) (by decide) ulX6_isShut_X6 flX6_isShut_36 rfl (fun v2 ev2 => ?_)
      refine g_iload_n C dX6_isShut_11 rfl 2 rfl ?_
      refine g_zld C dX6_isShut_12 (fun v3 ev3 => ?_)
      refine g_if_eq C (tgt := 74) dX6_isShut_13 (by decide) (fun h4 => ?_) (fun h4 => ?_)
      · exact g_sub (lv2 := [(0, va_rf a0), (1, .int x1), (2, .int x2)]) [0, 1, 2] rfl (t_X6_isShut_74 C (b_X6_isShut_2 n) ih a0 x1 x2 S)
      · refine g_aload_n C dX6_isShut_16 rfl 0 rfl ?_
        refine g_getR C (ci := 6) (k := 2) dX6_isShut_17 rfl (by decide) (by decide) (by decide) ulX6_isShut_X6 flX6_isShut_22 rfl (fun v5 ev5 => ?_)
        refine g_iload_n C dX6_isShut_20 rfl 1 rfl ?_
        refine g_ild C dX6_isShut_21 (fun v6 ev6 => ?_)
        refine g_aload_n C dX6_isShut_22 rfl 0 rfl ?_
        refine g_getR C (ci := 6) (k := 10) dX6_isShut_23 rfl (by decide) (by decide) (by decide) ulX6_isShut_X6 flX6_isShut_33 rfl (fun v7 ev7 => ?_)
        refine g_iload_n C dX6_isShut_26 rfl 2 rfl ?_
        refine g_ald18 C dX6_isShut_27 (fun v8 ev8 => ?_)
        refine g_iconst C (v := (0 : Int32)) dX6_isShut_28 (by decide) ?_
        refine g_ild C dX6_isShut_29 (fun v9 ev9 => ?_)
        refine g_aload_n C dX6_isShut_30 rfl 0 rfl ?_
        refine g_getR C (ci := 6) (k := 10) dX6_isShut_31 rfl (by decide) (by decide) (by decide) ulX6_isShut_X6 flX6_isShut_33 rfl (fun v10 ev10 => ?_)
        refine g_iload_n C dX6_isShut_34 rfl 2 rfl ?_
        refine g_ald18 C dX6_isShut_35 (fun v11 ev11 => ?_)
        refine g_iconst C (v := (2 : Int32)) dX6_isShut_36 (by decide) ?_
        refine g_ild C dX6_isShut_37 (fun v12 ev12 => ?_)
        refine g_callSN C (n := 3) (host := "LightLines") [.int v6, .int v9, .int v12] [] (m_X11_isWithin v6 v9 v12 S) dX6_isShut_38 gX6_isShut_X11_isWithin_n79 (by decide +kernel) (by decide +kernel) (by decide +kernel) rfl ⟨rfl, rfl⟩ (by decide +kernel) ⟨by decide, by decide⟩ ⟨by decide, by decide⟩ rfl rfl (by first | exact Nat.le_of_ble_eq_true rfl | simp [va_rf_cat, vi_cat, vl_cat]) (fun o13 eo13 => ?_)
        show G Γ cvI 3 0 0 41 [(0, va_rf a0), (1, .int x1), (2, .int x2)] [.int o13.1] o13.2 _
        refine g_if_eq C (tgt := 74) dX6_isShut_41 (by decide) (fun h14 => ?_) (fun h14 => ?_)
        · exact g_sub (lv2 := [(0, va_rf a0), (1, .int x1), (2, .int x2)]) [0, 1, 2] rfl (t_X6_isShut_74 C (b_X6_isShut_2 n) ih a0 x1 x2 o13.2)
        · refine g_aload_n C dX6_isShut_44 rfl 0 rfl ?_
          refine g_getR C (ci := 6) (k := 3) dX6_isShut_45 rfl (by decide) (by decide) (by decide) ulX6_isShut_X6 flX6_isShut_25 rfl (fun v15 ev15 => ?_)
          refine g_iload_n C dX6_isShut_48 rfl 1 rfl ?_
          refine g_ild C dX6_isShut_49 (fun v16 ev16 => ?_)
          refine g_aload_n C dX6_isShut_50 rfl 0 rfl ?_
          refine g_getR C (ci := 6) (k := 10) dX6_isShut_51 rfl (by decide) (by decide) (by decide) ulX6_isShut_X6 flX6_isShut_33 rfl (fun v17 ev17 => ?_)
          refine g_iload_n C dX6_isShut_54 rfl 2 rfl ?_
          refine g_ald18 C dX6_isShut_55 (fun v18 ev18 => ?_)
          refine g_iconst C (v := (1 : Int32)) dX6_isShut_56 (by decide) ?_
          refine g_ild C dX6_isShut_57 (fun v19 ev19 => ?_)
          refine g_aload_n C dX6_isShut_58 rfl 0 rfl ?_
          refine g_getR C (ci := 6) (k := 10) dX6_isShut_59 rfl (by decide) (by decide) (by decide) ulX6_isShut_X6 flX6_isShut_33 rfl (fun v20 ev20 => ?_)
          refine g_iload_n C dX6_isShut_62 rfl 2 rfl ?_
          refine g_ald18 C dX6_isShut_63 (fun v21 ev21 => ?_)
          refine g_iconst C (v := (3 : Int32)) dX6_isShut_64 (by decide) ?_
          refine g_ild C dX6_isShut_65 (fun v22 ev22 => ?_)
          refine g_callSN C (n := 3) (host := "LightLines") [.int v16, .int v19, .int v22] [] (m_X11_isWithin v16 v19 v22 o13.2) dX6_isShut_66 gX6_isShut_X11_isWithin_n79 (by decide +kernel) (by decide +kernel) (by decide +kernel) rfl ⟨rfl, rfl⟩ (by decide +kernel) ⟨by decide, by decide⟩ ⟨by decide, by decide⟩ rfl rfl (by first | exact Nat.le_of_ble_eq_true rfl | simp [va_rf_cat, vi_cat, vl_cat]) (fun o23 eo23 => ?_)
          show G Γ cvI 3 0 0 69 [(0, va_rf a0), (1, .int x1), (2, .int x2)] [.int o23.1] o23.2 _
          refine g_if_eq C (tgt := 74) dX6_isShut_69 (by decide) (fun h24 => ?_) (fun h24 => ?_)
          · exact g_sub (lv2 := [(0, va_rf a0), (1, .int x1), (2, .int x2)]) [0, 1, 2] rfl (t_X6_isShut_74 C (b_X6_isShut_2 n) ih a0 x1 x2 o23.2)
          · refine g_iconst C (v := (1 : Int32)) dX6_isShut_72 (by decide) ?_
            exact g_zret C dX6_isShut_73 ⟨by decide, by decide⟩
set_option maxHeartbeats 4000000 in
set_option maxRecDepth 100000 in
theorem m_X6_isShut (a0 : Option Nat) (x1 : Int32) (S : St) : ∀ l D cy H0 o, f_X6_isShut a0 x1 S = some o → Met l yX6_isShut wsX6_isShut rmX6_isShut (Pq D cy H0 [va_rf a0, .int x1] S) (Qx D cy H0 (cvI o)) 0 0 (fun q => H0.size ≤ q) := by
  refine met_of (cc := cX6_isShut) (maxL := 3) (ret := (some .boolean)) [va_rf a0, .int x1] [(0, va_rf a0), (1, .int x1)] (by decide) rfl rfl (by simp [lg_sl, va_rf_cat, vi_cat, vl_cat]) (by simp [lv_args, va_rf_cat, vi_cat, vl_cat]) (fun Γ C => ?_)
  unfold f_X6_isShut
  refine g_iconst C (v := (0 : Int32)) dX6_isShut_0 (by decide) ?_
  refine g_istore_n C (i := 2) (lv2 := [(2, .int (0 : Int32)), (0, va_rf a0), (1, .int x1)]) dX6_isShut_1 rfl (by decide) (by first | rfl | simp [va_rf_cat, vi_cat, vl_cat]) ?_
  exact g_sub (lv2 := [(0, va_rf a0), (1, .int x1), (2, .int (0 : Int32))]) [1, 2, 0] rfl (t_X6_isShut_2 C FU a0 x1 (0 : Int32) S)
