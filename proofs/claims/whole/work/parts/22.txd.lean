abbrev rmX3_moveTo : Room := { frames := 2, cells := 0, slots := 0, locals := 47 }
theorem flX3_moveTo_24 : Cond.fieldLink RX3 24 "LightLines$Path" "isOver" "Z" ∈ wsX3_moveTo := by decide +kernel
theorem flX3_moveTo_28 : Cond.fieldLink RX3 28 "LightLines$Path" "atX" "I" ∈ wsX3_moveTo := by decide +kernel
theorem flX3_moveTo_31 : Cond.fieldLink RX3 31 "LightLines$Path" "atY" "I" ∈ wsX3_moveTo := by decide +kernel
set_option maxRecDepth 100000 in
theorem ulX3_moveTo_X3 : ∀ w ∈ u_ws RX3 TX3 7, w ∈ wsX3_moveTo := by decide +kernel
set_option maxHeartbeats 4000000 in
set_option maxRecDepth 100000 in
theorem t_X3_moveTo_45 {Γ : Cx} (C : CF Γ cX3_moveTo 10 none wsX3_moveTo RX3 rmX3_moveTo 0 0) : ∀ (n : Nat) (a0 : Option Nat) (x1 : Int32) (x2 : Int32) (x4 : Int32) (x5 : Int32) (x6 : Int32) (x8 : Int32) (x9 : Int32) (S : St), G Γ cvV 10 0 0 45 [(0, va_rf a0), (1, .int x1), (2, .int x2), (4, .int x4), (5, .int x5), (6, .int x6), (8, .int x8), (9, .int x9)] [] S (b_X3_moveTo_45  n a0 x1 x2 x4 x5 x6 x8 x9 S) := by
  intro n
  induction n with
  | zero => intro a0 x1 x2 x4 x5 x6 x8 x9 S; exact g_none
  | succ n ih =>
    intro a0 x1 x2 x4 x5 x6 x8 x9 S
    rw [b_X3_moveTo_45]
    refine g_iload C dX3_moveTo_45 7 rfl ?_
    refine g_iload C dX3_moveTo_47 6 rfl ?_
    refine g_icmp_gt C (tgt := 106) dX3_moveTo_49 (by decide) (fun h1 => ?_) (fun h1 => ?_)
    · exact g_vret C dX3_moveTo_106 ⟨by decide, by decide⟩
    · refine g_aload_n C dX3_moveTo_52 rfl 0 rfl ?_
      refine g_getI C (ci := 3) (k := 4) dX3_moveTo_53 rfl (by decide) (by decide) (by decide) ulX3_moveTo_X3 flX3_moveTo_24 rfl (fun v2 ev2 => ?_)
      refine g_if_ne C (tgt := 106) dX3_moveTo_56 (by decide) (fun h3 => ?_) (fun h3 => ?_)
      · refine g_aload_n C dX3_moveTo_59 rfl 0 rfl ?_
        refine g_iload C dX3_moveTo_60 4 rfl ?_
        refine g_iload_n C dX3_moveTo_62 rfl 1 rfl ?_
        refine g_iload C dX3_moveTo_63 4 rfl ?_
        refine g_isub C dX3_moveTo_65 ?_
        refine g_iload C dX3_moveTo_66 7 rfl ?_
        refine g_imul C dX3_moveTo_68 ?_
        refine g_iload C dX3_moveTo_69 6 rfl ?_
        refine g_idiv C dX3_moveTo_71 (fun v4 ev4 => ?_)
        refine g_iadd C dX3_moveTo_72 ?_
        refine g_putI C (ci := 3) (k := 5) (ty0 := tyX3) dX3_moveTo_73 rfl (by decide) (by decide) (by decide) tyX3_ok nmX3 ulX3_moveTo_X3 flX3_moveTo_28 rfl rfl ⟨rfl, rfl⟩ (fun S5 eS5 => ?_)
        refine g_aload_n C dX3_moveTo_76 rfl 0 rfl ?_
        refine g_iload C dX3_moveTo_77 5 rfl ?_
        refine g_iload_n C dX3_moveTo_79 rfl 2 rfl ?_
        refine g_iload C dX3_moveTo_80 5 rfl ?_
        refine g_isub C dX3_moveTo_82 ?_
        refine g_iload C dX3_moveTo_83 7 rfl ?_
        refine g_imul C dX3_moveTo_85 ?_
        refine g_iload C dX3_moveTo_86 6 rfl ?_
        refine g_idiv C dX3_moveTo_88 (fun v6 ev6 => ?_)
        refine g_iadd C dX3_moveTo_89 ?_
        refine g_putI C (ci := 3) (k := 6) (ty0 := tyX3) dX3_moveTo_90 rfl (by decide) (by decide) (by decide) tyX3_ok nmX3 ulX3_moveTo_X3 flX3_moveTo_31 rfl rfl ⟨rfl, rfl⟩ (fun S7 eS7 => ?_)
        refine g_aload_n C dX3_moveTo_93 rfl 0 rfl ?_
        refine g_iconst C (v := (1 : Int32)) dX3_moveTo_94 (by decide) ?_
        refine g_iload C dX3_moveTo_95 3 rfl ?_
        refine g_callV C (n := 2) (ci := 3) [.int (1 : Int32), .int x4] [] (m_X3_stay a0 (1 : Int32) x4 S7) dX3_moveTo_97 gX3_moveTo_X3_stay rfl ⟨rfl, rfl⟩ (by decide +kernel) ⟨by decide, by decide⟩ ⟨by decide, by decide⟩ rfl (by decide) rfl rfl (by first | exact Nat.le_of_ble_eq_true rfl | simp [va_rf_cat, vi_cat, vl_cat]) (fun o8 eo8 => ?_)
        show G Γ cvV 10 0 0 100 [(0, va_rf a0), (1, .int x1), (2, .int x2), (4, .int x4), (5, .int x5), (6, .int x6), (8, .int x8), (9, .int x9)] [] o8 _
        refine g_iinc1 C dX3_moveTo_100 7 rfl (by decide) (by decide) (fun y9 => ?_)
        refine g_lveq (lv2 := [(9, .int y9), (0, va_rf a0), (1, .int x1), (2, .int x2), (4, .int x4), (5, .int x5), (6, .int x6), (8, .int x8)]) (by first | rfl | simp [va_rf_cat, vi_cat, vl_cat]) ?_
        refine g_goto C (tgt := 45) dX3_moveTo_103 (by decide) ?_
        exact g_sub (lv2 := [(0, va_rf a0), (1, .int x1), (2, .int x2), (4, .int x4), (5, .int x5), (6, .int x6), (8, .int x8), (9, .int y9)]) [1, 2, 3, 4, 5, 6, 7, 0] rfl (ih a0 x1 x2 x4 x5 x6 x8 y9 o8)
      · exact g_vret C dX3_moveTo_106 ⟨by decide, by decide⟩
set_option maxHeartbeats 4000000 in
set_option maxRecDepth 100000 in
theorem t_X3_moveTo_40 {Γ : Cx} (C : CF Γ cX3_moveTo 10 none wsX3_moveTo RX3 rmX3_moveTo 0 0) (a0 : Option Nat) (x1 : Int32) (x2 : Int32) (x4 : Int32) (x5 : Int32) (x6 : Int32) (s0 : Int32) (S : St) : G Γ cvV 10 0 0 40 [(0, va_rf a0), (1, .int x1), (2, .int x2), (4, .int x4), (5, .int x5), (6, .int x6)] [.int s0] S (b_X3_moveTo_40  a0 x1 x2 x4 x5 x6 s0 S) := by
  unfold b_X3_moveTo_40
  refine g_istore C (i := 8) (lv2 := [(8, .int s0), (0, va_rf a0), (1, .int x1), (2, .int x2), (4, .int x4), (5, .int x5), (6, .int x6)]) dX3_moveTo_40 (by decide) (by first | rfl | simp [va_rf_cat, vi_cat, vl_cat]) ?_
  refine g_iconst C (v := (1 : Int32)) dX3_moveTo_42 (by decide) ?_
  refine g_istore C (i := 9) (lv2 := [(9, .int (1 : Int32)), (8, .int s0), (0, va_rf a0), (1, .int x1), (2, .int x2), (4, .int x4), (5, .int x5), (6, .int x6)]) dX3_moveTo_43 (by decide) (by first | rfl | simp [va_rf_cat, vi_cat, vl_cat]) ?_
  exact g_sub (lv2 := [(0, va_rf a0), (1, .int x1), (2, .int x2), (4, .int x4), (5, .int x5), (6, .int x6), (8, .int s0), (9, .int (1 : Int32))]) [2, 3, 4, 5, 6, 7, 1, 0] rfl (t_X3_moveTo_45 C FU a0 x1 x2 x4 x5 x6 s0 (1 : Int32) S)
set_option maxHeartbeats 4000000 in
set_option maxRecDepth 100000 in
theorem m_X3_moveTo (a0 : Option Nat) (x1 : Int32) (x2 : Int32) (x3 : Int32) (x4 : Int32) (S : St) : ∀ l D cy H0 o, f_X3_moveTo a0 x1 x2 x3 x4 S = some o → Met l yX3_moveTo wsX3_moveTo rmX3_moveTo (Pq D cy H0 [va_rf a0, .int x1, .int x2, .int x3, .int x4] S) (Qx D cy H0 (cvV o)) 0 0 (fun q => H0.size ≤ q) := by
  refine met_of (cc := cX3_moveTo) (maxL := 10) (ret := none) [va_rf a0, .int x1, .int x2, .int x3, .int x4] [(0, va_rf a0), (1, .int x1), (2, .int x2), (3, .int x3), (4, .int x4)] (by decide) rfl rfl (by simp [lg_sl, va_rf_cat, vi_cat, vl_cat]) (by simp [lv_args, va_rf_cat, vi_cat, vl_cat]) (fun Γ C => ?_)
  unfold f_X3_moveTo
  refine g_aload_n C dX3_moveTo_0 rfl 0 rfl ?_
  refine g_getI C (ci := 3) (k := 5) dX3_moveTo_1 rfl (by decide) (by decide) (by decide) ulX3_moveTo_X3 flX3_moveTo_28 rfl (fun v1 ev1 => ?_)
  refine g_istore C (i := 5) (lv2 := [(5, .int v1), (0, va_rf a0), (1, .int x1), (2, .int x2), (3, .int x3), (4, .int x4)]) dX3_moveTo_4 (by decide) (by first | rfl | simp [va_rf_cat, vi_cat, vl_cat]) ?_
  refine g_aload_n C dX3_moveTo_6 rfl 1 rfl ?_
  refine g_getI C (ci := 3) (k := 6) dX3_moveTo_7 rfl (by decide) (by decide) (by decide) ulX3_moveTo_X3 flX3_moveTo_31 rfl (fun v2 ev2 => ?_)
  refine g_istore C (i := 6) (lv2 := [(6, .int v2), (5, .int v1), (0, va_rf a0), (1, .int x1), (2, .int x2), (3, .int x3), (4, .int x4)]) dX3_moveTo_10 (by decide) (by first | rfl | simp [va_rf_cat, vi_cat, vl_cat]) ?_
  refine g_iload C dX3_moveTo_12 1 rfl ?_
  refine g_iload C dX3_moveTo_14 0 rfl ?_
  refine g_iload_n C dX3_moveTo_16 rfl 3 rfl ?_
  refine g_iload_n C dX3_moveTo_17 rfl 4 rfl ?_
  refine g_callSN C (n := 4) (host := "LightLines") [.int v1, .int v2, .int x1, .int x2] [] (m_X11_way v1 v2 x1 x2 S) dX3_moveTo_18 gX3_moveTo_X11_way_n82 (by decide +kernel) (by decide +kernel) (by decide +kernel) rfl ⟨rfl, rfl⟩ (by decide +kernel) ⟨by decide, by decide⟩ ⟨by decide, by decide⟩ rfl rfl (by first | exact Nat.le_of_ble_eq_true rfl | simp [va_rf_cat, vi_cat, vl_cat]) (fun o3 eo3 => ?_)
  show G Γ cvV 10 0 0 21 [(6, .int v2), (5, .int v1), (0, va_rf a0), (1, .int x1), (2, .int x2), (3, .int x3), (4, .int x4)] [.int o3.1] o3.2 _
  refine g_istore C (i := 7) (lv2 := [(7, .int o3.1), (6, .int v2), (5, .int v1), (0, va_rf a0), (1, .int x1), (2, .int x2), (3, .int x3), (4, .int x4)]) dX3_moveTo_21 (by decide) (by first | rfl | simp [va_rf_cat, vi_cat, vl_cat]) ?_
  refine g_iload_n C dX3_moveTo_23 rfl 6 rfl ?_
  refine g_iconst C (v := (1 : Int32)) dX3_moveTo_24 (by decide) ?_
  refine g_icmp_ge C (tgt := 32) dX3_moveTo_25 (by decide) (fun h4 => ?_) (fun h4 => ?_)
  · refine g_iload C dX3_moveTo_32 0 rfl ?_
    refine g_iload_n C dX3_moveTo_34 rfl 6 rfl ?_
    refine g_iadd C dX3_moveTo_35 ?_
    refine g_iconst C (v := (1 : Int32)) dX3_moveTo_36 (by decide) ?_
    refine g_isub C dX3_moveTo_37 ?_
    refine g_iload_n C dX3_moveTo_38 rfl 6 rfl ?_
    refine g_idiv C dX3_moveTo_39 (fun v5 ev5 => ?_)
    exact g_sub (lv2 := [(0, va_rf a0), (1, .int x1), (2, .int x2), (4, .int x4), (5, .int v1), (6, .int v2)]) [3, 4, 5, 7, 2, 1] rfl (t_X3_moveTo_40 C a0 x1 x2 x4 v1 v2 v5 o3.2)
  · refine g_iconst C (v := (0 : Int32)) dX3_moveTo_28 (by decide) ?_
    refine g_goto C (tgt := 40) dX3_moveTo_29 (by decide) ?_
    exact g_sub (lv2 := [(0, va_rf a0), (1, .int x1), (2, .int x2), (4, .int x4), (5, .int v1), (6, .int v2)]) [3, 4, 5, 7, 2, 1] rfl (t_X3_moveTo_40 C a0 x1 x2 x4 v1 v2 (0 : Int32) o3.2)
abbrev rmX3_drawOne : Room := { frames := 3, cells := 0, slots := 0, locals := 76 }
set_option maxHeartbeats 4000000 in
set_option maxRecDepth 100000 in
theorem t_X3_drawOne_101 {Γ : Cx} (C : CF Γ cX3_drawOne 8 none wsX3_drawOne RX3 rmX3_drawOne 0 0) (rc42 : Option Nat → Option Nat → Int32 → Int32 → Int32 → Int32 → St → Option (St)) (hrc42 : ∀ (a0 : Option Nat) (a1 : Option Nat) (x2 : Int32) (x3 : Int32) (x4 : Int32) (x6 : Int32) (S : St), G Γ cvV 8 0 0 42 [(0, va_rf a0), (1, va_rf a1), (2, .int x2), (3, .int x3), (4, .int x4), (6, .int x6)] [] S (rc42 a0 a1 x2 x3 x4 x6 S)) (a0 : Option Nat) (a1 : Option Nat) (x2 : Int32) (x3 : Int32) (x4 : Int32) (x6 : Int32) (S : St) : G Γ cvV 8 0 0 101 [(0, va_rf a0), (1, va_rf a1), (2, .int x2), (3, .int x3), (4, .int x4), (6, .int x6)] [] S (b_X3_drawOne_101 rc42 a0 a1 x2 x3 x4 x6 S) := by
  unfold b_X3_drawOne_101
  refine g_iinc1 C dX3_drawOne_101 5 rfl (by decide) (by decide) (fun y1 => ?_)
  refine g_lveq (lv2 := [(6, .int y1), (0, va_rf a0), (1, va_rf a1), (2, .int x2), (3, .int x3), (4, .int x4)]) (by first | rfl | simp [va_rf_cat, vi_cat, vl_cat]) ?_
  refine g_goto C (tgt := 42) dX3_drawOne_104 (by decide) ?_
  exact g_sub (lv2 := [(0, va_rf a0), (1, va_rf a1), (2, .int x2), (3, .int x3), (4, .int x4), (6, .int y1)]) [1, 2, 3, 4, 5, 0] rfl (hrc42 a0 a1 x2 x3 x4 y1 S)
set_option maxHeartbeats 4000000 in
set_option maxRecDepth 100000 in
theorem t_X3_drawOne_107 {Γ : Cx} (C : CF Γ cX3_drawOne 8 none wsX3_drawOne RX3 rmX3_drawOne 0 0) (a0 : Option Nat) (x4 : Int32) (S : St) : G Γ cvV 8 0 0 107 [(0, va_rf a0), (4, .int x4)] [] S (b_X3_drawOne_107  a0 x4 S) := by
  unfold b_X3_drawOne_107
  refine g_aload_n C dX3_drawOne_107 rfl 0 rfl ?_
  refine g_iload C dX3_drawOne_108 1 rfl ?_
  refine g_iconst C (v := (0 : Int32)) dX3_drawOne_110 (by decide) ?_
  refine g_callV C (n := 2) (ci := 3) [.int x4, .int (0 : Int32)] [] (m_X3_stay a0 x4 (0 : Int32) S) dX3_drawOne_111 gX3_drawOne_X3_stay rfl ⟨rfl, rfl⟩ (by decide +kernel) ⟨by decide, by decide⟩ ⟨by decide, by decide⟩ rfl (by decide) rfl rfl (by first | exact Nat.le_of_ble_eq_true rfl | simp [va_rf_cat, vi_cat, vl_cat]) (fun o1 eo1 => ?_)
  show G Γ cvV 8 0 0 114 [(0, va_rf a0), (4, .int x4)] [] o1 _
  exact g_vret C dX3_drawOne_114 ⟨by decide, by decide⟩
set_option maxHeartbeats 4000000 in
set_option maxRecDepth 100000 in
theorem t_X3_drawOne_42 {Γ : Cx} (C : CF Γ cX3_drawOne 8 none wsX3_drawOne RX3 rmX3_drawOne 0 0) : ∀ (n : Nat) (a0 : Option Nat) (a1 : Option Nat) (x2 : Int32) (x3 : Int32) (x4 : Int32) (x6 : Int32) (S : St), G Γ cvV 8 0 0 42 [(0, va_rf a0), (1, va_rf a1), (2, .int x2), (3, .int x3), (4, .int x4), (6, .int x6)] [] S (b_X3_drawOne_42  n a0 a1 x2 x3 x4 x6 S) := by
  intro n
  induction n with
  | zero => intro a0 a1 x2 x3 x4 x6 S; exact g_none
  | succ n ih =>
    intro a0 a1 x2 x3 x4 x6 S
    rw [b_X3_drawOne_42]
    refine g_iload C dX3_drawOne_42 5 rfl ?_
    refine g_aload_n C dX3_drawOne_44 rfl 1 rfl ?_
    refine g_call3 C (n := 0) [] [.int x6] (m_X8_points a1 S) (m_X8_points a1 S) (m_X8_points a1 S) dX3_drawOne_45 (fun R s args ht hR => va_cwU 0 ht gX3_drawOne_X8_points_u74X1 rfl rfl rfl rfl (by decide +kernel) (by subst hR; exact ⟨by decide, by decide⟩)) (fun R s args ht hR => va_cwU 0 ht gX3_drawOne_X8_points_u74X2 rfl rfl rfl rfl (by decide +kernel) (by subst hR; exact ⟨by decide, by decide⟩)) (fun R s args ht hR => va_cwU 0 ht gX3_drawOne_X8_points_u74X7 rfl rfl rfl rfl (by decide +kernel) (by subst hR; exact ⟨by decide, by decide⟩)) ⟨by decide, by decide⟩ rfl rfl (by first | exact Nat.le_of_ble_eq_true rfl | simp [va_rf_cat, vi_cat, vl_cat]) (fun o1 eo1 => ?_)
    show G Γ cvV 8 0 0 48 [(0, va_rf a0), (1, va_rf a1), (2, .int x2), (3, .int x3), (4, .int x4), (6, .int x6)] [.int o1.1, .int x6] o1.2 _
    refine g_icmp_ge C (tgt := 107) dX3_drawOne_48 (by decide) (fun h2 => ?_) (fun h2 => ?_)
    · exact g_sub (lv2 := [(0, va_rf a0), (4, .int x4)]) [0, 4] rfl (t_X3_drawOne_107 C a0 x4 o1.2)
    · refine g_aload_n C dX3_drawOne_51 rfl 1 rfl ?_
      refine g_iload C dX3_drawOne_52 5 rfl ?_
      refine g_iload_n C dX3_drawOne_54 rfl 2 rfl ?_
      refine g_call3 C (n := 2) [.int x6, .int x2] [] (m_X8_gone a1 x6 x2 o1.2) (m_X8_gone a1 x6 x2 o1.2) (m_X8_gone a1 x6 x2 o1.2) dX3_drawOne_55 (fun R s args ht hR => va_cwU 2 ht gX3_drawOne_X8_gone_u57X1 rfl rfl rfl rfl (by decide +kernel) (by subst hR; exact ⟨by decide, by decide⟩)) (fun R s args ht hR => va_cwU 2 ht gX3_drawOne_X8_gone_u57X2 rfl rfl rfl rfl (by decide +kernel) (by subst hR; exact ⟨by decide, by decide⟩)) (fun R s args ht hR => va_cwU 2 ht gX3_drawOne_X8_gone_u57X7 rfl rfl rfl rfl (by decide +kernel) (by subst hR; exact ⟨by decide, by decide⟩)) ⟨by decide, by decide⟩ rfl rfl (by first | exact Nat.le_of_ble_eq_true rfl | simp [va_rf_cat, vi_cat, vl_cat]) (fun o3 eo3 => ?_)
      show G Γ cvV 8 0 0 58 [(0, va_rf a0), (1, va_rf a1), (2, .int x2), (3, .int x3), (4, .int x4), (6, .int x6)] [.int o3.1] o3.2 _
      refine g_istore C (i := 7) (lv2 := [(7, .int o3.1), (0, va_rf a0), (1, va_rf a1), (2, .int x2), (3, .int x3), (4, .int x4), (6, .int x6)]) dX3_drawOne_58 (by decide) (by first | rfl | simp [va_rf_cat, vi_cat, vl_cat]) ?_
      refine g_aload_n C dX3_drawOne_60 rfl 1 rfl ?_
      refine g_aload_n C dX3_drawOne_61 rfl 2 rfl ?_
      refine g_iload C dX3_drawOne_62 0 rfl ?_
      refine g_call3 C (n := 1) [.int o3.1] [va_rf a0] (m_X8_xAt a1 o3.1 o3.2) (m_X8_xAt a1 o3.1 o3.2) (m_X8_xAt a1 o3.1 o3.2) dX3_drawOne_64 (fun R s args ht hR => va_cwU 1 ht gX3_drawOne_X8_xAt_u63X1 rfl rfl rfl rfl (by decide +kernel) (by subst hR; exact ⟨by decide, by decide⟩)) (fun R s args ht hR => va_cwU 1 ht gX3_drawOne_X8_xAt_u63X2 rfl rfl rfl rfl (by decide +kernel) (by subst hR; exact ⟨by decide, by decide⟩)) (fun R s args ht hR => va_cwU 1 ht gX3_drawOne_X8_xAt_u63X7 rfl rfl rfl rfl (by decide +kernel) (by subst hR; exact ⟨by decide, by decide⟩)) ⟨by decide, by decide⟩ rfl rfl (by first | exact Nat.le_of_ble_eq_true rfl | simp [va_rf_cat, vi_cat, vl_cat]) (fun o4 eo4 => ?_)
      show G Γ cvV 8 0 0 67 [(7, .int o3.1), (0, va_rf a0), (1, va_rf a1), (2, .int x2), (3, .int x3), (4, .int x4), (6, .int x6)] [.int o4.1, va_rf a0] o4.2 _
      refine g_aload_n C dX3_drawOne_67 rfl 2 rfl ?_
      refine g_iload C dX3_drawOne_68 0 rfl ?_
      refine g_call3 C (n := 1) [.int o3.1] [.int o4.1, va_rf a0] (m_X8_yAt a1 o3.1 o4.2) (m_X8_yAt a1 o3.1 o4.2) (m_X8_yAt a1 o3.1 o4.2) dX3_drawOne_70 (fun R s args ht hR => va_cwU 1 ht gX3_drawOne_X8_yAt_u67X1 rfl rfl rfl rfl (by decide +kernel) (by subst hR; exact ⟨by decide, by decide⟩)) (fun R s args ht hR => va_cwU 1 ht gX3_drawOne_X8_yAt_u67X2 rfl rfl rfl rfl (by decide +kernel) (by subst hR; exact ⟨by decide, by decide⟩)) (fun R s args ht hR => va_cwU 1 ht gX3_drawOne_X8_yAt_u67X7 rfl rfl rfl rfl (by decide +kernel) (by subst hR; exact ⟨by decide, by decide⟩)) ⟨by decide, by decide⟩ rfl rfl (by first | exact Nat.le_of_ble_eq_true rfl | simp [va_rf_cat, vi_cat, vl_cat]) (fun o5 eo5 => ?_)
      show G Γ cvV 8 0 0 73 [(7, .int o3.1), (0, va_rf a0), (1, va_rf a1), (2, .int x2), (3, .int x3), (4, .int x4), (6, .int x6)] [.int o5.1, .int o4.1, va_rf a0] o5.2 _
      refine g_iload_n C dX3_drawOne_73 rfl 4 rfl ?_
      refine g_iconst C (v := (1 : Int32)) dX3_drawOne_74 (by decide) ?_
      refine g_callV C (n := 4) (ci := 3) [.int o4.1, .int o5.1, .int x3, .int (1 : Int32)] [] (m_X3_moveTo a0 o4.1 o5.1 x3 (1 : Int32) o5.2) dX3_drawOne_75 gX3_drawOne_X3_moveTo rfl ⟨rfl, rfl⟩ (by decide +kernel) ⟨by decide, by decide⟩ ⟨by decide, by decide⟩ rfl (by decide) rfl rfl (by first | exact Nat.le_of_ble_eq_true rfl | simp [va_rf_cat, vi_cat, vl_cat]) (fun o6 eo6 => ?_)
      show G Γ cvV 8 0 0 78 [(7, .int o3.1), (0, va_rf a0), (1, va_rf a1), (2, .int x2), (3, .int x3), (4, .int x4), (6, .int x6)] [] o6 _
      refine g_iload C dX3_drawOne_78 6 rfl ?_
      refine g_aload_n C dX3_drawOne_80 rfl 2 rfl ?_
      refine g_call3 C (n := 0) [] [.int x6] (m_X8_points a1 o6) (m_X8_points a1 o6) (m_X8_points a1 o6) dX3_drawOne_81 (fun R s args ht hR => va_cwU 0 ht gX3_drawOne_X8_points_u74X1 rfl rfl rfl rfl (by decide +kernel) (by subst hR; exact ⟨by decide, by decide⟩)) (fun R s args ht hR => va_cwU 0 ht gX3_drawOne_X8_points_u74X2 rfl rfl rfl rfl (by decide +kernel) (by subst hR; exact ⟨by decide, by decide⟩)) (fun R s args ht hR => va_cwU 0 ht gX3_drawOne_X8_points_u74X7 rfl rfl rfl rfl (by decide +kernel) (by subst hR; exact ⟨by decide, by decide⟩)) ⟨by decide, by decide⟩ rfl rfl (by first | exact Nat.le_of_ble_eq_true rfl | simp [va_rf_cat, vi_cat, vl_cat]) (fun o7 eo7 => ?_)
      show G Γ cvV 8 0 0 84 [(7, .int o3.1), (0, va_rf a0), (1, va_rf a1), (2, .int x2), (3, .int x3), (4, .int x4), (6, .int x6)] [.int o7.1, .int x6] o7.2 _
      refine g_iconst C (v := (1 : Int32)) dX3_drawOne_84 (by decide) ?_
      refine g_isub C dX3_drawOne_85 ?_
      refine g_icmp_ge C (tgt := 101) dX3_drawOne_86 (by decide) (fun h8 => ?_) (fun h8 => ?_)
      · exact g_sub (lv2 := [(0, va_rf a0), (1, va_rf a1), (2, .int x2), (3, .int x3), (4, .int x4), (6, .int x6)]) [1, 2, 3, 4, 5, 6] rfl (t_X3_drawOne_101 C (b_X3_drawOne_42 n) ih a0 a1 x2 x3 x4 x6 o7.2)
      · refine g_aload_n C dX3_drawOne_89 rfl 1 rfl ?_
        refine g_aload_n C dX3_drawOne_90 rfl 2 rfl ?_
        refine g_iload C dX3_drawOne_91 6 rfl ?_
        refine g_iload_n C dX3_drawOne_93 rfl 3 rfl ?_
        refine g_callS C (n := 3) [va_rf a1, .int x6, .int x2] [va_rf a0] (m_X3_holdsAt a1 x6 x2 o7.2) dX3_drawOne_94 gX3_drawOne_X3_holdsAt rfl ⟨rfl, rfl⟩ (by decide +kernel) ⟨by decide, by decide⟩ ⟨by decide, by decide⟩ rfl rfl (by first | exact Nat.le_of_ble_eq_true rfl | simp [va_rf_cat, vi_cat, vl_cat]) (fun o9 eo9 => ?_)
        show G Γ cvV 8 0 0 97 [(7, .int o3.1), (0, va_rf a0), (1, va_rf a1), (2, .int x2), (3, .int x3), (4, .int x4), (6, .int x6)] [.int o9.1, va_rf a0] o9.2 _
        refine g_iconst C (v := (1 : Int32)) dX3_drawOne_97 (by decide) ?_
        refine g_callV C (n := 2) (ci := 3) [.int o9.1, .int (1 : Int32)] [] (m_X3_stay a0 o9.1 (1 : Int32) o9.2) dX3_drawOne_98 gX3_drawOne_X3_stay rfl ⟨rfl, rfl⟩ (by decide +kernel) ⟨by decide, by decide⟩ ⟨by decide, by decide⟩ rfl (by decide) rfl rfl (by first | exact Nat.le_of_ble_eq_true rfl | simp [va_rf_cat, vi_cat, vl_cat]) (fun o10 eo10 => ?_)
        show G Γ cvV 8 0 0 101 [(7, .int o3.1), (0, va_rf a0), (1, va_rf a1), (2, .int x2), (3, .int x3), (4, .int x4), (6, .int x6)] [] o10 _
        exact g_sub (lv2 := [(0, va_rf a0), (1, va_rf a1), (2, .int x2), (3, .int x3), (4, .int x4), (6, .int x6)]) [1, 2, 3, 4, 5, 6] rfl (t_X3_drawOne_101 C (b_X3_drawOne_42 n) ih a0 a1 x2 x3 x4 x6 o10)
set_option maxHeartbeats 4000000 in
set_option maxRecDepth 100000 in
theorem m_X3_drawOne (a0 : Option Nat) (a1 : Option Nat) (x2 : Int32) (x3 : Int32) (x4 : Int32) (S : St) : ∀ l D cy H0 o, f_X3_drawOne a0 a1 x2 x3 x4 S = some o → Met l yX3_drawOne wsX3_drawOne rmX3_drawOne (Pq D cy H0 [va_rf a0, va_rf a1, .int x2, .int x3, .int x4] S) (Qx D cy H0 (cvV o)) 0 0 (fun q => H0.size ≤ q) := by
  refine met_of (cc := cX3_drawOne) (maxL := 8) (ret := none) [va_rf a0, va_rf a1, .int x2, .int x3, .int x4] [(0, va_rf a0), (1, va_rf a1), (2, .int x2), (3, .int x3), (4, .int x4)] (by decide) rfl rfl (by simp [lg_sl, va_rf_cat, vi_cat, vl_cat]) (by simp [lv_args, va_rf_cat, vi_cat, vl_cat]) (fun Γ C => ?_)
  unfold f_X3_drawOne
  refine g_aload_n C dX3_drawOne_0 rfl 1 rfl ?_
  refine g_iconst C (v := (0 : Int32)) dX3_drawOne_1 (by decide) ?_
  refine g_iload_n C dX3_drawOne_2 rfl 2 rfl ?_
  refine g_call3 C (n := 2) [.int (0 : Int32), .int x2] [] (m_X8_gone a1 (0 : Int32) x2 S) (m_X8_gone a1 (0 : Int32) x2 S) (m_X8_gone a1 (0 : Int32) x2 S) dX3_drawOne_3 (fun R s args ht hR => va_cwU 2 ht gX3_drawOne_X8_gone_u57X1 rfl rfl rfl rfl (by decide +kernel) (by subst hR; exact ⟨by decide, by decide⟩)) (fun R s args ht hR => va_cwU 2 ht gX3_drawOne_X8_gone_u57X2 rfl rfl rfl rfl (by decide +kernel) (by subst hR; exact ⟨by decide, by decide⟩)) (fun R s args ht hR => va_cwU 2 ht gX3_drawOne_X8_gone_u57X7 rfl rfl rfl rfl (by decide +kernel) (by subst hR; exact ⟨by decide, by decide⟩)) ⟨by decide, by decide⟩ rfl rfl (by first | exact Nat.le_of_ble_eq_true rfl | simp [va_rf_cat, vi_cat, vl_cat]) (fun o1 eo1 => ?_)
  show G Γ cvV 8 0 0 6 [(0, va_rf a0), (1, va_rf a1), (2, .int x2), (3, .int x3), (4, .int x4)] [.int o1.1] o1.2 _
  refine g_istore C (i := 5) (lv2 := [(5, .int o1.1), (0, va_rf a0), (1, va_rf a1), (2, .int x2), (3, .int x3), (4, .int x4)]) dX3_drawOne_6 (by decide) (by first | rfl | simp [va_rf_cat, vi_cat, vl_cat]) ?_
  refine g_aload_n C dX3_drawOne_8 rfl 1 rfl ?_
  refine g_aload_n C dX3_drawOne_9 rfl 2 rfl ?_
  refine g_iload C dX3_drawOne_10 0 rfl ?_
  refine g_call3 C (n := 1) [.int o1.1] [va_rf a0] (m_X8_xAt a1 o1.1 o1.2) (m_X8_xAt a1 o1.1 o1.2) (m_X8_xAt a1 o1.1 o1.2) dX3_drawOne_12 (fun R s args ht hR => va_cwU 1 ht gX3_drawOne_X8_xAt_u63X1 rfl rfl rfl rfl (by decide +kernel) (by subst hR; exact ⟨by decide, by decide⟩)) (fun R s args ht hR => va_cwU 1 ht gX3_drawOne_X8_xAt_u63X2 rfl rfl rfl rfl (by decide +kernel) (by subst hR; exact ⟨by decide, by decide⟩)) (fun R s args ht hR => va_cwU 1 ht gX3_drawOne_X8_xAt_u63X7 rfl rfl rfl rfl (by decide +kernel) (by subst hR; exact ⟨by decide, by decide⟩)) ⟨by decide, by decide⟩ rfl rfl (by first | exact Nat.le_of_ble_eq_true rfl | simp [va_rf_cat, vi_cat, vl_cat]) (fun o2 eo2 => ?_)
  show G Γ cvV 8 0 0 15 [(5, .int o1.1), (0, va_rf a0), (1, va_rf a1), (2, .int x2), (3, .int x3), (4, .int x4)] [.int o2.1, va_rf a0] o2.2 _
  refine g_aload_n C dX3_drawOne_15 rfl 2 rfl ?_
  refine g_iload C dX3_drawOne_16 0 rfl ?_
  refine g_call3 C (n := 1) [.int o1.1] [.int o2.1, va_rf a0] (m_X8_yAt a1 o1.1 o2.2) (m_X8_yAt a1 o1.1 o2.2) (m_X8_yAt a1 o1.1 o2.2) dX3_drawOne_18 (fun R s args ht hR => va_cwU 1 ht gX3_drawOne_X8_yAt_u67X1 rfl rfl rfl rfl (by decide +kernel) (by subst hR; exact ⟨by decide, by decide⟩)) (fun R s args ht hR => va_cwU 1 ht gX3_drawOne_X8_yAt_u67X2 rfl rfl rfl rfl (by decide +kernel) (by subst hR; exact ⟨by decide, by decide⟩)) (fun R s args ht hR => va_cwU 1 ht gX3_drawOne_X8_yAt_u67X7 rfl rfl rfl rfl (by decide +kernel) (by subst hR; exact ⟨by decide, by decide⟩)) ⟨by decide, by decide⟩ rfl rfl (by first | exact Nat.le_of_ble_eq_true rfl | simp [va_rf_cat, vi_cat, vl_cat]) (fun o3 eo3 => ?_)
  show G Γ cvV 8 0 0 21 [(5, .int o1.1), (0, va_rf a0), (1, va_rf a1), (2, .int x2), (3, .int x3), (4, .int x4)] [.int o3.1, .int o2.1, va_rf a0] o3.2 _
  refine g_iload_n C dX3_drawOne_21 rfl 4 rfl ?_
  refine g_iconst C (v := (0 : Int32)) dX3_drawOne_22 (by decide) ?_
  refine g_callV C (n := 4) (ci := 3) [.int o2.1, .int o3.1, .int x3, .int (0 : Int32)] [] (m_X3_moveTo a0 o2.1 o3.1 x3 (0 : Int32) o3.2) dX3_drawOne_23 gX3_drawOne_X3_moveTo rfl ⟨rfl, rfl⟩ (by decide +kernel) ⟨by decide, by decide⟩ ⟨by decide, by decide⟩ rfl (by decide) rfl rfl (by first | exact Nat.le_of_ble_eq_true rfl | simp [va_rf_cat, vi_cat, vl_cat]) (fun o4 eo4 => ?_)
  show G Γ cvV 8 0 0 26 [(5, .int o1.1), (0, va_rf a0), (1, va_rf a1), (2, .int x2), (3, .int x3), (4, .int x4)] [] o4 _
  refine g_aload_n C dX3_drawOne_26 rfl 1 rfl ?_
  refine g_iload C dX3_drawOne_27 5 rfl ?_
  refine g_iconst C (v := (0 : Int32)) dX3_drawOne_29 (by decide) ?_
  refine g_callV C (n := 2) (ci := 3) [.int x4, .int (0 : Int32)] [] (m_X3_stay a0 x4 (0 : Int32) o4) dX3_drawOne_30 gX3_drawOne_X3_stay rfl ⟨rfl, rfl⟩ (by decide +kernel) ⟨by decide, by decide⟩ ⟨by decide, by decide⟩ rfl (by decide) rfl rfl (by first | exact Nat.le_of_ble_eq_true rfl | simp [va_rf_cat, vi_cat, vl_cat]) (fun o5 eo5 => ?_)
  show G Γ cvV 8 0 0 33 [(5, .int o1.1), (0, va_rf a0), (1, va_rf a1), (2, .int x2), (3, .int x3), (4, .int x4)] [] o5 _
  refine g_aload_n C dX3_drawOne_33 rfl 1 rfl ?_
  refine g_iconst C (v := (1 : Int32)) dX3_drawOne_34 (by decide) ?_
  refine g_iconst C (v := (1 : Int32)) dX3_drawOne_35 (by decide) ?_
  refine g_callV C (n := 2) (ci := 3) [.int (1 : Int32), .int (1 : Int32)] [] (m_X3_stay a0 (1 : Int32) (1 : Int32) o5) dX3_drawOne_36 gX3_drawOne_X3_stay rfl ⟨rfl, rfl⟩ (by decide +kernel) ⟨by decide, by decide⟩ ⟨by decide, by decide⟩ rfl (by decide) rfl rfl (by first | exact Nat.le_of_ble_eq_true rfl | simp [va_rf_cat, vi_cat, vl_cat]) (fun o6 eo6 => ?_)
  show G Γ cvV 8 0 0 39 [(5, .int o1.1), (0, va_rf a0), (1, va_rf a1), (2, .int x2), (3, .int x3), (4, .int x4)] [] o6 _
  refine g_iconst C (v := (1 : Int32)) dX3_drawOne_39 (by decide) ?_
  refine g_istore C (i := 6) (lv2 := [(6, .int (1 : Int32)), (5, .int o1.1), (0, va_rf a0), (1, va_rf a1), (2, .int x2), (3, .int x3), (4, .int x4)]) dX3_drawOne_40 (by decide) (by first | rfl | simp [va_rf_cat, vi_cat, vl_cat]) ?_
  exact g_sub (lv2 := [(0, va_rf a0), (1, va_rf a1), (2, .int x2), (3, .int x3), (4, .int x4), (6, .int (1 : Int32))]) [2, 3, 4, 5, 6, 0] rfl (t_X3_drawOne_42 C FU a0 a1 x2 x3 x4 (1 : Int32) o6)
abbrev rmX9_at : Room := { frames := 0, cells := 0, slots := 0, locals := 0 }
theorem flX9_at_11 : Cond.fieldLink RX9 11 "LightLines$Strokes" "strokes" "[LLightLines$Stroke;" ∈ wsX9_at := by decide +kernel
theorem flX9_at_24 : Cond.fieldLink RX9 24 "LightLines$Strokes" "held" "I" ∈ wsX9_at := by decide +kernel
set_option maxRecDepth 100000 in
theorem ulX9_at_X9 : ∀ w ∈ u_ws RX9 TX9 4, w ∈ wsX9_at := by decide +kernel
set_option maxHeartbeats 4000000 in
set_option maxRecDepth 100000 in
theorem m_X9_at (a0 : Option Nat) (x1 : Int32) (S : St) : ∀ l D cy H0 o, f_X9_at a0 x1 S = some o → Met l yX9_at wsX9_at rmX9_at (Pq D cy H0 [va_rf a0, .int x1] S) (Qx D cy H0 (cvR o)) 0 0 (fun q => H0.size ≤ q) := by
  refine met_of (cc := cX9_at) (maxL := 2) (ret := (some (.object "LightLines$Stroke"))) [va_rf a0, .int x1] [(0, va_rf a0), (1, .int x1)] (by decide) rfl rfl (by simp [lg_sl, va_rf_cat, vi_cat, vl_cat]) (by simp [lv_args, va_rf_cat, vi_cat, vl_cat]) (fun Γ C => ?_)
  unfold f_X9_at
  refine g_iload_n C dX9_at_0 rfl 1 rfl ?_
  refine g_if_lt C (tgt := 21) dX9_at_1 (by decide) (fun h1 => ?_) (fun h1 => ?_)
  · refine g_null C dX9_at_21 ?_
    exact g_aret C (Or.inl ⟨_, rfl⟩) dX9_at_22 ⟨by decide, by decide⟩
  · refine g_iload_n C dX9_at_4 rfl 1 rfl ?_
    refine g_aload_n C dX9_at_5 rfl 0 rfl ?_
    refine g_getI C (ci := 8) (k := 3) dX9_at_6 rfl (by decide) (by decide) (by decide) ulX9_at_X9 flX9_at_24 rfl (fun v2 ev2 => ?_)
    refine g_icmp_ge C (tgt := 21) dX9_at_9 (by decide) (fun h3 => ?_) (fun h3 => ?_)
    · refine g_null C dX9_at_21 ?_
      exact g_aret C (Or.inl ⟨_, rfl⟩) dX9_at_22 ⟨by decide, by decide⟩
    · refine g_aload_n C dX9_at_12 rfl 0 rfl ?_
      refine g_getR C (ci := 8) (k := 0) dX9_at_13 rfl (by decide) (by decide) (by decide) ulX9_at_X9 flX9_at_11 rfl (fun v4 ev4 => ?_)
      refine g_iload_n C dX9_at_16 rfl 1 rfl ?_
      refine g_ald17 C dX9_at_17 (fun v5 ev5 => ?_)
      refine g_goto C (tgt := 22) dX9_at_18 (by decide) ?_
      exact g_aret C (Or.inl ⟨_, rfl⟩) dX9_at_22 ⟨by decide, by decide⟩
abbrev rmX3_drawAll : Room := { frames := 4, cells := 0, slots := 0, locals := 103 }
theorem flX3_drawAll_20 : Cond.fieldLink RX3 20 "LightLines$Path" "length" "I" ∈ wsX3_drawAll := by decide +kernel
theorem flX3_drawAll_24 : Cond.fieldLink RX3 24 "LightLines$Path" "isOver" "Z" ∈ wsX3_drawAll := by decide +kernel
theorem flX3_drawAll_28 : Cond.fieldLink RX3 28 "LightLines$Path" "atX" "I" ∈ wsX3_drawAll := by decide +kernel
theorem flX3_drawAll_31 : Cond.fieldLink RX3 31 "LightLines$Path" "atY" "I" ∈ wsX3_drawAll := by decide +kernel
theorem flX3_drawAll_34 : Cond.fieldLink RX3 34 "LightLines$Strokes" "held" "I" ∈ wsX3_drawAll := by decide +kernel
theorem flX3_drawAll_39 : Cond.fieldLink RX3 39 "LightLines$Strokes" "order" "[I" ∈ wsX3_drawAll := by decide +kernel
theorem flX3_drawAll_46 : Cond.fieldLink RX3 46 "LightLines$Strokes" "directions" "[I" ∈ wsX3_drawAll := by decide +kernel
set_option maxRecDepth 100000 in
theorem ulX3_drawAll_X3 : ∀ w ∈ u_ws RX3 TX3 7, w ∈ wsX3_drawAll := by decide +kernel
set_option maxRecDepth 100000 in
theorem ulX3_drawAll_X9 : ∀ w ∈ u_ws RX9 TX9 4, w ∈ wsX3_drawAll := by decide +kernel
set_option maxHeartbeats 4000000 in
set_option maxRecDepth 100000 in
theorem t_X3_drawAll_72 {Γ : Cx} (C : CF Γ cX3_drawAll 6 none wsX3_drawAll RX3 rmX3_drawAll 0 0) (rc23 : Option Nat → Option Nat → Int32 → Int32 → Int32 → St → Option (St)) (hrc23 : ∀ (a0 : Option Nat) (a1 : Option Nat) (x2 : Int32) (x3 : Int32) (x4 : Int32) (S : St), G Γ cvV 6 0 0 23 [(0, va_rf a0), (1, va_rf a1), (2, .int x2), (3, .int x3), (4, .int x4)] [] S (rc23 a0 a1 x2 x3 x4 S)) (a0 : Option Nat) (a1 : Option Nat) (x2 : Int32) (x3 : Int32) (x4 : Int32) (S : St) : G Γ cvV 6 0 0 72 [(0, va_rf a0), (1, va_rf a1), (2, .int x2), (3, .int x3), (4, .int x4)] [] S (b_X3_drawAll_72 rc23 a0 a1 x2 x3 x4 S) := by
  unfold b_X3_drawAll_72
  refine g_iinc1 C dX3_drawAll_72 4 rfl (by decide) (by decide) (fun y1 => ?_)
  refine g_lveq (lv2 := [(4, .int y1), (0, va_rf a0), (1, va_rf a1), (2, .int x2), (3, .int x3)]) (by first | rfl | simp [va_rf_cat, vi_cat, vl_cat]) ?_
  refine g_goto C (tgt := 23) dX3_drawAll_75 (by decide) ?_
  exact g_sub (lv2 := [(0, va_rf a0), (1, va_rf a1), (2, .int x2), (3, .int x3), (4, .int y1)]) [1, 2, 3, 4, 0] rfl (hrc23 a0 a1 x2 x3 y1 S)
set_option maxHeartbeats 4000000 in
set_option maxRecDepth 100000 in
theorem t_X3_drawAll_78 {Γ : Cx} (C : CF Γ cX3_drawAll 6 none wsX3_drawAll RX3 rmX3_drawAll 0 0) (a0 : Option Nat) (x2 : Int32) (S : St) : G Γ cvV 6 0 0 78 [(0, va_rf a0), (2, .int x2)] [] S (b_X3_drawAll_78  a0 x2 S) := by
  unfold b_X3_drawAll_78
  refine g_aload_n C dX3_drawAll_78 rfl 0 rfl ?_
  refine g_iconst C (v := (0 : Int32)) dX3_drawAll_79 (by decide) ?_
  refine g_iconst C (v := (0 : Int32)) dX3_drawAll_80 (by decide) ?_
  refine g_iload_n C dX3_drawAll_81 rfl 1 rfl ?_
  refine g_iconst C (v := (0 : Int32)) dX3_drawAll_82 (by decide) ?_
  refine g_callV C (n := 4) (ci := 3) [.int (0 : Int32), .int (0 : Int32), .int x2, .int (0 : Int32)] [] (m_X3_moveTo a0 (0 : Int32) (0 : Int32) x2 (0 : Int32) S) dX3_drawAll_83 gX3_drawAll_X3_moveTo rfl ⟨rfl, rfl⟩ (by decide +kernel) ⟨by decide, by decide⟩ ⟨by decide, by decide⟩ rfl (by decide) rfl rfl (by first | exact Nat.le_of_ble_eq_true rfl | simp [va_rf_cat, vi_cat, vl_cat]) (fun o1 eo1 => ?_)
  show G Γ cvV 6 0 0 86 [(0, va_rf a0), (2, .int x2)] [] o1 _
  exact g_vret C dX3_drawAll_86 ⟨by decide, by decide⟩
set_option maxHeartbeats 4000000 in
set_option maxRecDepth 100000 in
theorem t_X3_drawAll_23 {Γ : Cx} (C : CF Γ cX3_drawAll 6 none wsX3_drawAll RX3 rmX3_drawAll 0 0) : ∀ (n : Nat) (a0 : Option Nat) (a1 : Option Nat) (x2 : Int32) (x3 : Int32) (x4 : Int32) (S : St), G Γ cvV 6 0 0 23 [(0, va_rf a0), (1, va_rf a1), (2, .int x2), (3, .int x3), (4, .int x4)] [] S (b_X3_drawAll_23  n a0 a1 x2 x3 x4 S) := by
  intro n
  induction n with
  | zero => intro a0 a1 x2 x3 x4 S; exact g_none
  | succ n ih =>
    intro a0 a1 x2 x3 x4 S
    rw [b_X3_drawAll_23]
    refine g_iload C dX3_drawAll_23 4 rfl ?_
    refine g_aload_n C dX3_drawAll_25 rfl 1 rfl ?_
    refine g_getI C (ci := 8) (k := 3) dX3_drawAll_26 rfl (by decide) (by decide) (by decide) ulX3_drawAll_X9 flX3_drawAll_34 rfl (fun v1 ev1 => ?_)
    refine g_icmp_ge C (tgt := 78) dX3_drawAll_29 (by decide) (fun h2 => ?_) (fun h2 => ?_)
    · exact g_sub (lv2 := [(0, va_rf a0), (2, .int x2)]) [0, 2] rfl (t_X3_drawAll_78 C a0 x2 S)
    · refine g_aload_n C dX3_drawAll_32 rfl 0 rfl ?_
      refine g_getI C (ci := 3) (k := 4) dX3_drawAll_33 rfl (by decide) (by decide) (by decide) ulX3_drawAll_X3 flX3_drawAll_24 rfl (fun v3 ev3 => ?_)
      refine g_if_ne C (tgt := 78) dX3_drawAll_36 (by decide) (fun h4 => ?_) (fun h4 => ?_)
      · refine g_aload_n C dX3_drawAll_39 rfl 1 rfl ?_
        refine g_aload_n C dX3_drawAll_40 rfl 1 rfl ?_
        refine g_getR C (ci := 8) (k := 1) dX3_drawAll_41 rfl (by decide) (by decide) (by decide) ulX3_drawAll_X9 flX3_drawAll_39 rfl (fun v5 ev5 => ?_)
        refine g_iload C dX3_drawAll_44 4 rfl ?_
        refine g_ild C dX3_drawAll_46 (fun v6 ev6 => ?_)
        refine g_callV C (n := 1) (ci := 8) [.int v6] [] (m_X9_at a1 v6 S) dX3_drawAll_47 gX3_drawAll_X9_at rfl ⟨rfl, rfl⟩ (by decide +kernel) ⟨by decide, by decide⟩ ⟨by decide, by decide⟩ rfl (by decide) rfl rfl (by first | exact Nat.le_of_ble_eq_true rfl | simp [va_rf_cat, vi_cat, vl_cat]) (fun o7 eo7 => ?_)
        show G Γ cvV 6 0 0 50 [(0, va_rf a0), (1, va_rf a1), (2, .int x2), (3, .int x3), (4, .int x4)] [va_rf o7.1] o7.2 _
        refine g_astore C (i := 5) (lv2 := [(5, va_rf o7.1), (0, va_rf a0), (1, va_rf a1), (2, .int x2), (3, .int x3), (4, .int x4)]) dX3_drawAll_50 (by decide) (by first | rfl | simp [va_rf_cat, vi_cat, vl_cat]) ?_
        refine g_aload C dX3_drawAll_52 0 rfl ?_
        refine g_ifnull C (tgt := 72) dX3_drawAll_54 (by decide) (fun h8 => ?_) (fun h8 => ?_)
        · exact g_sub (lv2 := [(0, va_rf a0), (1, va_rf a1), (2, .int x2), (3, .int x3), (4, .int x4)]) [1, 2, 3, 4, 5] rfl (t_X3_drawAll_72 C (b_X3_drawAll_23 n) ih a0 a1 x2 x3 x4 o7.2)
        · refine g_aload_n C dX3_drawAll_57 rfl 1 rfl ?_
          refine g_aload C dX3_drawAll_58 0 rfl ?_
          refine g_aload_n C dX3_drawAll_60 rfl 2 rfl ?_
          refine g_getR C (ci := 8) (k := 2) dX3_drawAll_61 rfl (by decide) (by decide) (by decide) ulX3_drawAll_X9 flX3_drawAll_46 rfl (fun v9 ev9 => ?_)
          refine g_iload C dX3_drawAll_64 5 rfl ?_
          refine g_ild C dX3_drawAll_66 (fun v10 ev10 => ?_)
          refine g_iload_n C dX3_drawAll_67 rfl 3 rfl ?_
          refine g_iload_n C dX3_drawAll_68 rfl 4 rfl ?_
          refine g_callV C (n := 4) (ci := 3) [va_rf o7.1, .int v10, .int x2, .int x3] [] (m_X3_drawOne a0 o7.1 v10 x2 x3 o7.2) dX3_drawAll_69 gX3_drawAll_X3_drawOne rfl ⟨rfl, rfl⟩ (by decide +kernel) ⟨by decide, by decide⟩ ⟨by decide, by decide⟩ rfl (by decide) rfl rfl (by first | exact Nat.le_of_ble_eq_true rfl | simp [va_rf_cat, vi_cat, vl_cat]) (fun o11 eo11 => ?_)
          show G Γ cvV 6 0 0 72 [(5, va_rf o7.1), (0, va_rf a0), (1, va_rf a1), (2, .int x2), (3, .int x3), (4, .int x4)] [] o11 _
          exact g_sub (lv2 := [(0, va_rf a0), (1, va_rf a1), (2, .int x2), (3, .int x3), (4, .int x4)]) [1, 2, 3, 4, 5] rfl (t_X3_drawAll_72 C (b_X3_drawAll_23 n) ih a0 a1 x2 x3 x4 o11)
      · exact g_sub (lv2 := [(0, va_rf a0), (2, .int x2)]) [0, 2] rfl (t_X3_drawAll_78 C a0 x2 S)
set_option maxHeartbeats 4000000 in
set_option maxRecDepth 100000 in
theorem m_X3_drawAll (a0 : Option Nat) (a1 : Option Nat) (x2 : Int32) (x3 : Int32) (S : St) : ∀ l D cy H0 o, f_X3_drawAll a0 a1 x2 x3 S = some o → Met l yX3_drawAll wsX3_drawAll rmX3_drawAll (Pq D cy H0 [va_rf a0, va_rf a1, .int x2, .int x3] S) (Qx D cy H0 (cvV o)) 0 0 (fun q => H0.size ≤ q) := by
  refine met_of (cc := cX3_drawAll) (maxL := 6) (ret := none) [va_rf a0, va_rf a1, .int x2, .int x3] [(0, va_rf a0), (1, va_rf a1), (2, .int x2), (3, .int x3)] (by decide) rfl rfl (by simp [lg_sl, va_rf_cat, vi_cat, vl_cat]) (by simp [lv_args, va_rf_cat, vi_cat, vl_cat]) (fun Γ C => ?_)
  unfold f_X3_drawAll
  refine g_aload_n C dX3_drawAll_0 rfl 0 rfl ?_
  refine g_iconst C (v := (0 : Int32)) dX3_drawAll_1 (by decide) ?_
  refine g_putI C (ci := 3) (k := 3) (ty0 := tyX3) dX3_drawAll_2 rfl (by decide) (by decide) (by decide) tyX3_ok nmX3 ulX3_drawAll_X3 flX3_drawAll_20 rfl rfl ⟨rfl, rfl⟩ (fun S1 eS1 => ?_)
  refine g_aload_n C dX3_drawAll_5 rfl 0 rfl ?_
  refine g_iconst C (v := (0 : Int32)) dX3_drawAll_6 (by decide) ?_
  refine g_putI C (ci := 3) (k := 4) (ty0 := tyX3) dX3_drawAll_7 rfl (by decide) (by decide) (by decide) tyX3_ok nmX3 ulX3_drawAll_X3 flX3_drawAll_24 rfl rfl ⟨rfl, rfl⟩ (fun S2 eS2 => ?_)
  refine g_aload_n C dX3_drawAll_10 rfl 0 rfl ?_
  refine g_iconst C (v := (0 : Int32)) dX3_drawAll_11 (by decide) ?_
  refine g_putI C (ci := 3) (k := 5) (ty0 := tyX3) dX3_drawAll_12 rfl (by decide) (by decide) (by decide) tyX3_ok nmX3 ulX3_drawAll_X3 flX3_drawAll_28 rfl rfl ⟨rfl, rfl⟩ (fun S3 eS3 => ?_)
  refine g_aload_n C dX3_drawAll_15 rfl 0 rfl ?_
  refine g_iconst C (v := (0 : Int32)) dX3_drawAll_16 (by decide) ?_
  refine g_putI C (ci := 3) (k := 6) (ty0 := tyX3) dX3_drawAll_17 rfl (by decide) (by decide) (by decide) tyX3_ok nmX3 ulX3_drawAll_X3 flX3_drawAll_31 rfl rfl ⟨rfl, rfl⟩ (fun S4 eS4 => ?_)
  refine g_iconst C (v := (0 : Int32)) dX3_drawAll_20 (by decide) ?_
  refine g_istore C (i := 4) (lv2 := [(4, .int (0 : Int32)), (0, va_rf a0), (1, va_rf a1), (2, .int x2), (3, .int x3)]) dX3_drawAll_21 (by decide) (by first | rfl | simp [va_rf_cat, vi_cat, vl_cat]) ?_
  exact g_sub (lv2 := [(0, va_rf a0), (1, va_rf a1), (2, .int x2), (3, .int x3), (4, .int (0 : Int32))]) [1, 2, 3, 4, 0] rfl (t_X3_drawAll_23 C FU a0 a1 x2 x3 (0 : Int32) S4)
abbrev rmX4_init : Room := { frames := 1, cells := 3, slots := 4128, locals := 24 }
theorem flX4_init_11 : Cond.fieldLink RX4 11 "LightLines$PlanSearch" "startX" "[I" ∈ wsX4_init := by decide +kernel
theorem flX4_init_15 : Cond.fieldLink RX4 15 "LightLines$PlanSearch" "startY" "[I" ∈ wsX4_init := by decide +kernel
theorem flX4_init_18 : Cond.fieldLink RX4 18 "LightLines$PlanSearch" "wayLeft" "[I" ∈ wsX4_init := by decide +kernel
set_option maxRecDepth 100000 in
theorem ulX4_init_X4 : ∀ w ∈ u_ws RX4 TX4 5, w ∈ wsX4_init := by decide +kernel
set_option maxHeartbeats 4000000 in
set_option maxRecDepth 100000 in
theorem m_X4_init (a0 : Nat) (S : St) : ∀ l D cy H0 o, f_X4_init a0 S = some o → Met l yX4_init wsX4_init rmX4_init (Pq D cy H0 [va_rf (some a0)] S) (Qx D cy H0 (cvV o)) 3 4128 (fun q => H0.size ≤ q) := by
  refine met_ofI (cc := cX4_init) (maxL := 1) (ret := none) [va_rf (some a0)] [(0, va_rf (some a0))] (by decide) rfl rfl rfl (by simp [lg_sl, va_rf_cat, vi_cat, vl_cat]) (by simp [lv_args, va_rf_cat, vi_cat, vl_cat]) (fun Γ C hN => ?_)
  unfold f_X4_init
  refine g_aload_n C dX4_init_0 rfl 0 rfl ?_
  refine g_objInit C dX4_init_1 (by decide +kernel) (by decide +kernel) (by decide +kernel) ⟨by decide, by decide⟩ (by first | exact Nat.le_of_ble_eq_true rfl | simp [va_rf_cat, vi_cat, vl_cat]) ?_
  refine g_aload_n C dX4_init_4 rfl 0 rfl ?_
  refine g_bipush C (v := (16 : Int32)) dX4_init_5 (by decide) ?_
  refine g_newa C (kd := 14) (t0 := 1) (mx := 16) (ty := .int) dX4_init_7 rfl rfl ⟨by decide, by decide⟩ (fun _ => rfl) (fun _ _ h => h) (by decide) (by decide +kernel) ⟨by decide, by decide⟩ (fun S1 eS1 => ?_)
  show G Γ cvV 1 1 16 9 [(0, va_rf (some a0))] [va_rf (some S.2.2.2), va_rf (some a0)] S1 _
  refine g_putFR C hN (ci := 4) (k := 0) (ty0 := tyX4) dX4_init_9 rfl (by decide) (by decide) (by decide) tyX4_ok nmX4 ulX4_init_X4 flX4_init_11 rfl rfl rfl (rf_fit_a _) (fun S2 eS2 => ?_)
  refine g_aload_n C dX4_init_12 rfl 0 rfl ?_
  refine g_bipush C (v := (16 : Int32)) dX4_init_13 (by decide) ?_
  refine g_newa C (kd := 14) (t0 := 1) (mx := 16) (ty := .int) dX4_init_15 rfl rfl ⟨by decide, by decide⟩ (fun _ => rfl) (fun _ _ h => h) (by decide) (by decide +kernel) ⟨by decide, by decide⟩ (fun S3 eS3 => ?_)
  show G Γ cvV 1 2 32 17 [(0, va_rf (some a0))] [va_rf (some S2.2.2.2), va_rf (some a0)] S3 _
  refine g_putFR C hN (ci := 4) (k := 1) (ty0 := tyX4) dX4_init_17 rfl (by decide) (by decide) (by decide) tyX4_ok nmX4 ulX4_init_X4 flX4_init_15 rfl rfl rfl (rf_fit_a _) (fun S4 eS4 => ?_)
  refine g_aload_n C dX4_init_20 rfl 0 rfl ?_
  refine g_sipush C (v := (4096 : Int32)) dX4_init_21 (by decide) ?_
  refine g_newa C (kd := 14) (t0 := 1) (mx := 4096) (ty := .int) dX4_init_24 rfl rfl ⟨by decide, by decide⟩ (fun _ => rfl) (fun _ _ h => h) (by decide) (by decide +kernel) ⟨by decide, by decide⟩ (fun S5 eS5 => ?_)
  show G Γ cvV 1 3 4128 26 [(0, va_rf (some a0))] [va_rf (some S4.2.2.2), va_rf (some a0)] S5 _
  refine g_putFR C hN (ci := 4) (k := 2) (ty0 := tyX4) dX4_init_26 rfl (by decide) (by decide) (by decide) tyX4_ok nmX4 ulX4_init_X4 flX4_init_18 rfl rfl rfl (rf_fit_a _) (fun S6 eS6 => ?_)
  exact g_vret C dX4_init_29 ⟨by decide, by decide⟩
abbrev rmX4_wayThrough : Room := { frames := 2, cells := 0, slots := 0, locals := 47 }
theorem flX4_wayThrough_11 : Cond.fieldLink RX4 11 "LightLines$PlanSearch" "startX" "[I" ∈ wsX4_wayThrough := by decide +kernel
theorem flX4_wayThrough_15 : Cond.fieldLink RX4 15 "LightLines$PlanSearch" "startY" "[I" ∈ wsX4_wayThrough := by decide +kernel
theorem flX4_wayThrough_18 : Cond.fieldLink RX4 18 "LightLines$PlanSearch" "wayLeft" "[I" ∈ wsX4_wayThrough := by decide +kernel
set_option maxRecDepth 100000 in
theorem ulX4_wayThrough_X4 : ∀ w ∈ u_ws RX4 TX4 5, w ∈ wsX4_wayThrough := by decide +kernel
set_option maxHeartbeats 4000000 in
set_option maxRecDepth 100000 in
theorem m_X4_wayThrough (a0 : Option Nat) (x1 : Int32) (x2 : Int32) (x3 : Int32) (x4 : Int32) (S : St) : ∀ l D cy H0 o, f_X4_wayThrough a0 x1 x2 x3 x4 S = some o → Met l yX4_wayThrough wsX4_wayThrough rmX4_wayThrough (Pq D cy H0 [va_rf a0, .int x1, .int x2, .int x3, .int x4] S) (Qx D cy H0 (cvI o)) 0 0 (fun q => H0.size ≤ q) := by
  refine met_of (cc := cX4_wayThrough) (maxL := 6) (ret := (some .int)) [va_rf a0, .int x1, .int x2, .int x3, .int x4] [(0, va_rf a0), (1, .int x1), (2, .int x2), (3, .int x3), (4, .int x4)] (by decide) rfl rfl (by simp [lg_sl, va_rf_cat, vi_cat, vl_cat]) (by simp [lv_args, va_rf_cat, vi_cat, vl_cat]) (fun Γ C => ?_)
  unfold f_X4_wayThrough
  refine g_iload_n C dX4_wayThrough_0 rfl 1 rfl ?_
  refine g_iconst C (v := (1 : Int32)) dX4_wayThrough_1 (by decide) ?_
  refine g_iload C dX4_wayThrough_2 4 rfl ?_
  refine g_iconst C (v := (2 : Int32)) dX4_wayThrough_4 (by decide) ?_
  refine g_idiv C dX4_wayThrough_5 (fun v1 ev1 => ?_)
  refine g_ishl C dX4_wayThrough_6 ?_
  refine g_ior C dX4_wayThrough_7 ?_
  refine g_topi (fun y2 => ?_)
  refine g_istore C (i := 5) (lv2 := [(5, .int y2), (0, va_rf a0), (1, .int x1), (2, .int x2), (3, .int x3), (4, .int x4)]) dX4_wayThrough_8 (by decide) (by first | rfl | simp [va_rf_cat, vi_cat, vl_cat]) ?_
  refine g_iload_n C dX4_wayThrough_10 rfl 3 rfl ?_
  refine g_iload_n C dX4_wayThrough_11 rfl 4 rfl ?_
  refine g_aload_n C dX4_wayThrough_12 rfl 1 rfl ?_
  refine g_getR C (ci := 4) (k := 0) dX4_wayThrough_13 rfl (by decide) (by decide) (by decide) ulX4_wayThrough_X4 flX4_wayThrough_11 rfl (fun v3 ev3 => ?_)
  refine g_iload C dX4_wayThrough_16 5 rfl ?_
  refine g_ild C dX4_wayThrough_18 (fun v4 ev4 => ?_)
  refine g_aload_n C dX4_wayThrough_19 rfl 1 rfl ?_
  refine g_getR C (ci := 4) (k := 1) dX4_wayThrough_20 rfl (by decide) (by decide) (by decide) ulX4_wayThrough_X4 flX4_wayThrough_15 rfl (fun v5 ev5 => ?_)
  refine g_iload C dX4_wayThrough_23 5 rfl ?_
  refine g_ild C dX4_wayThrough_25 (fun v6 ev6 => ?_)
  refine g_callSN C (n := 4) (host := "LightLines") [.int x2, .int x3, .int v4, .int v6] [] (m_X11_way x2 x3 v4 v6 S) dX4_wayThrough_26 gX4_wayThrough_X11_way_n65 (by decide +kernel) (by decide +kernel) (by decide +kernel) rfl ⟨rfl, rfl⟩ (by decide +kernel) ⟨by decide, by decide⟩ ⟨by decide, by decide⟩ rfl rfl (by first | exact Nat.le_of_ble_eq_true rfl | simp [va_rf_cat, vi_cat, vl_cat]) (fun o7 eo7 => ?_)
  show G Γ cvI 6 0 0 29 [(5, .int y2), (0, va_rf a0), (1, .int x1), (2, .int x2), (3, .int x3), (4, .int x4)] [.int o7.1] o7.2 _
  refine g_aload_n C dX4_wayThrough_29 rfl 1 rfl ?_
  refine g_getR C (ci := 4) (k := 2) dX4_wayThrough_30 rfl (by decide) (by decide) (by decide) ulX4_wayThrough_X4 flX4_wayThrough_18 rfl (fun v8 ev8 => ?_)
  refine g_iload C dX4_wayThrough_33 0 rfl ?_
  refine g_bipush C (v := (16 : Int32)) dX4_wayThrough_35 (by decide) ?_
  refine g_imul C dX4_wayThrough_37 ?_
  refine g_iload C dX4_wayThrough_38 5 rfl ?_
  refine g_iadd C dX4_wayThrough_40 ?_
  refine g_ild C dX4_wayThrough_41 (fun v9 ev9 => ?_)
  refine g_iadd C dX4_wayThrough_42 ?_
  exact g_iret C dX4_wayThrough_43 ⟨by decide, by decide⟩
abbrev rmX4_bestTurn : Room := { frames := 3, cells := 0, slots := 0, locals := 72 }
theorem flX4_bestTurn_45 : Cond.fieldLink RX4 45 "LightLines$PlanSearch" "turns" "I" ∈ wsX4_bestTurn := by decide +kernel
set_option maxRecDepth 100000 in
theorem ulX4_bestTurn_X4 : ∀ w ∈ u_ws RX4 TX4 5, w ∈ wsX4_bestTurn := by decide +kernel
set_option maxHeartbeats 4000000 in
set_option maxRecDepth 100000 in
theorem t_X4_bestTurn_60 {Γ : Cx} (C : CF Γ cX4_bestTurn 8 (some .int) wsX4_bestTurn RX4 rmX4_bestTurn 0 0) (rc9 : Option Nat → Int32 → Int32 → Int32 → Int32 → Int32 → Int32 → St → Option (Int32 × St)) (hrc9 : ∀ (a0 : Option Nat) (x1 : Int32) (x2 : Int32) (x3 : Int32) (x4 : Int32) (x5 : Int32) (x6 : Int32) (S : St), G Γ cvI 8 0 0 9 [(0, va_rf a0), (1, .int x1), (2, .int x2), (3, .int x3), (4, .int x4), (5, .int x5), (6, .int x6)] [] S (rc9 a0 x1 x2 x3 x4 x5 x6 S)) (a0 : Option Nat) (x1 : Int32) (x2 : Int32) (x3 : Int32) (x4 : Int32) (x5 : Int32) (x6 : Int32) (S : St) : G Γ cvI 8 0 0 60 [(0, va_rf a0), (1, .int x1), (2, .int x2), (3, .int x3), (4, .int x4), (5, .int x5), (6, .int x6)] [] S (b_X4_bestTurn_60 rc9 a0 x1 x2 x3 x4 x5 x6 S) := by
  unfold b_X4_bestTurn_60
  refine g_iinc1 C dX4_bestTurn_60 6 rfl (by decide) (by decide) (fun y1 => ?_)
  refine g_lveq (lv2 := [(6, .int y1), (0, va_rf a0), (1, .int x1), (2, .int x2), (3, .int x3), (4, .int x4), (5, .int x5)]) (by first | rfl | simp [va_rf_cat, vi_cat, vl_cat]) ?_
  refine g_goto C (tgt := 9) dX4_bestTurn_63 (by decide) ?_
  exact g_sub (lv2 := [(0, va_rf a0), (1, .int x1), (2, .int x2), (3, .int x3), (4, .int x4), (5, .int x5), (6, .int y1)]) [1, 2, 3, 4, 5, 6, 0] rfl (hrc9 a0 x1 x2 x3 x4 x5 y1 S)
set_option maxHeartbeats 4000000 in
set_option maxRecDepth 100000 in
theorem t_X4_bestTurn_52 {Γ : Cx} (C : CF Γ cX4_bestTurn 8 (some .int) wsX4_bestTurn RX4 rmX4_bestTurn 0 0) (rc9 : Option Nat → Int32 → Int32 → Int32 → Int32 → Int32 → Int32 → St → Option (Int32 × St)) (hrc9 : ∀ (a0 : Option Nat) (x1 : Int32) (x2 : Int32) (x3 : Int32) (x4 : Int32) (x5 : Int32) (x6 : Int32) (S : St), G Γ cvI 8 0 0 9 [(0, va_rf a0), (1, .int x1), (2, .int x2), (3, .int x3), (4, .int x4), (5, .int x5), (6, .int x6)] [] S (rc9 a0 x1 x2 x3 x4 x5 x6 S)) (a0 : Option Nat) (x1 : Int32) (x2 : Int32) (x3 : Int32) (x6 : Int32) (x7 : Int32) (S : St) : G Γ cvI 8 0 0 52 [(0, va_rf a0), (1, .int x1), (2, .int x2), (3, .int x3), (6, .int x6), (7, .int x7)] [] S (b_X4_bestTurn_52 rc9 a0 x1 x2 x3 x6 x7 S) := by
  unfold b_X4_bestTurn_52
  refine g_iload C dX4_bestTurn_52 4 rfl ?_
  refine g_istore C (i := 4) (lv2 := [(4, .int x6), (0, va_rf a0), (1, .int x1), (2, .int x2), (3, .int x3), (6, .int x6), (7, .int x7)]) dX4_bestTurn_54 (by decide) (by first | rfl | simp [va_rf_cat, vi_cat, vl_cat]) ?_
  refine g_iload C dX4_bestTurn_56 6 rfl ?_
  refine g_istore C (i := 5) (lv2 := [(5, .int x7), (4, .int x6), (0, va_rf a0), (1, .int x1), (2, .int x2), (3, .int x3), (6, .int x6), (7, .int x7)]) dX4_bestTurn_58 (by decide) (by first | rfl | simp [va_rf_cat, vi_cat, vl_cat]) ?_
  exact g_sub (lv2 := [(0, va_rf a0), (1, .int x1), (2, .int x2), (3, .int x3), (4, .int x6), (5, .int x7), (6, .int x6)]) [2, 3, 4, 5, 1, 0, 6] rfl (t_X4_bestTurn_60 C rc9 hrc9 a0 x1 x2 x3 x6 x7 x6 S)
set_option maxHeartbeats 4000000 in
set_option maxRecDepth 100000 in
theorem t_X4_bestTurn_66 {Γ : Cx} (C : CF Γ cX4_bestTurn 8 (some .int) wsX4_bestTurn RX4 rmX4_bestTurn 0 0) (x4 : Int32) (S : St) : G Γ cvI 8 0 0 66 [(4, .int x4)] [] S (b_X4_bestTurn_66  x4 S) := by
  unfold b_X4_bestTurn_66
  refine g_iload C dX4_bestTurn_66 0 rfl ?_
  exact g_iret C dX4_bestTurn_68 ⟨by decide, by decide⟩
set_option maxHeartbeats 4000000 in
set_option maxRecDepth 100000 in
theorem t_X4_bestTurn_9 {Γ : Cx} (C : CF Γ cX4_bestTurn 8 (some .int) wsX4_bestTurn RX4 rmX4_bestTurn 0 0) : ∀ (n : Nat) (a0 : Option Nat) (x1 : Int32) (x2 : Int32) (x3 : Int32) (x4 : Int32) (x5 : Int32) (x6 : Int32) (S : St), G Γ cvI 8 0 0 9 [(0, va_rf a0), (1, .int x1), (2, .int x2), (3, .int x3), (4, .int x4), (5, .int x5), (6, .int x6)] [] S (b_X4_bestTurn_9  n a0 x1 x2 x3 x4 x5 x6 S) := by
  intro n
  induction n with
  | zero => intro a0 x1 x2 x3 x4 x5 x6 S; exact g_none
  | succ n ih =>
    intro a0 x1 x2 x3 x4 x5 x6 S
    rw [b_X4_bestTurn_9]
    refine g_iload C dX4_bestTurn_9 6 rfl ?_
    refine g_aload_n C dX4_bestTurn_11 rfl 0 rfl ?_
    refine g_getI C (ci := 4) (k := 3) dX4_bestTurn_12 rfl (by decide) (by decide) (by decide) ulX4_bestTurn_X4 flX4_bestTurn_45 rfl (fun v1 ev1 => ?_)
    refine g_icmp_ge C (tgt := 66) dX4_bestTurn_15 (by decide) (fun h2 => ?_) (fun h2 => ?_)
    · exact g_sub (lv2 := [(4, .int x4)]) [4] rfl (t_X4_bestTurn_66 C x4 S)
    · refine g_iload_n C dX4_bestTurn_18 rfl 1 rfl ?_
      refine g_iload C dX4_bestTurn_19 6 rfl ?_
      refine g_iconst C (v := (2 : Int32)) dX4_bestTurn_21 (by decide) ?_
      refine g_idiv C dX4_bestTurn_22 (fun v3 ev3 => ?_)
      refine g_ishr C dX4_bestTurn_23 ?_
      refine g_iconst C (v := (1 : Int32)) dX4_bestTurn_24 (by decide) ?_
      refine g_iand C dX4_bestTurn_25 ?_
      refine g_if_ne C (tgt := 60) dX4_bestTurn_26 (by decide) (fun h4 => ?_) (fun h4 => ?_)
      · refine g_aload_n C dX4_bestTurn_29 rfl 0 rfl ?_
        refine g_iload_n C dX4_bestTurn_30 rfl 1 rfl ?_
        refine g_iload_n C dX4_bestTurn_31 rfl 2 rfl ?_
        refine g_iload_n C dX4_bestTurn_32 rfl 3 rfl ?_
        refine g_iload C dX4_bestTurn_33 6 rfl ?_
        refine g_callV C (n := 4) (ci := 4) [.int x1, .int x2, .int x3, .int x6] [] (m_X4_wayThrough a0 x1 x2 x3 x6 S) dX4_bestTurn_35 gX4_bestTurn_X4_wayThrough rfl ⟨rfl, rfl⟩ (by decide +kernel) ⟨by decide, by decide⟩ ⟨by decide, by decide⟩ rfl (by decide) rfl rfl (by first | exact Nat.le_of_ble_eq_true rfl | simp [va_rf_cat, vi_cat, vl_cat]) (fun o5 eo5 => ?_)
        show G Γ cvI 8 0 0 38 [(0, va_rf a0), (1, .int x1), (2, .int x2), (3, .int x3), (4, .int x4), (5, .int x5), (6, .int x6)] [.int o5.1] o5.2 _
        refine g_istore C (i := 7) (lv2 := [(7, .int o5.1), (0, va_rf a0), (1, .int x1), (2, .int x2), (3, .int x3), (4, .int x4), (5, .int x5), (6, .int x6)]) dX4_bestTurn_38 (by decide) (by first | rfl | simp [va_rf_cat, vi_cat, vl_cat]) ?_
        refine g_iload C dX4_bestTurn_40 5 rfl ?_
        refine g_if_lt C (tgt := 52) dX4_bestTurn_42 (by decide) (fun h6 => ?_) (fun h6 => ?_)
        · exact g_sub (lv2 := [(0, va_rf a0), (1, .int x1), (2, .int x2), (3, .int x3), (6, .int x6), (7, .int o5.1)]) [1, 2, 3, 4, 7, 0] rfl (t_X4_bestTurn_52 C (b_X4_bestTurn_9 n) ih a0 x1 x2 x3 x6 o5.1 o5.2)
        · refine g_iload C dX4_bestTurn_45 0 rfl ?_
          refine g_iload C dX4_bestTurn_47 6 rfl ?_
          refine g_icmp_ge C (tgt := 60) dX4_bestTurn_49 (by decide) (fun h7 => ?_) (fun h7 => ?_)
          · exact g_sub (lv2 := [(0, va_rf a0), (1, .int x1), (2, .int x2), (3, .int x3), (4, .int x4), (5, .int x5), (6, .int x6)]) [1, 2, 3, 4, 5, 6, 7] rfl (t_X4_bestTurn_60 C (b_X4_bestTurn_9 n) ih a0 x1 x2 x3 x4 x5 x6 o5.2)
          · exact g_sub (lv2 := [(0, va_rf a0), (1, .int x1), (2, .int x2), (3, .int x3), (6, .int x6), (7, .int o5.1)]) [1, 2, 3, 4, 7, 0] rfl (t_X4_bestTurn_52 C (b_X4_bestTurn_9 n) ih a0 x1 x2 x3 x6 o5.1 o5.2)
      · exact g_sub (lv2 := [(0, va_rf a0), (1, .int x1), (2, .int x2), (3, .int x3), (4, .int x4), (5, .int x5), (6, .int x6)]) [0, 1, 2, 3, 4, 5, 6] rfl (t_X4_bestTurn_60 C (b_X4_bestTurn_9 n) ih a0 x1 x2 x3 x4 x5 x6 S)
set_option maxHeartbeats 4000000 in
set_option maxRecDepth 100000 in
theorem m_X4_bestTurn (a0 : Option Nat) (x1 : Int32) (x2 : Int32) (x3 : Int32) (S : St) : ∀ l D cy H0 o, f_X4_bestTurn a0 x1 x2 x3 S = some o → Met l yX4_bestTurn wsX4_bestTurn rmX4_bestTurn (Pq D cy H0 [va_rf a0, .int x1, .int x2, .int x3] S) (Qx D cy H0 (cvI o)) 0 0 (fun q => H0.size ≤ q) := by
  refine met_of (cc := cX4_bestTurn) (maxL := 8) (ret := (some .int)) [va_rf a0, .int x1, .int x2, .int x3] [(0, va_rf a0), (1, .int x1), (2, .int x2), (3, .int x3)] (by decide) rfl rfl (by simp [lg_sl, va_rf_cat, vi_cat, vl_cat]) (by simp [lv_args, va_rf_cat, vi_cat, vl_cat]) (fun Γ C => ?_)
  unfold f_X4_bestTurn
  refine g_iconst C (v := (-1 : Int32)) dX4_bestTurn_0 (by decide) ?_
  refine g_istore C (i := 4) (lv2 := [(4, .int (-1 : Int32)), (0, va_rf a0), (1, .int x1), (2, .int x2), (3, .int x3)]) dX4_bestTurn_1 (by decide) (by first | rfl | simp [va_rf_cat, vi_cat, vl_cat]) ?_
  refine g_iconst C (v := (0 : Int32)) dX4_bestTurn_3 (by decide) ?_
  refine g_istore C (i := 5) (lv2 := [(5, .int (0 : Int32)), (4, .int (-1 : Int32)), (0, va_rf a0), (1, .int x1), (2, .int x2), (3, .int x3)]) dX4_bestTurn_4 (by decide) (by first | rfl | simp [va_rf_cat, vi_cat, vl_cat]) ?_
  refine g_iconst C (v := (0 : Int32)) dX4_bestTurn_6 (by decide) ?_
  refine g_istore C (i := 6) (lv2 := [(6, .int (0 : Int32)), (5, .int (0 : Int32)), (4, .int (-1 : Int32)), (0, va_rf a0), (1, .int x1), (2, .int x2), (3, .int x3)]) dX4_bestTurn_7 (by decide) (by first | rfl | simp [va_rf_cat, vi_cat, vl_cat]) ?_
  exact g_sub (lv2 := [(0, va_rf a0), (1, .int x1), (2, .int x2), (3, .int x3), (4, .int (-1 : Int32)), (5, .int (0 : Int32)), (6, .int (0 : Int32))]) [3, 4, 5, 6, 2, 1, 0] rfl (t_X4_bestTurn_9 C FU a0 x1 x2 x3 (-1 : Int32) (0 : Int32) (0 : Int32) S)
