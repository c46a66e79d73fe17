abbrev rmX4_fillWaysLeft : Room := { frames := 4, cells := 0, slots := 0, locals := 99 }
theorem flX4_fillWaysLeft_11 : Cond.fieldLink RX4 11 "LightLines$PlanSearch" "startX" "[I" ∈ wsX4_fillWaysLeft := by decide +kernel
theorem flX4_fillWaysLeft_15 : Cond.fieldLink RX4 15 "LightLines$PlanSearch" "startY" "[I" ∈ wsX4_fillWaysLeft := by decide +kernel
theorem flX4_fillWaysLeft_18 : Cond.fieldLink RX4 18 "LightLines$PlanSearch" "wayLeft" "[I" ∈ wsX4_fillWaysLeft := by decide +kernel
theorem flX4_fillWaysLeft_45 : Cond.fieldLink RX4 45 "LightLines$PlanSearch" "turns" "I" ∈ wsX4_fillWaysLeft := by decide +kernel
set_option maxRecDepth 100000 in
theorem ulX4_fillWaysLeft_X4 : ∀ w ∈ u_ws RX4 TX4 5, w ∈ wsX4_fillWaysLeft := by decide +kernel
set_option maxHeartbeats 4000000 in
set_option maxRecDepth 100000 in
theorem t_X4_fillWaysLeft_107 {Γ : Cx} (C : CF Γ cX4_fillWaysLeft 7 none wsX4_fillWaysLeft RX4 rmX4_fillWaysLeft 0 0) (rc13 : Option Nat → Int32 → St → Option (St)) (hrc13 : ∀ (a0 : Option Nat) (x2 : Int32) (S : St), G Γ cvV 7 0 0 13 [(0, va_rf a0), (2, .int x2)] [] S (rc13 a0 x2 S)) (rc19 : Option Nat → Int32 → Int32 → St → Option (St)) (hrc19 : ∀ (a0 : Option Nat) (x2 : Int32) (x3 : Int32) (S : St), G Γ cvV 7 0 0 19 [(0, va_rf a0), (2, .int x2), (3, .int x3)] [] S (rc19 a0 x2 x3 S)) (a0 : Option Nat) (x2 : Int32) (x3 : Int32) (S : St) : G Γ cvV 7 0 0 107 [(0, va_rf a0), (2, .int x2), (3, .int x3)] [] S (b_X4_fillWaysLeft_107 rc13 rc19 a0 x2 x3 S) := by
  unfold b_X4_fillWaysLeft_107
  refine g_iinc1 C dX4_fillWaysLeft_107 2 rfl (by decide) (by decide) (fun y1 => ?_)
  refine g_lveq (lv2 := [(3, .int y1), (0, va_rf a0), (2, .int x2)]) (by first | rfl | simp [va_rf_cat, vi_cat, vl_cat]) ?_
  refine g_goto C (tgt := 19) dX4_fillWaysLeft_110 (by decide) ?_
  exact g_sub (lv2 := [(0, va_rf a0), (2, .int x2), (3, .int y1)]) [1, 2, 0] rfl (hrc19 a0 x2 y1 S)
set_option maxHeartbeats 4000000 in
set_option maxRecDepth 100000 in
theorem t_X4_fillWaysLeft_106 {Γ : Cx} (C : CF Γ cX4_fillWaysLeft 7 none wsX4_fillWaysLeft RX4 rmX4_fillWaysLeft 0 0) (rc13 : Option Nat → Int32 → St → Option (St)) (hrc13 : ∀ (a0 : Option Nat) (x2 : Int32) (S : St), G Γ cvV 7 0 0 13 [(0, va_rf a0), (2, .int x2)] [] S (rc13 a0 x2 S)) (rc19 : Option Nat → Int32 → Int32 → St → Option (St)) (hrc19 : ∀ (a0 : Option Nat) (x2 : Int32) (x3 : Int32) (S : St), G Γ cvV 7 0 0 19 [(0, va_rf a0), (2, .int x2), (3, .int x3)] [] S (rc19 a0 x2 x3 S)) (a0 : Option Nat) (x2 : Int32) (x3 : Int32) (r0 : Option Nat) (s1 : Int32) (s2 : Int32) (S : St) : G Γ cvV 7 0 0 106 [(0, va_rf a0), (2, .int x2), (3, .int x3)] [.int s2, .int s1, va_rf r0] S (b_X4_fillWaysLeft_106 rc13 rc19 a0 x2 x3 r0 s1 s2 S) := by
  unfold b_X4_fillWaysLeft_106
  refine g_ist C dX4_fillWaysLeft_106 (fun S1 eS1 => ?_)
  exact g_sub (lv2 := [(0, va_rf a0), (2, .int x2), (3, .int x3)]) [0, 1, 2] rfl (t_X4_fillWaysLeft_107 C rc13 hrc13 rc19 hrc19 a0 x2 x3 S1)
set_option maxHeartbeats 4000000 in
set_option maxRecDepth 100000 in
theorem t_X4_fillWaysLeft_113 {Γ : Cx} (C : CF Γ cX4_fillWaysLeft 7 none wsX4_fillWaysLeft RX4 rmX4_fillWaysLeft 0 0) (rc13 : Option Nat → Int32 → St → Option (St)) (hrc13 : ∀ (a0 : Option Nat) (x2 : Int32) (S : St), G Γ cvV 7 0 0 13 [(0, va_rf a0), (2, .int x2)] [] S (rc13 a0 x2 S)) (a0 : Option Nat) (x2 : Int32) (S : St) : G Γ cvV 7 0 0 113 [(0, va_rf a0), (2, .int x2)] [] S (b_X4_fillWaysLeft_113 rc13 a0 x2 S) := by
  unfold b_X4_fillWaysLeft_113
  refine g_iinc1 C dX4_fillWaysLeft_113 1 rfl (by decide) (by decide) (fun y1 => ?_)
  refine g_lveq (lv2 := [(2, .int y1), (0, va_rf a0)]) (by first | rfl | simp [va_rf_cat, vi_cat, vl_cat]) ?_
  refine g_goto C (tgt := 13) dX4_fillWaysLeft_116 (by decide) ?_
  exact g_sub (lv2 := [(0, va_rf a0), (2, .int y1)]) [1, 0] rfl (hrc13 a0 y1 S)
set_option maxHeartbeats 4000000 in
set_option maxRecDepth 100000 in
theorem t_X4_fillWaysLeft_19 {Γ : Cx} (C : CF Γ cX4_fillWaysLeft 7 none wsX4_fillWaysLeft RX4 rmX4_fillWaysLeft 0 0) (rc13 : Option Nat → Int32 → St → Option (St)) (hrc13 : ∀ (a0 : Option Nat) (x2 : Int32) (S : St), G Γ cvV 7 0 0 13 [(0, va_rf a0), (2, .int x2)] [] S (rc13 a0 x2 S)) : ∀ (n : Nat) (a0 : Option Nat) (x2 : Int32) (x3 : Int32) (S : St), G Γ cvV 7 0 0 19 [(0, va_rf a0), (2, .int x2), (3, .int x3)] [] S (b_X4_fillWaysLeft_19 rc13 n a0 x2 x3 S) := by
  intro n
  induction n with
  | zero => intro a0 x2 x3 S; exact g_none
  | succ n ih =>
    intro a0 x2 x3 S
    rw [b_X4_fillWaysLeft_19]
    refine g_iload_n C dX4_fillWaysLeft_19 rfl 2 rfl ?_
    refine g_aload_n C dX4_fillWaysLeft_20 rfl 0 rfl ?_
    refine g_getI C (ci := 4) (k := 3) dX4_fillWaysLeft_21 rfl (by decide) (by decide) (by decide) ulX4_fillWaysLeft_X4 flX4_fillWaysLeft_45 rfl (fun v1 ev1 => ?_)
    refine g_icmp_ge C (tgt := 113) dX4_fillWaysLeft_24 (by decide) (fun h2 => ?_) (fun h2 => ?_)
    · exact g_sub (lv2 := [(0, va_rf a0), (2, .int x2)]) [0, 1] rfl (t_X4_fillWaysLeft_113 C rc13 hrc13 a0 x2 S)
    · refine g_iload_n C dX4_fillWaysLeft_27 rfl 1 rfl ?_
      refine g_iload_n C dX4_fillWaysLeft_28 rfl 2 rfl ?_
      refine g_iconst C (v := (2 : Int32)) dX4_fillWaysLeft_29 (by decide) ?_
      refine g_idiv C dX4_fillWaysLeft_30 (fun v3 ev3 => ?_)
      refine g_ishr C dX4_fillWaysLeft_31 ?_
      refine g_iconst C (v := (1 : Int32)) dX4_fillWaysLeft_32 (by decide) ?_
      refine g_iand C dX4_fillWaysLeft_33 ?_
      refine g_if_eq C (tgt := 107) dX4_fillWaysLeft_34 (by decide) (fun h4 => ?_) (fun h4 => ?_)
      · exact g_sub (lv2 := [(0, va_rf a0), (2, .int x2), (3, .int x3)]) [0, 1, 2] rfl (t_X4_fillWaysLeft_107 C rc13 hrc13 (b_X4_fillWaysLeft_19 rc13 n) ih a0 x2 x3 S)
      · refine g_aload_n C dX4_fillWaysLeft_37 rfl 0 rfl ?_
        refine g_getR C (ci := 4) (k := 0) dX4_fillWaysLeft_38 rfl (by decide) (by decide) (by decide) ulX4_fillWaysLeft_X4 flX4_fillWaysLeft_11 rfl (fun v5 ev5 => ?_)
        refine g_iload_n C dX4_fillWaysLeft_41 rfl 2 rfl ?_
        refine g_iconst C (v := (1 : Int32)) dX4_fillWaysLeft_42 (by decide) ?_
        refine g_ixor C dX4_fillWaysLeft_43 ?_
        refine g_ild C dX4_fillWaysLeft_44 (fun v6 ev6 => ?_)
        refine g_istore C (i := 4) (lv2 := [(4, .int v6), (0, va_rf a0), (2, .int x2), (3, .int x3)]) dX4_fillWaysLeft_45 (by decide) (by first | rfl | simp [va_rf_cat, vi_cat, vl_cat]) ?_
        refine g_aload_n C dX4_fillWaysLeft_47 rfl 1 rfl ?_
        refine g_getR C (ci := 4) (k := 1) dX4_fillWaysLeft_48 rfl (by decide) (by decide) (by decide) ulX4_fillWaysLeft_X4 flX4_fillWaysLeft_15 rfl (fun v7 ev7 => ?_)
        refine g_iload_n C dX4_fillWaysLeft_51 rfl 3 rfl ?_
        refine g_iconst C (v := (1 : Int32)) dX4_fillWaysLeft_52 (by decide) ?_
        refine g_ixor C dX4_fillWaysLeft_53 ?_
        refine g_ild C dX4_fillWaysLeft_54 (fun v8 ev8 => ?_)
        refine g_istore C (i := 5) (lv2 := [(5, .int v8), (4, .int v6), (0, va_rf a0), (2, .int x2), (3, .int x3)]) dX4_fillWaysLeft_55 (by decide) (by first | rfl | simp [va_rf_cat, vi_cat, vl_cat]) ?_
        refine g_aload_n C dX4_fillWaysLeft_57 rfl 2 rfl ?_
        refine g_iload_n C dX4_fillWaysLeft_58 rfl 3 rfl ?_
        refine g_iload C dX4_fillWaysLeft_59 1 rfl ?_
        refine g_iload C dX4_fillWaysLeft_61 0 rfl ?_
        refine g_callV C (n := 3) (ci := 4) [.int x2, .int v6, .int v8] [] (m_X4_bestTurn a0 x2 v6 v8 S) dX4_fillWaysLeft_63 gX4_fillWaysLeft_X4_bestTurn rfl ⟨rfl, rfl⟩ (by decide +kernel) ⟨by decide, by decide⟩ ⟨by decide, by decide⟩ rfl (by decide) rfl rfl (by first | exact Nat.le_of_ble_eq_true rfl | simp [va_rf_cat, vi_cat, vl_cat]) (fun o9 eo9 => ?_)
        show G Γ cvV 7 0 0 66 [(5, .int v8), (4, .int v6), (0, va_rf a0), (2, .int x2), (3, .int x3)] [.int o9.1] o9.2 _
        refine g_istore C (i := 6) (lv2 := [(6, .int o9.1), (5, .int v8), (4, .int v6), (0, va_rf a0), (2, .int x2), (3, .int x3)]) dX4_fillWaysLeft_66 (by decide) (by first | rfl | simp [va_rf_cat, vi_cat, vl_cat]) ?_
        refine g_aload_n C dX4_fillWaysLeft_68 rfl 3 rfl ?_
        refine g_getR C (ci := 4) (k := 2) dX4_fillWaysLeft_69 rfl (by decide) (by decide) (by decide) ulX4_fillWaysLeft_X4 flX4_fillWaysLeft_18 rfl (fun v10 ev10 => ?_)
        refine g_iload_n C dX4_fillWaysLeft_72 rfl 4 rfl ?_
        refine g_bipush C (v := (16 : Int32)) dX4_fillWaysLeft_73 (by decide) ?_
        refine g_imul C dX4_fillWaysLeft_75 ?_
        refine g_iload_n C dX4_fillWaysLeft_76 rfl 5 rfl ?_
        refine g_iadd C dX4_fillWaysLeft_77 ?_
        refine g_iload C dX4_fillWaysLeft_78 0 rfl ?_
        refine g_if_ge C (tgt := 95) dX4_fillWaysLeft_80 (by decide) (fun h11 => ?_) (fun h11 => ?_)
        · refine g_aload_n C dX4_fillWaysLeft_95 rfl 3 rfl ?_
          refine g_iload_n C dX4_fillWaysLeft_96 rfl 4 rfl ?_
          refine g_iload C dX4_fillWaysLeft_97 2 rfl ?_
          refine g_iload C dX4_fillWaysLeft_99 1 rfl ?_
          refine g_iload C dX4_fillWaysLeft_101 0 rfl ?_
          refine g_callV C (n := 4) (ci := 4) [.int x2, .int v6, .int v8, .int o9.1] [.int ((x2 * (16 : Int32)) + x3), va_rf v10] (m_X4_wayThrough a0 x2 v6 v8 o9.1 o9.2) dX4_fillWaysLeft_103 gX4_fillWaysLeft_X4_wayThrough rfl ⟨rfl, rfl⟩ (by decide +kernel) ⟨by decide, by decide⟩ ⟨by decide, by decide⟩ rfl (by decide) rfl rfl (by first | exact Nat.le_of_ble_eq_true rfl | simp [va_rf_cat, vi_cat, vl_cat]) (fun o12 eo12 => ?_)
          show G Γ cvV 7 0 0 106 [(6, .int o9.1), (5, .int v8), (4, .int v6), (0, va_rf a0), (2, .int x2), (3, .int x3)] [.int o12.1, .int ((x2 * (16 : Int32)) + x3), va_rf v10] o12.2 _
          exact g_sub (lv2 := [(0, va_rf a0), (2, .int x2), (3, .int x3)]) [3, 4, 5] rfl (t_X4_fillWaysLeft_106 C rc13 hrc13 (b_X4_fillWaysLeft_19 rc13 n) ih a0 x2 x3 v10 ((x2 * (16 : Int32)) + x3) o12.1 o12.2)
        · refine g_iload C dX4_fillWaysLeft_83 2 rfl ?_
          refine g_iload C dX4_fillWaysLeft_85 1 rfl ?_
          refine g_iconst C (v := (0 : Int32)) dX4_fillWaysLeft_87 (by decide) ?_
          refine g_iconst C (v := (0 : Int32)) dX4_fillWaysLeft_88 (by decide) ?_
          refine g_callSN C (n := 4) (host := "LightLines") [.int v6, .int v8, .int (0 : Int32), .int (0 : Int32)] [.int ((x2 * (16 : Int32)) + x3), va_rf v10] (m_X11_way v6 v8 (0 : Int32) (0 : Int32) o9.2) dX4_fillWaysLeft_89 gX4_fillWaysLeft_X11_way_n65 (by decide +kernel) (by decide +kernel) (by decide +kernel) rfl ⟨rfl, rfl⟩ (by decide +kernel) ⟨by decide, by decide⟩ ⟨by decide, by decide⟩ rfl rfl (by first | exact Nat.le_of_ble_eq_true rfl | simp [va_rf_cat, vi_cat, vl_cat]) (fun o13 eo13 => ?_)
          show G Γ cvV 7 0 0 92 [(6, .int o9.1), (5, .int v8), (4, .int v6), (0, va_rf a0), (2, .int x2), (3, .int x3)] [.int o13.1, .int ((x2 * (16 : Int32)) + x3), va_rf v10] o13.2 _
          refine g_goto C (tgt := 106) dX4_fillWaysLeft_92 (by decide) ?_
          exact g_sub (lv2 := [(0, va_rf a0), (2, .int x2), (3, .int x3)]) [3, 4, 5] rfl (t_X4_fillWaysLeft_106 C rc13 hrc13 (b_X4_fillWaysLeft_19 rc13 n) ih a0 x2 x3 v10 ((x2 * (16 : Int32)) + x3) o13.1 o13.2)
set_option maxHeartbeats 4000000 in
set_option maxRecDepth 100000 in
theorem t_X4_fillWaysLeft_13 {Γ : Cx} (C : CF Γ cX4_fillWaysLeft 7 none wsX4_fillWaysLeft RX4 rmX4_fillWaysLeft 0 0) : ∀ (n : Nat) (a0 : Option Nat) (x2 : Int32) (S : St), G Γ cvV 7 0 0 13 [(0, va_rf a0), (2, .int x2)] [] S (b_X4_fillWaysLeft_13  n a0 x2 S) := by
  intro n
  induction n with
  | zero => intro a0 x2 S; exact g_none
  | succ n ih =>
    intro a0 x2 S
    rw [b_X4_fillWaysLeft_13]
    refine g_iload_n C dX4_fillWaysLeft_13 rfl 1 rfl ?_
    refine g_if_le C (tgt := 119) dX4_fillWaysLeft_14 (by decide) (fun h1 => ?_) (fun h1 => ?_)
    · exact g_vret C dX4_fillWaysLeft_119 ⟨by decide, by decide⟩
    · refine g_iconst C (v := (0 : Int32)) dX4_fillWaysLeft_17 (by decide) ?_
      refine g_istore_n C (i := 3) (lv2 := [(3, .int (0 : Int32)), (0, va_rf a0), (2, .int x2)]) dX4_fillWaysLeft_18 rfl (by decide) (by first | rfl | simp [va_rf_cat, vi_cat, vl_cat]) ?_
      exact g_sub (lv2 := [(0, va_rf a0), (2, .int x2), (3, .int (0 : Int32))]) [1, 2, 0] rfl (t_X4_fillWaysLeft_19 C (b_X4_fillWaysLeft_13 n) ih FU a0 x2 (0 : Int32) S)
set_option maxHeartbeats 4000000 in
set_option maxRecDepth 100000 in
theorem m_X4_fillWaysLeft (a0 : Option Nat) (S : St) : ∀ l D cy H0 o, f_X4_fillWaysLeft a0 S = some o → Met l yX4_fillWaysLeft wsX4_fillWaysLeft rmX4_fillWaysLeft (Pq D cy H0 [va_rf a0] S) (Qx D cy H0 (cvV o)) 0 0 (fun q => H0.size ≤ q) := by
  refine met_of (cc := cX4_fillWaysLeft) (maxL := 7) (ret := none) [va_rf a0] [(0, va_rf a0)] (by decide) rfl rfl (by simp [lg_sl, va_rf_cat, vi_cat, vl_cat]) (by simp [lv_args, va_rf_cat, vi_cat, vl_cat]) (fun Γ C => ?_)
  unfold f_X4_fillWaysLeft
  refine g_iconst C (v := (1 : Int32)) dX4_fillWaysLeft_0 (by decide) ?_
  refine g_aload_n C dX4_fillWaysLeft_1 rfl 0 rfl ?_
  refine g_getI C (ci := 4) (k := 3) dX4_fillWaysLeft_2 rfl (by decide) (by decide) (by decide) ulX4_fillWaysLeft_X4 flX4_fillWaysLeft_45 rfl (fun v1 ev1 => ?_)
  refine g_iconst C (v := (2 : Int32)) dX4_fillWaysLeft_5 (by decide) ?_
  refine g_idiv C dX4_fillWaysLeft_6 (fun v2 ev2 => ?_)
  refine g_ishl C dX4_fillWaysLeft_7 ?_
  refine g_iconst C (v := (1 : Int32)) dX4_fillWaysLeft_8 (by decide) ?_
  refine g_isub C dX4_fillWaysLeft_9 ?_
  refine g_topi (fun y3 => ?_)
  refine g_istore_n C (i := 1) (lv2 := [(1, .int y3), (0, va_rf a0)]) dX4_fillWaysLeft_10 rfl (by decide) (by first | rfl | simp [va_rf_cat, vi_cat, vl_cat]) ?_
  refine g_iload_n C dX4_fillWaysLeft_11 rfl 0 rfl ?_
  refine g_istore_n C (i := 2) (lv2 := [(2, .int y3), (1, .int y3), (0, va_rf a0)]) dX4_fillWaysLeft_12 rfl (by decide) (by first | rfl | simp [va_rf_cat, vi_cat, vl_cat]) ?_
  exact g_sub (lv2 := [(0, va_rf a0), (2, .int y3)]) [2, 0] rfl (t_X4_fillWaysLeft_13 C FU a0 y3 S)
abbrev rmX4_takeEnds : Room := { frames := 2, cells := 0, slots := 0, locals := 42 }
theorem flX4_takeEnds_11 : Cond.fieldLink RX4 11 "LightLines$PlanSearch" "startX" "[I" ∈ wsX4_takeEnds := by decide +kernel
theorem flX4_takeEnds_15 : Cond.fieldLink RX4 15 "LightLines$PlanSearch" "startY" "[I" ∈ wsX4_takeEnds := by decide +kernel
theorem flX4_takeEnds_25 : Cond.fieldLink RX4 25 "LightLines$Strokes" "held" "I" ∈ wsX4_takeEnds := by decide +kernel
theorem flX4_takeEnds_45 : Cond.fieldLink RX4 45 "LightLines$PlanSearch" "turns" "I" ∈ wsX4_takeEnds := by decide +kernel
set_option maxRecDepth 100000 in
theorem ulX4_takeEnds_X4 : ∀ w ∈ u_ws RX4 TX4 5, w ∈ wsX4_takeEnds := by decide +kernel
set_option maxRecDepth 100000 in
theorem ulX4_takeEnds_X9 : ∀ w ∈ u_ws RX9 TX9 4, w ∈ wsX4_takeEnds := by decide +kernel
set_option maxHeartbeats 4000000 in
set_option maxRecDepth 100000 in
theorem t_X4_takeEnds_72 {Γ : Cx} (C : CF Γ cX4_takeEnds 5 none wsX4_takeEnds RX4 rmX4_takeEnds 0 0) (rc12 : Option Nat → Option Nat → Int32 → St → Option (St)) (hrc12 : ∀ (a0 : Option Nat) (a1 : Option Nat) (x2 : Int32) (S : St), G Γ cvV 5 0 0 12 [(0, va_rf a0), (1, va_rf a1), (2, .int x2)] [] S (rc12 a0 a1 x2 S)) (a0 : Option Nat) (a1 : Option Nat) (x2 : Int32) (S : St) : G Γ cvV 5 0 0 72 [(0, va_rf a0), (1, va_rf a1), (2, .int x2)] [] S (b_X4_takeEnds_72 rc12 a0 a1 x2 S) := by
  unfold b_X4_takeEnds_72
  refine g_iinc1 C dX4_takeEnds_72 2 rfl (by decide) (by decide) (fun y1 => ?_)
  refine g_lveq (lv2 := [(2, .int y1), (0, va_rf a0), (1, va_rf a1)]) (by first | rfl | simp [va_rf_cat, vi_cat, vl_cat]) ?_
  refine g_goto C (tgt := 12) dX4_takeEnds_75 (by decide) ?_
  exact g_sub (lv2 := [(0, va_rf a0), (1, va_rf a1), (2, .int y1)]) [1, 2, 0] rfl (hrc12 a0 a1 y1 S)
set_option maxHeartbeats 4000000 in
set_option maxRecDepth 100000 in
theorem t_X4_takeEnds_12 {Γ : Cx} (C : CF Γ cX4_takeEnds 5 none wsX4_takeEnds RX4 rmX4_takeEnds 0 0) : ∀ (n : Nat) (a0 : Option Nat) (a1 : Option Nat) (x2 : Int32) (S : St), G Γ cvV 5 0 0 12 [(0, va_rf a0), (1, va_rf a1), (2, .int x2)] [] S (b_X4_takeEnds_12  n a0 a1 x2 S) := by
  intro n
  induction n with
  | zero => intro a0 a1 x2 S; exact g_none
  | succ n ih =>
    intro a0 a1 x2 S
    rw [b_X4_takeEnds_12]
    refine g_iload_n C dX4_takeEnds_12 rfl 2 rfl ?_
    refine g_aload_n C dX4_takeEnds_13 rfl 0 rfl ?_
    refine g_getI C (ci := 4) (k := 3) dX4_takeEnds_14 rfl (by decide) (by decide) (by decide) ulX4_takeEnds_X4 flX4_takeEnds_45 rfl (fun v1 ev1 => ?_)
    refine g_icmp_ge C (tgt := 78) dX4_takeEnds_17 (by decide) (fun h2 => ?_) (fun h2 => ?_)
    · exact g_vret C dX4_takeEnds_78 ⟨by decide, by decide⟩
    · refine g_iload_n C dX4_takeEnds_20 rfl 2 rfl ?_
      refine g_bipush C (v := (16 : Int32)) dX4_takeEnds_21 (by decide) ?_
      refine g_icmp_ge C (tgt := 78) dX4_takeEnds_23 (by decide) (fun h3 => ?_) (fun h3 => ?_)
      · exact g_vret C dX4_takeEnds_78 ⟨by decide, by decide⟩
      · refine g_aload_n C dX4_takeEnds_26 rfl 1 rfl ?_
        refine g_iload_n C dX4_takeEnds_27 rfl 2 rfl ?_
        refine g_iconst C (v := (2 : Int32)) dX4_takeEnds_28 (by decide) ?_
        refine g_idiv C dX4_takeEnds_29 (fun v4 ev4 => ?_)
        refine g_callV C (n := 1) (ci := 8) [.int v4] [] (m_X9_at a1 v4 S) dX4_takeEnds_30 gX4_takeEnds_X9_at rfl ⟨rfl, rfl⟩ (by decide +kernel) ⟨by decide, by decide⟩ ⟨by decide, by decide⟩ rfl (by decide) rfl rfl (by first | exact Nat.le_of_ble_eq_true rfl | simp [va_rf_cat, vi_cat, vl_cat]) (fun o5 eo5 => ?_)
        show G Γ cvV 5 0 0 33 [(0, va_rf a0), (1, va_rf a1), (2, .int x2)] [va_rf o5.1] o5.2 _
        refine g_astore_n C (i := 3) (lv2 := [(3, va_rf o5.1), (0, va_rf a0), (1, va_rf a1), (2, .int x2)]) dX4_takeEnds_33 rfl (by decide) (by first | rfl | simp [va_rf_cat, vi_cat, vl_cat]) ?_
        refine g_aload_n C dX4_takeEnds_34 rfl 0 rfl ?_
        refine g_ifnull C (tgt := 72) dX4_takeEnds_35 (by decide) (fun h6 => ?_) (fun h6 => ?_)
        · exact g_sub (lv2 := [(0, va_rf a0), (1, va_rf a1), (2, .int x2)]) [1, 2, 3] rfl (t_X4_takeEnds_72 C (b_X4_takeEnds_12 n) ih a0 a1 x2 o5.2)
        · refine g_aload_n C dX4_takeEnds_38 rfl 0 rfl ?_
          refine g_iconst C (v := (0 : Int32)) dX4_takeEnds_39 (by decide) ?_
          refine g_iload_n C dX4_takeEnds_40 rfl 3 rfl ?_
          refine g_iconst C (v := (2 : Int32)) dX4_takeEnds_41 (by decide) ?_
          refine g_irem C dX4_takeEnds_42 (fun v7 ev7 => ?_)
          refine g_call3 C (n := 2) [.int (0 : Int32), .int v7] [] (m_X8_gone o5.1 (0 : Int32) v7 o5.2) (m_X8_gone o5.1 (0 : Int32) v7 o5.2) (m_X8_gone o5.1 (0 : Int32) v7 o5.2) dX4_takeEnds_43 (fun R s args ht hR => va_cwU 2 ht gX4_takeEnds_X8_gone_u52X1 rfl rfl rfl rfl (by decide +kernel) (by subst hR; exact ⟨by decide, by decide⟩)) (fun R s args ht hR => va_cwU 2 ht gX4_takeEnds_X8_gone_u52X2 rfl rfl rfl rfl (by decide +kernel) (by subst hR; exact ⟨by decide, by decide⟩)) (fun R s args ht hR => va_cwU 2 ht gX4_takeEnds_X8_gone_u52X7 rfl rfl rfl rfl (by decide +kernel) (by subst hR; exact ⟨by decide, by decide⟩)) ⟨by decide, by decide⟩ rfl rfl (by first | exact Nat.le_of_ble_eq_true rfl | simp [va_rf_cat, vi_cat, vl_cat]) (fun o8 eo8 => ?_)
          show G Γ cvV 5 0 0 46 [(3, va_rf o5.1), (0, va_rf a0), (1, va_rf a1), (2, .int x2)] [.int o8.1] o8.2 _
          refine g_istore C (i := 4) (lv2 := [(4, .int o8.1), (3, va_rf o5.1), (0, va_rf a0), (1, va_rf a1), (2, .int x2)]) dX4_takeEnds_46 (by decide) (by first | rfl | simp [va_rf_cat, vi_cat, vl_cat]) ?_
          refine g_aload_n C dX4_takeEnds_48 rfl 2 rfl ?_
          refine g_getR C (ci := 4) (k := 0) dX4_takeEnds_49 rfl (by decide) (by decide) (by decide) ulX4_takeEnds_X4 flX4_takeEnds_11 rfl (fun v9 ev9 => ?_)
          refine g_iload_n C dX4_takeEnds_52 rfl 4 rfl ?_
          refine g_aload_n C dX4_takeEnds_53 rfl 1 rfl ?_
          refine g_iload C dX4_takeEnds_54 0 rfl ?_
          refine g_call3 C (n := 1) [.int o8.1] [.int x2, va_rf v9] (m_X8_xAt o5.1 o8.1 o8.2) (m_X8_xAt o5.1 o8.1 o8.2) (m_X8_xAt o5.1 o8.1 o8.2) dX4_takeEnds_56 (fun R s args ht hR => va_cwU 1 ht gX4_takeEnds_X8_xAt_u58X1 rfl rfl rfl rfl (by decide +kernel) (by subst hR; exact ⟨by decide, by decide⟩)) (fun R s args ht hR => va_cwU 1 ht gX4_takeEnds_X8_xAt_u58X2 rfl rfl rfl rfl (by decide +kernel) (by subst hR; exact ⟨by decide, by decide⟩)) (fun R s args ht hR => va_cwU 1 ht gX4_takeEnds_X8_xAt_u58X7 rfl rfl rfl rfl (by decide +kernel) (by subst hR; exact ⟨by decide, by decide⟩)) ⟨by decide, by decide⟩ rfl rfl (by first | exact Nat.le_of_ble_eq_true rfl | simp [va_rf_cat, vi_cat, vl_cat]) (fun o10 eo10 => ?_)
          show G Γ cvV 5 0 0 59 [(4, .int o8.1), (3, va_rf o5.1), (0, va_rf a0), (1, va_rf a1), (2, .int x2)] [.int o10.1, .int x2, va_rf v9] o10.2 _
          refine g_ist C dX4_takeEnds_59 (fun S11 eS11 => ?_)
          refine g_aload_n C dX4_takeEnds_60 rfl 2 rfl ?_
          refine g_getR C (ci := 4) (k := 1) dX4_takeEnds_61 rfl (by decide) (by decide) (by decide) ulX4_takeEnds_X4 flX4_takeEnds_15 rfl (fun v12 ev12 => ?_)
          refine g_iload_n C dX4_takeEnds_64 rfl 4 rfl ?_
          refine g_aload_n C dX4_takeEnds_65 rfl 1 rfl ?_
          refine g_iload C dX4_takeEnds_66 0 rfl ?_
          refine g_call3 C (n := 1) [.int o8.1] [.int x2, va_rf v12] (m_X8_yAt o5.1 o8.1 S11) (m_X8_yAt o5.1 o8.1 S11) (m_X8_yAt o5.1 o8.1 S11) dX4_takeEnds_68 (fun R s args ht hR => va_cwU 1 ht gX4_takeEnds_X8_yAt_u62X1 rfl rfl rfl rfl (by decide +kernel) (by subst hR; exact ⟨by decide, by decide⟩)) (fun R s args ht hR => va_cwU 1 ht gX4_takeEnds_X8_yAt_u62X2 rfl rfl rfl rfl (by decide +kernel) (by subst hR; exact ⟨by decide, by decide⟩)) (fun R s args ht hR => va_cwU 1 ht gX4_takeEnds_X8_yAt_u62X7 rfl rfl rfl rfl (by decide +kernel) (by subst hR; exact ⟨by decide, by decide⟩)) ⟨by decide, by decide⟩ rfl rfl (by first | exact Nat.le_of_ble_eq_true rfl | simp [va_rf_cat, vi_cat, vl_cat]) (fun o13 eo13 => ?_)
          show G Γ cvV 5 0 0 71 [(4, .int o8.1), (3, va_rf o5.1), (0, va_rf a0), (1, va_rf a1), (2, .int x2)] [.int o13.1, .int x2, va_rf v12] o13.2 _
          refine g_ist C dX4_takeEnds_71 (fun S14 eS14 => ?_)
          exact g_sub (lv2 := [(0, va_rf a0), (1, va_rf a1), (2, .int x2)]) [2, 3, 4] rfl (t_X4_takeEnds_72 C (b_X4_takeEnds_12 n) ih a0 a1 x2 S14)
set_option maxHeartbeats 4000000 in
set_option maxRecDepth 100000 in
theorem m_X4_takeEnds (a0 : Option Nat) (a1 : Option Nat) (S : St) : ∀ l D cy H0 o, f_X4_takeEnds a0 a1 S = some o → Met l yX4_takeEnds wsX4_takeEnds rmX4_takeEnds (Pq D cy H0 [va_rf a0, va_rf a1] S) (Qx D cy H0 (cvV o)) 0 0 (fun q => H0.size ≤ q) := by
  refine met_of (cc := cX4_takeEnds) (maxL := 5) (ret := none) [va_rf a0, va_rf a1] [(0, va_rf a0), (1, va_rf a1)] (by decide) rfl rfl (by simp [lg_sl, va_rf_cat, vi_cat, vl_cat]) (by simp [lv_args, va_rf_cat, vi_cat, vl_cat]) (fun Γ C => ?_)
  unfold f_X4_takeEnds
  refine g_aload_n C dX4_takeEnds_0 rfl 0 rfl ?_
  refine g_iconst C (v := (2 : Int32)) dX4_takeEnds_1 (by decide) ?_
  refine g_aload_n C dX4_takeEnds_2 rfl 1 rfl ?_
  refine g_getI C (ci := 8) (k := 3) dX4_takeEnds_3 rfl (by decide) (by decide) (by decide) ulX4_takeEnds_X9 flX4_takeEnds_25 rfl (fun v1 ev1 => ?_)
  refine g_imul C dX4_takeEnds_6 ?_
  refine g_putI C (ci := 4) (k := 3) (ty0 := tyX4) dX4_takeEnds_7 rfl (by decide) (by decide) (by decide) tyX4_ok nmX4 ulX4_takeEnds_X4 flX4_takeEnds_45 rfl rfl ⟨rfl, rfl⟩ (fun S2 eS2 => ?_)
  refine g_iconst C (v := (0 : Int32)) dX4_takeEnds_10 (by decide) ?_
  refine g_istore_n C (i := 2) (lv2 := [(2, .int (0 : Int32)), (0, va_rf a0), (1, va_rf a1)]) dX4_takeEnds_11 rfl (by decide) (by first | rfl | simp [va_rf_cat, vi_cat, vl_cat]) ?_
  exact g_sub (lv2 := [(0, va_rf a0), (1, va_rf a1), (2, .int (0 : Int32))]) [1, 2, 0] rfl (t_X4_takeEnds_12 C FU a0 a1 (0 : Int32) S2)
abbrev rmX9_planAt : Room := { frames := 0, cells := 0, slots := 0, locals := 0 }
theorem flX9_planAt_17 : Cond.fieldLink RX9 17 "LightLines$Strokes" "order" "[I" ∈ wsX9_planAt := by decide +kernel
theorem flX9_planAt_21 : Cond.fieldLink RX9 21 "LightLines$Strokes" "directions" "[I" ∈ wsX9_planAt := by decide +kernel
set_option maxRecDepth 100000 in
theorem ulX9_planAt_X9 : ∀ w ∈ u_ws RX9 TX9 4, w ∈ wsX9_planAt := by decide +kernel
set_option maxHeartbeats 4000000 in
set_option maxRecDepth 100000 in
theorem m_X9_planAt (a0 : Option Nat) (x1 : Int32) (x2 : Int32) (x3 : Int32) (S : St) : ∀ l D cy H0 o, f_X9_planAt a0 x1 x2 x3 S = some o → Met l yX9_planAt wsX9_planAt rmX9_planAt (Pq D cy H0 [va_rf a0, .int x1, .int x2, .int x3] S) (Qx D cy H0 (cvV o)) 0 0 (fun q => H0.size ≤ q) := by
  refine met_of (cc := cX9_planAt) (maxL := 4) (ret := none) [va_rf a0, .int x1, .int x2, .int x3] [(0, va_rf a0), (1, .int x1), (2, .int x2), (3, .int x3)] (by decide) rfl rfl (by simp [lg_sl, va_rf_cat, vi_cat, vl_cat]) (by simp [lv_args, va_rf_cat, vi_cat, vl_cat]) (fun Γ C => ?_)
  unfold f_X9_planAt
  refine g_iload_n C dX9_planAt_0 rfl 1 rfl ?_
  refine g_if_lt C (tgt := 24) dX9_planAt_1 (by decide) (fun h1 => ?_) (fun h1 => ?_)
  · exact g_vret C dX9_planAt_24 ⟨by decide, by decide⟩
  · refine g_iload_n C dX9_planAt_4 rfl 1 rfl ?_
    refine g_bipush C (v := (8 : Int32)) dX9_planAt_5 (by decide) ?_
    refine g_icmp_ge C (tgt := 24) dX9_planAt_7 (by decide) (fun h2 => ?_) (fun h2 => ?_)
    · exact g_vret C dX9_planAt_24 ⟨by decide, by decide⟩
    · refine g_aload_n C dX9_planAt_10 rfl 0 rfl ?_
      refine g_getR C (ci := 8) (k := 1) dX9_planAt_11 rfl (by decide) (by decide) (by decide) ulX9_planAt_X9 flX9_planAt_17 rfl (fun v3 ev3 => ?_)
      refine g_iload_n C dX9_planAt_14 rfl 1 rfl ?_
      refine g_iload_n C dX9_planAt_15 rfl 2 rfl ?_
      refine g_ist C dX9_planAt_16 (fun S4 eS4 => ?_)
      refine g_aload_n C dX9_planAt_17 rfl 0 rfl ?_
      refine g_getR C (ci := 8) (k := 2) dX9_planAt_18 rfl (by decide) (by decide) (by decide) ulX9_planAt_X9 flX9_planAt_21 rfl (fun v5 ev5 => ?_)
      refine g_iload_n C dX9_planAt_21 rfl 1 rfl ?_
      refine g_iload_n C dX9_planAt_22 rfl 3 rfl ?_
      refine g_ist C dX9_planAt_23 (fun S6 eS6 => ?_)
      exact g_vret C dX9_planAt_24 ⟨by decide, by decide⟩
abbrev rmX4_putBest : Room := { frames := 5, cells := 0, slots := 0, locals := 125 }
theorem flX4_putBest_11 : Cond.fieldLink RX4 11 "LightLines$PlanSearch" "startX" "[I" ∈ wsX4_putBest := by decide +kernel
theorem flX4_putBest_15 : Cond.fieldLink RX4 15 "LightLines$PlanSearch" "startY" "[I" ∈ wsX4_putBest := by decide +kernel
theorem flX4_putBest_21 : Cond.fieldLink RX4 21 "LightLines$PlanSearch" "searchedFor" "I" ∈ wsX4_putBest := by decide +kernel
theorem flX4_putBest_25 : Cond.fieldLink RX4 25 "LightLines$Strokes" "held" "I" ∈ wsX4_putBest := by decide +kernel
set_option maxRecDepth 100000 in
theorem ulX4_putBest_X4 : ∀ w ∈ u_ws RX4 TX4 5, w ∈ wsX4_putBest := by decide +kernel
set_option maxRecDepth 100000 in
theorem ulX4_putBest_X9 : ∀ w ∈ u_ws RX9 TX9 4, w ∈ wsX4_putBest := by decide +kernel
set_option maxHeartbeats 4000000 in
set_option maxRecDepth 100000 in
theorem t_X4_putBest_113 {Γ : Cx} (C : CF Γ cX4_putBest 7 none wsX4_putBest RX4 rmX4_putBest 0 0) (rc38 : Option Nat → Option Nat → Int32 → Int32 → Int32 → Int32 → St → Option (St)) (hrc38 : ∀ (a0 : Option Nat) (a1 : Option Nat) (x2 : Int32) (x3 : Int32) (x4 : Int32) (x5 : Int32) (S : St), G Γ cvV 7 0 0 38 [(0, va_rf a0), (1, va_rf a1), (2, .int x2), (3, .int x3), (4, .int x4), (5, .int x5)] [] S (rc38 a0 a1 x2 x3 x4 x5 S)) (a0 : Option Nat) (a1 : Option Nat) (x2 : Int32) (x3 : Int32) (x4 : Int32) (x5 : Int32) (S : St) : G Γ cvV 7 0 0 113 [(0, va_rf a0), (1, va_rf a1), (2, .int x2), (3, .int x3), (4, .int x4), (5, .int x5)] [] S (b_X4_putBest_113 rc38 a0 a1 x2 x3 x4 x5 S) := by
  unfold b_X4_putBest_113
  refine g_iinc1 C dX4_putBest_113 5 rfl (by decide) (by decide) (fun y1 => ?_)
  refine g_lveq (lv2 := [(5, .int y1), (0, va_rf a0), (1, va_rf a1), (2, .int x2), (3, .int x3), (4, .int x4)]) (by first | rfl | simp [va_rf_cat, vi_cat, vl_cat]) ?_
  refine g_goto C (tgt := 38) dX4_putBest_116 (by decide) ?_
  exact g_sub (lv2 := [(0, va_rf a0), (1, va_rf a1), (2, .int x2), (3, .int x3), (4, .int x4), (5, .int y1)]) [1, 2, 3, 4, 5, 0] rfl (hrc38 a0 a1 x2 x3 x4 y1 S)
set_option maxHeartbeats 4000000 in
set_option maxRecDepth 100000 in
theorem t_X4_putBest_38 {Γ : Cx} (C : CF Γ cX4_putBest 7 none wsX4_putBest RX4 rmX4_putBest 0 0) : ∀ (n : Nat) (a0 : Option Nat) (a1 : Option Nat) (x2 : Int32) (x3 : Int32) (x4 : Int32) (x5 : Int32) (S : St), G Γ cvV 7 0 0 38 [(0, va_rf a0), (1, va_rf a1), (2, .int x2), (3, .int x3), (4, .int x4), (5, .int x5)] [] S (b_X4_putBest_38  n a0 a1 x2 x3 x4 x5 S) := by
  intro n
  induction n with
  | zero => intro a0 a1 x2 x3 x4 x5 S; exact g_none
  | succ n ih =>
    intro a0 a1 x2 x3 x4 x5 S
    rw [b_X4_putBest_38]
    refine g_iload C dX4_putBest_38 5 rfl ?_
    refine g_aload_n C dX4_putBest_40 rfl 1 rfl ?_
    refine g_getI C (ci := 8) (k := 3) dX4_putBest_41 rfl (by decide) (by decide) (by decide) ulX4_putBest_X9 flX4_putBest_25 rfl (fun v1 ev1 => ?_)
    refine g_icmp_ge C (tgt := 119) dX4_putBest_44 (by decide) (fun h2 => ?_) (fun h2 => ?_)
    · exact g_vret C dX4_putBest_119 ⟨by decide, by decide⟩
    · refine g_aload_n C dX4_putBest_47 rfl 0 rfl ?_
      refine g_iload_n C dX4_putBest_48 rfl 2 rfl ?_
      refine g_iload_n C dX4_putBest_49 rfl 3 rfl ?_
      refine g_iload C dX4_putBest_50 4 rfl ?_
      refine g_callV C (n := 3) (ci := 4) [.int x2, .int x3, .int x4] [] (m_X4_bestTurn a0 x2 x3 x4 S) dX4_putBest_52 gX4_putBest_X4_bestTurn rfl ⟨rfl, rfl⟩ (by decide +kernel) ⟨by decide, by decide⟩ ⟨by decide, by decide⟩ rfl (by decide) rfl rfl (by first | exact Nat.le_of_ble_eq_true rfl | simp [va_rf_cat, vi_cat, vl_cat]) (fun o3 eo3 => ?_)
      show G Γ cvV 7 0 0 55 [(0, va_rf a0), (1, va_rf a1), (2, .int x2), (3, .int x3), (4, .int x4), (5, .int x5)] [.int o3.1] o3.2 _
      refine g_istore C (i := 6) (lv2 := [(6, .int o3.1), (0, va_rf a0), (1, va_rf a1), (2, .int x2), (3, .int x3), (4, .int x4), (5, .int x5)]) dX4_putBest_55 (by decide) (by first | rfl | simp [va_rf_cat, vi_cat, vl_cat]) ?_
      refine g_iload C dX4_putBest_57 0 rfl ?_
      refine g_if_lt C (tgt := 113) dX4_putBest_59 (by decide) (fun h4 => ?_) (fun h4 => ?_)
      · exact g_sub (lv2 := [(0, va_rf a0), (1, va_rf a1), (2, .int x2), (3, .int x3), (4, .int x4), (5, .int x5)]) [1, 2, 3, 4, 5, 6] rfl (t_X4_putBest_113 C (b_X4_putBest_38 n) ih a0 a1 x2 x3 x4 x5 o3.2)
      · refine g_iload C dX4_putBest_62 0 rfl ?_
        refine g_bipush C (v := (16 : Int32)) dX4_putBest_64 (by decide) ?_
        refine g_icmp_ge C (tgt := 113) dX4_putBest_66 (by decide) (fun h5 => ?_) (fun h5 => ?_)
        · exact g_sub (lv2 := [(0, va_rf a0), (1, va_rf a1), (2, .int x2), (3, .int x3), (4, .int x4), (5, .int x5)]) [1, 2, 3, 4, 5, 6] rfl (t_X4_putBest_113 C (b_X4_putBest_38 n) ih a0 a1 x2 x3 x4 x5 o3.2)
        · refine g_aload_n C dX4_putBest_69 rfl 2 rfl ?_
          refine g_iload C dX4_putBest_70 6 rfl ?_
          refine g_iload C dX4_putBest_72 0 rfl ?_
          refine g_iconst C (v := (2 : Int32)) dX4_putBest_74 (by decide) ?_
          refine g_idiv C dX4_putBest_75 (fun v6 ev6 => ?_)
          refine g_iload C dX4_putBest_76 0 rfl ?_
          refine g_iconst C (v := (2 : Int32)) dX4_putBest_78 (by decide) ?_
          refine g_irem C dX4_putBest_79 (fun v7 ev7 => ?_)
          refine g_callV C (n := 3) (ci := 8) [.int x5, .int v6, .int v7] [] (m_X9_planAt a1 x5 v6 v7 o3.2) dX4_putBest_80 gX4_putBest_X9_planAt rfl ⟨rfl, rfl⟩ (by decide +kernel) ⟨by decide, by decide⟩ ⟨by decide, by decide⟩ rfl (by decide) rfl rfl (by first | exact Nat.le_of_ble_eq_true rfl | simp [va_rf_cat, vi_cat, vl_cat]) (fun o8 eo8 => ?_)
          show G Γ cvV 7 0 0 83 [(6, .int o3.1), (0, va_rf a0), (1, va_rf a1), (2, .int x2), (3, .int x3), (4, .int x4), (5, .int x5)] [] o8 _
          refine g_iload_n C dX4_putBest_83 rfl 3 rfl ?_
          refine g_iconst C (v := (1 : Int32)) dX4_putBest_84 (by decide) ?_
          refine g_iload C dX4_putBest_85 0 rfl ?_
          refine g_iconst C (v := (2 : Int32)) dX4_putBest_87 (by decide) ?_
          refine g_idiv C dX4_putBest_88 (fun v9 ev9 => ?_)
          refine g_ishl C dX4_putBest_89 ?_
          refine g_ior C dX4_putBest_90 ?_
          refine g_topi (fun y10 => ?_)
          refine g_istore_n C (i := 2) (lv2 := [(2, .int y10), (6, .int o3.1), (0, va_rf a0), (1, va_rf a1), (3, .int x3), (4, .int x4), (5, .int x5)]) dX4_putBest_91 rfl (by decide) (by first | rfl | simp [va_rf_cat, vi_cat, vl_cat]) ?_
          refine g_aload_n C dX4_putBest_92 rfl 2 rfl ?_
          refine g_getR C (ci := 4) (k := 0) dX4_putBest_93 rfl (by decide) (by decide) (by decide) ulX4_putBest_X4 flX4_putBest_11 rfl (fun v11 ev11 => ?_)
          refine g_iload C dX4_putBest_96 1 rfl ?_
          refine g_iconst C (v := (1 : Int32)) dX4_putBest_98 (by decide) ?_
          refine g_ixor C dX4_putBest_99 ?_
          refine g_ild C dX4_putBest_100 (fun v12 ev12 => ?_)
          refine g_istore_n C (i := 3) (lv2 := [(3, .int v12), (2, .int y10), (6, .int o3.1), (0, va_rf a0), (1, va_rf a1), (4, .int x4), (5, .int x5)]) dX4_putBest_101 rfl (by decide) (by first | rfl | simp [va_rf_cat, vi_cat, vl_cat]) ?_
          refine g_aload_n C dX4_putBest_102 rfl 3 rfl ?_
          refine g_getR C (ci := 4) (k := 1) dX4_putBest_103 rfl (by decide) (by decide) (by decide) ulX4_putBest_X4 flX4_putBest_15 rfl (fun v13 ev13 => ?_)
          refine g_iload C dX4_putBest_106 2 rfl ?_
          refine g_iconst C (v := (1 : Int32)) dX4_putBest_108 (by decide) ?_
          refine g_ixor C dX4_putBest_109 ?_
          refine g_ild C dX4_putBest_110 (fun v14 ev14 => ?_)
          refine g_istore C (i := 4) (lv2 := [(4, .int v14), (3, .int v12), (2, .int y10), (6, .int o3.1), (0, va_rf a0), (1, va_rf a1), (5, .int x5)]) dX4_putBest_111 (by decide) (by first | rfl | simp [va_rf_cat, vi_cat, vl_cat]) ?_
          exact g_sub (lv2 := [(0, va_rf a0), (1, va_rf a1), (2, .int y10), (3, .int v12), (4, .int v14), (5, .int x5)]) [4, 5, 2, 1, 0, 6] rfl (t_X4_putBest_113 C (b_X4_putBest_38 n) ih a0 a1 y10 v12 v14 x5 o8)
set_option maxHeartbeats 4000000 in
set_option maxRecDepth 100000 in
theorem t_X4_putBest_28 {Γ : Cx} (C : CF Γ cX4_putBest 7 none wsX4_putBest RX4 rmX4_putBest 0 0) (a0 : Option Nat) (a1 : Option Nat) (S : St) : G Γ cvV 7 0 0 28 [(0, va_rf a0), (1, va_rf a1)] [] S (b_X4_putBest_28  a0 a1 S) := by
  unfold b_X4_putBest_28
  refine g_iconst C (v := (0 : Int32)) dX4_putBest_28 (by decide) ?_
  refine g_istore_n C (i := 2) (lv2 := [(2, .int (0 : Int32)), (0, va_rf a0), (1, va_rf a1)]) dX4_putBest_29 rfl (by decide) (by first | rfl | simp [va_rf_cat, vi_cat, vl_cat]) ?_
  refine g_iconst C (v := (0 : Int32)) dX4_putBest_30 (by decide) ?_
  refine g_istore_n C (i := 3) (lv2 := [(3, .int (0 : Int32)), (2, .int (0 : Int32)), (0, va_rf a0), (1, va_rf a1)]) dX4_putBest_31 rfl (by decide) (by first | rfl | simp [va_rf_cat, vi_cat, vl_cat]) ?_
  refine g_iconst C (v := (0 : Int32)) dX4_putBest_32 (by decide) ?_
  refine g_istore C (i := 4) (lv2 := [(4, .int (0 : Int32)), (3, .int (0 : Int32)), (2, .int (0 : Int32)), (0, va_rf a0), (1, va_rf a1)]) dX4_putBest_33 (by decide) (by first | rfl | simp [va_rf_cat, vi_cat, vl_cat]) ?_
  refine g_iconst C (v := (0 : Int32)) dX4_putBest_35 (by decide) ?_
  refine g_istore C (i := 5) (lv2 := [(5, .int (0 : Int32)), (4, .int (0 : Int32)), (3, .int (0 : Int32)), (2, .int (0 : Int32)), (0, va_rf a0), (1, va_rf a1)]) dX4_putBest_36 (by decide) (by first | rfl | simp [va_rf_cat, vi_cat, vl_cat]) ?_
  exact g_sub (lv2 := [(0, va_rf a0), (1, va_rf a1), (2, .int (0 : Int32)), (3, .int (0 : Int32)), (4, .int (0 : Int32)), (5, .int (0 : Int32))]) [4, 5, 3, 2, 1, 0] rfl (t_X4_putBest_38 C FU a0 a1 (0 : Int32) (0 : Int32) (0 : Int32) (0 : Int32) S)
set_option maxHeartbeats 4000000 in
set_option maxRecDepth 100000 in
theorem m_X4_putBest (a0 : Option Nat) (a1 : Option Nat) (S : St) : ∀ l D cy H0 o, f_X4_putBest a0 a1 S = some o → Met l yX4_putBest wsX4_putBest rmX4_putBest (Pq D cy H0 [va_rf a0, va_rf a1] S) (Qx D cy H0 (cvV o)) 0 0 (fun q => H0.size ≤ q) := by
  refine met_of (cc := cX4_putBest) (maxL := 7) (ret := none) [va_rf a0, va_rf a1] [(0, va_rf a0), (1, va_rf a1)] (by decide) rfl rfl (by simp [lg_sl, va_rf_cat, vi_cat, vl_cat]) (by simp [lv_args, va_rf_cat, vi_cat, vl_cat]) (fun Γ C => ?_)
  unfold f_X4_putBest
  refine g_aload_n C dX4_putBest_0 rfl 0 rfl ?_
  refine g_getI C (ci := 4) (k := 4) dX4_putBest_1 rfl (by decide) (by decide) (by decide) ulX4_putBest_X4 flX4_putBest_21 rfl (fun v1 ev1 => ?_)
  refine g_aload_n C dX4_putBest_4 rfl 1 rfl ?_
  refine g_getI C (ci := 8) (k := 3) dX4_putBest_5 rfl (by decide) (by decide) (by decide) ulX4_putBest_X9 flX4_putBest_25 rfl (fun v2 ev2 => ?_)
  refine g_icmp_eq C (tgt := 28) dX4_putBest_8 (by decide) (fun h3 => ?_) (fun h3 => ?_)
  · exact g_sub (lv2 := [(0, va_rf a0), (1, va_rf a1)]) [0, 1] rfl (t_X4_putBest_28 C a0 a1 S)
  · refine g_aload_n C dX4_putBest_11 rfl 0 rfl ?_
    refine g_aload_n C dX4_putBest_12 rfl 1 rfl ?_
    refine g_callV C (n := 1) (ci := 4) [va_rf a1] [] (m_X4_takeEnds a0 a1 S) dX4_putBest_13 gX4_putBest_X4_takeEnds rfl ⟨rfl, rfl⟩ (by decide +kernel) ⟨by decide, by decide⟩ ⟨by decide, by decide⟩ rfl (by decide) rfl rfl (by first | exact Nat.le_of_ble_eq_true rfl | simp [va_rf_cat, vi_cat, vl_cat]) (fun o4 eo4 => ?_)
    show G Γ cvV 7 0 0 16 [(0, va_rf a0), (1, va_rf a1)] [] o4 _
    refine g_aload_n C dX4_putBest_16 rfl 0 rfl ?_
    refine g_callV C (n := 0) (ci := 4) [] [] (m_X4_fillWaysLeft a0 o4) dX4_putBest_17 gX4_putBest_X4_fillWaysLeft rfl ⟨rfl, rfl⟩ (by decide +kernel) ⟨by decide, by decide⟩ ⟨by decide, by decide⟩ rfl (by decide) rfl rfl (by first | exact Nat.le_of_ble_eq_true rfl | simp [va_rf_cat, vi_cat, vl_cat]) (fun o5 eo5 => ?_)
    show G Γ cvV 7 0 0 20 [(0, va_rf a0), (1, va_rf a1)] [] o5 _
    refine g_aload_n C dX4_putBest_20 rfl 0 rfl ?_
    refine g_aload_n C dX4_putBest_21 rfl 1 rfl ?_
    refine g_getI C (ci := 8) (k := 3) dX4_putBest_22 rfl (by decide) (by decide) (by decide) ulX4_putBest_X9 flX4_putBest_25 rfl (fun v6 ev6 => ?_)
    refine g_putI C (ci := 4) (k := 4) (ty0 := tyX4) dX4_putBest_25 rfl (by decide) (by decide) (by decide) tyX4_ok nmX4 ulX4_putBest_X4 flX4_putBest_21 rfl rfl ⟨rfl, rfl⟩ (fun S7 eS7 => ?_)
    exact g_sub (lv2 := [(0, va_rf a0), (1, va_rf a1)]) [0, 1] rfl (t_X4_putBest_28 C a0 a1 S7)
abbrev rmX5_init : Room := { frames := 1, cells := 1, slots := 40, locals := 24 }
theorem flX5_init_9 : Cond.fieldLink RX5 9 "LightLines$Sheet" "items" "[I" ∈ wsX5_init := by decide +kernel
theorem flX5_init_15 : Cond.fieldLink RX5 15 "LightLines$Sheet" "lane" "I" ∈ wsX5_init := by decide +kernel
set_option maxRecDepth 100000 in
theorem ulX5_init_X5 : ∀ w ∈ u_ws RX5 TX5 3, w ∈ wsX5_init := by decide +kernel
set_option maxHeartbeats 4000000 in
set_option maxRecDepth 100000 in
theorem m_X5_init (a0 : Nat) (S : St) : ∀ l D cy H0 o, f_X5_init a0 S = some o → Met l yX5_init wsX5_init rmX5_init (Pq D cy H0 [va_rf (some a0)] S) (Qx D cy H0 (cvV o)) 1 40 (fun q => H0.size ≤ q) := by
  refine met_ofI (cc := cX5_init) (maxL := 1) (ret := none) [va_rf (some a0)] [(0, va_rf (some a0))] (by decide) rfl rfl rfl (by simp [lg_sl, va_rf_cat, vi_cat, vl_cat]) (by simp [lv_args, va_rf_cat, vi_cat, vl_cat]) (fun Γ C hN => ?_)
  unfold f_X5_init
  refine g_aload_n C dX5_init_0 rfl 0 rfl ?_
  refine g_objInit C dX5_init_1 (by decide +kernel) (by decide +kernel) (by decide +kernel) ⟨by decide, by decide⟩ (by first | exact Nat.le_of_ble_eq_true rfl | simp [va_rf_cat, vi_cat, vl_cat]) ?_
  refine g_aload_n C dX5_init_4 rfl 0 rfl ?_
  refine g_bipush C (v := (40 : Int32)) dX5_init_5 (by decide) ?_
  refine g_newa C (kd := 14) (t0 := 1) (mx := 40) (ty := .int) dX5_init_7 rfl rfl ⟨by decide, by decide⟩ (fun _ => rfl) (fun _ _ h => h) (by decide) (by decide +kernel) ⟨by decide, by decide⟩ (fun S1 eS1 => ?_)
  show G Γ cvV 1 1 40 9 [(0, va_rf (some a0))] [va_rf (some S.2.2.2), va_rf (some a0)] S1 _
  refine g_putFR C hN (ci := 5) (k := 0) (ty0 := tyX5) dX5_init_9 rfl (by decide) (by decide) (by decide) tyX5_ok nmX5 ulX5_init_X5 flX5_init_9 rfl rfl rfl (rf_fit_a _) (fun S2 eS2 => ?_)
  refine g_aload_n C dX5_init_12 rfl 0 rfl ?_
  refine g_iconst C (v := (-1 : Int32)) dX5_init_13 (by decide) ?_
  refine g_putI C (ci := 5) (k := 1) (ty0 := tyX5) dX5_init_14 rfl (by decide) (by decide) (by decide) tyX5_ok nmX5 ulX5_init_X5 flX5_init_15 rfl rfl ⟨rfl, rfl⟩ (fun S3 eS3 => ?_)
  exact g_vret C dX5_init_17 ⟨by decide, by decide⟩
abbrev rmX5_isMissing : Room := { frames := 0, cells := 0, slots := 0, locals := 0 }
theorem flX5_isMissing_15 : Cond.fieldLink RX5 15 "LightLines$Sheet" "lane" "I" ∈ wsX5_isMissing := by decide +kernel
set_option maxRecDepth 100000 in
theorem ulX5_isMissing_X5 : ∀ w ∈ u_ws RX5 TX5 3, w ∈ wsX5_isMissing := by decide +kernel
set_option maxHeartbeats 4000000 in
set_option maxRecDepth 100000 in
theorem m_X5_isMissing (a0 : Option Nat) (S : St) : ∀ l D cy H0 o, f_X5_isMissing a0 S = some o → Met l yX5_isMissing wsX5_isMissing rmX5_isMissing (Pq D cy H0 [va_rf a0] S) (Qx D cy H0 (cvI o)) 0 0 (fun q => H0.size ≤ q) := by
  refine met_of (cc := cX5_isMissing) (maxL := 1) (ret := (some .boolean)) [va_rf a0] [(0, va_rf a0)] (by decide) rfl rfl (by simp [lg_sl, va_rf_cat, vi_cat, vl_cat]) (by simp [lv_args, va_rf_cat, vi_cat, vl_cat]) (fun Γ C => ?_)
  unfold f_X5_isMissing
  refine g_aload_n C dX5_isMissing_0 rfl 0 rfl ?_
  refine g_getI C (ci := 5) (k := 1) dX5_isMissing_1 rfl (by decide) (by decide) (by decide) ulX5_isMissing_X5 flX5_isMissing_15 rfl (fun v1 ev1 => ?_)
  refine g_iconst C (v := (-1 : Int32)) dX5_isMissing_4 (by decide) ?_
  refine g_icmp_ne C (tgt := 12) dX5_isMissing_5 (by decide) (fun h2 => ?_) (fun h2 => ?_)
  · refine g_iconst C (v := (1 : Int32)) dX5_isMissing_8 (by decide) ?_
    refine g_goto C (tgt := 13) dX5_isMissing_9 (by decide) ?_
    exact g_zret C dX5_isMissing_13 ⟨by decide, by decide⟩
  · refine g_iconst C (v := (0 : Int32)) dX5_isMissing_12 (by decide) ?_
    exact g_zret C dX5_isMissing_13 ⟨by decide, by decide⟩
abbrev rmJ7_fill_53178 : Room := { frames := 0, cells := 0, slots := 0, locals := 0 }
set_option maxHeartbeats 4000000 in
set_option maxRecDepth 100000 in
theorem t_J7_fill_53178_5 {Γ : Cx} (C : CF Γ cJ7_fill_53178 4 none wsJ7_fill_53178 RJ7 rmJ7_fill_53178 0 0) : ∀ (n : Nat) (a0 : Option Nat) (x1 : Int32) (x2 : Int32) (x3 : Int32) (S : St), G Γ cvV 4 0 0 5 [(0, va_rf a0), (1, .int x1), (2, .int x2), (3, .int x3)] [] S (b_J7_fill_53178_5  n a0 x1 x2 x3 S) := by
  intro n
  induction n with
  | zero => intro a0 x1 x2 x3 S; exact g_none
  | succ n ih =>
    intro a0 x1 x2 x3 S
    rw [b_J7_fill_53178_5]
    refine g_iload_n C dJ7_fill_53178_5 rfl 2 rfl ?_
    refine g_iload_n C dJ7_fill_53178_6 rfl 3 rfl ?_
    refine g_icmp_ge C (tgt := 20) dJ7_fill_53178_7 (by decide) (fun h1 => ?_) (fun h1 => ?_)
    · exact g_vret C dJ7_fill_53178_20 ⟨by decide, by decide⟩
    · refine g_aload_n C dJ7_fill_53178_10 rfl 0 rfl ?_
      refine g_iload_n C dJ7_fill_53178_11 rfl 2 rfl ?_
      refine g_iload_n C dJ7_fill_53178_12 rfl 1 rfl ?_
      refine g_ist C dJ7_fill_53178_13 (fun S2 eS2 => ?_)
      refine g_iinc1 C dJ7_fill_53178_14 2 rfl (by decide) (by decide) (fun y3 => ?_)
      refine g_lveq (lv2 := [(2, .int y3), (0, va_rf a0), (1, .int x1), (3, .int x3)]) (by first | rfl | simp [va_rf_cat, vi_cat, vl_cat]) ?_
      refine g_goto C (tgt := 5) dJ7_fill_53178_17 (by decide) ?_
      exact g_sub (lv2 := [(0, va_rf a0), (1, .int x1), (2, .int y3), (3, .int x3)]) [1, 2, 0, 3] rfl (ih a0 x1 y3 x3 S2)
set_option maxHeartbeats 4000000 in
set_option maxRecDepth 100000 in
theorem m_J7_fill_53178 (a0 : Option Nat) (x1 : Int32) (S : St) : ∀ l D cy H0 o, f_J7_fill_53178 a0 x1 S = some o → Met l yJ7_fill_53178 wsJ7_fill_53178 rmJ7_fill_53178 (Pq D cy H0 [va_rf a0, .int x1] S) (Qx D cy H0 (cvV o)) 0 0 (fun q => H0.size ≤ q) := by
  refine met_of (cc := cJ7_fill_53178) (maxL := 4) (ret := none) [va_rf a0, .int x1] [(0, va_rf a0), (1, .int x1)] (by decide) rfl rfl (by simp [lg_sl, va_rf_cat, vi_cat, vl_cat]) (by simp [lv_args, va_rf_cat, vi_cat, vl_cat]) (fun Γ C => ?_)
  unfold f_J7_fill_53178
  refine g_iconst C (v := (0 : Int32)) dJ7_fill_53178_0 (by decide) ?_
  refine g_istore_n C (i := 2) (lv2 := [(2, .int (0 : Int32)), (0, va_rf a0), (1, .int x1)]) dJ7_fill_53178_1 rfl (by decide) (by first | rfl | simp [va_rf_cat, vi_cat, vl_cat]) ?_
  refine g_aload_n C dJ7_fill_53178_2 rfl 1 rfl ?_
  refine g_len14 C dJ7_fill_53178_3 (fun v1 ev1 => ?_)
  refine g_istore_n C (i := 3) (lv2 := [(3, .int v1), (2, .int (0 : Int32)), (0, va_rf a0), (1, .int x1)]) dJ7_fill_53178_4 rfl (by decide) (by first | rfl | simp [va_rf_cat, vi_cat, vl_cat]) ?_
  exact g_sub (lv2 := [(0, va_rf a0), (1, .int x1), (2, .int (0 : Int32)), (3, .int v1)]) [2, 3, 1, 0] rfl (t_J7_fill_53178_5 C FU a0 x1 (0 : Int32) v1 S)
abbrev rmX5_lay : Room := { frames := 1, cells := 0, slots := 0, locals := 23 }
theorem flX5_lay_9 : Cond.fieldLink RX5 9 "LightLines$Sheet" "items" "[I" ∈ wsX5_lay := by decide +kernel
theorem flX5_lay_15 : Cond.fieldLink RX5 15 "LightLines$Sheet" "lane" "I" ∈ wsX5_lay := by decide +kernel
theorem flX5_lay_25 : Cond.fieldLink RX5 25 "LightLines$Sheet" "size" "I" ∈ wsX5_lay := by decide +kernel
set_option maxRecDepth 100000 in
theorem ulX5_lay_X5 : ∀ w ∈ u_ws RX5 TX5 3, w ∈ wsX5_lay := by decide +kernel
set_option maxHeartbeats 4000000 in
set_option maxRecDepth 100000 in
theorem m_X5_lay (a0 : Option Nat) (x1 : Int32) (x2 : Int32) (S : St) : ∀ l D cy H0 o, f_X5_lay a0 x1 x2 S = some o → Met l yX5_lay wsX5_lay rmX5_lay (Pq D cy H0 [va_rf a0, .int x1, .int x2] S) (Qx D cy H0 (cvV o)) 0 0 (fun q => H0.size ≤ q) := by
  refine met_of (cc := cX5_lay) (maxL := 3) (ret := none) [va_rf a0, .int x1, .int x2] [(0, va_rf a0), (1, .int x1), (2, .int x2)] (by decide) rfl rfl (by simp [lg_sl, va_rf_cat, vi_cat, vl_cat]) (by simp [lv_args, va_rf_cat, vi_cat, vl_cat]) (fun Γ C => ?_)
  unfold f_X5_lay
  refine g_aload_n C dX5_lay_0 rfl 0 rfl ?_
  refine g_getR C (ci := 5) (k := 0) dX5_lay_1 rfl (by decide) (by decide) (by decide) ulX5_lay_X5 flX5_lay_9 rfl (fun v1 ev1 => ?_)
  refine g_iconst C (v := (0 : Int32)) dX5_lay_4 (by decide) ?_
  refine g_callS C (n := 2) [va_rf v1, .int (0 : Int32)] [] (m_J7_fill_53178 v1 (0 : Int32) S) dX5_lay_5 gX5_lay_J7_fill_53178 rfl ⟨rfl, rfl⟩ (by decide +kernel) ⟨by decide, by decide⟩ ⟨by decide, by decide⟩ rfl rfl (by first | exact Nat.le_of_ble_eq_true rfl | simp [va_rf_cat, vi_cat, vl_cat]) (fun o2 eo2 => ?_)
  show G Γ cvV 3 0 0 8 [(0, va_rf a0), (1, .int x1), (2, .int x2)] [] o2 _
  refine g_aload_n C dX5_lay_8 rfl 0 rfl ?_
  refine g_iload_n C dX5_lay_9 rfl 1 rfl ?_
  refine g_putI C (ci := 5) (k := 1) (ty0 := tyX5) dX5_lay_10 rfl (by decide) (by decide) (by decide) tyX5_ok nmX5 ulX5_lay_X5 flX5_lay_15 rfl rfl ⟨rfl, rfl⟩ (fun S3 eS3 => ?_)
  refine g_aload_n C dX5_lay_13 rfl 0 rfl ?_
  refine g_iload_n C dX5_lay_14 rfl 2 rfl ?_
  refine g_putI C (ci := 5) (k := 2) (ty0 := tyX5) dX5_lay_15 rfl (by decide) (by decide) (by decide) tyX5_ok nmX5 ulX5_lay_X5 flX5_lay_25 rfl rfl ⟨rfl, rfl⟩ (fun S4 eS4 => ?_)
  exact g_vret C dX5_lay_18 ⟨by decide, by decide⟩
abbrev rmX5_has : Room := { frames := 0, cells := 0, slots := 0, locals := 0 }
theorem flX5_has_25 : Cond.fieldLink RX5 25 "LightLines$Sheet" "size" "I" ∈ wsX5_has := by decide +kernel
set_option maxRecDepth 100000 in
theorem ulX5_has_X5 : ∀ w ∈ u_ws RX5 TX5 3, w ∈ wsX5_has := by decide +kernel
set_option maxHeartbeats 4000000 in
set_option maxRecDepth 100000 in
theorem m_X5_has (a0 : Option Nat) (x1 : Int32) (x2 : Int32) (S : St) : ∀ l D cy H0 o, f_X5_has a0 x1 x2 S = some o → Met l yX5_has wsX5_has rmX5_has (Pq D cy H0 [va_rf a0, .int x1, .int x2] S) (Qx D cy H0 (cvI o)) 0 0 (fun q => H0.size ≤ q) := by
  refine met_of (cc := cX5_has) (maxL := 3) (ret := (some .boolean)) [va_rf a0, .int x1, .int x2] [(0, va_rf a0), (1, .int x1), (2, .int x2)] (by decide) rfl rfl (by simp [lg_sl, va_rf_cat, vi_cat, vl_cat]) (by simp [lv_args, va_rf_cat, vi_cat, vl_cat]) (fun Γ C => ?_)
  unfold f_X5_has
  refine g_iload_n C dX5_has_0 rfl 1 rfl ?_
  refine g_if_lt C (tgt := 22) dX5_has_1 (by decide) (fun h1 => ?_) (fun h1 => ?_)
  · refine g_iconst C (v := (0 : Int32)) dX5_has_22 (by decide) ?_
    exact g_zret C dX5_has_23 ⟨by decide, by decide⟩
  · refine g_iload_n C dX5_has_4 rfl 2 rfl ?_
    refine g_if_lt C (tgt := 22) dX5_has_5 (by decide) (fun h2 => ?_) (fun h2 => ?_)
    · refine g_iconst C (v := (0 : Int32)) dX5_has_22 (by decide) ?_
      exact g_zret C dX5_has_23 ⟨by decide, by decide⟩
    · refine g_iload_n C dX5_has_8 rfl 1 rfl ?_
      refine g_aload_n C dX5_has_9 rfl 0 rfl ?_
      refine g_getI C (ci := 5) (k := 2) dX5_has_10 rfl (by decide) (by decide) (by decide) ulX5_has_X5 flX5_has_25 rfl (fun v3 ev3 => ?_)
      refine g_iload_n C dX5_has_13 rfl 2 rfl ?_
      refine g_isub C dX5_has_14 ?_
      refine g_icmp_gt C (tgt := 22) dX5_has_15 (by decide) (fun h4 => ?_) (fun h4 => ?_)
      · refine g_iconst C (v := (0 : Int32)) dX5_has_22 (by decide) ?_
        exact g_zret C dX5_has_23 ⟨by decide, by decide⟩
      · refine g_iconst C (v := (1 : Int32)) dX5_has_18 (by decide) ?_
        refine g_goto C (tgt := 23) dX5_has_19 (by decide) ?_
        exact g_zret C dX5_has_23 ⟨by decide, by decide⟩
abbrev rmX5_item : Room := { frames := 1, cells := 0, slots := 0, locals := 22 }
theorem flX5_item_9 : Cond.fieldLink RX5 9 "LightLines$Sheet" "items" "[I" ∈ wsX5_item := by decide +kernel
set_option maxRecDepth 100000 in
theorem ulX5_item_X5 : ∀ w ∈ u_ws RX5 TX5 3, w ∈ wsX5_item := by decide +kernel
set_option maxHeartbeats 4000000 in
set_option maxRecDepth 100000 in
theorem m_X5_item (a0 : Option Nat) (x1 : Int32) (S : St) : ∀ l D cy H0 o, f_X5_item a0 x1 S = some o → Met l yX5_item wsX5_item rmX5_item (Pq D cy H0 [va_rf a0, .int x1] S) (Qx D cy H0 (cvI o)) 0 0 (fun q => H0.size ≤ q) := by
  refine met_of (cc := cX5_item) (maxL := 2) (ret := (some .int)) [va_rf a0, .int x1] [(0, va_rf a0), (1, .int x1)] (by decide) rfl rfl (by simp [lg_sl, va_rf_cat, vi_cat, vl_cat]) (by simp [lv_args, va_rf_cat, vi_cat, vl_cat]) (fun Γ C => ?_)
  unfold f_X5_item
  refine g_aload_n C dX5_item_0 rfl 0 rfl ?_
  refine g_iload_n C dX5_item_1 rfl 1 rfl ?_
  refine g_iconst C (v := (1 : Int32)) dX5_item_2 (by decide) ?_
  refine g_callV C (n := 2) (ci := 5) [.int x1, .int (1 : Int32)] [] (m_X5_has a0 x1 (1 : Int32) S) dX5_item_3 gX5_item_X5_has rfl ⟨rfl, rfl⟩ (by decide +kernel) ⟨by decide, by decide⟩ ⟨by decide, by decide⟩ rfl (by decide) rfl rfl (by first | exact Nat.le_of_ble_eq_true rfl | simp [va_rf_cat, vi_cat, vl_cat]) (fun o1 eo1 => ?_)
  show G Γ cvI 2 0 0 6 [(0, va_rf a0), (1, .int x1)] [.int o1.1] o1.2 _
  refine g_if_eq C (tgt := 18) dX5_item_6 (by decide) (fun h2 => ?_) (fun h2 => ?_)
  · refine g_iconst C (v := (0 : Int32)) dX5_item_18 (by decide) ?_
    exact g_iret C dX5_item_19 ⟨by decide, by decide⟩
  · refine g_aload_n C dX5_item_9 rfl 0 rfl ?_
    refine g_getR C (ci := 5) (k := 0) dX5_item_10 rfl (by decide) (by decide) (by decide) ulX5_item_X5 flX5_item_9 rfl (fun v3 ev3 => ?_)
    refine g_iload_n C dX5_item_13 rfl 1 rfl ?_
    refine g_ild C dX5_item_14 (fun v4 ev4 => ?_)
    refine g_goto C (tgt := 19) dX5_item_15 (by decide) ?_
    exact g_iret C dX5_item_19 ⟨by decide, by decide⟩
abbrev rmX5_narrowed : Room := { frames := 0, cells := 0, slots := 0, locals := 0 }
theorem flX5_narrowed_15 : Cond.fieldLink RX5 15 "LightLines$Sheet" "lane" "I" ∈ wsX5_narrowed := by decide +kernel
set_option maxRecDepth 100000 in
theorem ulX5_narrowed_X5 : ∀ w ∈ u_ws RX5 TX5 3, w ∈ wsX5_narrowed := by decide +kernel
set_option maxHeartbeats 4000000 in
set_option maxRecDepth 100000 in
theorem m_X5_narrowed (a0 : Option Nat) (x1 : Int32) (S : St) : ∀ l D cy H0 o, f_X5_narrowed a0 x1 S = some o → Met l yX5_narrowed wsX5_narrowed rmX5_narrowed (Pq D cy H0 [va_rf a0, .int x1] S) (Qx D cy H0 (cvI o)) 0 0 (fun q => H0.size ≤ q) := by
  refine met_of (cc := cX5_narrowed) (maxL := 2) (ret := (some .int)) [va_rf a0, .int x1] [(0, va_rf a0), (1, .int x1)] (by decide) rfl rfl (by simp [lg_sl, va_rf_cat, vi_cat, vl_cat]) (by simp [lv_args, va_rf_cat, vi_cat, vl_cat]) (fun Γ C => ?_)
  unfold f_X5_narrowed
  refine g_aload_n C dX5_narrowed_0 rfl 0 rfl ?_
  refine g_getI C (ci := 5) (k := 1) dX5_narrowed_1 rfl (by decide) (by decide) (by decide) ulX5_narrowed_X5 flX5_narrowed_15 rfl (fun v1 ev1 => ?_)
  refine g_ite (fun h2 => ?_) (fun h2 => ?_)
  · refine g_look C (off := 28) (tgt := 32) dX5_narrowed_4 (by decide) (by rw [h2]; decide) (by decide) ?_
    refine g_iload_n C dX5_narrowed_32 rfl 1 rfl ?_
    refine g_i2b C dX5_narrowed_33 ?_
    exact g_iret C dX5_narrowed_34 ⟨by decide, by decide⟩
  refine g_ite (fun h3 => ?_) (fun h3 => ?_)
  · refine g_look C (off := 31) (tgt := 35) dX5_narrowed_4 (by decide) (by rw [h3]; decide) (by decide) ?_
    refine g_iload_n C dX5_narrowed_35 rfl 1 rfl ?_
    refine g_i2s C dX5_narrowed_36 ?_
    exact g_iret C dX5_narrowed_37 ⟨by decide, by decide⟩
  refine g_look C (off := 34) (tgt := 38) dX5_narrowed_4 (by decide) (by have n0 := sw_n (k := 0) (by decide) h2; have n1 := sw_n (k := 1) (by decide) h3; simp [Op.lookupswitch.offset, n0, n1, Ne.symm n0, Ne.symm n1]) (by decide) ?_
  refine g_iload_n C dX5_narrowed_38 rfl 1 rfl ?_
  exact g_iret C dX5_narrowed_39 ⟨by decide, by decide⟩
abbrev rmX5_put : Room := { frames := 2, cells := 0, slots := 0, locals := 43 }
theorem flX5_put_9 : Cond.fieldLink RX5 9 "LightLines$Sheet" "items" "[I" ∈ wsX5_put := by decide +kernel
set_option maxRecDepth 100000 in
theorem ulX5_put_X5 : ∀ w ∈ u_ws RX5 TX5 3, w ∈ wsX5_put := by decide +kernel
set_option maxHeartbeats 4000000 in
set_option maxRecDepth 100000 in
theorem t_X5_put_20 {Γ : Cx} (C : CF Γ cX5_put 3 (some .int) wsX5_put RX5 rmX5_put 0 0) (a0 : Option Nat) (x1 : Int32) (S : St) : G Γ cvI 3 0 0 20 [(0, va_rf a0), (1, .int x1)] [] S (b_X5_put_20  a0 x1 S) := by
  unfold b_X5_put_20
  refine g_aload_n C dX5_put_20 rfl 0 rfl ?_
  refine g_iload_n C dX5_put_21 rfl 1 rfl ?_
  refine g_callV C (n := 1) (ci := 5) [.int x1] [] (m_X5_item a0 x1 S) dX5_put_22 gX5_put_X5_item rfl ⟨rfl, rfl⟩ (by decide +kernel) ⟨by decide, by decide⟩ ⟨by decide, by decide⟩ rfl (by decide) rfl rfl (by first | exact Nat.le_of_ble_eq_true rfl | simp [va_rf_cat, vi_cat, vl_cat]) (fun o1 eo1 => ?_)
  show G Γ cvI 3 0 0 25 [(0, va_rf a0), (1, .int x1)] [.int o1.1] o1.2 _
  exact g_iret C dX5_put_25 ⟨by decide, by decide⟩
set_option maxHeartbeats 4000000 in
set_option maxRecDepth 100000 in
theorem m_X5_put (a0 : Option Nat) (x1 : Int32) (x2 : Int32) (S : St) : ∀ l D cy H0 o, f_X5_put a0 x1 x2 S = some o → Met l yX5_put wsX5_put rmX5_put (Pq D cy H0 [va_rf a0, .int x1, .int x2] S) (Qx D cy H0 (cvI o)) 0 0 (fun q => H0.size ≤ q) := by
  refine met_of (cc := cX5_put) (maxL := 3) (ret := (some .int)) [va_rf a0, .int x1, .int x2] [(0, va_rf a0), (1, .int x1), (2, .int x2)] (by decide) rfl rfl (by simp [lg_sl, va_rf_cat, vi_cat, vl_cat]) (by simp [lv_args, va_rf_cat, vi_cat, vl_cat]) (fun Γ C => ?_)
  unfold f_X5_put
  refine g_aload_n C dX5_put_0 rfl 0 rfl ?_
  refine g_iload_n C dX5_put_1 rfl 1 rfl ?_
  refine g_iconst C (v := (1 : Int32)) dX5_put_2 (by decide) ?_
  refine g_callV C (n := 2) (ci := 5) [.int x1, .int (1 : Int32)] [] (m_X5_has a0 x1 (1 : Int32) S) dX5_put_3 gX5_put_X5_has rfl ⟨rfl, rfl⟩ (by decide +kernel) ⟨by decide, by decide⟩ ⟨by decide, by decide⟩ rfl (by decide) rfl rfl (by first | exact Nat.le_of_ble_eq_true rfl | simp [va_rf_cat, vi_cat, vl_cat]) (fun o1 eo1 => ?_)
  show G Γ cvI 3 0 0 6 [(0, va_rf a0), (1, .int x1), (2, .int x2)] [.int o1.1] o1.2 _
  refine g_if_eq C (tgt := 20) dX5_put_6 (by decide) (fun h2 => ?_) (fun h2 => ?_)
  · exact g_sub (lv2 := [(0, va_rf a0), (1, .int x1)]) [0, 1] rfl (t_X5_put_20 C a0 x1 o1.2)
  · refine g_aload_n C dX5_put_9 rfl 0 rfl ?_
    refine g_getR C (ci := 5) (k := 0) dX5_put_10 rfl (by decide) (by decide) (by decide) ulX5_put_X5 flX5_put_9 rfl (fun v3 ev3 => ?_)
    refine g_iload_n C dX5_put_13 rfl 1 rfl ?_
    refine g_aload_n C dX5_put_14 rfl 0 rfl ?_
    refine g_iload_n C dX5_put_15 rfl 2 rfl ?_
    refine g_callV C (n := 1) (ci := 5) [.int x2] [.int x1, va_rf v3] (m_X5_narrowed a0 x2 o1.2) dX5_put_16 gX5_put_X5_narrowed rfl ⟨rfl, rfl⟩ (by decide +kernel) ⟨by decide, by decide⟩ ⟨by decide, by decide⟩ rfl (by decide) rfl rfl (by first | exact Nat.le_of_ble_eq_true rfl | simp [va_rf_cat, vi_cat, vl_cat]) (fun o4 eo4 => ?_)
    show G Γ cvI 3 0 0 19 [(0, va_rf a0), (1, .int x1), (2, .int x2)] [.int o4.1, .int x1, va_rf v3] o4.2 _
    refine g_ist C dX5_put_19 (fun S5 eS5 => ?_)
    exact g_sub (lv2 := [(0, va_rf a0), (1, .int x1)]) [0, 1] rfl (t_X5_put_20 C a0 x1 S5)
