abbrev rmX12_best : Room := { frames := 3, cells := 0, slots := 0, locals := 71 }
theorem flX12_best_1 : Cond.fieldLink RX12 1 "LightLinesModel" "thrown" "I" ∈ wsX12_best := by decide +kernel
theorem flX12_best_36 : Cond.fieldLink RX12 36 "LightLinesModel" "order" "[I" ∈ wsX12_best := by decide +kernel
theorem flX12_best_39 : Cond.fieldLink RX12 39 "LightLinesModel" "back" "[I" ∈ wsX12_best := by decide +kernel
theorem flX12_best_42 : Cond.fieldLink RX12 42 "LightLinesModel" "least" "[I" ∈ wsX12_best := by decide +kernel
theorem flX12_best_105 : Cond.fieldLink RX12 105 "LightLinesModel" "strokes" "I" ∈ wsX12_best := by decide +kernel
set_option maxRecDepth 100000 in
theorem ulX12_best_X12 : ∀ w ∈ u_ws RX12 TX12 42, w ∈ wsX12_best := by decide +kernel
set_option maxHeartbeats 4000000 in
set_option maxRecDepth 100000 in
theorem t_X12_best_146 {Γ : Cx} (C : CF Γ cX12_best 9 (some .int) wsX12_best RX12 rmX12_best 0 0) (rc17 : Option Nat → Int32 → St → Option (Int32 × St)) (hrc17 : ∀ (a0 : Option Nat) (x1 : Int32) (S : St), G Γ cvI 9 0 0 17 [(0, va_rf a0), (1, .int x1)] [] S (rc17 a0 x1 S)) (rc29 : Option Nat → Int32 → Int32 → St → Option (Int32 × St)) (hrc29 : ∀ (a0 : Option Nat) (x1 : Int32) (x2 : Int32) (S : St), G Γ cvI 9 0 0 29 [(0, va_rf a0), (1, .int x1), (2, .int x2)] [] S (rc29 a0 x1 x2 S)) (rc62 : Option Nat → Int32 → Int32 → Int32 → Int32 → St → Option (Int32 × St)) (hrc62 : ∀ (a0 : Option Nat) (x1 : Int32) (x2 : Int32) (x3 : Int32) (x4 : Int32) (S : St), G Γ cvI 9 0 0 62 [(0, va_rf a0), (1, .int x1), (2, .int x2), (3, .int x3), (4, .int x4)] [] S (rc62 a0 x1 x2 x3 x4 S)) (a0 : Option Nat) (x1 : Int32) (x2 : Int32) (x3 : Int32) (x4 : Int32) (S : St) : G Γ cvI 9 0 0 146 [(0, va_rf a0), (1, .int x1), (2, .int x2), (3, .int x3), (4, .int x4)] [] S (b_X12_best_146 rc17 rc29 rc62 a0 x1 x2 x3 x4 S) := by
  unfold b_X12_best_146
  refine g_iinc1 C dX12_best_146 4 rfl (by decide) (by decide) (fun y1 => ?_)
  refine g_lveq (lv2 := [(4, .int y1), (0, va_rf a0), (1, .int x1), (2, .int x2), (3, .int x3)]) (by first | rfl | simp [va_rf_cat, vi_cat, vl_cat]) ?_
  refine g_goto C (tgt := 62) dX12_best_149 (by decide) ?_
  exact g_sub (lv2 := [(0, va_rf a0), (1, .int x1), (2, .int x2), (3, .int x3), (4, .int y1)]) [1, 2, 3, 4, 0] rfl (hrc62 a0 x1 x2 x3 y1 S)
set_option maxHeartbeats 4000000 in
set_option maxRecDepth 100000 in
theorem t_X12_best_145 {Γ : Cx} (C : CF Γ cX12_best 9 (some .int) wsX12_best RX12 rmX12_best 0 0) (rc17 : Option Nat → Int32 → St → Option (Int32 × St)) (hrc17 : ∀ (a0 : Option Nat) (x1 : Int32) (S : St), G Γ cvI 9 0 0 17 [(0, va_rf a0), (1, .int x1)] [] S (rc17 a0 x1 S)) (rc29 : Option Nat → Int32 → Int32 → St → Option (Int32 × St)) (hrc29 : ∀ (a0 : Option Nat) (x1 : Int32) (x2 : Int32) (S : St), G Γ cvI 9 0 0 29 [(0, va_rf a0), (1, .int x1), (2, .int x2)] [] S (rc29 a0 x1 x2 S)) (rc62 : Option Nat → Int32 → Int32 → Int32 → Int32 → St → Option (Int32 × St)) (hrc62 : ∀ (a0 : Option Nat) (x1 : Int32) (x2 : Int32) (x3 : Int32) (x4 : Int32) (S : St), G Γ cvI 9 0 0 62 [(0, va_rf a0), (1, .int x1), (2, .int x2), (3, .int x3), (4, .int x4)] [] S (rc62 a0 x1 x2 x3 x4 S)) (a0 : Option Nat) (x1 : Int32) (x2 : Int32) (x4 : Int32) (s0 : Int32) (S : St) : G Γ cvI 9 0 0 145 [(0, va_rf a0), (1, .int x1), (2, .int x2), (4, .int x4)] [.int s0] S (b_X12_best_145 rc17 rc29 rc62 a0 x1 x2 x4 s0 S) := by
  unfold b_X12_best_145
  refine g_istore_n C (lv2 := [(3, .int s0), (0, va_rf a0), (1, .int x1), (2, .int x2), (4, .int x4)]) dX12_best_145 rfl (by decide) (by first | rfl | simp [va_rf_cat, vi_cat, vl_cat]) ?_
  exact g_sub (lv2 := [(0, va_rf a0), (1, .int x1), (2, .int x2), (3, .int s0), (4, .int x4)]) [1, 2, 3, 0, 4] rfl (t_X12_best_146 C rc17 hrc17 rc29 hrc29 rc62 hrc62 a0 x1 x2 s0 x4 S)
set_option maxHeartbeats 4000000 in
set_option maxRecDepth 100000 in
theorem t_X12_best_139 {Γ : Cx} (C : CF Γ cX12_best 9 (some .int) wsX12_best RX12 rmX12_best 0 0) (rc17 : Option Nat → Int32 → St → Option (Int32 × St)) (hrc17 : ∀ (a0 : Option Nat) (x1 : Int32) (S : St), G Γ cvI 9 0 0 17 [(0, va_rf a0), (1, .int x1)] [] S (rc17 a0 x1 S)) (rc29 : Option Nat → Int32 → Int32 → St → Option (Int32 × St)) (hrc29 : ∀ (a0 : Option Nat) (x1 : Int32) (x2 : Int32) (S : St), G Γ cvI 9 0 0 29 [(0, va_rf a0), (1, .int x1), (2, .int x2)] [] S (rc29 a0 x1 x2 S)) (rc62 : Option Nat → Int32 → Int32 → Int32 → Int32 → St → Option (Int32 × St)) (hrc62 : ∀ (a0 : Option Nat) (x1 : Int32) (x2 : Int32) (x3 : Int32) (x4 : Int32) (S : St), G Γ cvI 9 0 0 62 [(0, va_rf a0), (1, .int x1), (2, .int x2), (3, .int x3), (4, .int x4)] [] S (rc62 a0 x1 x2 x3 x4 S)) (a0 : Option Nat) (x1 : Int32) (x2 : Int32) (x4 : Int32) (x5 : Int32) (S : St) : G Γ cvI 9 0 0 139 [(0, va_rf a0), (1, .int x1), (2, .int x2), (4, .int x4), (5, .int x5)] [] S (b_X12_best_139 rc17 rc29 rc62 a0 x1 x2 x4 x5 S) := by
  unfold b_X12_best_139
  refine g_iload C dX12_best_139 4 rfl ?_
  refine g_goto C (tgt := 145) dX12_best_141 (by decide) ?_
  exact g_sub (lv2 := [(0, va_rf a0), (1, .int x1), (2, .int x2), (4, .int x4)]) [0, 1, 2, 3] rfl (t_X12_best_145 C rc17 hrc17 rc29 hrc29 rc62 hrc62 a0 x1 x2 x4 x5 S)
set_option maxHeartbeats 4000000 in
set_option maxRecDepth 100000 in
theorem t_X12_best_152 {Γ : Cx} (C : CF Γ cX12_best 9 (some .int) wsX12_best RX12 rmX12_best 0 0) (rc17 : Option Nat → Int32 → St → Option (Int32 × St)) (hrc17 : ∀ (a0 : Option Nat) (x1 : Int32) (S : St), G Γ cvI 9 0 0 17 [(0, va_rf a0), (1, .int x1)] [] S (rc17 a0 x1 S)) (rc29 : Option Nat → Int32 → Int32 → St → Option (Int32 × St)) (hrc29 : ∀ (a0 : Option Nat) (x1 : Int32) (x2 : Int32) (S : St), G Γ cvI 9 0 0 29 [(0, va_rf a0), (1, .int x1), (2, .int x2)] [] S (rc29 a0 x1 x2 S)) (a0 : Option Nat) (x1 : Int32) (x2 : Int32) (x3 : Int32) (S : St) : G Γ cvI 9 0 0 152 [(0, va_rf a0), (1, .int x1), (2, .int x2), (3, .int x3)] [] S (b_X12_best_152 rc17 rc29 a0 x1 x2 x3 S) := by
  unfold b_X12_best_152
  refine g_aload_n C dX12_best_152 rfl 0 rfl ?_
  refine g_getR C (ci := 11) (k := 11) dX12_best_153 rfl (by decide) (by decide) (by decide) ulX12_best_X12 flX12_best_42 rfl (fun v1 ev1 => ?_)
  refine g_bipush C (v := (16 : Int32)) dX12_best_156 (by decide) ?_
  refine g_iload_n C dX12_best_158 rfl 1 rfl ?_
  refine g_imul C dX12_best_159 ?_
  refine g_iload_n C dX12_best_160 rfl 2 rfl ?_
  refine g_iadd C dX12_best_161 ?_
  refine g_iload_n C dX12_best_162 rfl 3 rfl ?_
  refine g_ist C dX12_best_163 (fun S2 eS2 => ?_)
  refine g_iinc1 C dX12_best_164 2 rfl (by decide) (by decide) (fun y3 => ?_)
  refine g_lveq (lv2 := [(2, .int y3), (0, va_rf a0), (1, .int x1), (3, .int x3)]) (by first | rfl | simp [va_rf_cat, vi_cat, vl_cat]) ?_
  refine g_goto C (tgt := 29) dX12_best_167 (by decide) ?_
  exact g_sub (lv2 := [(0, va_rf a0), (1, .int x1), (2, .int y3)]) [1, 2, 0] rfl (hrc29 a0 x1 y3 S2)
set_option maxHeartbeats 4000000 in
set_option maxRecDepth 100000 in
theorem t_X12_best_62 {Γ : Cx} (C : CF Γ cX12_best 9 (some .int) wsX12_best RX12 rmX12_best 0 0) (rc17 : Option Nat → Int32 → St → Option (Int32 × St)) (hrc17 : ∀ (a0 : Option Nat) (x1 : Int32) (S : St), G Γ cvI 9 0 0 17 [(0, va_rf a0), (1, .int x1)] [] S (rc17 a0 x1 S)) (rc29 : Option Nat → Int32 → Int32 → St → Option (Int32 × St)) (hrc29 : ∀ (a0 : Option Nat) (x1 : Int32) (x2 : Int32) (S : St), G Γ cvI 9 0 0 29 [(0, va_rf a0), (1, .int x1), (2, .int x2)] [] S (rc29 a0 x1 x2 S)) : ∀ (n : Nat) (a0 : Option Nat) (x1 : Int32) (x2 : Int32) (x3 : Int32) (x4 : Int32) (S : St), G Γ cvI 9 0 0 62 [(0, va_rf a0), (1, .int x1), (2, .int x2), (3, .int x3), (4, .int x4)] [] S (b_X12_best_62 rc17 rc29 n a0 x1 x2 x3 x4 S) := by
  intro n
  induction n with
  | zero => intro a0 x1 x2 x3 x4 S; exact g_none
  | succ n ih =>
    intro a0 x1 x2 x3 x4 S
    rw [b_X12_best_62]
    refine g_iload C dX12_best_62 4 rfl ?_
    refine g_iconst C (v := (2 : Int32)) dX12_best_64 (by decide) ?_
    refine g_aload_n C dX12_best_65 rfl 0 rfl ?_
    refine g_getI C (ci := 11) (k := 5) dX12_best_66 rfl (by decide) (by decide) (by decide) ulX12_best_X12 flX12_best_105 rfl (fun v1 ev1 => ?_)
    refine g_imul C dX12_best_69 ?_
    refine g_icmp_ge C (tgt := 152) dX12_best_70 (by decide) (fun h2 => ?_) (fun h2 => ?_)
    · exact g_sub (lv2 := [(0, va_rf a0), (1, .int x1), (2, .int x2), (3, .int x3)]) [0, 1, 2, 3] rfl (t_X12_best_152 C rc17 hrc17 rc29 hrc29 a0 x1 x2 x3 S)
    · refine g_iload_n C dX12_best_73 rfl 1 rfl ?_
      refine g_iload C dX12_best_74 4 rfl ?_
      refine g_iconst C (v := (2 : Int32)) dX12_best_76 (by decide) ?_
      refine g_idiv C dX12_best_77 (fun v3 ev3 => ?_)
      refine g_ishr C dX12_best_78 ?_
      refine g_iconst C (v := (1 : Int32)) dX12_best_79 (by decide) ?_
      refine g_iand C dX12_best_80 ?_
      refine g_iconst C (v := (1 : Int32)) dX12_best_81 (by decide) ?_
      refine g_icmp_ne C (tgt := 146) dX12_best_82 (by decide) (fun h4 => ?_) (fun h4 => ?_)
      · refine g_aload_n C dX12_best_85 rfl 0 rfl ?_
        refine g_iload_n C dX12_best_86 rfl 2 rfl ?_
        refine g_iconst C (v := (2 : Int32)) dX12_best_87 (by decide) ?_
        refine g_idiv C dX12_best_88 (fun v5 ev5 => ?_)
        refine g_iload_n C dX12_best_89 rfl 2 rfl ?_
        refine g_iconst C (v := (2 : Int32)) dX12_best_90 (by decide) ?_
        refine g_irem C dX12_best_91 (fun v6 ev6 => ?_)
        refine g_iload C dX12_best_92 4 rfl ?_
        refine g_iconst C (v := (2 : Int32)) dX12_best_94 (by decide) ?_
        refine g_idiv C dX12_best_95 (fun v7 ev7 => ?_)
        refine g_iload C dX12_best_96 4 rfl ?_
        refine g_iconst C (v := (2 : Int32)) dX12_best_98 (by decide) ?_
        refine g_irem C dX12_best_99 (fun v8 ev8 => ?_)
        refine g_callV C (n := 4) (ci := 11) [.int v5, .int v6, .int v7, .int v8] [] (m_X12_between a0 v5 v6 v7 v8 S) dX12_best_100 gX12_best_X12_between rfl ⟨rfl, rfl⟩ (by decide +kernel) ⟨by decide, by decide⟩ ⟨by decide, by decide⟩ rfl (by decide) rfl rfl (by first | exact Nat.le_of_ble_eq_true rfl | simp [va_rf_cat, vi_cat, vl_cat]) (fun o9 eo9 => ?_)
        show G Γ cvI 9 0 0 103 [(0, va_rf a0), (1, .int x1), (2, .int x2), (3, .int x3), (4, .int x4)] [.int o9.1] o9.2 _
        refine g_aload_n C dX12_best_103 rfl 0 rfl ?_
        refine g_getR C (ci := 11) (k := 11) dX12_best_104 rfl (by decide) (by decide) (by decide) ulX12_best_X12 flX12_best_42 rfl (fun v10 ev10 => ?_)
        refine g_bipush C (v := (16 : Int32)) dX12_best_107 (by decide) ?_
        refine g_iload_n C dX12_best_109 rfl 1 rfl ?_
        refine g_iconst C (v := (1 : Int32)) dX12_best_110 (by decide) ?_
        refine g_iload C dX12_best_111 4 rfl ?_
        refine g_iconst C (v := (2 : Int32)) dX12_best_113 (by decide) ?_
        refine g_idiv C dX12_best_114 (fun v11 ev11 => ?_)
        refine g_ishl C dX12_best_115 ?_
        refine g_iconst C (v := (-1 : Int32)) dX12_best_116 (by decide) ?_
        refine g_ixor C dX12_best_117 ?_
        refine g_iand C dX12_best_118 ?_
        refine g_imul C dX12_best_119 ?_
        refine g_iload C dX12_best_120 4 rfl ?_
        refine g_iadd C dX12_best_122 ?_
        refine g_ild C dX12_best_123 (fun v12 ev12 => ?_)
        refine g_iadd C dX12_best_124 ?_
        refine g_topi (fun y13 => ?_)
        refine g_istore C (lv2 := [(5, .int y13), (0, va_rf a0), (1, .int x1), (2, .int x2), (3, .int x3), (4, .int x4)]) dX12_best_125 (by decide) (by first | rfl | simp [va_rf_cat, vi_cat, vl_cat]) ?_
        refine g_iload_n C dX12_best_127 rfl 4 rfl ?_
        refine g_ldc C (v := (-1000000 : Int32)) dX12_best_128 (by decide +kernel) ?_
        refine g_icmp_eq C (tgt := 139) dX12_best_130 (by decide) (fun h14 => ?_) (fun h14 => ?_)
        · exact g_sub (lv2 := [(0, va_rf a0), (1, .int x1), (2, .int x2), (4, .int x4), (5, .int y13)]) [1, 2, 3, 5, 0] rfl (t_X12_best_139 C rc17 hrc17 rc29 hrc29 (b_X12_best_62 rc17 rc29 n) ih a0 x1 x2 x4 y13 o9.2)
        · refine g_iload C dX12_best_133 0 rfl ?_
          refine g_iload_n C dX12_best_135 rfl 4 rfl ?_
          refine g_icmp_ge C (tgt := 144) dX12_best_136 (by decide) (fun h15 => ?_) (fun h15 => ?_)
          · refine g_iload_n C dX12_best_144 rfl 4 rfl ?_
            exact g_sub (lv2 := [(0, va_rf a0), (1, .int x1), (2, .int x2), (4, .int x4)]) [1, 2, 3, 5] rfl (t_X12_best_145 C rc17 hrc17 rc29 hrc29 (b_X12_best_62 rc17 rc29 n) ih a0 x1 x2 x4 x3 o9.2)
          · exact g_sub (lv2 := [(0, va_rf a0), (1, .int x1), (2, .int x2), (4, .int x4), (5, .int y13)]) [1, 2, 3, 5, 0] rfl (t_X12_best_139 C rc17 hrc17 rc29 hrc29 (b_X12_best_62 rc17 rc29 n) ih a0 x1 x2 x4 y13 o9.2)
      · exact g_sub (lv2 := [(0, va_rf a0), (1, .int x1), (2, .int x2), (3, .int x3), (4, .int x4)]) [0, 1, 2, 3, 4] rfl (t_X12_best_146 C rc17 hrc17 rc29 hrc29 (b_X12_best_62 rc17 rc29 n) ih a0 x1 x2 x3 x4 S)
set_option maxHeartbeats 4000000 in
set_option maxRecDepth 100000 in
theorem t_X12_best_58 {Γ : Cx} (C : CF Γ cX12_best 9 (some .int) wsX12_best RX12 rmX12_best 0 0) (rc17 : Option Nat → Int32 → St → Option (Int32 × St)) (hrc17 : ∀ (a0 : Option Nat) (x1 : Int32) (S : St), G Γ cvI 9 0 0 17 [(0, va_rf a0), (1, .int x1)] [] S (rc17 a0 x1 S)) (rc29 : Option Nat → Int32 → Int32 → St → Option (Int32 × St)) (hrc29 : ∀ (a0 : Option Nat) (x1 : Int32) (x2 : Int32) (S : St), G Γ cvI 9 0 0 29 [(0, va_rf a0), (1, .int x1), (2, .int x2)] [] S (rc29 a0 x1 x2 S)) (a0 : Option Nat) (x1 : Int32) (x2 : Int32) (s0 : Int32) (S : St) : G Γ cvI 9 0 0 58 [(0, va_rf a0), (1, .int x1), (2, .int x2)] [.int s0] S (b_X12_best_58 rc17 rc29 a0 x1 x2 s0 S) := by
  unfold b_X12_best_58
  refine g_istore_n C (lv2 := [(3, .int s0), (0, va_rf a0), (1, .int x1), (2, .int x2)]) dX12_best_58 rfl (by decide) (by first | rfl | simp [va_rf_cat, vi_cat, vl_cat]) ?_
  refine g_iconst C (v := (0 : Int32)) dX12_best_59 (by decide) ?_
  refine g_istore C (lv2 := [(4, .int (0 : Int32)), (3, .int s0), (0, va_rf a0), (1, .int x1), (2, .int x2)]) dX12_best_60 (by decide) (by first | rfl | simp [va_rf_cat, vi_cat, vl_cat]) ?_
  exact g_sub (lv2 := [(0, va_rf a0), (1, .int x1), (2, .int x2), (3, .int s0), (4, .int (0 : Int32))]) [2, 3, 4, 1, 0] rfl (t_X12_best_62 C rc17 hrc17 rc29 hrc29 FU a0 x1 x2 s0 (0 : Int32) S)
set_option maxHeartbeats 4000000 in
set_option maxRecDepth 100000 in
theorem t_X12_best_170 {Γ : Cx} (C : CF Γ cX12_best 9 (some .int) wsX12_best RX12 rmX12_best 0 0) (rc17 : Option Nat → Int32 → St → Option (Int32 × St)) (hrc17 : ∀ (a0 : Option Nat) (x1 : Int32) (S : St), G Γ cvI 9 0 0 17 [(0, va_rf a0), (1, .int x1)] [] S (rc17 a0 x1 S)) (a0 : Option Nat) (x1 : Int32) (S : St) : G Γ cvI 9 0 0 170 [(0, va_rf a0), (1, .int x1)] [] S (b_X12_best_170 rc17 a0 x1 S) := by
  unfold b_X12_best_170
  refine g_iinc1 C dX12_best_170 1 rfl (by decide) (by decide) (fun y1 => ?_)
  refine g_lveq (lv2 := [(1, .int y1), (0, va_rf a0)]) (by first | rfl | simp [va_rf_cat, vi_cat, vl_cat]) ?_
  refine g_goto C (tgt := 17) dX12_best_173 (by decide) ?_
  exact g_sub (lv2 := [(0, va_rf a0), (1, .int y1)]) [1, 0] rfl (hrc17 a0 y1 S)
set_option maxHeartbeats 4000000 in
set_option maxRecDepth 100000 in
theorem t_X12_best_29 {Γ : Cx} (C : CF Γ cX12_best 9 (some .int) wsX12_best RX12 rmX12_best 0 0) (rc17 : Option Nat → Int32 → St → Option (Int32 × St)) (hrc17 : ∀ (a0 : Option Nat) (x1 : Int32) (S : St), G Γ cvI 9 0 0 17 [(0, va_rf a0), (1, .int x1)] [] S (rc17 a0 x1 S)) : ∀ (n : Nat) (a0 : Option Nat) (x1 : Int32) (x2 : Int32) (S : St), G Γ cvI 9 0 0 29 [(0, va_rf a0), (1, .int x1), (2, .int x2)] [] S (b_X12_best_29 rc17 n a0 x1 x2 S) := by
  intro n
  induction n with
  | zero => intro a0 x1 x2 S; exact g_none
  | succ n ih =>
    intro a0 x1 x2 S
    rw [b_X12_best_29]
    refine g_iload_n C dX12_best_29 rfl 2 rfl ?_
    refine g_iconst C (v := (2 : Int32)) dX12_best_30 (by decide) ?_
    refine g_aload_n C dX12_best_31 rfl 0 rfl ?_
    refine g_getI C (ci := 11) (k := 5) dX12_best_32 rfl (by decide) (by decide) (by decide) ulX12_best_X12 flX12_best_105 rfl (fun v1 ev1 => ?_)
    refine g_imul C dX12_best_35 ?_
    refine g_icmp_ge C (tgt := 170) dX12_best_36 (by decide) (fun h2 => ?_) (fun h2 => ?_)
    · exact g_sub (lv2 := [(0, va_rf a0), (1, .int x1)]) [0, 1] rfl (t_X12_best_170 C rc17 hrc17 a0 x1 S)
    · refine g_iload_n C dX12_best_39 rfl 1 rfl ?_
      refine g_if_ne C (tgt := 56) dX12_best_40 (by decide) (fun h3 => ?_) (fun h3 => ?_)
      · refine g_aload_n C dX12_best_43 rfl 0 rfl ?_
        refine g_iload_n C dX12_best_44 rfl 2 rfl ?_
        refine g_iconst C (v := (2 : Int32)) dX12_best_45 (by decide) ?_
        refine g_idiv C dX12_best_46 (fun v4 ev4 => ?_)
        refine g_iload_n C dX12_best_47 rfl 2 rfl ?_
        refine g_iconst C (v := (2 : Int32)) dX12_best_48 (by decide) ?_
        refine g_irem C dX12_best_49 (fun v5 ev5 => ?_)
        refine g_callV C (n := 2) (ci := 11) [.int v4, .int v5] [] (m_X12_toStart a0 v4 v5 S) dX12_best_50 gX12_best_X12_toStart rfl ⟨rfl, rfl⟩ (by decide +kernel) ⟨by decide, by decide⟩ ⟨by decide, by decide⟩ rfl (by decide) rfl rfl (by first | exact Nat.le_of_ble_eq_true rfl | simp [va_rf_cat, vi_cat, vl_cat]) (fun o6 eo6 => ?_)
        show G Γ cvI 9 0 0 53 [(0, va_rf a0), (1, .int x1), (2, .int x2)] [.int o6.1] o6.2 _
        refine g_goto C (tgt := 58) dX12_best_53 (by decide) ?_
        exact g_sub (lv2 := [(0, va_rf a0), (1, .int x1), (2, .int x2)]) [0, 1, 2] rfl (t_X12_best_58 C rc17 hrc17 (b_X12_best_29 rc17 n) ih a0 x1 x2 o6.1 o6.2)
      · refine g_ldc C (v := (-1000000 : Int32)) dX12_best_56 (by decide +kernel) ?_
        exact g_sub (lv2 := [(0, va_rf a0), (1, .int x1), (2, .int x2)]) [0, 1, 2] rfl (t_X12_best_58 C rc17 hrc17 (b_X12_best_29 rc17 n) ih a0 x1 x2 (-1000000 : Int32) S)
set_option maxHeartbeats 4000000 in
set_option maxRecDepth 100000 in
theorem t_X12_best_320 {Γ : Cx} (C : CF Γ cX12_best 9 (some .int) wsX12_best RX12 rmX12_best 0 0) (rc193 : Option Nat → Int32 → Int32 → Int32 → Int32 → St → Option (Int32 × St)) (hrc193 : ∀ (a0 : Option Nat) (x1 : Int32) (x2 : Int32) (x3 : Int32) (x4 : Int32) (S : St), G Γ cvI 9 0 0 193 [(0, va_rf a0), (1, .int x1), (2, .int x2), (3, .int x3), (4, .int x4)] [] S (rc193 a0 x1 x2 x3 x4 S)) (rc212 : Option Nat → Int32 → Int32 → Int32 → Int32 → Int32 → Int32 → Int32 → St → Option (Int32 × St)) (hrc212 : ∀ (a0 : Option Nat) (x1 : Int32) (x2 : Int32) (x3 : Int32) (x4 : Int32) (x5 : Int32) (x6 : Int32) (x7 : Int32) (S : St), G Γ cvI 9 0 0 212 [(0, va_rf a0), (1, .int x1), (2, .int x2), (3, .int x3), (4, .int x4), (5, .int x5), (6, .int x6), (7, .int x7)] [] S (rc212 a0 x1 x2 x3 x4 x5 x6 x7 S)) (a0 : Option Nat) (x1 : Int32) (x2 : Int32) (x3 : Int32) (x4 : Int32) (x5 : Int32) (x6 : Int32) (x7 : Int32) (S : St) : G Γ cvI 9 0 0 320 [(0, va_rf a0), (1, .int x1), (2, .int x2), (3, .int x3), (4, .int x4), (5, .int x5), (6, .int x6), (7, .int x7)] [] S (b_X12_best_320 rc193 rc212 a0 x1 x2 x3 x4 x5 x6 x7 S) := by
  unfold b_X12_best_320
  refine g_iinc1 C dX12_best_320 7 rfl (by decide) (by decide) (fun y1 => ?_)
  refine g_lveq (lv2 := [(7, .int y1), (0, va_rf a0), (1, .int x1), (2, .int x2), (3, .int x3), (4, .int x4), (5, .int x5), (6, .int x6)]) (by first | rfl | simp [va_rf_cat, vi_cat, vl_cat]) ?_
  refine g_goto C (tgt := 212) dX12_best_323 (by decide) ?_
  exact g_sub (lv2 := [(0, va_rf a0), (1, .int x1), (2, .int x2), (3, .int x3), (4, .int x4), (5, .int x5), (6, .int x6), (7, .int y1)]) [1, 2, 3, 4, 5, 6, 7, 0] rfl (hrc212 a0 x1 x2 x3 x4 x5 x6 y1 S)
set_option maxHeartbeats 4000000 in
set_option maxRecDepth 100000 in
theorem t_X12_best_312 {Γ : Cx} (C : CF Γ cX12_best 9 (some .int) wsX12_best RX12 rmX12_best 0 0) (rc193 : Option Nat → Int32 → Int32 → Int32 → Int32 → St → Option (Int32 × St)) (hrc193 : ∀ (a0 : Option Nat) (x1 : Int32) (x2 : Int32) (x3 : Int32) (x4 : Int32) (S : St), G Γ cvI 9 0 0 193 [(0, va_rf a0), (1, .int x1), (2, .int x2), (3, .int x3), (4, .int x4)] [] S (rc193 a0 x1 x2 x3 x4 S)) (rc212 : Option Nat → Int32 → Int32 → Int32 → Int32 → Int32 → Int32 → Int32 → St → Option (Int32 × St)) (hrc212 : ∀ (a0 : Option Nat) (x1 : Int32) (x2 : Int32) (x3 : Int32) (x4 : Int32) (x5 : Int32) (x6 : Int32) (x7 : Int32) (S : St), G Γ cvI 9 0 0 212 [(0, va_rf a0), (1, .int x1), (2, .int x2), (3, .int x3), (4, .int x4), (5, .int x5), (6, .int x6), (7, .int x7)] [] S (rc212 a0 x1 x2 x3 x4 x5 x6 x7 S)) (a0 : Option Nat) (x1 : Int32) (x2 : Int32) (x3 : Int32) (x4 : Int32) (x7 : Int32) (x8 : Int32) (S : St) : G Γ cvI 9 0 0 312 [(0, va_rf a0), (1, .int x1), (2, .int x2), (3, .int x3), (4, .int x4), (7, .int x7), (8, .int x8)] [] S (b_X12_best_312 rc193 rc212 a0 x1 x2 x3 x4 x7 x8 S) := by
  unfold b_X12_best_312
  refine g_iload C dX12_best_312 5 rfl ?_
  refine g_istore C (lv2 := [(5, .int x7), (0, va_rf a0), (1, .int x1), (2, .int x2), (3, .int x3), (4, .int x4), (7, .int x7), (8, .int x8)]) dX12_best_314 (by decide) (by first | rfl | simp [va_rf_cat, vi_cat, vl_cat]) ?_
  refine g_iload C dX12_best_316 7 rfl ?_
  refine g_istore C (lv2 := [(6, .int x8), (5, .int x7), (0, va_rf a0), (1, .int x1), (2, .int x2), (3, .int x3), (4, .int x4), (7, .int x7), (8, .int x8)]) dX12_best_318 (by decide) (by first | rfl | simp [va_rf_cat, vi_cat, vl_cat]) ?_
  exact g_sub (lv2 := [(0, va_rf a0), (1, .int x1), (2, .int x2), (3, .int x3), (4, .int x4), (5, .int x7), (6, .int x8), (7, .int x7)]) [2, 3, 4, 5, 6, 1, 0, 7] rfl (t_X12_best_320 C rc193 hrc193 rc212 hrc212 a0 x1 x2 x3 x4 x7 x8 x7 S)
set_option maxHeartbeats 4000000 in
set_option maxRecDepth 100000 in
theorem t_X12_best_274 {Γ : Cx} (C : CF Γ cX12_best 9 (some .int) wsX12_best RX12 rmX12_best 0 0) (rc193 : Option Nat → Int32 → Int32 → Int32 → Int32 → St → Option (Int32 × St)) (hrc193 : ∀ (a0 : Option Nat) (x1 : Int32) (x2 : Int32) (x3 : Int32) (x4 : Int32) (S : St), G Γ cvI 9 0 0 193 [(0, va_rf a0), (1, .int x1), (2, .int x2), (3, .int x3), (4, .int x4)] [] S (rc193 a0 x1 x2 x3 x4 S)) (rc212 : Option Nat → Int32 → Int32 → Int32 → Int32 → Int32 → Int32 → Int32 → St → Option (Int32 × St)) (hrc212 : ∀ (a0 : Option Nat) (x1 : Int32) (x2 : Int32) (x3 : Int32) (x4 : Int32) (x5 : Int32) (x6 : Int32) (x7 : Int32) (S : St), G Γ cvI 9 0 0 212 [(0, va_rf a0), (1, .int x1), (2, .int x2), (3, .int x3), (4, .int x4), (5, .int x5), (6, .int x6), (7, .int x7)] [] S (rc212 a0 x1 x2 x3 x4 x5 x6 x7 S)) (a0 : Option Nat) (x1 : Int32) (x2 : Int32) (x3 : Int32) (x4 : Int32) (x5 : Int32) (x6 : Int32) (x7 : Int32) (s0 : Int32) (S : St) : G Γ cvI 9 0 0 274 [(0, va_rf a0), (1, .int x1), (2, .int x2), (3, .int x3), (4, .int x4), (5, .int x5), (6, .int x6), (7, .int x7)] [.int s0] S (b_X12_best_274 rc193 rc212 a0 x1 x2 x3 x4 x5 x6 x7 s0 S) := by
  unfold b_X12_best_274
  refine g_aload_n C dX12_best_274 rfl 0 rfl ?_
  refine g_getR C (ci := 11) (k := 11) dX12_best_275 rfl (by decide) (by decide) (by decide) ulX12_best_X12 flX12_best_42 rfl (fun v1 ev1 => ?_)
  refine g_bipush C (v := (16 : Int32)) dX12_best_278 (by decide) ?_
  refine g_iload_n C dX12_best_280 rfl 1 rfl ?_
  refine g_iconst C (v := (1 : Int32)) dX12_best_281 (by decide) ?_
  refine g_iload C dX12_best_282 7 rfl ?_
  refine g_iconst C (v := (2 : Int32)) dX12_best_284 (by decide) ?_
  refine g_idiv C dX12_best_285 (fun v2 ev2 => ?_)
  refine g_ishl C dX12_best_286 ?_
  refine g_iconst C (v := (-1 : Int32)) dX12_best_287 (by decide) ?_
  refine g_ixor C dX12_best_288 ?_
  refine g_iand C dX12_best_289 ?_
  refine g_imul C dX12_best_290 ?_
  refine g_iload C dX12_best_291 7 rfl ?_
  refine g_iadd C dX12_best_293 ?_
  refine g_ild C dX12_best_294 (fun v3 ev3 => ?_)
  refine g_iadd C dX12_best_295 ?_
  refine g_topi (fun y4 => ?_)
  refine g_istore C (lv2 := [(8, .int y4), (0, va_rf a0), (1, .int x1), (2, .int x2), (3, .int x3), (4, .int x4), (5, .int x5), (6, .int x6), (7, .int x7)]) dX12_best_296 (by decide) (by first | rfl | simp [va_rf_cat, vi_cat, vl_cat]) ?_
  refine g_iload C dX12_best_298 6 rfl ?_
  refine g_ldc C (v := (-1000000 : Int32)) dX12_best_300 (by decide +kernel) ?_
  refine g_icmp_eq C (tgt := 312) dX12_best_302 (by decide) (fun h5 => ?_) (fun h5 => ?_)
  · exact g_sub (lv2 := [(0, va_rf a0), (1, .int x1), (2, .int x2), (3, .int x3), (4, .int x4), (7, .int x7), (8, .int y4)]) [1, 2, 3, 4, 5, 8, 0] rfl (t_X12_best_312 C rc193 hrc193 rc212 hrc212 a0 x1 x2 x3 x4 x7 y4 S)
  · refine g_iload C dX12_best_305 0 rfl ?_
    refine g_iload C dX12_best_307 7 rfl ?_
    refine g_icmp_ge C (tgt := 320) dX12_best_309 (by decide) (fun h6 => ?_) (fun h6 => ?_)
    · exact g_sub (lv2 := [(0, va_rf a0), (1, .int x1), (2, .int x2), (3, .int x3), (4, .int x4), (5, .int x5), (6, .int x6), (7, .int x7)]) [1, 2, 3, 4, 5, 6, 7, 8] rfl (t_X12_best_320 C rc193 hrc193 rc212 hrc212 a0 x1 x2 x3 x4 x5 x6 x7 S)
    · exact g_sub (lv2 := [(0, va_rf a0), (1, .int x1), (2, .int x2), (3, .int x3), (4, .int x4), (7, .int x7), (8, .int y4)]) [1, 2, 3, 4, 5, 8, 0] rfl (t_X12_best_312 C rc193 hrc193 rc212 hrc212 a0 x1 x2 x3 x4 x7 y4 S)
set_option maxHeartbeats 4000000 in
set_option maxRecDepth 100000 in
theorem t_X12_best_337 {Γ : Cx} (C : CF Γ cX12_best 9 (some .int) wsX12_best RX12 rmX12_best 0 0) (rc193 : Option Nat → Int32 → Int32 → Int32 → Int32 → St → Option (Int32 × St)) (hrc193 : ∀ (a0 : Option Nat) (x1 : Int32) (x2 : Int32) (x3 : Int32) (x4 : Int32) (S : St), G Γ cvI 9 0 0 193 [(0, va_rf a0), (1, .int x1), (2, .int x2), (3, .int x3), (4, .int x4)] [] S (rc193 a0 x1 x2 x3 x4 S)) (a0 : Option Nat) (x1 : Int32) (x4 : Int32) (x5 : Int32) (s0 : Int32) (S : St) : G Γ cvI 9 0 0 337 [(0, va_rf a0), (1, .int x1), (4, .int x4), (5, .int x5)] [.int s0] S (b_X12_best_337 rc193 a0 x1 x4 x5 s0 S) := by
  unfold b_X12_best_337
  refine g_istore_n C (lv2 := [(3, .int s0), (0, va_rf a0), (1, .int x1), (4, .int x4), (5, .int x5)]) dX12_best_337 rfl (by decide) (by first | rfl | simp [va_rf_cat, vi_cat, vl_cat]) ?_
  refine g_aload_n C dX12_best_338 rfl 1 rfl ?_
  refine g_getR C (ci := 11) (k := 9) dX12_best_339 rfl (by decide) (by decide) (by decide) ulX12_best_X12 flX12_best_36 rfl (fun v1 ev1 => ?_)
  refine g_iload C dX12_best_342 3 rfl ?_
  refine g_iload C dX12_best_344 4 rfl ?_
  refine g_iconst C (v := (2 : Int32)) dX12_best_346 (by decide) ?_
  refine g_idiv C dX12_best_347 (fun v2 ev2 => ?_)
  refine g_ist C dX12_best_348 (fun S3 eS3 => ?_)
  refine g_aload_n C dX12_best_349 rfl 1 rfl ?_
  refine g_getR C (ci := 11) (k := 10) dX12_best_350 rfl (by decide) (by decide) (by decide) ulX12_best_X12 flX12_best_39 rfl (fun v4 ev4 => ?_)
  refine g_iload C dX12_best_353 3 rfl ?_
  refine g_iload C dX12_best_355 4 rfl ?_
  refine g_iconst C (v := (2 : Int32)) dX12_best_357 (by decide) ?_
  refine g_irem C dX12_best_358 (fun v5 ev5 => ?_)
  refine g_ist C dX12_best_359 (fun S6 eS6 => ?_)
  refine g_iload_n C dX12_best_360 rfl 2 rfl ?_
  refine g_iconst C (v := (1 : Int32)) dX12_best_361 (by decide) ?_
  refine g_iload C dX12_best_362 4 rfl ?_
  refine g_iconst C (v := (2 : Int32)) dX12_best_364 (by decide) ?_
  refine g_idiv C dX12_best_365 (fun v7 ev7 => ?_)
  refine g_ishl C dX12_best_366 ?_
  refine g_iconst C (v := (-1 : Int32)) dX12_best_367 (by decide) ?_
  refine g_ixor C dX12_best_368 ?_
  refine g_iand C dX12_best_369 ?_
  refine g_topi (fun y8 => ?_)
  refine g_istore_n C (lv2 := [(1, .int y8), (3, .int s0), (0, va_rf a0), (4, .int x4), (5, .int x5)]) dX12_best_370 rfl (by decide) (by first | rfl | simp [va_rf_cat, vi_cat, vl_cat]) ?_
  refine g_iload C dX12_best_371 4 rfl ?_
  refine g_istore_n C (lv2 := [(2, .int x5), (1, .int y8), (3, .int s0), (0, va_rf a0), (4, .int x4), (5, .int x5)]) dX12_best_373 rfl (by decide) (by first | rfl | simp [va_rf_cat, vi_cat, vl_cat]) ?_
  refine g_iinc1 C dX12_best_374 4 rfl (by decide) (by decide) (fun y9 => ?_)
  refine g_lveq (lv2 := [(4, .int y9), (2, .int x5), (1, .int y8), (3, .int s0), (0, va_rf a0), (5, .int x5)]) (by first | rfl | simp [va_rf_cat, vi_cat, vl_cat]) ?_
  refine g_goto C (tgt := 193) dX12_best_377 (by decide) ?_
  exact g_sub (lv2 := [(0, va_rf a0), (1, .int y8), (2, .int x5), (3, .int s0), (4, .int y9)]) [4, 2, 1, 3, 0] rfl (hrc193 a0 y8 x5 s0 y9 S6)
set_option maxHeartbeats 4000000 in
set_option maxRecDepth 100000 in
theorem t_X12_best_326 {Γ : Cx} (C : CF Γ cX12_best 9 (some .int) wsX12_best RX12 rmX12_best 0 0) (rc193 : Option Nat → Int32 → Int32 → Int32 → Int32 → St → Option (Int32 × St)) (hrc193 : ∀ (a0 : Option Nat) (x1 : Int32) (x2 : Int32) (x3 : Int32) (x4 : Int32) (S : St), G Γ cvI 9 0 0 193 [(0, va_rf a0), (1, .int x1), (2, .int x2), (3, .int x3), (4, .int x4)] [] S (rc193 a0 x1 x2 x3 x4 S)) (a0 : Option Nat) (x1 : Int32) (x3 : Int32) (x4 : Int32) (x5 : Int32) (x6 : Int32) (S : St) : G Γ cvI 9 0 0 326 [(0, va_rf a0), (1, .int x1), (3, .int x3), (4, .int x4), (5, .int x5), (6, .int x6)] [] S (b_X12_best_326 rc193 a0 x1 x3 x4 x5 x6 S) := by
  unfold b_X12_best_326
  refine g_iload C dX12_best_326 3 rfl ?_
  refine g_if_ne C (tgt := 336) dX12_best_328 (by decide) (fun h1 => ?_) (fun h1 => ?_)
  · refine g_iload C dX12_best_331 5 rfl ?_
    refine g_goto C (tgt := 337) dX12_best_333 (by decide) ?_
    exact g_sub (lv2 := [(0, va_rf a0), (1, .int x1), (4, .int x4), (5, .int x5)]) [0, 1, 3, 4] rfl (t_X12_best_337 C rc193 hrc193 a0 x1 x4 x5 x6 S)
  · refine g_iload_n C dX12_best_336 rfl 2 rfl ?_
    exact g_sub (lv2 := [(0, va_rf a0), (1, .int x1), (4, .int x4), (5, .int x5)]) [0, 1, 3, 4] rfl (t_X12_best_337 C rc193 hrc193 a0 x1 x4 x5 x3 S)
set_option maxHeartbeats 4000000 in
set_option maxRecDepth 100000 in
theorem t_X12_best_212 {Γ : Cx} (C : CF Γ cX12_best 9 (some .int) wsX12_best RX12 rmX12_best 0 0) (rc193 : Option Nat → Int32 → Int32 → Int32 → Int32 → St → Option (Int32 × St)) (hrc193 : ∀ (a0 : Option Nat) (x1 : Int32) (x2 : Int32) (x3 : Int32) (x4 : Int32) (S : St), G Γ cvI 9 0 0 193 [(0, va_rf a0), (1, .int x1), (2, .int x2), (3, .int x3), (4, .int x4)] [] S (rc193 a0 x1 x2 x3 x4 S)) : ∀ (n : Nat) (a0 : Option Nat) (x1 : Int32) (x2 : Int32) (x3 : Int32) (x4 : Int32) (x5 : Int32) (x6 : Int32) (x7 : Int32) (S : St), G Γ cvI 9 0 0 212 [(0, va_rf a0), (1, .int x1), (2, .int x2), (3, .int x3), (4, .int x4), (5, .int x5), (6, .int x6), (7, .int x7)] [] S (b_X12_best_212 rc193 n a0 x1 x2 x3 x4 x5 x6 x7 S) := by
  intro n
  induction n with
  | zero => intro a0 x1 x2 x3 x4 x5 x6 x7 S; exact g_none
  | succ n ih =>
    intro a0 x1 x2 x3 x4 x5 x6 x7 S
    rw [b_X12_best_212]
    refine g_iload C dX12_best_212 7 rfl ?_
    refine g_iconst C (v := (2 : Int32)) dX12_best_214 (by decide) ?_
    refine g_aload_n C dX12_best_215 rfl 0 rfl ?_
    refine g_getI C (ci := 11) (k := 5) dX12_best_216 rfl (by decide) (by decide) (by decide) ulX12_best_X12 flX12_best_105 rfl (fun v1 ev1 => ?_)
    refine g_imul C dX12_best_219 ?_
    refine g_icmp_ge C (tgt := 326) dX12_best_220 (by decide) (fun h2 => ?_) (fun h2 => ?_)
    · exact g_sub (lv2 := [(0, va_rf a0), (1, .int x1), (3, .int x3), (4, .int x4), (5, .int x5), (6, .int x6)]) [0, 1, 3, 4, 5, 6] rfl (t_X12_best_326 C rc193 hrc193 a0 x1 x3 x4 x5 x6 S)
    · refine g_iload_n C dX12_best_223 rfl 1 rfl ?_
      refine g_iload C dX12_best_224 7 rfl ?_
      refine g_iconst C (v := (2 : Int32)) dX12_best_226 (by decide) ?_
      refine g_idiv C dX12_best_227 (fun v3 ev3 => ?_)
      refine g_ishr C dX12_best_228 ?_
      refine g_iconst C (v := (1 : Int32)) dX12_best_229 (by decide) ?_
      refine g_iand C dX12_best_230 ?_
      refine g_iconst C (v := (1 : Int32)) dX12_best_231 (by decide) ?_
      refine g_icmp_ne C (tgt := 320) dX12_best_232 (by decide) (fun h4 => ?_) (fun h4 => ?_)
      · refine g_iload_n C dX12_best_235 rfl 2 rfl ?_
        refine g_ldc C (v := (-1000000 : Int32)) dX12_best_236 (by decide +kernel) ?_
        refine g_icmp_ne C (tgt := 256) dX12_best_238 (by decide) (fun h5 => ?_) (fun h5 => ?_)
        · refine g_aload_n C dX12_best_241 rfl 0 rfl ?_
          refine g_iload C dX12_best_242 7 rfl ?_
          refine g_iconst C (v := (2 : Int32)) dX12_best_244 (by decide) ?_
          refine g_idiv C dX12_best_245 (fun v6 ev6 => ?_)
          refine g_iload C dX12_best_246 7 rfl ?_
          refine g_iconst C (v := (2 : Int32)) dX12_best_248 (by decide) ?_
          refine g_irem C dX12_best_249 (fun v7 ev7 => ?_)
          refine g_callV C (n := 2) (ci := 11) [.int v6, .int v7] [] (m_X12_fromStart a0 v6 v7 S) dX12_best_250 gX12_best_X12_fromStart rfl ⟨rfl, rfl⟩ (by decide +kernel) ⟨by decide, by decide⟩ ⟨by decide, by decide⟩ rfl (by decide) rfl rfl (by first | exact Nat.le_of_ble_eq_true rfl | simp [va_rf_cat, vi_cat, vl_cat]) (fun o8 eo8 => ?_)
          show G Γ cvI 9 0 0 253 [(0, va_rf a0), (1, .int x1), (2, .int x2), (3, .int x3), (4, .int x4), (5, .int x5), (6, .int x6), (7, .int x7)] [.int o8.1] o8.2 _
          refine g_goto C (tgt := 274) dX12_best_253 (by decide) ?_
          exact g_sub (lv2 := [(0, va_rf a0), (1, .int x1), (2, .int x2), (3, .int x3), (4, .int x4), (5, .int x5), (6, .int x6), (7, .int x7)]) [0, 1, 2, 3, 4, 5, 6, 7] rfl (t_X12_best_274 C rc193 hrc193 (b_X12_best_212 rc193 n) ih a0 x1 x2 x3 x4 x5 x6 x7 o8.1 o8.2)
        · refine g_aload_n C dX12_best_256 rfl 0 rfl ?_
          refine g_iload_n C dX12_best_257 rfl 2 rfl ?_
          refine g_iconst C (v := (2 : Int32)) dX12_best_258 (by decide) ?_
          refine g_idiv C dX12_best_259 (fun v9 ev9 => ?_)
          refine g_iload_n C dX12_best_260 rfl 2 rfl ?_
          refine g_iconst C (v := (2 : Int32)) dX12_best_261 (by decide) ?_
          refine g_irem C dX12_best_262 (fun v10 ev10 => ?_)
          refine g_iload C dX12_best_263 7 rfl ?_
          refine g_iconst C (v := (2 : Int32)) dX12_best_265 (by decide) ?_
          refine g_idiv C dX12_best_266 (fun v11 ev11 => ?_)
          refine g_iload C dX12_best_267 7 rfl ?_
          refine g_iconst C (v := (2 : Int32)) dX12_best_269 (by decide) ?_
          refine g_irem C dX12_best_270 (fun v12 ev12 => ?_)
          refine g_callV C (n := 4) (ci := 11) [.int v9, .int v10, .int v11, .int v12] [] (m_X12_between a0 v9 v10 v11 v12 S) dX12_best_271 gX12_best_X12_between rfl ⟨rfl, rfl⟩ (by decide +kernel) ⟨by decide, by decide⟩ ⟨by decide, by decide⟩ rfl (by decide) rfl rfl (by first | exact Nat.le_of_ble_eq_true rfl | simp [va_rf_cat, vi_cat, vl_cat]) (fun o13 eo13 => ?_)
          show G Γ cvI 9 0 0 274 [(0, va_rf a0), (1, .int x1), (2, .int x2), (3, .int x3), (4, .int x4), (5, .int x5), (6, .int x6), (7, .int x7)] [.int o13.1] o13.2 _
          exact g_sub (lv2 := [(0, va_rf a0), (1, .int x1), (2, .int x2), (3, .int x3), (4, .int x4), (5, .int x5), (6, .int x6), (7, .int x7)]) [0, 1, 2, 3, 4, 5, 6, 7] rfl (t_X12_best_274 C rc193 hrc193 (b_X12_best_212 rc193 n) ih a0 x1 x2 x3 x4 x5 x6 x7 o13.1 o13.2)
      · exact g_sub (lv2 := [(0, va_rf a0), (1, .int x1), (2, .int x2), (3, .int x3), (4, .int x4), (5, .int x5), (6, .int x6), (7, .int x7)]) [0, 1, 2, 3, 4, 5, 6, 7] rfl (t_X12_best_320 C rc193 hrc193 (b_X12_best_212 rc193 n) ih a0 x1 x2 x3 x4 x5 x6 x7 S)
set_option maxHeartbeats 4000000 in
set_option maxRecDepth 100000 in
theorem t_X12_best_380 {Γ : Cx} (C : CF Γ cX12_best 9 (some .int) wsX12_best RX12 rmX12_best 0 0) (x3 : Int32) (S : St) : G Γ cvI 9 0 0 380 [(3, .int x3)] [] S (b_X12_best_380  x3 S) := by
  unfold b_X12_best_380
  refine g_iload_n C dX12_best_380 rfl 0 rfl ?_
  exact g_iret C dX12_best_381 ⟨by decide, by decide⟩
set_option maxHeartbeats 4000000 in
set_option maxRecDepth 100000 in
theorem t_X12_best_193 {Γ : Cx} (C : CF Γ cX12_best 9 (some .int) wsX12_best RX12 rmX12_best 0 0) : ∀ (n : Nat) (a0 : Option Nat) (x1 : Int32) (x2 : Int32) (x3 : Int32) (x4 : Int32) (S : St), G Γ cvI 9 0 0 193 [(0, va_rf a0), (1, .int x1), (2, .int x2), (3, .int x3), (4, .int x4)] [] S (b_X12_best_193  n a0 x1 x2 x3 x4 S) := by
  intro n
  induction n with
  | zero => intro a0 x1 x2 x3 x4 S; exact g_none
  | succ n ih =>
    intro a0 x1 x2 x3 x4 S
    rw [b_X12_best_193]
    refine g_iload C dX12_best_193 4 rfl ?_
    refine g_aload_n C dX12_best_195 rfl 0 rfl ?_
    refine g_getI C (ci := 11) (k := 5) dX12_best_196 rfl (by decide) (by decide) (by decide) ulX12_best_X12 flX12_best_105 rfl (fun v1 ev1 => ?_)
    refine g_icmp_ge C (tgt := 380) dX12_best_199 (by decide) (fun h2 => ?_) (fun h2 => ?_)
    · exact g_sub (lv2 := [(3, .int x3)]) [3] rfl (t_X12_best_380 C x3 S)
    · refine g_ldc C (v := (-1000000 : Int32)) dX12_best_202 (by decide +kernel) ?_
      refine g_istore C (lv2 := [(5, .int (-1000000 : Int32)), (0, va_rf a0), (1, .int x1), (2, .int x2), (3, .int x3), (4, .int x4)]) dX12_best_204 (by decide) (by first | rfl | simp [va_rf_cat, vi_cat, vl_cat]) ?_
      refine g_iconst C (v := (0 : Int32)) dX12_best_206 (by decide) ?_
      refine g_istore C (lv2 := [(6, .int (0 : Int32)), (5, .int (-1000000 : Int32)), (0, va_rf a0), (1, .int x1), (2, .int x2), (3, .int x3), (4, .int x4)]) dX12_best_207 (by decide) (by first | rfl | simp [va_rf_cat, vi_cat, vl_cat]) ?_
      refine g_iconst C (v := (0 : Int32)) dX12_best_209 (by decide) ?_
      refine g_istore C (lv2 := [(7, .int (0 : Int32)), (6, .int (0 : Int32)), (5, .int (-1000000 : Int32)), (0, va_rf a0), (1, .int x1), (2, .int x2), (3, .int x3), (4, .int x4)]) dX12_best_210 (by decide) (by first | rfl | simp [va_rf_cat, vi_cat, vl_cat]) ?_
      exact g_sub (lv2 := [(0, va_rf a0), (1, .int x1), (2, .int x2), (3, .int x3), (4, .int x4), (5, .int (-1000000 : Int32)), (6, .int (0 : Int32)), (7, .int (0 : Int32))]) [3, 4, 5, 6, 7, 2, 1, 0] rfl (t_X12_best_212 C (b_X12_best_193 n) ih FU a0 x1 x2 x3 x4 (-1000000 : Int32) (0 : Int32) (0 : Int32) S)
set_option maxHeartbeats 4000000 in
set_option maxRecDepth 100000 in
theorem t_X12_best_176 {Γ : Cx} (C : CF Γ cX12_best 9 (some .int) wsX12_best RX12 rmX12_best 0 0) (a0 : Option Nat) (S : St) : G Γ cvI 9 0 0 176 [(0, va_rf a0)] [] S (b_X12_best_176  a0 S) := by
  unfold b_X12_best_176
  refine g_iconst C (v := (1 : Int32)) dX12_best_176 (by decide) ?_
  refine g_aload_n C dX12_best_177 rfl 0 rfl ?_
  refine g_getI C (ci := 11) (k := 5) dX12_best_178 rfl (by decide) (by decide) (by decide) ulX12_best_X12 flX12_best_105 rfl (fun v1 ev1 => ?_)
  refine g_ishl C dX12_best_181 ?_
  refine g_iconst C (v := (1 : Int32)) dX12_best_182 (by decide) ?_
  refine g_isub C dX12_best_183 ?_
  refine g_topi (fun y2 => ?_)
  refine g_istore_n C (lv2 := [(1, .int y2), (0, va_rf a0)]) dX12_best_184 rfl (by decide) (by first | rfl | simp [va_rf_cat, vi_cat, vl_cat]) ?_
  refine g_ldc C (v := (-1000000 : Int32)) dX12_best_185 (by decide +kernel) ?_
  refine g_istore_n C (lv2 := [(2, .int (-1000000 : Int32)), (1, .int y2), (0, va_rf a0)]) dX12_best_187 rfl (by decide) (by first | rfl | simp [va_rf_cat, vi_cat, vl_cat]) ?_
  refine g_iconst C (v := (0 : Int32)) dX12_best_188 (by decide) ?_
  refine g_istore_n C (lv2 := [(3, .int (0 : Int32)), (2, .int (-1000000 : Int32)), (1, .int y2), (0, va_rf a0)]) dX12_best_189 rfl (by decide) (by first | rfl | simp [va_rf_cat, vi_cat, vl_cat]) ?_
  refine g_iconst C (v := (0 : Int32)) dX12_best_190 (by decide) ?_
  refine g_istore C (lv2 := [(4, .int (0 : Int32)), (3, .int (0 : Int32)), (2, .int (-1000000 : Int32)), (1, .int y2), (0, va_rf a0)]) dX12_best_191 (by decide) (by first | rfl | simp [va_rf_cat, vi_cat, vl_cat]) ?_
  exact g_sub (lv2 := [(0, va_rf a0), (1, .int y2), (2, .int (-1000000 : Int32)), (3, .int (0 : Int32)), (4, .int (0 : Int32))]) [4, 3, 2, 1, 0] rfl (t_X12_best_193 C FU a0 y2 (-1000000 : Int32) (0 : Int32) (0 : Int32) S)
set_option maxHeartbeats 4000000 in
set_option maxRecDepth 100000 in
theorem t_X12_best_17 {Γ : Cx} (C : CF Γ cX12_best 9 (some .int) wsX12_best RX12 rmX12_best 0 0) : ∀ (n : Nat) (a0 : Option Nat) (x1 : Int32) (S : St), G Γ cvI 9 0 0 17 [(0, va_rf a0), (1, .int x1)] [] S (b_X12_best_17  n a0 x1 S) := by
  intro n
  induction n with
  | zero => intro a0 x1 S; exact g_none
  | succ n ih =>
    intro a0 x1 S
    rw [b_X12_best_17]
    refine g_iload_n C dX12_best_17 rfl 1 rfl ?_
    refine g_iconst C (v := (1 : Int32)) dX12_best_18 (by decide) ?_
    refine g_aload_n C dX12_best_19 rfl 0 rfl ?_
    refine g_getI C (ci := 11) (k := 5) dX12_best_20 rfl (by decide) (by decide) (by decide) ulX12_best_X12 flX12_best_105 rfl (fun v1 ev1 => ?_)
    refine g_ishl C dX12_best_23 ?_
    refine g_icmp_ge C (tgt := 176) dX12_best_24 (by decide) (fun h2 => ?_) (fun h2 => ?_)
    · exact g_sub (lv2 := [(0, va_rf a0)]) [0] rfl (t_X12_best_176 C a0 S)
    · refine g_iconst C (v := (0 : Int32)) dX12_best_27 (by decide) ?_
      refine g_istore_n C (lv2 := [(2, .int (0 : Int32)), (0, va_rf a0), (1, .int x1)]) dX12_best_28 rfl (by decide) (by first | rfl | simp [va_rf_cat, vi_cat, vl_cat]) ?_
      exact g_sub (lv2 := [(0, va_rf a0), (1, .int x1), (2, .int (0 : Int32))]) [1, 2, 0] rfl (t_X12_best_29 C (b_X12_best_17 n) ih FU a0 x1 (0 : Int32) S)
set_option maxHeartbeats 4000000 in
set_option maxRecDepth 100000 in
theorem m_X12_best (a0 : Option Nat) (S : St) : ∀ l D cy H0 o, f_X12_best a0 S = some o → Met l yX12_best wsX12_best rmX12_best (Pq D cy H0 [va_rf a0] S) (Qx D cy H0 (cvI o)) 0 0 (fun q => H0.size ≤ q) := by
  refine met_of (cc := cX12_best) (maxL := 9) (ret := (some .int)) [va_rf a0] [(0, va_rf a0)] (by decide) rfl rfl (by simp [lg_sl, va_rf_cat, vi_cat, vl_cat]) (by simp [lv_args, va_rf_cat, vi_cat, vl_cat]) (fun Γ C => ?_)
  unfold f_X12_best
  refine g_aload_n C dX12_best_0 rfl 0 rfl ?_
  refine g_iconst C (v := (0 : Int32)) dX12_best_1 (by decide) ?_
  refine g_putI C (ci := 11) (k := 0) (ty0 := tyX12) dX12_best_2 rfl (by decide) (by decide) (by decide) tyX12_ok nmX12 ulX12_best_X12 flX12_best_1 rfl rfl ⟨rfl, rfl⟩ (fun S1 eS1 => ?_)
  refine g_aload_n C dX12_best_5 rfl 0 rfl ?_
  refine g_getI C (ci := 11) (k := 5) dX12_best_6 rfl (by decide) (by decide) (by decide) ulX12_best_X12 flX12_best_105 rfl (fun v2 ev2 => ?_)
  refine g_if_ne C (tgt := 15) dX12_best_9 (by decide) (fun h3 => ?_) (fun h3 => ?_)
  · refine g_ldc C (v := (-1000002 : Int32)) dX12_best_12 (by decide +kernel) ?_
    exact g_iret C dX12_best_14 ⟨by decide, by decide⟩
  · refine g_iconst C (v := (0 : Int32)) dX12_best_15 (by decide) ?_
    refine g_istore_n C (lv2 := [(1, .int (0 : Int32)), (0, va_rf a0)]) dX12_best_16 rfl (by decide) (by first | rfl | simp [va_rf_cat, vi_cat, vl_cat]) ?_
    exact g_sub (lv2 := [(0, va_rf a0), (1, .int (0 : Int32))]) [1, 0] rfl (t_X12_best_17 C FU a0 (0 : Int32) S1)
abbrev rmX12_order : Room := { frames := 1, cells := 0, slots := 0, locals := 25 }
theorem flX12_order_1 : Cond.fieldLink RX12 1 "LightLinesModel" "thrown" "I" ∈ wsX12_order := by decide +kernel
theorem flX12_order_36 : Cond.fieldLink RX12 36 "LightLinesModel" "order" "[I" ∈ wsX12_order := by decide +kernel
theorem flX12_order_39 : Cond.fieldLink RX12 39 "LightLinesModel" "back" "[I" ∈ wsX12_order := by decide +kernel
theorem flX12_order_105 : Cond.fieldLink RX12 105 "LightLinesModel" "strokes" "I" ∈ wsX12_order := by decide +kernel
set_option maxRecDepth 100000 in
theorem ulX12_order_X12 : ∀ w ∈ u_ws RX12 TX12 42, w ∈ wsX12_order := by decide +kernel
set_option maxHeartbeats 4000000 in
set_option maxRecDepth 100000 in
theorem m_X12_order (a0 : Option Nat) (x1 : Int32) (x2 : Int32) (S : St) : ∀ l D cy H0 o, f_X12_order a0 x1 x2 S = some o → Met l yX12_order wsX12_order rmX12_order (Pq D cy H0 [va_rf a0, .int x1, .int x2] S) (Qx D cy H0 (cvI o)) 0 0 (fun q => H0.size ≤ q) := by
  refine met_of (cc := cX12_order) (maxL := 3) (ret := (some .int)) [va_rf a0, .int x1, .int x2] [(0, va_rf a0), (1, .int x1), (2, .int x2)] (by decide) rfl rfl (by simp [lg_sl, va_rf_cat, vi_cat, vl_cat]) (by simp [lv_args, va_rf_cat, vi_cat, vl_cat]) (fun Γ C => ?_)
  unfold f_X12_order
  refine g_aload_n C dX12_order_0 rfl 0 rfl ?_
  refine g_iconst C (v := (0 : Int32)) dX12_order_1 (by decide) ?_
  refine g_putI C (ci := 11) (k := 0) (ty0 := tyX12) dX12_order_2 rfl (by decide) (by decide) (by decide) tyX12_ok nmX12 ulX12_order_X12 flX12_order_1 rfl rfl ⟨rfl, rfl⟩ (fun S1 eS1 => ?_)
  refine g_iload_n C dX12_order_5 rfl 2 rfl ?_
  refine g_i2l C dX12_order_6 ?_
  refine g_lconst C (v := (0 : Int64)) dX12_order_7 (by decide) ?_
  refine g_lconst C (v := (1 : Int64)) dX12_order_8 (by decide) ?_
  refine g_callS C (n := 3) [.long x2.toInt64, .long (0 : Int64), .long (1 : Int64)] [] (m_X12_in x2.toInt64 (0 : Int64) (1 : Int64) S1) dX12_order_9 gX12_order_X12_in rfl ⟨rfl, rfl⟩ (by decide +kernel) ⟨by decide, by decide⟩ ⟨by decide, by decide⟩ rfl rfl (by first | exact Nat.le_of_ble_eq_true rfl | simp [va_rf_cat, vi_cat, vl_cat]) (fun o2 eo2 => ?_)
  show G Γ cvI 3 0 0 12 [(0, va_rf a0), (1, .int x1), (2, .int x2)] [.int o2.1] o2.2 _
  refine g_if_ne C (tgt := 18) dX12_order_12 (by decide) (fun h3 => ?_) (fun h3 => ?_)
  · refine g_ldc C (v := (-1000001 : Int32)) dX12_order_15 (by decide +kernel) ?_
    exact g_iret C dX12_order_17 ⟨by decide, by decide⟩
  · refine g_iload_n C dX12_order_18 rfl 1 rfl ?_
    refine g_i2l C dX12_order_19 ?_
    refine g_lconst C (v := (0 : Int64)) dX12_order_20 (by decide) ?_
    refine g_aload_n C dX12_order_21 rfl 0 rfl ?_
    refine g_getI C (ci := 11) (k := 5) dX12_order_22 rfl (by decide) (by decide) (by decide) ulX12_order_X12 flX12_order_105 rfl (fun v4 ev4 => ?_)
    refine g_iconst C (v := (1 : Int32)) dX12_order_25 (by decide) ?_
    refine g_isub C dX12_order_26 ?_
    refine g_i2l C dX12_order_27 ?_
    refine g_callS C (n := 3) [.long x1.toInt64, .long (0 : Int64), .long ((v4 - (1 : Int32)).toInt64)] [] (m_X12_in x1.toInt64 (0 : Int64) ((v4 - (1 : Int32)).toInt64) o2.2) dX12_order_28 gX12_order_X12_in rfl ⟨rfl, rfl⟩ (by decide +kernel) ⟨by decide, by decide⟩ ⟨by decide, by decide⟩ rfl rfl (by first | exact Nat.le_of_ble_eq_true rfl | simp [va_rf_cat, vi_cat, vl_cat]) (fun o5 eo5 => ?_)
    show G Γ cvI 3 0 0 31 [(0, va_rf a0), (1, .int x1), (2, .int x2)] [.int o5.1] o5.2 _
    refine g_if_ne C (tgt := 39) dX12_order_31 (by decide) (fun h6 => ?_) (fun h6 => ?_)
    · refine g_ldc C (v := (-1000000 : Int32)) dX12_order_34 (by decide +kernel) ?_
      refine g_goto C (tgt := 58) dX12_order_36 (by decide) ?_
      exact g_iret C dX12_order_58 ⟨by decide, by decide⟩
    · refine g_iload_n C dX12_order_39 rfl 2 rfl ?_
      refine g_if_ne C (tgt := 52) dX12_order_40 (by decide) (fun h7 => ?_) (fun h7 => ?_)
      · refine g_aload_n C dX12_order_43 rfl 0 rfl ?_
        refine g_getR C (ci := 11) (k := 9) dX12_order_44 rfl (by decide) (by decide) (by decide) ulX12_order_X12 flX12_order_36 rfl (fun v8 ev8 => ?_)
        refine g_iload_n C dX12_order_47 rfl 1 rfl ?_
        refine g_ild C dX12_order_48 (fun v9 ev9 => ?_)
        refine g_goto C (tgt := 58) dX12_order_49 (by decide) ?_
        exact g_iret C dX12_order_58 ⟨by decide, by decide⟩
      · refine g_aload_n C dX12_order_52 rfl 0 rfl ?_
        refine g_getR C (ci := 11) (k := 10) dX12_order_53 rfl (by decide) (by decide) (by decide) ulX12_order_X12 flX12_order_39 rfl (fun v10 ev10 => ?_)
        refine g_iload_n C dX12_order_56 rfl 1 rfl ?_
        refine g_ild C dX12_order_57 (fun v11 ev11 => ?_)
        exact g_iret C dX12_order_58 ⟨by decide, by decide⟩
abbrev rmX12_rule : Room := { frames := 1, cells := 0, slots := 0, locals := 25 }
theorem flX12_rule_1 : Cond.fieldLink RX12 1 "LightLinesModel" "thrown" "I" ∈ wsX12_rule := by decide +kernel
theorem flX12_rule_45 : Cond.fieldLink RX12 45 "LightLinesModel" "rule" "[I" ∈ wsX12_rule := by decide +kernel
set_option maxRecDepth 100000 in
theorem ulX12_rule_X12 : ∀ w ∈ u_ws RX12 TX12 42, w ∈ wsX12_rule := by decide +kernel
set_option maxHeartbeats 4000000 in
set_option maxRecDepth 100000 in
theorem t_X12_rule_87 {Γ : Cx} (C : CF Γ cX12_rule 5 (some .int) wsX12_rule RX12 rmX12_rule 0 0) (a0 : Option Nat) (x1 : Int32) (x2 : Int32) (s0 : Int32) (S : St) : G Γ cvI 5 0 0 87 [(0, va_rf a0), (1, .int x1), (2, .int x2)] [.int s0] S (b_X12_rule_87  a0 x1 x2 s0 S) := by
  unfold b_X12_rule_87
  refine g_istore_n C (lv2 := [(3, .int s0), (0, va_rf a0), (1, .int x1), (2, .int x2)]) dX12_rule_87 rfl (by decide) (by first | rfl | simp [va_rf_cat, vi_cat, vl_cat]) ?_
  refine g_iload_n C dX12_rule_88 rfl 0 rfl ?_
  refine g_if_ne C (tgt := 95) dX12_rule_89 (by decide) (fun h1 => ?_) (fun h1 => ?_)
  · refine g_ldc C (v := (-1000001 : Int32)) dX12_rule_92 (by decide +kernel) ?_
    exact g_iret C dX12_rule_94 ⟨by decide, by decide⟩
  · refine g_aload_n C dX12_rule_95 rfl 1 rfl ?_
    refine g_getR C (ci := 11) (k := 12) dX12_rule_96 rfl (by decide) (by decide) (by decide) ulX12_rule_X12 flX12_rule_45 rfl (fun v2 ev2 => ?_)
    refine g_iload_n C dX12_rule_99 rfl 2 rfl ?_
    refine g_ild C dX12_rule_100 (fun v3 ev3 => ?_)
    refine g_istore C (lv2 := [(4, .int v3), (3, .int s0), (0, va_rf a0), (1, .int x1), (2, .int x2)]) dX12_rule_101 (by decide) (by first | rfl | simp [va_rf_cat, vi_cat, vl_cat]) ?_
    refine g_aload_n C dX12_rule_103 rfl 2 rfl ?_
    refine g_getR C (ci := 11) (k := 12) dX12_rule_104 rfl (by decide) (by decide) (by decide) ulX12_rule_X12 flX12_rule_45 rfl (fun v4 ev4 => ?_)
    refine g_iload_n C dX12_rule_107 rfl 3 rfl ?_
    refine g_iload_n C dX12_rule_108 rfl 4 rfl ?_
    refine g_ist C dX12_rule_109 (fun S5 eS5 => ?_)
    refine g_iload C dX12_rule_110 0 rfl ?_
    exact g_iret C dX12_rule_112 ⟨by decide, by decide⟩
set_option maxHeartbeats 4000000 in
set_option maxRecDepth 100000 in
theorem t_X12_rule_14 {Γ : Cx} (C : CF Γ cX12_rule 5 (some .int) wsX12_rule RX12 rmX12_rule 0 0) (a0 : Option Nat) (x1 : Int32) (x2 : Int32) (S : St) : G Γ cvI 5 0 0 14 [(0, va_rf a0), (1, .int x1), (2, .int x2)] [] S (b_X12_rule_14  a0 x1 x2 S) := by
  unfold b_X12_rule_14
  refine g_iload_n C dX12_rule_14 rfl 2 rfl ?_
  refine g_i2l C dX12_rule_15 ?_
  refine g_lconst C (v := (1 : Int64)) dX12_rule_16 (by decide) ?_
  refine g_ldc2 C (v := (1000 : Int64)) dX12_rule_17 (by decide +kernel) ?_
  refine g_callS C (n := 3) [.long x2.toInt64, .long (1 : Int64), .long (1000 : Int64)] [] (m_X12_in x2.toInt64 (1 : Int64) (1000 : Int64) S) dX12_rule_20 gX12_rule_X12_in rfl ⟨rfl, rfl⟩ (by decide +kernel) ⟨by decide, by decide⟩ ⟨by decide, by decide⟩ rfl rfl (by first | exact Nat.le_of_ble_eq_true rfl | simp [va_rf_cat, vi_cat, vl_cat]) (fun o1 eo1 => ?_)
  show G Γ cvI 5 0 0 23 [(0, va_rf a0), (1, .int x1), (2, .int x2)] [.int o1.1] o1.2 _
  refine g_goto C (tgt := 87) dX12_rule_23 (by decide) ?_
  exact g_sub (lv2 := [(0, va_rf a0), (1, .int x1), (2, .int x2)]) [0, 1, 2] rfl (t_X12_rule_87 C a0 x1 x2 o1.1 o1.2)
set_option maxHeartbeats 4000000 in
set_option maxRecDepth 100000 in
theorem t_X12_rule_36 {Γ : Cx} (C : CF Γ cX12_rule 5 (some .int) wsX12_rule RX12 rmX12_rule 0 0) (a0 : Option Nat) (x1 : Int32) (x2 : Int32) (S : St) : G Γ cvI 5 0 0 36 [(0, va_rf a0), (1, .int x1), (2, .int x2)] [] S (b_X12_rule_36  a0 x1 x2 S) := by
  unfold b_X12_rule_36
  refine g_iload_n C dX12_rule_36 rfl 2 rfl ?_
  refine g_i2l C dX12_rule_37 ?_
  refine g_lconst C (v := (0 : Int64)) dX12_rule_38 (by decide) ?_
  refine g_ldc2 C (v := (5 : Int64)) dX12_rule_39 (by decide +kernel) ?_
  refine g_callS C (n := 3) [.long x2.toInt64, .long (0 : Int64), .long (5 : Int64)] [] (m_X12_in x2.toInt64 (0 : Int64) (5 : Int64) S) dX12_rule_42 gX12_rule_X12_in rfl ⟨rfl, rfl⟩ (by decide +kernel) ⟨by decide, by decide⟩ ⟨by decide, by decide⟩ rfl rfl (by first | exact Nat.le_of_ble_eq_true rfl | simp [va_rf_cat, vi_cat, vl_cat]) (fun o1 eo1 => ?_)
  show G Γ cvI 5 0 0 45 [(0, va_rf a0), (1, .int x1), (2, .int x2)] [.int o1.1] o1.2 _
  refine g_goto C (tgt := 87) dX12_rule_45 (by decide) ?_
  exact g_sub (lv2 := [(0, va_rf a0), (1, .int x1), (2, .int x2)]) [0, 1, 2] rfl (t_X12_rule_87 C a0 x1 x2 o1.1 o1.2)
set_option maxHeartbeats 4000000 in
set_option maxRecDepth 100000 in
theorem t_X12_rule_86 {Γ : Cx} (C : CF Γ cX12_rule 5 (some .int) wsX12_rule RX12 rmX12_rule 0 0) (a0 : Option Nat) (x1 : Int32) (x2 : Int32) (S : St) : G Γ cvI 5 0 0 86 [(0, va_rf a0), (1, .int x1), (2, .int x2)] [] S (b_X12_rule_86  a0 x1 x2 S) := by
  unfold b_X12_rule_86
  refine g_iconst C (v := (0 : Int32)) dX12_rule_86 (by decide) ?_
  exact g_sub (lv2 := [(0, va_rf a0), (1, .int x1), (2, .int x2)]) [0, 1, 2] rfl (t_X12_rule_87 C a0 x1 x2 (0 : Int32) S)
set_option maxHeartbeats 4000000 in
set_option maxRecDepth 100000 in
theorem m_X12_rule (a0 : Option Nat) (x1 : Int32) (x2 : Int32) (S : St) : ∀ l D cy H0 o, f_X12_rule a0 x1 x2 S = some o → Met l yX12_rule wsX12_rule rmX12_rule (Pq D cy H0 [va_rf a0, .int x1, .int x2] S) (Qx D cy H0 (cvI o)) 0 0 (fun q => H0.size ≤ q) := by
  refine met_of (cc := cX12_rule) (maxL := 5) (ret := (some .int)) [va_rf a0, .int x1, .int x2] [(0, va_rf a0), (1, .int x1), (2, .int x2)] (by decide) rfl rfl (by simp [lg_sl, va_rf_cat, vi_cat, vl_cat]) (by simp [lv_args, va_rf_cat, vi_cat, vl_cat]) (fun Γ C => ?_)
  unfold f_X12_rule
  refine g_aload_n C dX12_rule_0 rfl 0 rfl ?_
  refine g_iconst C (v := (0 : Int32)) dX12_rule_1 (by decide) ?_
  refine g_putI C (ci := 11) (k := 0) (ty0 := tyX12) dX12_rule_2 rfl (by decide) (by decide) (by decide) tyX12_ok nmX12 ulX12_rule_X12 flX12_rule_1 rfl rfl ⟨rfl, rfl⟩ (fun S1 eS1 => ?_)
  refine g_iload_n C dX12_rule_5 rfl 1 rfl ?_
  refine g_if_eq C (tgt := 14) dX12_rule_6 (by decide) (fun h2 => ?_) (fun h2 => ?_)
  · exact g_sub (lv2 := [(0, va_rf a0), (1, .int x1), (2, .int x2)]) [0, 1, 2] rfl (t_X12_rule_14 C a0 x1 x2 S1)
  · refine g_iload_n C dX12_rule_9 rfl 1 rfl ?_
    refine g_iconst C (v := (5 : Int32)) dX12_rule_10 (by decide) ?_
    refine g_icmp_ne C (tgt := 26) dX12_rule_11 (by decide) (fun h3 => ?_) (fun h3 => ?_)
    · exact g_sub (lv2 := [(0, va_rf a0), (1, .int x1), (2, .int x2)]) [0, 1, 2] rfl (t_X12_rule_14 C a0 x1 x2 S1)
    · refine g_iload_n C dX12_rule_26 rfl 1 rfl ?_
      refine g_iconst C (v := (1 : Int32)) dX12_rule_27 (by decide) ?_
      refine g_icmp_eq C (tgt := 36) dX12_rule_28 (by decide) (fun h4 => ?_) (fun h4 => ?_)
      · exact g_sub (lv2 := [(0, va_rf a0), (1, .int x1), (2, .int x2)]) [0, 1, 2] rfl (t_X12_rule_36 C a0 x1 x2 S1)
      · refine g_iload_n C dX12_rule_31 rfl 1 rfl ?_
        refine g_iconst C (v := (4 : Int32)) dX12_rule_32 (by decide) ?_
        refine g_icmp_ne C (tgt := 48) dX12_rule_33 (by decide) (fun h5 => ?_) (fun h5 => ?_)
        · exact g_sub (lv2 := [(0, va_rf a0), (1, .int x1), (2, .int x2)]) [0, 1, 2] rfl (t_X12_rule_36 C a0 x1 x2 S1)
        · refine g_iload_n C dX12_rule_48 rfl 1 rfl ?_
          refine g_iconst C (v := (2 : Int32)) dX12_rule_49 (by decide) ?_
          refine g_icmp_ne C (tgt := 65) dX12_rule_50 (by decide) (fun h6 => ?_) (fun h6 => ?_)
          · refine g_iload_n C dX12_rule_53 rfl 2 rfl ?_
            refine g_i2l C dX12_rule_54 ?_
            refine g_lconst C (v := (1 : Int64)) dX12_rule_55 (by decide) ?_
            refine g_ldc2 C (v := (16 : Int64)) dX12_rule_56 (by decide +kernel) ?_
            refine g_callS C (n := 3) [.long x2.toInt64, .long (1 : Int64), .long (16 : Int64)] [] (m_X12_in x2.toInt64 (1 : Int64) (16 : Int64) S1) dX12_rule_59 gX12_rule_X12_in rfl ⟨rfl, rfl⟩ (by decide +kernel) ⟨by decide, by decide⟩ ⟨by decide, by decide⟩ rfl rfl (by first | exact Nat.le_of_ble_eq_true rfl | simp [va_rf_cat, vi_cat, vl_cat]) (fun o7 eo7 => ?_)
            show G Γ cvI 5 0 0 62 [(0, va_rf a0), (1, .int x1), (2, .int x2)] [.int o7.1] o7.2 _
            refine g_goto C (tgt := 87) dX12_rule_62 (by decide) ?_
            exact g_sub (lv2 := [(0, va_rf a0), (1, .int x1), (2, .int x2)]) [0, 1, 2] rfl (t_X12_rule_87 C a0 x1 x2 o7.1 o7.2)
          · refine g_iload_n C dX12_rule_65 rfl 1 rfl ?_
            refine g_iconst C (v := (3 : Int32)) dX12_rule_66 (by decide) ?_
            refine g_icmp_ne C (tgt := 86) dX12_rule_67 (by decide) (fun h8 => ?_) (fun h8 => ?_)
            · refine g_iload_n C dX12_rule_70 rfl 2 rfl ?_
              refine g_i2l C dX12_rule_71 ?_
              refine g_lconst C (v := (0 : Int64)) dX12_rule_72 (by decide) ?_
              refine g_ldc2 C (v := (16 : Int64)) dX12_rule_73 (by decide +kernel) ?_
              refine g_callS C (n := 3) [.long x2.toInt64, .long (0 : Int64), .long (16 : Int64)] [] (m_X12_in x2.toInt64 (0 : Int64) (16 : Int64) S1) dX12_rule_76 gX12_rule_X12_in rfl ⟨rfl, rfl⟩ (by decide +kernel) ⟨by decide, by decide⟩ ⟨by decide, by decide⟩ rfl rfl (by first | exact Nat.le_of_ble_eq_true rfl | simp [va_rf_cat, vi_cat, vl_cat]) (fun o9 eo9 => ?_)
              show G Γ cvI 5 0 0 79 [(0, va_rf a0), (1, .int x1), (2, .int x2)] [.int o9.1] o9.2 _
              refine g_if_eq C (tgt := 86) dX12_rule_79 (by decide) (fun h10 => ?_) (fun h10 => ?_)
              · exact g_sub (lv2 := [(0, va_rf a0), (1, .int x1), (2, .int x2)]) [0, 1, 2] rfl (t_X12_rule_86 C a0 x1 x2 o9.2)
              · refine g_iconst C (v := (1 : Int32)) dX12_rule_82 (by decide) ?_
                refine g_goto C (tgt := 87) dX12_rule_83 (by decide) ?_
                exact g_sub (lv2 := [(0, va_rf a0), (1, .int x1), (2, .int x2)]) [0, 1, 2] rfl (t_X12_rule_87 C a0 x1 x2 (1 : Int32) o9.2)
            · exact g_sub (lv2 := [(0, va_rf a0), (1, .int x1), (2, .int x2)]) [0, 1, 2] rfl (t_X12_rule_86 C a0 x1 x2 S1)
