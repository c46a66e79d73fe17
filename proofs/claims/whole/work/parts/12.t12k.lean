abbrev rmX12_count : Room := { frames := 1, cells := 0, slots := 0, locals := 23 }
theorem flX12_count_1 : Cond.fieldLink RX12 1 "LightLinesModel" "thrown" "I" ∈ wsX12_count := by decide +kernel
theorem flX12_count_17 : Cond.fieldLink RX12 17 "LightLinesModel" "lane" "[I" ∈ wsX12_count := by decide +kernel
theorem flX12_count_27 : Cond.fieldLink RX12 27 "LightLinesModel" "points" "[I" ∈ wsX12_count := by decide +kernel
theorem flX12_count_48 : Cond.fieldLink RX12 48 "LightLinesModel" "isZone" "[Z" ∈ wsX12_count := by decide +kernel
theorem flX12_count_105 : Cond.fieldLink RX12 105 "LightLinesModel" "strokes" "I" ∈ wsX12_count := by decide +kernel
theorem flX12_count_190 : Cond.fieldLink RX12 190 "LightLinesModel" "taped" "I" ∈ wsX12_count := by decide +kernel
theorem flX12_count_261 : Cond.fieldLink RX12 261 "LightLinesModel" "cues" "I" ∈ wsX12_count := by decide +kernel
set_option maxRecDepth 100000 in
theorem ulX12_count_X12 : ∀ w ∈ u_ws RX12 TX12 42, w ∈ wsX12_count := by decide +kernel
set_option maxHeartbeats 4000000 in
set_option maxRecDepth 100000 in
theorem t_X12_count_75 {Γ : Cx} (C : CF Γ cX12_count 4 (some .int) wsX12_count RX12 rmX12_count 0 0) (rc54 : Option Nat → Int32 → Int32 → St → Option (Int32 × St)) (hrc54 : ∀ (a0 : Option Nat) (x2 : Int32) (x3 : Int32) (S : St), G Γ cvI 4 0 0 54 [(0, va_rf a0), (2, .int x2), (3, .int x3)] [] S (rc54 a0 x2 x3 S)) (a0 : Option Nat) (x3 : Int32) (s0 : Int32) (s1 : Int32) (S : St) : G Γ cvI 4 0 0 75 [(0, va_rf a0), (3, .int x3)] [.int s1, .int s0] S (b_X12_count_75 rc54 a0 x3 s0 s1 S) := by
  unfold b_X12_count_75
  refine g_iadd C dX12_count_75 ?_
  refine g_topi (fun y1 => ?_)
  refine g_istore_n C (lv2 := [(2, .int y1), (0, va_rf a0), (3, .int x3)]) dX12_count_76 rfl (by decide) (by first | rfl | simp [va_rf_cat, vi_cat, vl_cat]) ?_
  refine g_iinc1 C dX12_count_77 2 rfl (by decide) (by decide) (fun y2 => ?_)
  refine g_lveq (lv2 := [(3, .int y2), (2, .int y1), (0, va_rf a0)]) (by first | rfl | simp [va_rf_cat, vi_cat, vl_cat]) ?_
  refine g_goto C (tgt := 54) dX12_count_80 (by decide) ?_
  exact g_sub (lv2 := [(0, va_rf a0), (2, .int y1), (3, .int y2)]) [2, 1, 0] rfl (hrc54 a0 y1 y2 S)
set_option maxHeartbeats 4000000 in
set_option maxRecDepth 100000 in
theorem t_X12_count_83 {Γ : Cx} (C : CF Γ cX12_count 4 (some .int) wsX12_count RX12 rmX12_count 0 0) (x2 : Int32) (S : St) : G Γ cvI 4 0 0 83 [(2, .int x2)] [] S (b_X12_count_83  x2 S) := by
  unfold b_X12_count_83
  refine g_iload_n C dX12_count_83 rfl 0 rfl ?_
  exact g_iret C dX12_count_84 ⟨by decide, by decide⟩
set_option maxHeartbeats 4000000 in
set_option maxRecDepth 100000 in
theorem t_X12_count_54 {Γ : Cx} (C : CF Γ cX12_count 4 (some .int) wsX12_count RX12 rmX12_count 0 0) : ∀ (n : Nat) (a0 : Option Nat) (x2 : Int32) (x3 : Int32) (S : St), G Γ cvI 4 0 0 54 [(0, va_rf a0), (2, .int x2), (3, .int x3)] [] S (b_X12_count_54  n a0 x2 x3 S) := by
  intro n
  induction n with
  | zero => intro a0 x2 x3 S; exact g_none
  | succ n ih =>
    intro a0 x2 x3 S
    rw [b_X12_count_54]
    refine g_iload_n C dX12_count_54 rfl 2 rfl ?_
    refine g_bipush C (v := (8 : Int32)) dX12_count_55 (by decide) ?_
    refine g_icmp_ge C (tgt := 83) dX12_count_57 (by decide) (fun h1 => ?_) (fun h1 => ?_)
    · exact g_sub (lv2 := [(2, .int x2)]) [1] rfl (t_X12_count_83 C x2 S)
    · refine g_iload_n C dX12_count_60 rfl 1 rfl ?_
      refine g_aload_n C dX12_count_61 rfl 0 rfl ?_
      refine g_getR C (ci := 11) (k := 2) dX12_count_62 rfl (by decide) (by decide) (by decide) ulX12_count_X12 flX12_count_17 rfl (fun v2 ev2 => ?_)
      refine g_iload_n C dX12_count_65 rfl 2 rfl ?_
      refine g_ild C dX12_count_66 (fun v3 ev3 => ?_)
      refine g_if_lt C (tgt := 74) dX12_count_67 (by decide) (fun h4 => ?_) (fun h4 => ?_)
      · refine g_iconst C (v := (0 : Int32)) dX12_count_74 (by decide) ?_
        exact g_sub (lv2 := [(0, va_rf a0), (3, .int x3)]) [0, 2] rfl (t_X12_count_75 C (b_X12_count_54 n) ih a0 x3 x2 (0 : Int32) S)
      · refine g_iconst C (v := (1 : Int32)) dX12_count_70 (by decide) ?_
        refine g_goto C (tgt := 75) dX12_count_71 (by decide) ?_
        exact g_sub (lv2 := [(0, va_rf a0), (3, .int x3)]) [0, 2] rfl (t_X12_count_75 C (b_X12_count_54 n) ih a0 x3 x2 (1 : Int32) S)
set_option maxHeartbeats 4000000 in
set_option maxRecDepth 100000 in
theorem t_X12_count_129 {Γ : Cx} (C : CF Γ cX12_count 4 (some .int) wsX12_count RX12 rmX12_count 0 0) (rc92 : Option Nat → Int32 → Int32 → Int32 → St → Option (Int32 × St)) (hrc92 : ∀ (a0 : Option Nat) (x1 : Int32) (x2 : Int32) (x3 : Int32) (S : St), G Γ cvI 4 0 0 92 [(0, va_rf a0), (1, .int x1), (2, .int x2), (3, .int x3)] [] S (rc92 a0 x1 x2 x3 S)) (a0 : Option Nat) (x1 : Int32) (x3 : Int32) (s0 : Int32) (s1 : Int32) (S : St) : G Γ cvI 4 0 0 129 [(0, va_rf a0), (1, .int x1), (3, .int x3)] [.int s1, .int s0] S (b_X12_count_129 rc92 a0 x1 x3 s0 s1 S) := by
  unfold b_X12_count_129
  refine g_iadd C dX12_count_129 ?_
  refine g_topi (fun y1 => ?_)
  refine g_istore_n C (lv2 := [(2, .int y1), (0, va_rf a0), (1, .int x1), (3, .int x3)]) dX12_count_130 rfl (by decide) (by first | rfl | simp [va_rf_cat, vi_cat, vl_cat]) ?_
  refine g_iinc1 C dX12_count_131 3 rfl (by decide) (by decide) (fun y2 => ?_)
  refine g_lveq (lv2 := [(3, .int y2), (2, .int y1), (0, va_rf a0), (1, .int x1)]) (by first | rfl | simp [va_rf_cat, vi_cat, vl_cat]) ?_
  refine g_goto C (tgt := 92) dX12_count_134 (by decide) ?_
  exact g_sub (lv2 := [(0, va_rf a0), (1, .int x1), (2, .int y1), (3, .int y2)]) [2, 3, 1, 0] rfl (hrc92 a0 x1 y1 y2 S)
set_option maxHeartbeats 4000000 in
set_option maxRecDepth 100000 in
theorem t_X12_count_137 {Γ : Cx} (C : CF Γ cX12_count 4 (some .int) wsX12_count RX12 rmX12_count 0 0) (x2 : Int32) (S : St) : G Γ cvI 4 0 0 137 [(2, .int x2)] [] S (b_X12_count_137  x2 S) := by
  unfold b_X12_count_137
  refine g_iload_n C dX12_count_137 rfl 0 rfl ?_
  exact g_iret C dX12_count_138 ⟨by decide, by decide⟩
set_option maxHeartbeats 4000000 in
set_option maxRecDepth 100000 in
theorem t_X12_count_92 {Γ : Cx} (C : CF Γ cX12_count 4 (some .int) wsX12_count RX12 rmX12_count 0 0) : ∀ (n : Nat) (a0 : Option Nat) (x1 : Int32) (x2 : Int32) (x3 : Int32) (S : St), G Γ cvI 4 0 0 92 [(0, va_rf a0), (1, .int x1), (2, .int x2), (3, .int x3)] [] S (b_X12_count_92  n a0 x1 x2 x3 S) := by
  intro n
  induction n with
  | zero => intro a0 x1 x2 x3 S; exact g_none
  | succ n ih =>
    intro a0 x1 x2 x3 S
    rw [b_X12_count_92]
    refine g_iload_n C dX12_count_92 rfl 3 rfl ?_
    refine g_aload_n C dX12_count_93 rfl 0 rfl ?_
    refine g_getI C (ci := 11) (k := 5) dX12_count_94 rfl (by decide) (by decide) (by decide) ulX12_count_X12 flX12_count_105 rfl (fun v1 ev1 => ?_)
    refine g_icmp_ge C (tgt := 137) dX12_count_97 (by decide) (fun h2 => ?_) (fun h2 => ?_)
    · exact g_sub (lv2 := [(2, .int x2)]) [2] rfl (t_X12_count_137 C x2 S)
    · refine g_iload_n C dX12_count_100 rfl 2 rfl ?_
      refine g_iload_n C dX12_count_101 rfl 1 rfl ?_
      refine g_iconst C (v := (2 : Int32)) dX12_count_102 (by decide) ?_
      refine g_icmp_ne C (tgt := 115) dX12_count_103 (by decide) (fun h3 => ?_) (fun h3 => ?_)
      · refine g_aload_n C dX12_count_106 rfl 0 rfl ?_
        refine g_getR C (ci := 11) (k := 6) dX12_count_107 rfl (by decide) (by decide) (by decide) ulX12_count_X12 flX12_count_27 rfl (fun v4 ev4 => ?_)
        refine g_iload_n C dX12_count_110 rfl 3 rfl ?_
        refine g_ild C dX12_count_111 (fun v5 ev5 => ?_)
        refine g_goto C (tgt := 129) dX12_count_112 (by decide) ?_
        exact g_sub (lv2 := [(0, va_rf a0), (1, .int x1), (3, .int x3)]) [0, 1, 3] rfl (t_X12_count_129 C (b_X12_count_92 n) ih a0 x1 x3 x2 v5 S)
      · refine g_aload_n C dX12_count_115 rfl 0 rfl ?_
        refine g_iload_n C dX12_count_116 rfl 3 rfl ?_
        refine g_callV C (n := 1) (ci := 11) [.int x3] [.int x2] (m_X12_kindOf a0 x3 S) dX12_count_117 gX12_count_X12_kindOf rfl ⟨rfl, rfl⟩ (by decide +kernel) ⟨by decide, by decide⟩ ⟨by decide, by decide⟩ rfl (by decide) rfl rfl (by first | exact Nat.le_of_ble_eq_true rfl | simp [va_rf_cat, vi_cat, vl_cat]) (fun o6 eo6 => ?_)
        show G Γ cvI 4 0 0 120 [(0, va_rf a0), (1, .int x1), (2, .int x2), (3, .int x3)] [.int o6.1, .int x2] o6.2 _
        refine g_iconst C (v := (3 : Int32)) dX12_count_120 (by decide) ?_
        refine g_icmp_ne C (tgt := 128) dX12_count_121 (by decide) (fun h7 => ?_) (fun h7 => ?_)
        · refine g_iconst C (v := (1 : Int32)) dX12_count_124 (by decide) ?_
          refine g_goto C (tgt := 129) dX12_count_125 (by decide) ?_
          exact g_sub (lv2 := [(0, va_rf a0), (1, .int x1), (3, .int x3)]) [0, 1, 3] rfl (t_X12_count_129 C (b_X12_count_92 n) ih a0 x1 x3 x2 (1 : Int32) o6.2)
        · refine g_iconst C (v := (0 : Int32)) dX12_count_128 (by decide) ?_
          exact g_sub (lv2 := [(0, va_rf a0), (1, .int x1), (3, .int x3)]) [0, 1, 3] rfl (t_X12_count_129 C (b_X12_count_92 n) ih a0 x1 x3 x2 (0 : Int32) o6.2)
set_option maxHeartbeats 4000000 in
set_option maxRecDepth 100000 in
theorem t_X12_count_90 {Γ : Cx} (C : CF Γ cX12_count 4 (some .int) wsX12_count RX12 rmX12_count 0 0) (a0 : Option Nat) (x1 : Int32) (x2 : Int32) (S : St) : G Γ cvI 4 0 0 90 [(0, va_rf a0), (1, .int x1), (2, .int x2)] [] S (b_X12_count_90  a0 x1 x2 S) := by
  unfold b_X12_count_90
  refine g_iconst C (v := (0 : Int32)) dX12_count_90 (by decide) ?_
  refine g_istore_n C (lv2 := [(3, .int (0 : Int32)), (0, va_rf a0), (1, .int x1), (2, .int x2)]) dX12_count_91 rfl (by decide) (by first | rfl | simp [va_rf_cat, vi_cat, vl_cat]) ?_
  exact g_sub (lv2 := [(0, va_rf a0), (1, .int x1), (2, .int x2), (3, .int (0 : Int32))]) [1, 2, 3, 0] rfl (t_X12_count_92 C FU a0 x1 x2 (0 : Int32) S)
set_option maxHeartbeats 4000000 in
set_option maxRecDepth 100000 in
theorem t_X12_count_161 {Γ : Cx} (C : CF Γ cX12_count 4 (some .int) wsX12_count RX12 rmX12_count 0 0) (rc141 : Option Nat → Int32 → Int32 → St → Option (Int32 × St)) (hrc141 : ∀ (a0 : Option Nat) (x2 : Int32) (x3 : Int32) (S : St), G Γ cvI 4 0 0 141 [(0, va_rf a0), (2, .int x2), (3, .int x3)] [] S (rc141 a0 x2 x3 S)) (a0 : Option Nat) (x3 : Int32) (s0 : Int32) (s1 : Int32) (S : St) : G Γ cvI 4 0 0 161 [(0, va_rf a0), (3, .int x3)] [.int s1, .int s0] S (b_X12_count_161 rc141 a0 x3 s0 s1 S) := by
  unfold b_X12_count_161
  refine g_iadd C dX12_count_161 ?_
  refine g_topi (fun y1 => ?_)
  refine g_istore_n C (lv2 := [(2, .int y1), (0, va_rf a0), (3, .int x3)]) dX12_count_162 rfl (by decide) (by first | rfl | simp [va_rf_cat, vi_cat, vl_cat]) ?_
  refine g_iinc1 C dX12_count_163 2 rfl (by decide) (by decide) (fun y2 => ?_)
  refine g_lveq (lv2 := [(3, .int y2), (2, .int y1), (0, va_rf a0)]) (by first | rfl | simp [va_rf_cat, vi_cat, vl_cat]) ?_
  refine g_goto C (tgt := 141) dX12_count_166 (by decide) ?_
  exact g_sub (lv2 := [(0, va_rf a0), (2, .int y1), (3, .int y2)]) [2, 1, 0] rfl (hrc141 a0 y1 y2 S)
set_option maxHeartbeats 4000000 in
set_option maxRecDepth 100000 in
theorem t_X12_count_169 {Γ : Cx} (C : CF Γ cX12_count 4 (some .int) wsX12_count RX12 rmX12_count 0 0) (x2 : Int32) (S : St) : G Γ cvI 4 0 0 169 [(2, .int x2)] [] S (b_X12_count_169  x2 S) := by
  unfold b_X12_count_169
  refine g_iload_n C dX12_count_169 rfl 0 rfl ?_
  exact g_iret C dX12_count_170 ⟨by decide, by decide⟩
set_option maxHeartbeats 4000000 in
set_option maxRecDepth 100000 in
theorem t_X12_count_141 {Γ : Cx} (C : CF Γ cX12_count 4 (some .int) wsX12_count RX12 rmX12_count 0 0) : ∀ (n : Nat) (a0 : Option Nat) (x2 : Int32) (x3 : Int32) (S : St), G Γ cvI 4 0 0 141 [(0, va_rf a0), (2, .int x2), (3, .int x3)] [] S (b_X12_count_141  n a0 x2 x3 S) := by
  intro n
  induction n with
  | zero => intro a0 x2 x3 S; exact g_none
  | succ n ih =>
    intro a0 x2 x3 S
    rw [b_X12_count_141]
    refine g_iload_n C dX12_count_141 rfl 2 rfl ?_
    refine g_iconst C (v := (4 : Int32)) dX12_count_142 (by decide) ?_
    refine g_icmp_ge C (tgt := 169) dX12_count_143 (by decide) (fun h1 => ?_) (fun h1 => ?_)
    · exact g_sub (lv2 := [(2, .int x2)]) [1] rfl (t_X12_count_169 C x2 S)
    · refine g_iload_n C dX12_count_146 rfl 1 rfl ?_
      refine g_aload_n C dX12_count_147 rfl 0 rfl ?_
      refine g_getR C (ci := 11) (k := 13) dX12_count_148 rfl (by decide) (by decide) (by decide) ulX12_count_X12 flX12_count_48 rfl (fun v2 ev2 => ?_)
      refine g_iload_n C dX12_count_151 rfl 2 rfl ?_
      refine g_zld C dX12_count_152 (fun v3 ev3 => ?_)
      refine g_if_eq C (tgt := 160) dX12_count_153 (by decide) (fun h4 => ?_) (fun h4 => ?_)
      · refine g_iconst C (v := (0 : Int32)) dX12_count_160 (by decide) ?_
        exact g_sub (lv2 := [(0, va_rf a0), (3, .int x3)]) [0, 2] rfl (t_X12_count_161 C (b_X12_count_141 n) ih a0 x3 x2 (0 : Int32) S)
      · refine g_iconst C (v := (1 : Int32)) dX12_count_156 (by decide) ?_
        refine g_goto C (tgt := 161) dX12_count_157 (by decide) ?_
        exact g_sub (lv2 := [(0, va_rf a0), (3, .int x3)]) [0, 2] rfl (t_X12_count_161 C (b_X12_count_141 n) ih a0 x3 x2 (1 : Int32) S)
set_option maxHeartbeats 4000000 in
set_option maxRecDepth 100000 in
theorem m_X12_count (a0 : Option Nat) (x1 : Int32) (S : St) : ∀ l D cy H0 o, f_X12_count a0 x1 S = some o → Met l yX12_count wsX12_count rmX12_count (Pq D cy H0 [va_rf a0, .int x1] S) (Qx D cy H0 (cvI o)) 0 0 (fun q => H0.size ≤ q) := by
  refine met_of (cc := cX12_count) (maxL := 4) (ret := (some .int)) [va_rf a0, .int x1] [(0, va_rf a0), (1, .int x1)] (by decide) rfl rfl (by simp [lg_sl, va_rf_cat, vi_cat, vl_cat]) (by simp [lv_args, va_rf_cat, vi_cat, vl_cat]) (fun Γ C => ?_)
  unfold f_X12_count
  refine g_aload_n C dX12_count_0 rfl 0 rfl ?_
  refine g_iconst C (v := (0 : Int32)) dX12_count_1 (by decide) ?_
  refine g_putI C (ci := 11) (k := 0) (ty0 := tyX12) dX12_count_2 rfl (by decide) (by decide) (by decide) tyX12_ok nmX12 ulX12_count_X12 flX12_count_1 rfl rfl ⟨rfl, rfl⟩ (fun S1 eS1 => ?_)
  refine g_iconst C (v := (0 : Int32)) dX12_count_5 (by decide) ?_
  refine g_istore_n C (lv2 := [(2, .int (0 : Int32)), (0, va_rf a0), (1, .int x1)]) dX12_count_6 rfl (by decide) (by first | rfl | simp [va_rf_cat, vi_cat, vl_cat]) ?_
  refine g_iload_n C dX12_count_7 rfl 2 rfl ?_
  refine g_ite (fun h2 => ?_) (fun h2 => ?_)
  · refine g_tableIn C (v := 0) (off := 44) (tgt := 52) dX12_count_8 h2 (by decide) (by decide) (by decide) (by decide) ?_
    refine g_iconst C (v := (0 : Int32)) dX12_count_52 (by decide) ?_
    refine g_istore_n C (lv2 := [(3, .int (0 : Int32)), (2, .int (0 : Int32)), (0, va_rf a0), (1, .int x1)]) dX12_count_53 rfl (by decide) (by first | rfl | simp [va_rf_cat, vi_cat, vl_cat]) ?_
    exact g_sub (lv2 := [(0, va_rf a0), (2, .int (0 : Int32)), (3, .int (0 : Int32))]) [2, 1, 0] rfl (t_X12_count_54 C FU a0 (0 : Int32) (0 : Int32) S1)
  refine g_ite (fun h3 => ?_) (fun h3 => ?_)
  · refine g_tableIn C (v := 1) (off := 77) (tgt := 85) dX12_count_8 h3 (by decide) (by decide) (by decide) (by decide) ?_
    refine g_aload_n C dX12_count_85 rfl 1 rfl ?_
    refine g_getI C (ci := 11) (k := 5) dX12_count_86 rfl (by decide) (by decide) (by decide) ulX12_count_X12 flX12_count_105 rfl (fun v4 ev4 => ?_)
    exact g_iret C dX12_count_89 ⟨by decide, by decide⟩
  refine g_ite (fun h5 => ?_) (fun h5 => ?_)
  · refine g_tableIn C (v := 2) (off := 82) (tgt := 90) dX12_count_8 h5 (by decide) (by decide) (by decide) (by decide) ?_
    exact g_sub (lv2 := [(0, va_rf a0), (1, .int x1), (2, .int (0 : Int32))]) [1, 2, 0] rfl (t_X12_count_90 C a0 x1 (0 : Int32) S1)
  refine g_ite (fun h6 => ?_) (fun h6 => ?_)
  · refine g_tableIn C (v := 3) (off := 82) (tgt := 90) dX12_count_8 h6 (by decide) (by decide) (by decide) (by decide) ?_
    exact g_sub (lv2 := [(0, va_rf a0), (1, .int x1), (2, .int (0 : Int32))]) [1, 2, 0] rfl (t_X12_count_90 C a0 x1 (0 : Int32) S1)
  refine g_ite (fun h7 => ?_) (fun h7 => ?_)
  · refine g_tableIn C (v := 4) (off := 131) (tgt := 139) dX12_count_8 h7 (by decide) (by decide) (by decide) (by decide) ?_
    refine g_iconst C (v := (0 : Int32)) dX12_count_139 (by decide) ?_
    refine g_istore_n C (lv2 := [(3, .int (0 : Int32)), (2, .int (0 : Int32)), (0, va_rf a0), (1, .int x1)]) dX12_count_140 rfl (by decide) (by first | rfl | simp [va_rf_cat, vi_cat, vl_cat]) ?_
    exact g_sub (lv2 := [(0, va_rf a0), (2, .int (0 : Int32)), (3, .int (0 : Int32))]) [2, 1, 0] rfl (t_X12_count_141 C FU a0 (0 : Int32) (0 : Int32) S1)
  refine g_ite (fun h8 => ?_) (fun h8 => ?_)
  · refine g_tableIn C (v := 5) (off := 163) (tgt := 171) dX12_count_8 h8 (by decide) (by decide) (by decide) (by decide) ?_
    refine g_aload_n C dX12_count_171 rfl 1 rfl ?_
    refine g_getI C (ci := 11) (k := 36) dX12_count_172 rfl (by decide) (by decide) (by decide) ulX12_count_X12 flX12_count_261 rfl (fun v9 ev9 => ?_)
    exact g_iret C dX12_count_175 ⟨by decide, by decide⟩
  refine g_ite (fun h10 => ?_) (fun h10 => ?_)
  · refine g_tableIn C (v := 6) (off := 168) (tgt := 176) dX12_count_8 h10 (by decide) (by decide) (by decide) (by decide) ?_
    refine g_aload_n C dX12_count_176 rfl 1 rfl ?_
    refine g_getI C (ci := 11) (k := 27) dX12_count_177 rfl (by decide) (by decide) (by decide) ulX12_count_X12 flX12_count_190 rfl (fun v11 ev11 => ?_)
    exact g_iret C dX12_count_180 ⟨by decide, by decide⟩
  refine g_tableOut C (tgt := 181) dX12_count_8 (by have n0 := sw_n (k := 0) (by decide) h2; have n1 := sw_n (k := 1) (by decide) h3; have n2 := sw_n (k := 2) (by decide) h5; have n3 := sw_n (k := 3) (by decide) h6; have n4 := sw_n (k := 4) (by decide) h7; have n5 := sw_n (k := 5) (by decide) h8; have n6 := sw_n (k := 6) (by decide) h10; omega) (by decide) ?_
  refine g_ldc C (v := (-1000001 : Int32)) dX12_count_181 (by decide +kernel) ?_
  exact g_iret C dX12_count_183 ⟨by decide, by decide⟩
abbrev rmX12_status : Room := { frames := 0, cells := 0, slots := 0, locals := 0 }
theorem flX12_status_1 : Cond.fieldLink RX12 1 "LightLinesModel" "thrown" "I" ∈ wsX12_status := by decide +kernel
theorem flX12_status_7 : Cond.fieldLink RX12 7 "LightLinesModel" "status" "I" ∈ wsX12_status := by decide +kernel
set_option maxRecDepth 100000 in
theorem ulX12_status_X12 : ∀ w ∈ u_ws RX12 TX12 42, w ∈ wsX12_status := by decide +kernel
set_option maxHeartbeats 4000000 in
set_option maxRecDepth 100000 in
theorem m_X12_status (a0 : Option Nat) (S : St) : ∀ l D cy H0 o, f_X12_status a0 S = some o → Met l yX12_status wsX12_status rmX12_status (Pq D cy H0 [va_rf a0] S) (Qx D cy H0 (cvI o)) 0 0 (fun q => H0.size ≤ q) := by
  refine met_of (cc := cX12_status) (maxL := 1) (ret := (some .int)) [va_rf a0] [(0, va_rf a0)] (by decide) rfl rfl (by simp [lg_sl, va_rf_cat, vi_cat, vl_cat]) (by simp [lv_args, va_rf_cat, vi_cat, vl_cat]) (fun Γ C => ?_)
  unfold f_X12_status
  refine g_aload_n C dX12_status_0 rfl 0 rfl ?_
  refine g_iconst C (v := (0 : Int32)) dX12_status_1 (by decide) ?_
  refine g_putI C (ci := 11) (k := 0) (ty0 := tyX12) dX12_status_2 rfl (by decide) (by decide) (by decide) tyX12_ok nmX12 ulX12_status_X12 flX12_status_1 rfl rfl ⟨rfl, rfl⟩ (fun S1 eS1 => ?_)
  refine g_aload_n C dX12_status_5 rfl 0 rfl ?_
  refine g_getI C (ci := 11) (k := 1) dX12_status_6 rfl (by decide) (by decide) (by decide) ulX12_status_X12 flX12_status_7 rfl (fun v2 ev2 => ?_)
  exact g_iret C dX12_status_9 ⟨by decide, by decide⟩
