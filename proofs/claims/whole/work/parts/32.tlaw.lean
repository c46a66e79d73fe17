def XS (Γ : Cx) (b L : Nat) (xs : Nat → Int32) : Prop := match Γ with
  | (_, _, _, _, s, _, _, _, _, _, _, _, H0, _, _) => va_X b L xs s H0 ∧ b < H0.size
section LR
variable {α : Type} {Γ : Cx} {cv : α → Option Value × St} {nL cells slots pc : Nat} {lv : List (Nat × Value)} {stk : List Value} {S : St} {cc : ByteArray} {ret1 : Option FieldType} {Ts : List Cond} {own : String} {rm : Room} {mc ms : Nat} {b L : Nat} {xs : Nat → Int32}
theorem g_sld (C : CF Γ cc nL ret1 Ts own rm mc ms) (hX : XS Γ b L xs) {i : Int32} {kk : Int32 → Option α} (hd : decode cc pc = .ok (.iaload, 1)) (h : ∀ v, scr L xs i = some v → G Γ cv nL cells slots (pc + 1) lv (.int v :: stk) S (kk v)) : G Γ cv nL cells slots pc lv (.int i :: va_rf (some b) :: stk) S ((scr L xs i).bind kk) := by
  obtain ⟨p, l, e, R, s, m, args, below, meth, c, D, cy, H0, mc, ms⟩ := Γ
  intro ls H locs o hl hw hc hf
  obtain ⟨⟨cell, h1, h2, h3, h4, h5⟩, hb⟩ := hX
  by_cases hi : ¬ (i < 0 ∨ L ≤ i.toNatClampNeg)
  · have e1 : scr L xs i = some (xs i.toNatClampNeg) := if_pos hi
    rw [e1] at hf
    have hlt : i.toNatClampNeg < L := Nat.not_le.mp fun q => hi (Or.inr q)
    exact W.iald (v := .int (xs i.toNatClampNeg)) C.1.1 C.1.2.1 (by rw [hw.2.2.1 b hb]; exact h1) h2 h3 (by rw [h4]; exact hi) (h5 _ hlt) rfl rfl hd (h _ e1 ls H locs o hl hw hc hf)
  · have e1 : scr L xs i = none := if_neg hi
    rw [e1] at hf; cases hf
theorem g_slen (C : CF Γ cc nL ret1 Ts own rm mc ms) (hX : XS Γ b L xs) {f : Option α} (hd : decode cc pc = .ok (.arraylength, 1)) (h : G Γ cv nL cells slots (pc + 1) lv (.int (Int32.ofNat L) :: stk) S f) : G Γ cv nL cells slots pc lv (va_rf (some b) :: stk) S f := by
  obtain ⟨p, l, e, R, s, m, args, below, meth, c, D, cy, H0, mc, ms⟩ := Γ
  intro ls H locs o hl hw hc hf
  obtain ⟨⟨cell, h1, h2, h3, h4, h5⟩, hb⟩ := hX
  exact W.alen (n := Int32.ofNat L) C.1.1 C.1.2.1 (by rw [hw.2.2.1 b hb]; exact h1) h2 (by rw [h4] <;> rfl) rfl rfl hd (h ls H locs o hl hw hc hf)
end LR
set_option maxRecDepth 100000 in
theorem ulL_law_X11 : ∀ w ∈ u_ws RX11 TX11 7, w ∈ wsL_law := inlX11
set_option maxRecDepth 100000 in
theorem ulL_law_X12 : ∀ w ∈ u_ws RX12 TX12 42, w ∈ wsL_law := inlX12
set_option maxHeartbeats 16000000 in
set_option maxRecDepth 100000 in
theorem t_L_law_18 {Γ : Cx} {b L : Nat} {xs : Nat → Int32} (C : CF Γ cL_law 4 (some .boolean) wsL_law RL room_1 600000 7302250) (hX : XS Γ b L xs) : ∀ (n : Nat) (a1 a2 : Option Nat) (x3 : Int32) (S : St) (cl sl : Nat), cl + 3 * n ≤ 590000 → sl + 18 * n ≤ 7290000 → G Γ cvI 4 cl sl 18 [(0, va_rf (some b)), (1, va_rf a1), (2, va_rf a2), (3, .int x3)] [] S (b_L_law_18 b L xs n a1 a2 x3 S) := by
  intro n
  induction n with
  | zero => intro a1 a2 x3 S cl sl _ _; exact g_none
  | succ n ih =>
    intro a1 a2 x3 S cl sl hcl hsl
    rw [b_L_law_18]
    refine g_iload_n C dL_law_18 rfl 3 rfl ?_
    refine g_aload_n C dL_law_19 rfl 0 rfl ?_
    refine g_slen C hX dL_law_20 ?_
    refine g_bipush C (v := (6 : Int32)) dL_law_21 (by decide) ?_
    refine g_isub C dL_law_23 ?_
    refine g_icmp_gt C (tgt := 986) dL_law_24 (by decide) (fun h1 => ?_) (fun h1 => ?_)
    · refine g_iconst C (v := (1 : Int32)) dL_law_986 (by decide) ?_
      exact g_zret C dL_law_987 ⟨show _ ≤ 600000 by omega, show _ ≤ 7302250 by omega⟩
    · refine g_aload_n C dL_law_27 rfl 0 rfl ?_
      refine g_iload_n C dL_law_28 rfl 3 rfl ?_
      refine g_sld C hX dL_law_29 (fun v2 ev2 => ?_)
      refine g_bipush C (v := (31 : Int32)) dL_law_30 (by decide) ?_
      refine g_iand C dL_law_32 ?_
      refine g_ite (fun h3 => ?_) (fun h3 => ?_)
      · refine g_tableIn C (v := 0) (off := 119) (tgt := 152) dL_law_33 h3 (by decide) (by decide) (by decide) (by decide) ?_
        refine g_aload_n C dL_law_152 rfl 1 rfl ?_
        refine g_aload_n C dL_law_153 rfl 0 rfl ?_
        refine g_iload_n C dL_law_154 rfl 3 rfl ?_
        refine g_iconst C (v := (1 : Int32)) dL_law_155 (by decide) ?_
        refine g_iadd C dL_law_156 ?_
        refine g_sld C hX dL_law_157 (fun v4 ev4 => ?_)
        refine g_aload_n C dL_law_158 rfl 0 rfl ?_
        refine g_iload_n C dL_law_159 rfl 3 rfl ?_
        refine g_iconst C (v := (2 : Int32)) dL_law_160 (by decide) ?_
        refine g_iadd C dL_law_161 ?_
        refine g_sld C hX dL_law_162 (fun v5 ev5 => ?_)
        refine g_aload_n C dL_law_163 rfl 0 rfl ?_
        refine g_iload_n C dL_law_164 rfl 3 rfl ?_
        refine g_iconst C (v := (3 : Int32)) dL_law_165 (by decide) ?_
        refine g_iadd C dL_law_166 ?_
        refine g_sld C hX dL_law_167 (fun v6 ev6 => ?_)
        refine g_callV C (n := 3) (ci := 10) [.int v4, .int v5, .int v6] [] (m_X11_sheet a1 v4 v5 v6 S) dL_law_168 gL_law_X11_sheet rfl ⟨rfl, rfl⟩ (by decide +kernel) ⟨by decide, by decide⟩ ⟨show _ ≤ 600000 by omega, show _ ≤ 7302250 by omega⟩ rfl (by decide) rfl rfl (by first | exact Nat.le_of_ble_eq_true rfl | simp [va_rf_cat, vi_cat, vl_cat]) (fun o7 eo7 => ?_)
        show G Γ cvI 4 cl sl 171 [(0, va_rf (some b)), (1, va_rf a1), (2, va_rf a2), (3, .int x3)] [.int o7.1] o7.2 _
        refine g_aload_n C dL_law_171 rfl 2 rfl ?_
        refine g_aload_n C dL_law_172 rfl 0 rfl ?_
        refine g_iload_n C dL_law_173 rfl 3 rfl ?_
        refine g_iconst C (v := (1 : Int32)) dL_law_174 (by decide) ?_
        refine g_iadd C dL_law_175 ?_
        refine g_sld C hX dL_law_176 (fun v8 ev8 => ?_)
        refine g_aload_n C dL_law_177 rfl 0 rfl ?_
        refine g_iload_n C dL_law_178 rfl 3 rfl ?_
        refine g_iconst C (v := (2 : Int32)) dL_law_179 (by decide) ?_
        refine g_iadd C dL_law_180 ?_
        refine g_sld C hX dL_law_181 (fun v9 ev9 => ?_)
        refine g_aload_n C dL_law_182 rfl 0 rfl ?_
        refine g_iload_n C dL_law_183 rfl 3 rfl ?_
        refine g_iconst C (v := (3 : Int32)) dL_law_184 (by decide) ?_
        refine g_iadd C dL_law_185 ?_
        refine g_sld C hX dL_law_186 (fun v10 ev10 => ?_)
        refine g_callV C (n := 3) (ci := 11) [.int v8, .int v9, .int v10] [.int o7.1] (m_X12_sheet a2 v8 v9 v10 o7.2) dL_law_187 gL_law_X12_sheet rfl ⟨rfl, rfl⟩ (by decide +kernel) ⟨by decide, by decide⟩ ⟨show _ ≤ 600000 by omega, show _ ≤ 7302250 by omega⟩ rfl (by decide) rfl rfl (by first | exact Nat.le_of_ble_eq_true rfl | simp [va_rf_cat, vi_cat, vl_cat]) (fun o11 eo11 => ?_)
        show G Γ cvI 4 cl sl 190 [(0, va_rf (some b)), (1, va_rf a1), (2, va_rf a2), (3, .int x3)] [.int o11.1, .int o7.1] o11.2 _
        refine g_icmp_eq C (tgt := 980) dL_law_190 (by decide) (fun h12 => ?_) (fun h12 => ?_)
        · refine g_iinc1 C dL_law_980 3 rfl (by decide) (by decide) (fun y13 => ?_)
          refine g_lveq (lv2 := [(3, .int y13), (0, va_rf (some b)), (1, va_rf a1), (2, va_rf a2)]) (by first | rfl | simp [va_rf_cat, vi_cat, vl_cat]) ?_
          refine g_goto C (tgt := 18) dL_law_983 (by decide) ?_
          exact g_sub (lv2 := [(0, va_rf (some b)), (1, va_rf a1), (2, va_rf a2), (3, .int y13)]) [1, 2, 3, 0] rfl (ih a1 a2 y13 o11.2 cl sl (by omega) (by omega))
        · refine g_iconst C (v := (0 : Int32)) dL_law_193 (by decide) ?_
          exact g_zret C dL_law_194 ⟨show _ ≤ 600000 by omega, show _ ≤ 7302250 by omega⟩
      refine g_ite (fun h14 => ?_) (fun h14 => ?_)
      · refine g_tableIn C (v := 1) (off := 162) (tgt := 195) dL_law_33 h14 (by decide) (by decide) (by decide) (by decide) ?_
        refine g_aload_n C dL_law_195 rfl 1 rfl ?_
        refine g_aload_n C dL_law_196 rfl 0 rfl ?_
        refine g_iload_n C dL_law_197 rfl 3 rfl ?_
        refine g_iconst C (v := (1 : Int32)) dL_law_198 (by decide) ?_
        refine g_iadd C dL_law_199 ?_
        refine g_sld C hX dL_law_200 (fun v15 ev15 => ?_)
        refine g_aload_n C dL_law_201 rfl 0 rfl ?_
        refine g_iload_n C dL_law_202 rfl 3 rfl ?_
        refine g_iconst C (v := (2 : Int32)) dL_law_203 (by decide) ?_
        refine g_iadd C dL_law_204 ?_
        refine g_sld C hX dL_law_205 (fun v16 ev16 => ?_)
        refine g_aload_n C dL_law_206 rfl 0 rfl ?_
        refine g_iload_n C dL_law_207 rfl 3 rfl ?_
        refine g_iconst C (v := (3 : Int32)) dL_law_208 (by decide) ?_
        refine g_iadd C dL_law_209 ?_
        refine g_sld C hX dL_law_210 (fun v17 ev17 => ?_)
        refine g_callV C (n := 3) (ci := 10) [.int v15, .int v16, .int v17] [] (m_X11_set a1 v15 v16 v17 S) dL_law_211 gL_law_X11_set rfl ⟨rfl, rfl⟩ (by decide +kernel) ⟨by decide, by decide⟩ ⟨show _ ≤ 600000 by omega, show _ ≤ 7302250 by omega⟩ rfl (by decide) rfl rfl (by first | exact Nat.le_of_ble_eq_true rfl | simp [va_rf_cat, vi_cat, vl_cat]) (fun o18 eo18 => ?_)
        show G Γ cvI 4 cl sl 214 [(0, va_rf (some b)), (1, va_rf a1), (2, va_rf a2), (3, .int x3)] [.int o18.1] o18.2 _
        refine g_aload_n C dL_law_214 rfl 2 rfl ?_
        refine g_aload_n C dL_law_215 rfl 0 rfl ?_
        refine g_iload_n C dL_law_216 rfl 3 rfl ?_
        refine g_iconst C (v := (1 : Int32)) dL_law_217 (by decide) ?_
        refine g_iadd C dL_law_218 ?_
        refine g_sld C hX dL_law_219 (fun v19 ev19 => ?_)
        refine g_aload_n C dL_law_220 rfl 0 rfl ?_
        refine g_iload_n C dL_law_221 rfl 3 rfl ?_
        refine g_iconst C (v := (2 : Int32)) dL_law_222 (by decide) ?_
        refine g_iadd C dL_law_223 ?_
        refine g_sld C hX dL_law_224 (fun v20 ev20 => ?_)
        refine g_aload_n C dL_law_225 rfl 0 rfl ?_
        refine g_iload_n C dL_law_226 rfl 3 rfl ?_
        refine g_iconst C (v := (3 : Int32)) dL_law_227 (by decide) ?_
        refine g_iadd C dL_law_228 ?_
        refine g_sld C hX dL_law_229 (fun v21 ev21 => ?_)
        refine g_callV C (n := 3) (ci := 11) [.int v19, .int v20, .int v21] [.int o18.1] (m_X12_set a2 v19 v20 v21 o18.2) dL_law_230 gL_law_X12_set rfl ⟨rfl, rfl⟩ (by decide +kernel) ⟨by decide, by decide⟩ ⟨show _ ≤ 600000 by omega, show _ ≤ 7302250 by omega⟩ rfl (by decide) rfl rfl (by first | exact Nat.le_of_ble_eq_true rfl | simp [va_rf_cat, vi_cat, vl_cat]) (fun o22 eo22 => ?_)
        show G Γ cvI 4 cl sl 233 [(0, va_rf (some b)), (1, va_rf a1), (2, va_rf a2), (3, .int x3)] [.int o22.1, .int o18.1] o22.2 _
        refine g_icmp_eq C (tgt := 980) dL_law_233 (by decide) (fun h23 => ?_) (fun h23 => ?_)
        · refine g_iinc1 C dL_law_980 3 rfl (by decide) (by decide) (fun y24 => ?_)
          refine g_lveq (lv2 := [(3, .int y24), (0, va_rf (some b)), (1, va_rf a1), (2, va_rf a2)]) (by first | rfl | simp [va_rf_cat, vi_cat, vl_cat]) ?_
          refine g_goto C (tgt := 18) dL_law_983 (by decide) ?_
          exact g_sub (lv2 := [(0, va_rf (some b)), (1, va_rf a1), (2, va_rf a2), (3, .int y24)]) [1, 2, 3, 0] rfl (ih a1 a2 y24 o22.2 cl sl (by omega) (by omega))
        · refine g_iconst C (v := (0 : Int32)) dL_law_236 (by decide) ?_
          exact g_zret C dL_law_237 ⟨show _ ≤ 600000 by omega, show _ ≤ 7302250 by omega⟩
      refine g_ite (fun h25 => ?_) (fun h25 => ?_)
      · refine g_tableIn C (v := 2) (off := 205) (tgt := 238) dL_law_33 h25 (by decide) (by decide) (by decide) (by decide) ?_
        refine g_aload_n C dL_law_238 rfl 1 rfl ?_
        refine g_aload_n C dL_law_239 rfl 0 rfl ?_
        refine g_iload_n C dL_law_240 rfl 3 rfl ?_
        refine g_iconst C (v := (1 : Int32)) dL_law_241 (by decide) ?_
        refine g_iadd C dL_law_242 ?_
        refine g_sld C hX dL_law_243 (fun v26 ev26 => ?_)
        refine g_aload_n C dL_law_244 rfl 0 rfl ?_
        refine g_iload_n C dL_law_245 rfl 3 rfl ?_
        refine g_iconst C (v := (2 : Int32)) dL_law_246 (by decide) ?_
        refine g_iadd C dL_law_247 ?_
        refine g_sld C hX dL_law_248 (fun v27 ev27 => ?_)
        refine g_aload_n C dL_law_249 rfl 0 rfl ?_
        refine g_iload_n C dL_law_250 rfl 3 rfl ?_
        refine g_iconst C (v := (3 : Int32)) dL_law_251 (by decide) ?_
        refine g_iadd C dL_law_252 ?_
        refine g_sld C hX dL_law_253 (fun v28 ev28 => ?_)
        refine g_aload_n C dL_law_254 rfl 0 rfl ?_
        refine g_iload_n C dL_law_255 rfl 3 rfl ?_
        refine g_iconst C (v := (4 : Int32)) dL_law_256 (by decide) ?_
        refine g_iadd C dL_law_257 ?_
        refine g_sld C hX dL_law_258 (fun v29 ev29 => ?_)
        refine g_aload_n C dL_law_259 rfl 0 rfl ?_
        refine g_iload_n C dL_law_260 rfl 3 rfl ?_
        refine g_iconst C (v := (5 : Int32)) dL_law_261 (by decide) ?_
        refine g_iadd C dL_law_262 ?_
        refine g_sld C hX dL_law_263 (fun v30 ev30 => ?_)
        refine g_callV C (n := 5) (ci := 10) [.int v26, .int v27, .int v28, .int v29, .int v30] [] (m_X11_copy a1 v26 v27 v28 v29 v30 S) dL_law_264 gL_law_X11_copy rfl ⟨rfl, rfl⟩ (by decide +kernel) ⟨by decide, by decide⟩ ⟨show _ ≤ 600000 by omega, show _ ≤ 7302250 by omega⟩ rfl (by decide) rfl rfl (by first | exact Nat.le_of_ble_eq_true rfl | simp [va_rf_cat, vi_cat, vl_cat]) (fun o31 eo31 => ?_)
        show G Γ cvI 4 cl sl 267 [(0, va_rf (some b)), (1, va_rf a1), (2, va_rf a2), (3, .int x3)] [.int o31.1] o31.2 _
        refine g_aload_n C dL_law_267 rfl 2 rfl ?_
        refine g_aload_n C dL_law_268 rfl 0 rfl ?_
        refine g_iload_n C dL_law_269 rfl 3 rfl ?_
        refine g_iconst C (v := (1 : Int32)) dL_law_270 (by decide) ?_
        refine g_iadd C dL_law_271 ?_
        refine g_sld C hX dL_law_272 (fun v32 ev32 => ?_)
        refine g_aload_n C dL_law_273 rfl 0 rfl ?_
        refine g_iload_n C dL_law_274 rfl 3 rfl ?_
        refine g_iconst C (v := (2 : Int32)) dL_law_275 (by decide) ?_
        refine g_iadd C dL_law_276 ?_
        refine g_sld C hX dL_law_277 (fun v33 ev33 => ?_)
        refine g_aload_n C dL_law_278 rfl 0 rfl ?_
        refine g_iload_n C dL_law_279 rfl 3 rfl ?_
        refine g_iconst C (v := (3 : Int32)) dL_law_280 (by decide) ?_
        refine g_iadd C dL_law_281 ?_
        refine g_sld C hX dL_law_282 (fun v34 ev34 => ?_)
        refine g_aload_n C dL_law_283 rfl 0 rfl ?_
        refine g_iload_n C dL_law_284 rfl 3 rfl ?_
        refine g_iconst C (v := (4 : Int32)) dL_law_285 (by decide) ?_
        refine g_iadd C dL_law_286 ?_
        refine g_sld C hX dL_law_287 (fun v35 ev35 => ?_)
        refine g_aload_n C dL_law_288 rfl 0 rfl ?_
        refine g_iload_n C dL_law_289 rfl 3 rfl ?_
        refine g_iconst C (v := (5 : Int32)) dL_law_290 (by decide) ?_
        refine g_iadd C dL_law_291 ?_
        refine g_sld C hX dL_law_292 (fun v36 ev36 => ?_)
        refine g_callV C (n := 5) (ci := 11) [.int v32, .int v33, .int v34, .int v35, .int v36] [.int o31.1] (m_X12_copy a2 v32 v33 v34 v35 v36 o31.2) dL_law_293 gL_law_X12_copy rfl ⟨rfl, rfl⟩ (by decide +kernel) ⟨by decide, by decide⟩ ⟨show _ ≤ 600000 by omega, show _ ≤ 7302250 by omega⟩ rfl (by decide) rfl rfl (by first | exact Nat.le_of_ble_eq_true rfl | simp [va_rf_cat, vi_cat, vl_cat]) (fun o37 eo37 => ?_)
        show G Γ cvI 4 cl sl 296 [(0, va_rf (some b)), (1, va_rf a1), (2, va_rf a2), (3, .int x3)] [.int o37.1, .int o31.1] o37.2 _
        refine g_icmp_eq C (tgt := 980) dL_law_296 (by decide) (fun h38 => ?_) (fun h38 => ?_)
        · refine g_iinc1 C dL_law_980 3 rfl (by decide) (by decide) (fun y39 => ?_)
          refine g_lveq (lv2 := [(3, .int y39), (0, va_rf (some b)), (1, va_rf a1), (2, va_rf a2)]) (by first | rfl | simp [va_rf_cat, vi_cat, vl_cat]) ?_
          refine g_goto C (tgt := 18) dL_law_983 (by decide) ?_
          exact g_sub (lv2 := [(0, va_rf (some b)), (1, va_rf a1), (2, va_rf a2), (3, .int y39)]) [1, 2, 3, 0] rfl (ih a1 a2 y39 o37.2 cl sl (by omega) (by omega))
        · refine g_iconst C (v := (0 : Int32)) dL_law_299 (by decide) ?_
          exact g_zret C dL_law_300 ⟨show _ ≤ 600000 by omega, show _ ≤ 7302250 by omega⟩
      refine g_ite (fun h40 => ?_) (fun h40 => ?_)
      · refine g_tableIn C (v := 3) (off := 268) (tgt := 301) dL_law_33 h40 (by decide) (by decide) (by decide) (by decide) ?_
        refine g_aload_n C dL_law_301 rfl 1 rfl ?_
        refine g_aload_n C dL_law_302 rfl 0 rfl ?_
        refine g_iload_n C dL_law_303 rfl 3 rfl ?_
        refine g_iconst C (v := (1 : Int32)) dL_law_304 (by decide) ?_
        refine g_iadd C dL_law_305 ?_
        refine g_sld C hX dL_law_306 (fun v41 ev41 => ?_)
        refine g_callV C (n := 1) (ci := 10) [.int v41] [] (m_X11_drop a1 v41 S) dL_law_307 gL_law_X11_drop rfl ⟨rfl, rfl⟩ (by decide +kernel) ⟨by decide, by decide⟩ ⟨show _ ≤ 600000 by omega, show _ ≤ 7302250 by omega⟩ rfl (by decide) rfl rfl (by first | exact Nat.le_of_ble_eq_true rfl | simp [va_rf_cat, vi_cat, vl_cat]) (fun o42 eo42 => ?_)
        show G Γ cvI 4 cl sl 310 [(0, va_rf (some b)), (1, va_rf a1), (2, va_rf a2), (3, .int x3)] [.int o42.1] o42.2 _
        refine g_aload_n C dL_law_310 rfl 2 rfl ?_
        refine g_aload_n C dL_law_311 rfl 0 rfl ?_
        refine g_iload_n C dL_law_312 rfl 3 rfl ?_
        refine g_iconst C (v := (1 : Int32)) dL_law_313 (by decide) ?_
        refine g_iadd C dL_law_314 ?_
        refine g_sld C hX dL_law_315 (fun v43 ev43 => ?_)
        refine g_callV C (n := 1) (ci := 11) [.int v43] [.int o42.1] (m_X12_drop a2 v43 o42.2) dL_law_316 gL_law_X12_drop rfl ⟨rfl, rfl⟩ (by decide +kernel) ⟨by decide, by decide⟩ ⟨show _ ≤ 600000 by omega, show _ ≤ 7302250 by omega⟩ rfl (by decide) rfl rfl (by first | exact Nat.le_of_ble_eq_true rfl | simp [va_rf_cat, vi_cat, vl_cat]) (fun o44 eo44 => ?_)
        show G Γ cvI 4 cl sl 319 [(0, va_rf (some b)), (1, va_rf a1), (2, va_rf a2), (3, .int x3)] [.int o44.1, .int o42.1] o44.2 _
        refine g_icmp_eq C (tgt := 980) dL_law_319 (by decide) (fun h45 => ?_) (fun h45 => ?_)
        · refine g_iinc1 C dL_law_980 3 rfl (by decide) (by decide) (fun y46 => ?_)
          refine g_lveq (lv2 := [(3, .int y46), (0, va_rf (some b)), (1, va_rf a1), (2, va_rf a2)]) (by first | rfl | simp [va_rf_cat, vi_cat, vl_cat]) ?_
          refine g_goto C (tgt := 18) dL_law_983 (by decide) ?_
          exact g_sub (lv2 := [(0, va_rf (some b)), (1, va_rf a1), (2, va_rf a2), (3, .int y46)]) [1, 2, 3, 0] rfl (ih a1 a2 y46 o44.2 cl sl (by omega) (by omega))
        · refine g_iconst C (v := (0 : Int32)) dL_law_322 (by decide) ?_
          exact g_zret C dL_law_323 ⟨show _ ≤ 600000 by omega, show _ ≤ 7302250 by omega⟩
      refine g_ite (fun h47 => ?_) (fun h47 => ?_)
      · refine g_tableIn C (v := 4) (off := 291) (tgt := 324) dL_law_33 h47 (by decide) (by decide) (by decide) (by decide) ?_
        refine g_aload_n C dL_law_324 rfl 1 rfl ?_
        refine g_aload_n C dL_law_325 rfl 0 rfl ?_
        refine g_iload_n C dL_law_326 rfl 3 rfl ?_
        refine g_iconst C (v := (1 : Int32)) dL_law_327 (by decide) ?_
        refine g_iadd C dL_law_328 ?_
        refine g_sld C hX dL_law_329 (fun v48 ev48 => ?_)
        refine g_aload_n C dL_law_330 rfl 0 rfl ?_
        refine g_iload_n C dL_law_331 rfl 3 rfl ?_
        refine g_iconst C (v := (2 : Int32)) dL_law_332 (by decide) ?_
        refine g_iadd C dL_law_333 ?_
        refine g_sld C hX dL_law_334 (fun v49 ev49 => ?_)
        refine g_aload_n C dL_law_335 rfl 0 rfl ?_
        refine g_iload_n C dL_law_336 rfl 3 rfl ?_
        refine g_iconst C (v := (3 : Int32)) dL_law_337 (by decide) ?_
        refine g_iadd C dL_law_338 ?_
        refine g_sld C hX dL_law_339 (fun v50 ev50 => ?_)
        refine g_callV C (n := 3) (ci := 10) [.int v48, .int v49, .int v50] [] (m_X11_stroke a1 v48 v49 v50 S) dL_law_340 gL_law_X11_stroke rfl ⟨rfl, rfl⟩ (by decide +kernel) ⟨by decide, by decide⟩ ⟨show _ ≤ 600000 by omega, show _ ≤ 7302250 by omega⟩ rfl (by decide) rfl rfl (by first | exact Nat.le_of_ble_eq_true rfl | simp [va_rf_cat, vi_cat, vl_cat]) (fun o51 eo51 => ?_)
        show G Γ cvI 4 (cl + 3) (sl + 18) 343 [(0, va_rf (some b)), (1, va_rf a1), (2, va_rf a2), (3, .int x3)] [.int o51.1] o51.2 _
        refine g_aload_n C dL_law_343 rfl 2 rfl ?_
        refine g_aload_n C dL_law_344 rfl 0 rfl ?_
        refine g_iload_n C dL_law_345 rfl 3 rfl ?_
        refine g_iconst C (v := (1 : Int32)) dL_law_346 (by decide) ?_
        refine g_iadd C dL_law_347 ?_
        refine g_sld C hX dL_law_348 (fun v52 ev52 => ?_)
        refine g_aload_n C dL_law_349 rfl 0 rfl ?_
        refine g_iload_n C dL_law_350 rfl 3 rfl ?_
        refine g_iconst C (v := (2 : Int32)) dL_law_351 (by decide) ?_
        refine g_iadd C dL_law_352 ?_
        refine g_sld C hX dL_law_353 (fun v53 ev53 => ?_)
        refine g_aload_n C dL_law_354 rfl 0 rfl ?_
        refine g_iload_n C dL_law_355 rfl 3 rfl ?_
        refine g_iconst C (v := (3 : Int32)) dL_law_356 (by decide) ?_
        refine g_iadd C dL_law_357 ?_
        refine g_sld C hX dL_law_358 (fun v54 ev54 => ?_)
        refine g_callV C (n := 3) (ci := 11) [.int v52, .int v53, .int v54] [.int o51.1] (m_X12_stroke a2 v52 v53 v54 o51.2) dL_law_359 gL_law_X12_stroke rfl ⟨rfl, rfl⟩ (by decide +kernel) ⟨by decide, by decide⟩ ⟨show _ ≤ 600000 by omega, show _ ≤ 7302250 by omega⟩ rfl (by decide) rfl rfl (by first | exact Nat.le_of_ble_eq_true rfl | simp [va_rf_cat, vi_cat, vl_cat]) (fun o55 eo55 => ?_)
        show G Γ cvI 4 (cl + 3) (sl + 18) 362 [(0, va_rf (some b)), (1, va_rf a1), (2, va_rf a2), (3, .int x3)] [.int o55.1, .int o51.1] o55.2 _
        refine g_icmp_eq C (tgt := 980) dL_law_362 (by decide) (fun h56 => ?_) (fun h56 => ?_)
        · refine g_iinc1 C dL_law_980 3 rfl (by decide) (by decide) (fun y57 => ?_)
          refine g_lveq (lv2 := [(3, .int y57), (0, va_rf (some b)), (1, va_rf a1), (2, va_rf a2)]) (by first | rfl | simp [va_rf_cat, vi_cat, vl_cat]) ?_
          refine g_goto C (tgt := 18) dL_law_983 (by decide) ?_
          exact g_sub (lv2 := [(0, va_rf (some b)), (1, va_rf a1), (2, va_rf a2), (3, .int y57)]) [1, 2, 3, 0] rfl (ih a1 a2 y57 o55.2 (cl + 3) (sl + 18) (by omega) (by omega))
        · refine g_iconst C (v := (0 : Int32)) dL_law_365 (by decide) ?_
          exact g_zret C dL_law_366 ⟨show _ ≤ 600000 by omega, show _ ≤ 7302250 by omega⟩
      refine g_ite (fun h58 => ?_) (fun h58 => ?_)
      · refine g_tableIn C (v := 5) (off := 334) (tgt := 367) dL_law_33 h58 (by decide) (by decide) (by decide) (by decide) ?_
        refine g_aload_n C dL_law_367 rfl 1 rfl ?_
        refine g_aload_n C dL_law_368 rfl 0 rfl ?_
        refine g_iload_n C dL_law_369 rfl 3 rfl ?_
        refine g_iconst C (v := (1 : Int32)) dL_law_370 (by decide) ?_
        refine g_iadd C dL_law_371 ?_
        refine g_sld C hX dL_law_372 (fun v59 ev59 => ?_)
        refine g_aload_n C dL_law_373 rfl 0 rfl ?_
        refine g_iload_n C dL_law_374 rfl 3 rfl ?_
        refine g_iconst C (v := (2 : Int32)) dL_law_375 (by decide) ?_
        refine g_iadd C dL_law_376 ?_
        refine g_sld C hX dL_law_377 (fun v60 ev60 => ?_)
        refine g_aload_n C dL_law_378 rfl 0 rfl ?_
        refine g_iload_n C dL_law_379 rfl 3 rfl ?_
        refine g_iconst C (v := (3 : Int32)) dL_law_380 (by decide) ?_
        refine g_iadd C dL_law_381 ?_
        refine g_sld C hX dL_law_382 (fun v61 ev61 => ?_)
        refine g_callV C (n := 3) (ci := 10) [.int v59, .int v60, .int v61] [] (m_X11_point a1 v59 v60 v61 S) dL_law_383 gL_law_X11_point rfl ⟨rfl, rfl⟩ (by decide +kernel) ⟨by decide, by decide⟩ ⟨show _ ≤ 600000 by omega, show _ ≤ 7302250 by omega⟩ rfl (by decide) rfl rfl (by first | exact Nat.le_of_ble_eq_true rfl | simp [va_rf_cat, vi_cat, vl_cat]) (fun o62 eo62 => ?_)
        show G Γ cvI 4 cl sl 386 [(0, va_rf (some b)), (1, va_rf a1), (2, va_rf a2), (3, .int x3)] [.int o62.1] o62.2 _
        refine g_aload_n C dL_law_386 rfl 2 rfl ?_
        refine g_aload_n C dL_law_387 rfl 0 rfl ?_
        refine g_iload_n C dL_law_388 rfl 3 rfl ?_
        refine g_iconst C (v := (1 : Int32)) dL_law_389 (by decide) ?_
        refine g_iadd C dL_law_390 ?_
        refine g_sld C hX dL_law_391 (fun v63 ev63 => ?_)
        refine g_aload_n C dL_law_392 rfl 0 rfl ?_
        refine g_iload_n C dL_law_393 rfl 3 rfl ?_
        refine g_iconst C (v := (2 : Int32)) dL_law_394 (by decide) ?_
        refine g_iadd C dL_law_395 ?_
        refine g_sld C hX dL_law_396 (fun v64 ev64 => ?_)
        refine g_aload_n C dL_law_397 rfl 0 rfl ?_
        refine g_iload_n C dL_law_398 rfl 3 rfl ?_
        refine g_iconst C (v := (3 : Int32)) dL_law_399 (by decide) ?_
        refine g_iadd C dL_law_400 ?_
        refine g_sld C hX dL_law_401 (fun v65 ev65 => ?_)
        refine g_callV C (n := 3) (ci := 11) [.int v63, .int v64, .int v65] [.int o62.1] (m_X12_point a2 v63 v64 v65 o62.2) dL_law_402 gL_law_X12_point rfl ⟨rfl, rfl⟩ (by decide +kernel) ⟨by decide, by decide⟩ ⟨show _ ≤ 600000 by omega, show _ ≤ 7302250 by omega⟩ rfl (by decide) rfl rfl (by first | exact Nat.le_of_ble_eq_true rfl | simp [va_rf_cat, vi_cat, vl_cat]) (fun o66 eo66 => ?_)
        show G Γ cvI 4 cl sl 405 [(0, va_rf (some b)), (1, va_rf a1), (2, va_rf a2), (3, .int x3)] [.int o66.1, .int o62.1] o66.2 _
        refine g_icmp_eq C (tgt := 980) dL_law_405 (by decide) (fun h67 => ?_) (fun h67 => ?_)
        · refine g_iinc1 C dL_law_980 3 rfl (by decide) (by decide) (fun y68 => ?_)
          refine g_lveq (lv2 := [(3, .int y68), (0, va_rf (some b)), (1, va_rf a1), (2, va_rf a2)]) (by first | rfl | simp [va_rf_cat, vi_cat, vl_cat]) ?_
          refine g_goto C (tgt := 18) dL_law_983 (by decide) ?_
          exact g_sub (lv2 := [(0, va_rf (some b)), (1, va_rf a1), (2, va_rf a2), (3, .int y68)]) [1, 2, 3, 0] rfl (ih a1 a2 y68 o66.2 cl sl (by omega) (by omega))
        · refine g_iconst C (v := (0 : Int32)) dL_law_408 (by decide) ?_
          exact g_zret C dL_law_409 ⟨show _ ≤ 600000 by omega, show _ ≤ 7302250 by omega⟩
      refine g_ite (fun h69 => ?_) (fun h69 => ?_)
      · refine g_tableIn C (v := 6) (off := 377) (tgt := 410) dL_law_33 h69 (by decide) (by decide) (by decide) (by decide) ?_
        refine g_aload_n C dL_law_410 rfl 1 rfl ?_
        refine g_aload_n C dL_law_411 rfl 0 rfl ?_
        refine g_iload_n C dL_law_412 rfl 3 rfl ?_
        refine g_iconst C (v := (1 : Int32)) dL_law_413 (by decide) ?_
        refine g_iadd C dL_law_414 ?_
        refine g_sld C hX dL_law_415 (fun v70 ev70 => ?_)
        refine g_aload_n C dL_law_416 rfl 0 rfl ?_
        refine g_iload_n C dL_law_417 rfl 3 rfl ?_
        refine g_iconst C (v := (2 : Int32)) dL_law_418 (by decide) ?_
        refine g_iadd C dL_law_419 ?_
        refine g_sld C hX dL_law_420 (fun v71 ev71 => ?_)
        refine g_callV C (n := 2) (ci := 10) [.int v70, .int v71] [] (m_X11_plan a1 v70 v71 S) dL_law_421 gL_law_X11_plan rfl ⟨rfl, rfl⟩ (by decide +kernel) ⟨by decide, by decide⟩ ⟨show _ ≤ 600000 by omega, show _ ≤ 7302250 by omega⟩ rfl (by decide) rfl rfl (by first | exact Nat.le_of_ble_eq_true rfl | simp [va_rf_cat, vi_cat, vl_cat]) (fun o72 eo72 => ?_)
        show G Γ cvI 4 cl sl 424 [(0, va_rf (some b)), (1, va_rf a1), (2, va_rf a2), (3, .int x3)] [.int o72.1] o72.2 _
        refine g_aload_n C dL_law_424 rfl 2 rfl ?_
        refine g_aload_n C dL_law_425 rfl 0 rfl ?_
        refine g_iload_n C dL_law_426 rfl 3 rfl ?_
        refine g_iconst C (v := (1 : Int32)) dL_law_427 (by decide) ?_
        refine g_iadd C dL_law_428 ?_
        refine g_sld C hX dL_law_429 (fun v73 ev73 => ?_)
        refine g_aload_n C dL_law_430 rfl 0 rfl ?_
        refine g_iload_n C dL_law_431 rfl 3 rfl ?_
        refine g_iconst C (v := (2 : Int32)) dL_law_432 (by decide) ?_
        refine g_iadd C dL_law_433 ?_
        refine g_sld C hX dL_law_434 (fun v74 ev74 => ?_)
        refine g_callV C (n := 2) (ci := 11) [.int v73, .int v74] [.int o72.1] (m_X12_plan a2 v73 v74 o72.2) dL_law_435 gL_law_X12_plan rfl ⟨rfl, rfl⟩ (by decide +kernel) ⟨by decide, by decide⟩ ⟨show _ ≤ 600000 by omega, show _ ≤ 7302250 by omega⟩ rfl (by decide) rfl rfl (by first | exact Nat.le_of_ble_eq_true rfl | simp [va_rf_cat, vi_cat, vl_cat]) (fun o75 eo75 => ?_)
        show G Γ cvI 4 cl sl 438 [(0, va_rf (some b)), (1, va_rf a1), (2, va_rf a2), (3, .int x3)] [.int o75.1, .int o72.1] o75.2 _
        refine g_icmp_eq C (tgt := 980) dL_law_438 (by decide) (fun h76 => ?_) (fun h76 => ?_)
        · refine g_iinc1 C dL_law_980 3 rfl (by decide) (by decide) (fun y77 => ?_)
          refine g_lveq (lv2 := [(3, .int y77), (0, va_rf (some b)), (1, va_rf a1), (2, va_rf a2)]) (by first | rfl | simp [va_rf_cat, vi_cat, vl_cat]) ?_
          refine g_goto C (tgt := 18) dL_law_983 (by decide) ?_
          exact g_sub (lv2 := [(0, va_rf (some b)), (1, va_rf a1), (2, va_rf a2), (3, .int y77)]) [1, 2, 3, 0] rfl (ih a1 a2 y77 o75.2 cl sl (by omega) (by omega))
        · refine g_iconst C (v := (0 : Int32)) dL_law_441 (by decide) ?_
          exact g_zret C dL_law_442 ⟨show _ ≤ 600000 by omega, show _ ≤ 7302250 by omega⟩
      refine g_ite (fun h78 => ?_) (fun h78 => ?_)
      · refine g_tableIn C (v := 7) (off := 410) (tgt := 443) dL_law_33 h78 (by decide) (by decide) (by decide) (by decide) ?_
        refine g_aload_n C dL_law_443 rfl 1 rfl ?_
        refine g_callV C (n := 0) (ci := 10) [] [] (m_X11_best a1 S) dL_law_444 gL_law_X11_best rfl ⟨rfl, rfl⟩ (by decide +kernel) ⟨by decide, by decide⟩ ⟨show _ ≤ 600000 by omega, show _ ≤ 7302250 by omega⟩ rfl (by decide) rfl rfl (by first | exact Nat.le_of_ble_eq_true rfl | simp [va_rf_cat, vi_cat, vl_cat]) (fun o79 eo79 => ?_)
        show G Γ cvI 4 cl sl 447 [(0, va_rf (some b)), (1, va_rf a1), (2, va_rf a2), (3, .int x3)] [.int o79.1] o79.2 _
        refine g_aload_n C dL_law_447 rfl 2 rfl ?_
        refine g_callV C (n := 0) (ci := 11) [] [.int o79.1] (m_X12_best a2 o79.2) dL_law_448 gL_law_X12_best rfl ⟨rfl, rfl⟩ (by decide +kernel) ⟨by decide, by decide⟩ ⟨show _ ≤ 600000 by omega, show _ ≤ 7302250 by omega⟩ rfl (by decide) rfl rfl (by first | exact Nat.le_of_ble_eq_true rfl | simp [va_rf_cat, vi_cat, vl_cat]) (fun o80 eo80 => ?_)
        show G Γ cvI 4 cl sl 451 [(0, va_rf (some b)), (1, va_rf a1), (2, va_rf a2), (3, .int x3)] [.int o80.1, .int o79.1] o80.2 _
        refine g_icmp_eq C (tgt := 980) dL_law_451 (by decide) (fun h81 => ?_) (fun h81 => ?_)
        · refine g_iinc1 C dL_law_980 3 rfl (by decide) (by decide) (fun y82 => ?_)
          refine g_lveq (lv2 := [(3, .int y82), (0, va_rf (some b)), (1, va_rf a1), (2, va_rf a2)]) (by first | rfl | simp [va_rf_cat, vi_cat, vl_cat]) ?_
          refine g_goto C (tgt := 18) dL_law_983 (by decide) ?_
          exact g_sub (lv2 := [(0, va_rf (some b)), (1, va_rf a1), (2, va_rf a2), (3, .int y82)]) [1, 2, 3, 0] rfl (ih a1 a2 y82 o80.2 cl sl (by omega) (by omega))
        · refine g_iconst C (v := (0 : Int32)) dL_law_454 (by decide) ?_
          exact g_zret C dL_law_455 ⟨show _ ≤ 600000 by omega, show _ ≤ 7302250 by omega⟩
      refine g_ite (fun h83 => ?_) (fun h83 => ?_)
      · refine g_tableIn C (v := 8) (off := 423) (tgt := 456) dL_law_33 h83 (by decide) (by decide) (by decide) (by decide) ?_
        refine g_aload_n C dL_law_456 rfl 1 rfl ?_
        refine g_aload_n C dL_law_457 rfl 0 rfl ?_
        refine g_iload_n C dL_law_458 rfl 3 rfl ?_
        refine g_iconst C (v := (1 : Int32)) dL_law_459 (by decide) ?_
        refine g_iadd C dL_law_460 ?_
        refine g_sld C hX dL_law_461 (fun v84 ev84 => ?_)
        refine g_aload_n C dL_law_462 rfl 0 rfl ?_
        refine g_iload_n C dL_law_463 rfl 3 rfl ?_
        refine g_iconst C (v := (2 : Int32)) dL_law_464 (by decide) ?_
        refine g_iadd C dL_law_465 ?_
        refine g_sld C hX dL_law_466 (fun v85 ev85 => ?_)
        refine g_callV C (n := 2) (ci := 10) [.int v84, .int v85] [] (m_X11_order a1 v84 v85 S) dL_law_467 gL_law_X11_order rfl ⟨rfl, rfl⟩ (by decide +kernel) ⟨by decide, by decide⟩ ⟨show _ ≤ 600000 by omega, show _ ≤ 7302250 by omega⟩ rfl (by decide) rfl rfl (by first | exact Nat.le_of_ble_eq_true rfl | simp [va_rf_cat, vi_cat, vl_cat]) (fun o86 eo86 => ?_)
        show G Γ cvI 4 cl sl 470 [(0, va_rf (some b)), (1, va_rf a1), (2, va_rf a2), (3, .int x3)] [.int o86.1] o86.2 _
        refine g_aload_n C dL_law_470 rfl 2 rfl ?_
        refine g_aload_n C dL_law_471 rfl 0 rfl ?_
        refine g_iload_n C dL_law_472 rfl 3 rfl ?_
        refine g_iconst C (v := (1 : Int32)) dL_law_473 (by decide) ?_
        refine g_iadd C dL_law_474 ?_
        refine g_sld C hX dL_law_475 (fun v87 ev87 => ?_)
        refine g_aload_n C dL_law_476 rfl 0 rfl ?_
        refine g_iload_n C dL_law_477 rfl 3 rfl ?_
        refine g_iconst C (v := (2 : Int32)) dL_law_478 (by decide) ?_
        refine g_iadd C dL_law_479 ?_
        refine g_sld C hX dL_law_480 (fun v88 ev88 => ?_)
        refine g_callV C (n := 2) (ci := 11) [.int v87, .int v88] [.int o86.1] (m_X12_order a2 v87 v88 o86.2) dL_law_481 gL_law_X12_order rfl ⟨rfl, rfl⟩ (by decide +kernel) ⟨by decide, by decide⟩ ⟨show _ ≤ 600000 by omega, show _ ≤ 7302250 by omega⟩ rfl (by decide) rfl rfl (by first | exact Nat.le_of_ble_eq_true rfl | simp [va_rf_cat, vi_cat, vl_cat]) (fun o89 eo89 => ?_)
        show G Γ cvI 4 cl sl 484 [(0, va_rf (some b)), (1, va_rf a1), (2, va_rf a2), (3, .int x3)] [.int o89.1, .int o86.1] o89.2 _
        refine g_icmp_eq C (tgt := 980) dL_law_484 (by decide) (fun h90 => ?_) (fun h90 => ?_)
        · refine g_iinc1 C dL_law_980 3 rfl (by decide) (by decide) (fun y91 => ?_)
          refine g_lveq (lv2 := [(3, .int y91), (0, va_rf (some b)), (1, va_rf a1), (2, va_rf a2)]) (by first | rfl | simp [va_rf_cat, vi_cat, vl_cat]) ?_
          refine g_goto C (tgt := 18) dL_law_983 (by decide) ?_
          exact g_sub (lv2 := [(0, va_rf (some b)), (1, va_rf a1), (2, va_rf a2), (3, .int y91)]) [1, 2, 3, 0] rfl (ih a1 a2 y91 o89.2 cl sl (by omega) (by omega))
        · refine g_iconst C (v := (0 : Int32)) dL_law_487 (by decide) ?_
          exact g_zret C dL_law_488 ⟨show _ ≤ 600000 by omega, show _ ≤ 7302250 by omega⟩
      refine g_ite (fun h92 => ?_) (fun h92 => ?_)
      · refine g_tableIn C (v := 9) (off := 456) (tgt := 489) dL_law_33 h92 (by decide) (by decide) (by decide) (by decide) ?_
        refine g_aload_n C dL_law_489 rfl 1 rfl ?_
        refine g_aload_n C dL_law_490 rfl 0 rfl ?_
        refine g_iload_n C dL_law_491 rfl 3 rfl ?_
        refine g_iconst C (v := (1 : Int32)) dL_law_492 (by decide) ?_
        refine g_iadd C dL_law_493 ?_
        refine g_sld C hX dL_law_494 (fun v93 ev93 => ?_)
        refine g_aload_n C dL_law_495 rfl 0 rfl ?_
        refine g_iload_n C dL_law_496 rfl 3 rfl ?_
        refine g_iconst C (v := (2 : Int32)) dL_law_497 (by decide) ?_
        refine g_iadd C dL_law_498 ?_
        refine g_sld C hX dL_law_499 (fun v94 ev94 => ?_)
        refine g_callV C (n := 2) (ci := 10) [.int v93, .int v94] [] (m_X11_rule a1 v93 v94 S) dL_law_500 gL_law_X11_rule rfl ⟨rfl, rfl⟩ (by decide +kernel) ⟨by decide, by decide⟩ ⟨show _ ≤ 600000 by omega, show _ ≤ 7302250 by omega⟩ rfl (by decide) rfl rfl (by first | exact Nat.le_of_ble_eq_true rfl | simp [va_rf_cat, vi_cat, vl_cat]) (fun o95 eo95 => ?_)
        show G Γ cvI 4 cl sl 503 [(0, va_rf (some b)), (1, va_rf a1), (2, va_rf a2), (3, .int x3)] [.int o95.1] o95.2 _
        refine g_aload_n C dL_law_503 rfl 2 rfl ?_
        refine g_aload_n C dL_law_504 rfl 0 rfl ?_
        refine g_iload_n C dL_law_505 rfl 3 rfl ?_
        refine g_iconst C (v := (1 : Int32)) dL_law_506 (by decide) ?_
        refine g_iadd C dL_law_507 ?_
        refine g_sld C hX dL_law_508 (fun v96 ev96 => ?_)
        refine g_aload_n C dL_law_509 rfl 0 rfl ?_
        refine g_iload_n C dL_law_510 rfl 3 rfl ?_
        refine g_iconst C (v := (2 : Int32)) dL_law_511 (by decide) ?_
        refine g_iadd C dL_law_512 ?_
        refine g_sld C hX dL_law_513 (fun v97 ev97 => ?_)
        refine g_callV C (n := 2) (ci := 11) [.int v96, .int v97] [.int o95.1] (m_X12_rule a2 v96 v97 o95.2) dL_law_514 gL_law_X12_rule rfl ⟨rfl, rfl⟩ (by decide +kernel) ⟨by decide, by decide⟩ ⟨show _ ≤ 600000 by omega, show _ ≤ 7302250 by omega⟩ rfl (by decide) rfl rfl (by first | exact Nat.le_of_ble_eq_true rfl | simp [va_rf_cat, vi_cat, vl_cat]) (fun o98 eo98 => ?_)
        show G Γ cvI 4 cl sl 517 [(0, va_rf (some b)), (1, va_rf a1), (2, va_rf a2), (3, .int x3)] [.int o98.1, .int o95.1] o98.2 _
        refine g_icmp_eq C (tgt := 980) dL_law_517 (by decide) (fun h99 => ?_) (fun h99 => ?_)
        · refine g_iinc1 C dL_law_980 3 rfl (by decide) (by decide) (fun y100 => ?_)
          refine g_lveq (lv2 := [(3, .int y100), (0, va_rf (some b)), (1, va_rf a1), (2, va_rf a2)]) (by first | rfl | simp [va_rf_cat, vi_cat, vl_cat]) ?_
          refine g_goto C (tgt := 18) dL_law_983 (by decide) ?_
          exact g_sub (lv2 := [(0, va_rf (some b)), (1, va_rf a1), (2, va_rf a2), (3, .int y100)]) [1, 2, 3, 0] rfl (ih a1 a2 y100 o98.2 cl sl (by omega) (by omega))
        · refine g_iconst C (v := (0 : Int32)) dL_law_520 (by decide) ?_
          exact g_zret C dL_law_521 ⟨show _ ≤ 600000 by omega, show _ ≤ 7302250 by omega⟩
      refine g_ite (fun h101 => ?_) (fun h101 => ?_)
      · refine g_tableIn C (v := 10) (off := 489) (tgt := 522) dL_law_33 h101 (by decide) (by decide) (by decide) (by decide) ?_
        refine g_aload_n C dL_law_522 rfl 1 rfl ?_
        refine g_aload_n C dL_law_523 rfl 0 rfl ?_
        refine g_iload_n C dL_law_524 rfl 3 rfl ?_
        refine g_iconst C (v := (1 : Int32)) dL_law_525 (by decide) ?_
        refine g_iadd C dL_law_526 ?_
        refine g_sld C hX dL_law_527 (fun v102 ev102 => ?_)
        refine g_aload_n C dL_law_528 rfl 0 rfl ?_
        refine g_iload_n C dL_law_529 rfl 3 rfl ?_
        refine g_iconst C (v := (2 : Int32)) dL_law_530 (by decide) ?_
        refine g_iadd C dL_law_531 ?_
        refine g_sld C hX dL_law_532 (fun v103 ev103 => ?_)
        refine g_aload_n C dL_law_533 rfl 0 rfl ?_
        refine g_iload_n C dL_law_534 rfl 3 rfl ?_
        refine g_iconst C (v := (3 : Int32)) dL_law_535 (by decide) ?_
        refine g_iadd C dL_law_536 ?_
        refine g_sld C hX dL_law_537 (fun v104 ev104 => ?_)
        refine g_aload_n C dL_law_538 rfl 0 rfl ?_
        refine g_iload_n C dL_law_539 rfl 3 rfl ?_
        refine g_iconst C (v := (4 : Int32)) dL_law_540 (by decide) ?_
        refine g_iadd C dL_law_541 ?_
        refine g_sld C hX dL_law_542 (fun v105 ev105 => ?_)
        refine g_aload_n C dL_law_543 rfl 0 rfl ?_
        refine g_iload_n C dL_law_544 rfl 3 rfl ?_
        refine g_iconst C (v := (5 : Int32)) dL_law_545 (by decide) ?_
        refine g_iadd C dL_law_546 ?_
        refine g_sld C hX dL_law_547 (fun v106 ev106 => ?_)
        refine g_callV C (n := 5) (ci := 10) [.int v102, .int v103, .int v104, .int v105, .int v106] [] (m_X11_zone a1 v102 v103 v104 v105 v106 S) dL_law_548 gL_law_X11_zone rfl ⟨rfl, rfl⟩ (by decide +kernel) ⟨by decide, by decide⟩ ⟨show _ ≤ 600000 by omega, show _ ≤ 7302250 by omega⟩ rfl (by decide) rfl rfl (by first | exact Nat.le_of_ble_eq_true rfl | simp [va_rf_cat, vi_cat, vl_cat]) (fun o107 eo107 => ?_)
        show G Γ cvI 4 cl sl 551 [(0, va_rf (some b)), (1, va_rf a1), (2, va_rf a2), (3, .int x3)] [.int o107.1] o107.2 _
        refine g_aload_n C dL_law_551 rfl 2 rfl ?_
        refine g_aload_n C dL_law_552 rfl 0 rfl ?_
        refine g_iload_n C dL_law_553 rfl 3 rfl ?_
        refine g_iconst C (v := (1 : Int32)) dL_law_554 (by decide) ?_
        refine g_iadd C dL_law_555 ?_
        refine g_sld C hX dL_law_556 (fun v108 ev108 => ?_)
        refine g_aload_n C dL_law_557 rfl 0 rfl ?_
        refine g_iload_n C dL_law_558 rfl 3 rfl ?_
        refine g_iconst C (v := (2 : Int32)) dL_law_559 (by decide) ?_
        refine g_iadd C dL_law_560 ?_
        refine g_sld C hX dL_law_561 (fun v109 ev109 => ?_)
        refine g_aload_n C dL_law_562 rfl 0 rfl ?_
        refine g_iload_n C dL_law_563 rfl 3 rfl ?_
        refine g_iconst C (v := (3 : Int32)) dL_law_564 (by decide) ?_
        refine g_iadd C dL_law_565 ?_
        refine g_sld C hX dL_law_566 (fun v110 ev110 => ?_)
        refine g_aload_n C dL_law_567 rfl 0 rfl ?_
        refine g_iload_n C dL_law_568 rfl 3 rfl ?_
        refine g_iconst C (v := (4 : Int32)) dL_law_569 (by decide) ?_
        refine g_iadd C dL_law_570 ?_
        refine g_sld C hX dL_law_571 (fun v111 ev111 => ?_)
        refine g_aload_n C dL_law_572 rfl 0 rfl ?_
        refine g_iload_n C dL_law_573 rfl 3 rfl ?_
        refine g_iconst C (v := (5 : Int32)) dL_law_574 (by decide) ?_
        refine g_iadd C dL_law_575 ?_
        refine g_sld C hX dL_law_576 (fun v112 ev112 => ?_)
        refine g_callV C (n := 5) (ci := 11) [.int v108, .int v109, .int v110, .int v111, .int v112] [.int o107.1] (m_X12_zone a2 v108 v109 v110 v111 v112 o107.2) dL_law_577 gL_law_X12_zone rfl ⟨rfl, rfl⟩ (by decide +kernel) ⟨by decide, by decide⟩ ⟨show _ ≤ 600000 by omega, show _ ≤ 7302250 by omega⟩ rfl (by decide) rfl rfl (by first | exact Nat.le_of_ble_eq_true rfl | simp [va_rf_cat, vi_cat, vl_cat]) (fun o113 eo113 => ?_)
        show G Γ cvI 4 cl sl 580 [(0, va_rf (some b)), (1, va_rf a1), (2, va_rf a2), (3, .int x3)] [.int o113.1, .int o107.1] o113.2 _
        refine g_icmp_eq C (tgt := 980) dL_law_580 (by decide) (fun h114 => ?_) (fun h114 => ?_)
        · refine g_iinc1 C dL_law_980 3 rfl (by decide) (by decide) (fun y115 => ?_)
          refine g_lveq (lv2 := [(3, .int y115), (0, va_rf (some b)), (1, va_rf a1), (2, va_rf a2)]) (by first | rfl | simp [va_rf_cat, vi_cat, vl_cat]) ?_
          refine g_goto C (tgt := 18) dL_law_983 (by decide) ?_
          exact g_sub (lv2 := [(0, va_rf (some b)), (1, va_rf a1), (2, va_rf a2), (3, .int y115)]) [1, 2, 3, 0] rfl (ih a1 a2 y115 o113.2 cl sl (by omega) (by omega))
        · refine g_iconst C (v := (0 : Int32)) dL_law_583 (by decide) ?_
          exact g_zret C dL_law_584 ⟨show _ ≤ 600000 by omega, show _ ≤ 7302250 by omega⟩
      refine g_ite (fun h116 => ?_) (fun h116 => ?_)
      · refine g_tableIn C (v := 11) (off := 552) (tgt := 585) dL_law_33 h116 (by decide) (by decide) (by decide) (by decide) ?_
        refine g_aload_n C dL_law_585 rfl 1 rfl ?_
        refine g_aload_n C dL_law_586 rfl 0 rfl ?_
        refine g_iload_n C dL_law_587 rfl 3 rfl ?_
        refine g_iconst C (v := (1 : Int32)) dL_law_588 (by decide) ?_
        refine g_iadd C dL_law_589 ?_
        refine g_sld C hX dL_law_590 (fun v117 ev117 => ?_)
        refine g_callV C (n := 1) (ci := 10) [.int v117] [] (m_X11_open a1 v117 S) dL_law_591 gL_law_X11_open rfl ⟨rfl, rfl⟩ (by decide +kernel) ⟨by decide, by decide⟩ ⟨show _ ≤ 600000 by omega, show _ ≤ 7302250 by omega⟩ rfl (by decide) rfl rfl (by first | exact Nat.le_of_ble_eq_true rfl | simp [va_rf_cat, vi_cat, vl_cat]) (fun o118 eo118 => ?_)
        show G Γ cvI 4 cl sl 594 [(0, va_rf (some b)), (1, va_rf a1), (2, va_rf a2), (3, .int x3)] [.int o118.1] o118.2 _
        refine g_aload_n C dL_law_594 rfl 2 rfl ?_
        refine g_aload_n C dL_law_595 rfl 0 rfl ?_
        refine g_iload_n C dL_law_596 rfl 3 rfl ?_
        refine g_iconst C (v := (1 : Int32)) dL_law_597 (by decide) ?_
        refine g_iadd C dL_law_598 ?_
        refine g_sld C hX dL_law_599 (fun v119 ev119 => ?_)
        refine g_callV C (n := 1) (ci := 11) [.int v119] [.int o118.1] (m_X12_open a2 v119 o118.2) dL_law_600 gL_law_X12_open rfl ⟨rfl, rfl⟩ (by decide +kernel) ⟨by decide, by decide⟩ ⟨show _ ≤ 600000 by omega, show _ ≤ 7302250 by omega⟩ rfl (by decide) rfl rfl (by first | exact Nat.le_of_ble_eq_true rfl | simp [va_rf_cat, vi_cat, vl_cat]) (fun o120 eo120 => ?_)
        show G Γ cvI 4 cl sl 603 [(0, va_rf (some b)), (1, va_rf a1), (2, va_rf a2), (3, .int x3)] [.int o120.1, .int o118.1] o120.2 _
        refine g_icmp_eq C (tgt := 980) dL_law_603 (by decide) (fun h121 => ?_) (fun h121 => ?_)
        · refine g_iinc1 C dL_law_980 3 rfl (by decide) (by decide) (fun y122 => ?_)
          refine g_lveq (lv2 := [(3, .int y122), (0, va_rf (some b)), (1, va_rf a1), (2, va_rf a2)]) (by first | rfl | simp [va_rf_cat, vi_cat, vl_cat]) ?_
          refine g_goto C (tgt := 18) dL_law_983 (by decide) ?_
          exact g_sub (lv2 := [(0, va_rf (some b)), (1, va_rf a1), (2, va_rf a2), (3, .int y122)]) [1, 2, 3, 0] rfl (ih a1 a2 y122 o120.2 cl sl (by omega) (by omega))
        · refine g_iconst C (v := (0 : Int32)) dL_law_606 (by decide) ?_
          exact g_zret C dL_law_607 ⟨show _ ≤ 600000 by omega, show _ ≤ 7302250 by omega⟩
      refine g_ite (fun h123 => ?_) (fun h123 => ?_)
      · refine g_tableIn C (v := 12) (off := 575) (tgt := 608) dL_law_33 h123 (by decide) (by decide) (by decide) (by decide) ?_
        refine g_aload_n C dL_law_608 rfl 1 rfl ?_
        refine g_callV C (n := 0) (ci := 10) [] [] (m_X11_ticks a1 S) dL_law_609 gL_law_X11_ticks rfl ⟨rfl, rfl⟩ (by decide +kernel) ⟨by decide, by decide⟩ ⟨show _ ≤ 600000 by omega, show _ ≤ 7302250 by omega⟩ rfl (by decide) rfl rfl (by first | exact Nat.le_of_ble_eq_true rfl | simp [va_rf_cat, vi_cat, vl_cat]) (fun o124 eo124 => ?_)
        show G Γ cvI 4 cl sl 612 [(0, va_rf (some b)), (1, va_rf a1), (2, va_rf a2), (3, .int x3)] [.int o124.1] o124.2 _
        refine g_aload_n C dL_law_612 rfl 2 rfl ?_
        refine g_callV C (n := 0) (ci := 11) [] [.int o124.1] (m_X12_ticks a2 o124.2) dL_law_613 gL_law_X12_ticks rfl ⟨rfl, rfl⟩ (by decide +kernel) ⟨by decide, by decide⟩ ⟨show _ ≤ 600000 by omega, show _ ≤ 7302250 by omega⟩ rfl (by decide) rfl rfl (by first | exact Nat.le_of_ble_eq_true rfl | simp [va_rf_cat, vi_cat, vl_cat]) (fun o125 eo125 => ?_)
        show G Γ cvI 4 cl sl 616 [(0, va_rf (some b)), (1, va_rf a1), (2, va_rf a2), (3, .int x3)] [.int o125.1, .int o124.1] o125.2 _
        refine g_icmp_eq C (tgt := 980) dL_law_616 (by decide) (fun h126 => ?_) (fun h126 => ?_)
        · refine g_iinc1 C dL_law_980 3 rfl (by decide) (by decide) (fun y127 => ?_)
          refine g_lveq (lv2 := [(3, .int y127), (0, va_rf (some b)), (1, va_rf a1), (2, va_rf a2)]) (by first | rfl | simp [va_rf_cat, vi_cat, vl_cat]) ?_
          refine g_goto C (tgt := 18) dL_law_983 (by decide) ?_
          exact g_sub (lv2 := [(0, va_rf (some b)), (1, va_rf a1), (2, va_rf a2), (3, .int y127)]) [1, 2, 3, 0] rfl (ih a1 a2 y127 o125.2 cl sl (by omega) (by omega))
        · refine g_iconst C (v := (0 : Int32)) dL_law_619 (by decide) ?_
          exact g_zret C dL_law_620 ⟨show _ ≤ 600000 by omega, show _ ≤ 7302250 by omega⟩
      refine g_ite (fun h128 => ?_) (fun h128 => ?_)
      · refine g_tableIn C (v := 13) (off := 588) (tgt := 621) dL_law_33 h128 (by decide) (by decide) (by decide) (by decide) ?_
        refine g_aload_n C dL_law_621 rfl 1 rfl ?_
        refine g_aload_n C dL_law_622 rfl 0 rfl ?_
        refine g_iload_n C dL_law_623 rfl 3 rfl ?_
        refine g_iconst C (v := (1 : Int32)) dL_law_624 (by decide) ?_
        refine g_iadd C dL_law_625 ?_
        refine g_sld C hX dL_law_626 (fun v129 ev129 => ?_)
        refine g_aload_n C dL_law_627 rfl 0 rfl ?_
        refine g_iload_n C dL_law_628 rfl 3 rfl ?_
        refine g_iconst C (v := (2 : Int32)) dL_law_629 (by decide) ?_
        refine g_iadd C dL_law_630 ?_
        refine g_sld C hX dL_law_631 (fun v130 ev130 => ?_)
        refine g_callV C (n := 2) (ci := 10) [.int v129, .int v130] [] (m_X11_tick a1 v129 v130 S) dL_law_632 gL_law_X11_tick rfl ⟨rfl, rfl⟩ (by decide +kernel) ⟨by decide, by decide⟩ ⟨show _ ≤ 600000 by omega, show _ ≤ 7302250 by omega⟩ rfl (by decide) rfl rfl (by first | exact Nat.le_of_ble_eq_true rfl | simp [va_rf_cat, vi_cat, vl_cat]) (fun o131 eo131 => ?_)
        show G Γ cvI 4 cl sl 635 [(0, va_rf (some b)), (1, va_rf a1), (2, va_rf a2), (3, .int x3)] [.int o131.1] o131.2 _
        refine g_aload_n C dL_law_635 rfl 2 rfl ?_
        refine g_aload_n C dL_law_636 rfl 0 rfl ?_
        refine g_iload_n C dL_law_637 rfl 3 rfl ?_
        refine g_iconst C (v := (1 : Int32)) dL_law_638 (by decide) ?_
        refine g_iadd C dL_law_639 ?_
        refine g_sld C hX dL_law_640 (fun v132 ev132 => ?_)
        refine g_aload_n C dL_law_641 rfl 0 rfl ?_
        refine g_iload_n C dL_law_642 rfl 3 rfl ?_
        refine g_iconst C (v := (2 : Int32)) dL_law_643 (by decide) ?_
        refine g_iadd C dL_law_644 ?_
        refine g_sld C hX dL_law_645 (fun v133 ev133 => ?_)
        refine g_callV C (n := 2) (ci := 11) [.int v132, .int v133] [.int o131.1] (m_X12_tick a2 v132 v133 o131.2) dL_law_646 gL_law_X12_tick rfl ⟨rfl, rfl⟩ (by decide +kernel) ⟨by decide, by decide⟩ ⟨show _ ≤ 600000 by omega, show _ ≤ 7302250 by omega⟩ rfl (by decide) rfl rfl (by first | exact Nat.le_of_ble_eq_true rfl | simp [va_rf_cat, vi_cat, vl_cat]) (fun o134 eo134 => ?_)
        show G Γ cvI 4 cl sl 649 [(0, va_rf (some b)), (1, va_rf a1), (2, va_rf a2), (3, .int x3)] [.int o134.1, .int o131.1] o134.2 _
        refine g_icmp_eq C (tgt := 980) dL_law_649 (by decide) (fun h135 => ?_) (fun h135 => ?_)
        · refine g_iinc1 C dL_law_980 3 rfl (by decide) (by decide) (fun y136 => ?_)
          refine g_lveq (lv2 := [(3, .int y136), (0, va_rf (some b)), (1, va_rf a1), (2, va_rf a2)]) (by first | rfl | simp [va_rf_cat, vi_cat, vl_cat]) ?_
          refine g_goto C (tgt := 18) dL_law_983 (by decide) ?_
          exact g_sub (lv2 := [(0, va_rf (some b)), (1, va_rf a1), (2, va_rf a2), (3, .int y136)]) [1, 2, 3, 0] rfl (ih a1 a2 y136 o134.2 cl sl (by omega) (by omega))
        · refine g_iconst C (v := (0 : Int32)) dL_law_652 (by decide) ?_
          exact g_zret C dL_law_653 ⟨show _ ≤ 600000 by omega, show _ ≤ 7302250 by omega⟩
      refine g_ite (fun h137 => ?_) (fun h137 => ?_)
      · refine g_tableIn C (v := 14) (off := 621) (tgt := 654) dL_law_33 h137 (by decide) (by decide) (by decide) (by decide) ?_
        refine g_aload_n C dL_law_654 rfl 1 rfl ?_
        refine g_aload_n C dL_law_655 rfl 0 rfl ?_
        refine g_iload_n C dL_law_656 rfl 3 rfl ?_
        refine g_iconst C (v := (1 : Int32)) dL_law_657 (by decide) ?_
        refine g_iadd C dL_law_658 ?_
        refine g_sld C hX dL_law_659 (fun v138 ev138 => ?_)
        refine g_callV C (n := 1) (ci := 10) [.int v138] [] (m_X11_all a1 v138 S) dL_law_660 gL_law_X11_all rfl ⟨rfl, rfl⟩ (by decide +kernel) ⟨by decide, by decide⟩ ⟨show _ ≤ 600000 by omega, show _ ≤ 7302250 by omega⟩ rfl (by decide) rfl rfl (by first | exact Nat.le_of_ble_eq_true rfl | simp [va_rf_cat, vi_cat, vl_cat]) (fun o139 eo139 => ?_)
        show G Γ cvI 4 cl sl 663 [(0, va_rf (some b)), (1, va_rf a1), (2, va_rf a2), (3, .int x3)] [.int o139.1] o139.2 _
        refine g_aload_n C dL_law_663 rfl 2 rfl ?_
        refine g_aload_n C dL_law_664 rfl 0 rfl ?_
        refine g_iload_n C dL_law_665 rfl 3 rfl ?_
        refine g_iconst C (v := (1 : Int32)) dL_law_666 (by decide) ?_
        refine g_iadd C dL_law_667 ?_
        refine g_sld C hX dL_law_668 (fun v140 ev140 => ?_)
        refine g_callV C (n := 1) (ci := 11) [.int v140] [.int o139.1] (m_X12_all a2 v140 o139.2) dL_law_669 gL_law_X12_all rfl ⟨rfl, rfl⟩ (by decide +kernel) ⟨by decide, by decide⟩ ⟨show _ ≤ 600000 by omega, show _ ≤ 7302250 by omega⟩ rfl (by decide) rfl rfl (by first | exact Nat.le_of_ble_eq_true rfl | simp [va_rf_cat, vi_cat, vl_cat]) (fun o141 eo141 => ?_)
        show G Γ cvI 4 cl sl 672 [(0, va_rf (some b)), (1, va_rf a1), (2, va_rf a2), (3, .int x3)] [.int o141.1, .int o139.1] o141.2 _
        refine g_icmp_eq C (tgt := 980) dL_law_672 (by decide) (fun h142 => ?_) (fun h142 => ?_)
        · refine g_iinc1 C dL_law_980 3 rfl (by decide) (by decide) (fun y143 => ?_)
          refine g_lveq (lv2 := [(3, .int y143), (0, va_rf (some b)), (1, va_rf a1), (2, va_rf a2)]) (by first | rfl | simp [va_rf_cat, vi_cat, vl_cat]) ?_
          refine g_goto C (tgt := 18) dL_law_983 (by decide) ?_
          exact g_sub (lv2 := [(0, va_rf (some b)), (1, va_rf a1), (2, va_rf a2), (3, .int y143)]) [1, 2, 3, 0] rfl (ih a1 a2 y143 o141.2 cl sl (by omega) (by omega))
        · refine g_iconst C (v := (0 : Int32)) dL_law_675 (by decide) ?_
          exact g_zret C dL_law_676 ⟨show _ ≤ 600000 by omega, show _ ≤ 7302250 by omega⟩
      refine g_ite (fun h144 => ?_) (fun h144 => ?_)
      · refine g_tableIn C (v := 15) (off := 644) (tgt := 677) dL_law_33 h144 (by decide) (by decide) (by decide) (by decide) ?_
        refine g_aload_n C dL_law_677 rfl 1 rfl ?_
        refine g_aload_n C dL_law_678 rfl 0 rfl ?_
        refine g_iload_n C dL_law_679 rfl 3 rfl ?_
        refine g_iconst C (v := (1 : Int32)) dL_law_680 (by decide) ?_
        refine g_iadd C dL_law_681 ?_
        refine g_sld C hX dL_law_682 (fun v145 ev145 => ?_)
        refine g_aload_n C dL_law_683 rfl 0 rfl ?_
        refine g_iload_n C dL_law_684 rfl 3 rfl ?_
        refine g_iconst C (v := (2 : Int32)) dL_law_685 (by decide) ?_
        refine g_iadd C dL_law_686 ?_
        refine g_sld C hX dL_law_687 (fun v146 ev146 => ?_)
        refine g_callV C (n := 2) (ci := 10) [.int v145, .int v146] [] (m_X11_burn a1 v145 v146 S) dL_law_688 gL_law_X11_burn rfl ⟨rfl, rfl⟩ (by decide +kernel) ⟨by decide, by decide⟩ ⟨show _ ≤ 600000 by omega, show _ ≤ 7302250 by omega⟩ rfl (by decide) rfl rfl (by first | exact Nat.le_of_ble_eq_true rfl | simp [va_rf_cat, vi_cat, vl_cat]) (fun o147 eo147 => ?_)
        show G Γ cvI 4 cl sl 691 [(0, va_rf (some b)), (1, va_rf a1), (2, va_rf a2), (3, .int x3)] [.int o147.1] o147.2 _
        refine g_aload_n C dL_law_691 rfl 2 rfl ?_
        refine g_aload_n C dL_law_692 rfl 0 rfl ?_
        refine g_iload_n C dL_law_693 rfl 3 rfl ?_
        refine g_iconst C (v := (1 : Int32)) dL_law_694 (by decide) ?_
        refine g_iadd C dL_law_695 ?_
        refine g_sld C hX dL_law_696 (fun v148 ev148 => ?_)
        refine g_aload_n C dL_law_697 rfl 0 rfl ?_
        refine g_iload_n C dL_law_698 rfl 3 rfl ?_
        refine g_iconst C (v := (2 : Int32)) dL_law_699 (by decide) ?_
        refine g_iadd C dL_law_700 ?_
        refine g_sld C hX dL_law_701 (fun v149 ev149 => ?_)
        refine g_callV C (n := 2) (ci := 11) [.int v148, .int v149] [.int o147.1] (m_X12_burn a2 v148 v149 o147.2) dL_law_702 gL_law_X12_burn rfl ⟨rfl, rfl⟩ (by decide +kernel) ⟨by decide, by decide⟩ ⟨show _ ≤ 600000 by omega, show _ ≤ 7302250 by omega⟩ rfl (by decide) rfl rfl (by first | exact Nat.le_of_ble_eq_true rfl | simp [va_rf_cat, vi_cat, vl_cat]) (fun o150 eo150 => ?_)
        show G Γ cvI 4 cl sl 705 [(0, va_rf (some b)), (1, va_rf a1), (2, va_rf a2), (3, .int x3)] [.int o150.1, .int o147.1] o150.2 _
        refine g_icmp_eq C (tgt := 980) dL_law_705 (by decide) (fun h151 => ?_) (fun h151 => ?_)
        · refine g_iinc1 C dL_law_980 3 rfl (by decide) (by decide) (fun y152 => ?_)
          refine g_lveq (lv2 := [(3, .int y152), (0, va_rf (some b)), (1, va_rf a1), (2, va_rf a2)]) (by first | rfl | simp [va_rf_cat, vi_cat, vl_cat]) ?_
          refine g_goto C (tgt := 18) dL_law_983 (by decide) ?_
          exact g_sub (lv2 := [(0, va_rf (some b)), (1, va_rf a1), (2, va_rf a2), (3, .int y152)]) [1, 2, 3, 0] rfl (ih a1 a2 y152 o150.2 cl sl (by omega) (by omega))
        · refine g_iconst C (v := (0 : Int32)) dL_law_708 (by decide) ?_
          exact g_zret C dL_law_709 ⟨show _ ≤ 600000 by omega, show _ ≤ 7302250 by omega⟩
      refine g_ite (fun h153 => ?_) (fun h153 => ?_)
      · refine g_tableIn C (v := 16) (off := 677) (tgt := 710) dL_law_33 h153 (by decide) (by decide) (by decide) (by decide) ?_
        refine g_aload_n C dL_law_710 rfl 1 rfl ?_
        refine g_aload_n C dL_law_711 rfl 0 rfl ?_
        refine g_iload_n C dL_law_712 rfl 3 rfl ?_
        refine g_iconst C (v := (1 : Int32)) dL_law_713 (by decide) ?_
        refine g_iadd C dL_law_714 ?_
        refine g_sld C hX dL_law_715 (fun v154 ev154 => ?_)
        refine g_i2l C dL_law_716 ?_
        refine g_bipush C (v := (32 : Int32)) dL_law_717 (by decide) ?_
        refine g_lshl C dL_law_719 ?_
        refine g_aload_n C dL_law_720 rfl 0 rfl ?_
        refine g_iload_n C dL_law_721 rfl 3 rfl ?_
        refine g_iconst C (v := (2 : Int32)) dL_law_722 (by decide) ?_
        refine g_iadd C dL_law_723 ?_
        refine g_sld C hX dL_law_724 (fun v155 ev155 => ?_)
        refine g_i2l C dL_law_725 ?_
        refine g_ldc2 C (v := (4294967295 : Int64)) dL_law_726 (by decide +kernel) ?_
        refine g_land C dL_law_729 ?_
        refine g_lor C dL_law_730 ?_
        refine g_aload_n C dL_law_731 rfl 0 rfl ?_
        refine g_iload_n C dL_law_732 rfl 3 rfl ?_
        refine g_iconst C (v := (3 : Int32)) dL_law_733 (by decide) ?_
        refine g_iadd C dL_law_734 ?_
        refine g_sld C hX dL_law_735 (fun v156 ev156 => ?_)
        refine g_callV C (n := 2) (ci := 10) [.long ((v154.toInt64 <<< ((32 : Int32).toInt64 &&& 63)) ||| (v155.toInt64 &&& (4294967295 : Int64))), .int v156] [] (m_X11_feed a1 ((v154.toInt64 <<< ((32 : Int32).toInt64 &&& 63)) ||| (v155.toInt64 &&& (4294967295 : Int64))) v156 S) dL_law_736 gL_law_X11_feed rfl ⟨rfl, rfl⟩ (by decide +kernel) ⟨by decide, by decide⟩ ⟨show _ ≤ 600000 by omega, show _ ≤ 7302250 by omega⟩ rfl (by decide) rfl rfl (by first | exact Nat.le_of_ble_eq_true rfl | simp [va_rf_cat, vi_cat, vl_cat]) (fun o157 eo157 => ?_)
        show G Γ cvI 4 cl sl 739 [(0, va_rf (some b)), (1, va_rf a1), (2, va_rf a2), (3, .int x3)] [.int o157.1] o157.2 _
        refine g_aload_n C dL_law_739 rfl 2 rfl ?_
        refine g_aload_n C dL_law_740 rfl 0 rfl ?_
        refine g_iload_n C dL_law_741 rfl 3 rfl ?_
        refine g_iconst C (v := (1 : Int32)) dL_law_742 (by decide) ?_
        refine g_iadd C dL_law_743 ?_
        refine g_sld C hX dL_law_744 (fun v158 ev158 => ?_)
        refine g_i2l C dL_law_745 ?_
        refine g_bipush C (v := (32 : Int32)) dL_law_746 (by decide) ?_
        refine g_lshl C dL_law_748 ?_
        refine g_aload_n C dL_law_749 rfl 0 rfl ?_
        refine g_iload_n C dL_law_750 rfl 3 rfl ?_
        refine g_iconst C (v := (2 : Int32)) dL_law_751 (by decide) ?_
        refine g_iadd C dL_law_752 ?_
        refine g_sld C hX dL_law_753 (fun v159 ev159 => ?_)
        refine g_i2l C dL_law_754 ?_
        refine g_ldc2 C (v := (4294967295 : Int64)) dL_law_755 (by decide +kernel) ?_
        refine g_land C dL_law_758 ?_
        refine g_lor C dL_law_759 ?_
        refine g_aload_n C dL_law_760 rfl 0 rfl ?_
        refine g_iload_n C dL_law_761 rfl 3 rfl ?_
        refine g_iconst C (v := (3 : Int32)) dL_law_762 (by decide) ?_
        refine g_iadd C dL_law_763 ?_
        refine g_sld C hX dL_law_764 (fun v160 ev160 => ?_)
        refine g_callV C (n := 2) (ci := 11) [.long ((v158.toInt64 <<< ((32 : Int32).toInt64 &&& 63)) ||| (v159.toInt64 &&& (4294967295 : Int64))), .int v160] [.int o157.1] (m_X12_feed a2 ((v158.toInt64 <<< ((32 : Int32).toInt64 &&& 63)) ||| (v159.toInt64 &&& (4294967295 : Int64))) v160 o157.2) dL_law_765 gL_law_X12_feed rfl ⟨rfl, rfl⟩ (by decide +kernel) ⟨by decide, by decide⟩ ⟨show _ ≤ 600000 by omega, show _ ≤ 7302250 by omega⟩ rfl (by decide) rfl rfl (by first | exact Nat.le_of_ble_eq_true rfl | simp [va_rf_cat, vi_cat, vl_cat]) (fun o161 eo161 => ?_)
        show G Γ cvI 4 cl sl 768 [(0, va_rf (some b)), (1, va_rf a1), (2, va_rf a2), (3, .int x3)] [.int o161.1, .int o157.1] o161.2 _
        refine g_icmp_eq C (tgt := 980) dL_law_768 (by decide) (fun h162 => ?_) (fun h162 => ?_)
        · refine g_iinc1 C dL_law_980 3 rfl (by decide) (by decide) (fun y163 => ?_)
          refine g_lveq (lv2 := [(3, .int y163), (0, va_rf (some b)), (1, va_rf a1), (2, va_rf a2)]) (by first | rfl | simp [va_rf_cat, vi_cat, vl_cat]) ?_
          refine g_goto C (tgt := 18) dL_law_983 (by decide) ?_
          exact g_sub (lv2 := [(0, va_rf (some b)), (1, va_rf a1), (2, va_rf a2), (3, .int y163)]) [1, 2, 3, 0] rfl (ih a1 a2 y163 o161.2 cl sl (by omega) (by omega))
        · refine g_iconst C (v := (0 : Int32)) dL_law_771 (by decide) ?_
          exact g_zret C dL_law_772 ⟨show _ ≤ 600000 by omega, show _ ≤ 7302250 by omega⟩
      refine g_ite (fun h164 => ?_) (fun h164 => ?_)
      · refine g_tableIn C (v := 17) (off := 740) (tgt := 773) dL_law_33 h164 (by decide) (by decide) (by decide) (by decide) ?_
        refine g_aload_n C dL_law_773 rfl 1 rfl ?_
        refine g_callV C (n := 0) (ci := 10) [] [] (m_X11_cues a1 S) dL_law_774 gL_law_X11_cues rfl ⟨rfl, rfl⟩ (by decide +kernel) ⟨by decide, by decide⟩ ⟨show _ ≤ 600000 by omega, show _ ≤ 7302250 by omega⟩ rfl (by decide) rfl rfl (by first | exact Nat.le_of_ble_eq_true rfl | simp [va_rf_cat, vi_cat, vl_cat]) (fun o165 eo165 => ?_)
        show G Γ cvI 4 cl sl 777 [(0, va_rf (some b)), (1, va_rf a1), (2, va_rf a2), (3, .int x3)] [.int o165.1] o165.2 _
        refine g_aload_n C dL_law_777 rfl 2 rfl ?_
        refine g_callV C (n := 0) (ci := 11) [] [.int o165.1] (m_X12_cues a2 o165.2) dL_law_778 gL_law_X12_cues rfl ⟨rfl, rfl⟩ (by decide +kernel) ⟨by decide, by decide⟩ ⟨show _ ≤ 600000 by omega, show _ ≤ 7302250 by omega⟩ rfl (by decide) rfl rfl (by first | exact Nat.le_of_ble_eq_true rfl | simp [va_rf_cat, vi_cat, vl_cat]) (fun o166 eo166 => ?_)
        show G Γ cvI 4 cl sl 781 [(0, va_rf (some b)), (1, va_rf a1), (2, va_rf a2), (3, .int x3)] [.int o166.1, .int o165.1] o166.2 _
        refine g_icmp_eq C (tgt := 980) dL_law_781 (by decide) (fun h167 => ?_) (fun h167 => ?_)
        · refine g_iinc1 C dL_law_980 3 rfl (by decide) (by decide) (fun y168 => ?_)
          refine g_lveq (lv2 := [(3, .int y168), (0, va_rf (some b)), (1, va_rf a1), (2, va_rf a2)]) (by first | rfl | simp [va_rf_cat, vi_cat, vl_cat]) ?_
          refine g_goto C (tgt := 18) dL_law_983 (by decide) ?_
          exact g_sub (lv2 := [(0, va_rf (some b)), (1, va_rf a1), (2, va_rf a2), (3, .int y168)]) [1, 2, 3, 0] rfl (ih a1 a2 y168 o166.2 cl sl (by omega) (by omega))
        · refine g_iconst C (v := (0 : Int32)) dL_law_784 (by decide) ?_
          exact g_zret C dL_law_785 ⟨show _ ≤ 600000 by omega, show _ ≤ 7302250 by omega⟩
      refine g_ite (fun h169 => ?_) (fun h169 => ?_)
      · refine g_tableIn C (v := 18) (off := 753) (tgt := 786) dL_law_33 h169 (by decide) (by decide) (by decide) (by decide) ?_
        refine g_aload_n C dL_law_786 rfl 1 rfl ?_
        refine g_callV C (n := 0) (ci := 10) [] [] (m_X11_fault a1 S) dL_law_787 gL_law_X11_fault rfl ⟨rfl, rfl⟩ (by decide +kernel) ⟨by decide, by decide⟩ ⟨show _ ≤ 600000 by omega, show _ ≤ 7302250 by omega⟩ rfl (by decide) rfl rfl (by first | exact Nat.le_of_ble_eq_true rfl | simp [va_rf_cat, vi_cat, vl_cat]) (fun o170 eo170 => ?_)
        show G Γ cvI 4 cl sl 790 [(0, va_rf (some b)), (1, va_rf a1), (2, va_rf a2), (3, .int x3)] [.int o170.1] o170.2 _
        refine g_aload_n C dL_law_790 rfl 2 rfl ?_
        refine g_callV C (n := 0) (ci := 11) [] [.int o170.1] (m_X12_fault a2 o170.2) dL_law_791 gL_law_X12_fault rfl ⟨rfl, rfl⟩ (by decide +kernel) ⟨by decide, by decide⟩ ⟨show _ ≤ 600000 by omega, show _ ≤ 7302250 by omega⟩ rfl (by decide) rfl rfl (by first | exact Nat.le_of_ble_eq_true rfl | simp [va_rf_cat, vi_cat, vl_cat]) (fun o171 eo171 => ?_)
        show G Γ cvI 4 cl sl 794 [(0, va_rf (some b)), (1, va_rf a1), (2, va_rf a2), (3, .int x3)] [.int o171.1, .int o170.1] o171.2 _
        refine g_icmp_eq C (tgt := 980) dL_law_794 (by decide) (fun h172 => ?_) (fun h172 => ?_)
        · refine g_iinc1 C dL_law_980 3 rfl (by decide) (by decide) (fun y173 => ?_)
          refine g_lveq (lv2 := [(3, .int y173), (0, va_rf (some b)), (1, va_rf a1), (2, va_rf a2)]) (by first | rfl | simp [va_rf_cat, vi_cat, vl_cat]) ?_
          refine g_goto C (tgt := 18) dL_law_983 (by decide) ?_
          exact g_sub (lv2 := [(0, va_rf (some b)), (1, va_rf a1), (2, va_rf a2), (3, .int y173)]) [1, 2, 3, 0] rfl (ih a1 a2 y173 o171.2 cl sl (by omega) (by omega))
        · refine g_iconst C (v := (0 : Int32)) dL_law_797 (by decide) ?_
          exact g_zret C dL_law_798 ⟨show _ ≤ 600000 by omega, show _ ≤ 7302250 by omega⟩
      refine g_ite (fun h174 => ?_) (fun h174 => ?_)
      · refine g_tableIn C (v := 19) (off := 766) (tgt := 799) dL_law_33 h174 (by decide) (by decide) (by decide) (by decide) ?_
        refine g_aload_n C dL_law_799 rfl 1 rfl ?_
        refine g_aload_n C dL_law_800 rfl 0 rfl ?_
        refine g_iload_n C dL_law_801 rfl 3 rfl ?_
        refine g_iconst C (v := (1 : Int32)) dL_law_802 (by decide) ?_
        refine g_iadd C dL_law_803 ?_
        refine g_sld C hX dL_law_804 (fun v175 ev175 => ?_)
        refine g_aload_n C dL_law_805 rfl 0 rfl ?_
        refine g_iload_n C dL_law_806 rfl 3 rfl ?_
        refine g_iconst C (v := (2 : Int32)) dL_law_807 (by decide) ?_
        refine g_iadd C dL_law_808 ?_
        refine g_sld C hX dL_law_809 (fun v176 ev176 => ?_)
        refine g_callV C (n := 2) (ci := 10) [.int v175, .int v176] [] (m_X11_frame a1 v175 v176 S) dL_law_810 gL_law_X11_frame rfl ⟨rfl, rfl⟩ (by decide +kernel) ⟨by decide, by decide⟩ ⟨show _ ≤ 600000 by omega, show _ ≤ 7302250 by omega⟩ rfl (by decide) rfl rfl (by first | exact Nat.le_of_ble_eq_true rfl | simp [va_rf_cat, vi_cat, vl_cat]) (fun o177 eo177 => ?_)
        show G Γ cvI 4 cl sl 813 [(0, va_rf (some b)), (1, va_rf a1), (2, va_rf a2), (3, .int x3)] [.int o177.1] o177.2 _
        refine g_aload_n C dL_law_813 rfl 2 rfl ?_
        refine g_aload_n C dL_law_814 rfl 0 rfl ?_
        refine g_iload_n C dL_law_815 rfl 3 rfl ?_
        refine g_iconst C (v := (1 : Int32)) dL_law_816 (by decide) ?_
        refine g_iadd C dL_law_817 ?_
        refine g_sld C hX dL_law_818 (fun v178 ev178 => ?_)
        refine g_aload_n C dL_law_819 rfl 0 rfl ?_
        refine g_iload_n C dL_law_820 rfl 3 rfl ?_
        refine g_iconst C (v := (2 : Int32)) dL_law_821 (by decide) ?_
        refine g_iadd C dL_law_822 ?_
        refine g_sld C hX dL_law_823 (fun v179 ev179 => ?_)
        refine g_callV C (n := 2) (ci := 11) [.int v178, .int v179] [.int o177.1] (m_X12_frame a2 v178 v179 o177.2) dL_law_824 gL_law_X12_frame rfl ⟨rfl, rfl⟩ (by decide +kernel) ⟨by decide, by decide⟩ ⟨show _ ≤ 600000 by omega, show _ ≤ 7302250 by omega⟩ rfl (by decide) rfl rfl (by first | exact Nat.le_of_ble_eq_true rfl | simp [va_rf_cat, vi_cat, vl_cat]) (fun o180 eo180 => ?_)
        show G Γ cvI 4 cl sl 827 [(0, va_rf (some b)), (1, va_rf a1), (2, va_rf a2), (3, .int x3)] [.int o180.1, .int o177.1] o180.2 _
        refine g_icmp_eq C (tgt := 980) dL_law_827 (by decide) (fun h181 => ?_) (fun h181 => ?_)
        · refine g_iinc1 C dL_law_980 3 rfl (by decide) (by decide) (fun y182 => ?_)
          refine g_lveq (lv2 := [(3, .int y182), (0, va_rf (some b)), (1, va_rf a1), (2, va_rf a2)]) (by first | rfl | simp [va_rf_cat, vi_cat, vl_cat]) ?_
          refine g_goto C (tgt := 18) dL_law_983 (by decide) ?_
          exact g_sub (lv2 := [(0, va_rf (some b)), (1, va_rf a1), (2, va_rf a2), (3, .int y182)]) [1, 2, 3, 0] rfl (ih a1 a2 y182 o180.2 cl sl (by omega) (by omega))
        · refine g_iconst C (v := (0 : Int32)) dL_law_830 (by decide) ?_
          exact g_zret C dL_law_831 ⟨show _ ≤ 600000 by omega, show _ ≤ 7302250 by omega⟩
      refine g_ite (fun h183 => ?_) (fun h183 => ?_)
      · refine g_tableIn C (v := 20) (off := 799) (tgt := 832) dL_law_33 h183 (by decide) (by decide) (by decide) (by decide) ?_
        refine g_aload_n C dL_law_832 rfl 1 rfl ?_
        refine g_aload_n C dL_law_833 rfl 0 rfl ?_
        refine g_iload_n C dL_law_834 rfl 3 rfl ?_
        refine g_iconst C (v := (1 : Int32)) dL_law_835 (by decide) ?_
        refine g_iadd C dL_law_836 ?_
        refine g_sld C hX dL_law_837 (fun v184 ev184 => ?_)
        refine g_callV C (n := 1) (ci := 10) [.int v184] [] (m_X11_kind a1 v184 S) dL_law_838 gL_law_X11_kind rfl ⟨rfl, rfl⟩ (by decide +kernel) ⟨by decide, by decide⟩ ⟨show _ ≤ 600000 by omega, show _ ≤ 7302250 by omega⟩ rfl (by decide) rfl rfl (by first | exact Nat.le_of_ble_eq_true rfl | simp [va_rf_cat, vi_cat, vl_cat]) (fun o185 eo185 => ?_)
        show G Γ cvI 4 cl sl 841 [(0, va_rf (some b)), (1, va_rf a1), (2, va_rf a2), (3, .int x3)] [.int o185.1] o185.2 _
        refine g_aload_n C dL_law_841 rfl 2 rfl ?_
        refine g_aload_n C dL_law_842 rfl 0 rfl ?_
        refine g_iload_n C dL_law_843 rfl 3 rfl ?_
        refine g_iconst C (v := (1 : Int32)) dL_law_844 (by decide) ?_
        refine g_iadd C dL_law_845 ?_
        refine g_sld C hX dL_law_846 (fun v186 ev186 => ?_)
        refine g_callV C (n := 1) (ci := 11) [.int v186] [.int o185.1] (m_X12_kind a2 v186 o185.2) dL_law_847 gL_law_X12_kind rfl ⟨rfl, rfl⟩ (by decide +kernel) ⟨by decide, by decide⟩ ⟨show _ ≤ 600000 by omega, show _ ≤ 7302250 by omega⟩ rfl (by decide) rfl rfl (by first | exact Nat.le_of_ble_eq_true rfl | simp [va_rf_cat, vi_cat, vl_cat]) (fun o187 eo187 => ?_)
        show G Γ cvI 4 cl sl 850 [(0, va_rf (some b)), (1, va_rf a1), (2, va_rf a2), (3, .int x3)] [.int o187.1, .int o185.1] o187.2 _
        refine g_icmp_eq C (tgt := 980) dL_law_850 (by decide) (fun h188 => ?_) (fun h188 => ?_)
        · refine g_iinc1 C dL_law_980 3 rfl (by decide) (by decide) (fun y189 => ?_)
          refine g_lveq (lv2 := [(3, .int y189), (0, va_rf (some b)), (1, va_rf a1), (2, va_rf a2)]) (by first | rfl | simp [va_rf_cat, vi_cat, vl_cat]) ?_
          refine g_goto C (tgt := 18) dL_law_983 (by decide) ?_
          exact g_sub (lv2 := [(0, va_rf (some b)), (1, va_rf a1), (2, va_rf a2), (3, .int y189)]) [1, 2, 3, 0] rfl (ih a1 a2 y189 o187.2 cl sl (by omega) (by omega))
        · refine g_iconst C (v := (0 : Int32)) dL_law_853 (by decide) ?_
          exact g_zret C dL_law_854 ⟨show _ ≤ 600000 by omega, show _ ≤ 7302250 by omega⟩
      refine g_ite (fun h190 => ?_) (fun h190 => ?_)
      · refine g_tableIn C (v := 21) (off := 822) (tgt := 855) dL_law_33 h190 (by decide) (by decide) (by decide) (by decide) ?_
        refine g_aload_n C dL_law_855 rfl 1 rfl ?_
        refine g_aload_n C dL_law_856 rfl 0 rfl ?_
        refine g_iload_n C dL_law_857 rfl 3 rfl ?_
        refine g_iconst C (v := (1 : Int32)) dL_law_858 (by decide) ?_
        refine g_iadd C dL_law_859 ?_
        refine g_sld C hX dL_law_860 (fun v191 ev191 => ?_)
        refine g_aload_n C dL_law_861 rfl 0 rfl ?_
        refine g_iload_n C dL_law_862 rfl 3 rfl ?_
        refine g_iconst C (v := (2 : Int32)) dL_law_863 (by decide) ?_
        refine g_iadd C dL_law_864 ?_
        refine g_sld C hX dL_law_865 (fun v192 ev192 => ?_)
        refine g_callV C (n := 2) (ci := 10) [.int v191, .int v192] [] (m_X11_as a1 v191 v192 S) dL_law_866 gL_law_X11_as rfl ⟨rfl, rfl⟩ (by decide +kernel) ⟨by decide, by decide⟩ ⟨show _ ≤ 600000 by omega, show _ ≤ 7302250 by omega⟩ rfl (by decide) rfl rfl (by first | exact Nat.le_of_ble_eq_true rfl | simp [va_rf_cat, vi_cat, vl_cat]) (fun o193 eo193 => ?_)
        show G Γ cvI 4 cl sl 869 [(0, va_rf (some b)), (1, va_rf a1), (2, va_rf a2), (3, .int x3)] [.int o193.1] o193.2 _
        refine g_aload_n C dL_law_869 rfl 2 rfl ?_
        refine g_aload_n C dL_law_870 rfl 0 rfl ?_
        refine g_iload_n C dL_law_871 rfl 3 rfl ?_
        refine g_iconst C (v := (1 : Int32)) dL_law_872 (by decide) ?_
        refine g_iadd C dL_law_873 ?_
        refine g_sld C hX dL_law_874 (fun v194 ev194 => ?_)
        refine g_aload_n C dL_law_875 rfl 0 rfl ?_
        refine g_iload_n C dL_law_876 rfl 3 rfl ?_
        refine g_iconst C (v := (2 : Int32)) dL_law_877 (by decide) ?_
        refine g_iadd C dL_law_878 ?_
        refine g_sld C hX dL_law_879 (fun v195 ev195 => ?_)
        refine g_callV C (n := 2) (ci := 11) [.int v194, .int v195] [.int o193.1] (m_X12_as a2 v194 v195 o193.2) dL_law_880 gL_law_X12_as rfl ⟨rfl, rfl⟩ (by decide +kernel) ⟨by decide, by decide⟩ ⟨show _ ≤ 600000 by omega, show _ ≤ 7302250 by omega⟩ rfl (by decide) rfl rfl (by first | exact Nat.le_of_ble_eq_true rfl | simp [va_rf_cat, vi_cat, vl_cat]) (fun o196 eo196 => ?_)
        show G Γ cvI 4 cl sl 883 [(0, va_rf (some b)), (1, va_rf a1), (2, va_rf a2), (3, .int x3)] [.int o196.1, .int o193.1] o196.2 _
        refine g_icmp_eq C (tgt := 980) dL_law_883 (by decide) (fun h197 => ?_) (fun h197 => ?_)
        · refine g_iinc1 C dL_law_980 3 rfl (by decide) (by decide) (fun y198 => ?_)
          refine g_lveq (lv2 := [(3, .int y198), (0, va_rf (some b)), (1, va_rf a1), (2, va_rf a2)]) (by first | rfl | simp [va_rf_cat, vi_cat, vl_cat]) ?_
          refine g_goto C (tgt := 18) dL_law_983 (by decide) ?_
          exact g_sub (lv2 := [(0, va_rf (some b)), (1, va_rf a1), (2, va_rf a2), (3, .int y198)]) [1, 2, 3, 0] rfl (ih a1 a2 y198 o196.2 cl sl (by omega) (by omega))
        · refine g_iconst C (v := (0 : Int32)) dL_law_886 (by decide) ?_
          exact g_zret C dL_law_887 ⟨show _ ≤ 600000 by omega, show _ ≤ 7302250 by omega⟩
      refine g_ite (fun h199 => ?_) (fun h199 => ?_)
      · refine g_tableIn C (v := 22) (off := 855) (tgt := 888) dL_law_33 h199 (by decide) (by decide) (by decide) (by decide) ?_
        refine g_aload_n C dL_law_888 rfl 1 rfl ?_
        refine g_aload_n C dL_law_889 rfl 0 rfl ?_
        refine g_iload_n C dL_law_890 rfl 3 rfl ?_
        refine g_iconst C (v := (1 : Int32)) dL_law_891 (by decide) ?_
        refine g_iadd C dL_law_892 ?_
        refine g_sld C hX dL_law_893 (fun v200 ev200 => ?_)
        refine g_aload_n C dL_law_894 rfl 0 rfl ?_
        refine g_iload_n C dL_law_895 rfl 3 rfl ?_
        refine g_iconst C (v := (2 : Int32)) dL_law_896 (by decide) ?_
        refine g_iadd C dL_law_897 ?_
        refine g_sld C hX dL_law_898 (fun v201 ev201 => ?_)
        refine g_callV C (n := 2) (ci := 10) [.int v200, .int v201] [] (m_X11_ask a1 v200 v201 S) dL_law_899 gL_law_X11_ask rfl ⟨rfl, rfl⟩ (by decide +kernel) ⟨by decide, by decide⟩ ⟨show _ ≤ 600000 by omega, show _ ≤ 7302250 by omega⟩ rfl (by decide) rfl rfl (by first | exact Nat.le_of_ble_eq_true rfl | simp [va_rf_cat, vi_cat, vl_cat]) (fun o202 eo202 => ?_)
        show G Γ cvI 4 cl sl 902 [(0, va_rf (some b)), (1, va_rf a1), (2, va_rf a2), (3, .int x3)] [.int o202.1] o202.2 _
        refine g_aload_n C dL_law_902 rfl 2 rfl ?_
        refine g_aload_n C dL_law_903 rfl 0 rfl ?_
        refine g_iload_n C dL_law_904 rfl 3 rfl ?_
        refine g_iconst C (v := (1 : Int32)) dL_law_905 (by decide) ?_
        refine g_iadd C dL_law_906 ?_
        refine g_sld C hX dL_law_907 (fun v203 ev203 => ?_)
        refine g_aload_n C dL_law_908 rfl 0 rfl ?_
        refine g_iload_n C dL_law_909 rfl 3 rfl ?_
        refine g_iconst C (v := (2 : Int32)) dL_law_910 (by decide) ?_
        refine g_iadd C dL_law_911 ?_
        refine g_sld C hX dL_law_912 (fun v204 ev204 => ?_)
        refine g_callV C (n := 2) (ci := 11) [.int v203, .int v204] [.int o202.1] (m_X12_ask a2 v203 v204 o202.2) dL_law_913 gL_law_X12_ask rfl ⟨rfl, rfl⟩ (by decide +kernel) ⟨by decide, by decide⟩ ⟨show _ ≤ 600000 by omega, show _ ≤ 7302250 by omega⟩ rfl (by decide) rfl rfl (by first | exact Nat.le_of_ble_eq_true rfl | simp [va_rf_cat, vi_cat, vl_cat]) (fun o205 eo205 => ?_)
        show G Γ cvI 4 cl sl 916 [(0, va_rf (some b)), (1, va_rf a1), (2, va_rf a2), (3, .int x3)] [.int o205.1, .int o202.1] o205.2 _
        refine g_icmp_eq C (tgt := 980) dL_law_916 (by decide) (fun h206 => ?_) (fun h206 => ?_)
        · refine g_iinc1 C dL_law_980 3 rfl (by decide) (by decide) (fun y207 => ?_)
          refine g_lveq (lv2 := [(3, .int y207), (0, va_rf (some b)), (1, va_rf a1), (2, va_rf a2)]) (by first | rfl | simp [va_rf_cat, vi_cat, vl_cat]) ?_
          refine g_goto C (tgt := 18) dL_law_983 (by decide) ?_
          exact g_sub (lv2 := [(0, va_rf (some b)), (1, va_rf a1), (2, va_rf a2), (3, .int y207)]) [1, 2, 3, 0] rfl (ih a1 a2 y207 o205.2 cl sl (by omega) (by omega))
        · refine g_iconst C (v := (0 : Int32)) dL_law_919 (by decide) ?_
          exact g_zret C dL_law_920 ⟨show _ ≤ 600000 by omega, show _ ≤ 7302250 by omega⟩
      refine g_ite (fun h208 => ?_) (fun h208 => ?_)
      · refine g_tableIn C (v := 23) (off := 888) (tgt := 921) dL_law_33 h208 (by decide) (by decide) (by decide) (by decide) ?_
        refine g_aload_n C dL_law_921 rfl 1 rfl ?_
        refine g_aload_n C dL_law_922 rfl 0 rfl ?_
        refine g_iload_n C dL_law_923 rfl 3 rfl ?_
        refine g_iconst C (v := (1 : Int32)) dL_law_924 (by decide) ?_
        refine g_iadd C dL_law_925 ?_
        refine g_sld C hX dL_law_926 (fun v209 ev209 => ?_)
        refine g_callV C (n := 1) (ci := 10) [.int v209] [] (m_X11_trace a1 v209 S) dL_law_927 gL_law_X11_trace rfl ⟨rfl, rfl⟩ (by decide +kernel) ⟨by decide, by decide⟩ ⟨show _ ≤ 600000 by omega, show _ ≤ 7302250 by omega⟩ rfl (by decide) rfl rfl (by first | exact Nat.le_of_ble_eq_true rfl | simp [va_rf_cat, vi_cat, vl_cat]) (fun o210 eo210 => ?_)
        show G Γ cvI 4 cl sl 930 [(0, va_rf (some b)), (1, va_rf a1), (2, va_rf a2), (3, .int x3)] [.int o210.1] o210.2 _
        refine g_aload_n C dL_law_930 rfl 2 rfl ?_
        refine g_aload_n C dL_law_931 rfl 0 rfl ?_
        refine g_iload_n C dL_law_932 rfl 3 rfl ?_
        refine g_iconst C (v := (1 : Int32)) dL_law_933 (by decide) ?_
        refine g_iadd C dL_law_934 ?_
        refine g_sld C hX dL_law_935 (fun v211 ev211 => ?_)
        refine g_callV C (n := 1) (ci := 11) [.int v211] [.int o210.1] (m_X12_trace a2 v211 o210.2) dL_law_936 gL_law_X12_trace rfl ⟨rfl, rfl⟩ (by decide +kernel) ⟨by decide, by decide⟩ ⟨show _ ≤ 600000 by omega, show _ ≤ 7302250 by omega⟩ rfl (by decide) rfl rfl (by first | exact Nat.le_of_ble_eq_true rfl | simp [va_rf_cat, vi_cat, vl_cat]) (fun o212 eo212 => ?_)
        show G Γ cvI 4 cl sl 939 [(0, va_rf (some b)), (1, va_rf a1), (2, va_rf a2), (3, .int x3)] [.int o212.1, .int o210.1] o212.2 _
        refine g_icmp_eq C (tgt := 980) dL_law_939 (by decide) (fun h213 => ?_) (fun h213 => ?_)
        · refine g_iinc1 C dL_law_980 3 rfl (by decide) (by decide) (fun y214 => ?_)
          refine g_lveq (lv2 := [(3, .int y214), (0, va_rf (some b)), (1, va_rf a1), (2, va_rf a2)]) (by first | rfl | simp [va_rf_cat, vi_cat, vl_cat]) ?_
          refine g_goto C (tgt := 18) dL_law_983 (by decide) ?_
          exact g_sub (lv2 := [(0, va_rf (some b)), (1, va_rf a1), (2, va_rf a2), (3, .int y214)]) [1, 2, 3, 0] rfl (ih a1 a2 y214 o212.2 cl sl (by omega) (by omega))
        · refine g_iconst C (v := (0 : Int32)) dL_law_942 (by decide) ?_
          exact g_zret C dL_law_943 ⟨show _ ≤ 600000 by omega, show _ ≤ 7302250 by omega⟩
      refine g_ite (fun h215 => ?_) (fun h215 => ?_)
      · refine g_tableIn C (v := 24) (off := 911) (tgt := 944) dL_law_33 h215 (by decide) (by decide) (by decide) (by decide) ?_
        refine g_aload_n C dL_law_944 rfl 1 rfl ?_
        refine g_aload_n C dL_law_945 rfl 0 rfl ?_
        refine g_iload_n C dL_law_946 rfl 3 rfl ?_
        refine g_iconst C (v := (1 : Int32)) dL_law_947 (by decide) ?_
        refine g_iadd C dL_law_948 ?_
        refine g_sld C hX dL_law_949 (fun v216 ev216 => ?_)
        refine g_callV C (n := 1) (ci := 10) [.int v216] [] (m_X11_count a1 v216 S) dL_law_950 gL_law_X11_count rfl ⟨rfl, rfl⟩ (by decide +kernel) ⟨by decide, by decide⟩ ⟨show _ ≤ 600000 by omega, show _ ≤ 7302250 by omega⟩ rfl (by decide) rfl rfl (by first | exact Nat.le_of_ble_eq_true rfl | simp [va_rf_cat, vi_cat, vl_cat]) (fun o217 eo217 => ?_)
        show G Γ cvI 4 cl sl 953 [(0, va_rf (some b)), (1, va_rf a1), (2, va_rf a2), (3, .int x3)] [.int o217.1] o217.2 _
        refine g_aload_n C dL_law_953 rfl 2 rfl ?_
        refine g_aload_n C dL_law_954 rfl 0 rfl ?_
        refine g_iload_n C dL_law_955 rfl 3 rfl ?_
        refine g_iconst C (v := (1 : Int32)) dL_law_956 (by decide) ?_
        refine g_iadd C dL_law_957 ?_
        refine g_sld C hX dL_law_958 (fun v218 ev218 => ?_)
        refine g_callV C (n := 1) (ci := 11) [.int v218] [.int o217.1] (m_X12_count a2 v218 o217.2) dL_law_959 gL_law_X12_count rfl ⟨rfl, rfl⟩ (by decide +kernel) ⟨by decide, by decide⟩ ⟨show _ ≤ 600000 by omega, show _ ≤ 7302250 by omega⟩ rfl (by decide) rfl rfl (by first | exact Nat.le_of_ble_eq_true rfl | simp [va_rf_cat, vi_cat, vl_cat]) (fun o219 eo219 => ?_)
        show G Γ cvI 4 cl sl 962 [(0, va_rf (some b)), (1, va_rf a1), (2, va_rf a2), (3, .int x3)] [.int o219.1, .int o217.1] o219.2 _
        refine g_icmp_eq C (tgt := 980) dL_law_962 (by decide) (fun h220 => ?_) (fun h220 => ?_)
        · refine g_iinc1 C dL_law_980 3 rfl (by decide) (by decide) (fun y221 => ?_)
          refine g_lveq (lv2 := [(3, .int y221), (0, va_rf (some b)), (1, va_rf a1), (2, va_rf a2)]) (by first | rfl | simp [va_rf_cat, vi_cat, vl_cat]) ?_
          refine g_goto C (tgt := 18) dL_law_983 (by decide) ?_
          exact g_sub (lv2 := [(0, va_rf (some b)), (1, va_rf a1), (2, va_rf a2), (3, .int y221)]) [1, 2, 3, 0] rfl (ih a1 a2 y221 o219.2 cl sl (by omega) (by omega))
        · refine g_iconst C (v := (0 : Int32)) dL_law_965 (by decide) ?_
          exact g_zret C dL_law_966 ⟨show _ ≤ 600000 by omega, show _ ≤ 7302250 by omega⟩
      refine g_ite (fun h222 => ?_) (fun h222 => ?_)
      · refine g_tableIn C (v := 25) (off := 934) (tgt := 967) dL_law_33 h222 (by decide) (by decide) (by decide) (by decide) ?_
        refine g_aload_n C dL_law_967 rfl 1 rfl ?_
        refine g_callV C (n := 0) (ci := 10) [] [] (m_X11_status a1 S) dL_law_968 gL_law_X11_status rfl ⟨rfl, rfl⟩ (by decide +kernel) ⟨by decide, by decide⟩ ⟨show _ ≤ 600000 by omega, show _ ≤ 7302250 by omega⟩ rfl (by decide) rfl rfl (by first | exact Nat.le_of_ble_eq_true rfl | simp [va_rf_cat, vi_cat, vl_cat]) (fun o223 eo223 => ?_)
        show G Γ cvI 4 cl sl 971 [(0, va_rf (some b)), (1, va_rf a1), (2, va_rf a2), (3, .int x3)] [.int o223.1] o223.2 _
        refine g_aload_n C dL_law_971 rfl 2 rfl ?_
        refine g_callV C (n := 0) (ci := 11) [] [.int o223.1] (m_X12_status a2 o223.2) dL_law_972 gL_law_X12_status rfl ⟨rfl, rfl⟩ (by decide +kernel) ⟨by decide, by decide⟩ ⟨show _ ≤ 600000 by omega, show _ ≤ 7302250 by omega⟩ rfl (by decide) rfl rfl (by first | exact Nat.le_of_ble_eq_true rfl | simp [va_rf_cat, vi_cat, vl_cat]) (fun o224 eo224 => ?_)
        show G Γ cvI 4 cl sl 975 [(0, va_rf (some b)), (1, va_rf a1), (2, va_rf a2), (3, .int x3)] [.int o224.1, .int o223.1] o224.2 _
        refine g_icmp_eq C (tgt := 980) dL_law_975 (by decide) (fun h225 => ?_) (fun h225 => ?_)
        · refine g_iinc1 C dL_law_980 3 rfl (by decide) (by decide) (fun y226 => ?_)
          refine g_lveq (lv2 := [(3, .int y226), (0, va_rf (some b)), (1, va_rf a1), (2, va_rf a2)]) (by first | rfl | simp [va_rf_cat, vi_cat, vl_cat]) ?_
          refine g_goto C (tgt := 18) dL_law_983 (by decide) ?_
          exact g_sub (lv2 := [(0, va_rf (some b)), (1, va_rf a1), (2, va_rf a2), (3, .int y226)]) [1, 2, 3, 0] rfl (ih a1 a2 y226 o224.2 cl sl (by omega) (by omega))
        · refine g_iconst C (v := (0 : Int32)) dL_law_978 (by decide) ?_
          exact g_zret C dL_law_979 ⟨show _ ≤ 600000 by omega, show _ ≤ 7302250 by omega⟩
      refine g_tableOut C (tgt := 980) dL_law_33 (by have n0 := sw_n (k := 0) (by decide) h3; have n1 := sw_n (k := 1) (by decide) h14; have n2 := sw_n (k := 2) (by decide) h25; have n3 := sw_n (k := 3) (by decide) h40; have n4 := sw_n (k := 4) (by decide) h47; have n5 := sw_n (k := 5) (by decide) h58; have n6 := sw_n (k := 6) (by decide) h69; have n7 := sw_n (k := 7) (by decide) h78; have n8 := sw_n (k := 8) (by decide) h83; have n9 := sw_n (k := 9) (by decide) h92; have n10 := sw_n (k := 10) (by decide) h101; have n11 := sw_n (k := 11) (by decide) h116; have n12 := sw_n (k := 12) (by decide) h123; have n13 := sw_n (k := 13) (by decide) h128; have n14 := sw_n (k := 14) (by decide) h137; have n15 := sw_n (k := 15) (by decide) h144; have n16 := sw_n (k := 16) (by decide) h153; have n17 := sw_n (k := 17) (by decide) h164; have n18 := sw_n (k := 18) (by decide) h169; have n19 := sw_n (k := 19) (by decide) h174; have n20 := sw_n (k := 20) (by decide) h183; have n21 := sw_n (k := 21) (by decide) h190; have n22 := sw_n (k := 22) (by decide) h199; have n23 := sw_n (k := 23) (by decide) h208; have n24 := sw_n (k := 24) (by decide) h215; have n25 := sw_n (k := 25) (by decide) h222; omega) (by decide) ?_
      refine g_iinc1 C dL_law_980 3 rfl (by decide) (by decide) (fun y227 => ?_)
      refine g_lveq (lv2 := [(3, .int y227), (0, va_rf (some b)), (1, va_rf a1), (2, va_rf a2)]) (by first | rfl | simp [va_rf_cat, vi_cat, vl_cat]) ?_
      refine g_goto C (tgt := 18) dL_law_983 (by decide) ?_
      exact g_sub (lv2 := [(0, va_rf (some b)), (1, va_rf a1), (2, va_rf a2), (3, .int y227)]) [1, 2, 3, 0] rfl (ih a1 a2 y227 S cl sl (by omega) (by omega))
set_option maxHeartbeats 16000000 in
set_option maxRecDepth 100000 in
theorem law_G {Γ : Cx} {b L : Nat} {xs : Nat → Int32} (C : CF Γ cL_law 4 (some .boolean) wsL_law RL room_1 600000 7302250) (hX : XS Γ b L xs) (S : St) : G Γ cvI 4 0 0 0 [(0, va_rf (some b))] [] S (f_L_law b L xs S) := by
  unfold f_L_law
  refine g_new C (ci := 10) (ty0 := tyX11) dL_law_0 rfl (by decide) tyX11_ok (by decide +kernel) ulL_law_X11 (by decide +kernel) (by decide +kernel) (by decide +kernel) ⟨by decide, by decide⟩ (fun S1 => ?_)
  show G Γ cvI 4 1 7 3 [(0, va_rf (some b))] [va_rf (some S.2.2.2)] S1 _
  refine g_dupr C dL_law_3 ?_
  refine g_callI C (n := 0) [] [va_rf (some S.2.2.2)] (m_X11_init S.2.2.2 S1) dL_law_4 gL_law_X11_init rfl ⟨rfl, rfl⟩ (by decide +kernel) (by decide +kernel) (by decide +kernel) rfl (by decide +kernel) ⟨by decide, by decide⟩ ⟨by decide, by decide⟩ rfl rfl (by first | exact Nat.le_of_ble_eq_true rfl | simp [va_rf_cat, vi_cat, vl_cat]) (fun o2 eo2 => ?_)
  show G Γ cvI 4 82 15150 7 [(0, va_rf (some b))] [va_rf (some S.2.2.2)] o2 _
  refine g_astore_n C (i := 1) (lv2 := [(1, va_rf (some S.2.2.2)), (0, va_rf (some b))]) dL_law_7 rfl (by decide) (by first | rfl | simp [va_rf_cat, vi_cat, vl_cat]) ?_
  refine g_new C (ci := 11) (ty0 := tyX12) dL_law_8 rfl (by decide) tyX12_ok (by decide +kernel) ulL_law_X12 (by decide +kernel) (by decide +kernel) (by decide +kernel) ⟨by decide, by decide⟩ (fun S3 => ?_)
  show G Γ cvI 4 83 15192 11 [(1, va_rf (some S.2.2.2)), (0, va_rf (some b))] [va_rf (some o2.2.2.2)] S3 _
  refine g_dupr C dL_law_11 ?_
  refine g_callI C (n := 0) [] [va_rf (some o2.2.2.2)] (m_X12_init o2.2.2.2 S3) dL_law_12 gL_law_X12_init rfl ⟨rfl, rfl⟩ (by decide +kernel) (by decide +kernel) (by decide +kernel) rfl (by decide +kernel) ⟨by decide, by decide⟩ ⟨by decide, by decide⟩ rfl rfl (by first | exact Nat.le_of_ble_eq_true rfl | simp [va_rf_cat, vi_cat, vl_cat]) (fun o4 eo4 => ?_)
  show G Γ cvI 4 106 32335 15 [(1, va_rf (some S.2.2.2)), (0, va_rf (some b))] [va_rf (some o2.2.2.2)] o4 _
  refine g_astore_n C (i := 2) (lv2 := [(2, va_rf (some o2.2.2.2)), (1, va_rf (some S.2.2.2)), (0, va_rf (some b))]) dL_law_15 rfl (by decide) (by first | rfl | simp [va_rf_cat, vi_cat, vl_cat]) ?_
  refine g_iconst C (v := (0 : Int32)) dL_law_16 (by decide) ?_
  refine g_istore_n C (i := 3) (lv2 := [(3, .int (0 : Int32)), (2, va_rf (some o2.2.2.2)), (1, va_rf (some S.2.2.2)), (0, va_rf (some b))]) dL_law_17 rfl (by decide) (by first | rfl | simp [va_rf_cat, vi_cat, vl_cat]) ?_
  exact g_sub (lv2 := [(0, va_rf (some b)), (1, va_rf (some S.2.2.2)), (2, va_rf (some o2.2.2.2)), (3, .int (0 : Int32))]) [3, 2, 1, 0] rfl (t_L_law_18 C hX FU (some S.2.2.2) (some o2.2.2.2) (0 : Int32) o4 106 32335 (by decide) (by decide))
