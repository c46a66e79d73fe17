/-- a call of both: the same answer, and they go on together -/
def Agr (Rel : St → Prop) (z : Nat) (fx fm : St → Option (Int32 × St)) : Prop := ∀ S, Rel S → ∃ r S1 S2, fx S = some (r, S1) ∧ (S1.1 (z + 82)).1 = 12 ∧ fm S1 = some (r, S2) ∧ Rel S2
theorem cK_s {β : Type} {S : St} {a ci : Nat} {f : Option β} (h : (S.1 a).1 = ci + 1) : cK S (some a) ci f = f := by simp [cK, h]
theorem scr_ok {L : Nat} {xs : Nat → Int32} {k c : Nat} (h : k + c < L) (hL : L ≤ 3072) : scr L xs (nI k + nI c) = some (xs (k + c)) := by
  rw [nI_add]
  unfold scr
  rw [if_pos (nI_in h (by omega)), nI_clamp (by omega)]
theorem scr_0 {L : Nat} {xs : Nat → Int32} {k : Nat} (h : k < L) (hL : L ≤ 3072) : scr L xs (nI k) = some (xs k) := by
  unfold scr
  rw [if_pos (nI_in h (by omega)), nI_clamp (by omega)]
set_option maxHeartbeats 8000000 in
set_option maxRecDepth 100000 in
theorem law_pure {Rel : St → Prop} {z : Nat} (hk : ∀ S, Rel S → (S.1 z).1 = 11)
    (h0 : ∀ v1 v2 v3 : Int32, Agr Rel z (f_X11_sheet (some z) v1 v2 v3) (f_X12_sheet (some (z + 82)) v1 v2 v3))
    (h1 : ∀ v1 v2 v3 : Int32, Agr Rel z (f_X11_set (some z) v1 v2 v3) (f_X12_set (some (z + 82)) v1 v2 v3))
    (h2 : ∀ v1 v2 v3 v4 v5 : Int32, Agr Rel z (f_X11_copy (some z) v1 v2 v3 v4 v5) (f_X12_copy (some (z + 82)) v1 v2 v3 v4 v5))
    (h3 : ∀ v1 : Int32, Agr Rel z (f_X11_drop (some z) v1) (f_X12_drop (some (z + 82)) v1))
    (h4 : ∀ v1 v2 v3 : Int32, Agr Rel z (f_X11_stroke (some z) v1 v2 v3) (f_X12_stroke (some (z + 82)) v1 v2 v3))
    (h5 : ∀ v1 v2 v3 : Int32, Agr Rel z (f_X11_point (some z) v1 v2 v3) (f_X12_point (some (z + 82)) v1 v2 v3))
    (h6 : ∀ v1 v2 : Int32, Agr Rel z (f_X11_plan (some z) v1 v2) (f_X12_plan (some (z + 82)) v1 v2))
    (h7 : Agr Rel z (f_X11_best (some z)) (f_X12_best (some (z + 82))))
    (h8 : ∀ v1 v2 : Int32, Agr Rel z (f_X11_order (some z) v1 v2) (f_X12_order (some (z + 82)) v1 v2))
    (h9 : ∀ v1 v2 : Int32, Agr Rel z (f_X11_rule (some z) v1 v2) (f_X12_rule (some (z + 82)) v1 v2))
    (h10 : ∀ v1 v2 v3 v4 v5 : Int32, Agr Rel z (f_X11_zone (some z) v1 v2 v3 v4 v5) (f_X12_zone (some (z + 82)) v1 v2 v3 v4 v5))
    (h11 : ∀ v1 : Int32, Agr Rel z (f_X11_open (some z) v1) (f_X12_open (some (z + 82)) v1))
    (h12 : Agr Rel z (f_X11_ticks (some z)) (f_X12_ticks (some (z + 82))))
    (h13 : ∀ v1 v2 : Int32, Agr Rel z (f_X11_tick (some z) v1 v2) (f_X12_tick (some (z + 82)) v1 v2))
    (h14 : ∀ v1 : Int32, Agr Rel z (f_X11_all (some z) v1) (f_X12_all (some (z + 82)) v1))
    (h15 : ∀ v1 v2 : Int32, Agr Rel z (f_X11_burn (some z) v1 v2) (f_X12_burn (some (z + 82)) v1 v2))
    (h16 : ∀ (w : Int64) (v1 : Int32), Agr Rel z (f_X11_feed (some z) w v1) (f_X12_feed (some (z + 82)) w v1))
    (h17 : Agr Rel z (f_X11_cues (some z)) (f_X12_cues (some (z + 82))))
    (h18 : Agr Rel z (f_X11_fault (some z)) (f_X12_fault (some (z + 82))))
    (h19 : ∀ v1 v2 : Int32, Agr Rel z (f_X11_frame (some z) v1 v2) (f_X12_frame (some (z + 82)) v1 v2))
    (h20 : ∀ v1 : Int32, Agr Rel z (f_X11_kind (some z) v1) (f_X12_kind (some (z + 82)) v1))
    (h21 : ∀ v1 v2 : Int32, Agr Rel z (f_X11_as (some z) v1 v2) (f_X12_as (some (z + 82)) v1 v2))
    (h22 : ∀ v1 v2 : Int32, Agr Rel z (f_X11_ask (some z) v1 v2) (f_X12_ask (some (z + 82)) v1 v2))
    (h23 : ∀ v1 : Int32, Agr Rel z (f_X11_trace (some z) v1) (f_X12_trace (some (z + 82)) v1))
    (h24 : ∀ v1 : Int32, Agr Rel z (f_X11_count (some z) v1) (f_X12_count (some (z + 82)) v1))
    (h25 : Agr Rel z (f_X11_status (some z)) (f_X12_status (some (z + 82))))
    {b L : Nat} {xs : Nat → Int32} (hL : L ≤ 3072) : ∀ (n k : Nat) (S : St), Rel S → L + 6 < 6 * (n + k) → 6 * k ≤ L + 6 → ∃ S2, b_L_law_18 b L xs n (some z) (some (z + 82)) (nI (6 * k)) S = some (1, S2) := by
  intro n
  induction n with
  | zero =>
    intro k S hR hu1 hu2
    exfalso
    omega
  | succ n ih =>
    intro k S hR hu1 hu2
    have nx : nI (6 * k) + 6 = nI (6 * (k + 1)) := by
      rw [show (6 : Int32) = nI 6 from rfl, nI_add]
      rfl
    rw [b_L_law_18]
    by_cases hc : L < 6 * k + 6
    · have e : (Int32.ofNat L - 6 : Int32) < nI (6 * k) := by
        rw [Int32.lt_iff_toInt_lt, nI_toInt (by omega)]
        have : (Int32.ofNat L - 6 : Int32) = nI L - nI 6 := rfl
        rw [this, pk_sub_toInt (by omega) (by omega)]
        omega
      rw [if_pos e]
      exact ⟨S, rfl⟩
    · have e : ¬ (Int32.ofNat L - 6 : Int32) < nI (6 * k) := by
        rw [Int32.lt_iff_toInt_lt, nI_toInt (by omega)]
        have : (Int32.ofNat L - 6 : Int32) = nI L - nI 6 := rfl
        rw [this, pk_sub_toInt (by omega) (by omega)]
        omega
      rw [if_neg e]
      have s0 : scr L xs (nI (6 * k)) = some (xs (6 * k)) := scr_0 (by omega) hL
      have s1 : scr L xs (nI (6 * k) + 1) = some (xs (6 * k + 1)) := scr_ok (c := 1) (by omega) hL
      have s2 : scr L xs (nI (6 * k) + 2) = some (xs (6 * k + 2)) := scr_ok (c := 2) (by omega) hL
      have s3 : scr L xs (nI (6 * k) + 3) = some (xs (6 * k + 3)) := scr_ok (c := 3) (by omega) hL
      have s4 : scr L xs (nI (6 * k) + 4) = some (xs (6 * k + 4)) := scr_ok (c := 4) (by omega) hL
      have s5 : scr L xs (nI (6 * k) + 5) = some (xs (6 * k + 5)) := scr_ok (c := 5) (by omega) hL
      have hK := hk S hR
      simp only [s0, s1, s2, s3, s4, s5, Option.bind_some, cK_s hK]
      by_cases c0 : xs (6 * k) &&& 31 = 0
      · rw [if_pos c0]
        obtain ⟨r, S1, S2, e1, e2, e3, e4⟩ := h0 _ _ _ S hR
        rw [e1, Option.bind_some, cK_s e2, e3, Option.bind_some, if_pos rfl]
        unfold lt1
        rw [nx]
        exact ih (k + 1) S2 e4 (by omega) (by omega)
      rw [if_neg c0]
      by_cases c1 : xs (6 * k) &&& 31 = 1
      · rw [if_pos c1]
        obtain ⟨r, S1, S2, e1, e2, e3, e4⟩ := h1 _ _ _ S hR
        rw [e1, Option.bind_some, cK_s e2, e3, Option.bind_some, if_pos rfl]
        unfold lt1
        rw [nx]
        exact ih (k + 1) S2 e4 (by omega) (by omega)
      rw [if_neg c1]
      by_cases c2 : xs (6 * k) &&& 31 = 2
      · rw [if_pos c2]
        obtain ⟨r, S1, S2, e1, e2, e3, e4⟩ := h2 _ _ _ _ _ S hR
        rw [e1, Option.bind_some, cK_s e2, e3, Option.bind_some, if_pos rfl]
        unfold lt1
        rw [nx]
        exact ih (k + 1) S2 e4 (by omega) (by omega)
      rw [if_neg c2]
      by_cases c3 : xs (6 * k) &&& 31 = 3
      · rw [if_pos c3]
        obtain ⟨r, S1, S2, e1, e2, e3, e4⟩ := h3 _ S hR
        rw [e1, Option.bind_some, cK_s e2, e3, Option.bind_some, if_pos rfl]
        unfold lt1
        rw [nx]
        exact ih (k + 1) S2 e4 (by omega) (by omega)
      rw [if_neg c3]
      by_cases c4 : xs (6 * k) &&& 31 = 4
      · rw [if_pos c4]
        obtain ⟨r, S1, S2, e1, e2, e3, e4⟩ := h4 _ _ _ S hR
        rw [e1, Option.bind_some, cK_s e2, e3, Option.bind_some, if_pos rfl]
        unfold lt1
        rw [nx]
        exact ih (k + 1) S2 e4 (by omega) (by omega)
      rw [if_neg c4]
      by_cases c5 : xs (6 * k) &&& 31 = 5
      · rw [if_pos c5]
        obtain ⟨r, S1, S2, e1, e2, e3, e4⟩ := h5 _ _ _ S hR
        rw [e1, Option.bind_some, cK_s e2, e3, Option.bind_some, if_pos rfl]
        unfold lt1
        rw [nx]
        exact ih (k + 1) S2 e4 (by omega) (by omega)
      rw [if_neg c5]
      by_cases c6 : xs (6 * k) &&& 31 = 6
      · rw [if_pos c6]
        obtain ⟨r, S1, S2, e1, e2, e3, e4⟩ := h6 _ _ S hR
        rw [e1, Option.bind_some, cK_s e2, e3, Option.bind_some, if_pos rfl]
        unfold lt1
        rw [nx]
        exact ih (k + 1) S2 e4 (by omega) (by omega)
      rw [if_neg c6]
      by_cases c7 : xs (6 * k) &&& 31 = 7
      · rw [if_pos c7]
        obtain ⟨r, S1, S2, e1, e2, e3, e4⟩ := h7 S hR
        rw [e1, Option.bind_some, cK_s e2, e3, Option.bind_some, if_pos rfl]
        unfold lt1
        rw [nx]
        exact ih (k + 1) S2 e4 (by omega) (by omega)
      rw [if_neg c7]
      by_cases c8 : xs (6 * k) &&& 31 = 8
      · rw [if_pos c8]
        obtain ⟨r, S1, S2, e1, e2, e3, e4⟩ := h8 _ _ S hR
        rw [e1, Option.bind_some, cK_s e2, e3, Option.bind_some, if_pos rfl]
        unfold lt1
        rw [nx]
        exact ih (k + 1) S2 e4 (by omega) (by omega)
      rw [if_neg c8]
      by_cases c9 : xs (6 * k) &&& 31 = 9
      · rw [if_pos c9]
        obtain ⟨r, S1, S2, e1, e2, e3, e4⟩ := h9 _ _ S hR
        rw [e1, Option.bind_some, cK_s e2, e3, Option.bind_some, if_pos rfl]
        unfold lt1
        rw [nx]
        exact ih (k + 1) S2 e4 (by omega) (by omega)
      rw [if_neg c9]
      by_cases c10 : xs (6 * k) &&& 31 = 10
      · rw [if_pos c10]
        obtain ⟨r, S1, S2, e1, e2, e3, e4⟩ := h10 _ _ _ _ _ S hR
        rw [e1, Option.bind_some, cK_s e2, e3, Option.bind_some, if_pos rfl]
        unfold lt1
        rw [nx]
        exact ih (k + 1) S2 e4 (by omega) (by omega)
      rw [if_neg c10]
      by_cases c11 : xs (6 * k) &&& 31 = 11
      · rw [if_pos c11]
        obtain ⟨r, S1, S2, e1, e2, e3, e4⟩ := h11 _ S hR
        rw [e1, Option.bind_some, cK_s e2, e3, Option.bind_some, if_pos rfl]
        unfold lt1
        rw [nx]
        exact ih (k + 1) S2 e4 (by omega) (by omega)
      rw [if_neg c11]
      by_cases c12 : xs (6 * k) &&& 31 = 12
      · rw [if_pos c12]
        obtain ⟨r, S1, S2, e1, e2, e3, e4⟩ := h12 S hR
        rw [e1, Option.bind_some, cK_s e2, e3, Option.bind_some, if_pos rfl]
        unfold lt1
        rw [nx]
        exact ih (k + 1) S2 e4 (by omega) (by omega)
      rw [if_neg c12]
      by_cases c13 : xs (6 * k) &&& 31 = 13
      · rw [if_pos c13]
        obtain ⟨r, S1, S2, e1, e2, e3, e4⟩ := h13 _ _ S hR
        rw [e1, Option.bind_some, cK_s e2, e3, Option.bind_some, if_pos rfl]
        unfold lt1
        rw [nx]
        exact ih (k + 1) S2 e4 (by omega) (by omega)
      rw [if_neg c13]
      by_cases c14 : xs (6 * k) &&& 31 = 14
      · rw [if_pos c14]
        obtain ⟨r, S1, S2, e1, e2, e3, e4⟩ := h14 _ S hR
        rw [e1, Option.bind_some, cK_s e2, e3, Option.bind_some, if_pos rfl]
        unfold lt1
        rw [nx]
        exact ih (k + 1) S2 e4 (by omega) (by omega)
      rw [if_neg c14]
      by_cases c15 : xs (6 * k) &&& 31 = 15
      · rw [if_pos c15]
        obtain ⟨r, S1, S2, e1, e2, e3, e4⟩ := h15 _ _ S hR
        rw [e1, Option.bind_some, cK_s e2, e3, Option.bind_some, if_pos rfl]
        unfold lt1
        rw [nx]
        exact ih (k + 1) S2 e4 (by omega) (by omega)
      rw [if_neg c15]
      by_cases c16 : xs (6 * k) &&& 31 = 16
      · rw [if_pos c16]
        obtain ⟨r, S1, S2, e1, e2, e3, e4⟩ := h16 _ _ S hR
        rw [e1, Option.bind_some, cK_s e2, e3, Option.bind_some, if_pos rfl]
        unfold lt1
        rw [nx]
        exact ih (k + 1) S2 e4 (by omega) (by omega)
      rw [if_neg c16]
      by_cases c17 : xs (6 * k) &&& 31 = 17
      · rw [if_pos c17]
        obtain ⟨r, S1, S2, e1, e2, e3, e4⟩ := h17 S hR
        rw [e1, Option.bind_some, cK_s e2, e3, Option.bind_some, if_pos rfl]
        unfold lt1
        rw [nx]
        exact ih (k + 1) S2 e4 (by omega) (by omega)
      rw [if_neg c17]
      by_cases c18 : xs (6 * k) &&& 31 = 18
      · rw [if_pos c18]
        obtain ⟨r, S1, S2, e1, e2, e3, e4⟩ := h18 S hR
        rw [e1, Option.bind_some, cK_s e2, e3, Option.bind_some, if_pos rfl]
        unfold lt1
        rw [nx]
        exact ih (k + 1) S2 e4 (by omega) (by omega)
      rw [if_neg c18]
      by_cases c19 : xs (6 * k) &&& 31 = 19
      · rw [if_pos c19]
        obtain ⟨r, S1, S2, e1, e2, e3, e4⟩ := h19 _ _ S hR
        rw [e1, Option.bind_some, cK_s e2, e3, Option.bind_some, if_pos rfl]
        unfold lt1
        rw [nx]
        exact ih (k + 1) S2 e4 (by omega) (by omega)
      rw [if_neg c19]
      by_cases c20 : xs (6 * k) &&& 31 = 20
      · rw [if_pos c20]
        obtain ⟨r, S1, S2, e1, e2, e3, e4⟩ := h20 _ S hR
        rw [e1, Option.bind_some, cK_s e2, e3, Option.bind_some, if_pos rfl]
        unfold lt1
        rw [nx]
        exact ih (k + 1) S2 e4 (by omega) (by omega)
      rw [if_neg c20]
      by_cases c21 : xs (6 * k) &&& 31 = 21
      · rw [if_pos c21]
        obtain ⟨r, S1, S2, e1, e2, e3, e4⟩ := h21 _ _ S hR
        rw [e1, Option.bind_some, cK_s e2, e3, Option.bind_some, if_pos rfl]
        unfold lt1
        rw [nx]
        exact ih (k + 1) S2 e4 (by omega) (by omega)
      rw [if_neg c21]
      by_cases c22 : xs (6 * k) &&& 31 = 22
      · rw [if_pos c22]
        obtain ⟨r, S1, S2, e1, e2, e3, e4⟩ := h22 _ _ S hR
        rw [e1, Option.bind_some, cK_s e2, e3, Option.bind_some, if_pos rfl]
        unfold lt1
        rw [nx]
        exact ih (k + 1) S2 e4 (by omega) (by omega)
      rw [if_neg c22]
      by_cases c23 : xs (6 * k) &&& 31 = 23
      · rw [if_pos c23]
        obtain ⟨r, S1, S2, e1, e2, e3, e4⟩ := h23 _ S hR
        rw [e1, Option.bind_some, cK_s e2, e3, Option.bind_some, if_pos rfl]
        unfold lt1
        rw [nx]
        exact ih (k + 1) S2 e4 (by omega) (by omega)
      rw [if_neg c23]
      by_cases c24 : xs (6 * k) &&& 31 = 24
      · rw [if_pos c24]
        obtain ⟨r, S1, S2, e1, e2, e3, e4⟩ := h24 _ S hR
        rw [e1, Option.bind_some, cK_s e2, e3, Option.bind_some, if_pos rfl]
        unfold lt1
        rw [nx]
        exact ih (k + 1) S2 e4 (by omega) (by omega)
      rw [if_neg c24]
      by_cases c25 : xs (6 * k) &&& 31 = 25
      · rw [if_pos c25]
        obtain ⟨r, S1, S2, e1, e2, e3, e4⟩ := h25 S hR
        rw [e1, Option.bind_some, cK_s e2, e3, Option.bind_some, if_pos rfl]
        unfold lt1
        rw [nx]
        exact ih (k + 1) S2 e4 (by omega) (by omega)
      rw [if_neg c25]
      unfold lt1
      rw [nx]
      exact ih (k + 1) S hR (by omega) (by omega)
