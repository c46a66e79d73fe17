section B4
variable {z h k n m t q : Nat} {K : Nat → Nat × Nat} {I J : Nat → Nat → Int32} {R : Nat → Nat → Option Nat} {w : Nat}
theorem tu_at (hs : RStrokes z h K J R) (h8 : h ≤ 8) {t : Nat} (ht : t < 2 * h) (hn : RStroke z K J R (t / 2) n) : J (z + 87) (8 * (t / 2) + pt (nI (t % 2)) n 0) = tuX z J t ∧ J (z + 88) (8 * (t / 2) + pt (nI (t % 2)) n 0) = tuY z J t ∧ J (z + 87) (8 * (t / 2) + pt (nI (t % 2)) n (n - 1)) = tuX z J (tuO t) ∧ J (z + 88) (8 * (t / 2) + pt (nI (t % 2)) n (n - 1)) = tuY z J (tuO t) := by
  have hn1 := hn.1
  have hn8 := hn.2.1
  have h86 := hn.2.2.1
  have hO2 : tuO t / 2 = t / 2 := by unfold tuO; split <;> omega
  have hOm : tuO t % 2 = 1 - t % 2 := by unfold tuO; split <;> omega
  have p0 : pt (nI (t % 2)) n 0 = if t % 2 = 0 then 0 else n - 1 := by
    unfold pt
    by_cases c : t % 2 = 0
    · rw [c, if_pos rfl, if_pos (by decide)]
    · rw [if_neg c, if_neg (nI_ne0 (by omega) (by omega))]; rfl
  have p1 : pt (nI (t % 2)) n (n - 1) = if (1 - t % 2) = 0 then 0 else n - 1 := by
    unfold pt
    by_cases c : t % 2 = 0
    · rw [c, if_pos (show nI 0 = 0 from rfl), if_neg (show ¬ (1 - 0 = 0) by decide)]
    · rw [if_neg (nI_ne0 (by omega) (by omega)), if_pos (by omega)]; omega
  unfold tuX tuY
  rw [hO2, hOm, h86, nI_clamp (by omega), p0, p1]
  exact ⟨rfl, rfl, rfl, rfl⟩
theorem bw_M (hS : Shp z K R) (h8 : h ≤ 8) (hs : RStrokes z h K J R) {t u : Nat} (ht : t < 2 * h) (hu : u < 2 * h) : f_X12_between (some (z + 82)) (nI (t / 2)) (nI (t % 2)) (nI (u / 2)) (nI (u % 2)) (K, J, R, w) = some (nI (tC z J t u), K, J, R, w) := by
  obtain ⟨n, hn⟩ := hs.2.2 (t / 2) (by omega)
  obtain ⟨n', hn'⟩ := hs.2.2 (u / 2) (by omega)
  obtain ⟨_, _, a3, a4⟩ := tu_at hs h8 ht hn
  obtain ⟨b1, b2, _, _⟩ := tu_at hs h8 hu hn'
  rw [btw_M hS h8 hs (nI (t % 2)) (nI (u % 2)) (show t / 2 < h by omega) (show u / 2 < h by omega) hn hn', a3, a4, b1, b2, (tC_n hs ht hu).1]
theorem to_Mt (hS : Shp z K R) (h8 : h ≤ 8) (hs : RStrokes z h K J R) {t : Nat} (ht : t < 2 * h) : f_X12_toStart (some (z + 82)) (nI (t / 2)) (nI (t % 2)) (K, J, R, w) = some (nI (tE z J t), K, J, R, w) := by
  obtain ⟨n, hn⟩ := hs.2.2 (t / 2) (by omega)
  obtain ⟨_, _, a3, a4⟩ := tu_at hs h8 ht hn
  rw [to_M hS h8 hs (nI (t % 2)) (show t / 2 < h by omega) hn, a3, a4, (tE_n hs ht).1]
theorem fr_Mt (hS : Shp z K R) (h8 : h ≤ 8) (hs : RStrokes z h K J R) {u : Nat} (hu : u < 2 * h) : f_X12_fromStart (some (z + 82)) (nI (u / 2)) (nI (u % 2)) (K, J, R, w) = some (nI (oC z J none u), K, J, R, w) := by
  obtain ⟨n, hn⟩ := hs.2.2 (u / 2) (by omega)
  obtain ⟨a1, a2, _, _⟩ := tu_at hs h8 hu hn
  rw [from_M hS h8 hs (nI (u % 2)) (show u / 2 < h by omega) hn, a1, a2]
  have := (oC_n (o := none) hs trivial hu).1
  simp only [oX, oY] at this
  rw [this]
theorem nNO {l : Nat} (h : l ≤ 100000) : ¬ nI l = (-1000000 : Int32) := fun e => by
  have := congrArg Int32.toInt e
  rw [nI_toInt (by omega), show (-1000000 : Int32).toInt = -1000000 by decide] at this
  omega
def r3 (s : Int32) : Option (Nat × Nat) → Int32
  | none => s
  | some (_, l) => nI l
theorem r3_n {s : Int32} : r3 s none = s := rfl
theorem r3_s {s : Int32} {b l : Nat} : r3 s (some (b, l)) = nI l := rfl
theorem bm_M1 (hS : Shp z K R) (h8 : h ≤ 8) (hs : RStrokes z h K J R) {l m : Nat} (hl : l < 2 ^ h) (hm : m < 2 * h) {V : Nat → Nat} (hV : ∀ u, u < 2 * h → l.testBit (u / 2) = true → J (z + 91) (16 * (l - 2 ^ (u / 2)) + u) = nI (V u)) (hb : ∀ u, u < 2 * h → V u ≤ 9000) {s : Int32} (hs0 : ∀ u, u < 2 * h → l.testBit (u / 2) = true → s = -1000000) (rc17 : Option Nat → Int32 → St → Option (Int32 × St)) (rc29 : Option Nat → Int32 → Int32 → St → Option (Int32 × St)) : ∀ fu n, n ≤ 2 * h → 2 * h < fu + n → b_X12_best_62 rc17 rc29 fu (some (z + 82)) (nI l) (nI m) (r3 s (mnF (fun u => l.testBit (u / 2)) (fun u => tC z J m u + V u) n)) (nI n) (K, J, R, w) = b_X12_best_152 rc17 rc29 (some (z + 82)) (nI l) (nI m) (r3 s (mnF (fun u => l.testBit (u / 2)) (fun u => tC z J m u + V u) (2 * h))) (K, J, R, w) := by
  have p2 := p256 h8
  have hl2 : l < 256 := by omega
  intro fu
  induction fu with
  | zero => intro n a b; omega
  | succ fu ih =>
    intro n a b
    rw [b_X12_best_62, gI_t (k82 hS), Option.bind_some, hs.2.1, ix2]
    by_cases e : n = 2 * h
    · subst e
      rw [if_pos (nI_le (Nat.le_refl _) (by omega))]
    · have hn : n < 2 * h := by omega
      have ih' := ih (n + 1) (by omega) (by omega)
      rw [if_neg (nI_ge hn (by omega)), dv2 (show n ≤ 1000 by omega), Option.bind_some, bt1 l hl2 (n / 2) (by omega)]
      by_cases c1 : l.testBit (n / 2) = true
      · have tcn := (tC_n hs hm hn).2
        have vb := hb n hn
        have hpw := Nat.two_pow_pos (n / 2)
        have ei : (16 : Int32) * nI (l - 2 ^ (n / 2)) + nI n = nI (16 * (l - 2 ^ (n / 2)) + n) := by
          rw [show (16 : Int32) * nI (l - 2 ^ (n / 2)) = nI (16 * (l - 2 ^ (n / 2))) from pk_mul 16 _, nI_add]
        rw [if_pos c1, if_pos rfl, dv2 (show m ≤ 1000 by omega), Option.bind_some, rm2 (show m ≤ 1000 by omega), Option.bind_some, Option.bind_some, rm2 (show n ≤ 1000 by omega), Option.bind_some, cK_t (k82 hS), bw_M hS h8 hs hm hn, Option.bind_some, gR_t (k82 hS), Option.bind_some, rz82_11 hS, Option.bind_some, bt3 l hl2 (n / 2) (by omega) c1, ei, aI_t (kz91 hS) (show 16 * (l - 2 ^ (n / 2)) + n < 4096 by omega) (by decide), Option.bind_some, hV n hn c1]
        unfold lt1
        try dsimp only
        rw [nI_add]
        cases hmm : mnF (fun u => l.testBit (u / 2)) (fun u => tC z J m u + V u) n with
        | none =>
          rw [mn_t0 (p := fun u => l.testBit (u / 2)) c1 hmm, r3_s] at ih'
          rw [r3_n, if_pos (hs0 n hn c1)]
          unfold b_X12_best_139 b_X12_best_145 b_X12_best_146 lt1
          rw [nI_1]
          exact ih'
        | some o =>
          obtain ⟨b', l'⟩ := o
          obtain ⟨x1, x2, x3⟩ := mn_p n hmm
          have x3 : l' = tC z J m b' + V b' := x3
          have := (tC_n hs hm (show b' < 2 * h by omega)).2
          have := hb b' (by omega)
          rw [r3_s, if_neg (nNO (show l' ≤ 100000 by omega))]
          by_cases c2 : tC z J m n + V n < l'
          · rw [mn_t1 (p := fun u => l.testBit (u / 2)) c1 hmm c2, r3_s] at ih'
            rw [if_neg (nI_ge c2 (by omega))]
            unfold b_X12_best_139 b_X12_best_145 b_X12_best_146 lt1
            rw [nI_1]
            exact ih'
          · rw [mn_t2 hmm c2, r3_s] at ih'
            rw [if_pos (nI_le (by omega) (by omega))]
            unfold b_X12_best_145 b_X12_best_146 lt1
            rw [nI_1]
            exact ih'
      · have c0 : l.testBit (n / 2) = false := by simpa using c1
        rw [mn_f (p := fun u => l.testBit (u / 2)) c0] at ih'
        rw [if_neg c1, if_neg (show ¬ (0 : Int32) = 1 by decide)]
        unfold b_X12_best_146 lt1
        try dsimp only
        rw [nI_1]
        exact ih'
/-- the reference's least ways, for the sets below l -/
def GM (z h : Nat) (I : Nat → Nat → Int32) (l : Nat) (J : Nat → Nat → Int32) : Prop := (∀ o q, o ≠ 91 → J (z + o) q = I (z + o) q) ∧ ∀ l', l' < l → ∀ m, m < 2 * h → J (z + 91) (16 * l' + m) = nI (WlF (2 * h) (tC z I) (tE z I) (rmB h (2 ^ h - 1 - l')) (2 ^ h - 1 - l') m)
theorem GM.V (h8 : h ≤ 8) {l l0 : Nat} (hl : l < 2 ^ h) (hg : GM z h I l0 J) (h0 : l ≤ l0) {u : Nat} (hu : u < 2 * h) (c : l.testBit (u / 2) = true) : J (z + 91) (16 * (l - 2 ^ (u / 2)) + u) = nI (VV z h I (2 ^ h - 1 - l) u) := by
  have hge := Nat.ge_two_pow_of_testBit c
  have hp := Nat.two_pow_pos (u / 2)
  rw [hg.2 (l - 2 ^ (u / 2)) (by omega) u hu, bt7 h (by omega) l hl (u / 2) (by omega) c]
  rfl
theorem bm_M2 (hS : Shp z K R) (h8 : h ≤ 8) (hs : RStrokes z h K I R) {l : Nat} (hl : l < 2 ^ h) (rc17 : Option Nat → Int32 → St → Option (Int32 × St)) : ∀ fu m (J : Nat → Nat → Int32), m ≤ 2 * h → 2 * h < fu + m → GM z h I l J → (∀ j, j < m → J (z + 91) (16 * l + j) = nI (WlF (2 * h) (tC z I) (tE z I) (rmB h (2 ^ h - 1 - l)) (2 ^ h - 1 - l) j)) → ∃ A, b_X12_best_29 rc17 fu (some (z + 82)) (nI l) (nI m) (K, J, R, w) = rc17 (some (z + 82)) (nI (l + 1)) (K, A, R, w) ∧ GM z h I (l + 1) A := by
  have p2 := p256 h8
  have hg : 2 ^ h - 1 - l < 2 ^ h := by omega
  intro fu
  induction fu with
  | zero => intro m J a b; omega
  | succ fu ih =>
    intro m J a b hG hJ
    have hsJ : RStrokes z h K J R := hs.fr fun o q p => by unfold fpStrokes at p; exact hG.1 o q (by omega)
    have eX : tuX z J = tuX z I := tuX_fr (funext fun j => hG.1 86 j (by omega)) (funext fun j => hG.1 87 j (by omega))
    have eY : tuY z J = tuY z I := tuY_fr (funext fun j => hG.1 86 j (by omega)) (funext fun j => hG.1 88 j (by omega))
    have eC := tC_fr eX eY
    have eE := tE_fr eX eY
    rw [b_X12_best_29, gI_t (k82 hS), Option.bind_some, hsJ.2.1, ix2]
    by_cases e : m = 2 * h
    · subst e
      rw [if_pos (nI_le (Nat.le_refl _) (by omega))]
      refine ⟨J, ?_, hG.1, fun l' h1 m hm => ?_⟩
      · unfold b_X12_best_170 lt1
        try dsimp only
        rw [nI_1]
      · by_cases el : l' = l
        · subst el; exact hJ m hm
        · exact hG.2 l' (by omega) m hm
    · have hm : m < 2 * h := by omega
      rw [if_neg (nI_ge hm (by omega))]
      have hW := Wl_eq h8 hg (tC z I) (tE z I) m
      have hmn : mnF (fun u => !(2 ^ h - 1 - l).testBit (u / 2)) (fun u => tC z I m u + WlF (2 * h) (tC z I) (tE z I) (rmB h ((2 ^ h - 1 - l) ||| 2 ^ (u / 2))) ((2 ^ h - 1 - l) ||| 2 ^ (u / 2)) u) (2 * h) = mnF (fun u => l.testBit (u / 2)) (fun u => tC z J m u + VV z h I (2 ^ h - 1 - l) u) (2 * h) := by
        rw [eC]
        exact mn_c (2 * h) (fun u hu => by rw [bt8 h (by omega) l hl (u / 2) (by omega)]; simp) (fun u hu _ => rfl)
      rw [hmn] at hW
      obtain ⟨s, hsd⟩ : ∃ s : Int32, s = if l = 0 then nI (tE z I m) else -1000000 := ⟨_, rfl⟩
      have rW : r3 s (mnF (fun u => l.testBit (u / 2)) (fun u => tC z J m u + VV z h I (2 ^ h - 1 - l) u) (2 * h)) = nI (WlF (2 * h) (tC z I) (tE z I) (rmB h (2 ^ h - 1 - l)) (2 ^ h - 1 - l) m) := by
        rw [hW]
        cases hmm : mnF (fun u => l.testBit (u / 2)) (fun u => tC z J m u + VV z h I (2 ^ h - 1 - l) u) (2 * h) with
        | none =>
          by_cases l0 : l = 0
          · rw [r3_n, hsd, if_pos l0]
          · obtain ⟨i, hi, hb⟩ := bt12 h (by omega) l hl (by omega)
            have := mn_n (2 * h) hmm (2 * i) (by omega)
            rw [show 2 * i / 2 = i by omega, hb] at this
            exact absurd this (by simp)
        | some o => obtain ⟨b', l'⟩ := o; rfl
      have s1 := bm_M1 (w := w) hS h8 hsJ hl hm (V := VV z h I (2 ^ h - 1 - l)) (fun u hu c => hG.V h8 hl (Nat.le_refl l) hu c) (fun u hu => VV_le h8 hs hu) (s := s) (fun u hu c => by
        rw [hsd, if_neg]
        intro l0
        rw [l0, Nat.zero_testBit] at c
        exact absurd c (by simp)) rc17 (b_X12_best_29 rc17 fu) FU 0 (by omega) (by unfold FU; omega)
      rw [rW, show nI 0 = 0 from rfl] at s1
      have ei : (16 : Int32) * nI l + nI m = nI (16 * l + m) := by
        rw [show (16 : Int32) * nI l = nI (16 * l) from pk_mul 16 _, nI_add]
      obtain ⟨A, q1, q2⟩ := ih (m + 1) (up2 J (z + 91) (16 * l + m) (nI (WlF (2 * h) (tC z I) (tE z I) (rmB h (2 ^ h - 1 - l)) (2 ^ h - 1 - l) m))) (by omega) (by omega) ⟨fun o q ho => by rw [un_1 (Or.inl ho)]; exact hG.1 o q ho, fun l' h1 j hj => by rw [un_1 (Or.inr (by omega))]; exact hG.2 l' h1 j hj⟩ (fun j hj => by
        by_cases ej : j = m
        · subst ej; rw [es]
        · rw [un_1 (Or.inr (by omega))]; exact hJ j (by omega))
      refine ⟨A, ?_, q2⟩
      have s2 : b_X12_best_152 rc17 (b_X12_best_29 rc17 fu) (some (z + 82)) (nI l) (nI m) (nI (WlF (2 * h) (tC z I) (tE z I) (rmB h (2 ^ h - 1 - l)) (2 ^ h - 1 - l) m)) (K, J, R, w) = rc17 (some (z + 82)) (nI (l + 1)) (K, A, R, w) := by
        unfold b_X12_best_152 lt1
        try dsimp only
        rw [gR_t (k82 hS), Option.bind_some, rz82_11 hS, ei, sI_t (kz91 hS) (show 16 * l + m < 4096 by omega) (by decide), Option.bind_some, nar14, nI_1]
        exact q1
      by_cases l0 : l = 0
      · rw [if_pos (show nI l = 0 by rw [l0]; rfl), dv2 (by omega), Option.bind_some, rm2 (by omega), Option.bind_some, cK_t (k82 hS), to_Mt hS h8 hsJ hm, Option.bind_some]
        unfold b_X12_best_58
        rw [hsd, if_pos l0] at s1
        rw [eE]
        exact s1.trans s2
      · rw [if_neg (nI_ne0 (by omega) (by omega))]
        unfold b_X12_best_58
        rw [hsd, if_neg l0] at s1
        exact s1.trans s2
theorem bm_M3 (hS : Shp z K R) (h8 : h ≤ 8) (hs : RStrokes z h K I R) : ∀ fu l (J : Nat → Nat → Int32), l ≤ 2 ^ h → 2 ^ h < fu + l → GM z h I l J → ∃ A, b_X12_best_17 fu (some (z + 82)) (nI l) (K, J, R, w) = b_X12_best_176 (some (z + 82)) (K, A, R, w) ∧ GM z h I (2 ^ h) A := by
  have p2 := p256 h8
  intro fu
  induction fu with
  | zero => intro l J a b; omega
  | succ fu ih =>
    intro l J a b hG
    rw [b_X12_best_17, gI_t (k82 hS), Option.bind_some, hG.1 82 5 (by omega), hs.2.1, bt4 h (by omega)]
    by_cases e : l = 2 ^ h
    · rw [← e, if_pos (nI_le (Nat.le_refl _) (by omega))]
      exact ⟨J, rfl, hG⟩
    · have hl : l < 2 ^ h := by omega
      rw [if_neg (nI_ge hl (by omega))]
      obtain ⟨A1, q1, q2⟩ := bm_M2 (w := w) hS h8 hs hl (b_X12_best_17 fu) FU 0 J (by omega) (by unfold FU; omega) hG (fun j hj => by omega)
      obtain ⟨A, r1, r2⟩ := ih (l + 1) A1 (by omega) (by omega) q2
      rw [show nI 0 = 0 from rfl] at q1
      exact ⟨A, q1.trans r1, r2⟩
def rq : Option (Nat × Nat) → Int32 × Int32
  | none => (-1000000, 0)
  | some (b, l) => (nI b, nI l)
theorem rq_n1 : (rq none).1 = -1000000 := rfl
theorem rq_n2 : (rq none).2 = 0 := rfl
theorem rq_s1 {b l : Nat} : (rq (some (b, l))).1 = nI b := rfl
theorem rq_s2 {b l : Nat} : (rq (some (b, l))).2 = nI l := rfl
def rO : Option Nat → Int32
  | none => -1000000
  | some t => nI t
theorem bp_M1 (hS : Shp z K R) (h8 : h ≤ 8) (hs : RStrokes z h K J R) {g l : Nat} (hg : g < 2 ^ h) (hlg : l = 2 ^ h - 1 - g) {o : Option Nat} (ho : oOk h o) {V : Nat → Nat} (hV : ∀ u, u < 2 * h → l.testBit (u / 2) = true → J (z + 91) (16 * (l - 2 ^ (u / 2)) + u) = nI (V u)) (hb : ∀ u, u < 2 * h → V u ≤ 9000) (s : Int32) (rc : Option Nat → Int32 → Int32 → Int32 → Int32 → St → Option (Int32 × St)) : ∀ fu n, n ≤ 2 * h → 2 * h < fu + n → b_X12_best_212 rc fu (some (z + 82)) (nI l) (rO o) s (nI k) (rq (mnF (fun u => !g.testBit (u / 2)) (fun u => oC z J o u + V u) n)).1 (rq (mnF (fun u => !g.testBit (u / 2)) (fun u => oC z J o u + V u) n)).2 (nI n) (K, J, R, w) = b_X12_best_326 rc (some (z + 82)) (nI l) s (nI k) (rq (mnF (fun u => !g.testBit (u / 2)) (fun u => oC z J o u + V u) (2 * h))).1 (rq (mnF (fun u => !g.testBit (u / 2)) (fun u => oC z J o u + V u) (2 * h))).2 (K, J, R, w) := by
  have p2 := p256 h8
  have hl : l < 2 ^ h := by omega
  have hl2 : l < 256 := by omega
  intro fu
  induction fu with
  | zero => intro n a b; omega
  | succ fu ih =>
    intro n a b
    rw [b_X12_best_212, gI_t (k82 hS), Option.bind_some, hs.2.1, ix2]
    by_cases e : n = 2 * h
    · subst e
      rw [if_pos (nI_le (Nat.le_refl _) (by omega))]
    · have hn : n < 2 * h := by omega
      have ih' := ih (n + 1) (by omega) (by omega)
      have hbit : l.testBit (n / 2) = !g.testBit (n / 2) := by rw [hlg]; exact bt8 h (by omega) g hg (n / 2) (by omega)
      rw [if_neg (nI_ge hn (by omega)), dv2 (show n ≤ 1000 by omega), Option.bind_some, bt1 l hl2 (n / 2) (by omega)]
      by_cases c1 : l.testBit (n / 2) = true
      · have c1g : g.testBit (n / 2) = false := by rw [c1] at hbit; simpa using hbit.symm
        have ocn := (oC_n hs ho hn).2
        have vb := hb n hn
        have hpw := Nat.two_pow_pos (n / 2)
        have ei : (16 : Int32) * nI (l - 2 ^ (n / 2)) + nI n = nI (16 * (l - 2 ^ (n / 2)) + n) := by
          rw [show (16 : Int32) * nI (l - 2 ^ (n / 2)) = nI (16 * (l - 2 ^ (n / 2))) from pk_mul 16 _, nI_add]
        have s274 : b_X12_best_274 rc (b_X12_best_212 rc fu) (some (z + 82)) (nI l) (rO o) s (nI k) (rq (mnF (fun u => !g.testBit (u / 2)) (fun u => oC z J o u + V u) n)).1 (rq (mnF (fun u => !g.testBit (u / 2)) (fun u => oC z J o u + V u) n)).2 (nI n) (nI (oC z J o n)) (K, J, R, w) = b_X12_best_326 rc (some (z + 82)) (nI l) s (nI k) (rq (mnF (fun u => !g.testBit (u / 2)) (fun u => oC z J o u + V u) (2 * h))).1 (rq (mnF (fun u => !g.testBit (u / 2)) (fun u => oC z J o u + V u) (2 * h))).2 (K, J, R, w) := by
          unfold b_X12_best_274 lt1
          try dsimp only
          rw [gR_t (k82 hS), Option.bind_some, rz82_11 hS, dv2 (show n ≤ 1000 by omega), Option.bind_some, bt3 l hl2 (n / 2) (by omega) c1, ei, aI_t (kz91 hS) (show 16 * (l - 2 ^ (n / 2)) + n < 4096 by omega) (by decide), Option.bind_some, hV n hn c1, nI_add]
          cases hmm : mnF (fun u => !g.testBit (u / 2)) (fun u => oC z J o u + V u) n with
          | none =>
            rw [mn_t0 (by simp [c1g]) hmm] at ih'
            rw [rq_n1, rq_n2, if_pos rfl]
            unfold b_X12_best_312 b_X12_best_320 lt1
            rw [nI_1]
            exact ih'
          | some o' =>
            obtain ⟨b', l'⟩ := o'
            obtain ⟨x1, x2, x3⟩ := mn_p n hmm
            have x3 : l' = oC z J o b' + V b' := x3
            have := (oC_n hs ho (show b' < 2 * h by omega)).2
            have := hb b' (by omega)
            rw [rq_s1, rq_s2, if_neg (nNO (show b' ≤ 100000 by omega))]
            by_cases c2 : oC z J o n + V n < l'
            · rw [mn_t1 (by simp [c1g]) hmm c2] at ih'
              rw [if_neg (nI_ge c2 (by omega))]
              unfold b_X12_best_312 b_X12_best_320 lt1
              rw [nI_1]
              exact ih'
            · rw [mn_t2 hmm c2] at ih'
              rw [if_pos (nI_le (by omega) (by omega))]
              unfold b_X12_best_320 lt1
              rw [nI_1]
              exact ih'
        rw [if_pos c1, if_pos rfl]
        cases o with
        | none =>
          rw [if_pos (show rO none = (-1000000 : Int32) from rfl), Option.bind_some, rm2 (show n ≤ 1000 by omega), Option.bind_some, cK_t (k82 hS), fr_Mt hS h8 hs hn, Option.bind_some]
          exact s274
        | some t =>
          have ht : t < 2 * h := ho
          rw [if_neg (show ¬ rO (some t) = (-1000000 : Int32) from nNO (by omega)), show rO (some t) = nI t from rfl, dv2 (show t ≤ 1000 by omega), Option.bind_some, rm2 (show t ≤ 1000 by omega), Option.bind_some, Option.bind_some, rm2 (show n ≤ 1000 by omega), Option.bind_some, cK_t (k82 hS), bw_M hS h8 hs ht hn, Option.bind_some]
          exact s274
      · have c0 : l.testBit (n / 2) = false := by simpa using c1
        rw [c0] at hbit
        rw [mn_f (p := fun u => !g.testBit (u / 2)) hbit.symm] at ih'
        rw [if_neg c1, if_neg (show ¬ (0 : Int32) = 1 by decide)]
        unfold b_X12_best_320 lt1
        try dsimp only
        rw [nI_1]
        exact ih'
theorem bp_M2 (hS : Shp z K R) (h8 : h ≤ 8) (h0 : 0 < h) (hs : RStrokes z h K I R) : ∀ fu k (J : Nat → Nat → Int32), k ≤ h → h < fu + k → (∀ o q, o ≠ 89 → o ≠ 90 → o ≠ 91 → J (z + o) q = I (z + o) q) → (∀ l', l' < 2 ^ h → ∀ m, m < 2 * h → J (z + 91) (16 * l' + m) = nI (WlF (2 * h) (tC z I) (tE z I) (rmB h (2 ^ h - 1 - l')) (2 ^ h - 1 - l') m)) → (∀ j, j < k → J (z + 89) j = nI (tnK z h I j / 2) ∧ J (z + 90) j = nI (tnK z h I j % 2)) → ∃ A, b_X12_best_193 fu (some (z + 82)) (nI (2 ^ h - 1 - (sq z h I k).1)) (rO (sq z h I k).2) (if k = 0 then 0 else nI (lnK z h I 0)) (nI k) (K, J, R, w) = some (nI (lnK z h I 0), K, A, R, w) ∧ (∀ o q, o ≠ 89 → o ≠ 90 → o ≠ 91 → A (z + o) q = I (z + o) q) ∧ ∀ j, j < h → A (z + 89) j = nI (tnK z h I j / 2) ∧ A (z + 90) j = nI (tnK z h I j % 2) := by
  have p2 := p256 h8
  intro fu
  induction fu with
  | zero => intro k J a b; omega
  | succ fu ih =>
    intro k J a b hF hG hJ
    rw [b_X12_best_193, gI_t (k82 hS), Option.bind_some, hF 82 5 (by omega) (by omega) (by omega), hs.2.1]
    by_cases e : k = h
    · subst e
      rw [if_pos (nI_le (Nat.le_refl _) (by omega)), if_neg (by omega)]
      exact ⟨J, rfl, hF, hJ⟩
    · have hk : k < h := by omega
      obtain ⟨g1, g2, g3, g4⟩ := sq_ok (z := z) (I := I) h8 k (by omega)
      obtain ⟨b1, b2, b3, b4, b5⟩ := sq_k (z := z) (I := I) h8 hk
      obtain ⟨l, hlg⟩ : ∃ l, l = 2 ^ h - 1 - (sq z h I k).1 := ⟨_, rfl⟩
      have hl : l < 2 ^ h := by omega
      have hgl : 2 ^ h - 1 - l = (sq z h I k).1 := by omega
      have hsJ : RStrokes z h K J R := hs.fr fun o q p => by unfold fpStrokes at p; exact hF o q (by omega) (by omega) (by omega)
      have eX : tuX z J = tuX z I := tuX_fr (funext fun j => hF 86 j (by omega) (by omega) (by omega)) (funext fun j => hF 87 j (by omega) (by omega) (by omega))
      have eY : tuY z J = tuY z I := tuY_fr (funext fun j => hF 86 j (by omega) (by omega) (by omega)) (funext fun j => hF 88 j (by omega) (by omega) (by omega))
      have eC : oC z J = oC z I := by
        funext o u
        unfold oC
        cases o with
        | none => simp only [oX, oY, eX, eY]
        | some t => simp only [oX, oY, eX, eY]
      have hV : ∀ u, u < 2 * h → l.testBit (u / 2) = true → J (z + 91) (16 * (l - 2 ^ (u / 2)) + u) = nI (VV z h I (sq z h I k).1 u) := fun u hu c => by
        have hp := Nat.two_pow_pos (u / 2)
        rw [hG (l - 2 ^ (u / 2)) (by omega) u hu, bt7 h (by omega) l hl (u / 2) (by omega) c, hgl]
        rfl
      have s1 := bp_M1 (w := w) (k := k) hS h8 hsJ g1 hlg g3 hV (fun u hu => VV_le h8 hs hu) (if k = 0 then 0 else nI (lnK z h I 0)) (b_X12_best_193 fu) FU 0 (by omega) (by unfold FU; omega)
      rw [eC] at s1
      have hbs : mnF (fun u => !(sq z h I k).1.testBit (u / 2)) (fun u => oC z I (sq z h I k).2 u + VV z h I (sq z h I k).1 u) (2 * h) = some (tnK z h I k, lnK z h I k) := b1
      rw [hbs, show nI 0 = 0 from rfl] at s1
      have cb : l.testBit (tnK z h I k / 2) = true := by
        rw [hlg, bt8 h (by omega) _ g1 _ (by omega), b3]; rfl
      obtain ⟨A1, hA1⟩ : ∃ A1, A1 = up2 (up2 J (z + 89) k (nI (tnK z h I k / 2))) (z + 90) k (nI (tnK z h I k % 2)) := ⟨_, rfl⟩
      obtain ⟨A, q1, q2, q3⟩ := ih (k + 1) A1 (by omega) (by omega) (fun o q p1 p2 p3 => by rw [hA1]; simp (disch := omega) only [un_1, un_2, un_3, un_4, es, up2_self]; exact hF o q p1 p2 p3) (fun l' h1 m hm => by rw [hA1]; simp (disch := omega) only [un_1, un_2, un_3, un_4, es, up2_self]; exact hG l' h1 m hm) (fun j hj => by
        by_cases ej : j = k
        · subst ej
          rw [hA1]; simp (disch := omega) only [un_1, un_2, un_3, un_4, es, up2_self]; exact ⟨trivial, trivial⟩
        · rw [hA1]; simp (disch := omega) only [un_1, un_2, un_3, un_4, es, up2_self]; exact hJ j (by omega))
      refine ⟨A, ?_, q2, q3⟩
      rw [if_neg (nI_ge hk (by omega)), ← hlg]
      refine s1.trans ?_
      have hln : l - 2 ^ (tnK z h I k / 2) = 2 ^ h - 1 - (sq z h I (k + 1)).1 := by
        rw [b5]
        have hge := Nat.ge_two_pow_of_testBit cb
        have hpw := Nat.two_pow_pos (tnK z h I k / 2)
        have hph := Nat.two_pow_pos h
        have := bt7 h (by omega) l hl (tnK z h I k / 2) (by omega) cb
        rw [hgl] at this
        show _ = 2 ^ h - 1 - ((sq z h I k).1 ||| 2 ^ (tnK z h I k / 2))
        omega
      have s337 : b_X12_best_337 (b_X12_best_193 fu) (some (z + 82)) (nI l) (nI k) (nI (tnK z h I k)) (nI (lnK z h I 0)) (K, J, R, w) = some (nI (lnK z h I 0), K, A, R, w) := by
        unfold b_X12_best_337 lt1
        try dsimp only
        rw [gR_t (k82 hS), Option.bind_some, rz82_9 hS, dv2 (by omega), Option.bind_some, sI_t (kz89 hS) (by omega) (by decide), Option.bind_some, gR_t (k82 hS), Option.bind_some, rz82_10 hS, rm2 (by omega), Option.bind_some, sI_t (kz90 hS) (by omega) (by decide), Option.bind_some, nar14, nar14, ← hA1, Option.bind_some, bt3 l (by omega) _ (by omega) cb, hln, nI_1]
        rw [if_neg (by omega), b5] at q1
        rw [b5]
        exact q1
      rw [rq_s1, rq_s2]
      unfold b_X12_best_326
      by_cases k0 : k = 0
      · subst k0
        rw [if_pos (show nI 0 = 0 from rfl)]
        exact s337
      · rw [if_neg (nI_ne0 (by omega) (by omega)), if_neg k0]
        exact s337
theorem best_M (hS : Shp z K R) (h8 : h ≤ 8) (h0 : 0 < h) (hs : RStrokes z h K I R) : ∃ A, b_X12_best_17 FU (some (z + 82)) 0 (K, I, R, w) = some (nI (lnK z h I 0), K, A, R, w) ∧ (∀ o q, o ≠ 89 → o ≠ 90 → o ≠ 91 → A (z + o) q = I (z + o) q) ∧ ∀ j, j < h → A (z + 89) j = nI (tnK z h I j / 2) ∧ A (z + 90) j = nI (tnK z h I j % 2) := by
  have p2 := p256 h8
  have p0 := Nat.two_pow_pos h
  obtain ⟨B, q1, q2⟩ := bm_M3 (w := w) hS h8 hs FU 0 I (by omega) (by unfold FU; omega) ⟨fun _ _ _ => rfl, fun l' h1 => by omega⟩
  obtain ⟨A, r1, r2, r3⟩ := bp_M2 (w := w) hS h8 h0 hs FU 0 B (by omega) (by unfold FU; omega) (fun o q p1 p2 p3 => q2.1 o q p3) q2.2 (fun j hj => by omega)
  refine ⟨A, ?_, r2, r3⟩
  rw [show nI 0 = 0 from rfl] at q1 r1
  rw [q1]
  unfold b_X12_best_176 lt1
  try dsimp only
  rw [gI_t (k82 hS), Option.bind_some, q2.1 82 5 (by omega), hs.2.1, bt4 h (by omega), show nI (2 ^ h) - 1 = nI (2 ^ h - 1) from sub_nn (b := 1) (by omega)]
  rw [if_pos rfl] at r1
  exact r1
end B4
