section B2
variable {z h k n m t q : Nat} {K : Nat → Nat × Nat} {I J : Nat → Nat → Int32} {R : Nat → Nat → Option Nat} {w : Nat}
/-- the class's turns are taken -/
def TB (z h : Nat) (J : Nat → Nat → Int32) : Prop := J (z + 6) 3 = nI (2 * h) ∧ ∀ t, t < 2 * h → J (z + 7) t = tuX z J t ∧ J (z + 8) t = tuY z J t
def rp : Option (Nat × Nat) → Int32 × Int32
  | none => (-1, 0)
  | some (b, l) => (nI b, nI l)
theorem rp_n1 : (rp none).1 = -1 := rfl
theorem rp_n2 : (rp none).2 = 0 := rfl
theorem rp_s1 {b l : Nat} : (rp (some (b, l))).1 = nI b := rfl
theorem rp_s2 {b l : Nat} : (rp (some (b, l))).2 = nI l := rfl
theorem wt_X (hS : Shp z K R) (h8 : h ≤ 8) (hb : TB z h J) {g u V : Nat} {x y : Int32} (hg : g < 256) (hu : u < 2 * h) {c : Nat} (hc : wayI x y (tuX z J u) (tuY z J u) = nI c) (hV : J (z + 9) ((g ||| 2 ^ (u / 2)) * 16 + u) = nI V) : f_X4_wayThrough (some (z + 6)) (nI g) x y (nI u) (K, J, R, w) = some (nI (c + V), K, J, R, w) := by
  have k6 : (K (z + 6)).1 = 4 + 1 := by rw [kz6 hS]
  have hb6 := bt6 g hg (u / 2) (by omega)
  have ei : nI (g ||| 2 ^ (u / 2)) * 16 + nI u = nI ((g ||| 2 ^ (u / 2)) * 16 + u) := by
    rw [show nI (g ||| 2 ^ (u / 2)) * 16 = nI ((g ||| 2 ^ (u / 2)) * 16) from pk_mul _ 16, nI_add]
  unfold f_X4_wayThrough
  simp only [dv2 (show u ≤ 1000 by omega), Option.bind_some, lt1, bt2 g hg (u / 2) (by omega), gR_t k6, rz6_0 hS, rz6_1 hS, rz6_2 hS, aI_t (kz7 hS) (show u < 16 by omega) (by decide), aI_t (kz8 hS) (show u < 16 by omega) (by decide), (hb.2 u hu).1, (hb.2 u hu).2, way_X, hc, ei, aI_t (kz9 hS) (show (g ||| 2 ^ (u / 2)) * 16 + u < 4096 by omega) (by decide), hV, nI_add]
theorem bt_X1 (hS : Shp z K R) (h8 : h ≤ 8) (hb : TB z h J) {g : Nat} {x y : Int32} (hg : g < 256) {c V : Nat → Nat} (hc : ∀ u, u < 2 * h → wayI x y (tuX z J u) (tuY z J u) = nI (c u)) (hV : ∀ u, u < 2 * h → g.testBit (u / 2) = false → J (z + 9) ((g ||| 2 ^ (u / 2)) * 16 + u) = nI (V u)) (hl : ∀ u, u < 2 * h → c u + V u ≤ 100000) : ∀ fu n, n ≤ 2 * h → 2 * h < fu + n → b_X4_bestTurn_9 fu (some (z + 6)) (nI g) x y (rp (mnF (fun u => !g.testBit (u / 2)) (fun u => c u + V u) n)).1 (rp (mnF (fun u => !g.testBit (u / 2)) (fun u => c u + V u) n)).2 (nI n) (K, J, R, w) = some ((rp (mnF (fun u => !g.testBit (u / 2)) (fun u => c u + V u) (2 * h))).1, K, J, R, w) := by
  have k6 : (K (z + 6)).1 = 4 + 1 := by rw [kz6 hS]
  intro fu
  induction fu with
  | zero => intro n a b; omega
  | succ fu ih =>
    intro n a b
    rw [b_X4_bestTurn_9, gI_t k6, Option.bind_some, hb.1]
    by_cases e : n = 2 * h
    · subst e
      rw [if_pos (nI_le (Nat.le_refl _) (by omega))]
      rfl
    · have hn : n < 2 * h := by omega
      rw [if_neg (nI_ge hn (by omega)), dv2 (by omega), Option.bind_some, bt1 g hg (n / 2) (by omega)]
      have ih' := ih (n + 1) (by omega) (by omega)
      by_cases c1 : g.testBit (n / 2) = true
      · rw [if_pos c1, if_neg i10]
        unfold b_X4_bestTurn_60 lt1
        rw [nI_1]
        rw [mn_f (p := fun u => !g.testBit (u / 2)) (by simp [c1])] at ih'
        exact ih'
      · have c0 : g.testBit (n / 2) = false := by simpa using c1
        rw [if_neg c1, if_pos rfl, cK_t k6, wt_X hS h8 hb hg hn (hc n hn) (hV n hn c0), Option.bind_some]
        cases hm : mnF (fun u => !g.testBit (u / 2)) (fun u => c u + V u) n with
        | none =>
          rw [mn_t0 (by simp [c0]) hm] at ih'
          rw [rp_n1, rp_n2, if_pos (show (-1 : Int32) < 0 by decide)]
          unfold b_X4_bestTurn_52 b_X4_bestTurn_60 lt1
          rw [nI_1]
          exact ih'
        | some o =>
          obtain ⟨b, l⟩ := o
          obtain ⟨x1, x2, x3⟩ := mn_p n hm
          have hl1 := hl b (by omega)
          have hl2 := hl n hn
          have x3 : l = c b + V b := x3
          rw [rp_s1, rp_s2, if_neg (show ¬ nI b < 0 from nI_pos (by omega))]
          by_cases c2 : c n + V n < l
          · rw [mn_t1 (by simp [c0]) hm c2] at ih'
            rw [if_neg (nI_ge c2 (by omega))]
            unfold b_X4_bestTurn_52 b_X4_bestTurn_60 lt1
            rw [nI_1]
            exact ih'
          · rw [mn_t2 hm c2] at ih'
            rw [if_pos (nI_le (by omega) (by omega))]
            unfold b_X4_bestTurn_60 lt1
            rw [nI_1]
            exact ih'
theorem bt_X (hS : Shp z K R) (h8 : h ≤ 8) (hb : TB z h J) {g : Nat} {x y : Int32} (hg : g < 256) {c V : Nat → Nat} (hc : ∀ u, u < 2 * h → wayI x y (tuX z J u) (tuY z J u) = nI (c u)) (hV : ∀ u, u < 2 * h → g.testBit (u / 2) = false → J (z + 9) ((g ||| 2 ^ (u / 2)) * 16 + u) = nI (V u)) (hl : ∀ u, u < 2 * h → c u + V u ≤ 100000) : f_X4_bestTurn (some (z + 6)) (nI g) x y (K, J, R, w) = some ((rp (mnF (fun u => !g.testBit (u / 2)) (fun u => c u + V u) (2 * h))).1, K, J, R, w) := by
  have := bt_X1 (w := w) hS h8 hb hg hc hV hl FU 0 (by omega) (by unfold FU; omega)
  unfold f_X4_bestTurn
  rw [show nI 0 = 0 from rfl] at this
  exact this
theorem te_X1 (hS : Shp z K R) (h8 : h ≤ 8) (hs : RStrokes z h K I R) (e3 : I (z + 6) 3 = nI (2 * h)) : ∀ fu t (J : Nat → Nat → Int32), t ≤ 2 * h → 2 * h < fu + t → (∀ o q, o ≠ 7 → o ≠ 8 → J (z + o) q = I (z + o) q) → (∀ u, u < t → J (z + 7) u = tuX z I u ∧ J (z + 8) u = tuY z I u) → ∃ A, b_X4_takeEnds_12 fu (some (z + 6)) (some (z + 2)) (nI t) (K, J, R, w) = some (K, A, R, w) ∧ (∀ o q, o ≠ 7 → o ≠ 8 → A (z + o) q = I (z + o) q) ∧ ∀ u, u < 2 * h → A (z + 7) u = tuX z I u ∧ A (z + 8) u = tuY z I u := by
  have k6 : (K (z + 6)).1 = 4 + 1 := by rw [kz6 hS]
  have k2' : (K (z + 2)).1 = 8 + 1 := by rw [kz2 hS]
  intro fu
  induction fu with
  | zero => intro t J a b; omega
  | succ fu ih =>
    intro t J a b hF hJ
    rw [b_X4_takeEnds_12, gI_t k6, Option.bind_some, hF 6 3 (by omega) (by omega), e3]
    by_cases e : t = 2 * h
    · subst e
      rw [if_pos (nI_le (Nat.le_refl _) (by omega))]
      exact ⟨J, rfl, hF, hJ⟩
    · have ht : t < 2 * h := by omega
      obtain ⟨n, hn⟩ := hs.2.2 (t / 2) (by omega)
      have hn1 := hn.1
      have hn8 := hn.2.1
      have hnJ : RStroke z K J R (t / 2) n := hn.fr fun o q p => by unfold fpStrokes at p; exact hF o q (by omega) (by omega)
      have j3 : J (z + 2) 3 = nI h := by rw [hF 2 3 (by omega) (by omega)]; exact hs.1
      have ept : pt (nI (t % 2)) n 0 = if t % 2 = 0 then 0 else n - 1 := by
        unfold pt
        by_cases c : t % 2 = 0
        · rw [c, if_pos rfl, if_pos (by decide)]
        · rw [if_neg c, if_neg (nI_ne0 (by omega) (by omega))]; rfl
      have exy := hn.xx (pt_lt (b := nI (t % 2)) hn1)
      have eX : J (z + (106 + 3 * (t / 2))) (pt (nI (t % 2)) n 0) = tuX z I t := by
        rw [hF _ _ (by omega) (by omega), ← exy.1, ept]
        unfold tuX
        rw [hn.2.2.1, nI_clamp (by omega)]
      have eY : J (z + (107 + 3 * (t / 2))) (pt (nI (t % 2)) n 0) = tuY z I t := by
        rw [hF _ _ (by omega) (by omega), ← exy.2, ept]
        unfold tuY
        rw [hn.2.2.1, nI_clamp (by omega)]
      obtain ⟨J1, hJ1⟩ : ∃ J1, J1 = up2 J (z + 7) t (tuX z I t) := ⟨_, rfl⟩
      have hnJ1 : RStroke z K J1 R (t / 2) n := hnJ.fr fun o q p => by unfold fpStrokes at p; rw [hJ1]; simp (disch := omega) only [un_1, un_2, un_3, un_4, es, up2_self]
      have eY1 : J1 (z + (107 + 3 * (t / 2))) (pt (nI (t % 2)) n 0) = tuY z I t := by rw [hJ1]; simp (disch := omega) only [un_1, un_2, un_3, un_4, es, up2_self]; exact eY
      obtain ⟨A, q1, q2, q3⟩ := ih (t + 1) (up2 J1 (z + 8) t (tuY z I t)) (by omega) (by omega) (fun o q p1 p2 => by rw [hJ1]; simp (disch := omega) only [un_1, un_2, un_3, un_4, es, up2_self]; exact hF o q p1 p2) (fun u hu => by
        by_cases eu : u = t
        · subst eu
          rw [hJ1]; simp (disch := omega) only [un_1, un_2, un_3, un_4, es, up2_self]; exact ⟨trivial, trivial⟩
        · rw [hJ1]; simp (disch := omega) only [un_1, un_2, un_3, un_4, es, up2_self]; exact hJ u (by omega))
      refine ⟨A, ?_, q2, q3⟩
      have g0 := gone_X (w := w) hnJ (nI (t % 2)) (i := 0) hn1
      rw [show nI 0 = 0 from rfl] at g0
      rw [if_neg (nI_ge ht (by omega)), if_neg (show ¬ (16 : Int32) ≤ _ from nI_ge (b := 16) (by omega) (by decide)), dv2 (by omega), Option.bind_some, cK_t k2', at_X hS j3 h8 (show t / 2 < h by omega) hnJ, Option.bind_some]
      simp only [reduceCtorEq, if_false, rm2 (show t ≤ 1000 by omega), Option.bind_some, k3_s hnJ.kc, g0, gR_t k6, rz6_0 hS, rz6_1 hS, xAt_X hnJ (pt_lt (b := nI (t % 2)) hn1), eX, sI_t (kz7 hS) (show t < 16 by omega) (by decide), nar14, ← hJ1, k3_s hnJ1.kc, yAt_X hnJ1 (pt_lt (b := nI (t % 2)) hn1), eY1, sI_t (kz8 hS) (show t < 16 by omega) (by decide), b_X4_takeEnds_72, lt1, nI_1]
      exact q1
theorem te_X (hS : Shp z K R) (h8 : h ≤ 8) (hs : RStrokes z h K I R) : ∃ A, f_X4_takeEnds (some (z + 6)) (some (z + 2)) (K, I, R, w) = some (K, A, R, w) ∧ (∀ o q, ¬ (o = 6 ∧ q = 3) → o ≠ 7 → o ≠ 8 → A (z + o) q = I (z + o) q) ∧ TB z h A := by
  have k6 : (K (z + 6)).1 = 4 + 1 := by rw [kz6 hS]
  have k2' : (K (z + 2)).1 = 8 + 1 := by rw [kz2 hS]
  obtain ⟨B, hB⟩ : ∃ B, B = up2 I (z + 6) 3 (nI (2 * h)) := ⟨_, rfl⟩
  have hsB : RStrokes z h K B R := hs.fr fun o q p => by unfold fpStrokes at p; rw [hB]; simp (disch := omega) only [un_1, un_2, un_3, un_4, es, up2_self]
  obtain ⟨A, q1, q2, q3⟩ := te_X1 (w := w) hS h8 hsB (by rw [hB, es]) FU 0 B (by omega) (by unfold FU; omega) (fun _ _ _ _ => rfl) (fun u hu => by omega)
  have eX : tuX z A = tuX z B := tuX_fr (funext fun j => q2 86 j (by omega) (by omega)) (funext fun j => q2 87 j (by omega) (by omega))
  have eY : tuY z A = tuY z B := tuY_fr (funext fun j => q2 86 j (by omega) (by omega)) (funext fun j => q2 88 j (by omega) (by omega))
  refine ⟨A, ?_, fun o q p1 p2 p3 => by rw [q2 o q p2 p3, hB]; simp (disch := omega) only [un_1, un_2, un_3, un_4, es, up2_self], ?_⟩
  · unfold f_X4_takeEnds
    rw [gI_t k2', Option.bind_some, hs.1, ix2, pI_t k6, Option.bind_some, ← hB]
    rw [show nI 0 = 0 from rfl] at q1
    exact q1
  · refine ⟨by rw [q2 6 3 (by omega) (by omega), hB, es], fun t ht => ?_⟩
    rw [eX, eY]
    exact q3 t ht
/-- the ways left are filled from g on -/
def FG (z h : Nat) (I : Nat → Nat → Int32) (g : Nat) (J : Nat → Nat → Int32) : Prop := (∀ o q, o ≠ 9 → J (z + o) q = I (z + o) q) ∧ ∀ g', g < g' → g' < 2 ^ h → ∀ t, t < 2 * h → g'.testBit (t / 2) = true → J (z + 9) (g' * 16 + t) = nI (WlF (2 * h) (tC z I) (tE z I) (rmB h g') g' t)
theorem FG.tb {g : Nat} (hf : FG z h I g J) (hb : TB z h I) : TB z h J := by
  have eX : tuX z J = tuX z I := tuX_fr (funext fun j => hf.1 86 j (by omega)) (funext fun j => hf.1 87 j (by omega))
  have eY : tuY z J = tuY z I := tuY_fr (funext fun j => hf.1 86 j (by omega)) (funext fun j => hf.1 88 j (by omega))
  refine ⟨by rw [hf.1 6 3 (by omega)]; exact hb.1, fun t ht => ?_⟩
  rw [hf.1 7 t (by omega), hf.1 8 t (by omega), eX, eY]
  exact hb.2 t ht
theorem fw_X1 (hS : Shp z K R) (h8 : h ≤ 8) (hs : RStrokes z h K I R) (hb : TB z h I) {g : Nat} (hg0 : 0 < g) (hg : g < 2 ^ h) (rc : Option Nat → Int32 → St → Option St) : ∀ fu t (J : Nat → Nat → Int32), t ≤ 2 * h → 2 * h < fu + t → FG z h I g J → (∀ u, u < t → g.testBit (u / 2) = true → J (z + 9) (g * 16 + u) = nI (WlF (2 * h) (tC z I) (tE z I) (rmB h g) g u)) → ∃ A, b_X4_fillWaysLeft_19 rc fu (some (z + 6)) (nI g) (nI t) (K, J, R, w) = rc (some (z + 6)) (nI (g - 1)) (K, A, R, w) ∧ FG z h I (g - 1) A := by
  have k6 : (K (z + 6)).1 = 4 + 1 := by rw [kz6 hS]
  have hg2 : g < 256 := Nat.lt_of_lt_of_le hg (p256 h8)
  intro fu
  induction fu with
  | zero => intro t J a b; omega
  | succ fu ih =>
    intro t J a b hF hJ
    have hbJ := hF.tb hb
    have eX : tuX z J = tuX z I := tuX_fr (funext fun j => hF.1 86 j (by omega)) (funext fun j => hF.1 87 j (by omega))
    have eY : tuY z J = tuY z I := tuY_fr (funext fun j => hF.1 86 j (by omega)) (funext fun j => hF.1 88 j (by omega))
    rw [b_X4_fillWaysLeft_19, gI_t k6, Option.bind_some, hbJ.1]
    by_cases e : t = 2 * h
    · subst e
      rw [if_pos (nI_le (Nat.le_refl _) (by omega))]
      refine ⟨J, ?_, hF.1, fun g' h1 h2 t ht hbt => ?_⟩
      · unfold b_X4_fillWaysLeft_113 lt1
        try dsimp only
        rw [nI_m1, show nI g - 1 = nI (g - 1) from sub_nn (b := 1) (by omega)]
      · by_cases eg : g' = g
        · subst eg; exact hJ t ht hbt
        · exact hF.2 g' (by omega) h2 t ht hbt
    · have ht : t < 2 * h := by omega
      rw [if_neg (nI_ge ht (by omega)), dv2 (by omega), Option.bind_some, bt1 g hg2 (t / 2) (by omega)]
      by_cases c1 : g.testBit (t / 2) = true
      · rw [if_pos c1, if_neg i10]
        have hO := tuO_lt ht
        have hl : ∀ u, u < 2 * h → tC z I t u + VV z h I g u ≤ 100000 := fun u hu => by
          have := (tC_n hs ht hu).2
          have := VV_le (g := g) h8 hs hu
          omega
        have hV : ∀ u, u < 2 * h → g.testBit (u / 2) = false → J (z + 9) ((g ||| 2 ^ (u / 2)) * 16 + u) = nI (VV z h I g u) := fun u hu hbu =>
          hF.2 (g ||| 2 ^ (u / 2)) ((bt6 g hg2 (u / 2) (by omega)).2 hbu) (bt10 h (by omega) g hg (u / 2) (by omega)) u hu (by rw [Nat.testBit_or, Nat.testBit_two_pow_self]; simp)
        have hc : ∀ u, u < 2 * h → wayI (tuX z I (tuO t)) (tuY z I (tuO t)) (tuX z J u) (tuY z J u) = nI (tC z I t u) := fun u hu => by rw [eX, eY]; exact (tC_n hs ht hu).1
        have bt := bt_X (w := w) hS h8 hbJ hg2 hc hV hl
        have a7 : aI (K, J, R, w) (some (z + 7)) 14 (nI (tuO t)) = some (tuX z I (tuO t)) := (aI_t (kz7 hS) (show tuO t < 16 by omega) (by decide)).trans (by rw [(hbJ.2 _ hO).1, eX])
        have a8 : aI (K, J, R, w) (some (z + 8)) 14 (nI (tuO t)) = some (tuY z I (tuO t)) := (aI_t (kz8 hS) (show tuO t < 16 by omega) (by decide)).trans (by rw [(hbJ.2 _ hO).2, eY])
        have hW := Wl_eq h8 hg (tC z I) (tE z I) t
        have ei : nI g * 16 + nI t = nI (g * 16 + t) := by
          rw [show nI g * 16 = nI (g * 16) from pk_mul _ 16, nI_add]
        have nxt : ∃ A, b_X4_fillWaysLeft_107 rc (b_X4_fillWaysLeft_19 rc fu) (some (z + 6)) (nI g) (nI t) (K, up2 J (z + 9) (g * 16 + t) (nI (WlF (2 * h) (tC z I) (tE z I) (rmB h g) g t)), R, w) = rc (some (z + 6)) (nI (g - 1)) (K, A, R, w) ∧ FG z h I (g - 1) A := by
          obtain ⟨A, q1, q2⟩ := ih (t + 1) (up2 J (z + 9) (g * 16 + t) (nI (WlF (2 * h) (tC z I) (tE z I) (rmB h g) g t))) (by omega) (by omega) ⟨fun o q ho => by rw [un_1 (Or.inl ho)]; exact hF.1 o q ho, fun g' h1 h2 u hu hbu => by
            rw [un_1 (Or.inr (by omega))]; exact hF.2 g' h1 h2 u hu hbu⟩ (fun u hu hbu => by
            by_cases eu : u = t
            · subst eu; rw [es]
            · rw [un_1 (Or.inr (by omega))]; exact hJ u (by omega) hbu)
          refine ⟨A, ?_, q2⟩
          unfold b_X4_fillWaysLeft_107 lt1
          try dsimp only
          rw [nI_1]
          exact q1
        obtain ⟨A, q1, q2⟩ := nxt
        refine ⟨A, ?_, q2⟩
        rw [gR_t k6, Option.bind_some, rz6_0 hS, bt5 t (by omega), a7, Option.bind_some, gR_t k6, Option.bind_some, rz6_1 hS, a8, Option.bind_some, cK_t k6, bt, Option.bind_some, gR_t k6, Option.bind_some, rz6_2 hS]
        have hm' : mnF (fun u => !g.testBit (u / 2)) (fun u => tC z I t u + WlF (2 * h) (tC z I) (tE z I) (rmB h (g ||| 2 ^ (u / 2))) (g ||| 2 ^ (u / 2)) u) (2 * h) = mnF (fun u => !g.testBit (u / 2)) (fun u => tC z I t u + VV z h I g u) (2 * h) := rfl
        rw [hm'] at hW
        cases hm : mnF (fun u => !g.testBit (u / 2)) (fun u => tC z I t u + VV z h I g u) (2 * h) with
        | none =>
          rw [hm] at hW
          rw [rp_n1, if_neg (show ¬ (0 : Int32) ≤ -1 by decide), way_X, Option.bind_some, (tE_n hs ht).1]
          unfold b_X4_fillWaysLeft_106
          rw [ei, sI_t (kz9 hS) (show g * 16 + t < 4096 by omega) (by decide), Option.bind_some, nar14]
          rw [hW] at q1
          exact q1
        | some o =>
          obtain ⟨b, l⟩ := o
          obtain ⟨x1, x2, x3⟩ := mn_p (2 * h) hm
          have x2 : g.testBit (b / 2) = false := by simpa using x2
          have x3 : l = tC z I t b + VV z h I g b := x3
          rw [hm] at hW
          rw [rp_s1, if_pos (show 0 ≤ nI b from nI_pos' (by omega)), cK_t k6, wt_X hS h8 hbJ hg2 x1 (hc b x1) (hV b x1 x2), Option.bind_some]
          unfold b_X4_fillWaysLeft_106
          rw [ei, sI_t (kz9 hS) (show g * 16 + t < 4096 by omega) (by decide), Option.bind_some, nar14, ← x3]
          rw [hW] at q1
          exact q1
      · have c0 : g.testBit (t / 2) = false := by simpa using c1
        rw [if_neg c1, if_pos rfl]
        obtain ⟨A, q1, q2⟩ := ih (t + 1) J (by omega) (by omega) hF (fun u hu hbu => by
          by_cases eu : u = t
          · subst eu; rw [c0] at hbu; exact absurd hbu (by simp)
          · exact hJ u (by omega) hbu)
        refine ⟨A, ?_, q2⟩
        unfold b_X4_fillWaysLeft_107 lt1
        try dsimp only
        rw [nI_1]
        exact q1
theorem fw_X2 (hS : Shp z K R) (h8 : h ≤ 8) (hs : RStrokes z h K I R) (hb : TB z h I) : ∀ fu g (J : Nat → Nat → Int32), g < 2 ^ h → g < fu → FG z h I g J → ∃ A, b_X4_fillWaysLeft_13 fu (some (z + 6)) (nI g) (K, J, R, w) = some (K, A, R, w) ∧ FG z h I 0 A := by
  have p2 := p256 h8
  intro fu
  induction fu with
  | zero => intro g J a b; omega
  | succ fu ih =>
    intro g J a b hF
    rw [b_X4_fillWaysLeft_13]
    by_cases e : g = 0
    · subst e
      rw [if_pos (by decide)]
      exact ⟨J, rfl, hF⟩
    · rw [if_neg (nI_nle (by omega) (by omega))]
      obtain ⟨A1, q1, q2⟩ := fw_X1 (w := w) hS h8 hs hb (show 0 < g by omega) a (b_X4_fillWaysLeft_13 fu) FU 0 J (by omega) (by unfold FU; omega) hF (fun u hu => by omega)
      obtain ⟨A, r1, r2⟩ := ih (g - 1) A1 (by omega) (by omega) q2
      rw [show nI 0 = 0 from rfl] at q1
      exact ⟨A, q1.trans r1, r2⟩
theorem fw_X (hS : Shp z K R) (h8 : h ≤ 8) (hs : RStrokes z h K I R) (hb : TB z h I) : ∃ A, f_X4_fillWaysLeft (some (z + 6)) (K, I, R, w) = some (K, A, R, w) ∧ FG z h I 0 A := by
  have k6 : (K (z + 6)).1 = 4 + 1 := by rw [kz6 hS]
  have p2 := p256 h8
  have p0 := Nat.two_pow_pos h
  obtain ⟨A, q1, q2⟩ := fw_X2 (w := w) hS h8 hs hb FU (2 ^ h - 1) I (by omega) (by unfold FU; omega) ⟨fun _ _ _ => rfl, fun g' h1 h2 => by omega⟩
  refine ⟨A, ?_, q2⟩
  unfold f_X4_fillWaysLeft lt1
  try dsimp only
  rw [gI_t k6, Option.bind_some, hb.1, dv2 (by omega), Option.bind_some, show 2 * h / 2 = h by omega, bt4 h (by omega), show nI (2 ^ h) - 1 = nI (2 ^ h - 1) from sub_nn (b := 1) (by omega)]
  exact q1
end B2
