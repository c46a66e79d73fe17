section B1
variable {z h k n m t q : Nat} {K : Nat → Nat × Nat} {I J : Nat → Nat → Int32} {R : Nat → Nat → Option Nat} {w : Nat}
theorem mn_p {p : Nat → Bool} {v : Nat → Nat} {b l : Nat} : ∀ n, mnF p v n = some (b, l) → b < n ∧ p b = true ∧ l = v b := by
  intro n
  induction n with
  | zero => intro e; simp [mnF] at e
  | succ n ih =>
    intro e
    rw [mnF] at e
    cases hm : mnF p v n with
    | none =>
      rw [hm] at e
      by_cases c : p n = true
      · simp only [c, if_true, Option.some.injEq, Prod.mk.injEq] at e
        obtain ⟨rfl, rfl⟩ := e
        exact ⟨by omega, c, rfl⟩
      · simp [c] at e
    | some o =>
      obtain ⟨b', l'⟩ := o
      rw [hm] at e
      simp only at e
      by_cases c : p n = true ∧ v n < l'
      · rw [if_pos c] at e
        simp only [Option.some.injEq, Prod.mk.injEq] at e
        obtain ⟨rfl, rfl⟩ := e
        exact ⟨by omega, c.1, rfl⟩
      · rw [if_neg c] at e
        rw [e] at hm
        obtain ⟨x1, x2, x3⟩ := ih hm
        exact ⟨by omega, x2, x3⟩
theorem mn_n {p : Nat → Bool} {v : Nat → Nat} : ∀ n, mnF p v n = none → ∀ u, u < n → p u = false := by
  intro n
  induction n with
  | zero => intro _ u hu; omega
  | succ n ih =>
    intro e u hu
    rw [mnF] at e
    cases hm : mnF p v n with
    | none =>
      rw [hm] at e
      by_cases c : p n = true
      · simp [c] at e
      · by_cases eu : u = n
        · subst eu; simpa using c
        · exact ih hm u (by omega)
    | some o =>
      rw [hm] at e
      obtain ⟨b', l'⟩ := o
      simp only at e
      split at e <;> exact absurd e (by simp)
theorem mn_z {p : Nat → Bool} {v : Nat → Nat} : ∀ n, (∀ u, u < n → p u = false) → mnF p v n = none := by
  intro n
  induction n with
  | zero => intro _; rfl
  | succ n ih =>
    intro e
    rw [mnF, ih fun u hu => e u (by omega)]
    simp [e n (by omega)]
theorem mn_c {p p' : Nat → Bool} {v v' : Nat → Nat} : ∀ n, (∀ u, u < n → p u = p' u) → (∀ u, u < n → p u = true → v u = v' u) → mnF p v n = mnF p' v' n := by
  intro n
  induction n with
  | zero => intro _ _; rfl
  | succ n ih =>
    intro e1 e2
    rw [mnF, mnF, ih (fun u hu => e1 u (by omega)) (fun u hu => e2 u (by omega)), ← e1 n (by omega)]
    by_cases c : p n = true
    · rw [← e2 n (by omega) c]
    · have c : p n = false := by simpa using c
      rw [c]
      cases mnF p' v' n with
      | none => rfl
      | some o => obtain ⟨b, l⟩ := o; simp
theorem mn_f {p : Nat → Bool} {v : Nat → Nat} {n : Nat} (h : p n = false) : mnF p v (n + 1) = mnF p v n := by
  rw [mnF]
  cases mnF p v n with
  | none => simp [h]
  | some o => obtain ⟨b, l⟩ := o; simp [h]
theorem mn_t0 {p : Nat → Bool} {v : Nat → Nat} {n : Nat} (h : p n = true) (hm : mnF p v n = none) : mnF p v (n + 1) = some (n, v n) := by
  rw [mnF, hm]; simp [h]
theorem mn_t1 {p : Nat → Bool} {v : Nat → Nat} {n b l : Nat} (h : p n = true) (hm : mnF p v n = some (b, l)) (hl : v n < l) : mnF p v (n + 1) = some (n, v n) := by
  rw [mnF, hm]; simp [h, hl]
theorem mn_t2 {p : Nat → Bool} {v : Nat → Nat} {n b l : Nat} (hm : mnF p v n = some (b, l)) (hl : ¬ v n < l) : mnF p v (n + 1) = some (b, l) := by
  rw [mnF, hm]; simp [hl]
/-- bits of small sets -/
theorem bt1 : ∀ l, l < 256 → ∀ i, i < 8 → ((nI l >>> (nI i &&& 31)) &&& 1) = if l.testBit i = true then (1 : Int32) else 0 := by decide +kernel
theorem bt2 : ∀ l, l < 256 → ∀ i, i < 8 → nI l ||| ((1 : Int32) <<< (nI i &&& 31)) = nI (l ||| 2 ^ i) := by decide +kernel
theorem bt3 : ∀ l, l < 256 → ∀ i, i < 8 → l.testBit i = true → nI l &&& (((1 : Int32) <<< (nI i &&& 31)) ^^^ (-1)) = nI (l - 2 ^ i) := by decide +kernel
theorem bt4 : ∀ i, i < 9 → (1 : Int32) <<< (nI i &&& 31) = nI (2 ^ i) := by decide +kernel
theorem bt5 : ∀ t, t < 16 → nI t ^^^ 1 = nI (tuO t) := by decide +kernel
theorem bt6 : ∀ l, l < 256 → ∀ i, i < 8 → (l ||| 2 ^ i) < 256 ∧ (l.testBit i = false → l < (l ||| 2 ^ i)) := by decide +kernel
theorem bt7 : ∀ h, h < 9 → ∀ l, l < 2 ^ h → ∀ i, i < h → l.testBit i = true → 2 ^ h - 1 - (l - 2 ^ i) = (2 ^ h - 1 - l) ||| 2 ^ i := by decide +kernel
theorem bt8 : ∀ h, h < 9 → ∀ l, l < 2 ^ h → ∀ i, i < h → (2 ^ h - 1 - l).testBit i = !l.testBit i := by decide +kernel
theorem bt9 : ∀ h, h < 9 → ∀ l, l < 2 ^ h → ∀ i, i < h → l.testBit i = false → rmB h l = rmB h (l ||| 2 ^ i) + 1 := by decide +kernel
theorem bt10 : ∀ h, h < 9 → ∀ l, l < 2 ^ h → ∀ i, i < h → (l ||| 2 ^ i) < 2 ^ h := by decide +kernel
theorem bt11 : ∀ h, h < 9 → ∀ l, l < 2 ^ h → rmB h l = 0 → ∀ i, i < h → l.testBit i = true := by decide +kernel
theorem bt12 : ∀ h, h < 9 → ∀ l, l < 2 ^ h → 0 < l → ∃ i, i < h ∧ l.testBit i = true := by
  intro h hh l hl h0
  exact Classical.byContradiction fun c => by
    have : l = 0 := Nat.eq_of_testBit_eq fun i => by
      rw [Nat.zero_testBit]
      by_cases q : i < h
      · have : ¬ l.testBit i = true := fun e => c ⟨i, q, e⟩
        simpa using this
      · exact Nat.testBit_lt_two_pow (Nat.lt_of_lt_of_le hl (Nat.pow_le_pow_right (by decide) (by omega)))
    omega
theorem rm_0 (h : Nat) : rmB h 0 = h := by
  unfold rmB
  induction h with
  | zero => rfl
  | succ n ih => rw [cntB, ih]; simp
theorem p256 (h8 : h ≤ 8) : 2 ^ h ≤ 256 := Nat.pow_le_pow_right (n := 2) (by decide) h8
theorem dv2 {t : Nat} (ht : t ≤ 1000) : dv (nI t) 2 = some (nI (t / 2)) := by
  unfold dv
  rw [if_neg (by decide)]
  exact congrArg some (pk_div (d := 2) (by omega) (by decide) (by decide))
theorem rm2 {t : Nat} (ht : t ≤ 1000) : rmn (nI t) 2 = some (nI (t % 2)) := by
  unfold rmn
  rw [if_neg (by decide), show nI t / 2 = nI (t / 2) from pk_div (d := 2) (by omega) (by decide) (by decide), show nI (t / 2) * 2 = nI (t / 2 * 2) from pk_mul _ 2, sub_nn (by omega)]
  rw [show t - t / 2 * 2 = t % 2 by omega]
theorem tuO_lt {t : Nat} (ht : t < 2 * h) : tuO t < 2 * h := by unfold tuO; split <;> omega
/-- the least ways, each out of the next -/
theorem Wl_eq (h8 : h ≤ 8) {g : Nat} (hg : g < 2 ^ h) (C : Nat → Nat → Nat) (E : Nat → Nat) (t : Nat) : WlF (2 * h) C E (rmB h g) g t = (match mnF (fun u => !g.testBit (u / 2)) (fun u => C t u + WlF (2 * h) C E (rmB h (g ||| 2 ^ (u / 2))) (g ||| 2 ^ (u / 2)) u) (2 * h) with
    | none => E t
    | some (_, l) => l) := by
  cases hr : rmB h g with
  | zero =>
    rw [WlF, mn_z]
    intro u hu
    rw [bt11 h (by omega) g hg hr (u / 2) (by omega)]; rfl
  | succ f =>
    have e : mnF (fun u => !g.testBit (u / 2)) (fun u => C t u + WlF (2 * h) C E f (g ||| 2 ^ (u / 2)) u) (2 * h) = mnF (fun u => !g.testBit (u / 2)) (fun u => C t u + WlF (2 * h) C E (rmB h (g ||| 2 ^ (u / 2))) (g ||| 2 ^ (u / 2)) u) (2 * h) := mn_c (2 * h) (fun _ _ => rfl) fun u hu hp => by
      have hb : g.testBit (u / 2) = false := by simpa using hp
      have := bt9 h (by omega) g hg (u / 2) (by omega) hb
      rw [show rmB h (g ||| 2 ^ (u / 2)) = f by omega]
    rw [WlF, e]
    rfl
theorem Wl_le {N : Nat} {C : Nat → Nat → Nat} {E : Nat → Nat} (hC : ∀ t u, t < N → u < N → C t u ≤ 1000) (hE : ∀ t, t < N → E t ≤ 1000) : ∀ f g t, t < N → WlF N C E f g t ≤ 1000 * (f + 1) := by
  intro f
  induction f with
  | zero => intro g t ht; have := hE t ht; rw [WlF]; omega
  | succ f ih =>
    intro g t ht
    rw [WlF]
    cases hm : mnF (fun u => !g.testBit (u / 2)) (fun u => C t u + WlF N C E f (g ||| 2 ^ (u / 2)) u) N with
    | none => have := hE t ht; show E t ≤ _; omega
    | some o =>
      obtain ⟨b, l⟩ := o
      obtain ⟨x1, x2, x3⟩ := mn_p N hm
      have := ih (g ||| 2 ^ (b / 2)) b x1
      have := hC t b ht x1
      have x3 : l = C t b + WlF N C E f (g ||| 2 ^ (b / 2)) b := x3
      show l ≤ _
      omega
theorem rm_le (h g : Nat) : rmB h g ≤ h := cntB_le _ h
/-- turns' ends lie in the field -/
theorem tu_f (hs : RStrokes z h K I R) {t : Nat} (ht : t < 2 * h) : fld (tuX z I t) ∧ fld (tuY z I t) := by
  obtain ⟨n, hn⟩ := hs.2.2 (t / 2) (by omega)
  have h1 := hn.1
  have h2 := hn.2.1
  unfold tuX tuY
  rw [hn.2.2.1, nI_clamp (by omega)]
  obtain ⟨x, y, x1, x2, _, x4, _, x6⟩ := hn.2.2.2.2.2.2.2.2.2 (if t % 2 = 0 then 0 else n - 1) (by split <;> omega)
  exact ⟨⟨x, x1, x4⟩, ⟨y, x2, x6⟩⟩
theorem way_f {x y u v : Int32} (hx : fld x) (hy : fld y) (hu : fld u) (hv : fld v) : wayI x y u v = nI (wayI x y u v).toNatClampNeg ∧ (wayI x y u v).toNatClampNeg ≤ 1000 := by
  obtain ⟨a, ha, rfl⟩ := hx
  obtain ⟨b, hb, rfl⟩ := hy
  obtain ⟨c, hc, rfl⟩ := hu
  obtain ⟨d, hd, rfl⟩ := hv
  obtain ⟨s, s1, s2, _⟩ := way_n ha hb hc hd
  rw [s2, nI_clamp (by omega)]
  exact ⟨rfl, s1⟩
theorem tC_n (hs : RStrokes z h K I R) {t u : Nat} (ht : t < 2 * h) (hu : u < 2 * h) : wayI (tuX z I (tuO t)) (tuY z I (tuO t)) (tuX z I u) (tuY z I u) = nI (tC z I t u) ∧ tC z I t u ≤ 1000 := way_f (tu_f hs (tuO_lt ht)).1 (tu_f hs (tuO_lt ht)).2 (tu_f hs hu).1 (tu_f hs hu).2
theorem tE_n (hs : RStrokes z h K I R) {t : Nat} (ht : t < 2 * h) : wayI (tuX z I (tuO t)) (tuY z I (tuO t)) 0 0 = nI (tE z I t) ∧ tE z I t ≤ 1000 := way_f (tu_f hs (tuO_lt ht)).1 (tu_f hs (tuO_lt ht)).2 fld_0 fld_0
/-- the least way on, behind turn u -/
def VV (z h : Nat) (I : Nat → Nat → Int32) (g u : Nat) : Nat := WlF (2 * h) (tC z I) (tE z I) (rmB h (g ||| 2 ^ (u / 2))) (g ||| 2 ^ (u / 2)) u
theorem VV_le (h8 : h ≤ 8) (hs : RStrokes z h K I R) {g u : Nat} (hu : u < 2 * h) : VV z h I g u ≤ 9000 := by
  unfold VV
  have := Wl_le (N := 2 * h) (fun t u ht hu => (tC_n hs ht hu).2) (fun t ht => (tE_n hs ht).2) (rmB h (g ||| 2 ^ (u / 2))) (g ||| 2 ^ (u / 2)) u hu
  have := rm_le h (g ||| 2 ^ (u / 2))
  omega
/-- from the last turn, or from the start -/
def oX (z : Nat) (I : Nat → Nat → Int32) : Option Nat → Int32
  | none => 0
  | some t => tuX z I (tuO t)
def oY (z : Nat) (I : Nat → Nat → Int32) : Option Nat → Int32
  | none => 0
  | some t => tuY z I (tuO t)
def oC (z : Nat) (I : Nat → Nat → Int32) (o : Option Nat) (u : Nat) : Nat := (wayI (oX z I o) (oY z I o) (tuX z I u) (tuY z I u)).toNatClampNeg
def bsF (z h : Nat) (I : Nat → Nat → Int32) (g : Nat) (o : Option Nat) : Option (Nat × Nat) := mnF (fun u => !g.testBit (u / 2)) (fun u => oC z I o u + VV z h I g u) (2 * h)
/-- what is gone, and the last turn, behind k strokes of the best plan -/
def sq (z h : Nat) (I : Nat → Nat → Int32) : Nat → Nat × Option Nat
  | 0 => (0, none)
  | k + 1 => match bsF z h I (sq z h I k).1 (sq z h I k).2 with
    | none => sq z h I k
    | some (b, _) => ((sq z h I k).1 ||| 2 ^ (b / 2), some b)
def oOk (h : Nat) : Option Nat → Prop
  | none => True
  | some t => t < 2 * h
theorem oC_n (hs : RStrokes z h K I R) {o : Option Nat} (ho : oOk h o) {u : Nat} (hu : u < 2 * h) : wayI (oX z I o) (oY z I o) (tuX z I u) (tuY z I u) = nI (oC z I o u) ∧ oC z I o u ≤ 1000 := by
  cases o with
  | none => exact way_f fld_0 fld_0 (tu_f hs hu).1 (tu_f hs hu).2
  | some t => exact tC_n hs ho hu
theorem sq_ok (h8 : h ≤ 8) : ∀ k, k ≤ h → (sq z h I k).1 < 2 ^ h ∧ rmB h (sq z h I k).1 = h - k ∧ oOk h (sq z h I k).2 ∧ (k < h → ∃ b l, bsF z h I (sq z h I k).1 (sq z h I k).2 = some (b, l) ∧ b < 2 * h ∧ (sq z h I k).1.testBit (b / 2) = false ∧ l = oC z I (sq z h I k).2 b + VV z h I (sq z h I k).1 b ∧ sq z h I (k + 1) = ((sq z h I k).1 ||| 2 ^ (b / 2), some b)) := by
  have key : ∀ k, k < h → (sq z h I k).1 < 2 ^ h → rmB h (sq z h I k).1 = h - k → ∃ b l, bsF z h I (sq z h I k).1 (sq z h I k).2 = some (b, l) ∧ b < 2 * h ∧ (sq z h I k).1.testBit (b / 2) = false ∧ l = oC z I (sq z h I k).2 b + VV z h I (sq z h I k).1 b ∧ sq z h I (k + 1) = ((sq z h I k).1 ||| 2 ^ (b / 2), some b) := by
    intro k hk h1 h2
    cases hb : bsF z h I (sq z h I k).1 (sq z h I k).2 with
    | none =>
      have := mn_n (2 * h) hb
      exfalso
      have all : ∀ i, i < h → (sq z h I k).1.testBit i = true := fun i hi => by
        have := this (2 * i) (by omega)
        rw [show 2 * i / 2 = i by omega] at this
        simpa using this
      have : rmB h (sq z h I k).1 = 0 := by
        unfold rmB
        rw [cntB_c (p' := fun _ => false) h fun i hi => by rw [all i hi]; rfl]
        have : ∀ n, cntB (fun _ => false) n = 0 := fun n => by
          induction n with
          | zero => rfl
          | succ n ih => rw [cntB, ih]; rfl
        exact this h
      omega
    | some o =>
      obtain ⟨b, l⟩ := o
      obtain ⟨x1, x2, x3⟩ := mn_p (2 * h) hb
      refine ⟨b, l, rfl, x1, by simpa using x2, x3, ?_⟩
      rw [sq, hb]
  intro k
  induction k with
  | zero => intro _; exact ⟨Nat.two_pow_pos h, rm_0 h, trivial, fun hk => key 0 hk (Nat.two_pow_pos h) (rm_0 h)⟩
  | succ k ih =>
    intro hk
    obtain ⟨i1, i2, i3, i4⟩ := ih (by omega)
    obtain ⟨b, l, b1, b2, b3, b4, b5⟩ := i4 (by omega)
    clear i4
    have e1 : (sq z h I (k + 1)).1 < 2 ^ h := by rw [b5]; exact bt10 h (by omega) _ i1 _ (by omega)
    have e2 : rmB h (sq z h I (k + 1)).1 = h - (k + 1) := by
      rw [b5]
      have := bt9 h (by omega) _ i1 (b / 2) (by omega) b3
      show rmB h ((sq z h I k).1 ||| 2 ^ (b / 2)) = _
      omega
    exact ⟨e1, e2, by rw [b5]; exact b2, fun q => key (k + 1) q e1 e2⟩
/-- the turn at k, and the way from there on -/
def tnK (z h : Nat) (I : Nat → Nat → Int32) (k : Nat) : Nat := match bsF z h I (sq z h I k).1 (sq z h I k).2 with
  | none => 0
  | some (b, _) => b
def lnK (z h : Nat) (I : Nat → Nat → Int32) (k : Nat) : Nat := match bsF z h I (sq z h I k).1 (sq z h I k).2 with
  | none => 0
  | some (_, l) => l
theorem sq_k (h8 : h ≤ 8) {k : Nat} (hk : k < h) : bsF z h I (sq z h I k).1 (sq z h I k).2 = some (tnK z h I k, lnK z h I k) ∧ tnK z h I k < 2 * h ∧ (sq z h I k).1.testBit (tnK z h I k / 2) = false ∧ lnK z h I k = oC z I (sq z h I k).2 (tnK z h I k) + VV z h I (sq z h I k).1 (tnK z h I k) ∧ sq z h I (k + 1) = ((sq z h I k).1 ||| 2 ^ (tnK z h I k / 2), some (tnK z h I k)) := by
  obtain ⟨b, l, b1, b2, b3, b4, b5⟩ := (sq_ok (z := z) (I := I) h8 k (by omega)).2.2.2 hk
  have e1 : tnK z h I k = b := by unfold tnK; rw [b1]
  have e2 : lnK z h I k = l := by unfold lnK; rw [b1]
  rw [e1, e2]
  exact ⟨b1, b2, b3, b4, b5⟩
theorem ln_eq (h8 : h ≤ 8) {k : Nat} (hk : k < h) : lnK z h I k = oC z I (sq z h I k).2 (tnK z h I k) + (if k + 1 < h then lnK z h I (k + 1) else tE z I (tnK z h I k)) := by
  obtain ⟨_, b2, b3, b4, b5⟩ := sq_k (z := z) (I := I) h8 hk
  rw [b4]
  have o1 := sq_ok (z := z) (I := I) h8 (k + 1) (by omega)
  have : VV z h I (sq z h I k).1 (tnK z h I k) = (if k + 1 < h then lnK z h I (k + 1) else tE z I (tnK z h I k)) := by
    unfold VV
    have hg : (sq z h I (k + 1)).1 = (sq z h I k).1 ||| 2 ^ (tnK z h I k / 2) := by rw [b5]
    rw [← hg, Wl_eq h8 o1.1]
    have hb : mnF (fun u => !(sq z h I (k + 1)).1.testBit (u / 2)) (fun u => tC z I (tnK z h I k) u + WlF (2 * h) (tC z I) (tE z I) (rmB h ((sq z h I (k + 1)).1 ||| 2 ^ (u / 2))) ((sq z h I (k + 1)).1 ||| 2 ^ (u / 2)) u) (2 * h) = bsF z h I (sq z h I (k + 1)).1 (sq z h I (k + 1)).2 := by
      unfold bsF
      rw [show (sq z h I (k + 1)).2 = some (tnK z h I k) by rw [b5]]
      rfl
    rw [hb]
    by_cases c : k + 1 < h
    · rw [if_pos c, (sq_k (z := z) (I := I) h8 c).1]
    · rw [if_neg c]
      have : bsF z h I (sq z h I (k + 1)).1 (sq z h I (k + 1)).2 = none := mn_z (2 * h) fun u hu => by
        rw [bt11 h (by omega) _ o1.1 (by rw [o1.2.1]; omega) (u / 2) (by omega)]; rfl
      rw [this]
  rw [this]
theorem ln_le (h8 : h ≤ 8) (hs : RStrokes z h K I R) {k : Nat} (hk : k < h) : lnK z h I k ≤ 10000 := by
  obtain ⟨_, b2, b3, b4, b5⟩ := sq_k (z := z) (I := I) h8 hk
  have := VV_le (g := (sq z h I k).1) h8 hs b2
  have := (oC_n hs (sq_ok (z := z) (I := I) h8 k (by omega)).2.2.1 b2).2
  omega
end B1
