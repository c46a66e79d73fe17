section N1
variable {z : Nat} {cy : Nat → ClassId} {ks : List (Nat × Nat)} {is : List (Nat × Nat × Int32)} {rs : List (Nat × Nat × Nat)}
/-- a state by lists: kinds (the latest first), numbers, references -/
def kL : List (Nat × Nat) → Nat → Nat × Nat
  | [], _ => (0, 0)
  | v :: l, o => if o = l.length then v else kL l o
def lkI : List (Nat × Nat × Int32) → Nat → Nat → Int32
  | [], _, _ => 0
  | (o, q, v) :: l, a, k => if a = o ∧ k = q then v else lkI l a k
def lkR : List (Nat × Nat × Nat) → Nat → Nat → Option Nat
  | [], _, _ => none
  | (o, q, v) :: l, a, k => if a = o ∧ k = q then some v else lkR l a k
def CS (cy : Nat → ClassId) (z : Nat) (ks : List (Nat × Nat)) (is : List (Nat × Nat × Int32)) (rs : List (Nat × Nat × Nat)) : St := (fun a => if a < z then (0, 0) else kL ks (a - z), fun a k => if a < z then 0 else lkI is (a - z) k, fun a k => if a = 0 then cx cy k else if a < z then none else (lkR rs (a - z) k).map (fun o => z + o), z + ks.length)
def okB (ks : List (Nat × Nat)) (is : List (Nat × Nat × Int32)) (rs : List (Nat × Nat × Nat)) : Bool := is.all (fun e => decide (e.1 < ks.length)) && rs.all (fun e => decide (e.1 < ks.length))
theorem CS_w : (CS cy z ks is rs).2.2.2 = z + ks.length := rfl
theorem CS_0 : S00 cy z = CS cy z [] [] [] := by
  unfold S00 CS
  have e1 : (fun a : Nat => if a < z then ((0, 0) : Nat × Nat) else kL [] (a - z)) = fun _ => (0, 0) := by funext a; simp [kL]
  have e2 : (fun a k : Nat => if a < z then (0 : Int32) else lkI [] (a - z) k) = fun _ _ => 0 := by funext a k; simp [lkI]
  have e3 : (fun a k : Nat => if a = 0 then cx cy k else if a < z then none else (lkR [] (a - z) k).map (fun o => z + o)) = fun a k => if a = 0 then cx cy k else none := by funext a k; simp [lkR]
  rw [e1, e2, e3]
  rfl
theorem CS_K {o : Nat} : (CS cy z ks is rs).1 (z + o) = kL ks o := by
  show (if z + o < z then (0, 0) else kL ks (z + o - z)) = _
  rw [if_neg (by omega), Nat.add_sub_cancel_left]
theorem CS_I {o k : Nat} : (CS cy z ks is rs).2.1 (z + o) k = lkI is o k := by
  show (if z + o < z then (0 : Int32) else lkI is (z + o - z) k) = _
  rw [if_neg (by omega), Nat.add_sub_cancel_left]
theorem CS_R (hz : 0 < z) {o k : Nat} : (CS cy z ks is rs).2.2.1 (z + o) k = (lkR rs o k).map (fun o => z + o) := by
  show (if z + o = 0 then cx cy k else if z + o < z then none else (lkR rs (z + o - z) k).map (fun o => z + o)) = _
  rw [if_neg (by omega), if_neg (by omega), Nat.add_sub_cancel_left]
theorem lkI_no {n : Nat} (h : is.all (fun e => decide (e.1 < n)) = true) (k : Nat) : lkI is n k = 0 := by
  induction is with
  | nil => rfl
  | cons e l ih =>
    obtain ⟨o, q, v⟩ := e
    simp only [List.all_cons, Bool.and_eq_true, decide_eq_true_eq] at h
    rw [lkI, if_neg (by omega)]
    exact ih h.2
theorem lkR_no {n : Nat} (h : rs.all (fun e => decide (e.1 < n)) = true) (k : Nat) : lkR rs n k = none := by
  induction rs with
  | nil => rfl
  | cons e l ih =>
    obtain ⟨o, q, v⟩ := e
    simp only [List.all_cons, Bool.and_eq_true, decide_eq_true_eq] at h
    rw [lkR, if_neg (by omega)]
    exact ih h.2
theorem ok_1 (h : okB ks is rs = true) : is.all (fun e => decide (e.1 < ks.length)) = true ∧ rs.all (fun e => decide (e.1 < ks.length)) = true := by
  unfold okB at h
  simpa only [Bool.and_eq_true] using h
theorem nw_C (hz : 0 < z) (ok : okB ks is rs = true) (kd n : Nat) : nw (CS cy z ks is rs) kd n = CS cy z ((kd, n) :: ks) is rs := by
  obtain ⟨o1, o2⟩ := ok_1 ok
  have e1 : va_up (CS cy z ks is rs).1 (z + ks.length) (kd, n) = (CS cy z ((kd, n) :: ks) is rs).1 := by
    funext a
    by_cases c : a = z + ks.length
    · subst c
      rw [va_up_self, CS_K, kL, if_pos rfl]
    · rw [va_up_ne _ _ c]
      show (if a < z then (0, 0) else kL ks (a - z)) = (if a < z then (0, 0) else kL ((kd, n) :: ks) (a - z))
      by_cases d : a < z
      · rw [if_pos d, if_pos d]
      · rw [if_neg d, if_neg d, kL, if_neg (by omega)]
  have e2 : va_up (CS cy z ks is rs).2.1 (z + ks.length) (fun _ => 0) = (CS cy z ((kd, n) :: ks) is rs).2.1 := by
    funext a
    by_cases c : a = z + ks.length
    · subst c
      rw [va_up_self]
      funext k
      rw [CS_I, lkI_no o1]
    · rw [va_up_ne _ _ c]; rfl
  have e3 : va_up (CS cy z ks is rs).2.2.1 (z + ks.length) (fun _ => none) = (CS cy z ((kd, n) :: ks) is rs).2.2.1 := by
    funext a
    by_cases c : a = z + ks.length
    · subst c
      rw [va_up_self]
      funext k
      rw [CS_R hz, lkR_no o2]; rfl
    · rw [va_up_ne _ _ c]; rfl
  unfold nw
  rw [CS_w, e1, e2, e3]
  rfl
theorem nwA_C (hz : 0 < z) (ok : okB ks is rs = true) {kd M : Nat} {m : Int32} (hm : ¬ (m < 0 ∨ M < m.toNatClampNeg)) : nwA (CS cy z ks is rs) kd m M = some (CS cy z ((kd, m.toNatClampNeg) :: ks) is rs) := by
  unfold nwA
  rw [if_neg hm, nw_C hz ok]
def mR (L n : Nat) : List (Nat × Nat × Nat) := (List.range n).map fun i => (L, i, L + 1 + i)
theorem kL_rep {v : Nat × Nat} : ∀ n o, kL (List.replicate n v ++ ks) o = if ks.length ≤ o ∧ o < ks.length + n then v else kL ks o := by
  intro n
  induction n with
  | zero => intro o; rw [if_neg (by omega)]; rfl
  | succ n ih =>
    intro o
    rw [List.replicate_succ, List.cons_append, kL, List.length_append, List.length_replicate, ih]
    by_cases c : o = n + ks.length
    · rw [if_pos c, if_pos (by omega)]
    · rw [if_neg c]
      by_cases d : ks.length ≤ o ∧ o < ks.length + n
      · rw [if_pos d, if_pos (by omega)]
      · rw [if_neg d, if_neg (by omega)]
theorem lkR_map {L : Nat} (h : lkR rs L = fun _ => none) : ∀ (l : List Nat) a k, lkR (l.map (fun i => (L, i, L + 1 + i)) ++ rs) a k = if a = L ∧ k ∈ l then some (L + 1 + k) else lkR rs a k := by
  intro l
  induction l with
  | nil => intro a k; simp
  | cons i l ih =>
    intro a k
    rw [List.map_cons, List.cons_append, lkR, ih]
    by_cases c : a = L
    · subst c
      by_cases d : k = i
      · subst d; simp
      · by_cases e : k ∈ l
        · simp [d, e]
        · simp [d, e]
    · simp [c]
theorem nwM_C (hz : 0 < z) (ok : okB ks is rs = true) (n m : Nat) : nwM (CS cy z ks is rs) n m = CS cy z (List.replicate n (14, m) ++ (18, n) :: ks) is (mR ks.length n ++ rs) := by
  obtain ⟨o1, o2⟩ := ok_1 ok
  have hb : ∀ a, z + ks.length ≤ a → (∀ k, (CS cy z ks is rs).2.1 a k = 0) ∧ ∀ k, lkR rs (a - z) k = none := by
    intro a ha
    have h1 : is.all (fun e => decide (e.1 < a - z)) = true := by
      rw [List.all_eq_true] at o1 ⊢
      intro e he
      have := o1 e he
      simp only [decide_eq_true_eq] at this ⊢
      omega
    have h2 : rs.all (fun e => decide (e.1 < a - z)) = true := by
      rw [List.all_eq_true] at o2 ⊢
      intro e he
      have := o2 e he
      simp only [decide_eq_true_eq] at this ⊢
      omega
    refine ⟨fun k => ?_, fun k => lkR_no h2 k⟩
    rw [show a = z + (a - z) by omega, CS_I, lkI_no h1]
  have e1 : (nwM (CS cy z ks is rs) n m).1 = (CS cy z (List.replicate n (14, m) ++ (18, n) :: ks) is (mR ks.length n ++ rs)).1 := by
    funext a
    show (if a = z + ks.length then (18, n) else if z + ks.length < a ∧ a < z + ks.length + 1 + n then (14, m) else (if a < z then (0, 0) else kL ks (a - z))) = (if a < z then (0, 0) else kL (List.replicate n (14, m) ++ (18, n) :: ks) (a - z))
    rw [kL_rep]
    by_cases c1 : a < z
    · rw [if_pos c1, if_pos c1, if_neg (by omega), if_neg (by omega)]
    · rw [if_neg c1, if_neg c1, List.length_cons]
      by_cases c2 : a = z + ks.length
      · rw [if_pos c2, if_neg (by omega), kL, if_pos (by omega)]
      · rw [if_neg c2]
        by_cases c3 : z + ks.length < a ∧ a < z + ks.length + 1 + n
        · rw [if_pos c3, if_pos (by omega)]
        · rw [if_neg c3, if_neg (by omega), kL, if_neg (by omega)]
  have e2 : (nwM (CS cy z ks is rs) n m).2.1 = (CS cy z (List.replicate n (14, m) ++ (18, n) :: ks) is (mR ks.length n ++ rs)).2.1 := by
    funext a
    show (if z + ks.length ≤ a ∧ a < z + ks.length + 1 + n then fun _ => (0 : Int32) else (CS cy z ks is rs).2.1 a) = (CS cy z ks is rs).2.1 a
    by_cases c : z + ks.length ≤ a ∧ a < z + ks.length + 1 + n
    · rw [if_pos c]
      funext k
      rw [(hb a c.1).1 k]
    · rw [if_neg c]
  have e3 : (nwM (CS cy z ks is rs) n m).2.2.1 = (CS cy z (List.replicate n (14, m) ++ (18, n) :: ks) is (mR ks.length n ++ rs)).2.2.1 := by
    funext a k
    have hm := lkR_map (rs := rs) (L := ks.length) (funext fun k => lkR_no o2 k) (List.range n) (a - z) k
    show (if a = z + ks.length then (fun i => if i < n then some (z + ks.length + 1 + i) else none) else if z + ks.length < a ∧ a < z + ks.length + 1 + n then fun _ => none else (CS cy z ks is rs).2.2.1 a) k = (if a = 0 then cx cy k else if a < z then none else (lkR ((List.range n).map (fun i => (ks.length, i, ks.length + 1 + i)) ++ rs) (a - z) k).map (fun o => z + o))
    rw [hm]
    by_cases c0 : a = 0
    · rw [if_pos c0, if_neg (by omega), if_neg (by omega)]
      show (if a = 0 then cx cy k else _) = _
      rw [if_pos c0]
    · rw [if_neg c0]
      by_cases c1 : a < z
      · rw [if_pos c1, if_neg (by omega), if_neg (by omega)]
        show (if a = 0 then cx cy k else if a < z then none else _) = _
        rw [if_neg c0, if_pos c1]
      · rw [if_neg c1]
        by_cases c2 : a = z + ks.length
        · rw [if_pos c2]
          by_cases c3 : k < n
          · rw [if_pos c3, if_pos ⟨by omega, List.mem_range.mpr c3⟩]
            show some _ = some _
            rw [show z + ks.length + 1 + k = z + (ks.length + 1 + k) by omega]
          · rw [if_neg c3, if_neg (fun q => c3 (List.mem_range.mp q.2)), (hb a (by omega)).2 k]; rfl
        · rw [if_neg c2, if_neg (show ¬ (a - z = ks.length ∧ k ∈ List.range n) by omega)]
          by_cases c3 : z + ks.length < a ∧ a < z + ks.length + 1 + n
          · rw [if_pos c3, (hb a (by omega)).2 k]; rfl
          · rw [if_neg c3]
            show (if a = 0 then cx cy k else if a < z then none else _) = _
            rw [if_neg c0, if_neg c1]
  have e4 : (nwM (CS cy z ks is rs) n m).2.2.2 = (CS cy z (List.replicate n (14, m) ++ (18, n) :: ks) is (mR ks.length n ++ rs)).2.2.2 := by
    show z + ks.length + 1 + n = z + (List.replicate n (14, m) ++ (18, n) :: ks).length
    rw [List.length_append, List.length_replicate, List.length_cons]; omega
  exact Prod.ext e1 (Prod.ext e2 (Prod.ext e3 e4))
theorem up_I {o k : Nat} {v : Int32} : up2 (CS cy z ks is rs).2.1 (z + o) k v = (CS cy z ks ((o, k, v) :: is) rs).2.1 := by
  funext a q
  show (if a = z + o then (if q = k then v else (CS cy z ks is rs).2.1 a q) else (CS cy z ks is rs).2.1 a q) = (if a < z then (0 : Int32) else lkI ((o, k, v) :: is) (a - z) q)
  by_cases c : a < z
  · rw [if_neg (by omega), if_pos c]
    show (if a < z then (0 : Int32) else _) = 0
    rw [if_pos c]
  · rw [if_neg c, lkI]
    have e : (CS cy z ks is rs).2.1 a q = lkI is (a - z) q := by
      show (if a < z then (0 : Int32) else _) = _
      rw [if_neg c]
    rw [e]
    by_cases c1 : a = z + o
    · rw [if_pos c1]
      by_cases c2 : q = k
      · rw [if_pos c2, if_pos (by omega)]
      · rw [if_neg c2, if_neg (by omega)]
    · rw [if_neg c1, if_neg (by omega)]
theorem up_R (hz : 0 < z) {o k o' : Nat} : up2 (CS cy z ks is rs).2.2.1 (z + o) k (some (z + o')) = (CS cy z ks is ((o, k, o') :: rs)).2.2.1 := by
  funext a q
  show (if a = z + o then (if q = k then some (z + o') else (CS cy z ks is rs).2.2.1 a q) else (CS cy z ks is rs).2.2.1 a q) = (if a = 0 then cx cy q else if a < z then none else (lkR ((o, k, o') :: rs) (a - z) q).map (fun o => z + o))
  have e : (CS cy z ks is rs).2.2.1 a q = (if a = 0 then cx cy q else if a < z then none else (lkR rs (a - z) q).map (fun o => z + o)) := rfl
  rw [e, lkR]
  by_cases c0 : a = 0
  · rw [if_neg (by omega), if_pos c0, if_pos c0]
  · rw [if_neg c0, if_neg c0]
    by_cases c : a < z
    · rw [if_neg (by omega), if_pos c, if_pos c]
    · rw [if_neg c, if_neg c]
      by_cases c1 : a = z + o
      · rw [if_pos c1]
        by_cases c2 : q = k
        · rw [if_pos c2, if_pos (by omega)]; rfl
        · rw [if_neg c2, if_neg (by omega)]
      · rw [if_neg c1, if_neg (by omega)]
theorem pI_C {o ci k : Nat} {v : Int32} (hk : (kL ks o).1 = ci + 1) : pI (CS cy z ks is rs) (some (z + o)) ci k v = some (CS cy z ks ((o, k, v) :: is) rs) := by
  unfold pI
  rw [Option.bind_some, CS_K, if_pos hk, up_I]
  rfl
theorem pR_C (hz : 0 < z) {o ci k o' : Nat} (hk : (kL ks o).1 = ci + 1) : pR (CS cy z ks is rs) (some (z + o)) ci k (some (z + o')) = some (CS cy z ks is ((o, k, o') :: rs)) := by
  unfold pR
  rw [Option.bind_some, CS_K, if_pos hk, up_R hz]
  rfl
theorem pR_C0 (hz : 0 < z) {ci k o' : Nat} (hk : (kL ks 0).1 = ci + 1) : pR (CS cy z ks is rs) (some z) ci k (some (z + o')) = some (CS cy z ks is ((0, k, o') :: rs)) := pR_C (o := 0) hz hk
theorem sI_C {o kd : Nat} {i v : Int32} (hk : (kL ks o).1 = kd ∧ ¬ (i < 0 ∨ (kL ks o).2 ≤ i.toNatClampNeg)) : sI (CS cy z ks is rs) (some (z + o)) kd i v = some (CS cy z ks ((o, i.toNatClampNeg, nar kd v) :: is) rs) := by
  unfold sI
  rw [Option.bind_some, CS_K, if_pos hk, up_I]
  rfl
theorem sR_C (hz : 0 < z) {o kd o' : Nat} {i : Int32} (hk : (kL ks o).1 = kd ∧ ¬ (i < 0 ∨ (kL ks o).2 ≤ i.toNatClampNeg)) : sR (CS cy z ks is rs) (some (z + o)) kd i (some (z + o')) = some (CS cy z ks is ((o, i.toNatClampNeg, o') :: rs)) := by
  unfold sR
  rw [Option.bind_some, CS_K, if_pos hk, up_R hz]
  rfl
theorem gR_C (hz : 0 < z) {o ci k o' : Nat} (hk : (kL ks o).1 = ci + 1) (h : lkR rs o k = some o') : gR (CS cy z ks is rs) (some (z + o)) ci k = some (some (z + o')) := by
  unfold gR
  rw [Option.bind_some, CS_K, if_pos hk, CS_R hz, h]
  rfl
theorem gR_s (hz : 0 < z) (hk : (kL ks 0).1 = 11) (h : lkR rs 0 0 = some 1) : gR (CS cy z ks is rs) (some z) 10 0 = some (some (z + 1)) := gR_C (o := 0) hz hk h
theorem gR_r (hz : 0 < z) (hk : (kL ks 82).1 = 12) (h : lkR rs 82 12 = some 92) : gR (CS cy z ks is rs) (some (z + 82)) 11 12 = some (some (z + 92)) := gR_C hz hk h
theorem cK_C {o ci : Nat} {β : Type} {f : Option β} (hk : (kL ks o).1 = ci + 1) : cK (CS cy z ks is rs) (some (z + o)) ci f = f := by
  unfold cK
  rw [Option.bind_some, CS_K, if_pos hk]
end N1
