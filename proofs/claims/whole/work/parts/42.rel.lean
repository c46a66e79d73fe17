-- the ticks, as a list, out of the reference's rows
def wayI (x0 y0 x1 y1 : Int32) : Int32 := mx (ab (x1 - x0)) (ab (y1 - y0))
def stepsI (sp w : Int32) : Int32 := (w + sp - 1) / sp
/-- a move's ticks -/
def mvL (sp x0 y0 x1 y1 lit : Int32) : List (Int32 × Int32 × Int32) := (List.range (stepsI sp (wayI x0 y0 x1 y1)).toNatClampNeg).map fun k => (x0 + (x1 - x0) * nI (k + 1) / stepsI sp (wayI x0 y0 x1 y1), y0 + (y1 - y0) * nI (k + 1) / stepsI sp (wayI x0 y0 x1 y1), lit)
def stL (n : Nat) (x y lit : Int32) : List (Int32 × Int32 × Int32) := List.replicate n (x, y, lit)
def holdI (ax ay bx b_y : Int32) : Nat := if ax * bx + ay * b_y < 0 then 2 else if ax * b_y - ay * bx = 0 then 0 else 1
/-- which point comes i-th -/
def pt (b : Int32) (n i : Nat) : Nat := if b = 0 then i else n - 1 - i
/-- the ticks of a stroke from its point i on -/
def ptsL (sp : Int32) (n : Nat) (X Y : Nat → Int32) : Nat → Nat → List (Int32 × Int32 × Int32)
  | 0, _ => []
  | f + 1, i => if i < n then mvL sp (X (i - 1)) (Y (i - 1)) (X i) (Y i) 1 ++ (if i + 1 < n then stL (holdI (X i - X (i - 1)) (Y i - Y (i - 1)) (X (i + 1) - X i) (Y (i + 1) - Y i)) (X i) (Y i) 1 else []) ++ ptsL sp n X Y f (i + 1) else []
def strokeL (sp : Int32) (wt : Nat) (n : Nat) (X Y : Nat → Int32) (x y : Int32) : List (Int32 × Int32 × Int32) := mvL sp x y (X 0) (Y 0) 0 ++ stL wt (X 0) (Y 0) 0 ++ stL 1 (X 0) (Y 0) 1 ++ ptsL sp n X Y n 1 ++ stL wt (X (n - 1)) (Y (n - 1)) 0
/-- the ticks of the strokes from the k-th of the plan on, from x, y -/
def planL (sp : Int32) (wt : Nat) (pn px py od bk : Nat → Int32) (h : Nat) : Nat → Nat → Int32 → Int32 → List (Int32 × Int32 × Int32)
  | 0, _, x, y => mvL sp x y 0 0 0
  | f + 1, k, x, y => if k < h then
      strokeL sp wt (pn (od k).toNatClampNeg).toNatClampNeg (fun i => px (8 * (od k).toNatClampNeg + pt (bk k) (pn (od k).toNatClampNeg).toNatClampNeg i)) (fun i => py (8 * (od k).toNatClampNeg + pt (bk k) (pn (od k).toNatClampNeg).toNatClampNeg i)) x y ++
      planL sp wt pn px py od bk h f (k + 1) (px (8 * (od k).toNatClampNeg + pt (bk k) (pn (od k).toNatClampNeg).toNatClampNeg ((pn (od k).toNatClampNeg).toNatClampNeg - 1))) (py (8 * (od k).toNatClampNeg + pt (bk k) (pn (od k).toNatClampNeg).toNatClampNeg ((pn (od k).toNatClampNeg).toNatClampNeg - 1)))
    else mvL sp x y 0 0 0
def TKL (z h : Nat) (I : Nat → Nat → Int32) : List (Int32 × Int32 × Int32) := planL (I (z + 92) 0) (I (z + 92) 1).toNatClampNeg (I (z + 86)) (I (z + 87)) (I (z + 88)) (I (z + 89)) (I (z + 90)) h h 0 0 0
/-- a mirror: speed and place behind n ticks -/
def mirF (k d : Int32) (T : Nat → Int32) : Nat → Int32 × Int32
  | 0 => (0, 0)
  | n + 1 => ((mirF k d T n).1 + ((T n - (mirF k d T n).2) * k - (mirF k d T n).1 * d) / 16, (mirF k d T n).2 + ((mirF k d T n).1 + ((T n - (mirF k d T n).2) * k - (mirF k d T n).1 * d) / 16))
def inI (v a b : Int32) : Bool := decide (a ≤ v) && decide (v ≤ b)
/-- shut, by the first n zones -/
def shutF (zo zr : Nat → Int32) (x y : Int32) : Nat → Bool
  | 0 => false
  | n + 1 => shutF zo zr x y n || (decide (zo n ≠ 0) && inI x (zr (4 * n)) (zr (4 * n + 2)) && inI y (zr (4 * n + 1)) (zr (4 * n + 3)))
/-- the light comes at tick i -/
def comesF (dl : Nat) (lit : Nat → Int32) (i : Nat) : Bool := decide (dl ≤ i) && decide (lit (i - dl) ≠ 0)
def cntB (p : Nat → Bool) : Nat → Nat
  | 0 => 0
  | n + 1 => cntB p n + (if p n then 1 else 0)
def maxF (f : Nat → Int32) : Nat → Int32
  | 0 => 0
  | n + 1 => mx (maxF f n) (f n)
/-- what the sums are made of: per tick, told lit, shut, seen; the lag -/
def seenF (z : Nat) (I : Nat → Nat → Int32) (i : Nat) : Bool := comesF (I (z + 92) 4).toNatClampNeg (I (z + 15)) i && !shutF (I (z + 93)) (I (z + 94)) (I (z + 16) i) (I (z + 17) i) 4
def lagF (z : Nat) (I : Nat → Nat → Int32) (i : Nat) : Int32 := if I (z + 15) i = 0 then 0 else wayI (I (z + 13) i) (I (z + 14) i) (I (z + 16) i) (I (z + 17) i)
def cellF (x y : Int32) (a b : Nat) : Bool := inI x 0 1000 && inI y 0 1000 && decide (x.toNatClampNeg / 100 = a) && decide (y.toNatClampNeg / 100 = b)
def burnF (z : Nat) (I : Nat → Nat → Int32) (a b n : Nat) : Nat := cntB (fun i => seenF z I i && cellF (I (z + 16) i) (I (z + 17) i) a b) n
def maxN (f : Nat → Nat) : Nat → Nat
  | 0 => 0
  | n + 1 => max (maxN f n) (f n)
-- the parts of the invariant
def RSheets (z : Nat) (I : Nat → Nat → Int32) : Prop := ∀ i, i < 8 → I (z + (66 + 2 * i)) 1 = I (z + 83) i ∧ I (z + (66 + 2 * i)) 2 = I (z + 84) i ∧ (I (z + 83) i = -1 ∨ I (z + 83) i = 0 ∨ I (z + 83) i = 1 ∨ I (z + 83) i = 2) ∧ (∃ n, n ≤ 40 ∧ I (z + 84) i = nI n) ∧ ∀ j, j < 40 → I (z + (67 + 2 * i)) j = I (z + 85) (40 * i + j)
/-- the kind of a stroke: spot 8, loop 3, line 2 -/
def kn (n : Nat) (X Y : Nat → Int32) : Nat := if n = 1 then 8 else if 2 < n ∧ X 0 = X (n - 1) ∧ Y 0 = Y (n - 1) then 3 else 2
def RStroke (z : Nat) (K : Nat → Nat × Nat) (I : Nat → Nat → Int32) (R : Nat → Nat → Option Nat) (k n : Nat) : Prop := 1 ≤ n ∧ n ≤ 8 ∧ I (z + 86) k = nI n ∧ R (z + 3) k = some (z + (108 + 3 * k)) ∧ K (z + (106 + 3 * k)) = (14, n) ∧ K (z + (107 + 3 * k)) = (14, n) ∧ R (z + (108 + 3 * k)) 0 = some (z + (106 + 3 * k)) ∧ R (z + (108 + 3 * k)) 1 = some (z + (107 + 3 * k)) ∧ (K (z + (108 + 3 * k))).1 = kn n (I (z + (106 + 3 * k))) (I (z + (107 + 3 * k))) ∧ ∀ j, j < n → ∃ x y, x ≤ 1000 ∧ y ≤ 1000 ∧ I (z + (106 + 3 * k)) j = nI x ∧ I (z + 87) (8 * k + j) = nI x ∧ I (z + (107 + 3 * k)) j = nI y ∧ I (z + 88) (8 * k + j) = nI y
def RStrokes (z h : Nat) (K : Nat → Nat × Nat) (I : Nat → Nat → Int32) (R : Nat → Nat → Option Nat) : Prop := I (z + 2) 3 = nI h ∧ I (z + 82) 5 = nI h ∧ ∀ k, k < h → ∃ n, RStroke z K I R k n
def RPlan (z h : Nat) (I : Nat → Nat → Int32) : Prop := ∀ k, k < h → ∃ q, q < h ∧ I (z + 4) k = nI q ∧ I (z + 89) k = nI q ∧ (I (z + 5) k = 0 ∨ I (z + 5) k = 1) ∧ I (z + 90) k = I (z + 5) k
/-- the ends of turn t: where it begins -/
def tuX (z : Nat) (I : Nat → Nat → Int32) (t : Nat) : Int32 := I (z + 87) (8 * (t / 2) + (if t % 2 = 0 then 0 else (I (z + 86) (t / 2)).toNatClampNeg - 1))
def tuY (z : Nat) (I : Nat → Nat → Int32) (t : Nat) : Int32 := I (z + 88) (8 * (t / 2) + (if t % 2 = 0 then 0 else (I (z + 86) (t / 2)).toNatClampNeg - 1))
def tuO (t : Nat) : Nat := if t % 2 = 0 then t + 1 else t - 1
/-- the first least -/
def mnF (p : Nat → Bool) (v : Nat → Nat) : Nat → Option (Nat × Nat)
  | 0 => none
  | n + 1 => match mnF p v n with
    | none => if p n = true then some (n, v n) else none
    | some (b, l) => if p n = true ∧ v n < l then some (n, v n) else some (b, l)
def tC (z : Nat) (I : Nat → Nat → Int32) (t u : Nat) : Nat := (wayI (tuX z I (tuO t)) (tuY z I (tuO t)) (tuX z I u) (tuY z I u)).toNatClampNeg
def tE (z : Nat) (I : Nat → Nat → Int32) (t : Nat) : Nat := (wayI (tuX z I (tuO t)) (tuY z I (tuO t)) 0 0).toNatClampNeg
/-- the least dark way from the end of turn t on, the strokes in g being gone -/
def WlF (N : Nat) (C : Nat → Nat → Nat) (E : Nat → Nat) : Nat → Nat → Nat → Nat
  | 0, _, t => E t
  | f + 1, g, t => match mnF (fun u => !g.testBit (u / 2)) (fun u => C t u + WlF N C E f (g ||| 2 ^ (u / 2)) u) N with
    | none => E t
    | some (_, l) => l
/-- how many strokes are not gone -/
def rmB (h g : Nat) : Nat := cntB (fun i => !g.testBit i) h
def RBest (z h : Nat) (I : Nat → Nat → Int32) : Prop := (∃ q, q ≤ h ∧ I (z + 6) 4 = nI q) ∧ (0 < h → I (z + 6) 4 = nI h → I (z + 6) 3 = nI (2 * h) ∧ (∀ t, t < 2 * h → I (z + 7) t = tuX z I t ∧ I (z + 8) t = tuY z I t) ∧ ∀ g, 0 < g → g < 2 ^ h → ∀ t, t < 2 * h → g.testBit (t / 2) = true → I (z + 9) (g * 16 + t) = nI (WlF (2 * h) (tC z I) (tE z I) (rmB h g) g t))
def RRules (z : Nat) (I : Nat → Nat → Int32) : Prop := (∀ k, k < 6 → I (z + 11) k = I (z + 92) k) ∧ ∀ k, k < 6 → ∃ n, (tbL.getD k 0).toNatClampNeg ≤ n ∧ n ≤ (tbM.getD k 0).toNatClampNeg ∧ I (z + 92) k = nI n
def RZones (z : Nat) (I : Nat → Nat → Int32) : Prop := ∀ k, k < 4 → I (z + 35) k = I (z + 93) k ∧ (I (z + 93) k = 0 ∨ I (z + 93) k = 1) ∧ ∀ c, c < 4 → I (z + (31 + k)) c = I (z + 94) (4 * k + c)
def RPath (z h : Nat) (I : Nat → Nat → Int32) : Prop := ((TKL z h I).length ≤ 2000 → I (z + 12) 3 = nI (TKL z h I).length ∧ I (z + 12) 4 = 0 ∧ ∀ i, i < (TKL z h I).length → (TKL z h I)[i]? = some (I (z + 13) i, I (z + 14) i, I (z + 15) i)) ∧ (2000 < (TKL z h I).length → I (z + 12) 4 = 1)
def RMir (z h : Nat) (I : Nat → Nat → Int32) : Prop := ∀ i, i < (TKL z h I).length → I (z + 16) i = (mirF (I (z + 92) 2) (I (z + 92) 3) (I (z + 13)) (i + 1)).2 ∧ I (z + 17) i = (mirF (I (z + 92) 2) (I (z + 92) 3) (I (z + 14)) (i + 1)).2
def RSum (z h : Nat) (I : Nat → Nat → Int32) : Prop := I (z + 10) 5 = nI (cntB (fun i => decide (I (z + 15) i ≠ 0)) (TKL z h I).length) ∧ I (z + 10) 6 = nI (cntB (seenF z I) (TKL z h I).length) ∧ I (z + 10) 7 = nI (cntB (fun i => shutF (I (z + 93)) (I (z + 94)) (I (z + 16) i) (I (z + 17) i) 4) (TKL z h I).length) ∧ I (z + 10) 8 = maxF (lagF z I) (TKL z h I).length ∧ (∀ a b, a < 11 → b < 11 → I (z + (19 + a)) b = nI (burnF z I a b (TKL z h I).length)) ∧ I (z + 10) 9 = nI (maxN (fun q => burnF z I (q % 11) (q / 11) (TKL z h I).length) 121)
def RShow (z h : Nat) (I : Nat → Nat → Int32) : Prop := ∃ sg, sg ≤ 3 ∧ I (z + 10) 12 = nI sg ∧ (1 ≤ sg → RPath z h I) ∧ (2 ≤ sg → (TKL z h I).length ≤ 2000 → RMir z h I) ∧ (3 ≤ sg → (TKL z h I).length ≤ 2000 → RSum z h I)
/-- the kept cues lie in the one row of rows or in the other -/
def RCues (z : Nat) (I : Nat → Nat → Int32) (R : Nat → Nat → Option Nat) : Prop := (∃ t, t ≤ 300 ∧ I (z + 36) 1 = nI t ∧ I (z + 82) 27 = nI t ∧ ∀ k, k < t → ∃ c, c < 256 ∧ I (z + 102) k = nI c ∧ I (z + 37) k = (nI c).toInt8.toInt32) ∧ I (z + 36) 3 = I (z + 82) 28 ∧
  ∃ q p n, ((q = 38 ∧ p = 51) ∨ (q = 51 ∧ p = 38)) ∧ R (z + 36) 4 = some (z + q) ∧ R (z + 36) 5 = some (z + p) ∧ n ≤ 12 ∧ I (z + 36) 2 = nI n ∧ I (z + 82) 36 = nI n ∧ (∀ i, i < n → ∃ f s a b, f ≤ 9999 ∧ a ≤ 9999 ∧ b ≤ 9999 ∧ s ≤ 2 ∧ (s = 2 → a ≤ 100) ∧ I (z + 103) (4 * i) = nI f ∧ I (z + 103) (4 * i + 1) = nI s ∧ I (z + 103) (4 * i + 2) = nI a ∧ I (z + 103) (4 * i + 3) = nI b ∧ I (z + (q + 1 + i)) 0 = nI f ∧ I (z + (q + 1 + i)) 1 = nI s ∧ (s ≠ 1 → I (z + (q + 1 + i)) 2 = nI a) ∧ (s = 2 → I (z + (q + 1 + i)) 3 = nI b)) ∧ ∀ i, i + 1 < n → I (z + 103) (4 * i) ≤ I (z + 103) (4 * (i + 1))
def RTrace (z : Nat) (I : Nat → Nat → Int32) : Prop := ∃ t, t ≤ 16 ∧ I (z + 64) 1 = nI t ∧ I (z + 82) 41 = nI t ∧ ∀ k, k < t → I (z + 65) k = I (z + 105) k
/-- the constants' addresses -/
def RCst (R : Nat → Nat → Option Nat) : Prop := R 0 4 ≠ R 0 5 ∧ (∀ i j, i < 4 → j < 4 → R 0 i = R 0 j → i = j) ∧ ∀ i j, i < 4 → j < 4 → R 0 (10 + i) = R 0 (10 + j) → i = j
/-- THE INVARIANT between class and reference -/
def Rel (z : Nat) (S : St) : Prop := ∃ h, h ≤ 8 ∧ 0 < z ∧ S.2.2.2 = z + (106 + 3 * h) ∧ Shp z S.1 S.2.2.1 ∧ RCst S.2.2.1 ∧ S.2.1 z 6 = S.2.1 (z + 82) 1 ∧ RSheets z S.2.1 ∧ RStrokes z h S.1 S.2.1 S.2.2.1 ∧ RPlan z h S.2.1 ∧ RBest z h S.2.1 ∧ RRules z S.2.1 ∧ RZones z S.2.1 ∧ RShow z h S.2.1 ∧ RCues z S.2.1 S.2.2.1 ∧ RTrace z S.2.1
