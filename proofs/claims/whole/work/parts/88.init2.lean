def kS0 : List (Nat × Nat) := [(11, 0)]
def iS0 : List (Nat × Nat × Int32) := []
def rS0 : List (Nat × Nat × Nat) := []
theorem lS0 : kS0.length = 1 := by decide +kernel
def kS1 : List (Nat × Nat) := [(9, 0), (16, 8)] ++ kS0
def iS1 : List (Nat × Nat × Int32) := [] ++ iS0
def rS1 : List (Nat × Nat × Nat) := [(0, 0, 1)] ++ rS0
theorem lS1 : kS1.length = 3 := by decide +kernel
def kS2 : List (Nat × Nat) := [(14, 8), (14, 8), (17, 8)] ++ kS1
def iS2 : List (Nat × Nat × Int32) := [] ++ iS1
def rS2 : List (Nat × Nat × Nat) := [(2, 2, 5), (2, 1, 4), (2, 0, 3)] ++ rS1
theorem lS2 : kS2.length = 6 := by decide +kernel
def kS3 : List (Nat × Nat) := [(5, 0)] ++ kS2
def iS3 : List (Nat × Nat × Int32) := [] ++ iS2
def rS3 : List (Nat × Nat × Nat) := [(0, 1, 2)] ++ rS2
theorem lS3 : kS3.length = 7 := by decide +kernel
def kS4 : List (Nat × Nat) := [(14, 4096), (14, 16), (14, 16)] ++ kS3
def iS4 : List (Nat × Nat × Int32) := [] ++ iS3
def rS4 : List (Nat × Nat × Nat) := [(6, 2, 9), (6, 1, 8), (6, 0, 7)] ++ rS3
theorem lS4 : kS4.length = 10 := by decide +kernel
def kS5 : List (Nat × Nat) := [(7, 0)] ++ kS4
def iS5 : List (Nat × Nat × Int32) := [] ++ iS4
def rS5 : List (Nat × Nat × Nat) := [(0, 2, 6)] ++ rS4
theorem lS5 : kS5.length = 11 := by decide +kernel
def kS6 : List (Nat × Nat) := [(4, 0), (14, 6)] ++ kS5
def iS6 : List (Nat × Nat × Int32) := [(11, 5, 40), (11, 4, 0), (11, 3, 10), (11, 2, 8), (11, 1, 1), (11, 0, 50)] ++ iS5
def rS6 : List (Nat × Nat × Nat) := [(10, 0, 11)] ++ rS5
theorem lS6 : kS6.length = 13 := by decide +kernel
def kS7 : List (Nat × Nat) := [(15, 2000), (14, 2000), (14, 2000)] ++ kS6
def iS7 : List (Nat × Nat × Int32) := [] ++ iS6
def rS7 : List (Nat × Nat × Nat) := [(12, 2, 15), (12, 1, 14), (12, 0, 13)] ++ rS6
theorem lS7 : kS7.length = 16 := by decide +kernel
def kS8 : List (Nat × Nat) := [(15, 4), (14, 4), (14, 4), (14, 4), (14, 4), (18, 4), (14, 11), (14, 11), (14, 11), (14, 11), (14, 11), (14, 11), (14, 11), (14, 11), (14, 11), (14, 11), (14, 11), (18, 11), (14, 2000), (14, 2000)] ++ kS7
def iS8 : List (Nat × Nat × Int32) := [(10, 12, 0)] ++ iS7
def rS8 : List (Nat × Nat × Nat) := [(10, 11, 35), (10, 10, 30), (30, 0, 31), (30, 1, 32), (30, 2, 33), (30, 3, 34), (10, 4, 18), (18, 0, 19), (18, 1, 20), (18, 2, 21), (18, 3, 22), (18, 4, 23), (18, 5, 24), (18, 6, 25), (18, 7, 26), (18, 8, 27), (18, 9, 28), (18, 10, 29), (10, 3, 17), (10, 2, 16), (10, 1, 12)] ++ rS7
theorem lS8 : kS8.length = 36 := by decide +kernel
def kS9 : List (Nat × Nat) := [(1, 0)] ++ kS8
def iS9 : List (Nat × Nat × Int32) := [] ++ iS8
def rS9 : List (Nat × Nat × Nat) := [(0, 3, 10)] ++ rS8
theorem lS9 : kS9.length = 37 := by decide +kernel
def kS10 : List (Nat × Nat) := [(14, 4), (14, 4), (14, 4), (14, 4), (14, 4), (14, 4), (14, 4), (14, 4), (14, 4), (14, 4), (14, 4), (14, 4), (18, 12), (14, 4), (14, 4), (14, 4), (14, 4), (14, 4), (14, 4), (14, 4), (14, 4), (14, 4), (14, 4), (14, 4), (14, 4), (18, 12), (13, 300)] ++ kS9
def iS10 : List (Nat × Nat × Int32) := [] ++ iS9
def rS10 : List (Nat × Nat × Nat) := [(36, 5, 51), (51, 0, 52), (51, 1, 53), (51, 2, 54), (51, 3, 55), (51, 4, 56), (51, 5, 57), (51, 6, 58), (51, 7, 59), (51, 8, 60), (51, 9, 61), (51, 10, 62), (51, 11, 63), (36, 4, 38), (38, 0, 39), (38, 1, 40), (38, 2, 41), (38, 3, 42), (38, 4, 43), (38, 5, 44), (38, 6, 45), (38, 7, 46), (38, 8, 47), (38, 9, 48), (38, 10, 49), (38, 11, 50), (36, 0, 37)] ++ rS9
theorem lS10 : kS10.length = 64 := by decide +kernel
def kS11 : List (Nat × Nat) := [(10, 0)] ++ kS10
def iS11 : List (Nat × Nat × Int32) := [] ++ iS10
def rS11 : List (Nat × Nat × Nat) := [(0, 4, 36)] ++ rS10
theorem lS11 : kS11.length = 65 := by decide +kernel
def kS12 : List (Nat × Nat) := [(14, 16)] ++ kS11
def iS12 : List (Nat × Nat × Int32) := [] ++ iS11
def rS12 : List (Nat × Nat × Nat) := [(64, 0, 65)] ++ rS11
theorem lS12 : kS12.length = 66 := by decide +kernel
def kS13 : List (Nat × Nat) := [(14, 40), (6, 0), (14, 40), (6, 0), (14, 40), (6, 0), (14, 40), (6, 0), (14, 40), (6, 0), (14, 40), (6, 0), (14, 40), (6, 0), (14, 40), (6, 0)] ++ kS12
def iS13 : List (Nat × Nat × Int32) := [(80, 1, -1), (78, 1, -1), (76, 1, -1), (74, 1, -1), (72, 1, -1), (70, 1, -1), (68, 1, -1), (66, 1, -1)] ++ iS12
def rS13 : List (Nat × Nat × Nat) := [(1, 7, 80), (80, 0, 81), (1, 6, 78), (78, 0, 79), (1, 5, 76), (76, 0, 77), (1, 4, 74), (74, 0, 75), (1, 3, 72), (72, 0, 73), (1, 2, 70), (70, 0, 71), (1, 1, 68), (68, 0, 69), (1, 0, 66), (66, 0, 67), (0, 5, 64)] ++ rS12
theorem lS13 : kS13.length = 82 := by decide +kernel
def kS14 : List (Nat × Nat) := [(12, 0)] ++ kS13
def iS14 : List (Nat × Nat × Int32) := [] ++ iS13
def rS14 : List (Nat × Nat × Nat) := [] ++ rS13
theorem lS14 : kS14.length = 83 := by decide +kernel
def kS15 : List (Nat × Nat) := [(14, 16), (14, 48), (14, 48), (14, 300), (14, 121), (15, 2000), (14, 2000), (14, 2000), (15, 2000), (14, 2000), (14, 2000), (14, 16), (15, 4), (14, 6), (14, 4096), (14, 8), (14, 8), (14, 64), (14, 64), (14, 8), (14, 320), (14, 8), (14, 8)] ++ kS14
def iS15 : List (Nat × Nat × Int32) := [(83, 7, -1), (83, 6, -1), (83, 5, -1), (83, 4, -1), (83, 3, -1), (83, 2, -1), (83, 1, -1), (83, 0, -1)] ++ iS14
def rS15 : List (Nat × Nat × Nat) := [(82, 40, 105), (82, 39, 104), (82, 37, 103), (82, 26, 102), (82, 23, 101), (82, 22, 100), (82, 21, 99), (82, 20, 98), (82, 19, 97), (82, 18, 96), (82, 17, 95), (82, 14, 94), (82, 13, 93), (82, 12, 92), (82, 11, 91), (82, 10, 90), (82, 9, 89), (82, 8, 88), (82, 7, 87), (82, 6, 86), (82, 4, 85), (82, 3, 84), (82, 2, 83)] ++ rS14
theorem lS15 : kS15.length = 106 := by decide +kernel
def kS16 : List (Nat × Nat) := [] ++ kS15
def iS16 : List (Nat × Nat × Int32) := [(92, 5, 40), (92, 4, 0), (92, 3, 10), (92, 2, 8), (92, 1, 1), (92, 0, 50)] ++ iS15
def rS16 : List (Nat × Nat × Nat) := [] ++ rS15
theorem lS16 : kS16.length = 106 := by decide +kernel
theorem tn0 : (0 : Int32).toNatClampNeg = 0 := by decide +kernel
theorem tn1 : (1 : Int32).toNatClampNeg = 1 := by decide +kernel
theorem tn2 : (2 : Int32).toNatClampNeg = 2 := by decide +kernel
theorem tn3 : (3 : Int32).toNatClampNeg = 3 := by decide +kernel
theorem tn4 : (4 : Int32).toNatClampNeg = 4 := by decide +kernel
theorem tn5 : (5 : Int32).toNatClampNeg = 5 := by decide +kernel
theorem tn6 : (6 : Int32).toNatClampNeg = 6 := by decide +kernel
theorem tn7 : (7 : Int32).toNatClampNeg = 7 := by decide +kernel
theorem tn8 : (8 : Int32).toNatClampNeg = 8 := by decide +kernel
theorem tn16 : (16 : Int32).toNatClampNeg = 16 := by decide +kernel
theorem tn4096 : (4096 : Int32).toNatClampNeg = 4096 := by decide +kernel
theorem tn2000 : (2000 : Int32).toNatClampNeg = 2000 := by decide +kernel
theorem tn300 : (300 : Int32).toNatClampNeg = 300 := by decide +kernel
theorem tn40 : (40 : Int32).toNatClampNeg = 40 := by decide +kernel
theorem tn320 : (320 : Int32).toNatClampNeg = 320 := by decide +kernel
theorem tn64 : (64 : Int32).toNatClampNeg = 64 := by decide +kernel
theorem tn121 : (121 : Int32).toNatClampNeg = 121 := by decide +kernel
theorem tn48 : (48 : Int32).toNatClampNeg = 48 := by decide +kernel
section N2
variable {z : Nat} {cy : Nat → ClassId}
set_option maxRecDepth 100000
theorem in9 (hz : 0 < z) : f_X9_init (z + 2) (CS cy z kS1 iS1 rS1) = some (CS cy z kS2 iS2 rS2) := by
  unfold f_X9_init
  simp (disch := decide +kernel) only [lt1, nw_C hz, nwA_C hz, nwM_C hz, CS_w, List.length_cons, List.length_append, List.length_replicate, Nat.reduceAdd, lS0, lS1, lS2, lS3, lS4, lS5, lS6, lS7, lS8, lS9, lS10, lS11, lS12, lS13, lS14, lS15, lS16, tn0, tn1, tn2, tn3, tn4, tn5, tn6, tn7, tn8, tn16, tn4096, tn2000, tn300, tn40, tn320, tn64, tn121, tn48, pR_C hz, pR_C0 hz, pI_C, sI_C, sR_C hz, cK_C, gR_s hz, gR_r hz, nar14, Option.bind_some]
  rfl
theorem in4 (hz : 0 < z) : f_X4_init (z + 6) (CS cy z kS3 iS3 rS3) = some (CS cy z kS4 iS4 rS4) := by
  unfold f_X4_init
  simp (disch := decide +kernel) only [lt1, nw_C hz, nwA_C hz, nwM_C hz, CS_w, List.length_cons, List.length_append, List.length_replicate, Nat.reduceAdd, lS0, lS1, lS2, lS3, lS4, lS5, lS6, lS7, lS8, lS9, lS10, lS11, lS12, lS13, lS14, lS15, lS16, tn0, tn1, tn2, tn3, tn4, tn5, tn6, tn7, tn8, tn16, tn4096, tn2000, tn300, tn40, tn320, tn64, tn121, tn48, pR_C hz, pR_C0 hz, pI_C, sI_C, sR_C hz, cK_C, gR_s hz, gR_r hz, nar14, Option.bind_some]
  rfl
theorem in3 (hz : 0 < z) : f_X3_init (z + 12) (CS cy z kS6 iS6 rS6) = some (CS cy z kS7 iS7 rS7) := by
  unfold f_X3_init
  simp (disch := decide +kernel) only [lt1, nw_C hz, nwA_C hz, nwM_C hz, CS_w, List.length_cons, List.length_append, List.length_replicate, Nat.reduceAdd, lS0, lS1, lS2, lS3, lS4, lS5, lS6, lS7, lS8, lS9, lS10, lS11, lS12, lS13, lS14, lS15, lS16, tn0, tn1, tn2, tn3, tn4, tn5, tn6, tn7, tn8, tn16, tn4096, tn2000, tn300, tn40, tn320, tn64, tn121, tn48, pR_C hz, pR_C0 hz, pI_C, sI_C, sR_C hz, cK_C, gR_s hz, gR_r hz, nar14, Option.bind_some]
  rfl
theorem fo1 : CS cy z ((9, 0) :: (16, 8) :: kS0) iS0 ((0, 0, 1) :: rS0) = (CS cy z kS1 iS1 rS1) := rfl
theorem fo3 : CS cy z ((5, 0) :: kS2) iS2 ((0, 1, 2) :: rS2) = (CS cy z kS3 iS3 rS3) := rfl
theorem fo5 : CS cy z ((7, 0) :: kS4) iS4 ((0, 2, 6) :: rS4) = (CS cy z kS5 iS5 rS5) := rfl
theorem fo6 : CS cy z ((4, 0) :: (14, 6) :: kS5) ((11, 5, 40) :: (11, 4, 0) :: (11, 3, 10) :: (11, 2, 8) :: (11, 1, 1) :: (11, 0, 50) :: iS5) ((10, 0, 11) :: rS5) = (CS cy z kS6 iS6 rS6) := rfl
theorem fo9 : CS cy z ((1, 0) :: kS8) iS8 ((0, 3, 10) :: rS8) = (CS cy z kS9 iS9 rS9) := rfl
theorem fo11 : CS cy z ((10, 0) :: kS10) iS10 ((0, 4, 36) :: rS10) = (CS cy z kS11 iS11 rS11) := rfl
theorem in6 (hz : 0 < z) : f_X6_init (z + 10) (CS cy z kS5 iS5 rS5) = some (CS cy z kS8 iS8 rS8) := by
  unfold f_X6_init
  simp (disch := decide +kernel) only [lt1, nw_C hz, nwA_C hz, nwM_C hz, CS_w, List.length_cons, List.length_append, List.length_replicate, Nat.reduceAdd, lS0, lS1, lS2, lS3, lS4, lS5, lS6, lS7, lS8, lS9, lS10, lS11, lS12, lS13, lS14, lS15, lS16, tn0, tn1, tn2, tn3, tn4, tn5, tn6, tn7, tn8, tn16, tn4096, tn2000, tn300, tn40, tn320, tn64, tn121, tn48, pR_C hz, pR_C0 hz, pI_C, sI_C, sR_C hz, cK_C, gR_s hz, gR_r hz, nar14, Option.bind_some, fo6, in3 hz]
  rfl
theorem in0 (hz : 0 < z) : f_X0_init (z + 36) (CS cy z kS9 iS9 rS9) = some (CS cy z kS10 iS10 rS10) := by
  unfold f_X0_init
  simp (disch := decide +kernel) only [lt1, nw_C hz, nwA_C hz, nwM_C hz, CS_w, List.length_cons, List.length_append, List.length_replicate, Nat.reduceAdd, lS0, lS1, lS2, lS3, lS4, lS5, lS6, lS7, lS8, lS9, lS10, lS11, lS12, lS13, lS14, lS15, lS16, tn0, tn1, tn2, tn3, tn4, tn5, tn6, tn7, tn8, tn16, tn4096, tn2000, tn300, tn40, tn320, tn64, tn121, tn48, pR_C hz, pR_C0 hz, pI_C, sI_C, sR_C hz, cK_C, gR_s hz, gR_r hz, nar14, Option.bind_some]
  rfl
theorem in10 (hz : 0 < z) : f_X10_init (z + 64) (CS cy z kS11 iS11 rS11) = some (CS cy z kS12 iS12 rS12) := by
  unfold f_X10_init
  simp (disch := decide +kernel) only [lt1, nw_C hz, nwA_C hz, nwM_C hz, CS_w, List.length_cons, List.length_append, List.length_replicate, Nat.reduceAdd, lS0, lS1, lS2, lS3, lS4, lS5, lS6, lS7, lS8, lS9, lS10, lS11, lS12, lS13, lS14, lS15, lS16, tn0, tn1, tn2, tn3, tn4, tn5, tn6, tn7, tn8, tn16, tn4096, tn2000, tn300, tn40, tn320, tn64, tn121, tn48, pR_C hz, pR_C0 hz, pI_C, sI_C, sR_C hz, cK_C, gR_s hz, gR_r hz, nar14, Option.bind_some]
  rfl
theorem in5 {ks : List (Nat × Nat)} {is : List (Nat × Nat × Int32)} {rs : List (Nat × Nat × Nat)} {o : Nat} (hz : 0 < z) (ok : okB ks is rs = true) (hk : (kL ((14, 40) :: ks) o).1 = 5 + 1) : f_X5_init (z + o) (CS cy z ks is rs) = some (CS cy z ((14, 40) :: ks) ((o, 1, -1) :: is) ((o, 0, ks.length) :: rs)) := by
  unfold f_X5_init
  rw [nwA_C hz ok (by decide), Option.bind_some, CS_w, tn40, pR_C hz hk, Option.bind_some, pI_C hk, Option.bind_some]
theorem le80 : ((8 : Int32) ≤ (0 : Int32)) = False := by decide +kernel
theorem le81 : ((8 : Int32) ≤ (1 : Int32)) = False := by decide +kernel
theorem le82 : ((8 : Int32) ≤ (2 : Int32)) = False := by decide +kernel
theorem le83 : ((8 : Int32) ≤ (3 : Int32)) = False := by decide +kernel
theorem le84 : ((8 : Int32) ≤ (4 : Int32)) = False := by decide +kernel
theorem le85 : ((8 : Int32) ≤ (5 : Int32)) = False := by decide +kernel
theorem le86 : ((8 : Int32) ≤ (6 : Int32)) = False := by decide +kernel
theorem le87 : ((8 : Int32) ≤ (7 : Int32)) = False := by decide +kernel
theorem le88 : ((8 : Int32) ≤ (8 : Int32)) = True := by decide +kernel
set_option maxHeartbeats 4000000 in
theorem in11 (hz : 0 < z) : f_X11_init z (CS cy z kS0 iS0 rS0) = some (CS cy z kS13 iS13 rS13) := by
  unfold f_X11_init
  simp (disch := decide +kernel) only [lt1, nw_C hz, nwA_C hz, nwM_C hz, CS_w, List.length_cons, List.length_append, List.length_replicate, Nat.reduceAdd, lS0, lS1, lS2, lS3, lS4, lS5, lS6, lS7, lS8, lS9, lS10, lS11, lS12, lS13, lS14, lS15, lS16, tn0, tn1, tn2, tn3, tn4, tn5, tn6, tn7, tn8, tn16, tn4096, tn2000, tn300, tn40, tn320, tn64, tn121, tn48, pR_C hz, pR_C0 hz, pI_C, sI_C, sR_C hz, cK_C, gR_s hz, gR_r hz, nar14, Option.bind_some, fo1, in9 hz, fo3, in4 hz, fo5, in6 hz, fo9, in0 hz, fo11, in10 hz, in5 hz, le80, le81, le82, le83, le84, le85, le86, le87, le88, if_true, if_false]
  rfl
end N2
