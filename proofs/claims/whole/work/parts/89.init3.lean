section N3
variable {z : Nat} {cy : Nat → ClassId} {ks : List (Nat × Nat)} {is : List (Nat × Nat × Int32)} {rs : List (Nat × Nat × Nat)}
set_option maxRecDepth 100000
theorem bnd {α β : Type} {x : Option α} {v : α} {f : α → Option β} (h : x = some v) : x.bind f = f v := by rw [h]; rfl
theorem as_C {α : Type} (hz : 0 < z) {kd M o ci k : Nat} {m : Int32} {f : St → Option α} (ok : okB ks is rs = true) (hm : ¬ (m < 0 ∨ M < m.toNatClampNeg)) (hk : (kL ((kd, m.toNatClampNeg) :: ks) o).1 = ci + 1) : ((nwA (CS cy z ks is rs) kd m M).bind fun S1 => (pR S1 (some (z + o)) ci k (some (CS cy z ks is rs).2.2.2)).bind f) = f (CS cy z ((kd, m.toNatClampNeg) :: ks) is ((o, k, ks.length) :: rs)) := by
  rw [nwA_C hz ok hm, Option.bind_some, CS_w, pR_C hz hk, Option.bind_some]
set_option maxHeartbeats 4000000 in
theorem in12 (hz : 0 < z) : f_X12_init (z + 82) (CS cy z kS14 iS14 rS14) = some (CS cy z kS16 iS16 rS16) := by
  unfold f_X12_init
  refine Eq.trans (bnd (nwA_C hz (by decide +kernel) (by decide +kernel))) ?_
  refine Eq.trans (bnd (sI_C (by decide +kernel))) ?_
  refine Eq.trans (bnd (sI_C (by decide +kernel))) ?_
  refine Eq.trans (bnd (sI_C (by decide +kernel))) ?_
  refine Eq.trans (bnd (sI_C (by decide +kernel))) ?_
  refine Eq.trans (bnd (sI_C (by decide +kernel))) ?_
  refine Eq.trans (bnd (sI_C (by decide +kernel))) ?_
  refine Eq.trans (bnd (sI_C (by decide +kernel))) ?_
  refine Eq.trans (bnd (sI_C (by decide +kernel))) ?_
  refine Eq.trans (bnd (pR_C hz (by decide +kernel))) ?_
  refine Eq.trans (as_C hz (by decide +kernel) (by decide +kernel) (by decide +kernel)) ?_
  refine Eq.trans (as_C hz (by decide +kernel) (by decide +kernel) (by decide +kernel)) ?_
  refine Eq.trans (as_C hz (by decide +kernel) (by decide +kernel) (by decide +kernel)) ?_
  refine Eq.trans (as_C hz (by decide +kernel) (by decide +kernel) (by decide +kernel)) ?_
  refine Eq.trans (as_C hz (by decide +kernel) (by decide +kernel) (by decide +kernel)) ?_
  refine Eq.trans (as_C hz (by decide +kernel) (by decide +kernel) (by decide +kernel)) ?_
  refine Eq.trans (as_C hz (by decide +kernel) (by decide +kernel) (by decide +kernel)) ?_
  refine Eq.trans (as_C hz (by decide +kernel) (by decide +kernel) (by decide +kernel)) ?_
  refine Eq.trans (as_C hz (by decide +kernel) (by decide +kernel) (by decide +kernel)) ?_
  refine Eq.trans (as_C hz (by decide +kernel) (by decide +kernel) (by decide +kernel)) ?_
  refine Eq.trans (as_C hz (by decide +kernel) (by decide +kernel) (by decide +kernel)) ?_
  refine Eq.trans (as_C hz (by decide +kernel) (by decide +kernel) (by decide +kernel)) ?_
  refine Eq.trans (as_C hz (by decide +kernel) (by decide +kernel) (by decide +kernel)) ?_
  refine Eq.trans (as_C hz (by decide +kernel) (by decide +kernel) (by decide +kernel)) ?_
  refine Eq.trans (as_C hz (by decide +kernel) (by decide +kernel) (by decide +kernel)) ?_
  refine Eq.trans (as_C hz (by decide +kernel) (by decide +kernel) (by decide +kernel)) ?_
  refine Eq.trans (as_C hz (by decide +kernel) (by decide +kernel) (by decide +kernel)) ?_
  refine Eq.trans (as_C hz (by decide +kernel) (by decide +kernel) (by decide +kernel)) ?_
  refine Eq.trans (as_C hz (by decide +kernel) (by decide +kernel) (by decide +kernel)) ?_
  refine Eq.trans (as_C hz (by decide +kernel) (by decide +kernel) (by decide +kernel)) ?_
  refine Eq.trans (as_C hz (by decide +kernel) (by decide +kernel) (by decide +kernel)) ?_
  refine Eq.trans (as_C hz (by decide +kernel) (by decide +kernel) (by decide +kernel)) ?_
  refine Eq.trans (bnd (gR_r hz (by decide +kernel) (by decide +kernel))) ?_
  refine Eq.trans (bnd (sI_C (by decide +kernel))) ?_
  refine Eq.trans (bnd (gR_r hz (by decide +kernel) (by decide +kernel))) ?_
  refine Eq.trans (bnd (sI_C (by decide +kernel))) ?_
  refine Eq.trans (bnd (gR_r hz (by decide +kernel) (by decide +kernel))) ?_
  refine Eq.trans (bnd (sI_C (by decide +kernel))) ?_
  refine Eq.trans (bnd (gR_r hz (by decide +kernel) (by decide +kernel))) ?_
  refine Eq.trans (bnd (sI_C (by decide +kernel))) ?_
  refine Eq.trans (bnd (gR_r hz (by decide +kernel) (by decide +kernel))) ?_
  refine Eq.trans (bnd (sI_C (by decide +kernel))) ?_
  refine Eq.trans (bnd (gR_r hz (by decide +kernel) (by decide +kernel))) ?_
  refine Eq.trans (bnd (sI_C (by decide +kernel))) ?_
  rfl
end N3
