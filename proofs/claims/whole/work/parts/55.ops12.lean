section O12
variable {z h k n t : Nat} {K : Nat → Nat × Nat} {I J : Nat → Nat → Int32} {R : Nat → Nat → Option Nat} {w : Nat}
-- feed
def bX (j : Int64) (q : Nat) : Int32 := nar 13 (((j >>> (((8 : Int32) * nI q).toInt64 &&& 63)).toInt32).toInt8.toInt32)
def bM (j : Int64) (q : Nat) : Int32 := ((j >>> (((8 : Int32) * nI q).toInt64 &&& 63)) &&& (255 : Int64)).toInt32
theorem byte_2 (y : Int64) : ∃ c, c < 256 ∧ (y &&& 255).toInt32 = nI c ∧ (nI c).toInt8.toInt32 = y.toInt32.toInt8.toInt32 := by
  refine ⟨y.toBitVec.toNat % 256, Nat.mod_lt _ (by decide), ?_, ?_⟩
  · rw [← Int32.toBitVec_inj]
    apply BitVec.eq_of_toNat_eq
    simp [nI, BitVec.signExtend_eq_setWidth_of_le]
    rw [show (255 : Nat) = 2 ^ 8 - 1 from rfl, Nat.and_two_pow_sub_one_eq_mod]
  · congr 1
    rw [← Int8.toBitVec_inj]
    apply BitVec.eq_of_toNat_eq
    simp [nI, BitVec.signExtend_eq_setWidth_of_le]
    omega
theorem bX_b (j : Int64) (q : Nat) : ∃ c, c < 256 ∧ bM j q = nI c ∧ bX j q = (nI c).toInt8.toInt32 := by
  obtain ⟨c, c1, c2, c3⟩ := byte_2 (j >>> (((8 : Int32) * nI q).toInt64 &&& 63))
  refine ⟨c, c1, c2, ?_⟩
  rw [c3]
  show vp_nar .byte _ = _
  simp [vp_nar]
end O12
