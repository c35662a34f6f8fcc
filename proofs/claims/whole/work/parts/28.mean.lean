/-! mean: no answer of its is a NaN -/
def mnOk (a b : Nat) : Bool := decide (FP.ddiv (FP.i2d (iI (a : Int))) (FP.i2d (iI ((b + 1 : Nat) : Int))) &&& 0x7fffffffffffffff ≤ (0x7ff0000000000000 : UInt64))
theorem mn_all : (List.range 151).all (fun a => (List.range 20).all (fun b => mnOk a b)) = true := by decide +kernel
theorem mn_ok {a b : Int} (ha : 0 ≤ a ∧ a ≤ 150) (hb : 1 ≤ b ∧ b ≤ 20) : vf_n64 (FP.ddiv (FP.i2d (iI a)) (FP.i2d (iI b))) := by
  have h1 := List.all_eq_true.mp mn_all a.toNat (List.mem_range.mpr (by omega))
  have h2 := List.all_eq_true.mp h1 (b.toNat - 1) (List.mem_range.mpr (by omega))
  have h3 := of_decide_eq_true h2
  rw [show ((a.toNat : Nat) : Int) = a by omega, show ((b.toNat - 1 + 1 : Nat) : Int) = b by omega] at h3
  exact h3
