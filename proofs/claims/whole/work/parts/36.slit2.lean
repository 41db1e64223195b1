def pcF (x : Int) : Nat → Int
  | 0 => 0
  | k + 1 => pcF x k + x / 2 ^ k % 2
theorem pcF_8 (x : Int) : pcF x 8 = pc x := by
  unfold pc
  simp only [pcF]
  simp only [show ((2 : Int) ^ 0) = 1 from rfl, show ((2 : Int) ^ 1) = 2 from rfl, show ((2 : Int) ^ 2) = 4 from rfl, show ((2 : Int) ^ 3) = 8 from rfl, show ((2 : Int) ^ 4) = 16 from rfl, show ((2 : Int) ^ 5) = 32 from rfl, show ((2 : Int) ^ 6) = 64 from rfl, show ((2 : Int) ^ 7) = 128 from rfl, Int.ediv_one]
  omega
theorem mb_or {a : Int} {x k : Nat} (h : a = (x : Int)) : ((a.toNat ||| ((1 : Int) * 2 ^ k).toNat : Nat) : Int) = ((x ||| 2 ^ k : Nat) : Int) := by
  rw [h, Int.toNat_natCast, Int.one_mul, pow_tn]
