/-! still to prove -/
theorem op_share {N : Nat} {h : Hp} {g : Gp} (hN : N < 2 ^ 20) (R : Rel N h g) (x y : Int32) : Op N g (qX6_share h x y) (fun h => qX7_share h x y) := by
  sorry
