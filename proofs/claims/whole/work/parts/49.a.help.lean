/-! ===== small words for what follows ===== -/
theorem thr58 {u : Nat → Nat → Int} {i : Nat} {c : Int} : upm u 1557 i c 1558 = u 1558 := upm_rf (by decide)
