/-! ===== the objects of the run: their kinds (fixed once they are made) and their references ===== -/
def KR (c : Nat) : Nat × Nat :=
  if c = 0 then (5, 0) else if c = 1 then (9, 0) else if c < 6 then (20, 111) else if c < 9 then (20, 100)
  else if c = 9 then (20, 12) else if c = 10 then (1, 0) else if c = 11 then (36, 30)
  else if c < 102 then (if (c - 12) % 3 = 0 then (7, 0) else if (c - 12) % 3 = 1 then (20, 6) else (20, 12))
  else if c = 102 then (32, 6) else if (c - 103) % 4 = 0 then (3, 0) else if (c - 103) % 4 = 3 then (20, 12) else (20, 4)
/-- strings: odd the String, even its bytes -/
def KSt (q : Nat) : Nat × Nat := if q % 2 = 1 then (25, 0) else (26, (c_txt.getD ((q - 2) / 2) []).length)
def K0 (L q : Nat) : Nat × Nat :=
  if q = 0 then (0, 0) else if q < 17 then KSt q else if q = 17 then (24, L) else if q = 18 then (10, 0) else if q = 19 then (6, 0) else if q = 20 then (20, 500)
  else if q < 275 then KR ((q - 21) % 127) else if q = 275 then (2, 0) else if q = 276 then (34, 8)
  else if q < 1293 then KR ((q - 277) % 127) else if q = 1293 then (34, 2) else if q = 1294 then (21, 2) else if q = 1295 then (4, 0)
  else if q < 1301 then (20, 12) else if q = 1301 then (8, 0) else if q = 1302 then (20, 256)
  else if q < 1557 then KR ((q - 1303) % 127) else if q = 1557 then (11, 0) else if q = 1558 then (20, 3280) else if q = 1559 then (20, 36080)
  else if q = 1560 then (21, 2) else if q = 1561 then (20, 500) else if q = 1562 then (20, 3280) else if q < 1567 then (20, 12)
  else if q = 1567 then (20, 400) else if q = 1568 then (22, 1) else if q = 1569 then (23, 1) else (0, 0)
def GR (b : Nat → Nat) (R c j : Nat) : Nat :=
  if c = 0 then (if j = 0 then R + 1 else if j = 1 then R + 9 else if j = 2 then R + 10 else if j = 3 then R + 102 else 0)
  else if c = 1 then (if j < 7 then R + 2 + j else 0)
  else if c = 10 then (if j = 0 then R + 11 else 0)
  else if c = 11 then (if j < 30 then R + 12 + 3 * b j else 0)
  else if c < 102 then (if 12 ≤ c ∧ (c - 12) % 3 = 0 then (if j = 6 then R + c + 1 else if j = 7 then R + c + 2 else 0) else 0)
  else if c = 102 then (if j < 6 then R + 103 + 4 * j else 0)
  else if (c - 103) % 4 = 0 then (if j = 2 then R + c + 1 else if j = 3 then R + c + 2 else if j = 4 then R + c + 3 else 0)
  else 0
def G1 (q j : Nat) : Nat :=
  if q < 17 then (if q % 2 = 1 ∧ j = 0 then q + 1 else 0)
  else if q = 18 then (if j = 0 then 19 else if j = 1 then 21 else if j = 2 then 148 else if j = 3 then 275 else if j = 4 then 1293 else if j = 5 then 1294 else if j = 6 then 1295 else if j = 7 then 1301 else 0)
  else if q = 19 then (if j = 0 then 20 else 0)
  else if q = 275 then (if j = 0 then 276 else 0)
  else if q = 276 then (if j < 8 then 277 + 127 * j else 0)
  else if q = 1293 then (if j < 2 then 1303 + 127 * j else 0)
  else if q = 1295 then (if j < 4 then 1296 + j else if j = 5 then 1300 else 0)
  else if q = 1301 then (if j = 0 then 1302 else 0)
  else if q = 1557 then (if j = 2 then 1558 else if j = 3 then 1559 else if j = 5 then 1560 else if j = 6 then 1561 else if j = 17 then 1562 else if j = 18 then 1563 else if j = 19 then 1564 else if j = 20 then 1565 else if j = 21 then 1566 else if j = 23 then 1567 else 0)
  else 0
/-- the radio in whose block an id lies -/
def bas (q : Nat) : Nat := if q < 275 then q - (q - 21) % 127 else if q < 1293 then q - (q - 277) % 127 else q - (q - 1303) % 127
def inR (q : Nat) : Bool := (decide (21 ≤ q) && decide (q < 275)) || (decide (277 ≤ q) && decide (q < 1293)) || (decide (1303 ≤ q) && decide (q < 1557))
def G (a : Nat → Nat → Nat) (q j : Nat) : Nat := if inR q = true then GR (a (bas q)) (bas q) (q - bas q) j else G1 q j
def isRad (R : Nat) : Prop := R = 21 ∨ R = 148 ∨ (277 ≤ R ∧ R < 1293 ∧ (R - 277) % 127 = 0) ∨ R = 1303 ∨ R = 1430
theorem isRad_lt {R : Nat} (h : isRad R) : 21 ≤ R ∧ (R + 126 < 275 ∨ (277 ≤ R ∧ R + 126 < 1293) ∨ (1303 ≤ R ∧ R + 126 < 1557)) := by
  rcases h with rfl | rfl | ⟨h1, h2, h3⟩ | rfl | rfl <;> omega
theorem isRad_two {R Q : Nat} (h : isRad R) (h2 : isRad Q) : R = Q ∨ R + 126 < Q ∨ Q + 126 < R := by
  unfold isRad at h h2
  omega
theorem bas_rad {R c : Nat} (h : isRad R) (hc : c < 127) : bas (R + c) = R := by
  unfold bas
  rcases h with rfl | rfl | ⟨h1, h2, h3⟩ | rfl | rfl
  · rw [if_pos (by omega)]; omega
  · rw [if_pos (by omega)]; omega
  · rw [if_neg (by omega), if_pos (by omega)]; omega
  · rw [if_neg (by omega), if_neg (by omega)]; omega
  · rw [if_neg (by omega), if_neg (by omega)]; omega
theorem inR_rad {R c : Nat} (h : isRad R) (hc : c < 127) : inR (R + c) = true := by
  have h1 := isRad_lt h
  simp only [inR, Bool.or_eq_true, Bool.and_eq_true, decide_eq_true_eq]
  omega
set_option maxRecDepth 100000 in
theorem K_rad {L R c : Nat} (h : isRad R) (hc : c < 127) : K0 L (R + c) = KR c := by
  unfold K0
  rcases h with h | h | ⟨h1, h2, h3⟩ | h | h
  · rw [if_neg (by omega), if_neg (by omega), if_neg (by omega), if_neg (by omega), if_neg (by omega), if_neg (by omega), if_pos (by omega), show (R + c - 21) % 127 = c from by omega]
  · rw [if_neg (by omega), if_neg (by omega), if_neg (by omega), if_neg (by omega), if_neg (by omega), if_neg (by omega), if_pos (by omega), show (R + c - 21) % 127 = c from by omega]
  · rw [if_neg (by omega), if_neg (by omega), if_neg (by omega), if_neg (by omega), if_neg (by omega), if_neg (by omega), if_neg (by omega), if_neg (by omega), if_neg (by omega), if_pos (by omega), show (R + c - 277) % 127 = c from by omega]
  · rw [if_neg (by omega), if_neg (by omega), if_neg (by omega), if_neg (by omega), if_neg (by omega), if_neg (by omega), if_neg (by omega), if_neg (by omega), if_neg (by omega), if_neg (by omega), if_neg (by omega), if_neg (by omega), if_neg (by omega), if_neg (by omega), if_neg (by omega), if_neg (by omega), if_pos (by omega), show (R + c - 1303) % 127 = c from by omega]
  · rw [if_neg (by omega), if_neg (by omega), if_neg (by omega), if_neg (by omega), if_neg (by omega), if_neg (by omega), if_neg (by omega), if_neg (by omega), if_neg (by omega), if_neg (by omega), if_neg (by omega), if_neg (by omega), if_neg (by omega), if_neg (by omega), if_neg (by omega), if_neg (by omega), if_pos (by omega), show (R + c - 1303) % 127 = c from by omega]
theorem G_rad {a : Nat → Nat → Nat} {R c j : Nat} (h : isRad R) (hc : c < 127) : G a (R + c) j = GR (a R) R c j := by
  rw [G, if_pos (inR_rad h hc), bas_rad h hc, Nat.add_sub_cancel_left]
section KRad
variable {L R : Nat} {a : Nat → Nat → Nat}
theorem kR0 (h : isRad R) : K0 L R = (5, 0) := K_rad (c := 0) h (by decide)
theorem kR1 (h : isRad R) : K0 L (R + 1) = (9, 0) := K_rad h (by decide)
theorem kR2 (h : isRad R) : K0 L (R + 2) = (20, 111) := K_rad h (by decide)
theorem kR3 (h : isRad R) : K0 L (R + 3) = (20, 111) := K_rad h (by decide)
theorem kR4 (h : isRad R) : K0 L (R + 4) = (20, 111) := K_rad h (by decide)
theorem kR5 (h : isRad R) : K0 L (R + 5) = (20, 111) := K_rad h (by decide)
theorem kR6 (h : isRad R) : K0 L (R + 6) = (20, 100) := K_rad h (by decide)
theorem kR7 (h : isRad R) : K0 L (R + 7) = (20, 100) := K_rad h (by decide)
theorem kR8 (h : isRad R) : K0 L (R + 8) = (20, 100) := K_rad h (by decide)
theorem kR9 (h : isRad R) : K0 L (R + 9) = (20, 12) := K_rad h (by decide)
theorem kR10 (h : isRad R) : K0 L (R + 10) = (1, 0) := K_rad h (by decide)
theorem kR11 (h : isRad R) : K0 L (R + 11) = (36, 30) := K_rad h (by decide)
theorem kR102 (h : isRad R) : K0 L (R + 102) = (32, 6) := K_rad h (by decide)
theorem kRs0 {p : Nat} (h : isRad R) (hp : p < 30) : K0 L (R + 12 + 3 * p) = (7, 0) := by
  rw [Nat.add_assoc, K_rad h (by omega), KR]
  simp only [show ¬ 12 + 3 * p = 0 from by omega, show ¬ 12 + 3 * p = 1 from by omega, show ¬ 12 + 3 * p < 6 from by omega, show ¬ 12 + 3 * p < 9 from by omega, show ¬ 12 + 3 * p = 9 from by omega, show ¬ 12 + 3 * p = 10 from by omega, show ¬ 12 + 3 * p = 11 from by omega, show 12 + 3 * p < 102 from by omega, show (12 + 3 * p - 12) % 3 = 0 from by omega, if_true, if_false]
theorem kRs1 {p : Nat} (h : isRad R) (hp : p < 30) : K0 L (R + 13 + 3 * p) = (20, 6) := by
  rw [Nat.add_assoc, K_rad h (by omega), KR]
  simp only [show ¬ 13 + 3 * p = 0 from by omega, show ¬ 13 + 3 * p = 1 from by omega, show ¬ 13 + 3 * p < 6 from by omega, show ¬ 13 + 3 * p < 9 from by omega, show ¬ 13 + 3 * p = 9 from by omega, show ¬ 13 + 3 * p = 10 from by omega, show ¬ 13 + 3 * p = 11 from by omega, show 13 + 3 * p < 102 from by omega, show ¬ (13 + 3 * p - 12) % 3 = 0 from by omega, show (13 + 3 * p - 12) % 3 = 1 from by omega, if_true, if_false]
  rfl
theorem kRs2 {p : Nat} (h : isRad R) (hp : p < 30) : K0 L (R + 14 + 3 * p) = (20, 12) := by
  rw [Nat.add_assoc, K_rad h (by omega), KR]
  simp only [show ¬ 14 + 3 * p = 0 from by omega, show ¬ 14 + 3 * p = 1 from by omega, show ¬ 14 + 3 * p < 6 from by omega, show ¬ 14 + 3 * p < 9 from by omega, show ¬ 14 + 3 * p = 9 from by omega, show ¬ 14 + 3 * p = 10 from by omega, show ¬ 14 + 3 * p = 11 from by omega, show 14 + 3 * p < 102 from by omega, show ¬ (14 + 3 * p - 12) % 3 = 0 from by omega, show ¬ (14 + 3 * p - 12) % 3 = 1 from by omega, if_true, if_false]
theorem kRl_a {c : Nat} (h : isRad R) (hc : c < 127) (h2 : 103 ≤ c) : K0 L (R + c) = if (c - 103) % 4 = 0 then (3, 0) else if (c - 103) % 4 = 3 then (20, 12) else (20, 4) := by
  rw [K_rad h hc, KR]
  simp only [show ¬ c = 0 from by omega, show ¬ c = 1 from by omega, show ¬ c < 6 from by omega, show ¬ c < 9 from by omega, show ¬ c = 9 from by omega, show ¬ c = 10 from by omega, show ¬ c = 11 from by omega, show ¬ c < 102 from by omega, show ¬ c = 102 from by omega, if_false]
theorem kRl0 {l : Nat} (h : isRad R) (hl : l < 6) : K0 L (R + 103 + 4 * l) = (3, 0) := by
  rw [Nat.add_assoc, kRl_a h (by omega) (by omega), if_pos (by omega)]
theorem kRl1 {l : Nat} (h : isRad R) (hl : l < 6) : K0 L (R + 104 + 4 * l) = (20, 4) := by
  rw [Nat.add_assoc, kRl_a h (by omega) (by omega), if_neg (by omega), if_neg (by omega)]
theorem kRl2 {l : Nat} (h : isRad R) (hl : l < 6) : K0 L (R + 105 + 4 * l) = (20, 4) := by
  rw [Nat.add_assoc, kRl_a h (by omega) (by omega), if_neg (by omega), if_neg (by omega)]
theorem kRl3 {l : Nat} (h : isRad R) (hl : l < 6) : K0 L (R + 106 + 4 * l) = (20, 12) := by
  rw [Nat.add_assoc, kRl_a h (by omega) (by omega), if_neg (by omega), if_pos (by omega)]
theorem gR0_0 (h : isRad R) : G a R 0 = R + 1 := G_rad (c := 0) h (by decide)
theorem gR0_1 (h : isRad R) : G a R 1 = R + 9 := G_rad (c := 0) h (by decide)
theorem gR0_2 (h : isRad R) : G a R 2 = R + 10 := G_rad (c := 0) h (by decide)
theorem gR0_3 (h : isRad R) : G a R 3 = R + 102 := G_rad (c := 0) h (by decide)
theorem gR1_0 (h : isRad R) : G a (R + 1) 0 = R + 2 := G_rad h (by decide)
theorem gR1_1 (h : isRad R) : G a (R + 1) 1 = R + 3 := G_rad h (by decide)
theorem gR1_2 (h : isRad R) : G a (R + 1) 2 = R + 4 := G_rad h (by decide)
theorem gR1_3 (h : isRad R) : G a (R + 1) 3 = R + 5 := G_rad h (by decide)
theorem gR1_4 (h : isRad R) : G a (R + 1) 4 = R + 6 := G_rad h (by decide)
theorem gR1_5 (h : isRad R) : G a (R + 1) 5 = R + 7 := G_rad h (by decide)
theorem gR1_6 (h : isRad R) : G a (R + 1) 6 = R + 8 := G_rad h (by decide)
theorem gR10_0 (h : isRad R) : G a (R + 10) 0 = R + 11 := G_rad h (by decide)
theorem gR11 {j : Nat} (h : isRad R) (hj : j < 30) : G a (R + 11) j = R + 12 + 3 * a R j := by
  rw [G_rad h (by decide)]; simp [GR, hj]
theorem gR102 {j : Nat} (h : isRad R) (hj : j < 6) : G a (R + 102) j = R + 103 + 4 * j := by
  rw [G_rad h (by decide)]; simp [GR, hj]
theorem gRs_a {c j : Nat} (h : isRad R) (hc : c < 102) (h1 : 12 ≤ c) (h2 : (c - 12) % 3 = 0) : G a (R + c) j = if j = 6 then R + c + 1 else if j = 7 then R + c + 2 else 0 := by
  rw [G_rad h (by omega), GR]
  simp only [show ¬ c = 0 from by omega, show ¬ c = 1 from by omega, show ¬ c = 10 from by omega, show ¬ c = 11 from by omega, hc, h1, h2, if_true, if_false, and_self]
theorem gRs_6 {p : Nat} (h : isRad R) (hp : p < 30) : G a (R + 12 + 3 * p) 6 = R + 13 + 3 * p := by
  rw [Nat.add_assoc, gRs_a h (by omega) (by omega) (by omega), if_pos rfl]; omega
theorem gRs_7 {p : Nat} (h : isRad R) (hp : p < 30) : G a (R + 12 + 3 * p) 7 = R + 14 + 3 * p := by
  rw [Nat.add_assoc, gRs_a h (by omega) (by omega) (by omega), if_neg (by decide), if_pos rfl]; omega
theorem gRl_a {c j : Nat} (h : isRad R) (hc : c < 127) (h1 : 103 ≤ c) (h2 : (c - 103) % 4 = 0) : G a (R + c) j = if j = 2 then R + c + 1 else if j = 3 then R + c + 2 else if j = 4 then R + c + 3 else 0 := by
  rw [G_rad h (by omega), GR]
  simp only [show ¬ c = 0 from by omega, show ¬ c = 1 from by omega, show ¬ c = 10 from by omega, show ¬ c = 11 from by omega, show ¬ c < 102 from by omega, show ¬ c = 102 from by omega, h2, if_true, if_false]
theorem gRl_2 {l : Nat} (h : isRad R) (hl : l < 6) : G a (R + 103 + 4 * l) 2 = R + 104 + 4 * l := by
  rw [Nat.add_assoc, gRl_a h (by omega) (by omega) (by omega), if_pos rfl]; omega
theorem gRl_3 {l : Nat} (h : isRad R) (hl : l < 6) : G a (R + 103 + 4 * l) 3 = R + 105 + 4 * l := by
  rw [Nat.add_assoc, gRl_a h (by omega) (by omega) (by omega), if_neg (by decide), if_pos rfl]; omega
theorem gRl_4 {l : Nat} (h : isRad R) (hl : l < 6) : G a (R + 103 + 4 * l) 4 = R + 106 + 4 * l := by
  rw [Nat.add_assoc, gRl_a h (by omega) (by omega) (by omega), if_neg (by decide), if_neg (by decide), if_pos rfl]; omega
/-- the row of what is on the air is the only thing whose references change -/
theorem G_upm {j p : Nat} (h : isRad R) (hj : j < 30) : upm (G a) (R + 11) j (R + 12 + 3 * p) = G (upm a R j p) := by
  funext q i
  unfold upm
  by_cases hq : inR q = true
  · rw [G, if_pos hq, G, if_pos hq]
    have hb := isRad_lt h
    by_cases h1 : q = R + 11 ∧ i = j
    · obtain ⟨rfl, rfl⟩ := h1
      rw [if_pos ⟨rfl, rfl⟩, bas_rad h (by decide), Nat.add_sub_cancel_left]
      simp [GR, hj]
    · rw [if_neg h1]
      by_cases h2 : bas q = R
      · rw [h2]
        by_cases h3 : q - R = 11
        · have h4 : q = R + 11 := by omega
          have h5 : ¬ i = j := fun h6 => h1 ⟨h4, h6⟩
          simp only [GR, h3]
          simp [h5]
        · simp only [GR, h3, if_false]
      · have : (fun j_1 => if bas q = R ∧ j_1 = j then p else a (bas q) j_1) = a (bas q) := by
          funext x; rw [if_neg (fun h => h2 h.1)]
        rw [this]
  · have h1 : ¬ (q = R + 11 ∧ i = j) := by
      rintro ⟨rfl, -⟩
      exact hq (inR_rad h (by decide))
    rw [if_neg h1, G, if_neg hq, G, if_neg hq]
end KRad
section KOne
variable {L : Nat} {a : Nat → Nat → Nat}
theorem k17 : K0 L 17 = (24, L) := rfl
theorem k18 : K0 L 18 = (10, 0) := rfl
theorem k19 : K0 L 19 = (6, 0) := rfl
theorem k20 : K0 L 20 = (20, 500) := rfl
theorem k275 : K0 L 275 = (2, 0) := rfl
theorem k276 : K0 L 276 = (34, 8) := rfl
theorem k1293 : K0 L 1293 = (34, 2) := rfl
theorem k1294 : K0 L 1294 = (21, 2) := rfl
theorem k1295 : K0 L 1295 = (4, 0) := rfl
theorem k1296 : K0 L 1296 = (20, 12) := rfl
theorem k1297 : K0 L 1297 = (20, 12) := rfl
theorem k1298 : K0 L 1298 = (20, 12) := rfl
theorem k1299 : K0 L 1299 = (20, 12) := rfl
theorem k1300 : K0 L 1300 = (20, 12) := rfl
theorem k1301 : K0 L 1301 = (8, 0) := rfl
theorem k1302 : K0 L 1302 = (20, 256) := rfl
theorem k1557 : K0 L 1557 = (11, 0) := rfl
theorem k1558 : K0 L 1558 = (20, 3280) := rfl
theorem k1559 : K0 L 1559 = (20, 36080) := rfl
theorem k1560 : K0 L 1560 = (21, 2) := rfl
theorem k1561 : K0 L 1561 = (20, 500) := rfl
theorem k1562 : K0 L 1562 = (20, 3280) := rfl
theorem k1563 : K0 L 1563 = (20, 12) := rfl
theorem k1564 : K0 L 1564 = (20, 12) := rfl
theorem k1565 : K0 L 1565 = (20, 12) := rfl
theorem k1566 : K0 L 1566 = (20, 12) := rfl
theorem k1567 : K0 L 1567 = (20, 400) := rfl
theorem k1568 : K0 L 1568 = (22, 1) := rfl
theorem k1569 : K0 L 1569 = (23, 1) := rfl
theorem g18_0 : G a 18 0 = 19 := rfl
theorem g18_1 : G a 18 1 = 21 := rfl
theorem g18_2 : G a 18 2 = 148 := rfl
theorem g18_3 : G a 18 3 = 275 := rfl
theorem g18_4 : G a 18 4 = 1293 := rfl
theorem g18_5 : G a 18 5 = 1294 := rfl
theorem g18_6 : G a 18 6 = 1295 := rfl
theorem g18_7 : G a 18 7 = 1301 := rfl
theorem g19_0 : G a 19 0 = 20 := rfl
theorem g275_0 : G a 275 0 = 276 := rfl
theorem g276 {j : Nat} (hj : j < 8) : G a 276 j = 277 + 127 * j := by simp [G, inR, G1, hj]
theorem g1293 {j : Nat} (hj : j < 2) : G a 1293 j = 1303 + 127 * j := by simp [G, inR, G1, hj]
theorem g1295_0 : G a 1295 0 = 1296 := rfl
theorem g1295_1 : G a 1295 1 = 1297 := rfl
theorem g1295_2 : G a 1295 2 = 1298 := rfl
theorem g1295_3 : G a 1295 3 = 1299 := rfl
theorem g1295_5 : G a 1295 5 = 1300 := rfl
theorem g1301_0 : G a 1301 0 = 1302 := rfl
theorem g1557_2 : G a 1557 2 = 1558 := rfl
theorem g1557_3 : G a 1557 3 = 1559 := rfl
theorem g1557_5 : G a 1557 5 = 1560 := rfl
theorem g1557_6 : G a 1557 6 = 1561 := rfl
theorem g1557_17 : G a 1557 17 = 1562 := rfl
theorem g1557_18 : G a 1557 18 = 1563 := rfl
theorem g1557_19 : G a 1557 19 = 1564 := rfl
theorem g1557_20 : G a 1557 20 = 1565 := rfl
theorem g1557_21 : G a 1557 21 = 1566 := rfl
theorem g1557_23 : G a 1557 23 = 1567 := rfl
theorem r21 : isRad 21 := .inl rfl
theorem r148 : isRad 148 := .inr (.inl rfl)
theorem rPast {j : Nat} (hj : j < 8) : isRad (277 + 127 * j) := .inr (.inr (.inl (by omega)))
theorem rSaved {j : Nat} (hj : j < 2) : isRad (1303 + 127 * j) := by
  have h : j = 0 ∨ j = 1 := by omega
  rcases h with rfl | rfl
  · exact .inr (.inr (.inr (.inl rfl)))
  · exact .inr (.inr (.inr (.inr rfl)))
end KOne
/-! ===== numbers ===== -/
theorem wr_id {z : Int} (h : -2147483648 ≤ z) (h2 : z < 2147483648) : wr z = z := by unfold wr; omega
theorem wl_id {z : Int} (h : -9223372036854775808 ≤ z) (h2 : z < 9223372036854775808) : wl z = z := by unfold wl; omega
theorem wr_lo {z : Int} : -2147483648 ≤ wr z := by unfold wr; omega
theorem wr_hi {z : Int} : wr z < 2147483648 := by unfold wr; omega
theorem upm_eq {α : Type} {f : Nat → Nat → α} {r i : Nat} {v : α} : upm f r i v r i = v := by simp [upm]
theorem upm_r {α : Type} {f : Nat → Nat → α} {r i q j : Nat} {v : α} (h : q ≠ r) : upm f r i v q j = f q j := by simp [upm, h]
theorem upm_i {α : Type} {f : Nat → Nat → α} {r i q j : Nat} {v : α} (h : j ≠ i) : upm f r i v q j = f q j := by simp [upm, h]
theorem upm_rf {α : Type} {f : Nat → Nat → α} {r i q : Nat} {v : α} (h : q ≠ r) : upm f r i v q = f q := by funext j; simp [upm, h]
theorem upr_eq {α : Type} {f : Nat → Nat → α} {r j : Nat} {w : Nat → α} : upr f r w r j = w j := by simp [upr]
theorem upr_r {α : Type} {f : Nat → Nat → α} {r q j : Nat} {w : Nat → α} (h : q ≠ r) : upr f r w q j = f q j := by simp [upr, h]
theorem upr_f {α : Type} {f : Nat → Nat → α} {r : Nat} {w : Nat → α} : upr f r w r = w := by funext j; simp [upr]
theorem upr_rf {α : Type} {f : Nat → Nat → α} {r q : Nat} {w : Nat → α} (h : q ≠ r) : upr f r w q = f q := by funext j; simp [upr, h]
/-- one cell of a row written, as a new row -/
def up1 {α : Type} (f : Nat → α) (i : Nat) (v : α) : Nat → α := fun j => if j = i then v else f j
theorem upm_up1 {α : Type} {f : Nat → Nat → α} {r i : Nat} {v : α} : upm f r i v = upr f r (up1 (f r) i v) := by
  funext q j; unfold upm upr up1; by_cases h : q = r <;> simp [h]
theorem upr_upr {α : Type} {f : Nat → Nat → α} {r : Nat} {v w : Nat → α} : upr (upr f r v) r w = upr f r w := by
  funext q j; unfold upr; by_cases h : q = r <;> simp [h]
theorem upr_self {α : Type} {f : Nat → Nat → α} {r : Nat} : upr f r (f r) = f := by
  funext q j; unfold upr; by_cases h : q = r <;> simp [h]
theorem up1_eq {α : Type} {f : Nat → α} {i : Nat} {v : α} : up1 f i v i = v := by simp [up1]
theorem up1_ne {α : Type} {f : Nat → α} {i j : Nat} {v : α} (h : j ≠ i) : up1 f i v j = f j := by simp [up1, h]
theorem fl0 {P : Prop} [Decidable P] : ((if P then (1 : Int) else 0) = 0) = ¬ P := by by_cases h : P <;> simp [h]
theorem fl1 {P : Prop} [Decidable P] : ((if P then (1 : Int) else 0) ≠ 0) = P := by by_cases h : P <;> simp [h]
theorem fle1 {P : Prop} [Decidable P] : ((if P then (1 : Int) else 0) = 1) = P := by by_cases h : P <;> simp [h]
theorem flfit {P : Prop} [Decidable P] : a_fit 2 (if P then 1 else 0) = true := by by_cases h : P <;> simp [h, a_fit]
theorem back_v {m pc len : Nat} {ls st : List AV} {v : Option AV} {σ : AS} : a_back m pc len ls st (.inl v, σ) = a_X m (pc + len) ls (v.toList ++ st) σ := rfl
theorem back_e {m pc len e : Nat} {ls st : List AV} {σ : AS} (h1 : m_hand m pc e = none) (h2 : m_tabl m = false) : a_back m pc len ls st (.inr e, σ) = some (.inr e, σ) := by simp [a_back, h1, h2]
theorem back_h {m pc len e h : Nat} {ls st : List AV} {σ : AS} (h1 : m_hand m pc e = some h) : a_back m pc len ls st (.inr e, σ) = a_X m h ls [a_x true] σ := by simp [a_back, h1]
/-- a loop: forward -/
theorem it_fwd {α : Type} {P : Nat → α} {n : Nat} (h : ∀ i, i < n → P i = P (i + 1)) : P 0 = P n := by
  have key : ∀ i, i ≤ n → P 0 = P i := by
    intro i
    induction i with
    | zero => intro _; rfl
    | succ i ih => intro hi; rw [ih (by omega), h i (by omega)]
  exact key n (Nat.le_refl _)
/-- a loop that may leave -/
theorem it_exit {α : Type} {P : Nat → α} {n : Nat} {c : Nat → Prop} {r : α} (h : ∀ i, i < n → ¬ c i → P i = P (i + 1)) (hc : ∀ i, i < n → c i → P i = r) (j : Nat) (hj : j < n) (hcj : c j) (hf : ∀ i, i < j → ¬ c i) : P 0 = r := by
  have h1 : P 0 = P j := it_fwd fun i hi => h i (by omega) (hf i hi)
  rw [h1, hc j hj hcj]
def sumN (n : Nat) (f : Nat → Int) : Int := match n with
  | 0 => 0
  | n + 1 => sumN n f + f n
def itN {α : Type} (n : Nat) (f : Nat → α → α) (x : α) : α := match n with
  | 0 => x
  | n + 1 => f n (itN n f x)
theorem sumN_le {n : Nat} {f : Nat → Int} {lo hi : Int} (h : ∀ i, i < n → lo ≤ f i ∧ f i ≤ hi) : lo * n ≤ sumN n f ∧ sumN n f ≤ hi * n := by
  induction n with
  | zero => simp [sumN]
  | succ n ih =>
    have h1 := ih fun i hi => h i (by omega)
    have h2 := h n (by omega)
    simp only [sumN, Int.natCast_add, Int.mul_add, Int.natCast_one, Int.mul_one]
    omega
