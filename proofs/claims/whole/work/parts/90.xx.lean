/-! ===== the whole state on both sides, and what an operation does to it ===== -/
section LIT
variable {L : Nat} {a : Nat → Nat → Nat}
theorem kq21 : K0 L 21 = (5, 0) := rfl
theorem kq22 : K0 L 22 = (9, 0) := rfl
theorem kq23 : K0 L 23 = (20, 111) := rfl
theorem kq24 : K0 L 24 = (20, 111) := rfl
theorem kq25 : K0 L 25 = (20, 111) := rfl
theorem kq26 : K0 L 26 = (20, 111) := rfl
theorem kq27 : K0 L 27 = (20, 100) := rfl
theorem kq28 : K0 L 28 = (20, 100) := rfl
theorem kq29 : K0 L 29 = (20, 100) := rfl
theorem kq30 : K0 L 30 = (20, 12) := rfl
theorem kq31 : K0 L 31 = (1, 0) := rfl
theorem kq32 : K0 L 32 = (36, 30) := rfl
theorem kq123 : K0 L 123 = (32, 6) := rfl
theorem gq21_0 : G a 21 0 = 22 := rfl
theorem gq21_1 : G a 21 1 = 30 := rfl
theorem gq21_2 : G a 21 2 = 31 := rfl
theorem gq21_3 : G a 21 3 = 123 := rfl
theorem gq22_0 : G a 22 0 = 23 := rfl
theorem gq22_1 : G a 22 1 = 24 := rfl
theorem gq22_2 : G a 22 2 = 25 := rfl
theorem gq22_3 : G a 22 3 = 26 := rfl
theorem gq22_4 : G a 22 4 = 27 := rfl
theorem gq22_5 : G a 22 5 = 28 := rfl
theorem gq22_6 : G a 22 6 = 29 := rfl
theorem gq31_0 : G a 31 0 = 32 := rfl
theorem gq123_j {j : Nat} (hj : j < 6) : G a 123 j = 124 + 4 * j := gR102 (R := 21) r21 hj
theorem gq32_j {j : Nat} (hj : j < 30) : G a 32 j = 33 + 3 * a 21 j := gR11 (R := 21) r21 hj
theorem kq124_l {l : Nat} (hl : l < 6) : K0 L (124 + 4 * l) = (3, 0) := kRl0 (R := 21) r21 hl
theorem kq125_l {l : Nat} (hl : l < 6) : K0 L (125 + 4 * l) = (20, 4) := kRl1 (R := 21) r21 hl
theorem kq126_l {l : Nat} (hl : l < 6) : K0 L (126 + 4 * l) = (20, 4) := kRl2 (R := 21) r21 hl
theorem kq127_l {l : Nat} (hl : l < 6) : K0 L (127 + 4 * l) = (20, 12) := kRl3 (R := 21) r21 hl
theorem gq124_2 {l : Nat} (hl : l < 6) : G a (124 + 4 * l) 2 = 125 + 4 * l := gRl_2 (R := 21) r21 hl
theorem gq124_3 {l : Nat} (hl : l < 6) : G a (124 + 4 * l) 3 = 126 + 4 * l := gRl_3 (R := 21) r21 hl
theorem gq124_4 {l : Nat} (hl : l < 6) : G a (124 + 4 * l) 4 = 127 + 4 * l := gRl_4 (R := 21) r21 hl
theorem kq33_p {p : Nat} (hp : p < 30) : K0 L (33 + 3 * p) = (7, 0) := kRs0 (R := 21) r21 hp
theorem kq34_p {p : Nat} (hp : p < 30) : K0 L (34 + 3 * p) = (20, 6) := kRs1 (R := 21) r21 hp
theorem kq35_p {p : Nat} (hp : p < 30) : K0 L (35 + 3 * p) = (20, 12) := kRs2 (R := 21) r21 hp
theorem gq33_6 {p : Nat} (hp : p < 30) : G a (33 + 3 * p) 6 = 34 + 3 * p := gRs_6 (R := 21) r21 hp
theorem gq33_7 {p : Nat} (hp : p < 30) : G a (33 + 3 * p) 7 = 35 + 3 * p := gRs_7 (R := 21) r21 hp
theorem kq148 : K0 L 148 = (5, 0) := rfl
theorem kq149 : K0 L 149 = (9, 0) := rfl
theorem kq150 : K0 L 150 = (20, 111) := rfl
theorem kq151 : K0 L 151 = (20, 111) := rfl
theorem kq152 : K0 L 152 = (20, 111) := rfl
theorem kq153 : K0 L 153 = (20, 111) := rfl
theorem kq154 : K0 L 154 = (20, 100) := rfl
theorem kq155 : K0 L 155 = (20, 100) := rfl
theorem kq156 : K0 L 156 = (20, 100) := rfl
theorem kq157 : K0 L 157 = (20, 12) := rfl
theorem kq158 : K0 L 158 = (1, 0) := rfl
theorem kq159 : K0 L 159 = (36, 30) := rfl
theorem kq250 : K0 L 250 = (32, 6) := rfl
theorem gq148_0 : G a 148 0 = 149 := rfl
theorem gq148_1 : G a 148 1 = 157 := rfl
theorem gq148_2 : G a 148 2 = 158 := rfl
theorem gq148_3 : G a 148 3 = 250 := rfl
theorem gq149_0 : G a 149 0 = 150 := rfl
theorem gq149_1 : G a 149 1 = 151 := rfl
theorem gq149_2 : G a 149 2 = 152 := rfl
theorem gq149_3 : G a 149 3 = 153 := rfl
theorem gq149_4 : G a 149 4 = 154 := rfl
theorem gq149_5 : G a 149 5 = 155 := rfl
theorem gq149_6 : G a 149 6 = 156 := rfl
theorem gq158_0 : G a 158 0 = 159 := rfl
theorem gq250_j {j : Nat} (hj : j < 6) : G a 250 j = 251 + 4 * j := gR102 (R := 148) r148 hj
theorem gq159_j {j : Nat} (hj : j < 30) : G a 159 j = 160 + 3 * a 148 j := gR11 (R := 148) r148 hj
theorem kq251_l {l : Nat} (hl : l < 6) : K0 L (251 + 4 * l) = (3, 0) := kRl0 (R := 148) r148 hl
theorem kq252_l {l : Nat} (hl : l < 6) : K0 L (252 + 4 * l) = (20, 4) := kRl1 (R := 148) r148 hl
theorem kq253_l {l : Nat} (hl : l < 6) : K0 L (253 + 4 * l) = (20, 4) := kRl2 (R := 148) r148 hl
theorem kq254_l {l : Nat} (hl : l < 6) : K0 L (254 + 4 * l) = (20, 12) := kRl3 (R := 148) r148 hl
theorem gq251_2 {l : Nat} (hl : l < 6) : G a (251 + 4 * l) 2 = 252 + 4 * l := gRl_2 (R := 148) r148 hl
theorem gq251_3 {l : Nat} (hl : l < 6) : G a (251 + 4 * l) 3 = 253 + 4 * l := gRl_3 (R := 148) r148 hl
theorem gq251_4 {l : Nat} (hl : l < 6) : G a (251 + 4 * l) 4 = 254 + 4 * l := gRl_4 (R := 148) r148 hl
theorem kq160_p {p : Nat} (hp : p < 30) : K0 L (160 + 3 * p) = (7, 0) := kRs0 (R := 148) r148 hp
theorem kq161_p {p : Nat} (hp : p < 30) : K0 L (161 + 3 * p) = (20, 6) := kRs1 (R := 148) r148 hp
theorem kq162_p {p : Nat} (hp : p < 30) : K0 L (162 + 3 * p) = (20, 12) := kRs2 (R := 148) r148 hp
theorem gq160_6 {p : Nat} (hp : p < 30) : G a (160 + 3 * p) 6 = 161 + 3 * p := gRs_6 (R := 148) r148 hp
theorem gq160_7 {p : Nat} (hp : p < 30) : G a (160 + 3 * p) 7 = 162 + 3 * p := gRs_7 (R := 148) r148 hp
end LIT
def TX (v w : Nat → Nat → Int) : Prop := v 1301 1 = w 1557 24 ∧ (0 ≤ v 1301 1 ∧ v 1301 1 ≤ 256) ∧ ∀ i : Nat, (i : Int) < v 1301 1 → v 1302 i = w 1567 i
def XX (c : Int) (v w : Nat → Nat → Int) (a : Nat → Nat → Nat) : Prop :=
  XR v w ∧ TX v w ∧ hisX c v w a ∧ savX c v w a ∧ (v 18 8 = w 1557 1 ∧ (v 18 8 = 0 ∨ v 18 8 = 1)) ∧ (v 18 8 = 1 → RS c v a 21 (w 1558)) ∧ (v 18 8 = 0 → w 1557 4 = 0 ∧ v 1294 0 = 0 ∧ v 1294 1 = 0) ∧ (hi0 (w 1558) ∧ hi0 (w 1562)) ∧ ∀ R, isRad R → okA (a R)
theorem RS_outA {c : Int} {v v' : Nat → Nat → Int} {a a' : Nat → Nat → Nat} {R : Nat} {s : Nat → Int} (h : RS c v a R s) (hv : ∀ q, R ≤ q → q < R + 127 → v' q = v q) (ha : a' R = a R) : RS c v' a' R s := by
  have := RS_out h hv
  unfold RS at *
  rw [ha]; exact this
theorem hisX_x {c c' : Int} {v v' w w' : Nat → Nat → Int} {a a' : Nat → Nat → Nat} (h : hisX c v w a) (hc : c ≤ c') (h0 : v' 275 = v 275) (hv : ∀ q, 277 ≤ q → q < 1293 → v' q = v q) (h1 : w' 1557 4 = w 1557 4) (h2 : ∀ i : Nat, i < 8 → slc (w' 1559) i = slc (w 1559) i) (ha : ∀ Q, 277 ≤ Q → Q < 1293 → a' Q = a Q) : hisX c' v' w' a' := by
  obtain ⟨a1, a2, a3, a4⟩ := h
  unfold hisX
  rw [h0, h1]
  refine ⟨a1, a2, a3, fun i hi => ?_⟩
  have hr := ringR_rad (p := v 275 1) (n := w 1557 4) (i := i)
  rw [h2 i (by omega)]
  exact RS_le (RS_outA (a4 i hi) (fun q q0 q1 => hv q (by omega) (by omega)) (ha _ (by omega) (by omega))) hc
theorem savX_x {c c' : Int} {v v' w w' : Nat → Nat → Int} {a a' : Nat → Nat → Nat} (h : savX c v w a) (hc : c ≤ c') (h0 : v' 1294 = v 1294) (hv : ∀ q, 1303 ≤ q → q < 1557 → v' q = v q) (h1 : w' 1560 = w 1560) (h2 : ∀ i : Nat, 8 ≤ i → i < 10 → slc (w' 1559) i = slc (w 1559) i) (ha : ∀ Q, 1303 ≤ Q → Q < 1557 → a' Q = a Q) : savX c' v' w' a' := by
  intro x hx
  obtain ⟨b1, b2, b3⟩ := h x hx
  rw [h0, h1, h2 (8 + x) (by omega) (by omega)]
  exact ⟨b1, b2, fun hb => RS_le (RS_outA (b3 hb) (fun q q0 q1 => hv q (by omega) (by omega)) (ha _ (by omega) (by omega))) hc⟩
theorem slc_eq {f g : Nat → Int} {i : Nat} (hi : i < 10) (h : ∀ j : Nat, j < 32800 → f j = g j) : slc f i = slc g i := by
  funext j
  simp only [slc]
  split
  · rw [h _ (by omega)]
  · rfl
theorem XR_x {v v' w w' : Nat → Nat → Int} (h : XR v w) (hv : ∀ q, q < 21 → q ≠ 18 → v' q = v q) (hw : ∀ q, (q < 17 ∨ q = 1561) → w' q = w q) (hj : ∀ j, 7 ≤ j → j < 10 → w' 1557 j = w 1557 j) : XR v' w' := by
  obtain ⟨x1, x2, x4, x5, x6, x7, x8, x9⟩ := h
  unfold XR
  rw [hv 19 (by decide) (by decide), hv 20 (by decide) (by decide), hw 1561 (.inr rfl), hj 7 (by decide) (by decide), hj 8 (by decide) (by decide), hj 9 (by decide) (by decide)]
  exact ⟨x1, x2, x4, x5, x6, x7, strOK_congr (fun q q1 q2 => hv q (by omega) (by omega)) x8, strOK_congr (fun q q1 q2 => hw q (.inl (by omega))) x9⟩
theorem TX_x {v v' w w' : Nat → Nat → Int} (h : TX v w) (h1 : v' 1301 = v 1301) (h2 : v' 1302 = v 1302) (h3 : w' 1557 24 = w 1557 24) (h4 : w' 1567 = w 1567) : TX v' w' := by
  unfold TX at *
  rw [h1, h2, h3, h4]; exact h
/-- the two sides are told apart by the numbers of their objects -/
theorem XX_congr {c : Int} {v v' w w' : Nat → Nat → Int} {a : Nat → Nat → Nat} (h : XX c v w a) (hv : ∀ q, q < 1557 → v' q = v q) (hw : ∀ q, (q < 18 ∨ (1557 ≤ q ∧ q ≤ 1567)) → w' q = w q) : XX c v' w' a := by
  obtain ⟨x1, x2, x3, x4, ⟨x5, x5'⟩, x6, x7, x8, x9⟩ := h
  have w57 := hw 1557 (.inr ⟨by decide, by decide⟩)
  have w58 := hw 1558 (.inr ⟨by decide, by decide⟩)
  refine ⟨XR_x x1 (fun q q0 _ => hv q (by omega)) (fun q hq => hw q (by omega)) (fun j _ _ => by rw [w57]), TX_x x2 (hv _ (by decide)) (hv _ (by decide)) (by rw [w57]) (hw _ (.inr ⟨by decide, by decide⟩)), hisX_x x3 (Int.le_refl _) (hv _ (by decide)) (fun q _ q1 => hv q (by omega)) (by rw [w57]) (fun i _ => by rw [hw 1559 (.inr ⟨by decide, by decide⟩)]) (fun _ _ _ => rfl), savX_x x4 (Int.le_refl _) (hv _ (by decide)) (fun q _ q1 => hv q (by omega)) (hw 1560 (.inr ⟨by decide, by decide⟩)) (fun i _ _ => by rw [hw 1559 (.inr ⟨by decide, by decide⟩)]) (fun _ _ _ => rfl), ?_, ?_, ?_, ?_, x9⟩
  · rw [hv 18 (by decide), w57]; exact ⟨x5, x5'⟩
  · rw [hv 18 (by decide), w58]; exact fun h => RS_out (x6 h) (fun q _ q1 => hv q (by omega))
  · rw [hv 18 (by decide), hv 1294 (by decide), w57]; exact x7
  · rw [w58, hw 1562 (.inr ⟨by decide, by decide⟩)]; exact x8
/-- a question: only what is tried and the text may differ -/
theorem XX_qt {c : Int} {v v' w w' : Nat → Nat → Int} {a a' : Nat → Nat → Nat} (h : XX c v w a) (hv : ∀ q, q < 1557 → (q < 148 ∨ 275 ≤ q) → ¬ (1295 ≤ q ∧ q ≤ 1302) → v' q = v q) (hw : ∀ q j, ¬ (q = 1557 ∧ (j = 0 ∨ j = 22 ∨ j = 24)) → ¬ (1563 ≤ q ∧ q ≤ 1567) → ¬ (q = 1559 ∧ 32800 ≤ j) → w' q j = w q j) (hT : TX v' w') (ha : ∀ Q, Q ≠ 148 → a' Q = a Q) (hk : okA (a' 148)) : XX (c + 1) v' w' a' := by
  obtain ⟨x1, x2, x3, x4, ⟨x5, x5'⟩, x6, x7, x8, x9⟩ := h
  have hq : ∀ q, q ≠ 1557 → q ≠ 1559 → ¬ (1563 ≤ q ∧ q ≤ 1567) → w' q = w q := fun q q1 q2 q3 => by funext j; exact hw q j (fun z => q1 z.1) q3 (fun z => q2 z.1)
  have hj : ∀ j, j ≠ 0 → j ≠ 22 → j ≠ 24 → w' 1557 j = w 1557 j := fun j j1 j2 j3 => hw 1557 j (by omega) (by omega) (by omega)
  have hs : ∀ i : Nat, i < 10 → slc (w' 1559) i = slc (w 1559) i := fun i hi => slc_eq hi (fun j j1 => hw 1559 j (by omega) (by omega) (by omega))
  refine ⟨XR_x x1 (fun q q0 _ => hv q (by omega) (by omega) (by omega)) (fun q hq' => hq q (by omega) (by omega) (by omega)) (fun j j0 j1 => hj j (by omega) (by omega) (by omega)), hT, hisX_x x3 (by omega) (hv _ (by decide) (by decide) (by decide)) (fun q q0 q1 => hv q (by omega) (by omega) (by omega)) (hj 4 (by decide) (by decide) (by decide)) (fun i hi => hs i (by omega)) (fun Q q0 _ => ha Q (by omega)), savX_x x4 (by omega) (hv _ (by decide) (by decide) (by decide)) (fun q q0 q1 => hv q (by omega) (by omega) (by omega)) (hq 1560 (by decide) (by decide) (by decide)) (fun i _ hi => hs i hi) (fun Q q0 _ => ha Q (by omega)), ?_, ?_, ?_, ?_, fun R hR => ?_⟩
  · rw [hv 18 (by decide) (by decide) (by decide), hj 1 (by decide) (by decide) (by decide)]; exact ⟨x5, x5'⟩
  · rw [hv 18 (by decide) (by decide) (by decide), hq 1558 (by decide) (by decide) (by decide)]
    exact fun h => RS_le (RS_outA (x6 h) (fun q q0 q1 => hv q (by omega) (by omega) (by omega)) (ha 21 (by decide))) (by omega)
  · rw [hv 18 (by decide) (by decide) (by decide), hv 1294 (by decide) (by decide) (by decide), hj 4 (by decide) (by decide) (by decide)]; exact x7
  · rw [hq 1558 (by decide) (by decide) (by decide), hq 1562 (by decide) (by decide) (by decide)]; exact x8
  · by_cases h148 : R = 148
    · rw [h148]; exact hk
    · rw [ha R h148]; exact x9 R hR
theorem XX_q {c : Int} {v v' w w' : Nat → Nat → Int} {a a' : Nat → Nat → Nat} (h : XX c v w a) (hv : ∀ q, q < 1557 → (q < 148 ∨ 275 ≤ q) → ¬ (1295 ≤ q ∧ q ≤ 1300) → v' q = v q) (hw : Mq w w') (ha : ∀ Q, Q ≠ 148 → a' Q = a Q) (hk : okA (a' 148)) : XX (c + 1) v' w' a' := by
  have hx := h.2.1
  refine XX_qt h (fun q q0 q1 q2 => hv q q0 q1 (by omega)) (fun q j h1 h2 h3 => hw q j (by omega) (by omega) h3) (TX_x hx (hv _ (by decide) (by decide) (by decide)) (hv _ (by decide) (by decide) (by decide)) (Mq_f hw (by decide)) ?_) ha hk
  funext j; exact hw _ _ (by omega) (by omega) (by omega)
/-- a change -/
theorem XX_chg {c : Int} {v v' w w' : Nat → Nat → Int} {a a' : Nat → Nat → Nat} (h : XX c v w a) (hld : v 18 8 ≠ 0) (hh : hisX (c + 1) v' w' a') (hS : RS (c + 1) v' a' 21 (w' 1558)) (fv : ∀ q, q ≠ 275 → (q < 21 ∨ (148 ≤ q ∧ q < 277) ∨ 1293 ≤ q) → v' q = v q) (fw : ∀ q, q ≠ 1557 → q ≠ 1558 → q ≠ 1559 → w' q = w q) (fj : ∀ j, j ≠ 0 → j ≠ 4 → w' 1557 j = w 1557 j) (fs : ∀ i : Nat, 8 ≤ i → slc (w' 1559) i = slc (w 1559) i) (ha : ∀ Q, Q ≠ 21 → a' Q = a Q) (hk : okA (a' 21)) : XX (c + 1) v' w' a' := by
  obtain ⟨x1, x2, x3, x4, ⟨x5, x5'⟩, x6, x7, x8, x9⟩ := h
  have v18 := fv 18 (by decide) (by decide)
  have v94 := fv 1294 (by decide) (by decide)
  refine ⟨XR_x x1 (fun q q0 _ => fv q (by omega) (by omega)) (fun q hq => fw q (by omega) (by omega) (by omega)) (fun j j0 j1 => fj j (by omega) (by omega)), TX_x x2 (fv _ (by decide) (by decide)) (fv _ (by decide) (by decide)) (fj _ (by decide) (by decide)) (fw _ (by decide) (by decide) (by decide)), hh, savX_x x4 (by omega) v94 (fun q q0 q1 => fv q (by omega) (by omega)) (fw 1560 (by decide) (by decide) (by decide)) (fun i hi _ => fs i hi) (fun Q q0 _ => ha Q (by omega)), ?_, fun _ => hS, fun h0 => ?_, ⟨hS.2.2.2.1, ?_⟩, fun R hR => ?_⟩
  · rw [v18, fj 1 (by decide) (by decide)]; exact ⟨x5, x5'⟩
  · rw [v18] at h0; exact absurd h0 hld
  · rw [fw 1562 (by decide) (by decide) (by decide)]; exact x8.2
  · by_cases h21 : R = 21
    · rw [h21]; exact hk
    · rw [ha R h21]; exact x9 R hR
theorem XX_ld {c : Int} {v w : Nat → Nat → Int} {a : Nat → Nat → Nat} (h : XX c v w a) (hv : v 18 8 ≠ 0) : w 1557 1 ≠ 0 ∧ RS c v a 21 (w 1558) := by
  obtain ⟨x1, x2, x3, x4, ⟨x5, x5'⟩, x6, x7, x8, x9⟩ := h
  exact ⟨by omega, x6 (by omega)⟩
theorem XX_ld0 {c : Int} {v w : Nat → Nat → Int} {a : Nat → Nat → Nat} (h : XX c v w a) (hv : v 18 8 = 0) : w 1557 1 = 0 := by
  have := h.2.2.2.2.1.1
  omega
/-- numbers that both sides have -/
theorem RS_n {c : Int} {v : Nat → Nat → Int} {a : Nat → Nat → Nat} {s : Nat → Int} (h : RS c v a 21 s) : (v 21 4 = s 3 ∧ 1 ≤ s 3 ∧ s 3 ≤ 6) ∧ (v 22 7 = s 2 ∧ 0 ≤ s 2 ∧ s 2 ≤ 99) ∧ (v 31 1 = s 4 ∧ 0 ≤ s 4 ∧ s 4 ≤ 30) ∧ (v 21 6 = s 1 ∧ 0 ≤ s 1 ∧ s 1 ≤ 9999) ∧ (v 21 5 = s 0 ∧ 0 ≤ s 0 ∧ s 0 ≤ 99) ∧ v 21 7 = s 5 ∧ v 21 8 = s 6 := by
  obtain ⟨⟨C, hC⟩, hM, hf, hi, h5, h1⟩ := h
  obtain ⟨f4, f5, f6, f7, f8, f17, f10, -⟩ := rel_facts (R := 21) hC
  obtain ⟨m0, m1, m2, m3, m7, mA, mQ, mL⟩ := hM
  exact ⟨⟨f4, m3⟩, ⟨f17, m2⟩, ⟨f10, mA.1, mA.2.1⟩, ⟨f6, m1, h1⟩, ⟨f5, m0⟩, f7, f8⟩
def OPc (L m n : Nat) (as : List AV) (es : List (Nat × Int)) (c : Int) (v w : Nat → Nat → Int) (a : Nat → Nat → Nat) (t : Nat × Nat × Nat) : Prop :=
  ∃ v' w' a', XX (c + 1) v' w' a' ∧ (∀ q, (q < 18 ∨ 1557 ≤ q) → v' q = v q) ∧ (∀ q, (q < 1557 ∨ 1567 < q) → w' q = w q) ∧
   ((w' 1557 0 = 0 ∧ ∃ z : Int, a_m m (a_r 18 :: as) (K0 L, v, G a, t) = some (.inl (some (a_i z)), (K0 L, v', G a', t)) ∧ a_m n (a_r 1557 :: as) (K0 L, w, G a', t) = some (.inl (some (a_i z)), (K0 L, w', G a', t))) ∨
    ∃ (e : Nat) (z : Int), (e, w' 1557 0) ∈ es ∧ a_m m (a_r 18 :: as) (K0 L, v, G a, t) = some (.inr e, (K0 L, v', G a', (t.1, t.2.1 + 1, t.2.2 + 6))) ∧ a_m n (a_r 1557 :: as) (K0 L, w, G a', t) = some (.inl (some (a_i z)), (K0 L, w', G a', t)))
def OP (L m n : Nat) (as : List AV) (es : List (Nat × Int)) : Prop := ∀ (c : Int) (v w : Nat → Nat → Int) (a : Nat → Nat → Nat) (t : Nat × Nat × Nat), 0 ≤ c → c ≤ 600 → XX c v w a → OPc L m n as es c v w a t
section OPS
variable {L m n : Nat} {as : List AV} {es : List (Nat × Int)} {c : Int} {v w : Nat → Nat → Int} {a : Nat → Nat → Nat} {t : Nat × Nat × Nat}
theorem OPc_bad {e : Nat} {z cd : Int} (h : XX c v w a) (he : (e, cd) ∈ es) (hc : a_m m (a_r 18 :: as) (K0 L, v, G a, t) = some (.inr e, (K0 L, v, G a, (t.1, t.2.1 + 1, t.2.2 + 6)))) (hm : a_m n (a_r 1557 :: as) (K0 L, w, G a, t) = some (.inl (some (a_i (z))), (K0 L, upm w 1557 0 cd, G a, t))) : OPc L m n as es c v w a t :=
  ⟨v, upm w 1557 0 cd, a, XX_q h (fun _ _ _ _ => rfl) Mq_thr (fun _ _ => rfl) (h.2.2.2.2.2.2.2.2 148 (.inr (.inl rfl))), fun _ _ => rfl, fun q hq => upm_rf (by omega), .inr ⟨e, z, by rw [upm_eq]; exact he, hc, hm⟩⟩
theorem Mq_lo {w w' : Nat → Nat → Int} (h : Mq w w') (q : Nat) (hq : q < 1557 ∨ 1567 < q) : w' q = w q := by
  funext j; exact h q j (by omega) (by omega) (by omega)
theorem OPc_spare {z : Int} {v' w' : Nat → Nat → Int} {a' : Nat → Nat → Nat} (h : XX c v w a) (hv : ∀ q, (q < 148 ∨ 275 ≤ q) → ¬ (1295 ≤ q ∧ q ≤ 1300) → v' q = v q) (ha : ∀ Q, Q ≠ 148 → a' Q = a Q) (hk : okA (a' 148)) (hM : Mq w w') (h0 : w' 1557 0 = 0) (hc : a_m m (a_r 18 :: as) (K0 L, v, G a, t) = some (.inl (some (a_i z)), (K0 L, v', G a', t))) (hm : a_m n (a_r 1557 :: as) (K0 L, w, G a', t) = some (.inl (some (a_i z)), (K0 L, w', G a', t))) : OPc L m n as es c v w a t :=
  ⟨v', w', a', XX_q h (fun q _ q1 q2 => hv q q1 q2) hM ha hk, fun q hq => hv q (by omega) (by omega), Mq_lo hM, .inl ⟨h0, z, hc, hm⟩⟩
theorem OPc_val {z : Int} {w' : Nat → Nat → Int} (h : XX c v w a) (hM : Mq w w') (h0 : w' 1557 0 = 0) (hc : a_m m (a_r 18 :: as) (K0 L, v, G a, t) = some (.inl (some (a_i (z))), (K0 L, v, G a, t))) (hm : a_m n (a_r 1557 :: as) (K0 L, w, G a, t) = some (.inl (some (a_i (z))), (K0 L, w', G a, t))) : OPc L m n as es c v w a t :=
  OPc_spare h (fun _ _ _ => rfl) (fun _ _ => rfl) (h.2.2.2.2.2.2.2.2 148 (.inr (.inl rfl))) hM h0 hc hm
theorem OPc_val0 {z : Int} (h : XX c v w a) (hc : a_m m (a_r 18 :: as) (K0 L, v, G a, t) = some (.inl (some (a_i (z))), (K0 L, v, G a, t))) (hm : a_m n (a_r 1557 :: as) (K0 L, w, G a, t) = some (.inl (some (a_i (z))), (K0 L, upm w 1557 0 0, G a, t))) : OPc L m n as es c v w a t :=
  OPc_val h Mq_thr upm_eq hc hm
theorem C_needList {l : Int} (h : -1 ≤ l ∧ l < v 21 4) : a_m 146 [a_r 18, a_i l] (K0 L, v, G a, t) = some (.inl none, (K0 L, v, G a, t)) := by
  by_cases h1 : l = -1
  · simp (disch := first | assumption | omega) only [k18, g18_0, g18_1, g18_2, g18_3, g18_4, g18_5, g18_6, g18_7, E_X10_needList, B_X10_needList_0, B_X10_needList_10, Option.bind_some, back_v, Option.toList_some, Option.toList_none, List.cons_append, List.nil_append, Nat.reduceAdd, Int.reduceToNat, Int.reduceNeg, upm_eq, upm_r, upm_i, if_pos, if_neg, ite_self, true_or, or_true, true_and, and_true, false_or, or_false, false_and, and_false, wr_id, i10, i01, upr_f, upr_eq, thr58, upm_upr, upr_upr, lc_lt, lc_gt, lc_ge, lc_le, afit1, afit0, afitI, bifit, not_true_eq_false, not_false_eq_true, if_true, if_false, Bool.false_eq_true, reduceCtorEq, k1557, k1558, g1557_2, h1]
  · have hn := C_needL (L := L) (a := a) (t := t) (v := v) (l := l) ⟨by omega, h.2⟩
    simp (disch := first | assumption | omega) only [k18, g18_0, g18_1, g18_2, g18_3, g18_4, g18_5, g18_6, g18_7, E_X10_needList, B_X10_needList_0, B_X10_needList_10, Option.bind_some, back_v, Option.toList_some, Option.toList_none, List.cons_append, List.nil_append, Nat.reduceAdd, Int.reduceToNat, Int.reduceNeg, upm_eq, upm_r, upm_i, if_pos, if_neg, ite_self, true_or, or_true, true_and, and_true, false_or, or_false, false_and, and_false, wr_id, i10, i01, upr_f, upr_eq, thr58, upm_upr, upr_upr, lc_lt, lc_gt, lc_ge, lc_le, afit1, afit0, afitI, bifit, not_true_eq_false, not_false_eq_true, if_true, if_false, Bool.false_eq_true, reduceCtorEq, k1557, k1558, g1557_2, h1, hn]
theorem C_needList_bad {l : Int} (h4 : 1 ≤ v 21 4) (h : l < -1 ∨ v 21 4 ≤ l) : a_m 146 [a_r 18, a_i l] (K0 L, v, G a, t) = some (.inr 2, (K0 L, v, G a, (t.1, t.2.1 + 1, t.2.2 + 6))) := by
  have h1 : l ≠ -1 := by omega
  have hn := C_needL_bad (L := L) (a := a) (t := t) (v := v) (l := l) (by omega)
  have be := fun pc len e ls st σ => pub_e (m := 146) (pc := pc) (len := len) (e := e) (ls := ls) (st := st) (σ := σ) (by decide)
  simp (disch := first | assumption | omega) only [k18, g18_0, g18_1, g18_2, g18_3, g18_4, g18_5, g18_6, g18_7, E_X10_needList, B_X10_needList_0, B_X10_needList_10, Option.bind_some, back_v, Option.toList_some, Option.toList_none, List.cons_append, List.nil_append, Nat.reduceAdd, Int.reduceToNat, Int.reduceNeg, upm_eq, upm_r, upm_i, if_pos, if_neg, ite_self, true_or, or_true, true_and, and_true, false_or, or_false, false_and, and_false, wr_id, i10, i01, upr_f, upr_eq, thr58, upm_upr, upr_upr, lc_lt, lc_gt, lc_ge, lc_le, afit1, afit0, afitI, bifit, not_true_eq_false, not_false_eq_true, if_true, if_false, Bool.false_eq_true, reduceCtorEq, k1557, k1558, g1557_2, h1, hn, be]
theorem C_needSlot {k : Int} (h : 0 ≤ k ∧ k ≤ 11) : a_m 147 [a_r 18, a_i k] (K0 L, v, G a, t) = some (.inl none, (K0 L, v, G a, t)) := by
  have h1 : ¬ k < 0 := by omega
  have h2 : k < 12 := by omega
  simp (disch := first | assumption | omega) only [E_X10_needSlot, B_X10_needSlot_0, Option.bind_some, back_v, Option.toList_some, Option.toList_none, List.cons_append, List.nil_append, Nat.reduceAdd, Int.reduceToNat, Int.reduceNeg, upm_eq, upm_r, upm_i, if_pos, if_neg, ite_self, true_or, or_true, true_and, and_true, false_or, or_false, false_and, and_false, wr_id, i10, i01, upr_f, upr_eq, thr58, upm_upr, upr_upr, lc_lt, lc_gt, lc_ge, lc_le, afit1, afit0, afitI, bifit, not_true_eq_false, not_false_eq_true, if_true, if_false, Bool.false_eq_true, reduceCtorEq, k1557, k1558, g1557_2]
theorem C_needSlot_bad {k : Int} (h : k < 0 ∨ 11 < k) : a_m 147 [a_r 18, a_i k] (K0 L, v, G a, t) = some (.inr 2, (K0 L, v, G a, (t.1, t.2.1 + 1, t.2.2 + 6))) := by
  by_cases h1 : k < 0
  · simp (disch := first | assumption | omega) only [E_X10_needSlot, B_X10_needSlot_0, Option.bind_some, back_v, Option.toList_some, Option.toList_none, List.cons_append, List.nil_append, Nat.reduceAdd, Int.reduceToNat, Int.reduceNeg, upm_eq, upm_r, upm_i, if_pos, if_neg, ite_self, true_or, or_true, true_and, and_true, false_or, or_false, false_and, and_false, wr_id, i10, i01, upr_f, upr_eq, thr58, upm_upr, upr_upr, lc_lt, lc_gt, lc_ge, lc_le, afit1, afit0, afitI, bifit, not_true_eq_false, not_false_eq_true, if_true, if_false, Bool.false_eq_true, reduceCtorEq, k1557, k1558, g1557_2]
  · have h2 : ¬ k < 12 := by omega
    simp (disch := first | assumption | omega) only [E_X10_needSlot, B_X10_needSlot_0, Option.bind_some, back_v, Option.toList_some, Option.toList_none, List.cons_append, List.nil_append, Nat.reduceAdd, Int.reduceToNat, Int.reduceNeg, upm_eq, upm_r, upm_i, if_pos, if_neg, ite_self, true_or, or_true, true_and, and_true, false_or, or_false, false_and, and_false, wr_id, i10, i01, upr_f, upr_eq, thr58, upm_upr, upr_upr, lc_lt, lc_gt, lc_ge, lc_le, afit1, afit0, afitI, bifit, not_true_eq_false, not_false_eq_true, if_true, if_false, Bool.false_eq_true, reduceCtorEq, k1557, k1558, g1557_2]
theorem C_needCor {k : Int} (h : 1 ≤ k ∧ k ≤ v 22 7) : a_m 150 [a_r 18, a_i k] (K0 L, v, G a, t) = some (.inl none, (K0 L, v, G a, t)) := by
  have h1 : ¬ k < 1 := by omega
  have h2 := h.2
  simp (disch := first | assumption | omega) only [k18, g18_0, g18_1, g18_2, g18_3, g18_4, g18_5, g18_6, g18_7, kq21, kq22, kq23, kq24, kq25, kq26, kq27, kq28, kq29, kq30, kq31, kq32, kq123, gq21_0, gq21_1, gq21_2, gq21_3, gq22_0, gq22_1, gq22_2, gq22_3, gq22_4, gq22_5, gq22_6, gq31_0, gq123_j, gq32_j, kq124_l, kq125_l, kq126_l, kq127_l, gq124_2, gq124_3, gq124_4, kq33_p, kq34_p, kq35_p, gq33_6, gq33_7, E_X10_needCorrection, B_X10_needCorrection_0, Option.bind_some, back_v, Option.toList_some, Option.toList_none, List.cons_append, List.nil_append, Nat.reduceAdd, Int.reduceToNat, Int.reduceNeg, upm_eq, upm_r, upm_i, if_pos, if_neg, ite_self, true_or, or_true, true_and, and_true, false_or, or_false, false_and, and_false, wr_id, i10, i01, upr_f, upr_eq, thr58, upm_upr, upr_upr, lc_lt, lc_gt, lc_ge, lc_le, afit1, afit0, afitI, bifit, not_true_eq_false, not_false_eq_true, if_true, if_false, Bool.false_eq_true, reduceCtorEq, k1557, k1558, g1557_2, h2]
theorem C_needCor_bad {k : Int} (h : k < 1 ∨ v 22 7 < k) : a_m 150 [a_r 18, a_i k] (K0 L, v, G a, t) = some (.inr 3, (K0 L, v, G a, (t.1, t.2.1 + 1, t.2.2 + 6))) := by
  by_cases h1 : k < 1
  · simp (disch := first | assumption | omega) only [k18, g18_0, g18_1, g18_2, g18_3, g18_4, g18_5, g18_6, g18_7, kq21, kq22, kq23, kq24, kq25, kq26, kq27, kq28, kq29, kq30, kq31, kq32, kq123, gq21_0, gq21_1, gq21_2, gq21_3, gq22_0, gq22_1, gq22_2, gq22_3, gq22_4, gq22_5, gq22_6, gq31_0, gq123_j, gq32_j, kq124_l, kq125_l, kq126_l, kq127_l, gq124_2, gq124_3, gq124_4, kq33_p, kq34_p, kq35_p, gq33_6, gq33_7, E_X10_needCorrection, B_X10_needCorrection_0, Option.bind_some, back_v, Option.toList_some, Option.toList_none, List.cons_append, List.nil_append, Nat.reduceAdd, Int.reduceToNat, Int.reduceNeg, upm_eq, upm_r, upm_i, if_pos, if_neg, ite_self, true_or, or_true, true_and, and_true, false_or, or_false, false_and, and_false, wr_id, i10, i01, upr_f, upr_eq, thr58, upm_upr, upr_upr, lc_lt, lc_gt, lc_ge, lc_le, afit1, afit0, afitI, bifit, not_true_eq_false, not_false_eq_true, if_true, if_false, Bool.false_eq_true, reduceCtorEq, k1557, k1558, g1557_2]
  · have h2 : ¬ k ≤ v 22 7 := by omega
    simp (disch := first | assumption | omega) only [k18, g18_0, g18_1, g18_2, g18_3, g18_4, g18_5, g18_6, g18_7, kq21, kq22, kq23, kq24, kq25, kq26, kq27, kq28, kq29, kq30, kq31, kq32, kq123, gq21_0, gq21_1, gq21_2, gq21_3, gq22_0, gq22_1, gq22_2, gq22_3, gq22_4, gq22_5, gq22_6, gq31_0, gq123_j, gq32_j, kq124_l, kq125_l, kq126_l, kq127_l, gq124_2, gq124_3, gq124_4, kq33_p, kq34_p, kq35_p, gq33_6, gq33_7, E_X10_needCorrection, B_X10_needCorrection_0, Option.bind_some, back_v, Option.toList_some, Option.toList_none, List.cons_append, List.nil_append, Nat.reduceAdd, Int.reduceToNat, Int.reduceNeg, upm_eq, upm_r, upm_i, if_pos, if_neg, ite_self, true_or, or_true, true_and, and_true, false_or, or_false, false_and, and_false, wr_id, i10, i01, upr_f, upr_eq, thr58, upm_upr, upr_upr, lc_lt, lc_gt, lc_ge, lc_le, afit1, afit0, afitI, bifit, not_true_eq_false, not_false_eq_true, if_true, if_false, Bool.false_eq_true, reduceCtorEq, k1557, k1558, g1557_2, h2]
theorem C_needNum (h : v 22 7 < 99) : a_m 151 [a_r 18] (K0 L, v, G a, t) = some (.inl none, (K0 L, v, G a, t)) := by
  simp (disch := first | assumption | omega) only [k18, g18_0, g18_1, g18_2, g18_3, g18_4, g18_5, g18_6, g18_7, kq21, kq22, kq23, kq24, kq25, kq26, kq27, kq28, kq29, kq30, kq31, kq32, kq123, gq21_0, gq21_1, gq21_2, gq21_3, gq22_0, gq22_1, gq22_2, gq22_3, gq22_4, gq22_5, gq22_6, gq31_0, gq123_j, gq32_j, kq124_l, kq125_l, kq126_l, kq127_l, gq124_2, gq124_3, gq124_4, kq33_p, kq34_p, kq35_p, gq33_6, gq33_7, E_X10_needNumberLeft, B_X10_needNumberLeft_0, Option.bind_some, back_v, Option.toList_some, Option.toList_none, List.cons_append, List.nil_append, Nat.reduceAdd, Int.reduceToNat, Int.reduceNeg, upm_eq, upm_r, upm_i, if_pos, if_neg, ite_self, true_or, or_true, true_and, and_true, false_or, or_false, false_and, and_false, wr_id, i10, i01, upr_f, upr_eq, thr58, upm_upr, upr_upr, lc_lt, lc_gt, lc_ge, lc_le, afit1, afit0, afitI, bifit, not_true_eq_false, not_false_eq_true, if_true, if_false, Bool.false_eq_true, reduceCtorEq, k1557, k1558, g1557_2, h]
theorem C_needNum_bad (h : ¬ v 22 7 < 99) : a_m 151 [a_r 18] (K0 L, v, G a, t) = some (.inr 3, (K0 L, v, G a, (t.1, t.2.1 + 1, t.2.2 + 6))) := by
  simp (disch := first | assumption | omega) only [k18, g18_0, g18_1, g18_2, g18_3, g18_4, g18_5, g18_6, g18_7, kq21, kq22, kq23, kq24, kq25, kq26, kq27, kq28, kq29, kq30, kq31, kq32, kq123, gq21_0, gq21_1, gq21_2, gq21_3, gq22_0, gq22_1, gq22_2, gq22_3, gq22_4, gq22_5, gq22_6, gq31_0, gq123_j, gq32_j, kq124_l, kq125_l, kq126_l, kq127_l, gq124_2, gq124_3, gq124_4, kq33_p, kq34_p, kq35_p, gq33_6, gq33_7, E_X10_needNumberLeft, B_X10_needNumberLeft_0, Option.bind_some, back_v, Option.toList_some, Option.toList_none, List.cons_append, List.nil_append, Nat.reduceAdd, Int.reduceToNat, Int.reduceNeg, upm_eq, upm_r, upm_i, if_pos, if_neg, ite_self, true_or, or_true, true_and, and_true, false_or, or_false, false_and, and_false, wr_id, i10, i01, upr_f, upr_eq, thr58, upm_upr, upr_upr, lc_lt, lc_gt, lc_ge, lc_le, afit1, afit0, afitI, bifit, not_true_eq_false, not_false_eq_true, if_true, if_false, Bool.false_eq_true, reduceCtorEq, k1557, k1558, g1557_2, h]
theorem C_needRoom (h : v 31 1 < 30) : a_m 152 [a_r 18] (K0 L, v, G a, t) = some (.inl none, (K0 L, v, G a, t)) := by
  have hf := C_isFull (L := L) (u := v) (a := a) (t := t) (R := 21) (n := v 31 1) (.inl rfl) rfl
  rw [decide_eq_false (by omega), bi_f] at hf
  simp (disch := first | assumption | omega) only [k18, g18_0, g18_1, g18_2, g18_3, g18_4, g18_5, g18_6, g18_7, kq21, kq22, kq23, kq24, kq25, kq26, kq27, kq28, kq29, kq30, kq31, kq32, kq123, gq21_0, gq21_1, gq21_2, gq21_3, gq22_0, gq22_1, gq22_2, gq22_3, gq22_4, gq22_5, gq22_6, gq31_0, gq123_j, gq32_j, kq124_l, kq125_l, kq126_l, kq127_l, gq124_2, gq124_3, gq124_4, kq33_p, kq34_p, kq35_p, gq33_6, gq33_7, E_X10_needRoomOnAir, B_X10_needRoomOnAir_0, B_X10_needRoomOnAir_10, Option.bind_some, back_v, Option.toList_some, Option.toList_none, List.cons_append, List.nil_append, Nat.reduceAdd, Int.reduceToNat, Int.reduceNeg, upm_eq, upm_r, upm_i, if_pos, if_neg, ite_self, true_or, or_true, true_and, and_true, false_or, or_false, false_and, and_false, wr_id, i10, i01, upr_f, upr_eq, thr58, upm_upr, upr_upr, lc_lt, lc_gt, lc_ge, lc_le, afit1, afit0, afitI, bifit, not_true_eq_false, not_false_eq_true, if_true, if_false, Bool.false_eq_true, reduceCtorEq, k1557, k1558, g1557_2, hf]
theorem C_needRoom_bad (h : ¬ v 31 1 < 30) : a_m 152 [a_r 18] (K0 L, v, G a, t) = some (.inr 3, (K0 L, v, G a, (t.1, t.2.1 + 1, t.2.2 + 6))) := by
  have hf := C_isFull (L := L) (u := v) (a := a) (t := t) (R := 21) (n := v 31 1) (.inl rfl) rfl
  rw [decide_eq_true (by omega), bi_t] at hf
  simp (disch := first | assumption | omega) only [k18, g18_0, g18_1, g18_2, g18_3, g18_4, g18_5, g18_6, g18_7, kq21, kq22, kq23, kq24, kq25, kq26, kq27, kq28, kq29, kq30, kq31, kq32, kq123, gq21_0, gq21_1, gq21_2, gq21_3, gq22_0, gq22_1, gq22_2, gq22_3, gq22_4, gq22_5, gq22_6, gq31_0, gq123_j, gq32_j, kq124_l, kq125_l, kq126_l, kq127_l, gq124_2, gq124_3, gq124_4, kq33_p, kq34_p, kq35_p, gq33_6, gq33_7, E_X10_needRoomOnAir, B_X10_needRoomOnAir_0, B_X10_needRoomOnAir_10, Option.bind_some, back_v, Option.toList_some, Option.toList_none, List.cons_append, List.nil_append, Nat.reduceAdd, Int.reduceToNat, Int.reduceNeg, upm_eq, upm_r, upm_i, if_pos, if_neg, ite_self, true_or, or_true, true_and, and_true, false_or, or_false, false_and, and_false, wr_id, i10, i01, upr_f, upr_eq, thr58, upm_upr, upr_upr, lc_lt, lc_gt, lc_ge, lc_le, afit1, afit0, afitI, bifit, not_true_eq_false, not_false_eq_true, if_true, if_false, Bool.false_eq_true, reduceCtorEq, k1557, k1558, g1557_2, hf]
end OPS
def e1 : List (Nat × Int) := [(1, 1)]
def e2 : List (Nat × Int) := [(1, 1), (2, 2)]
def e3 : List (Nat × Int) := [(1, 1), (2, 2), (3, 3)]
def eA : List (Nat × Int) := [(1, 1), (3, 2)]
def eL : List (Nat × Int) := [(2, 1), (3, 2)]
def eR : List (Nat × Int) := [(2, 1), (1, 2)]
def eT : List (Nat × Int) := [(2, 1)]
