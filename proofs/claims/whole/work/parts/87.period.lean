/-! ===== the period is set ===== -/
theorem rel_period {v : Nat → Nat → Int} {b : Nat → Nat} {C : List (Nat → Int)} {s : Nat → Int} {c x : Int} (h : RelC v b C s) (hM : MI c s) : RelC (upm v 0 5 x) b C (up1 s 0 x) := by
  obtain ⟨r1, r2, r3, r4, r5, r6, r7⟩ := h
  have hM2 := hM.2.2.1
  have hM3 := hM.2.2.2.1
  have hA := hM.2.2.2.2.2.1
  have hL := hM.2.2.2.2.2.2.2
  have e : ∀ q, q ≠ 0 → upm v 0 5 x q = v q := fun q hq => upm_rf hq
  have es : ∀ j, j ≠ 0 → up1 s 0 x j = s j := fun j hj => up1_ne hj
  have ht : tldS v (upm v 0 5 x) := fun q q0 _ => e q (by omega)
  have hA30 := hA.2.1
  have e2 := es 2 (by decide)
  have e3 := es 3 (by decide)
  have e1 := es 1 (by decide)
  have hAL : airL (up1 s 0 x) = airL s := by
    unfold airL
    rw [es 4 (by decide)]
    exact List.map_congr_left fun i _ => blk_ne (fun j hj => es j (by omega)) i
  refine ⟨?_, rowsR_congr r2 ht e2, corR_congr r3 ht e2 hM2.2 (fun j j0 _ => es j (by omega)), heardR_congr r4 (e 8 (by decide)) e2 e3 (fun l n l0 l1 n1 n2 => ?_), fun l l0 l1 => ?_, fun l l0 l1 => ?_, airR_congr r7 ht (fun c c0 _ => e c (by omega)) (by rw [airR_len r7]; omega) (by rw [e1]; exact Int.le_refl _) e2 e3 hAL⟩
  · obtain ⟨a1, a2, a3, a4, a5, a6, a7⟩ := r1
    refine ⟨?_, ?_, ?_, ?_, ?_, ?_, ?_⟩
    · rw [upm_i (by decide), e3]; exact a1
    · rw [upm_eq, up1_eq]
    · rw [upm_i (by decide), e1]; exact a3
    · rw [upm_i (by decide), es 5 (by decide)]; exact a4
    · rw [upm_i (by decide), es 6 (by decide)]; exact a5
    · rw [e 1 (by decide), e2]; exact a6
    · rw [e 10 (by decide), es 4 (by decide)]; exact a7
  · have := tdiv32 (n := n) ⟨n1, by omega⟩
    unfold mHeard mLi
    rw [e2, es _ (by omega)]
  · rw [e3] at l1
    exact slR_congr (r5 l l0 l1) ht (fun j _ => by rw [e _ (by unfold qOf; split <;> omega)]) (by rw [e2]; exact Int.le_refl _) (fun k w k0 k1 w0 w1 => by rw [mOf, es _ (by omega)]; rfl)
  · rw [e3] at l1
    exact lis1_congr (r6 l l0 l1) (e _ (by omega)) (e _ (by omega)) (e _ (by omega)) e2 (hL l l0 l1).2.2 (fun w w0 w1 => by rw [mLi, es _ (by omega)]; rfl)
theorem RS_period {c : Int} {v : Nat → Nat → Int} {a : Nat → Nat → Nat} {R : Nat} {s : Nat → Int} {x : Int} (h : RS c v a R s) (hx : 0 ≤ x ∧ x ≤ 99) : RS c (upm v R 5 x) a R (up1 s 0 x) := by
  obtain ⟨⟨C, hC⟩, hM, hf, hi, h5⟩ := h
  refine ⟨⟨C, ?_⟩, MI_period hM hx, ?_, fun j hj => by rw [up1_ne (by omega)]; exact hi j hj, by rw [up1_ne (by decide), up1_ne (by decide)]; exact h5⟩
  · have := rel_period (x := x) hC hM
    rwa [← vw_upm (R := R) (c := 0) (by decide), Nat.add_zero] at this
  · exact frs_congr hf hM.2.2.1.1 (up1_ne (by decide)) (up1_ne (by decide)) (fun l w l0 l1 w0 w1 => by rw [mLi, up1_ne (by omega)]; rfl)
