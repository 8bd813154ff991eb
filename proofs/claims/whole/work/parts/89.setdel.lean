section SDE
variable {L : Nat} {a : Nat → Nat → Nat} {t : Nat × Nat × Nat}
theorem RS_delay {c : Int} {v : Nat → Nat → Int} {R : Nat} {s : Nat → Int} {n : Nat} {x : Int} (h : RS c v a R s) (hl : (n : Int) < s 3) (hx : 0 ≤ x ∧ x ≤ 9) : RS c (upm v (R + 103 + 4 * n) 0 x) a R (up1 s (436 + 19 * (n : Int) + 0).toNat x) := by
  obtain ⟨⟨C, hC⟩, hM, hf, hi, h5⟩ := h
  have hM3 := hM.2.2.2.1
  have hL := hM.2.2.2.2.2.2.2 n (by omega) hl
  have hO : sameO2 n s (up1 s (436 + 19 * (n : Int) + 0).toNat x) := O2_up (by omega) (by decide)
  have hli : ∀ w, 0 ≤ w → w < 19 → mLi (up1 s (436 + 19 * (n : Int) + 0).toNat x) n w = if w = 0 then x else mLi s n w := by
    intro w w0 w1
    unfold mLi
    by_cases hw : w = 0
    · rw [if_pos hw, hw, up1_eq]
    · rw [if_neg hw, up1_ne (by omega)]
  refine ⟨⟨C, ?_⟩, O2_MI hM hO ⟨by omega, by omega⟩ ?_ ?_, ?_, fun j hj => by rw [up1_ne (by omega)]; exact hi j hj, by rw [up1_ne (by omega)]; exact h5⟩
  · have := rel_delay (x := x) hC hM (l := n) ⟨by omega, hl⟩
    rw [Int.toNat_natCast, ← vw_upm (R := R) (c := 103 + 4 * n) (by omega), ← Nat.add_assoc] at this
    exact this
  · rw [hli 0 (by decide) (by decide), if_pos rfl]; exact hx
  · rw [hli 1 (by decide) (by decide), if_neg (by decide)]; exact hL.2
  · exact frs_congr hf hM.2.2.1.1 (up1_ne (by omega)) (up1_ne (by omega)) (fun l w l0 l1 w0 w1 => by rw [mLi, up1_ne (by omega)]; rfl)
end SDE
