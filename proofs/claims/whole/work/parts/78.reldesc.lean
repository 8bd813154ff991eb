/-! ===== a description read is the beginning of the relation ===== -/
theorem pd_rel {v : Nat → Nat → Int} {b : Nat → Nat} {s : Nat → Int} {n : Nat} (h : pdR v s n) (h3 : s 3 = n) (hn : 1 ≤ n) (hb : okA b) : Rel v b s ∧ MI 0 s ∧ frs s ∧ hi0 s := by
  obtain ⟨⟨a1, a2, a3, a4, a5, a6, a7, a8, a9, a10, a11, a12⟩, h2, h4, h5⟩ := h
  have z : ∀ j, j < 16 → j ≠ 0 → j ≠ 3 → j ≠ 8 → s j = 0 := a11
  have z1 := z 1 (by decide) (by decide) (by decide) (by decide)
  have z2 := z 2 (by decide) (by decide) (by decide) (by decide)
  have z4 := z 4 (by decide) (by decide) (by decide) (by decide)
  have z5 := z 5 (by decide) (by decide) (by decide) (by decide)
  have z6 := z 6 (by decide) (by decide) (by decide) (by decide)
  have z7 := z 7 (by decide) (by decide) (by decide) (by decide)
  have hA : airL s = [] := by unfold airL; rw [z4]; rfl
  have hsl : ∀ l : Int, -1 ≤ l → l ≤ 5 → (∀ k : Int, 0 ≤ k → k < 12 → v (qOf l) k.toNat = 0) → slR v (qOf l) (s 2) (mOf s l) := by
    intro l l0 l1 hq k k0 k1
    obtain ⟨b1, b2, b3⟩ := h2 k k0 k1
    rw [hq k k0 k1]
    refine ⟨⟨by decide, by omega⟩, fun h => by omega, (b3 l l0 l1).1, fun w w0 w1 => ?_⟩
    rw [(b3 l l0 l1).2 w w0 w1]; unfold rowI; rw [if_pos rfl]
  refine ⟨⟨[], ⟨?_, ?_, ?_, ?_, ?_, ?_, ?_⟩, fun row r0 r1 => (h2 row r0 (by omega)).1, fun n n1 n2 => by omega, fun n n1 n2 => by omega, fun l l0 l1 => ?_, fun l l0 l1 => ?_, hb.1, hb.2, by rw [hA], List.Pairwise.nil, fun p hp => by cases hp⟩, ?_, ?_, ?_⟩
  · rw [h3]; exact a1
  · exact a2
  · rw [z1]; exact a3
  · rw [z5]; exact a4
  · rw [z6]; exact a5
  · rw [z2]; exact a6
  · rw [z4]; exact a7
  · refine hsl l l0 (by omega) (fun k k0 k1 => ?_)
    unfold qOf
    by_cases hl : l = -1
    · rw [if_pos hl]; exact (h2 k k0 k1).2.1
    · rw [if_neg hl]; exact (h4 l (by omega) (by omega)).2.2.2.2.2.2.2 _ (by omega)
  · obtain ⟨p1, p2, p3, p4, p5, p6, p7, p8⟩ := h4 l l0 (by omega)
    refine ⟨p1, p3, ?_, ?_, ?_, ?_, ?_, ?_, ?_, p7⟩
    · rw [p5 5 (by decide) (by decide), p6 10 (by decide) (by decide)]
    · rw [p5 6 (by decide) (by decide), p6 11 (by decide) (by decide)]
    · rw [p5 7 (by decide) (by decide), p6 12 (by decide) (by decide)]
    · rw [p5 8 (by decide) (by decide), p6 13 (by decide) (by decide)]
    · rw [p5 9 (by decide) (by decide), p6 14 (by decide) (by decide)]
    · rw [p6 10 (by decide) (by decide)]; omega
    · rw [p6 11 (by decide) (by decide)]; omega
  · refine ⟨a8, by omega, by omega, by omega, by omega, ⟨by omega, by omega, fun i i0 i1 => by omega⟩, fun i i0 i1 => by omega, fun l l0 l1 => ?_⟩
    obtain ⟨p1, p2, p3, p4, p5, p6, p7, p8⟩ := h4 l l0 (by omega)
    exact ⟨p2, p4⟩
  · intro l m l0 l1 m0 m1
    obtain ⟨p1, p2, p3, p4, p5, p6, p7, p8⟩ := h4 l l0 (by omega)
    have h9 := tdiv32 (n := m) (by omega)
    rw [p6 _ (by omega) (by omega)]
    exact tb_zero (by have := Int.tmod_nonneg (a := m) 32 (by omega); have := Int.tmod_lt_of_pos m (show (0 : Int) < 32 by decide); omega)
  · exact fun j hj => a12 j (by omega)
