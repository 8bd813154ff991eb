/-! ===== the relation goes over to a copy ===== -/
theorem vW_live {v v' : Nat → Nat → Int} {n2 row w : Int} (h : ∀ c, 2 ≤ c → c ≤ 5 → ∀ j : Nat, (j : Int) < 12 + n2 → v' c j = v c j) (h0 : 0 ≤ row) (h1 : row < 12 + n2) : vW v' row w = vW v row w := by
  unfold vW
  rw [h 2 (by decide) (by decide) _ (by omega), h 3 (by decide) (by decide) _ (by omega), h 4 (by decide) (by decide) _ (by omega), h 5 (by decide) (by decide) _ (by omega)]
theorem slR_live {v v' : Nat → Nat → Int} {q q' : Nat} {n2 : Int} {f : Int → Int → Int} (h : slR v q n2 f) (hT : ∀ c, 2 ≤ c → c ≤ 5 → ∀ j : Nat, (j : Int) < 12 + n2 → v' c j = v c j) (h6 : ∀ j : Nat, (j : Int) < 1 + n2 → v' 6 j = v 6 j) (hq : ∀ j, j < 12 → v' q' j = v q j) : slR v' q' n2 f := by
  intro k k0 k1
  obtain ⟨a1, a2, a3, a4⟩ := h k k0 k1
  rw [hq _ (by omega)]
  refine ⟨a1, fun h0 => by rw [h6 _ (by omega)]; exact a2 h0, a3, fun w w0 w1 => ?_⟩
  rw [a4 w w0 w1, vW_live hT (by unfold rowI; split <;> omega) (by unfold rowI; split <;> omega)]
theorem rel_copy {u u' : Nat → Nat → Int} {R Q : Nat} {b b' : Nat → Nat} {C : List (Nat → Int)} {s : Nat → Int} {c : Int} {n2 n3 n4 : Nat} (h : RelC (vw u Q) b C s) (hM : MI c s) (hA : okA b') (e2 : s 2 = n2) (e3 : s 3 = n3) (e4 : s 4 = n4) (hE : raE u' R b' u Q b n2 n3 n4) : RelC (vw u' R) b' C s := by
  obtain ⟨r1, r2, r3, r4, r5, r6, r7⟩ := h
  obtain ⟨x1, x2, x3, x4, x5, x6, x7, x8⟩ := hE
  have hM2 := hM.2.2.1
  have hM3 := hM.2.2.2.1
  have hAi := hM.2.2.2.2.2.1
  have hlen := airR_len r7
  have v0 : ∀ j, 4 ≤ j → j < 9 → vw u' R 0 j = vw u Q 0 j := fun j h1 h2 => by rw [vw_at (by decide), vw_at (by decide)]; exact x1 j h1 h2
  have vT : ∀ c, 2 ≤ c → c ≤ 5 → ∀ j : Nat, (j : Int) < 12 + s 2 → vw u' R c j = vw u Q c j := fun c h1 h2 j hj => by rw [vw_at (by omega), vw_at (by omega)]; exact x3 c h1 h2 j (by omega)
  have vS : ∀ c, 6 ≤ c → c ≤ 8 → ∀ j : Nat, (j : Int) < 1 + s 2 → vw u' R c j = vw u Q c j := fun c h1 h2 j hj => by rw [vw_at (by omega), vw_at (by omega)]; exact x4 c h1 h2 j (by omega)
  have v9 : ∀ j, j < 12 → vw u' R 9 j = vw u Q 9 j := fun j hj => by rw [vw_at (by decide), vw_at (by decide)]; exact x5 j hj
  have v6 : ∀ j : Nat, (j : Int) < 1 + s 2 → vw u' R 6 j = vw u Q 6 j := vS 6 (by decide) (by decide)
  refine ⟨?_, fun row h0 h1 => ?_, fun n n1 n2 => ?_, fun n n1 n2 => ?_, fun l l0 l1 => ?_, fun l l0 l1 => ?_, hA.1, hA.2, r7.2.2.1, r7.2.2.2.1, fun p hp => ?_⟩
  · obtain ⟨a1, a2, a3, a4, a5, a6, a7⟩ := r1
    refine ⟨?_, ?_, ?_, ?_, ?_, ?_, ?_⟩
    · rw [v0 4 (by decide) (by decide)]; exact a1
    · rw [v0 5 (by decide) (by decide)]; exact a2
    · rw [v0 6 (by decide) (by decide)]; exact a3
    · rw [v0 7 (by decide) (by decide)]; exact a4
    · rw [v0 8 (by decide) (by decide)]; exact a5
    · rw [vw_at (by decide)] at a6 ⊢; rw [x2]; exact a6
    · rw [vw_at (by decide)] at a7 ⊢; rw [x6]; exact a7
  · have hw := r2 row h0 h1
    unfold wfS at *
    rw [vW_live vT h0 h1, vW_live vT h0 h1, vW_live vT h0 h1, vW_live vT h0 h1]
    exact hw
  · obtain ⟨a1, a2, a3, a4⟩ := r3 n n1 n2
    rw [v6 _ (by omega), vS 7 (by decide) (by decide) _ (by omega)]
    exact ⟨a1, a2, fun w w0 w1 => by rw [a3 w w0 w1, vW_live vT (by omega) (by omega)], a4⟩
  · rw [vS 8 (by decide) (by decide) _ (by omega)]; exact r4 n n1 n2
  · refine slR_live (r5 l l0 l1) vT v6 (fun j hj => ?_)
    unfold qOf
    split
    · exact v9 j hj
    · have hl6 : l.toNat < 6 := by omega
      rw [← vw_l3 u' hl6, ← vw_l3 u hl6]
      have := (x8 l.toNat (by omega)).2.2.2 j hj
      rwa [show R + 103 + 4 * l.toNat + 3 = R + 106 + 4 * l.toNat from by omega, show Q + 103 + 4 * l.toNat + 3 = Q + 106 + 4 * l.toNat from by omega] at this
  · have hl6 : l.toNat < 6 := by omega
    obtain ⟨y1, y2, y3, y4⟩ := x8 l.toNat (by omega)
    have hg := (hM.2.2.2.2.2.2.2 l l0 l1).2
    obtain ⟨a1, a2, a3, a4, a5, a6, a7, a8, a9, a10⟩ := r6 l l0 l1
    unfold lis1
    rw [← vw_l0 u' hl6, ← vw_l1 u' hl6, ← vw_l2 u' hl6]
    rw [← vw_l0 u hl6] at a1 a2 a3 a4 a5 a6 a7
    rw [← vw_l1 u hl6, ← vw_l2 u hl6] at a10
    rw [y1 0 (by omega), y1 1 (by omega), y1 5 (by omega), y1 6 (by omega), y1 7 (by omega), y1 8 (by omega), y1 9 (by omega)]
    refine ⟨a1, a2, a3, a4, a5, a6, a7, a8, a9, fun i i0 i1 => ?_⟩
    have z2 := y2 i.toNat (by omega)
    have z3 := y3 i.toNat (by omega)
    rw [show R + 103 + 4 * l.toNat + 1 = R + 104 + 4 * l.toNat from by omega, show Q + 103 + 4 * l.toNat + 1 = Q + 104 + 4 * l.toNat from by omega] at z2
    rw [show R + 103 + 4 * l.toNat + 2 = R + 105 + 4 * l.toNat from by omega, show Q + 103 + 4 * l.toNat + 2 = Q + 105 + 4 * l.toNat from by omega] at z3
    rw [z2, z3]
    exact a10 i i0 i1
  · have hp4 : p < n4 := by omega
    have hp30 : p < 30 := by have := hAi.2.1; omega
    obtain ⟨y1, y2, y3⟩ := x7 p hp4
    have hb := r7.1 p hp30
    have hb' := hA.1 p hp30
    obtain ⟨a1, a2, a3, a4, a5, a6, a7, a8, a9, a10, a11, a12⟩ := r7.2.2.2.2 p hp
    have k1 : ∀ j, j < 6 → vw u' R (12 + 3 * b' p) j = vw u Q (12 + 3 * b p) j := fun j hj => by rw [← vw_s0 u' hb', ← vw_s0 u hb]; exact y1 j hj
    have k2 : ∀ j, j < 6 → vw u' R (12 + 3 * b' p + 1) j = vw u Q (12 + 3 * b p + 1) j := fun j hj => by
      rw [← vw_s1 u' hb', ← vw_s1 u hb]
      have := y2 j hj
      rwa [show R + 12 + 3 * b' p + 1 = R + 13 + 3 * b' p from by omega, show Q + 12 + 3 * b p + 1 = Q + 13 + 3 * b p from by omega] at this
    have k3 : ∀ j, j < 12 → vw u' R (12 + 3 * b' p + 2) j = vw u Q (12 + 3 * b p + 2) j := fun j hj => by
      rw [← vw_s2 u' hb', ← vw_s2 u hb]
      have := y3 j hj
      rwa [show R + 12 + 3 * b' p + 2 = R + 14 + 3 * b' p from by omega, show Q + 12 + 3 * b p + 2 = Q + 14 + 3 * b p from by omega] at this
    unfold sgR
    rw [k1 0 (by decide), k1 1 (by decide), k1 2 (by decide), k1 3 (by decide), k1 4 (by decide), k1 5 (by decide)]
    refine ⟨a1, ?_, a3, a4, a5, a6, fun l l0 l1 => by rw [k2 _ (by omega)]; exact a7 l l0 l1, a8, a9, a10, a11, fun hc => slR_live (a12 hc) vT v6 (fun j hj => k3 j hj)⟩
    rw [a2]
    by_cases hc : C[p] 0 = 1
    · rw [if_pos hc, if_pos hc]
    · rw [if_neg hc, if_neg hc, v6 _ (by omega)]
section CP2
variable {L : Nat} {a : Nat → Nat → Nat} {t : Nat × Nat × Nat} {R Q : Nat}
/-- a radio copied: the copy has the relation that the other one had -/
theorem C_copy {u : Nat → Nat → Int} {s : Nat → Int} {c : Int} (hR : isRad R) (hQ : isRad Q) (hne : R ≠ Q) (h : Rel (vw u Q) (a Q) s) (hM : MI c s) (hA : okA (a R)) :
    ∃ u', a_m 29 [a_r R, a_r Q] (K0 L, u, G a, t) = some (.inl none, (K0 L, u', G a, t)) ∧ outR R u u' ∧ Rel (vw u' R) (a R) s := by
  obtain ⟨C, h⟩ := h
  obtain ⟨f4, f5, f6, f7, f8, f17, f10, fl⟩ := rel_facts h
  have hM2 := hM.2.2.1
  have hM3 := hM.2.2.2.1
  have hAi := hM.2.2.2.2.2.1
  have h40 := hAi.1
  have h430 := hAi.2.1
  obtain ⟨u', g1, g2, g3⟩ := C_copyRadio (L := L) (u := u) (a := a) (t := t) (n2 := (s 2).toNat) (n3 := (s 3).toNat) (n4 := (s 4).toNat) hR hQ hne (by omega) (by omega) (by omega) (by rw [f17]; omega) (by rw [f4]; omega) (by rw [f10]; omega) hA (Rel_okA ⟨C, h⟩)
  exact ⟨u', g1, g2, C, rel_copy h hM hA (by omega) (by omega) (by omega) g3⟩
end CP2
