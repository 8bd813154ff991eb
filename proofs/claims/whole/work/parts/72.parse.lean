/-! ===== what both parsers have laid down ===== -/
def plis (v : Nat → Nat → Int) (s : Nat → Int) (l : Int) : Prop :=
  v (103 + 4 * l.toNat) 0 = mLi s l 0 ∧ (0 ≤ mLi s l 0 ∧ mLi s l 0 ≤ 9) ∧ v (103 + 4 * l.toNat) 1 = mLi s l 1 ∧ (0 ≤ mLi s l 1 ∧ mLi s l 1 ≤ 4) ∧ (∀ j, 5 ≤ j → j < 10 → v (103 + 4 * l.toNat) j = 0) ∧ (∀ w, 10 ≤ w → w < 19 → mLi s l w = 0) ∧
  (∀ i, 0 ≤ i → i < mLi s l 1 → v (104 + 4 * l.toNat) i.toNat = mLi s l (2 + 2 * i) ∧ v (105 + 4 * l.toNat) i.toNat = mLi s l (2 + 2 * i + 1)) ∧ ∀ k, k < 12 → v (106 + 4 * l.toNat) k = 0
def pdH (v : Nat → Nat → Int) (s : Nat → Int) (n : Int) : Prop := v 0 4 = n ∧ v 0 5 = s 0 ∧ v 0 6 = 0 ∧ v 0 7 = 0 ∧ v 0 8 = 0 ∧ v 1 7 = 0 ∧ v 10 1 = 0 ∧ (0 ≤ s 0 ∧ s 0 ≤ 99) ∧ (0 ≤ s 3 ∧ s 3 ≤ n ∧ n ≤ 6) ∧ (0 ≤ s 8 ∧ s 8 ≤ 12) ∧ (∀ j, j < 16 → j ≠ 0 → j ≠ 3 → j ≠ 8 → s j = 0) ∧ ∀ j, 550 ≤ j → s j = 0
def pdS (v : Nat → Nat → Int) (s : Nat → Int) : Prop := ∀ k : Int, 0 ≤ k → k < 12 → wfS (vW v k) ∧ v 9 k.toNat = 0 ∧ ∀ l, -1 ≤ l → l ≤ 5 → mOf s l k 4 = 0 ∧ ∀ w, 0 ≤ w → w < 4 → mOf s l k w = vW v k w
def pdR (v : Nat → Nat → Int) (s : Nat → Int) (n : Int) : Prop := pdH v s n ∧ pdS v s ∧ (∀ l, 0 ≤ l → l < n → plis v s l) ∧ ∀ l w, n ≤ l → l ≤ 5 → 0 ≤ w → w < 19 → mLi s l w = 0
theorem plis_congr {v v' : Nat → Nat → Int} {s s' : Nat → Int} {l : Int} (hl : 0 ≤ l) (h : plis v s l) (hv : ∀ c, 103 + 4 * l.toNat ≤ c → c ≤ 106 + 4 * l.toNat → v' c = v c) (hs : ∀ w, 0 ≤ w → w < 19 → mLi s' l w = mLi s l w) : plis v' s' l := by
  unfold plis at *
  rw [hv (103 + 4 * l.toNat) (by omega) (by omega), hv (104 + 4 * l.toNat) (by omega) (by omega), hv (105 + 4 * l.toNat) (by omega) (by omega), hv (106 + 4 * l.toNat) (by omega) (by omega), hs 0 (by decide) (by decide), hs 1 (by decide) (by decide)]
  obtain ⟨h1, h2, h3, h4, h5, h6, h7, h8⟩ := h
  exact ⟨h1, h2, h3, h4, h5, fun w a b => by rw [hs w (by omega) b]; exact h6 w a b, fun i a b => by rw [hs _ (by omega) (by omega), hs _ (by omega) (by omega)]; exact h7 i a b, h8⟩
/-- one listener's lines are laid -/
theorem pdR_lis {v v' : Nat → Nat → Int} {s s' : Nat → Int} {n l : Int} (h : pdR v s n) (hl : 0 ≤ l ∧ l < n) (hv : ∀ q, q ≠ 103 + 4 * l.toNat → q ≠ 104 + 4 * l.toNat → q ≠ 105 + 4 * l.toNat → v' q = v q) (hs : ∀ j : Nat, ¬ (436 + 19 * l ≤ j ∧ (j : Int) < 436 + 19 * l + 19) → s' j = s j) (hp : plis v' s' l) : pdR v' s' n := by
  obtain ⟨h1, h2, h3, h4⟩ := h
  have h1' := h1
  obtain ⟨a1, a2, a3, a4, a5, a6, a7, a8, a9, a10, a11, a12⟩ := h1
  refine ⟨⟨?_, ?_, ?_, ?_, ?_, ?_, ?_, ?_, ?_, ?_, ?_, ?_⟩, ?_, ?_, ?_⟩
  · rw [hv 0 (by omega) (by omega) (by omega)]; exact a1
  · rw [hv 0 (by omega) (by omega) (by omega), hs 0 (by omega)]; exact a2
  · rw [hv 0 (by omega) (by omega) (by omega)]; exact a3
  · rw [hv 0 (by omega) (by omega) (by omega)]; exact a4
  · rw [hv 0 (by omega) (by omega) (by omega)]; exact a5
  · rw [hv 1 (by omega) (by omega) (by omega)]; exact a6
  · rw [hv 10 (by omega) (by omega) (by omega)]; exact a7
  · rw [hs 0 (by omega)]; exact a8
  · rw [hs 3 (by omega)]; exact a9
  · rw [hs 8 (by omega)]; exact a10
  · intro j j1 j2 j3 j4; rw [hs j (by omega)]; exact a11 j j1 j2 j3 j4
  · intro j j1; rw [hs j (by omega)]; exact a12 j j1
  · have e : ∀ c, c < 103 → v' c = v c := fun c hc => hv c (by omega) (by omega) (by omega)
    intro k k0 k1
    obtain ⟨b1, b2, b3⟩ := h2 k k0 k1
    have eW : ∀ w, vW v' k w = vW v k w := fun w => by unfold vW; rw [e 2 (by decide), e 3 (by decide), e 4 (by decide), e 5 (by decide)]
    refine ⟨?_, by rw [e 9 (by decide)]; exact b2, fun m m0 m1 => ⟨?_, fun w w0 w1 => ?_⟩⟩
    · unfold wfS at *; rw [eW, eW, eW, eW]; exact b1
    · rw [mOf, hs _ (by omega)]; exact (b3 m m0 m1).1
    · rw [eW, mOf, hs _ (by omega)]; exact (b3 m m0 m1).2 w w0 w1
  · intro m m0 m1
    by_cases hm : m = l
    · rw [hm]; exact hp
    · refine plis_congr m0 (h3 m m0 m1) (fun c c0 c1 => hv c (by omega) (by omega) (by omega)) (fun w w0 w1 => ?_)
      rw [mLi, hs _ (by omega)]; rfl
  · intro m w m0 m1 w0 w1
    rw [mLi, hs _ (by omega)]; exact h4 m w m0 m1 w0 w1
/-- one stop is laid in every list -/
theorem pdR_stop {v v' : Nat → Nat → Int} {s s' : Nat → Int} {n k : Int} {f : Int → Int} (h : pdR v s n) (hk : 0 ≤ k ∧ k < 12) (hf : wfS f) (hv : ∀ q, q ≠ 2 → q ≠ 3 → q ≠ 4 → q ≠ 5 → v' q = v q) (hW : ∀ j w, 0 ≤ j → j < 12 → 0 ≤ w → w < 4 → vW v' j w = if j = k then f w else vW v j w)
    (h8 : s' 8 = s 8 + 1) (h12 : s 8 < 12) (hs : ∀ j : Nat, j < 16 → j ≠ 8 → s' j = s j) (hs2 : ∀ j : Nat, 436 ≤ j → s' j = s j) (hO : ∀ l j w, -1 ≤ l → l ≤ 5 → 0 ≤ j → j < 12 → 0 ≤ w → w < 5 → mOf s' l j w = if j = k ∧ w < 4 then f w else mOf s l j w) : pdR v' s' n := by
  obtain ⟨h1, h2, h3, h4⟩ := h
  obtain ⟨a1, a2, a3, a4, a5, a6, a7, a8, a9, a10, a11, a12⟩ := h1
  have v0 := hv 0 (by decide) (by decide) (by decide) (by decide)
  refine ⟨⟨?_, ?_, ?_, ?_, ?_, ?_, ?_, ?_, ?_, ?_, ?_, ?_⟩, ?_, ?_, ?_⟩
  · rw [v0]; exact a1
  · rw [v0, hs 0 (by decide) (by decide)]; exact a2
  · rw [v0]; exact a3
  · rw [v0]; exact a4
  · rw [v0]; exact a5
  · rw [hv 1 (by decide) (by decide) (by decide) (by decide)]; exact a6
  · rw [hv 10 (by decide) (by decide) (by decide) (by decide)]; exact a7
  · rw [hs 0 (by decide) (by decide)]; exact a8
  · rw [hs 3 (by decide) (by decide)]; exact a9
  · rw [h8]; omega
  · intro j j1 j2 j3 j4; rw [hs j j1 j4]; exact a11 j j1 j2 j3 j4
  · intro j j1; rw [hs2 j (by omega)]; exact a12 j j1
  · intro j j0 j1
    obtain ⟨b1, b2, b3⟩ := h2 j j0 j1
    refine ⟨?_, by rw [hv 9 (by decide) (by decide) (by decide) (by decide)]; exact b2, fun m m0 m1 => ⟨?_, fun w w0 w1 => ?_⟩⟩
    · unfold wfS at *
      rw [hW j 0 j0 j1 (by decide) (by decide), hW j 1 j0 j1 (by decide) (by decide), hW j 2 j0 j1 (by decide) (by decide), hW j 3 j0 j1 (by decide) (by decide)]
      by_cases hj : j = k
      · simp only [if_pos hj]; exact hf
      · simp only [if_neg hj]; exact b1
    · rw [hO m j 4 m0 m1 j0 j1 (by decide) (by decide), if_neg (by omega)]; exact (b3 m m0 m1).1
    · rw [hO m j w m0 m1 j0 j1 w0 (by omega), hW j w j0 j1 w0 w1]
      by_cases hj : j = k
      · rw [if_pos ⟨hj, w1⟩, if_pos hj]
      · rw [if_neg (fun q => hj q.1), if_neg hj]; exact (b3 m m0 m1).2 w w0 w1
  · intro m m0 m1
    refine plis_congr m0 (h3 m m0 m1) (fun c c0 c1 => hv c (by omega) (by omega) (by omega) (by omega)) (fun w w0 w1 => ?_)
    rw [mLi, hs2 _ (by omega)]; rfl
  · intro m w m0 m1 w0 w1
    rw [mLi, hs2 _ (by omega)]; exact h4 m w m0 m1 w0 w1
theorem pdR_next {v v' : Nat → Nat → Int} {s : Nat → Int} {n : Int} (h : pdR v s n) (hn : 0 ≤ n ∧ n < 6) (hv : ∀ q, q ≠ 0 → q ≠ 103 + 4 * n.toNat → q ≠ 106 + 4 * n.toNat → v' q = v q) (h4' : v' 0 4 = n + 1) (h0 : ∀ j, j ≠ 4 → v' 0 j = v 0 j)
    (hl : v' (103 + 4 * n.toNat) 0 = 0 ∧ v' (103 + 4 * n.toNat) 1 = 0 ∧ ∀ j, 5 ≤ j → j < 10 → v' (103 + 4 * n.toNat) j = 0) (hq : ∀ k, k < 12 → v' (106 + 4 * n.toNat) k = 0) : pdR v' s (n + 1) := by
  obtain ⟨h1, h2, h3, h4⟩ := h
  obtain ⟨a1, a2, a3, a4, a5, a6, a7, a8, a9, a10, a11, a12⟩ := h1
  have e : ∀ c, c ≠ 0 → c < 103 → v' c = v c := fun c hc hc2 => hv c hc (by omega) (by omega)
  refine ⟨⟨h4', by rw [h0 5 (by decide)]; exact a2, by rw [h0 6 (by decide)]; exact a3, by rw [h0 7 (by decide)]; exact a4, by rw [h0 8 (by decide)]; exact a5, by rw [e 1 (by decide) (by decide)]; exact a6, by rw [e 10 (by decide) (by decide)]; exact a7, a8, by omega, a10, a11, a12⟩, ?_, ?_, ?_⟩
  · intro k k0 k1
    obtain ⟨b1, b2, b3⟩ := h2 k k0 k1
    have eW : ∀ w, vW v' k w = vW v k w := fun w => by unfold vW; rw [e 2 (by decide) (by decide), e 3 (by decide) (by decide), e 4 (by decide) (by decide), e 5 (by decide) (by decide)]
    refine ⟨?_, by rw [e 9 (by decide) (by decide)]; exact b2, fun m m0 m1 => ⟨(b3 m m0 m1).1, fun w w0 w1 => ?_⟩⟩
    · unfold wfS at *; rw [eW, eW, eW, eW]; exact b1
    · rw [eW]; exact (b3 m m0 m1).2 w w0 w1
  · intro m m0 m1
    by_cases hm : m = n
    · subst hm
      have z := fun w w0 w1 => h4 m w (Int.le_refl _) (by omega) w0 w1
      refine ⟨by rw [z 0 (by decide) (by decide)]; exact hl.1, by rw [z 0 (by decide) (by decide)]; decide, by rw [z 1 (by decide) (by decide)]; exact hl.2.1, by rw [z 1 (by decide) (by decide)]; decide, hl.2.2, fun w w0 w1 => z w (by omega) w1, fun i i0 i1 => ?_, hq⟩
      rw [z 1 (by decide) (by decide)] at i1; omega
    · exact plis_congr m0 (h3 m m0 (by omega)) (fun c c0 c1 => hv c (by omega) (by omega) (by omega)) (fun w w0 w1 => rfl)
  · intro m w m0 m1 w0 w1
    exact h4 m w (by omega) m1 w0 w1
theorem pdR_count {v : Nat → Nat → Int} {s : Nat → Int} {n : Int} (h : pdR v s n) (h3' : s 3 + 1 = n) : pdR v (up1 s 3 (s 3 + 1)) n := by
  obtain ⟨h1, h2, h3, h4⟩ := h
  obtain ⟨a1, a2, a3, a4, a5, a6, a7, a8, a9, a10, a11, a12⟩ := h1
  have e : ∀ j, j ≠ 3 → up1 s 3 (s 3 + 1) j = s j := fun j hj => up1_ne hj
  have eL : ∀ l w, 0 ≤ l → 0 ≤ w → mLi (up1 s 3 (s 3 + 1)) l w = mLi s l w := fun l w l0 w0 => by rw [mLi, e _ (by omega)]; rfl
  have eO : ∀ l k w, -1 ≤ l → 0 ≤ k → 0 ≤ w → mOf (up1 s 3 (s 3 + 1)) l k w = mOf s l k w := fun l k w l0 k0 w0 => by rw [mOf, e _ (by omega)]; rfl
  refine ⟨⟨a1, by rw [e 0 (by decide)]; exact a2, a3, a4, a5, a6, a7, by rw [e 0 (by decide)]; exact a8, ?_, by rw [e 8 (by decide)]; exact a10, ?_, ?_⟩, ?_, ?_, ?_⟩
  · rw [up1_eq]; omega
  · intro j j1 j2 j3 j4; rw [e j j3]; exact a11 j j1 j2 j3 j4
  · intro j j1; rw [e j (by omega)]; exact a12 j j1
  · intro k k0 k1
    obtain ⟨b1, b2, b3⟩ := h2 k k0 k1
    exact ⟨b1, b2, fun m m0 m1 => ⟨by rw [eO m k 4 m0 k0 (by decide)]; exact (b3 m m0 m1).1, fun w w0 w1 => by rw [eO m k w m0 k0 w0]; exact (b3 m m0 m1).2 w w0 w1⟩⟩
  · intro m m0 m1; exact plis_congr m0 (h3 m m0 m1) (fun _ _ _ => rfl) (fun w w0 w1 => eL m w m0 w0)
  · intro m w m0 m1 w0 w1; rw [eL m w (by omega) w0]; exact h4 m w m0 m1 w0 w1
section PC
variable {L R : Nat} {a : Nat → Nat → Nat} {t : Nat × Nat × Nat}
theorem C_setRow {u : Nat → Nat → Int} {k p d f e : Int} (hR : isRad R) (hk : 0 ≤ k ∧ k < 111) : a_m 81 [a_r (R + 1), a_i k, a_i p, a_i d, a_i f, a_i e] (K0 L, u, G a, t) = some (.inl none, (K0 L, upm (upm (upm (upm u (R + 2) k.toNat p) (R + 3) k.toNat d) (R + 4) k.toNat f) (R + 5) k.toNat e, G a, t)) := by
  have hr := isRad_lt hR
  simp (disch := first | assumption | omega) only [kR1, kR2, kR3, kR4, kR5, kR6, kR7, kR8, gR1_0, gR1_1, gR1_2, gR1_3, gR1_4, gR1_5, gR1_6, E_X8_setRow, B_X8_setRow_0, Option.bind_some, back_v, Option.toList_some, Option.toList_none, List.cons_append, List.nil_append, Nat.reduceAdd, Int.reduceToNat, Int.reduceNeg, upm_eq, upm_r, upm_i, if_pos, if_neg, ite_self, true_or, or_true, true_and, and_true, false_or, or_false, false_and, and_false, wr_id, i10, i01, upr_f, upr_eq, thr58, upm_upr, upr_upr, lc_lt, lc_gt, lc_ge, lc_le, afit1, afit0, afitI, bifit, not_true_eq_false, not_false_eq_true, if_true, if_false, Bool.false_eq_true, reduceCtorEq, k1557, k1558, g1557_2]
theorem C_setFree {u : Nat → Nat → Int} {k : Int} (hR : isRad R) (hk : 0 ≤ k ∧ k < 111) : a_m 82 [a_r (R + 1), a_i k] (K0 L, u, G a, t) = some (.inl none, (K0 L, upm (upm (upm (upm u (R + 2) k.toNat (-1)) (R + 3) k.toNat (-1)) (R + 4) k.toNat (-1)) (R + 5) k.toNat (-1), G a, t)) := by
  simp (disch := first | assumption | omega) only [kR1, kR2, kR3, kR4, kR5, kR6, kR7, kR8, gR1_0, gR1_1, gR1_2, gR1_3, gR1_4, gR1_5, gR1_6, E_X8_setFree, B_X8_setFree_0, B_X8_setFree_9, Option.bind_some, back_v, Option.toList_some, Option.toList_none, List.cons_append, List.nil_append, Nat.reduceAdd, Int.reduceToNat, Int.reduceNeg, upm_eq, upm_r, upm_i, if_pos, if_neg, ite_self, true_or, or_true, true_and, and_true, false_or, or_false, false_and, and_false, wr_id, i10, i01, upr_f, upr_eq, thr58, upm_upr, upr_upr, lc_lt, lc_gt, lc_ge, lc_le, afit1, afit0, afitI, bifit, not_true_eq_false, not_false_eq_true, if_true, if_false, Bool.false_eq_true, reduceCtorEq, k1557, k1558, g1557_2, C_setRow hR hk]
theorem C_resetTold_loop (hR : isRad R) : ∀ (d : Nat) (x : Int) (u : Nat → Nat → Int), 0 ≤ x → x + d = 12 → ∃ u', a_X 80 7 [a_r (R + 1), a_i x] [] (K0 L, u, G a, t) = some (.inl none, (K0 L, u', G a, t)) ∧ (∀ q, (q < R + 2 ∨ R + 5 < q) → u' q = u q) ∧ (∀ q (j : Nat), (j : Int) < x → u' q j = u q j) ∧ ∀ q (j : Nat), R + 2 ≤ q → q ≤ R + 5 → x ≤ j → j < 12 → u' q j = -1 := by
  intro d
  induction d with
  | zero =>
    intro x u x0 hx
    refine ⟨u, ?_, fun _ _ => rfl, fun _ _ _ => rfl, fun q j q0 q1 j0 j1 => by omega⟩
    rw [B_X8_reset_7]
    simp (disch := first | assumption | omega) only [B_X8_reset_0, B_X8_reset_18, Option.bind_some, back_v, Option.toList_some, Option.toList_none, List.cons_append, List.nil_append, Nat.reduceAdd, Int.reduceToNat, Int.reduceNeg, upm_eq, upm_r, upm_i, if_pos, if_neg, ite_self, true_or, or_true, true_and, and_true, false_or, or_false, false_and, and_false, wr_id, i10, i01, upr_f, upr_eq, thr58, upm_upr, upr_upr, lc_lt, lc_gt, lc_ge, lc_le, afit1, afit0, afitI, bifit, not_true_eq_false, not_false_eq_true, if_true, if_false, Bool.false_eq_true, reduceCtorEq, k1557, k1558, g1557_2]
  | succ d ih =>
    intro x u x0 hx
    obtain ⟨u', e0, e1, e2, e3⟩ := ih (x + 1) (upm (upm (upm (upm u (R + 2) x.toNat (-1)) (R + 3) x.toNat (-1)) (R + 4) x.toNat (-1)) (R + 5) x.toNat (-1)) (by omega) (by omega)
    refine ⟨u', ?_, fun q hq => ?_, fun q j hj => ?_, fun q j q0 q1 j0 j1 => ?_⟩
    · rw [← e0]
      have hs := C_setFree (L := L) (a := a) (t := t) (u := u) (k := x) hR (by omega)
      rw [B_X8_reset_7]
      simp (disch := first | assumption | omega) only [kR1, kR2, kR3, kR4, kR5, kR6, kR7, kR8, gR1_0, gR1_1, gR1_2, gR1_3, gR1_4, gR1_5, gR1_6, B_X8_reset_0, B_X8_reset_18, Option.bind_some, back_v, Option.toList_some, Option.toList_none, List.cons_append, List.nil_append, Nat.reduceAdd, Int.reduceToNat, Int.reduceNeg, upm_eq, upm_r, upm_i, if_pos, if_neg, ite_self, true_or, or_true, true_and, and_true, false_or, or_false, false_and, and_false, wr_id, i10, i01, upr_f, upr_eq, thr58, upm_upr, upr_upr, lc_lt, lc_gt, lc_ge, lc_le, afit1, afit0, afitI, bifit, not_true_eq_false, not_false_eq_true, if_true, if_false, Bool.false_eq_true, reduceCtorEq, k1557, k1558, g1557_2, hs]
    · rw [e1 q hq, upm_rf (by omega), upm_rf (by omega), upm_rf (by omega), upm_rf (by omega)]
    · rw [e2 q j (by omega)]
      have : j ≠ x.toNat := by omega
      rw [upm_i this, upm_i this, upm_i this, upm_i this]
    · by_cases hj : (j : Int) = x
      · rw [e2 q j (by omega)]
        have hj2 : j = x.toNat := by omega
        have : q = R + 2 ∨ q = R + 3 ∨ q = R + 4 ∨ q = R + 5 := by omega
        rcases this with rfl | rfl | rfl | rfl
        · rw [upm_r (by omega), upm_r (by omega), upm_r (by omega), hj2, upm_eq]
        · rw [upm_r (by omega), upm_r (by omega), hj2, upm_eq]
        · rw [upm_r (by omega), hj2, upm_eq]
        · rw [hj2, upm_eq]
      · exact e3 q j q0 q1 (by omega) j1
theorem C_resetPub_loop (hR : isRad R) : ∀ (d : Nat) (x : Int) (u : Nat → Nat → Int), 0 ≤ x → x + d = 12 → ∃ u', a_X 30 9 [a_r R, a_i x] [] (K0 L, u, G a, t) = some (.inl none, (K0 L, upm (upm (upm (upm (upm (upm u' (R + 10) 1 0) R 4 0) R 5 0) R 6 0) R 7 0) R 8 0, G a, t)) ∧ (∀ q, q ≠ R + 9 → u' q = u q) ∧ (∀ j : Nat, (j : Int) < x → u' (R + 9) j = u (R + 9) j) ∧ ∀ j : Nat, x ≤ j → j < 12 → u' (R + 9) j = 0 := by
  intro d
  have hr := isRad_lt hR
  induction d with
  | zero =>
    intro x u x0 hx
    refine ⟨u, ?_, fun _ _ => rfl, fun _ _ => rfl, fun j j0 j1 => by omega⟩
    rw [B_X4_reset_9]
    simp (disch := first | assumption | omega) only [kR0, kR9, kR10, kR11, kR102, gR0_0, gR0_1, gR0_2, gR0_3, gR10_0, gR11, gR102, B_X4_reset_0, B_X4_reset_7, Option.bind_some, back_v, Option.toList_some, Option.toList_none, List.cons_append, List.nil_append, Nat.reduceAdd, Int.reduceToNat, Int.reduceNeg, upm_eq, upm_r, upm_i, if_pos, if_neg, ite_self, true_or, or_true, true_and, and_true, false_or, or_false, false_and, and_false, wr_id, i10, i01, upr_f, upr_eq, thr58, upm_upr, upr_upr, lc_lt, lc_gt, lc_ge, lc_le, afit1, afit0, afitI, bifit, not_true_eq_false, not_false_eq_true, if_true, if_false, Bool.false_eq_true, reduceCtorEq, k1557, k1558, g1557_2]
  | succ d ih =>
    intro x u x0 hx
    obtain ⟨u', e0, e1, e2, e3⟩ := ih (x + 1) (upm u (R + 9) x.toNat 0) (by omega) (by omega)
    refine ⟨u', ?_, fun q hq => ?_, fun j hj => ?_, fun j j0 j1 => ?_⟩
    · rw [← e0]
      rw [B_X4_reset_9]
      simp (disch := first | assumption | omega) only [kR0, kR9, kR10, kR11, kR102, gR0_0, gR0_1, gR0_2, gR0_3, gR10_0, gR11, gR102, B_X4_reset_0, B_X4_reset_7, Option.bind_some, back_v, Option.toList_some, Option.toList_none, List.cons_append, List.nil_append, Nat.reduceAdd, Int.reduceToNat, Int.reduceNeg, upm_eq, upm_r, upm_i, if_pos, if_neg, ite_self, true_or, or_true, true_and, and_true, false_or, or_false, false_and, and_false, wr_id, i10, i01, upr_f, upr_eq, thr58, upm_upr, upr_upr, lc_lt, lc_gt, lc_ge, lc_le, afit1, afit0, afitI, bifit, not_true_eq_false, not_false_eq_true, if_true, if_false, Bool.false_eq_true, reduceCtorEq, k1557, k1558, g1557_2]
    · rw [e1 q hq, upm_rf hq]
    · rw [e2 j (by omega), upm_i (by omega)]
    · by_cases hj : (j : Int) = x
      · rw [e2 j (by omega), show j = x.toNat from by omega, upm_eq]
      · exact e3 j (by omega) j1
theorem C_resetRadio {u : Nat → Nat → Int} (hR : isRad R) : ∃ u', a_m 30 [a_r R] (K0 L, u, G a, t) = some (.inl none, (K0 L, u', G a, t)) ∧ outR R u u' ∧ (∀ q j, R + 2 ≤ q → q ≤ R + 5 → j < 12 → u' q j = -1) ∧ (∀ j, j < 12 → u' (R + 9) j = 0) ∧ (∀ j, 4 ≤ j → j < 9 → u' R j = 0) ∧ u' (R + 1) 7 = 0 ∧ u' (R + 10) 1 = 0 := by
  have hr := isRad_lt hR
  obtain ⟨u1, a0, a1, a2, a3⟩ := C_resetTold_loop (L := L) (a := a) (t := t) hR 12 0 (upm u (R + 1) 7 0) (by decide) (by decide)
  obtain ⟨u2, b0, b1, b2, b3⟩ := C_resetPub_loop (L := L) (a := a) (t := t) hR 12 0 u1 (by decide) (by decide)
  have h80 : a_m 80 [a_r (R + 1)] (K0 L, u, G a, t) = some (.inl none, (K0 L, u1, G a, t)) := by
    rw [← a0]
    simp (disch := first | assumption | omega) only [kR1, kR2, kR3, kR4, kR5, kR6, kR7, kR8, gR1_0, gR1_1, gR1_2, gR1_3, gR1_4, gR1_5, gR1_6, E_X8_reset, B_X8_reset_0, B_X8_reset_18, Option.bind_some, back_v, Option.toList_some, Option.toList_none, List.cons_append, List.nil_append, Nat.reduceAdd, Int.reduceToNat, Int.reduceNeg, upm_eq, upm_r, upm_i, if_pos, if_neg, ite_self, true_or, or_true, true_and, and_true, false_or, or_false, false_and, and_false, wr_id, i10, i01, upr_f, upr_eq, thr58, upm_upr, upr_upr, lc_lt, lc_gt, lc_ge, lc_le, afit1, afit0, afitI, bifit, not_true_eq_false, not_false_eq_true, if_true, if_false, Bool.false_eq_true, reduceCtorEq, k1557, k1558, g1557_2]
  refine ⟨upm (upm (upm (upm (upm (upm u2 (R + 10) 1 0) R 4 0) R 5 0) R 6 0) R 7 0) R 8 0, ?_, fun q hq => ?_, fun q j q0 q1 j1 => ?_, fun j j1 => ?_, fun j j0 j1 => ?_, ?_, ?_⟩
  · rw [← b0]
    simp (disch := first | assumption | omega) only [kR0, kR9, kR10, kR11, kR102, gR0_0, gR0_1, gR0_2, gR0_3, gR10_0, gR11, gR102, kR1, kR2, kR3, kR4, kR5, kR6, kR7, kR8, gR1_0, gR1_1, gR1_2, gR1_3, gR1_4, gR1_5, gR1_6, E_X4_reset, B_X4_reset_0, B_X4_reset_7, Option.bind_some, back_v, Option.toList_some, Option.toList_none, List.cons_append, List.nil_append, Nat.reduceAdd, Int.reduceToNat, Int.reduceNeg, upm_eq, upm_r, upm_i, if_pos, if_neg, ite_self, true_or, or_true, true_and, and_true, false_or, or_false, false_and, and_false, wr_id, i10, i01, upr_f, upr_eq, thr58, upm_upr, upr_upr, lc_lt, lc_gt, lc_ge, lc_le, afit1, afit0, afitI, bifit, not_true_eq_false, not_false_eq_true, if_true, if_false, Bool.false_eq_true, reduceCtorEq, k1557, k1558, g1557_2, h80]
  · rw [upm_rf (by omega), upm_rf (by omega), upm_rf (by omega), upm_rf (by omega), upm_rf (by omega), upm_rf (by omega), b1 q (by omega), a1 q (by omega), upm_rf (by omega)]
  · rw [upm_r (by omega), upm_r (by omega), upm_r (by omega), upm_r (by omega), upm_r (by omega), upm_r (by omega), b1 q (by omega), a3 q j q0 q1 (by omega) j1]
  · rw [upm_r (by omega), upm_r (by omega), upm_r (by omega), upm_r (by omega), upm_r (by omega), upm_r (by omega), b3 j (by omega) j1]
  · have : j = 4 ∨ j = 5 ∨ j = 6 ∨ j = 7 ∨ j = 8 := by omega
    rcases this with rfl | rfl | rfl | rfl | rfl
    · rw [upm_i (by decide), upm_i (by decide), upm_i (by decide), upm_i (by decide), upm_eq]
    · rw [upm_i (by decide), upm_i (by decide), upm_i (by decide), upm_eq]
    · rw [upm_i (by decide), upm_i (by decide), upm_eq]
    · rw [upm_i (by decide), upm_eq]
    · rw [upm_eq]
  · rw [upm_r (by omega), upm_r (by omega), upm_r (by omega), upm_r (by omega), upm_r (by omega), upm_r (by omega), b1 _ (by omega), a1 _ (by omega), upm_eq]
  · rw [upm_r (by omega), upm_r (by omega), upm_r (by omega), upm_r (by omega), upm_r (by omega), upm_eq]
theorem C_resetLis_loop {n : Nat} (hR : isRad R) (hn : n < 6) : ∀ (d : Nat) (x : Int) (u : Nat → Nat → Int), 0 ≤ x → x + d = 12 → ∃ u', a_X 16 12 [a_r (R + 103 + 4 * n), a_i x] [] (K0 L, u, G a, t) = some (.inl none, (K0 L, upm (upm (upm (upm (upm u' (R + 103 + 4 * n) 5 0) (R + 103 + 4 * n) 6 0) (R + 103 + 4 * n) 7 0) (R + 103 + 4 * n) 8 0) (R + 103 + 4 * n) 9 0, G a, t)) ∧ (∀ q, q ≠ R + 106 + 4 * n → u' q = u q) ∧ (∀ j : Nat, (j : Int) < x → u' (R + 106 + 4 * n) j = u (R + 106 + 4 * n) j) ∧ ∀ j : Nat, x ≤ j → j < 12 → u' (R + 106 + 4 * n) j = 0 := by
  intro d
  have hr := isRad_lt hR
  induction d with
  | zero =>
    intro x u x0 hx
    refine ⟨u, ?_, fun _ _ => rfl, fun _ _ => rfl, fun j j0 j1 => by omega⟩
    rw [B_X2_reset_12]
    simp (disch := first | assumption | omega) only [kRl0, kRl1, kRl2, kRl3, gRl_2, gRl_3, gRl_4, B_X2_reset_0, Option.bind_some, back_v, Option.toList_some, Option.toList_none, List.cons_append, List.nil_append, Nat.reduceAdd, Int.reduceToNat, Int.reduceNeg, upm_eq, upm_r, upm_i, if_pos, if_neg, ite_self, true_or, or_true, true_and, and_true, false_or, or_false, false_and, and_false, wr_id, i10, i01, upr_f, upr_eq, thr58, upm_upr, upr_upr, lc_lt, lc_gt, lc_ge, lc_le, afit1, afit0, afitI, bifit, not_true_eq_false, not_false_eq_true, if_true, if_false, Bool.false_eq_true, reduceCtorEq, k1557, k1558, g1557_2]
  | succ d ih =>
    intro x u x0 hx
    obtain ⟨u', e0, e1, e2, e3⟩ := ih (x + 1) (upm u (R + 106 + 4 * n) x.toNat 0) (by omega) (by omega)
    refine ⟨u', ?_, fun q hq => ?_, fun j hj => ?_, fun j j0 j1 => ?_⟩
    · rw [← e0]
      rw [B_X2_reset_12]
      simp (disch := first | assumption | omega) only [kRl0, kRl1, kRl2, kRl3, gRl_2, gRl_3, gRl_4, B_X2_reset_0, Option.bind_some, back_v, Option.toList_some, Option.toList_none, List.cons_append, List.nil_append, Nat.reduceAdd, Int.reduceToNat, Int.reduceNeg, upm_eq, upm_r, upm_i, if_pos, if_neg, ite_self, true_or, or_true, true_and, and_true, false_or, or_false, false_and, and_false, wr_id, i10, i01, upr_f, upr_eq, thr58, upm_upr, upr_upr, lc_lt, lc_gt, lc_ge, lc_le, afit1, afit0, afitI, bifit, not_true_eq_false, not_false_eq_true, if_true, if_false, Bool.false_eq_true, reduceCtorEq, k1557, k1558, g1557_2]
    · rw [e1 q hq, upm_rf hq]
    · rw [e2 j (by omega), upm_i (by omega)]
    · by_cases hj : (j : Int) = x
      · rw [e2 j (by omega), show j = x.toNat from by omega, upm_eq]
      · exact e3 j (by omega) j1
theorem C_resetLis {u : Nat → Nat → Int} {n : Nat} (hR : isRad R) (hn : n < 6) : ∃ u', a_m 16 [a_r (R + 103 + 4 * n)] (K0 L, u, G a, t) = some (.inl none, (K0 L, u', G a, t)) ∧ (∀ q, q ≠ R + 103 + 4 * n → q ≠ R + 106 + 4 * n → u' q = u q) ∧ u' (R + 103 + 4 * n) 0 = 0 ∧ u' (R + 103 + 4 * n) 1 = 0 ∧ (∀ j, 5 ≤ j → j < 10 → u' (R + 103 + 4 * n) j = 0) ∧ ∀ k, k < 12 → u' (R + 106 + 4 * n) k = 0 := by
  have hr := isRad_lt hR
  obtain ⟨u2, b0, b1, b2, b3⟩ := C_resetLis_loop (L := L) (a := a) (t := t) hR hn 12 0 (upm (upm u (R + 103 + 4 * n) 0 0) (R + 103 + 4 * n) 1 0) (by decide) (by decide)
  refine ⟨upm (upm (upm (upm (upm u2 (R + 103 + 4 * n) 5 0) (R + 103 + 4 * n) 6 0) (R + 103 + 4 * n) 7 0) (R + 103 + 4 * n) 8 0) (R + 103 + 4 * n) 9 0, ?_, fun q hq hq2 => ?_, ?_, ?_, fun j j0 j1 => ?_, fun k hk => ?_⟩
  · rw [← b0]
    simp (disch := first | assumption | omega) only [kRl0, kRl1, kRl2, kRl3, gRl_2, gRl_3, gRl_4, E_X2_reset, B_X2_reset_0, Option.bind_some, back_v, Option.toList_some, Option.toList_none, List.cons_append, List.nil_append, Nat.reduceAdd, Int.reduceToNat, Int.reduceNeg, upm_eq, upm_r, upm_i, if_pos, if_neg, ite_self, true_or, or_true, true_and, and_true, false_or, or_false, false_and, and_false, wr_id, i10, i01, upr_f, upr_eq, thr58, upm_upr, upr_upr, lc_lt, lc_gt, lc_ge, lc_le, afit1, afit0, afitI, bifit, not_true_eq_false, not_false_eq_true, if_true, if_false, Bool.false_eq_true, reduceCtorEq, k1557, k1558, g1557_2]
  · rw [upm_rf hq, upm_rf hq, upm_rf hq, upm_rf hq, upm_rf hq, b1 q hq2, upm_rf hq, upm_rf hq]
  · rw [upm_i (by decide), upm_i (by decide), upm_i (by decide), upm_i (by decide), upm_i (by decide), b1 _ (by omega), upm_i (by decide), upm_eq]
  · rw [upm_i (by decide), upm_i (by decide), upm_i (by decide), upm_i (by decide), upm_i (by decide), b1 _ (by omega), upm_eq]
  · have : j = 5 ∨ j = 6 ∨ j = 7 ∨ j = 8 ∨ j = 9 := by omega
    rcases this with rfl | rfl | rfl | rfl | rfl
    · rw [upm_i (by decide), upm_i (by decide), upm_i (by decide), upm_i (by decide), upm_eq]
    · rw [upm_i (by decide), upm_i (by decide), upm_i (by decide), upm_eq]
    · rw [upm_i (by decide), upm_i (by decide), upm_eq]
    · rw [upm_i (by decide), upm_eq]
    · rw [upm_eq]
  · rw [upm_r (by omega), upm_r (by omega), upm_r (by omega), upm_r (by omega), upm_r (by omega), b3 k (by omega) hk]
theorem C_putGap {u : Nat → Nat → Int} {n : Nat} {x y g : Int} (hR : isRad R) (hn : n < 6) (hg : u (R + 103 + 4 * n) 1 = g) (hg2 : 0 ≤ g ∧ g < 4) : a_m 18 [a_r (R + 103 + 4 * n), a_i x, a_i y] (K0 L, u, G a, t) = some (.inl none, (K0 L, upm (upm (upm u (R + 104 + 4 * n) g.toNat x) (R + 105 + 4 * n) g.toNat y) (R + 103 + 4 * n) 1 (g + 1), G a, t)) := by
  have hr := isRad_lt hR
  simp (disch := first | assumption | omega) only [kRl0, kRl1, kRl2, kRl3, gRl_2, gRl_3, gRl_4, E_X2_putGap, B_X2_putGap_0, Option.bind_some, back_v, Option.toList_some, Option.toList_none, List.cons_append, List.nil_append, Nat.reduceAdd, Int.reduceToNat, Int.reduceNeg, upm_eq, upm_r, upm_i, if_pos, if_neg, ite_self, true_or, or_true, true_and, and_true, false_or, or_false, false_and, and_false, wr_id, i10, i01, upr_f, upr_eq, thr58, upm_upr, upr_upr, lc_lt, lc_gt, lc_ge, lc_le, afit1, afit0, afitI, bifit, not_true_eq_false, not_false_eq_true, if_true, if_false, Bool.false_eq_true, reduceCtorEq, k1557, k1558, g1557_2, hg]
end PC
