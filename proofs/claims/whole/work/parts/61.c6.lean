theorem rel_hdr {v v' : Nat → Nat → Int} {b : Nat → Nat} {C : List (Nat → Int)} {s s' : Nat → Int} {c : Int} (h : RelC v b C s) (hM : MI c s) (hv : ∀ x, x ≠ 0 → v' x = v x) (hs : ∀ j, (8 ≤ j ∨ j = 2 ∨ j = 3 ∨ j = 4) → s' j = s j) (h1 : s 1 ≤ s' 1) (hd : hdR v' s') : RelC v' b C s' := by
  obtain ⟨r1, r2, r3, r4, r5, r6, r7⟩ := h
  have hM2 := hM.2.2.1
  have hM3 := hM.2.2.2.1
  have hA := hM.2.2.2.2.2.1
  have hlen := airR_len r7
  have ht : tldS v v' := fun q q1 q2 => hv q (by omega)
  have e2 := hs 2 (by decide)
  have e3 := hs 3 (by decide)
  have e4 := hs 4 (by decide)
  have hli : ∀ l x, 0 ≤ l → 0 ≤ x → mLi s' l x = mLi s l x := fun l x l0 x0 => by simp only [mLi]; exact hs _ (by omega)
  have hof : ∀ l k x, -1 ≤ l → 0 ≤ k → 0 ≤ x → mOf s' l k x = mOf s l k x := fun l k x l0 k0 x0 => by simp only [mOf]; exact hs _ (by omega)
  have hA' : airL s' = airL s := by
    unfold airL
    rw [e4]
    exact List.map_congr_left fun i _ => blk_ne (fun j hj => hs j (by omega)) i
  refine ⟨hd, rowsR_congr r2 ht e2, corR_congr r3 ht e2 hM2.2 (fun j j1 _ => hs j (by omega)), ?_, ?_, ?_, airR_congr r7 ht (fun q q1 q2 => hv q (by omega)) (by rw [hlen]; have := hA.2.1; omega) h1 e2 e3 hA'⟩
  · refine heardR_congr r4 (hv 8 (by decide)) e2 e3 (fun l m l0 l1 m1 m2 => ?_)
    have h9 := tdiv32 (n := m) (by omega)
    rw [mHeard_tb, mHeard_tb, e2, hli l _ l0 (by omega)]
  · intro l l0 l1
    rw [e3] at l1
    rw [e2]
    refine slR_congr (r5 l l0 l1) ht (fun j _ => ?_) (Int.le_refl _) (fun k y k0 k1 y0 y1 => hof l k y l0 k0 y0)
    have : qOf l ≠ 0 := by unfold qOf; split <;> omega
    rw [hv _ this]
  · intro l l0 l1
    rw [e3] at l1
    exact lis1_congr (r6 l l0 l1) (hv _ (by omega)) (hv _ (by omega)) (hv _ (by omega)) e2 ((hM.2.2.2.2.2.2.2 l l0 l1).2.2) (fun y y0 y1 => hli l y l0 y0)
theorem rel_clears {v : Nat → Nat → Int} {b b' : Nat → Nat} {C : List (Nat → Int)} {s : Nat → Int} {c : Int} (h : RelC v b C s) (hM : MI c s) (hb : ∀ p, p < 30 → b' p < 30) (hi : ∀ p q, p < 30 → q < 30 → b' p = b' q → p = q)
    (hsg : ∀ (p : Nat) (hp : p < (C.filter (fun c => decide (bStill (s 3).toNat (s 1) c ≠ 0))).length), sgR v s (12 + 3 * b' p) (C.filter (fun c => decide (bStill (s 3).toNat (s 1) c ≠ 0)))[p]) :
    RelC (upm v 10 1 ((C.filter (fun c => decide (bStill (s 3).toNat (s 1) c ≠ 0))).length : Int)) b' (C.filter (fun c => decide (bStill (s 3).toNat (s 1) c ≠ 0))) (mClears s) := by
  obtain ⟨r1, r2, r3, r4, r5, r6, r7⟩ := h
  have hM2 := hM.2.2.1
  have hM3 := hM.2.2.2.1
  have hA := hM.2.2.2.2.2.1
  have hlen := airR_len r7
  obtain ⟨k1, k2, k3⟩ := airL_clears (s := s) ⟨hA.1, hA.2.1⟩ (by omega)
  generalize hK : (fun c : Nat → Int => decide (bStill (s 3).toNat (s 1) c ≠ 0)) = K at *
  have hperm : (C.filter K).Perm (airL (mClears s)) := by rw [k1]; exact r7.2.2.1.filter K
  have hl2 : ((C.filter K).length : Int) = mClears s 4 := by rw [hperm.length_eq, airL_len]; omega
  have hs : ∀ j, j < 1150 → j ≠ 4 → mClears s j = s j := fun j h1 h2 => clears_lo h1 h2
  have hv : ∀ x, x ≠ 10 → upm v 10 1 ((C.filter K).length : Int) x = v x := fun x hx => upm_rf hx
  have ht : tldS v (upm v 10 1 ((C.filter K).length : Int)) := fun q q1 q2 => hv q (by omega)
  have e2 := hs 2 (by decide) (by decide)
  have e3 := hs 3 (by decide) (by decide)
  have e1 := hs 1 (by decide) (by decide)
  have hli : ∀ l x, 0 ≤ l → l ≤ 5 → 0 ≤ x → x < 19 → mLi (mClears s) l x = mLi s l x := fun l x l0 l5 x0 x1 => by simp only [mLi]; exact hs _ (by omega) (by omega)
  have hof : ∀ l k x, -1 ≤ l → l ≤ 5 → 0 ≤ k → k < 12 → 0 ≤ x → x < 5 → mOf (mClears s) l k x = mOf s l k x := fun l k x l0 l5 k0 k1 x0 x1 => by simp only [mOf]; exact hs _ (by omega) (by omega)
  refine ⟨?_, rowsR_congr r2 ht e2, corR_congr r3 ht e2 hM2.2 (fun j j1 j2 => hs j (by omega) (by omega)), ?_, ?_, ?_, hb, hi, hperm, r7.2.2.2.1.filter K, fun p hp => ?_⟩
  · obtain ⟨a1, a2, a3, a4, a5, a6, a7⟩ := r1
    refine ⟨?_, ?_, ?_, ?_, ?_, ?_, ?_⟩
    · rw [hv 0 (by decide), e3]; exact a1
    · rw [hv 0 (by decide), hs 0 (by decide) (by decide)]; exact a2
    · rw [hv 0 (by decide), e1]; exact a3
    · rw [hv 0 (by decide), hs 5 (by decide) (by decide)]; exact a4
    · rw [hv 0 (by decide), hs 6 (by decide) (by decide)]; exact a5
    · rw [hv 1 (by decide), e2]; exact a6
    · rw [upm_eq]; exact hl2
  · refine heardR_congr r4 (hv 8 (by decide)) e2 e3 (fun l m l0 l1 m1 m2 => ?_)
    have h9 := tdiv32 (n := m) (by omega)
    rw [mHeard_tb, mHeard_tb, e2, hli l _ l0 (by omega) (by omega) (by omega)]
  · intro l l0 l1
    rw [e3] at l1
    rw [e2]
    refine slR_congr (r5 l l0 l1) ht (fun j _ => ?_) (Int.le_refl _) (fun k y k0 k1 y0 y1 => hof l k y l0 (by omega) k0 k1 y0 y1)
    have : qOf l ≠ 10 := by unfold qOf; split <;> omega
    rw [hv _ this]
  · intro l l0 l1
    rw [e3] at l1
    exact lis1_congr (r6 l l0 l1) (hv _ (by omega)) (hv _ (by omega)) (hv _ (by omega)) e2 ((hM.2.2.2.2.2.2.2 l l0 l1).2.2) (fun y y0 y1 => hli l y l0 (by omega) y0 y1)
  · exact sgR_congr (hsg p hp) ht (hv _ (by omega)) (hv _ (by omega)) (hv _ (by omega)) (by rw [e1]; exact Int.le_refl _) e2 e3
section C6
variable {L : Nat} {u : Nat → Nat → Int} {a : Nat → Nat → Nat} {t : Nat × Nat × Nat} {R : Nat}
theorem C_hearWhat {c l : Int} {C : List (Nat → Int)} {s : Nat → Int} (hR : isRad R) (h : RelC (vw u R) (a R) C s) (hM : MI c s) (hl : 0 ≤ l ∧ l < s 3) :
    ∃ u', a_m 38 [a_r R, a_i l] (K0 L, u, G a, t) = some (.inl none, (K0 L, u', G a, t)) ∧ RelC (vw u' R) (a R) C (mHearF C l s) ∧ outR R u u' := by
  obtain ⟨u', g1, g2, g3⟩ := C_hearWhat_loop (L := L) (t := t) (c := c) (l := l) hR C.length 0 u s (a_x false) h hM hl (by omega)
  refine ⟨u', ?_, ?_, g3⟩
  · rw [← g1]
    simp (disch := first | assumption | omega) only [E_X4_hearWhatIsDue, B_X4_hearWhatIsDue_0, B_X4_hearWhatIsDue_49, B_X4_hearWhatIsDue_80, B_X4_hearWhatIsDue_86, Option.bind_some, back_v, Option.toList_some, Option.toList_none, List.cons_append, List.nil_append, Nat.reduceAdd, Int.reduceToNat, Int.reduceNeg, upm_eq, upm_r, upm_i, if_pos, if_neg, ite_self, true_or, or_true, true_and, and_true, false_or, or_false, false_and, and_false, wr_id, i10, i01, upr_f, upr_eq, thr58, upm_upr, upr_upr, lc_lt, lc_gt, lc_ge, lc_le, afit1, afit0, afitI, bifit, not_true_eq_false, not_false_eq_true, if_true, if_false, Bool.false_eq_true, reduceCtorEq, k1557, k1558, g1557_2]
    rfl
  · rw [List.drop_zero] at g2; exact g2
theorem C_hearAll_loop {c n : Int} {C : List (Nat → Int)} (hR : isRad R) : ∀ (d : Nat) (x : Int) (u : Nat → Nat → Int) (s : Nat → Int), 0 ≤ x → x + d = n → s 3 = n → RelC (vw u R) (a R) C s → MI c s →
    ∃ u' a', a_X 37 59 [a_r R, a_i x] [] (K0 L, u, G a, t) = some (.inl none, (K0 L, u', G a', t)) ∧ Rel (vw u' R) (a' R) (mClears (itA d x s (mHearF C))) ∧ outR R u u' ∧ (∀ Q, Q ≠ R → a' Q = a Q) := by
  intro d
  induction d with
  | zero =>
    intro x u s h0 h hs3 hrel hM
    obtain ⟨f4, f5, f6, f7, f8, f17, f10, fl⟩ := rel_facts hrel
    have hM3 := hM.2.2.2.1
    have hA := hM.2.2.2.2.2.1
    have hlen := airR_len hrel.2.2.2.2.2.2
    obtain ⟨q1, q2, q3, q4, q5⟩ := hrel.2.2.2.2.2.2
    obtain ⟨a', g1, g2, g3, g4, g5⟩ := C_removeEnded_loop (L := L) (u := u) (t := t) (C := C) (s := s) (b := a R) hR (by omega) (by have := hA.2.1; omega) (by rw [f10]; have := hA.1; omega) q5 C.length 0 a (a_x false) (by omega) q1 q2 (fun j _ _ => rfl) (fun p hp => by simp at hp)
    rw [List.take_zero, List.filter_nil, List.length_nil] at g1
    have hcl := rel_clears hrel hM g3 g4 g5
    refine ⟨upm u (R + 10) 1 ((C.filter (fun c => decide (bStill (s 3).toNat (s 1) c ≠ 0))).length : Int), a', ?_, ?_, outR_m (by omega) (by omega), g2⟩
    · rw [B_X4_passTick_59]
      simp (disch := first | assumption | omega) only [kR0, kR9, kR10, kR11, kR102, gR0_0, gR0_1, gR0_2, gR0_3, gR10_0, gR11, gR102, B_X4_passTick_0, B_X4_passTick_36, B_X4_passTick_89, B_X4_passTick_72, B_X4_passTick_57, Option.bind_some, back_v, Option.toList_some, Option.toList_none, List.cons_append, List.nil_append, Nat.reduceAdd, Int.reduceToNat, Int.reduceNeg, upm_eq, upm_r, upm_i, if_pos, if_neg, ite_self, true_or, or_true, true_and, and_true, false_or, or_false, false_and, and_false, wr_id, i10, i01, upr_f, upr_eq, thr58, upm_upr, upr_upr, lc_lt, lc_gt, lc_ge, lc_le, afit1, afit0, afitI, bifit, not_true_eq_false, not_false_eq_true, if_true, if_false, Bool.false_eq_true, reduceCtorEq, k1557, k1558, g1557_2, f4, f6]
      rw [show a_m 5 [a_r (R + 10), a_i (s 1)] (K0 L, u, G a, t) = some (.inl none, (K0 L, upm u (R + 10) 1 ((C.filter (fun c => decide (bStill (s 3).toNat (s 1) c ≠ 0))).length : Int), G a', t)) from by
        rw [← g1]
        simp (disch := first | assumption | omega) only [E_X0_removeEnded, B_X0_removeEnded_0, Option.bind_some, back_v, Option.toList_some, Option.toList_none, List.cons_append, List.nil_append, Nat.reduceAdd, Int.reduceToNat, Int.reduceNeg, upm_eq, upm_r, upm_i, if_pos, if_neg, ite_self, true_or, or_true, true_and, and_true, false_or, or_false, false_and, and_false, wr_id, i10, i01, upr_f, upr_eq, thr58, upm_upr, upr_upr, lc_lt, lc_gt, lc_ge, lc_le, afit1, afit0, afitI, bifit, not_true_eq_false, not_false_eq_true, if_true, if_false, Bool.false_eq_true, reduceCtorEq, k1557, k1558, g1557_2]
        rfl]
      simp (disch := first | assumption | omega) only [B_X4_passTick_0, B_X4_passTick_36, B_X4_passTick_89, B_X4_passTick_72, B_X4_passTick_57, Option.bind_some, back_v, Option.toList_some, Option.toList_none, List.cons_append, List.nil_append, Nat.reduceAdd, Int.reduceToNat, Int.reduceNeg, upm_eq, upm_r, upm_i, if_pos, if_neg, ite_self, true_or, or_true, true_and, and_true, false_or, or_false, false_and, and_false, wr_id, i10, i01, upr_f, upr_eq, thr58, upm_upr, upr_upr, lc_lt, lc_gt, lc_ge, lc_le, afit1, afit0, afitI, bifit, not_true_eq_false, not_false_eq_true, if_true, if_false, Bool.false_eq_true, reduceCtorEq, k1557, k1558, g1557_2]
    · rw [itA]; exact ⟨_, by rw [vw_upm (c := 10) (by decide)]; exact hcl⟩
  | succ d ih =>
    intro x u s h0 h hs3 hrel hM
    obtain ⟨f4, f5, f6, f7, f8, f17, f10, fl⟩ := rel_facts hrel
    have hM3 := hM.2.2.2.1
    have hx : 0 ≤ x ∧ x ≤ 5 := by omega
    obtain ⟨u1, g1, g2, g3⟩ := C_hearWhat (L := L) (t := t) (l := x) hR hrel hM ⟨h0, by omega⟩
    have hsm := hearF_same hx hM.2.2.2.2.2.1 (fun b hb => hrel.2.2.2.2.2.2.2.2.1.mem_iff.mp hb)
    obtain ⟨u2, a2, k1, k2, k3, k4⟩ := ih (x + 1) u1 (mHearF C x s) (by omega) (by omega) (by rw [sameOut_hd hsm hx (by decide)]; exact hs3) g2 (MI_same hM hsm hx)
    refine ⟨u2, a2, ?_, k2, g3.trans k3, k4⟩
    rw [← k1]
    rw [B_X4_passTick_59]
    simp (disch := first | assumption | omega) only [kR0, kR9, kR10, kR11, kR102, gR0_0, gR0_1, gR0_2, gR0_3, gR10_0, gR11, gR102, B_X4_passTick_0, B_X4_passTick_36, B_X4_passTick_89, B_X4_passTick_72, B_X4_passTick_57, Option.bind_some, back_v, Option.toList_some, Option.toList_none, List.cons_append, List.nil_append, Nat.reduceAdd, Int.reduceToNat, Int.reduceNeg, upm_eq, upm_r, upm_i, if_pos, if_neg, ite_self, true_or, or_true, true_and, and_true, false_or, or_false, false_and, and_false, wr_id, i10, i01, upr_f, upr_eq, thr58, upm_upr, upr_upr, lc_lt, lc_gt, lc_ge, lc_le, afit1, afit0, afitI, bifit, not_true_eq_false, not_false_eq_true, if_true, if_false, Bool.false_eq_true, reduceCtorEq, k1557, k1558, g1557_2, f4, g1]
theorem C_isFull {n : Int} (hR : isRad R) (h : u (R + 10) 1 = n) : a_m 2 [a_r (R + 10)] (K0 L, u, G a, t) = some (.inl (some (a_i (bi (decide (30 ≤ n))))), (K0 L, u, G a, t)) := by
  by_cases h1 : 30 ≤ n
  · simp (disch := first | assumption | omega) only [kR0, kR9, kR10, kR11, kR102, gR0_0, gR0_1, gR0_2, gR0_3, gR10_0, gR11, gR102, E_X0_isFull, B_X0_isFull_0, Option.bind_some, back_v, Option.toList_some, Option.toList_none, List.cons_append, List.nil_append, Nat.reduceAdd, Int.reduceToNat, Int.reduceNeg, upm_eq, upm_r, upm_i, if_pos, if_neg, ite_self, true_or, or_true, true_and, and_true, false_or, or_false, false_and, and_false, wr_id, i10, i01, upr_f, upr_eq, thr58, upm_upr, upr_upr, lc_lt, lc_gt, lc_ge, lc_le, afit1, afit0, afitI, bifit, not_true_eq_false, not_false_eq_true, if_true, if_false, Bool.false_eq_true, reduceCtorEq, k1557, k1558, g1557_2, h, h1, decide_true, bi_t]
  · simp (disch := first | assumption | omega) only [kR0, kR9, kR10, kR11, kR102, gR0_0, gR0_1, gR0_2, gR0_3, gR10_0, gR11, gR102, E_X0_isFull, B_X0_isFull_0, Option.bind_some, back_v, Option.toList_some, Option.toList_none, List.cons_append, List.nil_append, Nat.reduceAdd, Int.reduceToNat, Int.reduceNeg, upm_eq, upm_r, upm_i, if_pos, if_neg, ite_self, true_or, or_true, true_and, and_true, false_or, or_false, false_and, and_false, wr_id, i10, i01, upr_f, upr_eq, thr58, upm_upr, upr_upr, lc_lt, lc_gt, lc_ge, lc_le, afit1, afit0, afitI, bifit, not_true_eq_false, not_false_eq_true, if_true, if_false, Bool.false_eq_true, reduceCtorEq, k1557, k1558, g1557_2, h, h1, decide_false, bi_f]
theorem tick5 {c : Int} {s : Nat → Int} (hM : MI c s) (hc : c ≤ 1000) (h1 : s 1 ≤ 15000) (h5 : i32 (s 5)) : i32 (mTick s 5) := by
  have hM2 := MI_T2 hM hc h1
  have h3 := hM2.2.2.2.1
  obtain ⟨g1, g2, g3, g4⟩ := hearAll_keep (C := srt (mT2 s)) (mT2 s 3).toNat 0 (mT2 s) (by decide) (by omega) hM2 (fun b hb => srt_perm.mem_iff.mp hb)
  show i32 (mClears _ 5)
  rw [clears_lo (by decide) (by decide)]
  have : mHearAll (srt (mT2 s)) (mT2 s) 5 = mT2 s 5 := g3 5 (by decide)
  rw [this]
  unfold mT2
  split
  · split
    · rw [airs_5]; exact i32_wr
    · rw [up1_ne (by decide)]; unfold mT1; rw [up1_ne (by decide)]; exact h5
  · unfold mT1; rw [up1_ne (by decide)]; exact h5
theorem C_passTick {s : Nat → Int} {c : Int} (hR : isRad R) (h : Rel (vw u R) (a R) s) (hM : MI c s) (hc : c ≤ 1000) (h1 : s 1 ≤ 15000) :
    ∃ u' a', a_m 37 [a_r R] (K0 L, u, G a, t) = some (.inl none, (K0 L, u', G a', t)) ∧ Rel (vw u' R) (a' R) (mTick s) ∧ outR R u u' ∧ (∀ Q, Q ≠ R → a' Q = a Q) := by
  obtain ⟨C, h⟩ := h
  obtain ⟨f4, f5, f6, f7, f8, f17, f10, fl⟩ := rel_facts h
  have hM0 := hM.1
  have hM1 := hM.2.1
  have hM3 := hM.2.2.2.1
  have hM7 := hM.2.2.2.2.1
  have hA := hM.2.2.2.2.2.1
  have hMT := MI_T1 hM
  have hM2 := MI_T2 hM hc h1
  obtain ⟨a1, a2, a3, a4, a5, a6, a7⟩ := h.1
  have hrel1 : RelC (vw (upm u R 6 (s 1 + 1)) R) (a R) C (mT1 s) := by
    have e : vw (upm u R 6 (s 1 + 1)) R = upm (vw u R) 0 6 (s 1 + 1) := vw_upm (c := 0) (by decide)
    rw [e]
    refine rel_hdr h hM (fun x hx => upm_rf hx) (fun j hj => up1_ne (by omega)) (by unfold mT1; rw [up1_eq]; omega) ⟨?_, ?_, ?_, ?_, ?_, ?_, ?_⟩
    · unfold mT1; rw [upm_i (by decide), up1_ne (by decide)]; exact a1
    · unfold mT1; rw [upm_i (by decide), up1_ne (by decide)]; exact a2
    · unfold mT1; rw [upm_eq, up1_eq]
    · unfold mT1; rw [upm_i (by decide), up1_ne (by decide)]; exact a4
    · unfold mT1; rw [upm_i (by decide), up1_ne (by decide)]; exact a5
    · unfold mT1; rw [upm_r (by decide), up1_ne (by decide)]; exact a6
    · unfold mT1; rw [upm_r (by decide), up1_ne (by decide)]; exact a7
  have e3 : mT2 s 3 = s 3 := mT2_hd (by decide) (by decide)
  -- from the state behind the airing on
  have fin : ∀ (u2 : Nat → Nat → Int) (a2 : Nat → Nat → Nat) (C2 : List (Nat → Int)), RelC (vw u2 R) (a2 R) C2 (mT2 s) → outR R u u2 → (∀ Q, Q ≠ R → a2 Q = a Q) → ∃ u' a', a_X 37 59 [a_r R, a_i 0] [] (K0 L, u2, G a2, t) = some (.inl none, (K0 L, u', G a', t)) ∧ Rel (vw u' R) (a' R) (mTick s) ∧ outR R u u' ∧ (∀ Q, Q ≠ R → a' Q = a Q) := by
    intro u2 a2 C2 hr2 ho hq
    obtain ⟨u', a', g1, g2, g3, g4⟩ := C_hearAll_loop (L := L) (t := t) (a := a2) (c := c) (n := s 3) (C := C2) hR (s 3).toNat 0 u2 (mT2 s) (by decide) (by omega) e3 hr2 hM2
    refine ⟨u', a', g1, ?_, ho.trans g3, fun Q hQ => by rw [g4 Q hQ, hq Q hQ]⟩
    have hsr : C2 = srt (mT2 s) := srt_uniq hM2 hr2.2.2.2.2.2.2.2.2.1 hr2.2.2.2.2.2.2.2.2.2.1
    rw [hsr, ← e3] at g2
    exact g2
  have w1 : wr (s 1 + 1) = s 1 + 1 := wr_id (by omega) (by omega)
  by_cases hp : s 0 = 0
  · have et : mT2 s = mT1 s := by unfold mT2; rw [if_neg (by omega)]
    obtain ⟨u', a', g1, g2, g3, g4⟩ := fin (upm u R 6 (s 1 + 1)) a C (by rw [et]; exact hrel1) (outR_m (by omega) (by omega)) (fun _ _ => rfl)
    refine ⟨u', a', ?_, g2, g3, g4⟩
    rw [← g1]
    simp (disch := first | assumption | omega) only [kR0, kR9, kR10, kR11, kR102, gR0_0, gR0_1, gR0_2, gR0_3, gR10_0, gR11, gR102, E_X4_passTick, B_X4_passTick_0, B_X4_passTick_36, B_X4_passTick_89, B_X4_passTick_72, B_X4_passTick_57, Option.bind_some, back_v, Option.toList_some, Option.toList_none, List.cons_append, List.nil_append, Nat.reduceAdd, Int.reduceToNat, Int.reduceNeg, upm_eq, upm_r, upm_i, if_pos, if_neg, ite_self, true_or, or_true, true_and, and_true, false_or, or_false, false_and, and_false, wr_id, i10, i01, upr_f, upr_eq, thr58, upm_upr, upr_upr, lc_lt, lc_gt, lc_ge, lc_le, afit1, afit0, afitI, bifit, not_true_eq_false, not_false_eq_true, if_true, if_false, Bool.false_eq_true, reduceCtorEq, k1557, k1558, g1557_2, f5, f6, w1, hp]
  · by_cases hq : (s 1 + 1).tmod (s 0) = 0
    · by_cases hr : s 4 < 30
      · have et : mT2 s = mAirs (mT1 s) 1 (s 2) 5 := by unfold mT2; rw [if_pos ⟨by omega, hq⟩, if_pos hr]
        have e2 : mT1 s 2 = s 2 := up1_ne (by decide)
        obtain ⟨u2, a2, C2, g1, g2, g3, g4⟩ := C_sendWhole (L := L) (u := upm u R 6 (s 1 + 1)) (a := a) (t := t) (len := 5) hR hrel1 hMT (by unfold mT1; rw [up1_ne (by decide)]; exact hr) (by unfold mT1; rw [up1_ne (by decide)]; omega) (by unfold mT1; rw [up1_eq]; omega) (by decide)
        rw [e2, ← et] at g2
        obtain ⟨u', a', k1, k2, k3, k4⟩ := fin u2 a2 C2 g2 ((outR_m (by omega) (by omega)).trans g3) g4
        refine ⟨u', a', ?_, k2, k3, k4⟩
        rw [← k1]
        have hf : a_m 2 [a_r (R + 10)] (K0 L, upm u R 6 (s 1 + 1), G a, t) = some (.inl (some (a_i 0)), (K0 L, upm u R 6 (s 1 + 1), G a, t)) := by
          rw [C_isFull (n := s 4) hR (by rw [upm_r (by omega)]; exact f10), decide_eq_false (by omega), bi_f]
        simp (disch := first | assumption | omega) only [kR0, kR9, kR10, kR11, kR102, gR0_0, gR0_1, gR0_2, gR0_3, gR10_0, gR11, gR102, E_X4_passTick, B_X4_passTick_0, B_X4_passTick_36, B_X4_passTick_89, B_X4_passTick_72, B_X4_passTick_57, Option.bind_some, back_v, Option.toList_some, Option.toList_none, List.cons_append, List.nil_append, Nat.reduceAdd, Int.reduceToNat, Int.reduceNeg, upm_eq, upm_r, upm_i, if_pos, if_neg, ite_self, true_or, or_true, true_and, and_true, false_or, or_false, false_and, and_false, wr_id, i10, i01, upr_f, upr_eq, thr58, upm_upr, upr_upr, lc_lt, lc_gt, lc_ge, lc_le, afit1, afit0, afitI, bifit, not_true_eq_false, not_false_eq_true, if_true, if_false, Bool.false_eq_true, reduceCtorEq, k1557, k1558, g1557_2, f5, f6, w1, hp, hq, hf, g1]
      · have et : mT2 s = up1 (mT1 s) 6 (wr (s 6 + 1)) := by unfold mT2; rw [if_pos ⟨by omega, hq⟩, if_neg hr]
        have hrel2 : RelC (vw (upm (upm u R 6 (s 1 + 1)) R 8 (wr (s 6 + 1))) R) (a R) C (mT2 s) := by
          rw [et]
          have e : vw (upm (upm u R 6 (s 1 + 1)) R 8 (wr (s 6 + 1))) R = upm (vw (upm u R 6 (s 1 + 1)) R) 0 8 (wr (s 6 + 1)) := vw_upm (c := 0) (by decide)
          rw [e]
          obtain ⟨b1, b2, b3, b4, b5, b6, b7⟩ := hrel1.1
          refine rel_hdr hrel1 hMT (fun x hx => upm_rf hx) (fun j hj => up1_ne (by omega)) (by rw [up1_ne (by decide)]; exact Int.le_refl _) ⟨?_, ?_, ?_, ?_, ?_, ?_, ?_⟩
          · rw [upm_i (by decide), up1_ne (by decide)]; exact b1
          · rw [upm_i (by decide), up1_ne (by decide)]; exact b2
          · rw [upm_i (by decide), up1_ne (by decide)]; exact b3
          · rw [upm_i (by decide), up1_ne (by decide)]; exact b4
          · rw [upm_eq, up1_eq]
          · rw [upm_r (by decide), up1_ne (by decide)]; exact b6
          · rw [upm_r (by decide), up1_ne (by decide)]; exact b7
        obtain ⟨u', a', k1, k2, k3, k4⟩ := fin (upm (upm u R 6 (s 1 + 1)) R 8 (wr (s 6 + 1))) a C hrel2 ((outR_m (by omega) (by omega)).trans (outR_m (by omega) (by omega))) (fun _ _ => rfl)
        refine ⟨u', a', ?_, k2, k3, k4⟩
        rw [← k1]
        have hf : a_m 2 [a_r (R + 10)] (K0 L, upm u R 6 (s 1 + 1), G a, t) = some (.inl (some (a_i 1)), (K0 L, upm u R 6 (s 1 + 1), G a, t)) := by
          rw [C_isFull (n := s 4) hR (by rw [upm_r (by omega)]; exact f10), decide_eq_true (by omega), bi_t]
        simp (disch := first | assumption | omega) only [kR0, kR9, kR10, kR11, kR102, gR0_0, gR0_1, gR0_2, gR0_3, gR10_0, gR11, gR102, E_X4_passTick, B_X4_passTick_0, B_X4_passTick_36, B_X4_passTick_89, B_X4_passTick_72, B_X4_passTick_57, Option.bind_some, back_v, Option.toList_some, Option.toList_none, List.cons_append, List.nil_append, Nat.reduceAdd, Int.reduceToNat, Int.reduceNeg, upm_eq, upm_r, upm_i, if_pos, if_neg, ite_self, true_or, or_true, true_and, and_true, false_or, or_false, false_and, and_false, wr_id, i10, i01, upr_f, upr_eq, thr58, upm_upr, upr_upr, lc_lt, lc_gt, lc_ge, lc_le, afit1, afit0, afitI, bifit, not_true_eq_false, not_false_eq_true, if_true, if_false, Bool.false_eq_true, reduceCtorEq, k1557, k1558, g1557_2, f5, f6, f8, w1, hp, hq, hf]
    · have et : mT2 s = mT1 s := by unfold mT2; rw [if_neg (fun h9 => hq h9.2)]
      obtain ⟨u', a', g1, g2, g3, g4⟩ := fin (upm u R 6 (s 1 + 1)) a C (by rw [et]; exact hrel1) (outR_m (by omega) (by omega)) (fun _ _ => rfl)
      refine ⟨u', a', ?_, g2, g3, g4⟩
      rw [← g1]
      simp (disch := first | assumption | omega) only [kR0, kR9, kR10, kR11, kR102, gR0_0, gR0_1, gR0_2, gR0_3, gR10_0, gR11, gR102, E_X4_passTick, B_X4_passTick_0, B_X4_passTick_36, B_X4_passTick_89, B_X4_passTick_72, B_X4_passTick_57, Option.bind_some, back_v, Option.toList_some, Option.toList_none, List.cons_append, List.nil_append, Nat.reduceAdd, Int.reduceToNat, Int.reduceNeg, upm_eq, upm_r, upm_i, if_pos, if_neg, ite_self, true_or, or_true, true_and, and_true, false_or, or_false, false_and, and_false, wr_id, i10, i01, upr_f, upr_eq, thr58, upm_upr, upr_upr, lc_lt, lc_gt, lc_ge, lc_le, afit1, afit0, afitI, bifit, not_true_eq_false, not_false_eq_true, if_true, if_false, Bool.false_eq_true, reduceCtorEq, k1557, k1558, g1557_2, f5, f6, w1, hp, hq]
end C6
