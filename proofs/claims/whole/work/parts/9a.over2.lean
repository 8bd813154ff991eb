/-! ===== what would be overtaken, on both sides ===== -/
theorem rel_drop0 {v : Nat → Nat → Int} {b : Nat → Nat} {C : List (Nat → Int)} {s : Nat → Int} {c l : Int} (h : RelC v b C s) (hM : MI c s) (hl : 0 ≤ l ∧ l < s 3) : RelC (upm v (103 + 4 * l.toNat) 7 0) b C (up1 s (436 + 19 * l + 12).toNat 0) := by
  have hM3 := hM.2.2.2.1
  have hL := hM.2.2.2.2.2.2.2 l hl.1 hl.2
  have r5 := h.2.2.2.2.1 l (by omega) hl.2
  obtain ⟨a1, a2, a3, a4, a5, a6, a7, a8, a9, a10⟩ := h.2.2.2.2.2.1 l hl.1 hl.2
  have g : ∀ w, 0 ≤ w → mLi (up1 s (436 + 19 * l + 12).toNat 0) l w = if w = 12 then 0 else mLi s l w := fun w hw => li_up1 hl.1 hw (by decide)
  refine rel_lis2 h hM hl (O2_up hl.1 (by decide)) (fun w w0 w1 => by rw [g w (by omega), if_neg (by omega)]) (fun q q1 q2 q3 q4 => upm_rf q1) ?_ ?_
  · unfold lis1
    rw [g 0 (by decide), g 1 (by decide), g 10 (by decide), g 11 (by decide), g 12 (by decide), g 13 (by decide), g 14 (by decide), up1_ne (show 2 ≠ (436 + 19 * l + 12).toNat by omega)]
    refine ⟨by rw [upm_i (by decide)]; exact a1, by rw [upm_i (by decide)]; exact a2, by rw [upm_i (by decide)]; exact a3, by rw [upm_i (by decide)]; exact a4, by rw [upm_eq]; rfl, by rw [upm_i (by decide)]; exact a6, by rw [upm_i (by decide)]; exact a7, a8, a9, fun i i0 i1 => ?_⟩
    rw [if_neg (by decide)] at i1
    rw [upm_rf (by omega), upm_rf (by omega), g _ (by omega), g _ (by omega), if_neg (by omega), if_neg (by omega)]
    exact a10 i i0 i1
  · refine slR_congr r5 (fun q q1 q2 => upm_rf (by omega)) (fun j _ => ?_) (Int.le_refl _) (fun k w k0 k1 w0 w1 => of_up1_li (by omega) ⟨k0, k1⟩ ⟨w0, w1⟩ hl.1 (by decide))
    rw [upm_rf (by unfold qOf; split <;> omega)]
theorem MI_drop0 {c l : Int} {s : Nat → Int} (hM : MI c s) (hl : 0 ≤ l ∧ l < s 3) : MI c (up1 s (436 + 19 * l + 12).toNat 0) := by
  have hM3 := hM.2.2.2.1
  have hL := hM.2.2.2.2.2.2.2 l hl.1 hl.2
  have g : ∀ w, 0 ≤ w → mLi (up1 s (436 + 19 * l + 12).toNat 0) l w = if w = 12 then 0 else mLi s l w := fun w hw => li_up1 hl.1 hw (by decide)
  refine O2_MI hM (O2_up hl.1 (by decide)) ⟨hl.1, by omega⟩ ?_ ?_
  · rw [g 0 (by decide), if_neg (by decide)]; exact hL.1
  · rw [g 1 (by decide), if_neg (by decide)]; exact hL.2
def sOv (s : Nat → Int) (l : Int) : Nat → Int := up1 (up1 (up1 s (436 + 19 * l + 1).toNat 0) 0 0) (436 + 19 * l + 12).toNat 0
theorem sOv_ne {s : Nat → Int} {l : Int} {j : Nat} (hl : 0 ≤ l) (h : j ≠ 0 ∧ j ≠ (436 + 19 * l + 1).toNat ∧ j ≠ (436 + 19 * l + 12).toNat) : sOv s l j = s j := by
  unfold sOv
  rw [up1_ne h.2.2, up1_ne h.1, up1_ne h.2.1]
theorem sOv_air {s : Nat → Int} {l : Int} (hl : 0 ≤ l ∧ l ≤ 5) : airL (sOv s l) = airL s := by
  unfold airL
  rw [sOv_ne hl.1 (by omega)]
  exact List.map_congr_left fun i _ => blk_ne (fun j hj => sOv_ne hl.1 (by omega)) i
theorem sOv_sim {s : Nat → Int} {l : Int} (hl : 0 ≤ l ∧ l ≤ 5) : simO l (mLi s l 12) s (sOv s l) ∧ mLi (sOv s l) l 1 = 0 := by
  refine ⟨⟨fun k k0 k1 => ?_, fun n n1 n2 => ?_, ?_⟩, ?_⟩
  · simp only [mOf]; exact sOv_ne hl.1 (by omega)
  · simp only [mCo]; exact sOv_ne hl.1 (by omega)
  · rw [Int.sub_self]
    simp only [mLi, sOv]; rw [up1_eq]; rfl
  · simp only [mLi, sOv]; rw [up1_ne (by omega), up1_ne (by omega), up1_eq]
theorem over_last {v : Nat → Nat → Int} {b : Nat → Nat} {C : List (Nat → Int)} {s : Nat → Int} {l : Int} (h : RelC v b C s) (h4 : 0 ≤ s 4 ∧ s 4 ≤ 30) (h3 : s 3 ≤ 6) (hl : 0 ≤ l ∧ l < s 3) : s 1 ≤ mLast s l ∧ mLast s l ≤ s 1 + 29 ∧ ∀ T, mLast s l < T → airDue l T (srt s) = [] := by
  have hA := h.2.2.2.2.2.2
  have hb : ∀ i : Int, 0 ≤ i → i < s 4 → mAi s i (5 + l) ≤ s 1 + 29 := fun i i0 i4 => by
    have hm : blk s i.toNat ∈ C := hA.2.2.1.mem_iff.mpr (airL_mem i0 i4)
    obtain ⟨p, hp, e⟩ := List.getElem_of_mem hm
    have hg := hA.2.2.2.2 p hp
    rw [e] at hg
    have g1 := (hg.2.2.2.2.2.2.1 l hl.1 hl.2).2.2
    have g2 := hg.2.2.2.2.2.2.2.1.2
    rw [mAi_blk i0 (by omega)]
    omega
  have h0 : ∀ T, T < mLast s l ↔ T < s 1 ∨ ∃ i, (0 : Int) ≤ i ∧ i < 0 + ((s 4).toNat : Int) ∧ T < mAi s i (5 + l) := fun T => maxW_lt _ _ _
  refine ⟨?_, ?_, fun T hT => ?_⟩
  · have := (h0 (s 1 - 1)).mpr (.inl (by omega)); omega
  · by_cases hh : s 1 + 29 < mLast s l
    · rcases (h0 _).mp hh with h1 | ⟨i, i0, i1, i2⟩
      · omega
      · have := hb i i0 (by omega); omega
    · omega
  · unfold airDue
    rw [List.filter_eq_nil_iff]
    intro x hx
    rw [decide_eq_true_eq]
    intro hxT
    obtain ⟨i, i0, i4, e⟩ := airL_of (srt_perm.mem_iff.mp hx)
    have : ¬ (T - 1 < mLast s l) := by omega
    refine this ((h0 _).mpr (.inr ⟨i, i0, by omega, ?_⟩))
    rw [mAi_blk i0 (by omega), ← e, hxT]
    omega
section OVR
variable {L : Nat} {c : Int} {v w : Nat → Nat → Int} {a : Nat → Nat → Nat} {t : Nat × Nat × Nat}
theorem M_over_loop {u : Nat → Nat → Int} {l had last : Int} {s : Nat → Int} {C : List (Nat → Int)} (hl : 0 ≤ l ∧ l ≤ 5) (hA : airOK s) (hC : ∀ b, b ∈ C ↔ b ∈ airL s) (hso : C.Pairwise (fun b c => bRank b < bRank c)) : ∀ (d : Nat) (x : Int) (s' : Nat → Int), sameOut l s s' → 0 ≤ x → x + d = last + 1 → last ≤ 30000 →
    a_X 250 38 [a_r 1557, a_i l, a_i had, a_i last, a_i x] [] (K0 L, upr u 1558 s', G a, t) = a_X 250 38 [a_r 1557, a_i l, a_i had, a_i last, a_i (last + 1)] [] (K0 L, upr u 1558 (itA d x s' (stF l C)), G a, t) ∧ sameOut l s (itA d x s' (stF l C)) := by
  intro d
  induction d with
  | zero =>
    intro x s' hs x0 hx hla
    have : x = last + 1 := by omega
    subst this
    exact ⟨rfl, hs⟩
  | succ d ih =>
    intro x s' hs x0 hx hla
    have hA' := airOK_same hs hl hA
    have hC' : ∀ b, b ∈ C ↔ b ∈ airL s' := fun b => by rw [airL_same hs hl]; exact hC b
    have p1 := M_listens (L := L) (u := u) (a := a) (t := t) (l := l) (time := x) (off := false) (C := C) (s := s') hl hA' hC' hso
    rw [bi_f] at p1
    have hb : bOK s' (airDue l x C) := bOK_of hA' (fun b hb' => (hC' b).mp (List.mem_filter.mp hb').1)
    have so := (sim_fold (h := 0) hl (airDue l x C) s' s' hb)
    have so2 : sameOut l s' (stF l C x s') := by
      have hsl : ∀ (D : List (Nat → Int)) (s' : Nat → Int), bOK s' D → sameOut l s' (D.foldl (mStep l false) s') := by
        intro D
        induction D with
        | nil => intro s' _; exact sameOut.refl
        | cons b D ih2 =>
          intro s' hD
          have h1 := hD b (by simp)
          have so := sameOut_step (off := false) hl h1
          exact so.trans (ih2 (mStep l false s' b) (fun c hc hc1 => by
            obtain ⟨a1, a2, a3⟩ := hD c (by simp [hc]) hc1
            rw [sameOut_co so hl a1 (by decide)]
            exact ⟨a1, a2, a3⟩))
      exact hsl _ _ hb
    obtain ⟨i1, i2⟩ := ih (x + 1) (stF l C x s') (hs.trans so2) (by omega) (by omega) hla
    rw [itA]
    refine ⟨?_, i2⟩
    rw [← i1]
    have hx' : ¬ x > last := by omega
    have wx : wr (x + 1) = x + 1 := wr_id (by omega) (by omega)
    have p2 : a_m 206 [a_r 1557, a_i l, a_i x, a_i 0] (K0 L, upr u 1558 s', G a, t) = some (.inl none, (K0 L, upr u 1558 (stF l C x s'), G a, t)) := p1
    rw [B_X11_overtakes_38]
    simp (disch := first | assumption | omega) only [k1559, k1560, k1561, k1562, k1563, k1564, k1565, k1566, k1567, g1557_3, g1557_5, g1557_6, g1557_17, g1557_18, g1557_19, g1557_20, g1557_21, g1557_23, B_X11_overtakes_0, B_X11_overtakes_5, B_X11_overtakes_14, B_X11_overtakes_21, B_X11_overtakes_27, B_X11_overtakes_66, B_X11_overtakes_52, B_X11_overtakes_71, Option.bind_some, back_v, Option.toList_some, Option.toList_none, List.cons_append, List.nil_append, Nat.reduceAdd, Int.reduceToNat, Int.reduceNeg, upm_eq, upm_r, upm_i, if_pos, if_neg, ite_self, true_or, or_true, true_and, and_true, false_or, or_false, false_and, and_false, wr_id, i10, i01, upr_f, upr_eq, thr58, upm_upr, upr_upr, lc_lt, lc_gt, lc_ge, lc_le, afit1, afit0, afitI, bifit, not_true_eq_false, not_false_eq_true, if_true, if_false, Bool.false_eq_true, reduceCtorEq, k1557, k1558, g1557_2, hx', p2, wx]
theorem op_overtakes {l : Int} : OP L 114 250 [a_i l] e2 := by
  intro c v w a t c0 c1 hX
  have be := fun pc len e ls st σ => pub_e (m := 114) (pc := pc) (len := len) (e := e) (ls := ls) (st := st) (σ := σ) (by decide)
  by_cases hv : v 18 8 = 0
  · have hw := XX_ld0 hX hv
    have cn := C_need_bad (L := L) (a := a) (t := t) hv
    have mn := M_noListener0 (L := L) (a := a) (t := t) (u := w) (l := l) hw
    exact OPc_bad (e := 1) (z := 0) (cd := 1) hX (by decide) (by simp (disch := first | assumption | omega) only [k18, g18_0, g18_1, g18_2, g18_3, g18_4, g18_5, g18_6, g18_7, E_X10_overtakes, B_X10_overtakes_0, B_X10_overtakes_4, B_X10_overtakes_9, B_X10_overtakes_20, B_X10_overtakes_57, Option.bind_some, back_v, Option.toList_some, Option.toList_none, List.cons_append, List.nil_append, Nat.reduceAdd, Int.reduceToNat, Int.reduceNeg, upm_eq, upm_r, upm_i, if_pos, if_neg, ite_self, true_or, or_true, true_and, and_true, false_or, or_false, false_and, and_false, wr_id, i10, i01, upr_f, upr_eq, thr58, upm_upr, upr_upr, lc_lt, lc_gt, lc_ge, lc_le, afit1, afit0, afitI, bifit, not_true_eq_false, not_false_eq_true, if_true, if_false, Bool.false_eq_true, reduceCtorEq, k1557, k1558, g1557_2, cn, be]) (by simp (disch := first | assumption | omega) only [E_X11_overtakes, B_X11_overtakes_0, B_X11_overtakes_5, B_X11_overtakes_14, B_X11_overtakes_21, B_X11_overtakes_27, B_X11_overtakes_66, B_X11_overtakes_52, B_X11_overtakes_71, Option.bind_some, back_v, Option.toList_some, Option.toList_none, List.cons_append, List.nil_append, Nat.reduceAdd, Int.reduceToNat, Int.reduceNeg, upm_eq, upm_r, upm_i, if_pos, if_neg, ite_self, true_or, or_true, true_and, and_true, false_or, or_false, false_and, and_false, wr_id, i10, i01, upr_f, upr_eq, thr58, upm_upr, upr_upr, lc_lt, lc_gt, lc_ge, lc_le, afit1, afit0, afitI, bifit, not_true_eq_false, not_false_eq_true, if_true, if_false, Bool.false_eq_true, reduceCtorEq, k1557, k1558, g1557_2, mn])
  obtain ⟨hw, hS⟩ := XX_ld hX hv
  obtain ⟨⟨n3, n3a, n3b⟩, ⟨n2, n2a, n2b⟩, ⟨n4, n4a, n4b⟩, ⟨n1, n1a, n1b⟩, ⟨n0, n0a, n0b⟩, n5, n6⟩ := RS_n hS
  have hR : isRad 21 := .inl rfl
  have hM := hS.2.1
  have hW : upm w 1557 0 0 1558 = w 1558 := upm_rf (by decide)
  have cn := C_need (L := L) (a := a) (t := t) hv
  by_cases hl : l < 0 ∨ w 1558 3 ≤ l
  · have cl := C_needL_bad (L := L) (a := a) (t := t) (v := v) (l := l) (by omega)
    have mn := M_noListener2 (L := L) (a := a) (t := t) (u := w) (l := l) hw (by omega) (inB_f (by omega))
    exact OPc_bad (e := 2) (z := 0) (cd := 2) hX (by decide) (by simp (disch := first | assumption | omega) only [k18, g18_0, g18_1, g18_2, g18_3, g18_4, g18_5, g18_6, g18_7, E_X10_overtakes, B_X10_overtakes_0, B_X10_overtakes_4, B_X10_overtakes_9, B_X10_overtakes_20, B_X10_overtakes_57, Option.bind_some, back_v, Option.toList_some, Option.toList_none, List.cons_append, List.nil_append, Nat.reduceAdd, Int.reduceToNat, Int.reduceNeg, upm_eq, upm_r, upm_i, if_pos, if_neg, ite_self, true_or, or_true, true_and, and_true, false_or, or_false, false_and, and_false, wr_id, i10, i01, upr_f, upr_eq, thr58, upm_upr, upr_upr, lc_lt, lc_gt, lc_ge, lc_le, afit1, afit0, afitI, bifit, not_true_eq_false, not_false_eq_true, if_true, if_false, Bool.false_eq_true, reduceCtorEq, k1557, k1558, g1557_2, cn, cl, be]) (by simp (disch := first | assumption | omega) only [E_X11_overtakes, B_X11_overtakes_0, B_X11_overtakes_5, B_X11_overtakes_14, B_X11_overtakes_21, B_X11_overtakes_27, B_X11_overtakes_66, B_X11_overtakes_52, B_X11_overtakes_71, Option.bind_some, back_v, Option.toList_some, Option.toList_none, List.cons_append, List.nil_append, Nat.reduceAdd, Int.reduceToNat, Int.reduceNeg, upm_eq, upm_r, upm_i, if_pos, if_neg, ite_self, true_or, or_true, true_and, and_true, false_or, or_false, false_and, and_false, wr_id, i10, i01, upr_f, upr_eq, thr58, upm_upr, upr_upr, lc_lt, lc_gt, lc_ge, lc_le, afit1, afit0, afitI, bifit, not_true_eq_false, not_false_eq_true, if_true, if_false, Bool.false_eq_true, reduceCtorEq, k1557, k1558, g1557_2, mn])
  have hl2 : 0 ≤ l ∧ l < w 1558 3 := by omega
  have cl := C_needL (L := L) (a := a) (t := t) (v := v) (l := l) (by omega)
  have mnA := fun aa : Nat → Nat → Nat => M_noListener (L := L) (a := aa) (t := t) (u := w) (l := l) hw (by omega) (inB_t (by omega) (by omega))
  have mn := mnA a
  obtain ⟨C, hC⟩ := hS.1
  obtain ⟨v1, d0, d1, ⟨C1, d2⟩⟩ := C_spare (L := L) (t := t) hS (hX.2.2.2.2.2.2.2.2 148 (.inr (.inl rfl)))
  have hl5 : 0 ≤ l ∧ l ≤ 5 := by omega
  have e251 : 148 + (103 + 4 * l.toNat) = 251 + 4 * l.toNat := by omega
  have hr : RelC (vw (upm (upm (upm v1 (148 + (103 + 4 * l.toNat)) 1 0) (148 + 0) 5 0) (148 + (103 + 4 * l.toNat)) 7 0) 148) (a 148) C1 (sOv (w 1558) l) := by
    rw [vw_upm (by omega), vw_upm (by decide), vw_upm (by omega)]
    exact rel_drop0 (rel_period (rel_gap0 d2 hM hl2) (MI_gap0 hM hl2)) (MI_period (MI_gap0 hM hl2) (by decide)) (by rw [up1_ne (by decide), up1_ne (by omega)]; exact hl2)
  have o1 : outR 148 v1 (upm (upm (upm v1 (148 + (103 + 4 * l.toNat)) 1 0) (148 + 0) 5 0) (148 + (103 + 4 * l.toNat)) 7 0) := (outR_upm (by omega)).trans ((outR_upm (by decide)).trans (outR_upm (by omega)))
  rw [e251, Nat.add_zero] at hr o1
  have hM' : MI c (sOv (w 1558) l) := MI_drop0 (MI_period (MI_gap0 hM hl2) (by decide)) (by rw [up1_ne (by decide), up1_ne (by omega)]; exact hl2)
  have s01 : sOv (w 1558) l 1 = w 1558 1 := sOv_ne hl5.1 (by omega)
  have s03 : sOv (w 1558) l 3 = w 1558 3 := sOv_ne hl5.1 (by omega)
  have s00 : sOv (w 1558) l 0 = 0 := by unfold sOv; rw [up1_ne (by omega), up1_eq]
  have es : srt (sOv (w 1558) l) = srt (w 1558) := srt_air (sOv_air hl5)
  obtain ⟨v2, a2, k0, kr, k1, k2⟩ := C_passTicks (L := L) (t := t) (R := 148) (c := c) (n := 29) (u := upm (upm (upm v1 (251 + 4 * l.toNat) 1 0) 148 5 0) (251 + 4 * l.toNat) 7 0) (a := a) (s := sOv (w 1558) l) (.inr (.inl rfl)) (by omega) (by decide) ⟨C1, hr⟩ hM' (by rw [s01]; omega)
  obtain ⟨t1, t2, t3, t4, t5⟩ := MI_ticks (c := c) (by omega) (29 : Int).toNat (sOv (w 1558) l) hM' (by rw [s01]; omega)
  obtain ⟨C2, hC2⟩ := kr
  have q1 := (hC2.2.2.2.2.2.1 l hl2.1 (by rw [t5, s03]; exact hl2.2)).2.2.2.2.1
  rw [vw_at (by omega), show 148 + (103 + 4 * l.toNat) = 251 + 4 * l.toNat from e251] at q1
  obtain ⟨s1, s2⟩ := sOv_sim (s := w 1558) hl5
  have hA := hM.2.2.2.2.2.1
  have hcl : ∀ b, b ∈ srt (w 1558) ↔ b ∈ airL (w 1558) := fun b => srt_perm.mem_iff
  have hsim := sim_ticks (c := c) (C0 := srt (w 1558)) (by omega) 29 (w 1558) (sOv (w 1558) l) hM' (by rw [s01]; omega) (by rw [s03]; exact hl2) s00 s2 (bOK_of hA (fun b hb => (hcl b).mp hb)) (by rw [es]; exact fun b hb => hb) (by rw [es]; exact fun _ _ => rfl) s1
  rw [s01] at hsim
  obtain ⟨l1, l2, l3⟩ := over_last hC ⟨hA.1, hA.2.1⟩ n3b hl2
  have hmore := itA_more (F := stF l (srt (w 1558))) (e := 29 - (mLast (w 1558) l - w 1558 1).toNat) (mLast (w 1558) l - w 1558 1).toNat (w 1558 1 + 1) (w 1558) (fun i y hi => by unfold stF; rw [l3 i (by omega)]; rfl)
  rw [show (mLast (w 1558) l - w 1558 1).toNat + (29 - (mLast (w 1558) l - w 1558 1).toNat) = 29 by omega] at hmore
  rw [hmore] at hsim
  have q2 := hsim.2.2
  obtain ⟨m1, m2⟩ := M_over_loop (L := L) (u := wT w) (a := a2) (t := t) (l := l) (had := mLi (w 1558) l 12) (last := mLast (w 1558) l) (s := w 1558) (C := srt (w 1558)) hl5 hA hcl (srt_lt hM) (mLast (w 1558) l - w 1558 1).toNat (w 1558 1 + 1) (w 1558) sameOut.refl (by omega) (by omega) (by omega)
  rw [wT_self] at m1
  have bk := M_bk (L := L) (a := a2) (t := t) (w := w) (z := mLi (mTicks 29 (sOv (w 1558) l)) l 12) hS.2.2.2.1 (hi0_out m2 hl5 hS.2.2.2.1)
  have mt := M_tr (L := L) (a := a2) (t := t) (w := w)
  have mn2 := mnA a2
  have l6 : l < ((6 : Nat) : Int) := by omega
  have p1 := M_ofListener (L := L) (u := wT w) (a := a2) (t := t) (l := l) (w := 12) hl5 (by decide)
  rw [wT_58] at p1
  have p2 := M_lastDue (L := L) (u := wT w) (a := a2) (t := t) (l := l) hl5 (by rw [wT_58]; exact ⟨hA.1, hA.2.1⟩)
  rw [wT_58] at p2
  have p3 := M_ofListener (L := L) (u := upr (wT w) 1558 (itA (mLast (w 1558) l - w 1558 1).toNat (w 1558 1 + 1) (w 1558) (stF l (srt (w 1558))))) (a := a2) (t := t) (l := l) (w := 12) hl5 (by decide)
  rw [upr_row2] at p3
  rw [q2] at bk
  rw [show mTicks (29 : Int).toNat (sOv (w 1558) l) = mTicks 29 (sOv (w 1558) l) from rfl] at q1
  refine OPc_sp (z := mLi (mTicks 29 (sOv (w 1558) l)) l 12) hX ((d1.trans o1).trans k1) k2 (Rel_okA ⟨C2, hC2⟩) ?_ ?_
  · simp (disch := first | assumption | omega) only [k18, g18_0, g18_1, g18_2, g18_3, g18_4, g18_5, g18_6, g18_7, kq148, kq149, kq150, kq151, kq152, kq153, kq154, kq155, kq156, kq157, kq158, kq159, kq250, gq148_0, gq148_1, gq148_2, gq148_3, gq149_0, gq149_1, gq149_2, gq149_3, gq149_4, gq149_5, gq149_6, gq158_0, gq250_j, gq159_j, kq251_l, kq252_l, kq253_l, kq254_l, gq251_2, gq251_3, gq251_4, kq160_p, kq161_p, kq162_p, gq160_6, gq160_7, E_X10_overtakes, B_X10_overtakes_0, B_X10_overtakes_4, B_X10_overtakes_9, B_X10_overtakes_20, B_X10_overtakes_57, Option.bind_some, back_v, Option.toList_some, Option.toList_none, List.cons_append, List.nil_append, Nat.reduceAdd, Int.reduceToNat, Int.reduceNeg, upm_eq, upm_r, upm_i, if_pos, if_neg, ite_self, true_or, or_true, true_and, and_true, false_or, or_false, false_and, and_false, wr_id, i10, i01, upr_f, upr_eq, thr58, upm_upr, upr_upr, lc_lt, lc_gt, lc_ge, lc_le, afit1, afit0, afitI, bifit, not_true_eq_false, not_false_eq_true, if_true, if_false, Bool.false_eq_true, reduceCtorEq, k1557, k1558, g1557_2, cn, cl, d0, k0, q1]
  · rw [q2]
    have wx : wr (w 1558 1 + 1) = w 1558 1 + 1 := wr_id (by omega) (by omega)
    simp (disch := first | assumption | omega) only [E_X11_overtakes, B_X11_overtakes_0, B_X11_overtakes_5, B_X11_overtakes_14, B_X11_overtakes_21, B_X11_overtakes_27, B_X11_overtakes_66, B_X11_overtakes_52, B_X11_overtakes_71, Option.bind_some, back_v, Option.toList_some, Option.toList_none, List.cons_append, List.nil_append, Nat.reduceAdd, Int.reduceToNat, Int.reduceNeg, upm_eq, upm_r, upm_i, if_pos, if_neg, ite_self, true_or, or_true, true_and, and_true, false_or, or_false, false_and, and_false, wr_id, i10, i01, upr_f, upr_eq, thr58, upm_upr, upr_upr, lc_lt, lc_gt, lc_ge, lc_le, afit1, afit0, afitI, bifit, not_true_eq_false, not_false_eq_true, if_true, if_false, Bool.false_eq_true, reduceCtorEq, k1557, k1558, g1557_2, mn2, mt, p1, p2, wT_58, wx]
    rw [m1]
    rw [B_X11_overtakes_38]
    simp (disch := first | assumption | omega) only [B_X11_overtakes_0, B_X11_overtakes_5, B_X11_overtakes_14, B_X11_overtakes_21, B_X11_overtakes_27, B_X11_overtakes_66, B_X11_overtakes_52, B_X11_overtakes_71, Option.bind_some, back_v, Option.toList_some, Option.toList_none, List.cons_append, List.nil_append, Nat.reduceAdd, Int.reduceToNat, Int.reduceNeg, upm_eq, upm_r, upm_i, if_pos, if_neg, ite_self, true_or, or_true, true_and, and_true, false_or, or_false, false_and, and_false, wr_id, i10, i01, upr_f, upr_eq, thr58, upm_upr, upr_upr, lc_lt, lc_gt, lc_ge, lc_le, afit1, afit0, afitI, bifit, not_true_eq_false, not_false_eq_true, if_true, if_false, Bool.false_eq_true, reduceCtorEq, k1557, k1558, g1557_2, p3, bk]
end OVR
