/-! ===== questions: shares of both sides ===== -/
def okF (f : UInt32) : Prop := FP.f2d f &&& 0x7fffffffffffffff ≤ 0x7ff0000000000000 ∧ FP.dcmp (FP.f2d f) (FP.f2d f) = some .eq
def okD (f : UInt64) : Prop := f &&& 0x7fffffffffffffff ≤ 0x7ff0000000000000 ∧ FP.dcmp f f = some .eq
def shrA (s : Nat → Int) (d : Nat) (x acc : Int) : Int := itA d x acc fun l acc => sumW 12 0 acc fun k => bi (mAlike s l (-1) k)
def shV (s : Nat → Int) (acc : Int) : UInt32 := FP.fdiv (FP.i2f (Int32.ofInt acc)) (FP.i2f (Int32.ofInt (wr (12 * s 3))))
def beA (s : Nat → Int) (d : Nat) (x acc : Int) : Int := sumW d x acc fun l => mBehind s l
def beV (s : Nat → Int) (acc : Int) : UInt64 := FP.ddiv (FP.i2d (Int32.ofInt acc)) (FP.i2d (Int32.ofInt (s 3)))
theorem sh_step {s : Nat → Int} {l acc : Int} (ha : 0 ≤ acc ∧ acc ≤ 100000) : wr (acc + wr (12 - bcE (mDiff s l (-1)))) = sumW 12 0 acc (fun k => bi (mAlike s l (-1) k)) ∧ acc ≤ sumW 12 0 acc (fun k => bi (mAlike s l (-1) k)) ∧ sumW 12 0 acc (fun k => bi (mAlike s l (-1) k)) ≤ acc + 12 := by
  have hb : ∀ i, 0 ≤ i → i < (0 : Int) + ((12 : Nat) : Int) → 0 ≤ bi (mAlike s l (-1) i) ∧ bi (mAlike s l (-1) i) ≤ 1 := fun i _ _ => ⟨bi_lo, bi_hi⟩
  have h1 := sumW_ps (f := fun k => bi (mAlike s l (-1) k)) 12 0 acc ha.1 (by omega) hb
  have hr := ps_rng (f := fun k => bi (mAlike s l (-1) k)) (c := 1) 12 0 hb
  have h2 : bcE (mDiff s l (-1)) = ps 12 0 (fun k => bi (!mAlike s l (-1) k)) := by unfold mDiff; exact bc_eq _
  have h3 := ps_add (f := fun k => bi (mAlike s l (-1) k)) (g := fun k => bi (!mAlike s l (-1) k)) 12 0
  have h4 : ps 12 0 (fun i => bi (mAlike s l (-1) i) + bi (!mAlike s l (-1) i)) = ps 12 0 (fun _ => 1) := ps_congr 12 0 (fun i _ _ => by cases mAlike s l (-1) i <;> rfl)
  have h5 : ps 12 0 (fun _ => 1) = 12 := rfl
  rw [h4, h5] at h3
  rw [h1, h2]
  refine ⟨?_, by omega, by omega⟩
  rw [wr_id (z := 12 - _) (by omega) (by omega), wr_id (by omega) (by omega)]
  omega
section AS6
variable {L : Nat} {c : Int} {v w : Nat → Nat → Int} {a : Nat → Nat → Nat} {t : Nat × Nat × Nat}
theorem J_bitCount {k : Nat → Nat × Nat} {g : Nat → Nat → Nat} {u : Nat → Nat → Int} {x : Int} : a_m 351 [a_i x] (k, u, g, t) = some (.inl (some (a_i (bcE x))), (k, u, g, t)) := by
  rw [E_J6_bitCount_0f7a4, B_J6_bitCount_0f7a4_0]
  rfl
theorem shV_ok {s : Nat → Int} {acc : Int} (h3 : 1 ≤ s 3 ∧ s 3 ≤ 6) (ha : 0 ≤ acc ∧ acc ≤ 72) : shV s acc &&& 0x7fffffff ≤ 0x7f800000 ∧ okF (shV s acc) := by
  have h := shr_ok (s 3).toNat (by omega) acc.toNat (by omega) (by omega)
  rw [show (((s 3).toNat : Nat) : Int) = s 3 from by omega, show ((acc.toNat : Nat) : Int) = acc from by omega] at h
  exact h
theorem beV_ok {s : Nat → Int} {acc : Int} (h3 : 1 ≤ s 3 ∧ s 3 ≤ 6) (ha : 0 ≤ acc ∧ acc < 600) : okD (beV s acc) := by
  have h := beh_ok (s 3).toNat (by omega) acc.toNat (by omega) (by omega)
  rw [show (((s 3).toNat : Nat) : Int) = s 3 from by omega, show ((acc.toNat : Nat) : Int) = acc from by omega] at h
  exact h
theorem C_share_loop {C : List (Nat → Int)} (hS : RS c v a 21 (w 1558)) (hC : RelC (vw v 21) (a 21) C (w 1558)) : ∀ (d : Nat) (x acc : Int), 0 ≤ x → x + d = w 1558 3 → 0 ≤ acc ∧ acc ≤ 12 * x → a_X 125 8 [a_r 18, a_i acc, a_i x] [] (K0 L, v, G a, t) = some (.inl (some (a_f (shV (w 1558) (shrA (w 1558) d x acc)))), (K0 L, v, G a, t)) ∧ okF (shV (w 1558) (shrA (w 1558) d x acc)) ∧ shV (w 1558) (shrA (w 1558) d x acc) &&& 0x7fffffff ≤ 0x7f800000 := by
  obtain ⟨⟨n3, n3a, n3b⟩, -⟩ := RS_n hS
  intro d
  induction d with
  | zero =>
    intro x acc x0 hx ha
    have hk := shV_ok (s := w 1558) (acc := acc) ⟨n3a, n3b⟩ (by omega)
    have hk1 := hk.1
    unfold shV at hk1
    rw [wr_id (z := 12 * w 1558 3) (by omega) (by omega)] at hk1
    have xn : x ≥ w 1558 3 := by omega
    refine ⟨?_, hk.2, hk.1⟩
    unfold shV shrA
    rw [B_X10_sameShare_8]
    rw [itA]
    simp (disch := first | assumption | omega) only [k18, g18_0, g18_1, g18_2, g18_3, g18_4, g18_5, g18_6, g18_7, kq21, kq22, kq23, kq24, kq25, kq26, kq27, kq28, kq29, kq30, kq31, kq32, kq123, gq21_0, gq21_1, gq21_2, gq21_3, gq22_0, gq22_1, gq22_2, gq22_3, gq22_4, gq22_5, gq22_6, gq31_0, gq123_j, gq32_j, kq124_l, kq125_l, kq126_l, kq127_l, gq124_2, gq124_3, gq124_4, kq33_p, kq34_p, kq35_p, gq33_6, gq33_7, B_X10_sameShare_0, B_X10_sameShare_4, B_X10_sameShare_30, B_X10_sameShare_33, Option.bind_some, back_v, Option.toList_some, Option.toList_none, List.cons_append, List.nil_append, Nat.reduceAdd, Int.reduceToNat, Int.reduceNeg, upm_eq, upm_r, upm_i, if_pos, if_neg, ite_self, true_or, or_true, true_and, and_true, false_or, or_false, false_and, and_false, wr_id, i10, i01, upr_f, upr_eq, thr58, upm_upr, upr_upr, lc_lt, lc_gt, lc_ge, lc_le, afit1, afit0, afitI, bifit, not_true_eq_false, not_false_eq_true, if_true, if_false, Bool.false_eq_true, reduceCtorEq, k1557, k1558, g1557_2, n3, xn, hk1]
  | succ d ih =>
    intro x acc x0 hx ha
    obtain ⟨e1, e2, e3⟩ := sh_step (s := w 1558) (l := x) (acc := acc) (by omega)
    have hi := ih (x + 1) (sumW 12 0 acc (fun k => bi (mAlike (w 1558) x (-1) k))) (by omega) (by omega) (by omega)
    have q1 := C_differing (L := L) (t := t) (u := v) (R := 21) (l := x) (.inl rfl) hC hS.2.1 ⟨x0, by omega⟩
    have xn : ¬ x ≥ w 1558 3 := by omega
    have es : shrA (w 1558) (d + 1) x acc = shrA (w 1558) d (x + 1) (sumW 12 0 acc (fun k => bi (mAlike (w 1558) x (-1) k))) := rfl
    rw [es]
    refine ⟨?_, hi.2⟩
    rw [← hi.1, ← e1]
    rw [B_X10_sameShare_8]
    have wx : wr (x + 1) = x + 1 := wr_id (by omega) (by omega)
    simp (disch := first | assumption | omega) only [k18, g18_0, g18_1, g18_2, g18_3, g18_4, g18_5, g18_6, g18_7, kq21, kq22, kq23, kq24, kq25, kq26, kq27, kq28, kq29, kq30, kq31, kq32, kq123, gq21_0, gq21_1, gq21_2, gq21_3, gq22_0, gq22_1, gq22_2, gq22_3, gq22_4, gq22_5, gq22_6, gq31_0, gq123_j, gq32_j, kq124_l, kq125_l, kq126_l, kq127_l, gq124_2, gq124_3, gq124_4, kq33_p, kq34_p, kq35_p, gq33_6, gq33_7, B_X10_sameShare_0, B_X10_sameShare_4, B_X10_sameShare_30, B_X10_sameShare_33, Option.bind_some, back_v, Option.toList_some, Option.toList_none, List.cons_append, List.nil_append, Nat.reduceAdd, Int.reduceToNat, Int.reduceNeg, upm_eq, upm_r, upm_i, if_pos, if_neg, ite_self, true_or, or_true, true_and, and_true, false_or, or_false, false_and, and_false, wr_id, i10, i01, upr_f, upr_eq, thr58, upm_upr, upr_upr, lc_lt, lc_gt, lc_ge, lc_le, afit1, afit0, afitI, bifit, not_true_eq_false, not_false_eq_true, if_true, if_false, Bool.false_eq_true, reduceCtorEq, k1557, k1558, g1557_2, n3, xn, q1, J_bitCount, wx]
theorem M_share_in {x : Int} {u : Nat → Nat → Int} (hx : 0 ≤ x ∧ x < 6) : ∀ (d : Nat) (k acc : Int), 0 ≤ k → k + d = 12 → a_X 269 25 [a_r 1557, a_i acc, a_i x, a_i k] [] (K0 L, u, G a, t) = a_X 269 13 [a_r 1557, a_i (sumW d k acc (fun k => bi (mAlike (u 1558) x (-1) k))), a_i (x + 1), a_i 12] [] (K0 L, u, G a, t) := by
  intro d
  induction d with
  | zero =>
    intro k acc k0 hk
    have : k = 12 := by omega
    subst this
    rw [B_X11_sameShare_25]
    simp (disch := first | assumption | omega) only [B_X11_sameShare_0, B_X11_sameShare_4, B_X11_sameShare_39, B_X11_sameShare_42, Option.bind_some, back_v, Option.toList_some, Option.toList_none, List.cons_append, List.nil_append, Nat.reduceAdd, Int.reduceToNat, Int.reduceNeg, upm_eq, upm_r, upm_i, if_pos, if_neg, ite_self, true_or, or_true, true_and, and_true, false_or, or_false, false_and, and_false, wr_id, i10, i01, upr_f, upr_eq, thr58, upm_upr, upr_upr, lc_lt, lc_gt, lc_ge, lc_le, afit1, afit0, afitI, bifit, not_true_eq_false, not_false_eq_true, if_true, if_false, Bool.false_eq_true, reduceCtorEq, k1557, k1558, g1557_2, sumW]
  | succ d ih =>
    intro k acc k0 hk
    have p1 := M_areAlike (L := L) (u := u) (a := a) (t := t) (l := x) (o := -1) (k := k) (by omega) (by decide) (by omega)
    have hk' : ¬ k ≥ 12 := by omega
    rw [sumW, ← ih (k + 1) _ (by omega) (by omega), B_X11_sameShare_25]
    cases hb : mAlike (u 1558) x (-1) k with
    | true => rw [hb] at p1; simp (disch := first | assumption | omega) only [B_X11_sameShare_0, B_X11_sameShare_4, B_X11_sameShare_39, B_X11_sameShare_42, Option.bind_some, back_v, Option.toList_some, Option.toList_none, List.cons_append, List.nil_append, Nat.reduceAdd, Int.reduceToNat, Int.reduceNeg, upm_eq, upm_r, upm_i, if_pos, if_neg, ite_self, true_or, or_true, true_and, and_true, false_or, or_false, false_and, and_false, wr_id, i10, i01, upr_f, upr_eq, thr58, upm_upr, upr_upr, lc_lt, lc_gt, lc_ge, lc_le, afit1, afit0, afitI, bifit, not_true_eq_false, not_false_eq_true, if_true, if_false, Bool.false_eq_true, reduceCtorEq, k1557, k1558, g1557_2, hk', p1, bi_t, M_flag1]
    | false => rw [hb] at p1; simp (disch := first | assumption | omega) only [B_X11_sameShare_0, B_X11_sameShare_4, B_X11_sameShare_39, B_X11_sameShare_42, Option.bind_some, back_v, Option.toList_some, Option.toList_none, List.cons_append, List.nil_append, Nat.reduceAdd, Int.reduceToNat, Int.reduceNeg, upm_eq, upm_r, upm_i, if_pos, if_neg, ite_self, true_or, or_true, true_and, and_true, false_or, or_false, false_and, and_false, wr_id, i10, i01, upr_f, upr_eq, thr58, upm_upr, upr_upr, lc_lt, lc_gt, lc_ge, lc_le, afit1, afit0, afitI, bifit, not_true_eq_false, not_false_eq_true, if_true, if_false, Bool.false_eq_true, reduceCtorEq, k1557, k1558, g1557_2, hk', p1, bi_f, M_flag0]
theorem M_share_loop {u : Nat → Nat → Int} (h3 : 1 ≤ u 1558 3 ∧ u 1558 3 ≤ 6) (hk : ∀ acc, 0 ≤ acc → acc ≤ 72 → shV (u 1558) acc &&& 0x7fffffff ≤ 0x7f800000) : ∀ (d : Nat) (x acc : Int) (z : AV), 0 ≤ x → x + d = u 1558 3 → 0 ≤ acc ∧ acc ≤ 12 * x → a_X 269 13 [a_r 1557, a_i acc, a_i x, z] [] (K0 L, u, G a, t) = some (.inl (some (a_f (shV (u 1558) (shrA (u 1558) d x acc)))), (K0 L, u, G a, t)) := by
  intro d
  induction d with
  | zero =>
    intro x acc z x0 hx ha
    have hk1 := hk acc (by omega) (by omega)
    unfold shV at hk1
    rw [wr_id (z := 12 * u 1558 3) (by omega) (by omega)] at hk1
    have xn : x ≥ u 1558 3 := by omega
    unfold shV shrA
    rw [B_X11_sameShare_13, itA]
    simp (disch := first | assumption | omega) only [k1559, k1560, k1561, k1562, k1563, k1564, k1565, k1566, k1567, g1557_3, g1557_5, g1557_6, g1557_17, g1557_18, g1557_19, g1557_20, g1557_21, g1557_23, B_X11_sameShare_0, B_X11_sameShare_4, B_X11_sameShare_39, B_X11_sameShare_42, Option.bind_some, back_v, Option.toList_some, Option.toList_none, List.cons_append, List.nil_append, Nat.reduceAdd, Int.reduceToNat, Int.reduceNeg, upm_eq, upm_r, upm_i, if_pos, if_neg, ite_self, true_or, or_true, true_and, and_true, false_or, or_false, false_and, and_false, wr_id, i10, i01, upr_f, upr_eq, thr58, upm_upr, upr_upr, lc_lt, lc_gt, lc_ge, lc_le, afit1, afit0, afitI, bifit, not_true_eq_false, not_false_eq_true, if_true, if_false, Bool.false_eq_true, reduceCtorEq, k1557, k1558, g1557_2, xn, hk1, Int.reduceToNat]
  | succ d ih =>
    intro x acc z x0 hx ha
    obtain ⟨e1, e2, e3⟩ := sh_step (s := u 1558) (l := x) (acc := acc) (by omega)
    have hi := ih (x + 1) (sumW 12 0 acc (fun k => bi (mAlike (u 1558) x (-1) k))) (a_i 12) (by omega) (by omega) (by omega)
    have xn : ¬ x ≥ u 1558 3 := by omega
    have es : shrA (u 1558) (d + 1) x acc = shrA (u 1558) d (x + 1) (sumW 12 0 acc (fun k => bi (mAlike (u 1558) x (-1) k))) := rfl
    have hin := M_share_in (L := L) (u := u) (a := a) (t := t) (x := x) ⟨x0, by omega⟩ 12 0 acc (by decide) (by decide)
    rw [es, ← hi, ← hin, B_X11_sameShare_13]
    simp (disch := first | assumption | omega) only [k1559, k1560, k1561, k1562, k1563, k1564, k1565, k1566, k1567, g1557_3, g1557_5, g1557_6, g1557_17, g1557_18, g1557_19, g1557_20, g1557_21, g1557_23, Option.bind_some, back_v, Option.toList_some, Option.toList_none, List.cons_append, List.nil_append, Nat.reduceAdd, Int.reduceToNat, Int.reduceNeg, upm_eq, upm_r, upm_i, if_pos, if_neg, ite_self, true_or, or_true, true_and, and_true, false_or, or_false, false_and, and_false, wr_id, i10, i01, upr_f, upr_eq, thr58, upm_upr, upr_upr, lc_lt, lc_gt, lc_ge, lc_le, afit1, afit0, afitI, bifit, not_true_eq_false, not_false_eq_true, if_true, if_false, Bool.false_eq_true, reduceCtorEq, k1557, k1558, g1557_2, xn]
theorem op_sameShare0 (hX : XX c v w a) (hv : v 18 8 = 0) : a_m 125 [a_r 18] (K0 L, v, G a, t) = some (.inr 1, (K0 L, v, G a, (t.1, t.2.1 + 1, t.2.2 + 6))) ∧ a_m 269 [a_r 1557] (K0 L, w, G a, t) = some (.inl (some (a_f (0))), (K0 L, upm w 1557 0 1, G a, t)) := by
  have be := fun pc len e ls st σ => pub_e (m := 125) (pc := pc) (len := len) (e := e) (ls := ls) (st := st) (σ := σ) (by decide)
  have cn := C_need_bad (L := L) (a := a) (t := t) hv
  have mn := M_notLoaded0 (L := L) (a := a) (t := t) (u := w) (XX_ld0 hX hv)
  refine ⟨?_, ?_⟩
  · simp (disch := first | assumption | omega) only [k18, g18_0, g18_1, g18_2, g18_3, g18_4, g18_5, g18_6, g18_7, E_X10_sameShare, B_X10_sameShare_0, B_X10_sameShare_4, B_X10_sameShare_30, B_X10_sameShare_33, Option.bind_some, back_v, Option.toList_some, Option.toList_none, List.cons_append, List.nil_append, Nat.reduceAdd, Int.reduceToNat, Int.reduceNeg, upm_eq, upm_r, upm_i, if_pos, if_neg, ite_self, true_or, or_true, true_and, and_true, false_or, or_false, false_and, and_false, wr_id, i10, i01, upr_f, upr_eq, thr58, upm_upr, upr_upr, lc_lt, lc_gt, lc_ge, lc_le, afit1, afit0, afitI, bifit, not_true_eq_false, not_false_eq_true, if_true, if_false, Bool.false_eq_true, reduceCtorEq, k1557, k1558, g1557_2, cn, be]
  · simp (disch := first | assumption | omega) only [E_X11_sameShare, B_X11_sameShare_0, B_X11_sameShare_4, B_X11_sameShare_39, B_X11_sameShare_42, Option.bind_some, back_v, Option.toList_some, Option.toList_none, List.cons_append, List.nil_append, Nat.reduceAdd, Int.reduceToNat, Int.reduceNeg, upm_eq, upm_r, upm_i, if_pos, if_neg, ite_self, true_or, or_true, true_and, and_true, false_or, or_false, false_and, and_false, wr_id, i10, i01, upr_f, upr_eq, thr58, upm_upr, upr_upr, lc_lt, lc_gt, lc_ge, lc_le, afit1, afit0, afitI, bifit, not_true_eq_false, not_false_eq_true, if_true, if_false, Bool.false_eq_true, reduceCtorEq, k1557, k1558, g1557_2, mn]
theorem op_sameShare (hX : XX c v w a) (hv : v 18 8 ≠ 0) : ∃ f, okF f ∧ a_m 125 [a_r 18] (K0 L, v, G a, t) = some (.inl (some (a_f (f))), (K0 L, v, G a, t)) ∧ ∀ t2, a_m 269 [a_r 1557] (K0 L, w, G a, t2) = some (.inl (some (a_f f)), (K0 L, upm w 1557 0 0, G a, t2)) := by
  obtain ⟨hw, hS⟩ := XX_ld hX hv
  obtain ⟨⟨n3, n3a, n3b⟩, -⟩ := RS_n hS
  obtain ⟨C, hC⟩ := hS.1
  have cn := C_need (L := L) (a := a) (t := t) hv
  have hW : upm w 1557 0 0 1558 = w 1558 := upm_rf (by decide)
  obtain ⟨q1, q2, q3⟩ := C_share_loop (L := L) (t := t) hS hC (w 1558 3).toNat 0 0 (by decide) (by omega) (by decide)
  refine ⟨_, q2, ?_, fun t2 => ?_⟩
  · rw [← q1]
    simp (disch := first | assumption | omega) only [k18, g18_0, g18_1, g18_2, g18_3, g18_4, g18_5, g18_6, g18_7, E_X10_sameShare, B_X10_sameShare_0, B_X10_sameShare_4, B_X10_sameShare_30, B_X10_sameShare_33, Option.bind_some, back_v, Option.toList_some, Option.toList_none, List.cons_append, List.nil_append, Nat.reduceAdd, Int.reduceToNat, Int.reduceNeg, upm_eq, upm_r, upm_i, if_pos, if_neg, ite_self, true_or, or_true, true_and, and_true, false_or, or_false, false_and, and_false, wr_id, i10, i01, upr_f, upr_eq, thr58, upm_upr, upr_upr, lc_lt, lc_gt, lc_ge, lc_le, afit1, afit0, afitI, bifit, not_true_eq_false, not_false_eq_true, if_true, if_false, Bool.false_eq_true, reduceCtorEq, k1557, k1558, g1557_2, cn]
  · have mn := M_notLoaded1 (L := L) (a := a) (t := t2) (u := w) hw
    have p1 := M_share_loop (L := L) (a := a) (t := t2) (u := upm w 1557 0 0) (by rw [hW]; omega) (fun acc a0 a1 => by rw [hW]; exact (shV_ok (s := w 1558) ⟨n3a, n3b⟩ ⟨a0, a1⟩).1) (w 1558 3).toNat 0 0 (a_x false) (by decide) (by rw [hW]; omega) (by decide)
    rw [hW] at p1
    rw [← p1]
    simp (disch := first | assumption | omega) only [k1559, k1560, k1561, k1562, k1563, k1564, k1565, k1566, k1567, g1557_3, g1557_5, g1557_6, g1557_17, g1557_18, g1557_19, g1557_20, g1557_21, g1557_23, E_X11_sameShare, B_X11_sameShare_0, B_X11_sameShare_4, B_X11_sameShare_39, B_X11_sameShare_42, Option.bind_some, back_v, Option.toList_some, Option.toList_none, List.cons_append, List.nil_append, Nat.reduceAdd, Int.reduceToNat, Int.reduceNeg, upm_eq, upm_r, upm_i, if_pos, if_neg, ite_self, true_or, or_true, true_and, and_true, false_or, or_false, false_and, and_false, wr_id, i10, i01, upr_f, upr_eq, thr58, upm_upr, upr_upr, lc_lt, lc_gt, lc_ge, lc_le, afit1, afit0, afitI, bifit, not_true_eq_false, not_false_eq_true, if_true, if_false, Bool.false_eq_true, reduceCtorEq, k1557, k1558, g1557_2, mn]
theorem C_behind_loop {C : List (Nat → Int)} (hS : RS c v a 21 (w 1558)) (hC : RelC (vw v 21) (a 21) C (w 1558)) : ∀ (d : Nat) (x acc : Int), 0 ≤ x → x + d = w 1558 3 → 0 ≤ acc ∧ acc ≤ 99 * x → a_X 126 8 [a_r 18, a_i acc, a_i x] [] (K0 L, v, G a, t) = some (.inl (some (a_d (beV (w 1558) (beA (w 1558) d x acc)))), (K0 L, v, G a, t)) ∧ okD (beV (w 1558) (beA (w 1558) d x acc)) := by
  obtain ⟨⟨n3, n3a, n3b⟩, ⟨n2, n2a, n2b⟩, -⟩ := RS_n hS
  intro d
  induction d with
  | zero =>
    intro x acc x0 hx ha
    have hk := beV_ok (s := w 1558) (acc := acc) ⟨n3a, n3b⟩ (by omega)
    have hk1 := hk.1
    unfold beV at hk1
    have xn : x ≥ w 1558 3 := by omega
    refine ⟨?_, hk⟩
    unfold beV beA
    rw [B_X10_meanBehind_8]
    rw [sumW]
    simp (disch := first | assumption | omega) only [k18, g18_0, g18_1, g18_2, g18_3, g18_4, g18_5, g18_6, g18_7, kq21, kq22, kq23, kq24, kq25, kq26, kq27, kq28, kq29, kq30, kq31, kq32, kq123, gq21_0, gq21_1, gq21_2, gq21_3, gq22_0, gq22_1, gq22_2, gq22_3, gq22_4, gq22_5, gq22_6, gq31_0, gq123_j, gq32_j, kq124_l, kq125_l, kq126_l, kq127_l, gq124_2, gq124_3, gq124_4, kq33_p, kq34_p, kq35_p, gq33_6, gq33_7, B_X10_meanBehind_0, B_X10_meanBehind_4, B_X10_meanBehind_28, Option.bind_some, back_v, Option.toList_some, Option.toList_none, List.cons_append, List.nil_append, Nat.reduceAdd, Int.reduceToNat, Int.reduceNeg, upm_eq, upm_r, upm_i, if_pos, if_neg, ite_self, true_or, or_true, true_and, and_true, false_or, or_false, false_and, and_false, wr_id, i10, i01, upr_f, upr_eq, thr58, upm_upr, upr_upr, lc_lt, lc_gt, lc_ge, lc_le, afit1, afit0, afitI, bifit, not_true_eq_false, not_false_eq_true, if_true, if_false, Bool.false_eq_true, reduceCtorEq, k1557, k1558, g1557_2, n3, xn, hk1]
  | succ d ih =>
    intro x acc x0 hx ha
    have hg := (hC.2.2.2.2.2.1 x x0 (by omega)).2.2.2.2.2.2.2.2.1
    have hb : mBehind (w 1558) x = w 1558 2 - mLi (w 1558) x 11 := by unfold mBehind; exact wr_id (by omega) (by omega)
    have wa : wr (acc + mBehind (w 1558) x) = acc + mBehind (w 1558) x := wr_id (by omega) (by omega)
    have hi := ih (x + 1) (acc + mBehind (w 1558) x) (by omega) (by omega) (by omega)
    have q1 := C_numbersBehind (L := L) (t := t) (u := v) (R := 21) (l := x) (.inl rfl) hC hS.2.1 ⟨x0, by omega⟩
    have xn : ¬ x ≥ w 1558 3 := by omega
    have es : beA (w 1558) (d + 1) x acc = beA (w 1558) d (x + 1) (acc + mBehind (w 1558) x) := by unfold beA; rw [sumW, wa]
    rw [es]
    refine ⟨?_, hi.2⟩
    rw [← hi.1]
    have wx : wr (x + 1) = x + 1 := wr_id (by omega) (by omega)
    rw [B_X10_meanBehind_8]
    simp (disch := first | assumption | omega) only [k18, g18_0, g18_1, g18_2, g18_3, g18_4, g18_5, g18_6, g18_7, kq21, kq22, kq23, kq24, kq25, kq26, kq27, kq28, kq29, kq30, kq31, kq32, kq123, gq21_0, gq21_1, gq21_2, gq21_3, gq22_0, gq22_1, gq22_2, gq22_3, gq22_4, gq22_5, gq22_6, gq31_0, gq123_j, gq32_j, kq124_l, kq125_l, kq126_l, kq127_l, gq124_2, gq124_3, gq124_4, kq33_p, kq34_p, kq35_p, gq33_6, gq33_7, B_X10_meanBehind_0, B_X10_meanBehind_4, B_X10_meanBehind_28, Option.bind_some, back_v, Option.toList_some, Option.toList_none, List.cons_append, List.nil_append, Nat.reduceAdd, Int.reduceToNat, Int.reduceNeg, upm_eq, upm_r, upm_i, if_pos, if_neg, ite_self, true_or, or_true, true_and, and_true, false_or, or_false, false_and, and_false, wr_id, i10, i01, upr_f, upr_eq, thr58, upm_upr, upr_upr, lc_lt, lc_gt, lc_ge, lc_le, afit1, afit0, afitI, bifit, not_true_eq_false, not_false_eq_true, if_true, if_false, Bool.false_eq_true, reduceCtorEq, k1557, k1558, g1557_2, n3, xn, q1, wx, wa]
theorem M_behind_loop {u : Nat → Nat → Int} (h3 : 1 ≤ u 1558 3 ∧ u 1558 3 ≤ 6) (hb : ∀ l, 0 ≤ l → l < u 1558 3 → 0 ≤ mBehind (u 1558) l ∧ mBehind (u 1558) l ≤ 99) : ∀ (d : Nat) (x acc : Int), 0 ≤ x → x + d = u 1558 3 → 0 ≤ acc ∧ acc ≤ 99 * x → a_X 270 13 [a_r 1557, a_i acc, a_i x] [] (K0 L, u, G a, t) = some (.inl (some (a_d (beV (u 1558) (beA (u 1558) d x acc)))), (K0 L, u, G a, t)) := by
  intro d
  induction d with
  | zero =>
    intro x acc x0 hx ha
    have hk1 := (beV_ok (s := u 1558) (acc := acc) h3 (by omega)).1
    unfold beV at hk1
    have xn : x ≥ u 1558 3 := by omega
    unfold beV beA
    rw [B_X11_meanBehind_13, sumW]
    simp (disch := first | assumption | omega) only [k1559, k1560, k1561, k1562, k1563, k1564, k1565, k1566, k1567, g1557_3, g1557_5, g1557_6, g1557_17, g1557_18, g1557_19, g1557_20, g1557_21, g1557_23, B_X11_meanBehind_0, B_X11_meanBehind_4, B_X11_meanBehind_29, Option.bind_some, back_v, Option.toList_some, Option.toList_none, List.cons_append, List.nil_append, Nat.reduceAdd, Int.reduceToNat, Int.reduceNeg, upm_eq, upm_r, upm_i, if_pos, if_neg, ite_self, true_or, or_true, true_and, and_true, false_or, or_false, false_and, and_false, wr_id, i10, i01, upr_f, upr_eq, thr58, upm_upr, upr_upr, lc_lt, lc_gt, lc_ge, lc_le, afit1, afit0, afitI, bifit, not_true_eq_false, not_false_eq_true, if_true, if_false, Bool.false_eq_true, reduceCtorEq, k1557, k1558, g1557_2, xn, hk1, Int.reduceToNat]
  | succ d ih =>
    intro x acc x0 hx ha
    have hbx := hb x x0 (by omega)
    have wa : wr (acc + mBehind (u 1558) x) = acc + mBehind (u 1558) x := wr_id (by omega) (by omega)
    have hi := ih (x + 1) (acc + mBehind (u 1558) x) (by omega) (by omega) (by omega)
    have xn : ¬ x ≥ u 1558 3 := by omega
    have es : beA (u 1558) (d + 1) x acc = beA (u 1558) d (x + 1) (acc + mBehind (u 1558) x) := by unfold beA; rw [sumW, wa]
    have p1 := M_behindOf (L := L) (u := u) (a := a) (t := t) (l := x) (by omega)
    have wx : wr (x + 1) = x + 1 := wr_id (by omega) (by omega)
    rw [es, ← hi, B_X11_meanBehind_13]
    simp (disch := first | assumption | omega) only [k1559, k1560, k1561, k1562, k1563, k1564, k1565, k1566, k1567, g1557_3, g1557_5, g1557_6, g1557_17, g1557_18, g1557_19, g1557_20, g1557_21, g1557_23, Option.bind_some, back_v, Option.toList_some, Option.toList_none, List.cons_append, List.nil_append, Nat.reduceAdd, Int.reduceToNat, Int.reduceNeg, upm_eq, upm_r, upm_i, if_pos, if_neg, ite_self, true_or, or_true, true_and, and_true, false_or, or_false, false_and, and_false, wr_id, i10, i01, upr_f, upr_eq, thr58, upm_upr, upr_upr, lc_lt, lc_gt, lc_ge, lc_le, afit1, afit0, afitI, bifit, not_true_eq_false, not_false_eq_true, if_true, if_false, Bool.false_eq_true, reduceCtorEq, k1557, k1558, g1557_2, xn, p1, B_X11_meanBehind_29, wx, wa]
theorem op_meanBehind0 (hX : XX c v w a) (hv : v 18 8 = 0) : a_m 126 [a_r 18] (K0 L, v, G a, t) = some (.inr 1, (K0 L, v, G a, (t.1, t.2.1 + 1, t.2.2 + 6))) ∧ a_m 270 [a_r 1557] (K0 L, w, G a, t) = some (.inl (some (a_d (0))), (K0 L, upm w 1557 0 1, G a, t)) := by
  have be := fun pc len e ls st σ => pub_e (m := 126) (pc := pc) (len := len) (e := e) (ls := ls) (st := st) (σ := σ) (by decide)
  have cn := C_need_bad (L := L) (a := a) (t := t) hv
  have mn := M_notLoaded0 (L := L) (a := a) (t := t) (u := w) (XX_ld0 hX hv)
  refine ⟨?_, ?_⟩
  · simp (disch := first | assumption | omega) only [k18, g18_0, g18_1, g18_2, g18_3, g18_4, g18_5, g18_6, g18_7, E_X10_meanBehind, B_X10_meanBehind_0, B_X10_meanBehind_4, B_X10_meanBehind_28, Option.bind_some, back_v, Option.toList_some, Option.toList_none, List.cons_append, List.nil_append, Nat.reduceAdd, Int.reduceToNat, Int.reduceNeg, upm_eq, upm_r, upm_i, if_pos, if_neg, ite_self, true_or, or_true, true_and, and_true, false_or, or_false, false_and, and_false, wr_id, i10, i01, upr_f, upr_eq, thr58, upm_upr, upr_upr, lc_lt, lc_gt, lc_ge, lc_le, afit1, afit0, afitI, bifit, not_true_eq_false, not_false_eq_true, if_true, if_false, Bool.false_eq_true, reduceCtorEq, k1557, k1558, g1557_2, cn, be]
  · simp (disch := first | assumption | omega) only [E_X11_meanBehind, B_X11_meanBehind_0, B_X11_meanBehind_4, B_X11_meanBehind_29, Option.bind_some, back_v, Option.toList_some, Option.toList_none, List.cons_append, List.nil_append, Nat.reduceAdd, Int.reduceToNat, Int.reduceNeg, upm_eq, upm_r, upm_i, if_pos, if_neg, ite_self, true_or, or_true, true_and, and_true, false_or, or_false, false_and, and_false, wr_id, i10, i01, upr_f, upr_eq, thr58, upm_upr, upr_upr, lc_lt, lc_gt, lc_ge, lc_le, afit1, afit0, afitI, bifit, not_true_eq_false, not_false_eq_true, if_true, if_false, Bool.false_eq_true, reduceCtorEq, k1557, k1558, g1557_2, mn]
theorem op_meanBehind (hX : XX c v w a) (hv : v 18 8 ≠ 0) : ∃ f, okD f ∧ a_m 126 [a_r 18] (K0 L, v, G a, t) = some (.inl (some (a_d (f))), (K0 L, v, G a, t)) ∧ ∀ t2, a_m 270 [a_r 1557] (K0 L, w, G a, t2) = some (.inl (some (a_d f)), (K0 L, upm w 1557 0 0, G a, t2)) := by
  obtain ⟨hw, hS⟩ := XX_ld hX hv
  obtain ⟨⟨n3, n3a, n3b⟩, ⟨n2, n2a, n2b⟩, -⟩ := RS_n hS
  obtain ⟨C, hC⟩ := hS.1
  have cn := C_need (L := L) (a := a) (t := t) hv
  have hW : upm w 1557 0 0 1558 = w 1558 := upm_rf (by decide)
  obtain ⟨q1, q2⟩ := C_behind_loop (L := L) (t := t) hS hC (w 1558 3).toNat 0 0 (by decide) (by omega) (by decide)
  refine ⟨_, q2, ?_, fun t2 => ?_⟩
  · rw [← q1]
    simp (disch := first | assumption | omega) only [k18, g18_0, g18_1, g18_2, g18_3, g18_4, g18_5, g18_6, g18_7, E_X10_meanBehind, B_X10_meanBehind_0, B_X10_meanBehind_4, B_X10_meanBehind_28, Option.bind_some, back_v, Option.toList_some, Option.toList_none, List.cons_append, List.nil_append, Nat.reduceAdd, Int.reduceToNat, Int.reduceNeg, upm_eq, upm_r, upm_i, if_pos, if_neg, ite_self, true_or, or_true, true_and, and_true, false_or, or_false, false_and, and_false, wr_id, i10, i01, upr_f, upr_eq, thr58, upm_upr, upr_upr, lc_lt, lc_gt, lc_ge, lc_le, afit1, afit0, afitI, bifit, not_true_eq_false, not_false_eq_true, if_true, if_false, Bool.false_eq_true, reduceCtorEq, k1557, k1558, g1557_2, cn]
  · have mn := M_notLoaded1 (L := L) (a := a) (t := t2) (u := w) hw
    have p1 := M_behind_loop (L := L) (a := a) (t := t2) (u := upm w 1557 0 0) (by rw [hW]; omega) (fun l l0 l1 => by
      rw [hW] at l1 ⊢
      have hg := (hC.2.2.2.2.2.1 l l0 l1).2.2.2.2.2.2.2.2.1
      have hb : mBehind (w 1558) l = w 1558 2 - mLi (w 1558) l 11 := by unfold mBehind; exact wr_id (by omega) (by omega)
      omega) (w 1558 3).toNat 0 0 (by decide) (by rw [hW]; omega) (by decide)
    rw [hW] at p1
    rw [← p1]
    simp (disch := first | assumption | omega) only [k1559, k1560, k1561, k1562, k1563, k1564, k1565, k1566, k1567, g1557_3, g1557_5, g1557_6, g1557_17, g1557_18, g1557_19, g1557_20, g1557_21, g1557_23, E_X11_meanBehind, B_X11_meanBehind_0, B_X11_meanBehind_4, B_X11_meanBehind_29, Option.bind_some, back_v, Option.toList_some, Option.toList_none, List.cons_append, List.nil_append, Nat.reduceAdd, Int.reduceToNat, Int.reduceNeg, upm_eq, upm_r, upm_i, if_pos, if_neg, ite_self, true_or, or_true, true_and, and_true, false_or, or_false, false_and, and_false, wr_id, i10, i01, upr_f, upr_eq, thr58, upm_upr, upr_upr, lc_lt, lc_gt, lc_ge, lc_le, afit1, afit0, afitI, bifit, not_true_eq_false, not_false_eq_true, if_true, if_false, Bool.false_eq_true, reduceCtorEq, k1557, k1558, g1557_2, mn]
end AS6
