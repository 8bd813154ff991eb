/-! ===== questions: counts, numbers, what is on the air, listeners ===== -/
theorem mMissing_more {p : Int → Bool} {e : Nat} : ∀ (d : Nat) (x left : Int), (∀ i, x + d ≤ i → p i = false) → mMissing (d + e) x left p = mMissing d x left p := by
  intro d
  induction d with
  | zero => intro x left h; rw [Nat.zero_add, mMissing_none e x left (fun i hi => h i (by omega))]; rfl
  | succ d ih =>
    intro x left h
    rw [Nat.add_right_comm, mMissing, mMissing, ih (x + 1) _ (fun i hi => h i (by omega))]
theorem itA_rng {f : Int → Int → Int} {m : Int} : ∀ (d : Nat) (x acc : Int), 0 ≤ acc → (∀ k y, 0 ≤ y → y ≤ acc + m * d → 0 ≤ m → y ≤ f k y ∧ f k y ≤ y + m) → 0 ≤ m → 0 ≤ itA d x acc f := by
  intro d
  induction d with
  | zero => intro x acc a0 _ _; exact a0
  | succ d ih =>
    intro x acc a0 h m0
    have hm : m * ((d + 1 : Nat) : Int) = m * d + m := by rw [show ((d + 1 : Nat) : Int) = (d : Int) + 1 from by omega, Int.mul_add, Int.mul_one]
    have h0 : 0 ≤ m * (d : Int) := Int.mul_nonneg m0 (by omega)
    have h1 := h x acc a0 (by omega) m0
    rw [itA]
    exact ih (x + 1) _ (by omega) (fun k y y0 y1 _ => h k y y0 (by omega) m0) m0
theorem mWrong_nn {s : Nat → Int} {l : Int} : 0 ≤ mWrong s l := by
  unfold mWrong
  split
  · exact Int.le_refl _
  · refine itA_rng (m := 1440) 7 0 0 (Int.le_refl _) (fun k y y0 y1 _ => ?_) (by decide)
    unfold mWrongDay
    have hb : ∀ i, 0 ≤ i → i < (0 : Int) + ((1440 : Nat) : Int) → 0 ≤ bi (!decide (mStands s l k i = mStands s (-1) k i)) ∧ bi (!decide (mStands s l k i = mStands s (-1) k i)) ≤ 1 := fun i _ _ => ⟨bi_lo, bi_hi⟩
    have hr := ps_rng (f := fun i => bi (!decide (mStands s l k i = mStands s (-1) k i))) (c := 1) 1440 0 hb
    rw [sumW_ps 1440 0 y y0 (by omega) hb]
    omega
theorem anyW_char {p : Int → Bool} : ∀ (d : Nat) (x : Int), anyW d x p = true ↔ ∃ i, x ≤ i ∧ i < x + d ∧ p i = true := by
  intro d
  induction d with
  | zero => intro x; constructor
            · intro h; cases h
            · rintro ⟨i, i0, i1, -⟩; omega
  | succ d ih =>
    intro x
    rw [anyW, Bool.or_eq_true, ih (x + 1)]
    constructor
    · rintro (h | ⟨i, i0, i1, h⟩)
      · exact ⟨x, Int.le_refl _, by omega, h⟩
      · exact ⟨i, by omega, by omega, h⟩
    · rintro ⟨i, i0, i1, h⟩
      by_cases hx : i = x
      · exact .inl (by rw [← hx]; exact h)
      · exact .inr ⟨i, by omega, by omega, h⟩
section AS2
variable {L : Nat}
section AIC
variable {u : Nat → Nat → Int} {a : Nat → Nat → Nat} {t : Nat × Nat × Nat} {R : Nat} {C : List (Nat → Int)} {s : Nat → Int} {c : Int}
theorem sg_slot {v : Nat → Nat → Int} {B : Nat} {x : Nat → Int} (h : sgR v s B x) (hc : corR v s) : (v B 1 = -1) ↔ x 0 = 1 := by
  obtain ⟨a1, a2, a3, a4, a5, a6, a7, a8, a9, a10, a11, a12⟩ := h
  rw [a2]
  by_cases h1 : x 0 = 1
  · rw [if_pos h1]; exact ⟨fun _ => h1, fun _ => rfl⟩
  · rw [if_neg h1]
    have := (hc (x 1) (a11 (by omega)) a10.2).1
    exact ⟨fun h => by omega, fun h => absurd h h1⟩
theorem C_whole1 {p : Nat} (hR : isRad R) (h : RelC (vw u R) (a R) C s) (hM : MI c s) (hp : p < C.length) : a_m 69 [a_r (R + 12 + 3 * a R p)] (K0 L, u, G a, t) = some (.inl (some (a_i (bi (decide (C[p] 0 = 1))))), (K0 L, u, G a, t)) := by
  obtain ⟨g1, g2, g3, g4, g5, g6, g7⟩ := air_facts h hM
  have hb := g1 p (by omega)
  have hk := kRs0 (L := L) (R := R) (p := a R p) hR hb
  have hs := sg_slot (g7 p hp) h.2.2.1
  rw [← vw_s0 u hb] at hs
  rw [C_isWhole hk, decide_eq_decide.mpr hs]
theorem C_wholeLists_loop (hR : isRad R) (h : RelC (vw u R) (a R) C s) (hM : MI c s) : ∀ (d : Nat) (x : Nat) (acc : Int), x + d = C.length → i32 acc → a_X 8 4 [a_r (R + 10), a_i acc, a_i (x : Int)] [] (K0 L, u, G a, t) = some (.inl (some (a_i (sumW d x acc (fun i => bi (decide ((C.getD i.toNat (fun _ => 0)) 0 = 1)))))), (K0 L, u, G a, t)) := by
  obtain ⟨g1, g2, g3, g4, g5, g6, g7⟩ := air_facts h hM
  intro d
  induction d with
  | zero => intro x acc hx ha; rw [B_X0_wholeLists_4]; simp (disch := first | assumption | omega) only [kR0, kR9, kR10, kR11, kR102, gR0_0, gR0_1, gR0_2, gR0_3, gR10_0, gR11, gR102, B_X0_wholeLists_0, B_X0_wholeLists_21, Option.bind_some, back_v, Option.toList_some, Option.toList_none, List.cons_append, List.nil_append, Nat.reduceAdd, Int.reduceToNat, Int.reduceNeg, upm_eq, upm_r, upm_i, if_pos, if_neg, ite_self, true_or, or_true, true_and, and_true, false_or, or_false, false_and, and_false, wr_id, i10, i01, upr_f, upr_eq, thr58, upm_upr, upr_upr, lc_lt, lc_gt, lc_ge, lc_le, afit1, afit0, afitI, bifit, not_true_eq_false, not_false_eq_true, if_true, if_false, Bool.false_eq_true, reduceCtorEq, k1557, k1558, g1557_2, g6, sumW]
  | succ d ih =>
    intro x acc hx ha
    have hxl : x < C.length := by omega
    have hb := g1 x (by omega)
    have hw := C_whole1 (L := L) (t := t) hR h hM hxl
    have hx2 : ¬ (x : Int) ≥ C.length := by omega
    have x30 : x < 30 := by omega
    have hgd : C.getD ((x : Int)).toNat (fun _ => 0) = C[x] := by rw [Int.toNat_natCast, List.getD_eq_getElem?_getD, List.getElem?_eq_getElem hxl]; rfl
    have hi := ih (x + 1)
    rw [show ((x + 1 : Nat) : Int) = (x : Int) + 1 from by omega] at hi
    rw [sumW]
    simp only [hgd]
    rw [B_X0_wholeLists_4]
    cases hc : decide (C[x] 0 = 1) with
    | true => rw [hc] at hw; simp (disch := first | assumption | omega) only [kR0, kR9, kR10, kR11, kR102, gR0_0, gR0_1, gR0_2, gR0_3, gR10_0, gR11, gR102, kRs0, kRs1, kRs2, gRs_6, gRs_7, B_X0_wholeLists_0, B_X0_wholeLists_21, Option.bind_some, back_v, Option.toList_some, Option.toList_none, List.cons_append, List.nil_append, Nat.reduceAdd, Int.reduceToNat, Int.reduceNeg, upm_eq, upm_r, upm_i, if_pos, if_neg, ite_self, true_or, or_true, true_and, and_true, false_or, or_false, false_and, and_false, wr_id, i10, i01, upr_f, upr_eq, thr58, upm_upr, upr_upr, lc_lt, lc_gt, lc_ge, lc_le, afit1, afit0, afitI, bifit, not_true_eq_false, not_false_eq_true, if_true, if_false, Bool.false_eq_true, reduceCtorEq, k1557, k1558, g1557_2, g6, hx2, hw, bi_t, Int.toNat_natCast]; exact hi _ (by omega) i32_wr
    | false => rw [hc] at hw; simp (disch := first | assumption | omega) only [kR0, kR9, kR10, kR11, kR102, gR0_0, gR0_1, gR0_2, gR0_3, gR10_0, gR11, gR102, kRs0, kRs1, kRs2, gRs_6, gRs_7, B_X0_wholeLists_0, B_X0_wholeLists_21, Option.bind_some, back_v, Option.toList_some, Option.toList_none, List.cons_append, List.nil_append, Nat.reduceAdd, Int.reduceToNat, Int.reduceNeg, upm_eq, upm_r, upm_i, if_pos, if_neg, ite_self, true_or, or_true, true_and, and_true, false_or, or_false, false_and, and_false, wr_id, i10, i01, upr_f, upr_eq, thr58, upm_upr, upr_upr, lc_lt, lc_gt, lc_ge, lc_le, afit1, afit0, afitI, bifit, not_true_eq_false, not_false_eq_true, if_true, if_false, Bool.false_eq_true, reduceCtorEq, k1557, k1558, g1557_2, g6, hx2, hw, bi_f, Int.toNat_natCast, wr_0 ha]; exact hi _ (by omega) ha
theorem airs_cnt {w : Int} (h : RelC (vw u R) (a R) C s) (hM : MI c s) : mOnAir s w = (C.countP (fun b => decide (b 0 = w)) : Nat) := by
  obtain ⟨g1, g2, g3, g4, g5, g6, g7⟩ := air_facts h hM
  have hs := sumW_cnt (p := fun b => decide (b 0 = w)) (f := fun i => bi (decide (mAi s i 0 = w))) (airL s) 0 0 (by decide) (by rw [airL_len]; omega) (fun j hj => by
    show bi (decide (mAi s (0 + (j : Int)) 0 = w)) = _
    rw [Int.zero_add, mAi_blk (by omega) (by decide), airL_get, Int.toNat_natCast]; rfl)
  rw [airL_len, Int.zero_add] at hs
  unfold mOnAir
  rw [hs, g2.countP_eq]
theorem C_wholeLists (hR : isRad R) (h : RelC (vw u R) (a R) C s) (hM : MI c s) : a_m 8 [a_r (R + 10)] (K0 L, u, G a, t) = some (.inl (some (a_i (mOnAir s 1))), (K0 L, u, G a, t)) := by
  have g5 := (air_facts h hM).2.2.2.2.1
  have hs := sumW_cnt (p := fun b => decide (b 0 = 1)) (f := fun i => bi (decide ((C.getD i.toNat (fun _ => 0)) 0 = 1))) C 0 0 (by decide) (by omega) (fun j hj => by
    show bi (decide ((C.getD (0 + (j : Int)).toNat (fun _ => 0)) 0 = 1)) = _
    rw [Int.zero_add, Int.toNat_natCast, List.getD_eq_getElem?_getD, List.getElem?_eq_getElem hj]; rfl)
  rw [Int.zero_add] at hs
  have key := C_wholeLists_loop (L := L) (t := t) hR h hM C.length 0 0 (by omega) ⟨by decide, by decide⟩
  rw [airs_cnt h hM, ← hs]
  refine Eq.trans ?_ key
  simp (disch := first | assumption | omega) only [E_X0_wholeLists, B_X0_wholeLists_0, B_X0_wholeLists_21, Option.bind_some, back_v, Option.toList_some, Option.toList_none, List.cons_append, List.nil_append, Nat.reduceAdd, Int.reduceToNat, Int.reduceNeg, upm_eq, upm_r, upm_i, if_pos, if_neg, ite_self, true_or, or_true, true_and, and_true, false_or, or_false, false_and, and_false, wr_id, i10, i01, upr_f, upr_eq, thr58, upm_upr, upr_upr, lc_lt, lc_gt, lc_ge, lc_le, afit1, afit0, afitI, bifit, not_true_eq_false, not_false_eq_true, if_true, if_false, Bool.false_eq_true, reduceCtorEq, k1557, k1558, g1557_2]
  rfl
theorem airs_both (h : RelC (vw u R) (a R) C s) (hM : MI c s) : s 4 - mOnAir s 1 = mOnAir s 0 := by
  obtain ⟨g1, g2, g3, g4, g5, g6, g7⟩ := air_facts h hM
  rw [airs_cnt h hM, airs_cnt h hM]
  have h1 := List.length_eq_countP_add_countP (fun b : Nat → Int => decide (b 0 = 1)) (l := C)
  have h2 : C.countP (fun b => !decide (b 0 = 1)) = C.countP (fun b => decide (b 0 = 0)) := List.countP_congr fun b hb => by
    obtain ⟨p, hp, rfl⟩ := List.mem_iff_getElem.mp hb
    have h01 := (g7 p hp).2.2.2.2.2.2.2.2.1
    simp only [Bool.not_eq_true', decide_eq_false_iff_not, decide_eq_true_eq]
    omega
  rw [← h2]
  have h3 : C.countP (fun b => !decide (b 0 = 1)) = C.countP (fun b => decide ¬ (decide (b 0 = 1)) = true) := List.countP_congr fun b _ => by simp
  rw [h3]
  omega
theorem C_hasCor_loop {n : Int} (hR : isRad R) (h : RelC (vw u R) (a R) C s) (hM : MI c s) : ∀ (d : Nat) (x : Nat), x + d = C.length → a_X 9 2 [a_r (R + 10), a_i n, a_i (x : Int)] [] (K0 L, u, G a, t) = some (.inl (some (a_i (bi ((C.drop x).any (fun b => !decide (b 0 = 1) && decide (b 1 = n)))))), (K0 L, u, G a, t)) := by
  obtain ⟨g1, g2, g3, g4, g5, g6, g7⟩ := air_facts h hM
  intro d
  induction d with
  | zero =>
    intro x hx
    have : C.drop x = [] := List.drop_eq_nil_of_le (by omega)
    rw [this]
    rw [B_X0_hasCorrection_2]; simp (disch := first | assumption | omega) only [kR0, kR9, kR10, kR11, kR102, gR0_0, gR0_1, gR0_2, gR0_3, gR10_0, gR11, gR102, B_X0_hasCorrection_0, B_X0_hasCorrection_19, Option.bind_some, back_v, Option.toList_some, Option.toList_none, List.cons_append, List.nil_append, Nat.reduceAdd, Int.reduceToNat, Int.reduceNeg, upm_eq, upm_r, upm_i, if_pos, if_neg, ite_self, true_or, or_true, true_and, and_true, false_or, or_false, false_and, and_false, wr_id, i10, i01, upr_f, upr_eq, thr58, upm_upr, upr_upr, lc_lt, lc_gt, lc_ge, lc_le, afit1, afit0, afitI, bifit, not_true_eq_false, not_false_eq_true, if_true, if_false, Bool.false_eq_true, reduceCtorEq, k1557, k1558, g1557_2, g6, List.any_nil, bi_f]
  | succ d ih =>
    intro x hx
    have hxl : x < C.length := by omega
    have hb := g1 x (by omega)
    have hw := C_whole1 (L := L) (t := t) hR h hM hxl
    have hx2 : ¬ (x : Int) ≥ C.length := by omega
    have x30 : x < 30 := by omega
    have hi := ih (x + 1) (by omega)
    have hn := (g7 x hxl).1
    rw [← vw_s0 u hb] at hn
    rw [show ((x + 1 : Nat) : Int) = (x : Int) + 1 from by omega] at hi
    rw [List.drop_eq_getElem_cons hxl, List.any_cons]
    rw [B_X0_hasCorrection_2]
    cases hc : decide (C[x] 0 = 1) with
    | true => rw [hc] at hw; simp (disch := first | assumption | omega) only [kR0, kR9, kR10, kR11, kR102, gR0_0, gR0_1, gR0_2, gR0_3, gR10_0, gR11, gR102, kRs0, kRs1, kRs2, gRs_6, gRs_7, B_X0_hasCorrection_0, B_X0_hasCorrection_19, Option.bind_some, back_v, Option.toList_some, Option.toList_none, List.cons_append, List.nil_append, Nat.reduceAdd, Int.reduceToNat, Int.reduceNeg, upm_eq, upm_r, upm_i, if_pos, if_neg, ite_self, true_or, or_true, true_and, and_true, false_or, or_false, false_and, and_false, wr_id, i10, i01, upr_f, upr_eq, thr58, upm_upr, upr_upr, lc_lt, lc_gt, lc_ge, lc_le, afit1, afit0, afitI, bifit, not_true_eq_false, not_false_eq_true, if_true, if_false, Bool.false_eq_true, reduceCtorEq, k1557, k1558, g1557_2, g6, hx2, hw, bi_t, Int.toNat_natCast, Bool.not_true, Bool.false_and, Bool.false_or]; exact hi
    | false =>
      rw [hc] at hw
      by_cases hq : C[x] 1 = n
      · simp (disch := first | assumption | omega) only [kR0, kR9, kR10, kR11, kR102, gR0_0, gR0_1, gR0_2, gR0_3, gR10_0, gR11, gR102, kRs0, kRs1, kRs2, gRs_6, gRs_7, B_X0_hasCorrection_0, B_X0_hasCorrection_19, Option.bind_some, back_v, Option.toList_some, Option.toList_none, List.cons_append, List.nil_append, Nat.reduceAdd, Int.reduceToNat, Int.reduceNeg, upm_eq, upm_r, upm_i, if_pos, if_neg, ite_self, true_or, or_true, true_and, and_true, false_or, or_false, false_and, and_false, wr_id, i10, i01, upr_f, upr_eq, thr58, upm_upr, upr_upr, lc_lt, lc_gt, lc_ge, lc_le, afit1, afit0, afitI, bifit, not_true_eq_false, not_false_eq_true, if_true, if_false, Bool.false_eq_true, reduceCtorEq, k1557, k1558, g1557_2, g6, hx2, hw, bi_f, Int.toNat_natCast, Bool.not_false, Bool.true_and, hn, hq, decide_true, Bool.true_or, bi_t]
      · simp (disch := first | assumption | omega) only [kR0, kR9, kR10, kR11, kR102, gR0_0, gR0_1, gR0_2, gR0_3, gR10_0, gR11, gR102, kRs0, kRs1, kRs2, gRs_6, gRs_7, B_X0_hasCorrection_0, B_X0_hasCorrection_19, Option.bind_some, back_v, Option.toList_some, Option.toList_none, List.cons_append, List.nil_append, Nat.reduceAdd, Int.reduceToNat, Int.reduceNeg, upm_eq, upm_r, upm_i, if_pos, if_neg, ite_self, true_or, or_true, true_and, and_true, false_or, or_false, false_and, and_false, wr_id, i10, i01, upr_f, upr_eq, thr58, upm_upr, upr_upr, lc_lt, lc_gt, lc_ge, lc_le, afit1, afit0, afitI, bifit, not_true_eq_false, not_false_eq_true, if_true, if_false, Bool.false_eq_true, reduceCtorEq, k1557, k1558, g1557_2, g6, hx2, hw, bi_f, Int.toNat_natCast, Bool.not_false, Bool.true_and, hn, hq, decide_false, Bool.false_or]; exact hi
theorem C_hasCor {n : Int} (hR : isRad R) (h : RelC (vw u R) (a R) C s) (hM : MI c s) : a_m 9 [a_r (R + 10), a_i n] (K0 L, u, G a, t) = some (.inl (some (a_i (bi (mIsOnAir s n)))), (K0 L, u, G a, t)) := by
  obtain ⟨g1, g2, g3, g4, g5, g6, g7⟩ := air_facts h hM
  have e : C.any (fun b => !decide (b 0 = 1) && decide (b 1 = n)) = mIsOnAir s n := by
    unfold mIsOnAir
    rw [Bool.eq_iff_iff, List.any_eq_true, anyW_char]
    constructor
    · rintro ⟨b, hb, hq⟩
      obtain ⟨p, hp, rfl⟩ := List.mem_iff_getElem.mp hb
      have h01 := (g7 p hp).2.2.2.2.2.2.2.2.1
      obtain ⟨i, i0, i4, hbi⟩ := airL_of (g2.mem_iff.mp hb)
      simp only [Bool.and_eq_true, Bool.not_eq_true', decide_eq_false_iff_not, decide_eq_true_eq] at hq
      refine ⟨i, i0, by omega, ?_⟩
      rw [mAi_blk i0 (by decide), mAi_blk i0 (by decide), ← hbi]
      simp only [Bool.and_eq_true, decide_eq_true_eq]
      exact ⟨by have := hq.1; rw [show (0 : Int).toNat = 0 from rfl]; omega, hq.2⟩
    · rintro ⟨i, i0, i4, hq⟩
      refine ⟨blk s i.toNat, g2.mem_iff.mpr (airL_mem i0 (by omega)), ?_⟩
      rw [mAi_blk i0 (by decide), mAi_blk i0 (by decide)] at hq
      simp only [Bool.and_eq_true, decide_eq_true_eq, Bool.not_eq_true', decide_eq_false_iff_not] at hq ⊢
      rw [show (0 : Int).toNat = 0 from rfl, show (1 : Int).toNat = 1 from rfl] at hq
      exact ⟨by rw [hq.1]; decide, hq.2⟩
  have key := C_hasCor_loop (L := L) (t := t) (n := n) hR h hM C.length 0 (by omega)
  rw [List.drop_zero, e] at key
  rw [← key]
  simp (disch := first | assumption | omega) only [E_X0_hasCorrection, B_X0_hasCorrection_0, B_X0_hasCorrection_19, Option.bind_some, back_v, Option.toList_some, Option.toList_none, List.cons_append, List.nil_append, Nat.reduceAdd, Int.reduceToNat, Int.reduceNeg, upm_eq, upm_r, upm_i, if_pos, if_neg, ite_self, true_or, or_true, true_and, and_true, false_or, or_false, false_and, and_false, wr_id, i10, i01, upr_f, upr_eq, thr58, upm_upr, upr_upr, lc_lt, lc_gt, lc_ge, lc_le, afit1, afit0, afitI, bifit, not_true_eq_false, not_false_eq_true, if_true, if_false, Bool.false_eq_true, reduceCtorEq, k1557, k1558, g1557_2]
  rfl
theorem C_still {p : Nat} (hR : isRad R) (h : RelC (vw u R) (a R) C s) (hM : MI c s) (hp : p < C.length) : a_m 72 [a_r (R + 12 + 3 * a R p), a_i (s 3), a_i (s 1)] (K0 L, u, G a, t) = some (.inl (some (a_i (bStill (s 3).toNat (s 1) C[p]))), (K0 L, u, G a, t)) := by
  obtain ⟨g1, g2, g3, g4, g5, g6, g7⟩ := air_facts h hM
  have hb := g1 p (by omega)
  have h3 := hM.2.2.2.1
  have a7 := (g7 p hp).2.2.2.2.2.2.1
  have loop : ∀ (d : Nat) (x acc : Int), 0 ≤ x → x + d = s 3 → i32 acc → a_X 72 5 [a_r (R + 12 + 3 * a R p), a_i (s 3), a_i (s 1), a_i acc, a_i x] [] (K0 L, u, G a, t) = some (.inl (some (a_i (bitW d x acc (fun l => decide (s 1 < C[p] (5 + l).toNat))))), (K0 L, u, G a, t)) := by
    intro d
    induction d with
    | zero => intro x acc x0 hx ha; rw [B_X6_stillToHear_5]; simp (disch := first | assumption | omega) only [B_X6_stillToHear_0, Option.bind_some, back_v, Option.toList_some, Option.toList_none, List.cons_append, List.nil_append, Nat.reduceAdd, Int.reduceToNat, Int.reduceNeg, upm_eq, upm_r, upm_i, if_pos, if_neg, ite_self, true_or, or_true, true_and, and_true, false_or, or_false, false_and, and_false, wr_id, i10, i01, upr_f, upr_eq, thr58, upm_upr, upr_upr, lc_lt, lc_gt, lc_ge, lc_le, afit1, afit0, afitI, bifit, not_true_eq_false, not_false_eq_true, if_true, if_false, Bool.false_eq_true, reduceCtorEq, k1557, k1558, g1557_2, bitW]
    | succ d ih =>
      intro x acc x0 hx ha
      have hd := (a7 x x0 (by omega)).1
      rw [← vw_s1 u hb] at hd
      have xn : ¬ x ≥ s 3 := by omega
      have x6 : x < ((6 : Nat) : Int) := by omega
      rw [bitW]
      rw [B_X6_stillToHear_5]
      by_cases hc : s 1 < C[p] (5 + x).toNat
      · have hc' : ¬ C[p] (5 + x).toNat ≤ s 1 := by omega
        rw [decide_eq_true hc, bi_t]
        simp (disch := first | assumption | omega) only [kRs0, kRs1, kRs2, gRs_6, gRs_7, B_X6_stillToHear_0, Option.bind_some, back_v, Option.toList_some, Option.toList_none, List.cons_append, List.nil_append, Nat.reduceAdd, Int.reduceToNat, Int.reduceNeg, upm_eq, upm_r, upm_i, if_pos, if_neg, ite_self, true_or, or_true, true_and, and_true, false_or, or_false, false_and, and_false, wr_id, i10, i01, upr_f, upr_eq, thr58, upm_upr, upr_upr, lc_lt, lc_gt, lc_ge, lc_le, afit1, afit0, afitI, bifit, not_true_eq_false, not_false_eq_true, if_true, if_false, Bool.false_eq_true, reduceCtorEq, k1557, k1558, g1557_2, xn, hd, hc']
        exact ih _ _ (by omega) (by omega) zor_rng
      · have hc' : C[p] (5 + x).toNat ≤ s 1 := by omega
        rw [decide_eq_false hc, bi_f, zshl0, zor0 ha]
        simp (disch := first | assumption | omega) only [kRs0, kRs1, kRs2, gRs_6, gRs_7, B_X6_stillToHear_0, Option.bind_some, back_v, Option.toList_some, Option.toList_none, List.cons_append, List.nil_append, Nat.reduceAdd, Int.reduceToNat, Int.reduceNeg, upm_eq, upm_r, upm_i, if_pos, if_neg, ite_self, true_or, or_true, true_and, and_true, false_or, or_false, false_and, and_false, wr_id, i10, i01, upr_f, upr_eq, thr58, upm_upr, upr_upr, lc_lt, lc_gt, lc_ge, lc_le, afit1, afit0, afitI, bifit, not_true_eq_false, not_false_eq_true, if_true, if_false, Bool.false_eq_true, reduceCtorEq, k1557, k1558, g1557_2, xn, hd, hc']
        exact ih _ _ (by omega) (by omega) ha
  unfold bStill
  rw [← loop (s 3).toNat 0 0 (by decide) (by omega) ⟨by decide, by decide⟩]
  simp (disch := first | assumption | omega) only [E_X6_stillToHear, B_X6_stillToHear_0, Option.bind_some, back_v, Option.toList_some, Option.toList_none, List.cons_append, List.nil_append, Nat.reduceAdd, Int.reduceToNat, Int.reduceNeg, upm_eq, upm_r, upm_i, if_pos, if_neg, ite_self, true_or, or_true, true_and, and_true, false_or, or_false, false_and, and_false, wr_id, i10, i01, upr_f, upr_eq, thr58, upm_upr, upr_upr, lc_lt, lc_gt, lc_ge, lc_le, afit1, afit0, afitI, bifit, not_true_eq_false, not_false_eq_true, if_true, if_false, Bool.false_eq_true, reduceCtorEq, k1557, k1558, g1557_2]
end AIC
end AS2
