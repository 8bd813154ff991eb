/-! ===== the reference: what would be ===== -/
/-- what a question may leave changed on the reference's side -/
def Mq (u u' : Nat → Nat → Int) : Prop := ∀ q j, ¬ (q = 1557 ∧ (j = 0 ∨ j = 22)) → ¬ (1563 ≤ q ∧ q ≤ 1566) → ¬ (q = 1559 ∧ 32800 ≤ j) → u' q j = u q j
theorem Mq.refl {u : Nat → Nat → Int} : Mq u u := fun _ _ _ _ _ => rfl
theorem Mq.trans {u v w : Nat → Nat → Int} (h : Mq u v) (h2 : Mq v w) : Mq u w := fun q j a b c => (h2 q j a b c).trans (h q j a b c)
theorem Mq_thr {u : Nat → Nat → Int} {c : Int} : Mq u (upm u 1557 0 c) := fun q j a _ _ => by
  unfold upm; rw [if_neg (by omega)]
theorem Mq_58 {u u' : Nat → Nat → Int} (h : Mq u u') : u' 1558 = u 1558 := by
  funext j; exact h _ _ (by omega) (by omega) (by omega)
theorem Mq_f {u u' : Nat → Nat → Int} (h : Mq u u') {j : Nat} (hj : j ≠ 0 ∧ j ≠ 22) : u' 1557 j = u 1557 j := h _ _ (by omega) (by omega) (by omega)
theorem upm_c58 {u : Nat → Nat → Int} {s : Nat → Int} {r i : Nat} {v : Int} (h : r ≠ 1558) : upm (upr u 1558 s) r i v = upr (upm u r i v) 1558 s := by
  funext q j; unfold upm upr
  by_cases h1 : q = 1558
  · subst h1; rw [if_neg (by omega), if_pos rfl, if_pos rfl]
  · simp only [if_neg h1]
theorem upr_c58 {u : Nat → Nat → Int} {s w : Nat → Int} {r : Nat} (h : r ≠ 1558) : upr (upr u 1558 s) r w = upr (upr u r w) 1558 s := by
  funext q j; unfold upr
  by_cases h1 : q = 1558
  · subst h1; rw [if_neg (by omega), if_pos rfl, if_pos rfl]
  · simp only [if_neg h1]
def Psame (l : Int) (s : Nat → Int) : Bool := decide (mDiff s l (-1) = 0)
def Pall (s : Nat → Int) : Bool := decide (mSame s = s 3)
def Pquiet (s : Nat → Int) : Bool := decide (s 4 = 0)
def mTr (s st : Nat → Int) : Nat → Int := a_cpy s st 0 32800 3280
def mOver (s : Nat → Int) (l : Int) (C : List (Nat → Int)) : Nat → Int := itA (mLast s l - s 1).toNat (s 1 + 1) s fun time s => (airDue l time C).foldl (mStep l false) s
def mBest : Nat → Int → Int → (Int → Int) → Int
  | 0, best, _, _ => best
  | d + 1, best, least, f => mBest d (if f ((d : Int) + 1) ≠ -1 ∧ (least = -1 ∨ f ((d : Int) + 1) < least) then (d : Int) + 1 else best) (if f ((d : Int) + 1) ≠ -1 ∧ (least = -1 ∨ f ((d : Int) + 1) < least) then f ((d : Int) + 1) else least) f
def mSameBy (s : Nat → Int) (l p : Int) : Int := mWait 201 0 (Psame l) (up1 s 0 p)
section M9
variable {L : Nat} {u : Nat → Nat → Int} {a : Nat → Nat → Nat} {t : Nat × Nat × Nat} {s : Nat → Int}
theorem M_tries2 : a_m 251 [a_r 1557] (K0 L, upr u 1558 s, G a, t) = some (.inl none, (K0 L, upr (upr u 1559 (mTr s (u 1559))) 1558 s, G a, t)) := by
  rw [M_tries, upr_c58 (by decide)]; rfl
theorem M_back2 {v : Int} {s' : Nat → Int} (hs : slc (u 1559) 10 = s) (h0 : hi0 s') : a_m 252 [a_r 1557, a_i v] (K0 L, upr u 1558 s', G a, t) = some (.inl (some (a_i (v))), (K0 L, upr u 1558 s, G a, t)) := by
  have h := M_back (L := L) (u := u) (a := a) (t := t) (v := v) (s' := s') hs h0
  rw [upr_c58 (by decide), upr_self, upr_upr] at h
  exact h
theorem M_back3 {v : Int} {s' : Nat → Int} (hs : hi0 s) (h0 : hi0 s') : a_m 252 [a_r 1557, a_i v] (K0 L, upr (upr u 1559 (mTr s (u 1559))) 1558 s', G a, t) = some (.inl (some (a_i (v))), (K0 L, upr (upr u 1559 (mTr s (u 1559))) 1558 s, G a, t)) :=
  M_back2 (by rw [upr_f]; exact slc_put (i := 10) hs) h0
theorem Mq_try {s st : Nat → Int} : Mq u (upr (upr u 1559 (mTr s (u 1559))) 1558 (u 1558)) := fun q j h1 h2 h3 => by
  unfold upr
  by_cases h : q = 1558
  · subst h; rw [if_pos rfl]
  · rw [if_neg h]
    by_cases h4 : q = 1559
    · subst h4; rw [if_pos rfl]; exact cpy_out (by omega)
    · rw [if_neg h4]
theorem M_sameNow_loop {c l : Int} (hc : c ≤ 1000) (hl : 0 ≤ l ∧ l ≤ 5) : ∀ (d : Nat) (n : Int) (s : Nat → Int), 0 ≤ n → n + d = 201 → MI c s → hi0 s → s 1 + d ≤ 15000 → ∃ s', hi0 s' ∧ a_X 253 2 [a_r 1557, a_i l, a_i n] [] (K0 L, upr u 1558 s, G a, t) = some (.inl (some (a_i (mWait d n (Psame l) s))), (K0 L, upr u 1558 s', G a, t)) := by
  intro d
  induction d with
  | zero => intro n s h0 h hM hi h1; refine ⟨s, hi, ?_⟩; rw [B_X11_sameNow_2]; simp (disch := first | assumption | omega | (simp only [upr_f, upr_eq]; first | assumption | omega)) only [B_X11_sameNow_0, B_X11_sameNow_15, B_X11_sameNow_24, Option.bind_some, back_v, Option.toList_some, Option.toList_none, List.cons_append, List.nil_append, Nat.reduceAdd, Int.reduceToNat, Int.reduceNeg, upm_eq, upm_r, upm_i, if_pos, if_neg, ite_self, true_or, or_true, true_and, and_true, false_or, or_false, false_and, and_false, wr_id, i10, i01, upr_f, upr_eq, upm_upr, upr_upr, lc_lt, lc_gt, lc_ge, lc_le, afit1, afit0, afitI, bifit, not_true_eq_false, not_false_eq_true, if_true, if_false, Bool.false_eq_true, reduceCtorEq, k1557, k1558, g1557_2, mWait]
  | succ d ih =>
    intro n s h0 h hM hi h1
    have hk := MI_tick hM hc (by omega)
    have ht := M_ticks (L := L) (u := u) (a := a) (t := t) hM hc (by omega)
    by_cases hq : mDiff s l (-1) = 0
    · refine ⟨s, hi, ?_⟩; rw [B_X11_sameNow_2]; simp (disch := first | assumption | omega | (simp only [upr_f, upr_eq]; first | assumption | omega)) only [B_X11_sameNow_0, B_X11_sameNow_15, B_X11_sameNow_24, Option.bind_some, back_v, Option.toList_some, Option.toList_none, List.cons_append, List.nil_append, Nat.reduceAdd, Int.reduceToNat, Int.reduceNeg, upm_eq, upm_r, upm_i, if_pos, if_neg, ite_self, true_or, or_true, true_and, and_true, false_or, or_false, false_and, and_false, wr_id, i10, i01, upr_f, upr_eq, upm_upr, upr_upr, lc_lt, lc_gt, lc_ge, lc_le, afit1, afit0, afitI, bifit, not_true_eq_false, not_false_eq_true, if_true, if_false, Bool.false_eq_true, reduceCtorEq, k1557, k1558, g1557_2, mWait, M_differing, Psame, hq, decide_true]
    · obtain ⟨s', g1, g2⟩ := ih (n + 1) (mTick s) (by omega) (by omega) hk.1 (hk.2.1 hi) (by rw [hk.2.2.1]; omega)
      refine ⟨s', g1, ?_⟩
      rw [mWait, if_neg (by simp [Psame, hq]), ← g2]
      rw [B_X11_sameNow_2]; simp (disch := first | assumption | omega | (simp only [upr_f, upr_eq]; first | assumption | omega)) only [B_X11_sameNow_0, B_X11_sameNow_15, B_X11_sameNow_24, Option.bind_some, back_v, Option.toList_some, Option.toList_none, List.cons_append, List.nil_append, Nat.reduceAdd, Int.reduceToNat, Int.reduceNeg, upm_eq, upm_r, upm_i, if_pos, if_neg, ite_self, true_or, or_true, true_and, and_true, false_or, or_false, false_and, and_false, wr_id, i10, i01, upr_f, upr_eq, upm_upr, upr_upr, lc_lt, lc_gt, lc_ge, lc_le, afit1, afit0, afitI, bifit, not_true_eq_false, not_false_eq_true, if_true, if_false, Bool.false_eq_true, reduceCtorEq, k1557, k1558, g1557_2, M_differing, hq, ht]
theorem M_sameNow {c l : Int} (hc : c ≤ 1000) (hl : 0 ≤ l ∧ l ≤ 5) (hM : MI c s) (hi : hi0 s) (h1 : s 1 ≤ 14000) : ∃ s', hi0 s' ∧ a_m 253 [a_r 1557, a_i l] (K0 L, upr u 1558 s, G a, t) = some (.inl (some (a_i (mWait 201 0 (Psame l) s))), (K0 L, upr u 1558 s', G a, t)) := by
  obtain ⟨s', g1, g2⟩ := M_sameNow_loop (L := L) (u := u) (a := a) (t := t) hc hl 201 0 s (by decide) (by decide) hM hi (by omega)
  refine ⟨s', g1, ?_⟩
  rw [← g2]
  simp (disch := first | assumption | omega | (simp only [upr_f, upr_eq]; first | assumption | omega)) only [E_X11_sameNow, B_X11_sameNow_0, B_X11_sameNow_15, B_X11_sameNow_24, Option.bind_some, back_v, Option.toList_some, Option.toList_none, List.cons_append, List.nil_append, Nat.reduceAdd, Int.reduceToNat, Int.reduceNeg, upm_eq, upm_r, upm_i, if_pos, if_neg, ite_self, true_or, or_true, true_and, and_true, false_or, or_false, false_and, and_false, wr_id, i10, i01, upr_f, upr_eq, upm_upr, upr_upr, lc_lt, lc_gt, lc_ge, lc_le, afit1, afit0, afitI, bifit, not_true_eq_false, not_false_eq_true, if_true, if_false, Bool.false_eq_true, reduceCtorEq, k1557, k1558, g1557_2]
theorem M_allSameNow_loop {c : Int} (hc : c ≤ 1000) : ∀ (d : Nat) (n : Int) (s : Nat → Int), 0 ≤ n → n + d = 201 → MI c s → hi0 s → s 1 + d ≤ 15000 → ∃ s', hi0 s' ∧ a_X 255 2 [a_r 1557, a_i n] [] (K0 L, upr u 1558 s, G a, t) = some (.inl (some (a_i (mWait d n Pall s))), (K0 L, upr u 1558 s', G a, t)) := by
  intro d
  induction d with
  | zero => intro n s h0 h hM hi h1; refine ⟨s, hi, ?_⟩; rw [B_X11_allSameNow_2]; simp (disch := first | assumption | omega | (simp only [upr_f, upr_eq]; first | assumption | omega)) only [B_X11_allSameNow_0, B_X11_allSameNow_13, B_X11_allSameNow_28, Option.bind_some, back_v, Option.toList_some, Option.toList_none, List.cons_append, List.nil_append, Nat.reduceAdd, Int.reduceToNat, Int.reduceNeg, upm_eq, upm_r, upm_i, if_pos, if_neg, ite_self, true_or, or_true, true_and, and_true, false_or, or_false, false_and, and_false, wr_id, i10, i01, upr_f, upr_eq, upm_upr, upr_upr, lc_lt, lc_gt, lc_ge, lc_le, afit1, afit0, afitI, bifit, not_true_eq_false, not_false_eq_true, if_true, if_false, Bool.false_eq_true, reduceCtorEq, k1557, k1558, g1557_2, mWait]
  | succ d ih =>
    intro n s h0 h hM hi h1
    have h3 := hM.2.2.2.1
    have hk := MI_tick hM hc (by omega)
    have ht := M_ticks (L := L) (u := u) (a := a) (t := t) hM hc (by omega)
    by_cases hq : mSame s = s 3
    · refine ⟨s, hi, ?_⟩; rw [mWait, if_pos (by simp [Pall, hq])]; rw [B_X11_allSameNow_2]; simp (disch := first | assumption | omega | (simp only [upr_f, upr_eq]; first | assumption | omega)) only [B_X11_allSameNow_0, B_X11_allSameNow_13, B_X11_allSameNow_28, Option.bind_some, back_v, Option.toList_some, Option.toList_none, List.cons_append, List.nil_append, Nat.reduceAdd, Int.reduceToNat, Int.reduceNeg, upm_eq, upm_r, upm_i, if_pos, if_neg, ite_self, true_or, or_true, true_and, and_true, false_or, or_false, false_and, and_false, wr_id, i10, i01, upr_f, upr_eq, upm_upr, upr_upr, lc_lt, lc_gt, lc_ge, lc_le, afit1, afit0, afitI, bifit, not_true_eq_false, not_false_eq_true, if_true, if_false, Bool.false_eq_true, reduceCtorEq, k1557, k1558, g1557_2, M_sameOnes, hq]
    · obtain ⟨s', g1, g2⟩ := ih (n + 1) (mTick s) (by omega) (by omega) hk.1 (hk.2.1 hi) (by rw [hk.2.2.1]; omega)
      refine ⟨s', g1, ?_⟩
      rw [mWait, if_neg (by simp [Pall, hq]), ← g2]
      rw [B_X11_allSameNow_2]; simp (disch := first | assumption | omega | (simp only [upr_f, upr_eq]; first | assumption | omega)) only [B_X11_allSameNow_0, B_X11_allSameNow_13, B_X11_allSameNow_28, Option.bind_some, back_v, Option.toList_some, Option.toList_none, List.cons_append, List.nil_append, Nat.reduceAdd, Int.reduceToNat, Int.reduceNeg, upm_eq, upm_r, upm_i, if_pos, if_neg, ite_self, true_or, or_true, true_and, and_true, false_or, or_false, false_and, and_false, wr_id, i10, i01, upr_f, upr_eq, upm_upr, upr_upr, lc_lt, lc_gt, lc_ge, lc_le, afit1, afit0, afitI, bifit, not_true_eq_false, not_false_eq_true, if_true, if_false, Bool.false_eq_true, reduceCtorEq, k1557, k1558, g1557_2, M_sameOnes, ht]
theorem M_allSameNow {c : Int} (hc : c ≤ 1000) (hM : MI c s) (hi : hi0 s) (h1 : s 1 ≤ 14000) : ∃ s', hi0 s' ∧ a_m 255 [a_r 1557] (K0 L, upr u 1558 s, G a, t) = some (.inl (some (a_i (mWait 201 0 Pall s))), (K0 L, upr u 1558 s', G a, t)) := by
  obtain ⟨s', g1, g2⟩ := M_allSameNow_loop (L := L) (u := u) (a := a) (t := t) hc 201 0 s (by decide) (by decide) hM hi (by omega)
  refine ⟨s', g1, ?_⟩
  rw [← g2]
  simp (disch := first | assumption | omega | (simp only [upr_f, upr_eq]; first | assumption | omega)) only [E_X11_allSameNow, B_X11_allSameNow_0, B_X11_allSameNow_13, B_X11_allSameNow_28, Option.bind_some, back_v, Option.toList_some, Option.toList_none, List.cons_append, List.nil_append, Nat.reduceAdd, Int.reduceToNat, Int.reduceNeg, upm_eq, upm_r, upm_i, if_pos, if_neg, ite_self, true_or, or_true, true_and, and_true, false_or, or_false, false_and, and_false, wr_id, i10, i01, upr_f, upr_eq, upm_upr, upr_upr, lc_lt, lc_gt, lc_ge, lc_le, afit1, afit0, afitI, bifit, not_true_eq_false, not_false_eq_true, if_true, if_false, Bool.false_eq_true, reduceCtorEq, k1557, k1558, g1557_2]
theorem M_heardNow_loop {c l m : Int} (hc : c ≤ 1000) (hl : 0 ≤ l ∧ l ≤ 5) : ∀ (d : Nat) (n : Int) (s : Nat → Int), 0 ≤ n → n + d = 201 → MI c s → hi0 s → s 1 + d ≤ 15000 → ∃ s', hi0 s' ∧ a_X 257 2 [a_r 1557, a_i l, a_i m, a_i n] [] (K0 L, upr u 1558 s, G a, t) = some (.inl (some (a_i (mWait d n (fun s => mHeard s l m) s))), (K0 L, upr u 1558 s', G a, t)) := by
  intro d
  induction d with
  | zero => intro n s h0 h hM hi h1; refine ⟨s, hi, ?_⟩; rw [B_X11_heardNow_2]; simp (disch := first | assumption | omega | (simp only [upr_f, upr_eq]; first | assumption | omega)) only [B_X11_heardNow_0, B_X11_heardNow_15, B_X11_heardNow_24, Option.bind_some, back_v, Option.toList_some, Option.toList_none, List.cons_append, List.nil_append, Nat.reduceAdd, Int.reduceToNat, Int.reduceNeg, upm_eq, upm_r, upm_i, if_pos, if_neg, ite_self, true_or, or_true, true_and, and_true, false_or, or_false, false_and, and_false, wr_id, i10, i01, upr_f, upr_eq, upm_upr, upr_upr, lc_lt, lc_gt, lc_ge, lc_le, afit1, afit0, afitI, bifit, not_true_eq_false, not_false_eq_true, if_true, if_false, Bool.false_eq_true, reduceCtorEq, k1557, k1558, g1557_2, mWait]
  | succ d ih =>
    intro n s h0 h hM hi h1
    have h2 := hM.2.2.1
    have hk := MI_tick hM hc (by omega)
    have ht := M_ticks (L := L) (u := u) (a := a) (t := t) hM hc (by omega)
    cases hq : mHeard s l m with
    | true => refine ⟨s, hi, ?_⟩; rw [B_X11_heardNow_2]; simp (disch := first | assumption | omega | (simp only [upr_f, upr_eq]; first | assumption | omega)) only [B_X11_heardNow_0, B_X11_heardNow_15, B_X11_heardNow_24, Option.bind_some, back_v, Option.toList_some, Option.toList_none, List.cons_append, List.nil_append, Nat.reduceAdd, Int.reduceToNat, Int.reduceNeg, upm_eq, upm_r, upm_i, if_pos, if_neg, ite_self, true_or, or_true, true_and, and_true, false_or, or_false, false_and, and_false, wr_id, i10, i01, upr_f, upr_eq, upm_upr, upr_upr, lc_lt, lc_gt, lc_ge, lc_le, afit1, afit0, afitI, bifit, not_true_eq_false, not_false_eq_true, if_true, if_false, Bool.false_eq_true, reduceCtorEq, k1557, k1558, g1557_2, mWait, M_hasHeardIt, hq, bi_t]
    | false =>
      obtain ⟨s', g1, g2⟩ := ih (n + 1) (mTick s) (by omega) (by omega) hk.1 (hk.2.1 hi) (by rw [hk.2.2.1]; omega)
      refine ⟨s', g1, ?_⟩
      rw [mWait, hq, if_neg (by decide), ← g2]
      rw [B_X11_heardNow_2]; simp (disch := first | assumption | omega | (simp only [upr_f, upr_eq]; first | assumption | omega)) only [B_X11_heardNow_0, B_X11_heardNow_15, B_X11_heardNow_24, Option.bind_some, back_v, Option.toList_some, Option.toList_none, List.cons_append, List.nil_append, Nat.reduceAdd, Int.reduceToNat, Int.reduceNeg, upm_eq, upm_r, upm_i, if_pos, if_neg, ite_self, true_or, or_true, true_and, and_true, false_or, or_false, false_and, and_false, wr_id, i10, i01, upr_f, upr_eq, upm_upr, upr_upr, lc_lt, lc_gt, lc_ge, lc_le, afit1, afit0, afitI, bifit, not_true_eq_false, not_false_eq_true, if_true, if_false, Bool.false_eq_true, reduceCtorEq, k1557, k1558, g1557_2, M_hasHeardIt, hq, bi_f, ht]
theorem M_heardNow {c l m : Int} (hc : c ≤ 1000) (hl : 0 ≤ l ∧ l ≤ 5) (hM : MI c s) (hi : hi0 s) (h1 : s 1 ≤ 14000) : ∃ s', hi0 s' ∧ a_m 257 [a_r 1557, a_i l, a_i m] (K0 L, upr u 1558 s, G a, t) = some (.inl (some (a_i (mWait 201 0 (fun s => mHeard s l m) s))), (K0 L, upr u 1558 s', G a, t)) := by
  obtain ⟨s', g1, g2⟩ := M_heardNow_loop (L := L) (u := u) (a := a) (t := t) (m := m) hc hl 201 0 s (by decide) (by decide) hM hi (by omega)
  refine ⟨s', g1, ?_⟩
  rw [← g2]
  simp (disch := first | assumption | omega | (simp only [upr_f, upr_eq]; first | assumption | omega)) only [E_X11_heardNow, B_X11_heardNow_0, B_X11_heardNow_15, B_X11_heardNow_24, Option.bind_some, back_v, Option.toList_some, Option.toList_none, List.cons_append, List.nil_append, Nat.reduceAdd, Int.reduceToNat, Int.reduceNeg, upm_eq, upm_r, upm_i, if_pos, if_neg, ite_self, true_or, or_true, true_and, and_true, false_or, or_false, false_and, and_false, wr_id, i10, i01, upr_f, upr_eq, upm_upr, upr_upr, lc_lt, lc_gt, lc_ge, lc_le, afit1, afit0, afitI, bifit, not_true_eq_false, not_false_eq_true, if_true, if_false, Bool.false_eq_true, reduceCtorEq, k1557, k1558, g1557_2]
theorem M_quietNow_loop {c : Int} (hc : c ≤ 1000) : ∀ (d : Nat) (n : Int) (s : Nat → Int), 0 ≤ n → n + d = 201 → MI c s → hi0 s → s 1 + d ≤ 15000 → ∃ s', hi0 s' ∧ a_X 262 2 [a_r 1557, a_i n] [] (K0 L, upr u 1558 s, G a, t) = some (.inl (some (a_i (mWait d n Pquiet s))), (K0 L, upr u 1558 s', G a, t)) := by
  intro d
  induction d with
  | zero => intro n s h0 h hM hi h1; refine ⟨s, hi, ?_⟩; rw [B_X11_quietNow_2]; simp (disch := first | assumption | omega | (simp only [upr_f, upr_eq]; first | assumption | omega)) only [B_X11_quietNow_0, B_X11_quietNow_24, Option.bind_some, back_v, Option.toList_some, Option.toList_none, List.cons_append, List.nil_append, Nat.reduceAdd, Int.reduceToNat, Int.reduceNeg, upm_eq, upm_r, upm_i, if_pos, if_neg, ite_self, true_or, or_true, true_and, and_true, false_or, or_false, false_and, and_false, wr_id, i10, i01, upr_f, upr_eq, upm_upr, upr_upr, lc_lt, lc_gt, lc_ge, lc_le, afit1, afit0, afitI, bifit, not_true_eq_false, not_false_eq_true, if_true, if_false, Bool.false_eq_true, reduceCtorEq, k1557, k1558, g1557_2, mWait]
  | succ d ih =>
    intro n s h0 h hM hi h1
    have hk := MI_tick hM hc (by omega)
    have ht := M_ticks (L := L) (u := u) (a := a) (t := t) hM hc (by omega)
    by_cases hq : s 4 = 0
    · refine ⟨s, hi, ?_⟩; rw [mWait, if_pos (by simp [Pquiet, hq])]; rw [B_X11_quietNow_2]; simp (disch := first | assumption | omega | (simp only [upr_f, upr_eq]; first | assumption | omega)) only [B_X11_quietNow_0, B_X11_quietNow_24, Option.bind_some, back_v, Option.toList_some, Option.toList_none, List.cons_append, List.nil_append, Nat.reduceAdd, Int.reduceToNat, Int.reduceNeg, upm_eq, upm_r, upm_i, if_pos, if_neg, ite_self, true_or, or_true, true_and, and_true, false_or, or_false, false_and, and_false, wr_id, i10, i01, upr_f, upr_eq, upm_upr, upr_upr, lc_lt, lc_gt, lc_ge, lc_le, afit1, afit0, afitI, bifit, not_true_eq_false, not_false_eq_true, if_true, if_false, Bool.false_eq_true, reduceCtorEq, k1557, k1558, g1557_2, hq]
    · obtain ⟨s', g1, g2⟩ := ih (n + 1) (mTick s) (by omega) (by omega) hk.1 (hk.2.1 hi) (by rw [hk.2.2.1]; omega)
      refine ⟨s', g1, ?_⟩
      rw [mWait, if_neg (by simp [Pquiet, hq]), ← g2]
      rw [B_X11_quietNow_2]; simp (disch := first | assumption | omega | (simp only [upr_f, upr_eq]; first | assumption | omega)) only [B_X11_quietNow_0, B_X11_quietNow_24, Option.bind_some, back_v, Option.toList_some, Option.toList_none, List.cons_append, List.nil_append, Nat.reduceAdd, Int.reduceToNat, Int.reduceNeg, upm_eq, upm_r, upm_i, if_pos, if_neg, ite_self, true_or, or_true, true_and, and_true, false_or, or_false, false_and, and_false, wr_id, i10, i01, upr_f, upr_eq, upm_upr, upr_upr, lc_lt, lc_gt, lc_ge, lc_le, afit1, afit0, afitI, bifit, not_true_eq_false, not_false_eq_true, if_true, if_false, Bool.false_eq_true, reduceCtorEq, k1557, k1558, g1557_2, ht]
theorem M_quietNow {c : Int} (hc : c ≤ 1000) (hM : MI c s) (hi : hi0 s) (h1 : s 1 ≤ 14000) : ∃ s', hi0 s' ∧ a_m 262 [a_r 1557] (K0 L, upr u 1558 s, G a, t) = some (.inl (some (a_i (mWait 201 0 Pquiet s))), (K0 L, upr u 1558 s', G a, t)) := by
  obtain ⟨s', g1, g2⟩ := M_quietNow_loop (L := L) (u := u) (a := a) (t := t) hc 201 0 s (by decide) (by decide) hM hi (by omega)
  refine ⟨s', g1, ?_⟩
  rw [← g2]
  simp (disch := first | assumption | omega | (simp only [upr_f, upr_eq]; first | assumption | omega)) only [E_X11_quietNow, B_X11_quietNow_0, B_X11_quietNow_24, Option.bind_some, back_v, Option.toList_some, Option.toList_none, List.cons_append, List.nil_append, Nat.reduceAdd, Int.reduceToNat, Int.reduceNeg, upm_eq, upm_r, upm_i, if_pos, if_neg, ite_self, true_or, or_true, true_and, and_true, false_or, or_false, false_and, and_false, wr_id, i10, i01, upr_f, upr_eq, upm_upr, upr_upr, lc_lt, lc_gt, lc_ge, lc_le, afit1, afit0, afitI, bifit, not_true_eq_false, not_false_eq_true, if_true, if_false, Bool.false_eq_true, reduceCtorEq, k1557, k1558, g1557_2]
theorem MI_period {c p : Int} (hM : MI c s) (hp : 0 ≤ p ∧ p ≤ 99) : MI c (up1 s 0 p) :=
  MI_keep hM (fun j hj => up1_ne (by omega)) (fun j hj _ => up1_ne (by omega)) (fun l w l0 l3 w0 w2 => by simp only [mLi]; exact up1_ne (by omega)) (by rw [up1_eq]; exact hp) (by rw [up1_ne (by decide)]; exact hM.2.1) (up1_ne (by decide)) (up1_ne (by decide)) (up1_ne (by decide)) (up1_ne (by decide)) (by rw [up1_ne (by decide)]; exact hM.2.2.2.2.1.2)
theorem M_sameBy {c l p : Int} (hc : c ≤ 1000) (hl : 0 ≤ l ∧ l ≤ 5) (hp : 0 ≤ p ∧ p ≤ 99) (hM : MI c s) (hi : hi0 s) (h1 : s 1 ≤ 14000) : a_m 266 [a_r 1557, a_i l, a_i p] (K0 L, upr u 1558 s, G a, t) = some (.inl (some (a_i (mSameBy s l p))), (K0 L, upr (upr u 1559 (mTr s (u 1559))) 1558 s, G a, t)) := by
  obtain ⟨s', g1, g2⟩ := M_sameNow (L := L) (u := upr u 1559 (mTr s (u 1559))) (a := a) (t := t) (s := up1 s 0 p) hc hl (MI_period hM hp) (hi0_up (by decide) hi) (by rw [up1_ne (by decide)]; exact h1)
  have hb := M_back3 (L := L) (u := u) (a := a) (t := t) (v := mWait 201 0 (Psame l) (up1 s 0 p)) hi g1
  simp (disch := first | assumption | omega | (simp only [upr_f, upr_eq]; first | assumption | omega)) only [E_X11_sameBy, B_X11_sameBy_0, B_X11_sameBy_4, B_X11_sameBy_17, B_X11_sameBy_20, Option.bind_some, back_v, Option.toList_some, Option.toList_none, List.cons_append, List.nil_append, Nat.reduceAdd, Int.reduceToNat, Int.reduceNeg, upm_eq, upm_r, upm_i, if_pos, if_neg, ite_self, true_or, or_true, true_and, and_true, false_or, or_false, false_and, and_false, wr_id, i10, i01, upr_f, upr_eq, upm_upr, upr_upr, lc_lt, lc_gt, lc_ge, lc_le, afit1, afit0, afitI, bifit, not_true_eq_false, not_false_eq_true, if_true, if_false, Bool.false_eq_true, reduceCtorEq, k1557, k1558, g1557_2, M_tries2, g2, hb, mSameBy]
theorem mTr_tr {s st : Nat → Int} : mTr s (mTr s st) = mTr s st := by
  funext j; unfold mTr
  by_cases h : 32800 ≤ j ∧ j < 32800 + 3280
  · rw [cpy_in h.1 h.2, cpy_in h.1 h.2]
  · rw [cpy_out (by omega), cpy_out (by omega)]
theorem M_bestPeriod_loop {c l : Int} (hc : c ≤ 1000) (hl : 0 ≤ l ∧ l ≤ 5) (hM : MI c s) (hi : hi0 s) (h1 : s 1 ≤ 14000) : ∀ (d : Nat) (best least : Int) (v w : AV), d ≤ 98 → a_X 268 25 [a_r 1557, a_i l, a_i best, a_i least, a_i (d : Int), v, w] [] (K0 L, upr (upr u 1559 (mTr s (u 1559))) 1558 s, G a, t) = some (.inl (some (a_i (mBest d best least (mSameBy s l)))), (K0 L, upr (upr u 1559 (mTr s (u 1559))) 1558 s, G a, t)) := by
  intro d
  induction d with
  | zero => intro best least v w h; rw [B_X11_bestPeriod_25]; simp (disch := first | assumption | omega | (simp only [upr_f, upr_eq]; first | assumption | omega)) only [B_X11_bestPeriod_0, B_X11_bestPeriod_5, B_X11_bestPeriod_20, B_X11_bestPeriod_37, B_X11_bestPeriod_85, B_X11_bestPeriod_80, B_X11_bestPeriod_50, Option.bind_some, back_v, Option.toList_some, Option.toList_none, List.cons_append, List.nil_append, Nat.reduceAdd, Int.reduceToNat, Int.reduceNeg, upm_eq, upm_r, upm_i, if_pos, if_neg, ite_self, true_or, or_true, true_and, and_true, false_or, or_false, false_and, and_false, wr_id, i10, i01, upr_f, upr_eq, upm_upr, upr_upr, lc_lt, lc_gt, lc_ge, lc_le, afit1, afit0, afitI, bifit, not_true_eq_false, not_false_eq_true, if_true, if_false, Bool.false_eq_true, reduceCtorEq, k1557, k1558, g1557_2, mBest]
  | succ d ih =>
    intro best least v w h
    have hsb := M_sameBy (L := L) (u := upr u 1559 (mTr s (u 1559))) (a := a) (t := t) (p := (d : Int) + 1) hc hl (by omega) hM hi h1
    rw [upr_f, mTr_tr, upr_upr] at hsb
    have e : ((d + 1 : Nat) : Int) = (d : Int) + 1 := by omega
    rw [e]
    rw [B_X11_bestPeriod_25]
    by_cases q1 : mSameBy s l ((d : Int) + 1) = -1
    · simp (disch := first | assumption | omega | (simp only [upr_f, upr_eq]; first | assumption | omega)) only [B_X11_bestPeriod_0, B_X11_bestPeriod_5, B_X11_bestPeriod_20, B_X11_bestPeriod_37, B_X11_bestPeriod_85, B_X11_bestPeriod_80, B_X11_bestPeriod_50, Option.bind_some, back_v, Option.toList_some, Option.toList_none, List.cons_append, List.nil_append, Nat.reduceAdd, Int.reduceToNat, Int.reduceNeg, upm_eq, upm_r, upm_i, if_pos, if_neg, ite_self, true_or, or_true, true_and, and_true, false_or, or_false, false_and, and_false, wr_id, i10, i01, upr_f, upr_eq, upm_upr, upr_upr, lc_lt, lc_gt, lc_ge, lc_le, afit1, afit0, afitI, bifit, not_true_eq_false, not_false_eq_true, if_true, if_false, Bool.false_eq_true, reduceCtorEq, k1557, k1558, g1557_2, hsb, q1, mBest]
      rw [show (d : Int) + 1 + -1 = (d : Int) from by omega]
      exact ih _ _ _ _ (by omega)
    · by_cases q2 : least = -1
      · subst q2
        simp (disch := first | assumption | omega | (simp only [upr_f, upr_eq]; first | assumption | omega)) only [B_X11_bestPeriod_0, B_X11_bestPeriod_5, B_X11_bestPeriod_20, B_X11_bestPeriod_37, B_X11_bestPeriod_85, B_X11_bestPeriod_80, B_X11_bestPeriod_50, Option.bind_some, back_v, Option.toList_some, Option.toList_none, List.cons_append, List.nil_append, Nat.reduceAdd, Int.reduceToNat, Int.reduceNeg, upm_eq, upm_r, upm_i, if_pos, if_neg, ite_self, true_or, or_true, true_and, and_true, false_or, or_false, false_and, and_false, wr_id, i10, i01, upr_f, upr_eq, upm_upr, upr_upr, lc_lt, lc_gt, lc_ge, lc_le, afit1, afit0, afitI, bifit, not_true_eq_false, not_false_eq_true, if_true, if_false, Bool.false_eq_true, reduceCtorEq, k1557, k1558, g1557_2, hsb, q1, mBest]
        rw [show (d : Int) + 1 + -1 = (d : Int) from by omega]
        exact ih _ _ _ _ (by omega)
      · by_cases q3 : mSameBy s l ((d : Int) + 1) < least
        · simp (disch := first | assumption | omega | (simp only [upr_f, upr_eq]; first | assumption | omega)) only [B_X11_bestPeriod_0, B_X11_bestPeriod_5, B_X11_bestPeriod_20, B_X11_bestPeriod_37, B_X11_bestPeriod_85, B_X11_bestPeriod_80, B_X11_bestPeriod_50, Option.bind_some, back_v, Option.toList_some, Option.toList_none, List.cons_append, List.nil_append, Nat.reduceAdd, Int.reduceToNat, Int.reduceNeg, upm_eq, upm_r, upm_i, if_pos, if_neg, ite_self, true_or, or_true, true_and, and_true, false_or, or_false, false_and, and_false, wr_id, i10, i01, upr_f, upr_eq, upm_upr, upr_upr, lc_lt, lc_gt, lc_ge, lc_le, afit1, afit0, afitI, bifit, not_true_eq_false, not_false_eq_true, if_true, if_false, Bool.false_eq_true, reduceCtorEq, k1557, k1558, g1557_2, hsb, q1, q2, mBest]
          rw [show (d : Int) + 1 + -1 = (d : Int) from by omega]
          exact ih _ _ _ _ (by omega)
        · simp (disch := first | assumption | omega | (simp only [upr_f, upr_eq]; first | assumption | omega)) only [B_X11_bestPeriod_0, B_X11_bestPeriod_5, B_X11_bestPeriod_20, B_X11_bestPeriod_37, B_X11_bestPeriod_85, B_X11_bestPeriod_80, B_X11_bestPeriod_50, Option.bind_some, back_v, Option.toList_some, Option.toList_none, List.cons_append, List.nil_append, Nat.reduceAdd, Int.reduceToNat, Int.reduceNeg, upm_eq, upm_r, upm_i, if_pos, if_neg, ite_self, true_or, or_true, true_and, and_true, false_or, or_false, false_and, and_false, wr_id, i10, i01, upr_f, upr_eq, upm_upr, upr_upr, lc_lt, lc_gt, lc_ge, lc_le, afit1, afit0, afitI, bifit, not_true_eq_false, not_false_eq_true, if_true, if_false, Bool.false_eq_true, reduceCtorEq, k1557, k1558, g1557_2, hsb, q1, q2, q3, mBest]
          rw [show (d : Int) + 1 + -1 = (d : Int) from by omega]
          exact ih _ _ _ _ (by omega)
end M9
