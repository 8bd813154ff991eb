/-! ===== writeMissing on both sides ===== -/
def runT (T : List Int) (f l : Int) : List Int := T ++ ((if T.length = 0 then [] else [44]) ++ (dig f ++ (if f < l then [45] ++ dig l else [])))
def cT (p : Int → Bool) : Nat → Int → Int → List Int → List Int
  | 0, _, _, T => T
  | d + 1, n, f, T => if p n = true then (if p (n + 1) = true then cT p d (n + 1) (if f = -1 then n else f) T else cT p d (n + 1) (-1) (runT T (if f = -1 then n else f) n)) else cT p d (n + 1) f T
def finT (T : List Int) : List Int := if T.length = 0 then [42] else T
theorem runT_le {T : List Int} {f l : Int} : T.length + (dig f).length + (if T.length = 0 then 0 else 1) + (if f < l then (dig l).length + 1 else 0) = (runT T f l).length := by
  unfold runT
  simp only [List.length_append]
  split <;> split <;> simp <;> omega
theorem cT_le {p : Int → Bool} : ∀ (d : Nat) (n f : Int) (T : List Int), T.length ≤ (cT p d n f T).length := by
  intro d
  induction d with
  | zero => intro n f T; exact Nat.le_refl _
  | succ d ih =>
    intro n f T
    rw [cT]
    split
    · split
      · exact ih _ _ _
      · have h1 := ih (n + 1) (-1) (runT T (if f = -1 then n else f) n)
        have h2 := runT_le (T := T) (f := if f = -1 then n else f) (l := n)
        omega
    · exact ih _ _ _
theorem cT_none {p : Int → Bool} : ∀ (d : Nat) (n : Int) (T : List Int), (∀ i, n ≤ i → p i = false) → cT p d n (-1) T = T := by
  intro d
  induction d with
  | zero => intro n T _; rfl
  | succ d ih =>
    intro n T h
    rw [cT, h n (Int.le_refl _), if_neg (by decide)]
    exact ih _ _ (fun i hi => h i (by omega))
theorem cT_first {p : Int → Bool} {d : Nat} {n : Int} {T : List Int} (hp : p n = true) (hn : n ≠ -1) : cT p (d + 1) n (-1) T = cT p (d + 1) n n T := by
  rw [cT, cT, hp, if_pos rfl, if_pos rfl, if_pos rfl, if_neg hn]
/-- how long it grows -/
theorem cT_bd {p : Int → Bool} : ∀ (d : Nat) (n f : Int) (T : List Int), n + d = 100 → 1 ≤ n → (f = -1 ∧ (T.length : Int) ≤ (if p n = true then 2 * n else 2 * n + 2)) ∨ (1 ≤ f ∧ f < n ∧ p n = true ∧ (T.length : Int) ≤ 2 * f) → ((cT p d n f T).length : Int) ≤ 202 := by
  intro d
  induction d with
  | zero =>
    intro n f T hn h1 h
    rw [cT]
    rcases h with ⟨-, h⟩ | h
    · split at h <;> omega
    · omega
  | succ d ih =>
    intro n f T hn h1 h
    rw [cT]
    by_cases hp : p n = true
    · rw [if_pos hp]
      have hf : (1 ≤ (if f = -1 then n else f) ∧ (if f = -1 then n else f) ≤ n) ∧ (T.length : Int) ≤ 2 * (if f = -1 then n else f) := by
        rw [if_pos hp] at h
        rcases h with ⟨hf, h⟩ | ⟨h2, h3, h4, h5⟩
        · rw [if_pos hf]; omega
        · rw [if_neg (by omega)]; omega
      generalize (if f = -1 then n else f) = g at hf ⊢
      by_cases hp1 : p (n + 1) = true
      · rw [if_pos hp1]
        exact ih (n + 1) g T (by omega) (by omega) (.inr ⟨hf.1.1, by omega, hp1, hf.2⟩)
      · rw [if_neg hp1]
        refine ih (n + 1) (-1) _ (by omega) (by omega) (.inl ⟨rfl, ?_⟩)
        rw [if_neg hp1]
        have h2 := runT_le (T := T) (f := g) (l := n)
        have h3 := dig_le2 (n := g) (by omega)
        have h4 := dig_le2 (n := n) (by omega)
        split at h2 <;> split at h2 <;> omega
    · rw [if_neg hp]
      rw [if_neg hp] at h
      rcases h with ⟨hf, h⟩ | h
      · exact ih (n + 1) f T (by omega) (by omega) (.inl ⟨hf, by split <;> omega⟩)
      · exact absurd h.2.2.1 hp
/-- one run of missing numbers -/
theorem wm_in {p : Int → Bool} {n : Int} (hn : n ≠ -1) (hp : ∀ i, 99 < i → p i = false) : ∀ (d : Nat) (x : Int), x + d = 100 → p x = true → ∃ (m : Int) (e : Nat), x ≤ m ∧ m + e = 99 ∧ p (m + 1) = false ∧ (∀ k, x < k → k ≤ m → p k = true) ∧ ∀ T, cT p d x n T = cT p e (m + 1) (-1) (runT T n m) := by
  intro d
  induction d with
  | zero =>
    intro x hx hpx
    rw [hp x (by omega)] at hpx
    cases hpx
  | succ d ih =>
    intro x hx hpx
    by_cases hp1 : p (x + 1) = true
    · obtain ⟨m, e, h1, h2, h3, h4, h5⟩ := ih (x + 1) (by omega) hp1
      refine ⟨m, e, by omega, h2, h3, fun k k0 k1 => ?_, fun T => ?_⟩
      · by_cases hk : k = x + 1
        · rw [hk]; exact hp1
        · exact h4 k (by omega) k1
      · rw [cT, if_pos hpx, if_pos hp1, if_neg hn]
        exact h5 T
    · refine ⟨x, d, Int.le_refl _, by omega, by simpa using hp1, fun k k0 k1 => by omega, fun T => ?_⟩
      rw [cT, if_pos hpx, if_neg hp1, if_neg hn]
section WMI
variable {L : Nat} {a : Nat → Nat → Nat} {t : Nat × Nat × Nat} {v0 w0 v w : Nat → Nat → Int} {T : List Int}
theorem C_putRun {f l : Int} (h : tC v0 T v) (hl : (runT T f l).length ≤ 256) : ∃ v', a_m 77 [a_r 1301, a_i f, a_i l] (K0 L, v, G a, t) = some (.inl none, (K0 L, v', G a, t)) ∧ tC v0 (runT T f l) v' := by
  have hr := runT_le (T := T) (f := f) (l := l)
  have e5 := h.2.1
  have key : ∀ (T1 : List Int) (v1 : Nat → Nat → Int), tC v0 T1 v1 → T1.length + (dig f).length + (if f < l then (dig l).length + 1 else 0) ≤ 256 → ∃ v' v2, a_m 76 [a_r 1301, a_i f] (K0 L, v1, G a, t) = some (.inl none, (K0 L, v2, G a, t)) ∧ a_X 77 18 [a_r 1301, a_i f, a_i l] [] (K0 L, v2, G a, t) = some (.inl none, (K0 L, v', G a, t)) ∧ tC v0 (T1 ++ (dig f ++ (if f < l then [45] ++ dig l else []))) v' := by
    intro T1 v1 h1 hl1
    obtain ⟨v2, a2, b2⟩ := C_putNumber (L := L) (a := a) (t := t) (n := f) h1 (by omega)
    by_cases hfl : f < l
    · rw [if_pos hfl] at hl1 ⊢
      obtain ⟨v3, a3, b3⟩ := C_put (L := L) (a := a) (t := t) (x := 45) b2 (by rw [List.length_append]; omega)
      obtain ⟨v4, a4, b4⟩ := C_putNumber (L := L) (a := a) (t := t) (n := l) b3 (by rw [List.length_append, List.length_append, List.length_singleton]; omega)
      refine ⟨v4, v2, a2, ?_, by simp only [List.append_assoc] at b4 ⊢; exact b4⟩
      have z : ¬ l ≤ f := by omega
      simp (disch := first | assumption | omega) only [k1301, k1302, g1301_0, B_X7_putRun_0, B_X7_putRun_18, B_X7_putRun_13, B_X7_putRun_29, B_X7_putRun_34, Option.bind_some, back_v, Option.toList_some, Option.toList_none, List.cons_append, List.nil_append, Nat.reduceAdd, Int.reduceToNat, Int.reduceNeg, upm_eq, upm_r, upm_i, if_pos, if_neg, ite_self, true_or, or_true, true_and, and_true, false_or, or_false, false_and, and_false, wr_id, i10, i01, upr_f, upr_eq, thr58, upm_upr, upr_upr, lc_lt, lc_gt, lc_ge, lc_le, afit1, afit0, afitI, bifit, not_true_eq_false, not_false_eq_true, if_true, if_false, Bool.false_eq_true, reduceCtorEq, k1557, k1558, g1557_2, z, a3, a4]
    · rw [if_neg hfl, List.append_nil]
      refine ⟨v2, v2, a2, ?_, b2⟩
      have z : l ≤ f := by omega
      simp (disch := first | assumption | omega) only [k1301, k1302, g1301_0, B_X7_putRun_0, B_X7_putRun_18, B_X7_putRun_13, B_X7_putRun_29, B_X7_putRun_34, Option.bind_some, back_v, Option.toList_some, Option.toList_none, List.cons_append, List.nil_append, Nat.reduceAdd, Int.reduceToNat, Int.reduceNeg, upm_eq, upm_r, upm_i, if_pos, if_neg, ite_self, true_or, or_true, true_and, and_true, false_or, or_false, false_and, and_false, wr_id, i10, i01, upr_f, upr_eq, thr58, upm_upr, upr_upr, lc_lt, lc_gt, lc_ge, lc_le, afit1, afit0, afitI, bifit, not_true_eq_false, not_false_eq_true, if_true, if_false, Bool.false_eq_true, reduceCtorEq, k1557, k1558, g1557_2, z]
  by_cases h0 : T.length = 0
  · rw [if_pos h0] at hr
    obtain ⟨v', v2, g1, g2, g3⟩ := key T v h (by omega)
    refine ⟨v', ?_, by unfold runT; rw [if_pos h0, List.nil_append]; exact g3⟩
    have z : v 1301 1 ≤ 0 := by omega
    rw [← g2]
    simp (disch := first | assumption | omega) only [k1301, k1302, g1301_0, E_X7_putRun, B_X7_putRun_0, B_X7_putRun_18, B_X7_putRun_13, B_X7_putRun_29, B_X7_putRun_34, Option.bind_some, back_v, Option.toList_some, Option.toList_none, List.cons_append, List.nil_append, Nat.reduceAdd, Int.reduceToNat, Int.reduceNeg, upm_eq, upm_r, upm_i, if_pos, if_neg, ite_self, true_or, or_true, true_and, and_true, false_or, or_false, false_and, and_false, wr_id, i10, i01, upr_f, upr_eq, thr58, upm_upr, upr_upr, lc_lt, lc_gt, lc_ge, lc_le, afit1, afit0, afitI, bifit, not_true_eq_false, not_false_eq_true, if_true, if_false, Bool.false_eq_true, reduceCtorEq, k1557, k1558, g1557_2, z, g1]
  · rw [if_neg h0] at hr
    obtain ⟨v1, a1, b1⟩ := C_put (L := L) (a := a) (t := t) (x := 44) h (by omega)
    obtain ⟨v', v2, g1, g2, g3⟩ := key _ v1 b1 (by rw [List.length_append, List.length_singleton]; omega)
    refine ⟨v', ?_, by unfold runT; rw [if_neg h0]; simp only [List.append_assoc] at g3 ⊢; exact g3⟩
    have z : ¬ v 1301 1 ≤ 0 := by omega
    rw [← g2]
    simp (disch := first | assumption | omega) only [k1301, k1302, g1301_0, E_X7_putRun, B_X7_putRun_0, B_X7_putRun_18, B_X7_putRun_13, B_X7_putRun_29, B_X7_putRun_34, Option.bind_some, back_v, Option.toList_some, Option.toList_none, List.cons_append, List.nil_append, Nat.reduceAdd, Int.reduceToNat, Int.reduceNeg, upm_eq, upm_r, upm_i, if_pos, if_neg, ite_self, true_or, or_true, true_and, and_true, false_or, or_false, false_and, and_false, wr_id, i10, i01, upr_f, upr_eq, thr58, upm_upr, upr_upr, lc_lt, lc_gt, lc_ge, lc_le, afit1, afit0, afitI, bifit, not_true_eq_false, not_false_eq_true, if_true, if_false, Bool.false_eq_true, reduceCtorEq, k1557, k1558, g1557_2, z, a1, g1]
theorem C_wm_loop {l : Int} {p : Int → Bool} (hm : ∀ v, (∀ q, q ≠ 1301 → q ≠ 1302 → v q = v0 q) → ∀ n, a_m 41 [a_r 21, a_i l, a_i n] (K0 L, v, G a, t) = some (.inl (some (a_i (bi (p n)))), (K0 L, v, G a, t))) : ∀ (d : Nat) (n f : Int) (T : List Int) (v : Nat → Nat → Int), n + d = 100 → 1 ≤ n → tC v0 T v → (cT p d n f T).length ≤ 255 → ∃ v', a_X 128 20 [a_r 18, a_i l, a_i f, a_i n] [] (K0 L, v, G a, t) = some (.inl (some (a_i (((finT (cT p d n f T)).length : Int)))), (K0 L, v', G a, t)) ∧ tC v0 (finT (cT p d n f T)) v' := by
  intro d
  induction d with
  | zero =>
    intro n f T v hn h1 h hl
    rw [cT] at hl ⊢
    have e5 := h.2.1
    have ex : n > 99 := by omega
    by_cases h0 : T.length = 0
    · have eT : T = [] := List.eq_nil_of_length_eq_zero h0
      subst eT
      obtain ⟨v', a1, b1⟩ := C_put (L := L) (a := a) (t := t) (x := 42) h (by decide)
      rw [List.nil_append] at b1
      have e : finT [] = [42] := rfl
      have e6 := b1.2.1
      rw [e]
      refine ⟨v', ?_, b1⟩
      have z : ¬ v 1301 1 ≠ 0 := fun hz => hz e5
      rw [B_X10_writeMissing_20]
      simp (disch := first | assumption | omega) only [k18, g18_0, g18_1, g18_2, g18_3, g18_4, g18_5, g18_6, g18_7, k1301, k1302, g1301_0, B_X10_writeMissing_0, B_X10_writeMissing_4, B_X10_writeMissing_9, B_X10_writeMissing_16, B_X10_writeMissing_95, B_X10_writeMissing_35, B_X10_writeMissing_56, B_X10_writeMissing_68, Option.bind_some, back_v, Option.toList_some, Option.toList_none, List.cons_append, List.nil_append, Nat.reduceAdd, Int.reduceToNat, Int.reduceNeg, upm_eq, upm_r, upm_i, if_pos, if_neg, ite_self, true_or, or_true, true_and, and_true, false_or, or_false, false_and, and_false, wr_id, i10, i01, upr_f, upr_eq, thr58, upm_upr, upr_upr, lc_lt, lc_gt, lc_ge, lc_le, afit1, afit0, afitI, bifit, not_true_eq_false, not_false_eq_true, if_true, if_false, Bool.false_eq_true, reduceCtorEq, k1557, k1558, g1557_2, ex, z, a1, e6]
    · have e : finT T = T := by unfold finT; rw [if_neg h0]
      rw [e]
      refine ⟨v, ?_, h⟩
      have z : v 1301 1 ≠ 0 := by omega
      rw [B_X10_writeMissing_20]
      simp (disch := first | assumption | omega) only [k18, g18_0, g18_1, g18_2, g18_3, g18_4, g18_5, g18_6, g18_7, k1301, k1302, g1301_0, B_X10_writeMissing_0, B_X10_writeMissing_4, B_X10_writeMissing_9, B_X10_writeMissing_16, B_X10_writeMissing_95, B_X10_writeMissing_35, B_X10_writeMissing_56, B_X10_writeMissing_68, Option.bind_some, back_v, Option.toList_some, Option.toList_none, List.cons_append, List.nil_append, Nat.reduceAdd, Int.reduceToNat, Int.reduceNeg, upm_eq, upm_r, upm_i, if_pos, if_neg, ite_self, true_or, or_true, true_and, and_true, false_or, or_false, false_and, and_false, wr_id, i10, i01, upr_f, upr_eq, thr58, upm_upr, upr_upr, lc_lt, lc_gt, lc_ge, lc_le, afit1, afit0, afitI, bifit, not_true_eq_false, not_false_eq_true, if_true, if_false, Bool.false_eq_true, reduceCtorEq, k1557, k1558, g1557_2, ex, z, e5]
  | succ d ih =>
    intro n f T v hn h1 h hl
    have q1 := hm v h.1 n
    have q2 := hm v h.1 (n + 1)
    have ex : ¬ n > 99 := by omega
    have z1 : wr (n + 1) = n + 1 := wr_id (by omega) (by omega)
    rw [cT] at hl ⊢
    cases hb : p n with
    | false =>
      rw [hb, bi_f] at q1
      rw [hb, if_neg (by decide)] at hl
      rw [if_neg (by decide)]
      obtain ⟨v', k1, k2⟩ := ih (n + 1) f T v (by omega) (by omega) h hl
      refine ⟨v', ?_, k2⟩
      rw [← k1]
      rw [B_X10_writeMissing_20]
      simp (disch := first | assumption | omega) only [k18, g18_0, g18_1, g18_2, g18_3, g18_4, g18_5, g18_6, g18_7, kq21, kq22, kq23, kq24, kq25, kq26, kq27, kq28, kq29, kq30, kq31, kq32, kq123, gq21_0, gq21_1, gq21_2, gq21_3, gq22_0, gq22_1, gq22_2, gq22_3, gq22_4, gq22_5, gq22_6, gq31_0, gq123_j, gq32_j, kq124_l, kq125_l, kq126_l, kq127_l, gq124_2, gq124_3, gq124_4, kq33_p, kq34_p, kq35_p, gq33_6, gq33_7, k1301, k1302, g1301_0, B_X10_writeMissing_0, B_X10_writeMissing_4, B_X10_writeMissing_9, B_X10_writeMissing_16, B_X10_writeMissing_95, B_X10_writeMissing_35, B_X10_writeMissing_56, B_X10_writeMissing_68, Option.bind_some, back_v, Option.toList_some, Option.toList_none, List.cons_append, List.nil_append, Nat.reduceAdd, Int.reduceToNat, Int.reduceNeg, upm_eq, upm_r, upm_i, if_pos, if_neg, ite_self, true_or, or_true, true_and, and_true, false_or, or_false, false_and, and_false, wr_id, i10, i01, upr_f, upr_eq, thr58, upm_upr, upr_upr, lc_lt, lc_gt, lc_ge, lc_le, afit1, afit0, afitI, bifit, not_true_eq_false, not_false_eq_true, if_true, if_false, Bool.false_eq_true, reduceCtorEq, k1557, k1558, g1557_2, ex, q1, z1]
    | true =>
      rw [hb, bi_t] at q1
      rw [hb, if_pos rfl] at hl
      rw [if_pos rfl]
      cases hb1 : p (n + 1) with
      | true =>
        rw [hb1, bi_t] at q2
        rw [hb1, if_pos rfl] at hl
        rw [if_pos rfl]
        obtain ⟨v', k1, k2⟩ := ih (n + 1) _ T v (by omega) (by omega) h hl
        refine ⟨v', ?_, k2⟩
        rw [← k1]
        rw [B_X10_writeMissing_20]
        by_cases hf : f = -1
        · have hf' : ¬ f ≠ -1 := by omega
          simp (disch := first | assumption | omega) only [k18, g18_0, g18_1, g18_2, g18_3, g18_4, g18_5, g18_6, g18_7, kq21, kq22, kq23, kq24, kq25, kq26, kq27, kq28, kq29, kq30, kq31, kq32, kq123, gq21_0, gq21_1, gq21_2, gq21_3, gq22_0, gq22_1, gq22_2, gq22_3, gq22_4, gq22_5, gq22_6, gq31_0, gq123_j, gq32_j, kq124_l, kq125_l, kq126_l, kq127_l, gq124_2, gq124_3, gq124_4, kq33_p, kq34_p, kq35_p, gq33_6, gq33_7, k1301, k1302, g1301_0, B_X10_writeMissing_0, B_X10_writeMissing_4, B_X10_writeMissing_9, B_X10_writeMissing_16, B_X10_writeMissing_95, B_X10_writeMissing_35, B_X10_writeMissing_56, B_X10_writeMissing_68, Option.bind_some, back_v, Option.toList_some, Option.toList_none, List.cons_append, List.nil_append, Nat.reduceAdd, Int.reduceToNat, Int.reduceNeg, upm_eq, upm_r, upm_i, if_pos, if_neg, ite_self, true_or, or_true, true_and, and_true, false_or, or_false, false_and, and_false, wr_id, i10, i01, upr_f, upr_eq, thr58, upm_upr, upr_upr, lc_lt, lc_gt, lc_ge, lc_le, afit1, afit0, afitI, bifit, not_true_eq_false, not_false_eq_true, if_true, if_false, Bool.false_eq_true, reduceCtorEq, k1557, k1558, g1557_2, ex, q1, hf, hf', z1, q2, ne_eq]
        · have hf' : f ≠ -1 := by omega
          simp (disch := first | assumption | omega) only [k18, g18_0, g18_1, g18_2, g18_3, g18_4, g18_5, g18_6, g18_7, kq21, kq22, kq23, kq24, kq25, kq26, kq27, kq28, kq29, kq30, kq31, kq32, kq123, gq21_0, gq21_1, gq21_2, gq21_3, gq22_0, gq22_1, gq22_2, gq22_3, gq22_4, gq22_5, gq22_6, gq31_0, gq123_j, gq32_j, kq124_l, kq125_l, kq126_l, kq127_l, gq124_2, gq124_3, gq124_4, kq33_p, kq34_p, kq35_p, gq33_6, gq33_7, k1301, k1302, g1301_0, B_X10_writeMissing_0, B_X10_writeMissing_4, B_X10_writeMissing_9, B_X10_writeMissing_16, B_X10_writeMissing_95, B_X10_writeMissing_35, B_X10_writeMissing_56, B_X10_writeMissing_68, Option.bind_some, back_v, Option.toList_some, Option.toList_none, List.cons_append, List.nil_append, Nat.reduceAdd, Int.reduceToNat, Int.reduceNeg, upm_eq, upm_r, upm_i, if_pos, if_neg, ite_self, true_or, or_true, true_and, and_true, false_or, or_false, false_and, and_false, wr_id, i10, i01, upr_f, upr_eq, thr58, upm_upr, upr_upr, lc_lt, lc_gt, lc_ge, lc_le, afit1, afit0, afitI, bifit, not_true_eq_false, not_false_eq_true, if_true, if_false, Bool.false_eq_true, reduceCtorEq, k1557, k1558, g1557_2, ex, q1, hf, hf', z1, q2, ne_eq]
      | false =>
        rw [hb1, bi_f] at q2
        rw [hb1, if_neg (by decide)] at hl
        rw [if_neg (by decide)]
        have hle := cT_le (p := p) d (n + 1) (-1) (runT T (if f = -1 then n else f) n)
        obtain ⟨v2, r1, r2⟩ := C_putRun (L := L) (a := a) (t := t) (f := if f = -1 then n else f) (l := n) h (by omega)
        obtain ⟨v', k1, k2⟩ := ih (n + 1) (-1) _ v2 (by omega) (by omega) r2 hl
        refine ⟨v', ?_, k2⟩
        rw [← k1]
        rw [B_X10_writeMissing_20]
        by_cases hf : f = -1
        · have hf' : ¬ f ≠ -1 := by omega
          rw [if_pos hf] at r1
          simp (disch := first | assumption | omega) only [k18, g18_0, g18_1, g18_2, g18_3, g18_4, g18_5, g18_6, g18_7, kq21, kq22, kq23, kq24, kq25, kq26, kq27, kq28, kq29, kq30, kq31, kq32, kq123, gq21_0, gq21_1, gq21_2, gq21_3, gq22_0, gq22_1, gq22_2, gq22_3, gq22_4, gq22_5, gq22_6, gq31_0, gq123_j, gq32_j, kq124_l, kq125_l, kq126_l, kq127_l, gq124_2, gq124_3, gq124_4, kq33_p, kq34_p, kq35_p, gq33_6, gq33_7, k1301, k1302, g1301_0, B_X10_writeMissing_0, B_X10_writeMissing_4, B_X10_writeMissing_9, B_X10_writeMissing_16, B_X10_writeMissing_95, B_X10_writeMissing_35, B_X10_writeMissing_56, B_X10_writeMissing_68, Option.bind_some, back_v, Option.toList_some, Option.toList_none, List.cons_append, List.nil_append, Nat.reduceAdd, Int.reduceToNat, Int.reduceNeg, upm_eq, upm_r, upm_i, if_pos, if_neg, ite_self, true_or, or_true, true_and, and_true, false_or, or_false, false_and, and_false, wr_id, i10, i01, upr_f, upr_eq, thr58, upm_upr, upr_upr, lc_lt, lc_gt, lc_ge, lc_le, afit1, afit0, afitI, bifit, not_true_eq_false, not_false_eq_true, if_true, if_false, Bool.false_eq_true, reduceCtorEq, k1557, k1558, g1557_2, ex, q1, hf, hf', z1, q2, r1, ne_eq]
        · have hf' : f ≠ -1 := by omega
          rw [if_neg hf] at r1
          simp (disch := first | assumption | omega) only [k18, g18_0, g18_1, g18_2, g18_3, g18_4, g18_5, g18_6, g18_7, kq21, kq22, kq23, kq24, kq25, kq26, kq27, kq28, kq29, kq30, kq31, kq32, kq123, gq21_0, gq21_1, gq21_2, gq21_3, gq22_0, gq22_1, gq22_2, gq22_3, gq22_4, gq22_5, gq22_6, gq31_0, gq123_j, gq32_j, kq124_l, kq125_l, kq126_l, kq127_l, gq124_2, gq124_3, gq124_4, kq33_p, kq34_p, kq35_p, gq33_6, gq33_7, k1301, k1302, g1301_0, B_X10_writeMissing_0, B_X10_writeMissing_4, B_X10_writeMissing_9, B_X10_writeMissing_16, B_X10_writeMissing_95, B_X10_writeMissing_35, B_X10_writeMissing_56, B_X10_writeMissing_68, Option.bind_some, back_v, Option.toList_some, Option.toList_none, List.cons_append, List.nil_append, Nat.reduceAdd, Int.reduceToNat, Int.reduceNeg, upm_eq, upm_r, upm_i, if_pos, if_neg, ite_self, true_or, or_true, true_and, and_true, false_or, or_false, false_and, and_false, wr_id, i10, i01, upr_f, upr_eq, thr58, upm_upr, upr_upr, lc_lt, lc_gt, lc_ge, lc_le, afit1, afit0, afitI, bifit, not_true_eq_false, not_false_eq_true, if_true, if_false, Bool.false_eq_true, reduceCtorEq, k1557, k1558, g1557_2, ex, q1, hf, hf', z1, q2, r1, ne_eq]
theorem M_wm_in {l n : Int} {p : Int → Bool} (hm : ∀ n, a_m 236 [a_r 1557, a_i l, a_i n] (K0 L, w, G a, t) = some (.inl (some (a_i (bi (p n)))), (K0 L, w, G a, t))) {m : Int} (m99 : m ≤ 99) : ∀ (d : Nat) (x : Int), 1 ≤ x → x + d = m → (∀ k, x < k → k ≤ m → p k = true) → a_X 274 59 [a_r 1557, a_i l, a_i n, a_i x] [] (K0 L, w, G a, t) = a_X 274 59 [a_r 1557, a_i l, a_i n, a_i m] [] (K0 L, w, G a, t) := by
  intro d
  induction d with
  | zero => intro x x1 hx _; rw [show x = m from by omega]
  | succ d ih =>
    intro x x1 hx hp
    rw [← ih (x + 1) (by omega) (by omega) (fun k k0 k1 => hp k (by omega) k1)]
    have z1 : wr (x + 1) = x + 1 := wr_id (by omega) (by omega)
    have q1 := hm (x + 1)
    rw [hp (x + 1) (by omega) (by omega), bi_t] at q1
    rw [B_X11_writeMissing_59]
    simp (disch := first | assumption | omega) only [k1559, k1560, k1561, k1562, k1563, k1564, k1565, k1566, k1567, g1557_3, g1557_5, g1557_6, g1557_17, g1557_18, g1557_19, g1557_20, g1557_21, g1557_23, B_X11_writeMissing_0, B_X11_writeMissing_5, B_X11_writeMissing_113, B_X11_writeMissing_33, B_X11_writeMissing_57, B_X11_writeMissing_52, B_X11_writeMissing_67, B_X11_writeMissing_87, B_X11_writeMissing_92, Option.bind_some, back_v, Option.toList_some, Option.toList_none, List.cons_append, List.nil_append, Nat.reduceAdd, Int.reduceToNat, Int.reduceNeg, upm_eq, upm_r, upm_i, if_pos, if_neg, ite_self, true_or, or_true, true_and, and_true, false_or, or_false, false_and, and_false, wr_id, i10, i01, upr_f, upr_eq, thr58, upm_upr, upr_upr, lc_lt, lc_gt, lc_ge, lc_le, afit1, afit0, afitI, bifit, not_true_eq_false, not_false_eq_true, if_true, if_false, Bool.false_eq_true, reduceCtorEq, k1557, k1558, g1557_2, z1, q1]
theorem M_wm_end {l n : Int} {z : AV} (hn : n > w0 1558 2) (h : tM w0 T w) (hl : T.length ≤ 390) : ∃ w', a_X 274 17 [a_r 1557, a_i l, a_i n, z] [] (K0 L, w, G a, t) = some (.inl (some (a_i (((finT T).length : Int)))), (K0 L, w', G a, t)) ∧ tM w0 (finT T) w' := by
  have e2 := h.1 1558 (by decide) (by decide)
  have e5 := h.2.2.1
  by_cases h0 : T.length = 0
  · have eT : T = [] := List.eq_nil_of_length_eq_zero h0
    subst eT
    obtain ⟨w', a1, b1⟩ := M_says (L := L) (a := a) (t := t) (x := 42) h (by decide)
    rw [List.nil_append] at b1
    have e : finT [] = [42] := rfl
    have e6 := b1.2.2.1
    rw [e]
    refine ⟨w', ?_, b1⟩
    have z : ¬ w 1557 24 ≠ 0 := fun hz => hz e5
    rw [B_X11_writeMissing_17]
    simp (disch := first | assumption | omega) only [k1559, k1560, k1561, k1562, k1563, k1564, k1565, k1566, k1567, g1557_3, g1557_5, g1557_6, g1557_17, g1557_18, g1557_19, g1557_20, g1557_21, g1557_23, B_X11_writeMissing_0, B_X11_writeMissing_5, B_X11_writeMissing_113, B_X11_writeMissing_33, B_X11_writeMissing_57, B_X11_writeMissing_52, B_X11_writeMissing_67, B_X11_writeMissing_87, B_X11_writeMissing_92, Option.bind_some, back_v, Option.toList_some, Option.toList_none, List.cons_append, List.nil_append, Nat.reduceAdd, Int.reduceToNat, Int.reduceNeg, upm_eq, upm_r, upm_i, if_pos, if_neg, ite_self, true_or, or_true, true_and, and_true, false_or, or_false, false_and, and_false, wr_id, i10, i01, upr_f, upr_eq, thr58, upm_upr, upr_upr, lc_lt, lc_gt, lc_ge, lc_le, afit1, afit0, afitI, bifit, not_true_eq_false, not_false_eq_true, if_true, if_false, Bool.false_eq_true, reduceCtorEq, k1557, k1558, g1557_2, Int.reduceToNat, e2, hn, z, a1, e6]
  · have e : finT T = T := by unfold finT; rw [if_neg h0]
    rw [e]
    refine ⟨w, ?_, h⟩
    have z : w 1557 24 ≠ 0 := by omega
    rw [B_X11_writeMissing_17]
    simp (disch := first | assumption | omega) only [k1559, k1560, k1561, k1562, k1563, k1564, k1565, k1566, k1567, g1557_3, g1557_5, g1557_6, g1557_17, g1557_18, g1557_19, g1557_20, g1557_21, g1557_23, B_X11_writeMissing_0, B_X11_writeMissing_5, B_X11_writeMissing_113, B_X11_writeMissing_33, B_X11_writeMissing_57, B_X11_writeMissing_52, B_X11_writeMissing_67, B_X11_writeMissing_87, B_X11_writeMissing_92, Option.bind_some, back_v, Option.toList_some, Option.toList_none, List.cons_append, List.nil_append, Nat.reduceAdd, Int.reduceToNat, Int.reduceNeg, upm_eq, upm_r, upm_i, if_pos, if_neg, ite_self, true_or, or_true, true_and, and_true, false_or, or_false, false_and, and_false, wr_id, i10, i01, upr_f, upr_eq, thr58, upm_upr, upr_upr, lc_lt, lc_gt, lc_ge, lc_le, afit1, afit0, afitI, bifit, not_true_eq_false, not_false_eq_true, if_true, if_false, Bool.false_eq_true, reduceCtorEq, k1557, k1558, g1557_2, Int.reduceToNat, e2, hn, z, e5]
theorem M_wm_run {l n m : Int} {p : Int → Bool} (hn : 1 ≤ n ∧ n ≤ m ∧ m ≤ 99) (hpk : ∀ k, n < k → k ≤ m → p k = true) (hpm : p (m + 1) = false) (hm : ∀ w, (∀ q, q ≠ 1557 → q ≠ 1567 → w q = w0 q) → ∀ n, a_m 236 [a_r 1557, a_i l, a_i n] (K0 L, w, G a, t) = some (.inl (some (a_i (bi (p n)))), (K0 L, w, G a, t))) (h : tM w0 T w) (hl : T.length + (dig n).length + (if n < m then (dig m).length + 1 else 0) ≤ 400) : ∃ w2 w3, a_m 272 [a_r 1557, a_i n] (K0 L, w, G a, t) = some (.inl none, (K0 L, w2, G a, t)) ∧ a_X 274 59 [a_r 1557, a_i l, a_i n, a_i n] [] (K0 L, w2, G a, t) = a_X 274 17 [a_r 1557, a_i l, a_i (m + 1), a_i m] [] (K0 L, w3, G a, t) ∧ tM w0 (T ++ (dig n ++ (if n < m then [45] ++ dig m else []))) w3 := by
  obtain ⟨w2, a2, b2⟩ := M_saysNumber (L := L) (a := a) (t := t) (n := n) h (by omega) (by omega)
  have q1 := hm w2 b2.1
  have hin := M_wm_in (L := L) (a := a) (t := t) (l := l) (n := n) q1 hn.2.2 (m - n).toNat n hn.1 (by omega) hpk
  have z1 : wr (m + 1) = m + 1 := wr_id (by omega) (by omega)
  have q2 := q1 (m + 1)
  rw [hpm, bi_f] at q2
  by_cases hnm : n < m
  · rw [if_pos hnm] at hl ⊢
    obtain ⟨w3, a3, b3⟩ := M_says (L := L) (a := a) (t := t) (x := 45) b2 (by rw [List.length_append]; omega)
    obtain ⟨w4, a4, b4⟩ := M_saysNumber (L := L) (a := a) (t := t) (n := m) b3 (by omega) (by rw [List.length_append, List.length_append, List.length_singleton]; omega)
    refine ⟨w2, w4, a2, ?_, by simp only [List.append_assoc] at b4 ⊢; exact b4⟩
    have z : ¬ m ≤ n := by omega
    rw [hin]
    rw [B_X11_writeMissing_59]
    simp (disch := first | assumption | omega) only [k1559, k1560, k1561, k1562, k1563, k1564, k1565, k1566, k1567, g1557_3, g1557_5, g1557_6, g1557_17, g1557_18, g1557_19, g1557_20, g1557_21, g1557_23, B_X11_writeMissing_0, B_X11_writeMissing_5, B_X11_writeMissing_113, B_X11_writeMissing_33, B_X11_writeMissing_57, B_X11_writeMissing_52, B_X11_writeMissing_67, B_X11_writeMissing_87, B_X11_writeMissing_92, Option.bind_some, back_v, Option.toList_some, Option.toList_none, List.cons_append, List.nil_append, Nat.reduceAdd, Int.reduceToNat, Int.reduceNeg, upm_eq, upm_r, upm_i, if_pos, if_neg, ite_self, true_or, or_true, true_and, and_true, false_or, or_false, false_and, and_false, wr_id, i10, i01, upr_f, upr_eq, thr58, upm_upr, upr_upr, lc_lt, lc_gt, lc_ge, lc_le, afit1, afit0, afitI, bifit, not_true_eq_false, not_false_eq_true, if_true, if_false, Bool.false_eq_true, reduceCtorEq, k1557, k1558, g1557_2, z1, q2, z, a3, a4]
  · rw [if_neg hnm, List.append_nil]
    refine ⟨w2, w2, a2, ?_, b2⟩
    have z : m ≤ n := by omega
    rw [hin]
    rw [B_X11_writeMissing_59]
    simp (disch := first | assumption | omega) only [k1559, k1560, k1561, k1562, k1563, k1564, k1565, k1566, k1567, g1557_3, g1557_5, g1557_6, g1557_17, g1557_18, g1557_19, g1557_20, g1557_21, g1557_23, B_X11_writeMissing_0, B_X11_writeMissing_5, B_X11_writeMissing_113, B_X11_writeMissing_33, B_X11_writeMissing_57, B_X11_writeMissing_52, B_X11_writeMissing_67, B_X11_writeMissing_87, B_X11_writeMissing_92, Option.bind_some, back_v, Option.toList_some, Option.toList_none, List.cons_append, List.nil_append, Nat.reduceAdd, Int.reduceToNat, Int.reduceNeg, upm_eq, upm_r, upm_i, if_pos, if_neg, ite_self, true_or, or_true, true_and, and_true, false_or, or_false, false_and, and_false, wr_id, i10, i01, upr_f, upr_eq, thr58, upm_upr, upr_upr, lc_lt, lc_gt, lc_ge, lc_le, afit1, afit0, afitI, bifit, not_true_eq_false, not_false_eq_true, if_true, if_false, Bool.false_eq_true, reduceCtorEq, k1557, k1558, g1557_2, z1, q2, z]
theorem M_wm_loop {l : Int} {p : Int → Bool} (hp99 : ∀ i, 99 < i → p i = false) (h2 : 0 ≤ w0 1558 2 ∧ w0 1558 2 ≤ 99) (hpn : ∀ i, w0 1558 2 < i → p i = false) (hm : ∀ w, (∀ q, q ≠ 1557 → q ≠ 1567 → w q = w0 q) → ∀ n, a_m 236 [a_r 1557, a_i l, a_i n] (K0 L, w, G a, t) = some (.inl (some (a_i (bi (p n)))), (K0 L, w, G a, t))) : ∀ (k d : Nat) (n : Int) (T : List Int) (w : Nat → Nat → Int) (z : AV), d ≤ k → n + d = 100 → 1 ≤ n → tM w0 T w → (cT p d n (-1) T).length ≤ 390 → ∃ w', a_X 274 17 [a_r 1557, a_i l, a_i n, z] [] (K0 L, w, G a, t) = some (.inl (some (a_i (((finT (cT p d n (-1) T)).length : Int)))), (K0 L, w', G a, t)) ∧ tM w0 (finT (cT p d n (-1) T)) w' := by
  intro k
  induction k with
  | zero =>
    intro d n T w z hd hn h1 h hl
    rw [cT_none d n T (fun i hi => hpn i (by omega))] at hl ⊢
    exact M_wm_end (by omega) h hl
  | succ k ih =>
    intro d n T w z hd hn h1 h hl
    by_cases hx : n > w0 1558 2
    · rw [cT_none d n T (fun i hi => hpn i (by omega))] at hl ⊢
      exact M_wm_end hx h hl
    obtain ⟨d', rfl⟩ : ∃ d', d = d' + 1 := ⟨d - 1, by omega⟩
    have e2 := h.1 1558 (by decide) (by decide)
    have z1 : wr (n + 1) = n + 1 := wr_id (by omega) (by omega)
    have q1 := hm w h.1 n
    cases hb : p n with
    | false =>
      rw [hb, bi_f] at q1
      rw [cT, hb, if_neg (by decide)] at hl ⊢
      obtain ⟨w', k1, k2⟩ := ih d' (n + 1) T w z (by omega) (by omega) (by omega) h hl
      refine ⟨w', ?_, k2⟩
      rw [← k1]
      rw [B_X11_writeMissing_17]
      simp (disch := first | assumption | omega) only [k1559, k1560, k1561, k1562, k1563, k1564, k1565, k1566, k1567, g1557_3, g1557_5, g1557_6, g1557_17, g1557_18, g1557_19, g1557_20, g1557_21, g1557_23, B_X11_writeMissing_0, B_X11_writeMissing_5, B_X11_writeMissing_113, B_X11_writeMissing_33, B_X11_writeMissing_57, B_X11_writeMissing_52, B_X11_writeMissing_67, B_X11_writeMissing_87, B_X11_writeMissing_92, Option.bind_some, back_v, Option.toList_some, Option.toList_none, List.cons_append, List.nil_append, Nat.reduceAdd, Int.reduceToNat, Int.reduceNeg, upm_eq, upm_r, upm_i, if_pos, if_neg, ite_self, true_or, or_true, true_and, and_true, false_or, or_false, false_and, and_false, wr_id, i10, i01, upr_f, upr_eq, thr58, upm_upr, upr_upr, lc_lt, lc_gt, lc_ge, lc_le, afit1, afit0, afitI, bifit, not_true_eq_false, not_false_eq_true, if_true, if_false, Bool.false_eq_true, reduceCtorEq, k1557, k1558, g1557_2, Int.reduceToNat, e2, hx, q1, z1, ne_eq]
    | true =>
      rw [hb, bi_t] at q1
      obtain ⟨m, e, m1, m2, m3, m4, m5⟩ := wm_in (p := p) (n := n) (by omega) hp99 (d' + 1) n (by omega) hb
      have hc : cT p (d' + 1) n (-1) T = cT p e (m + 1) (-1) (runT T n m) := by rw [cT_first hb (by omega)]; exact m5 T
      rw [hc] at hl ⊢
      have hle := cT_le (p := p) e (m + 1) (-1) (runT T n m)
      have hr := runT_le (T := T) (f := n) (l := m)
      have e5 := h.2.2.1
      have o0 : (1 : Int) ≠ 0 := by decide
      by_cases h0 : T.length = 0
      · rw [if_pos h0] at hr
        obtain ⟨w2, w3, g1, g2, g3⟩ := M_wm_run (L := L) (a := a) (t := t) (l := l) ⟨h1, m1, by omega⟩ m4 m3 hm h (by omega)
        obtain ⟨w', k1, k2⟩ := ih e (m + 1) (runT T n m) w3 (a_i m) (by omega) (by omega) (by omega) (by unfold runT; rw [if_pos h0, List.nil_append]; exact g3) hl
        refine ⟨w', ?_, k2⟩
        rw [← k1, ← g2]
        have z : w 1557 24 ≤ 0 := by omega
        rw [B_X11_writeMissing_17]
        simp (disch := first | assumption | omega) only [k1559, k1560, k1561, k1562, k1563, k1564, k1565, k1566, k1567, g1557_3, g1557_5, g1557_6, g1557_17, g1557_18, g1557_19, g1557_20, g1557_21, g1557_23, B_X11_writeMissing_0, B_X11_writeMissing_5, B_X11_writeMissing_113, B_X11_writeMissing_33, B_X11_writeMissing_57, B_X11_writeMissing_52, B_X11_writeMissing_67, B_X11_writeMissing_87, B_X11_writeMissing_92, Option.bind_some, back_v, Option.toList_some, Option.toList_none, List.cons_append, List.nil_append, Nat.reduceAdd, Int.reduceToNat, Int.reduceNeg, upm_eq, upm_r, upm_i, if_pos, if_neg, ite_self, true_or, or_true, true_and, and_true, false_or, or_false, false_and, and_false, wr_id, i10, i01, upr_f, upr_eq, thr58, upm_upr, upr_upr, lc_lt, lc_gt, lc_ge, lc_le, afit1, afit0, afitI, bifit, not_true_eq_false, not_false_eq_true, if_true, if_false, Bool.false_eq_true, reduceCtorEq, k1557, k1558, g1557_2, Int.reduceToNat, e2, hx, q1, o0, z, g1]
      · rw [if_neg h0] at hr
        obtain ⟨w1, a1, b1⟩ := M_says (L := L) (a := a) (t := t) (x := 44) h (by omega)
        obtain ⟨w2, w3, g1, g2, g3⟩ := M_wm_run (L := L) (a := a) (t := t) (l := l) ⟨h1, m1, by omega⟩ m4 m3 hm b1 (by rw [List.length_append, List.length_singleton]; omega)
        obtain ⟨w', k1, k2⟩ := ih e (m + 1) (runT T n m) w3 (a_i m) (by omega) (by omega) (by omega) (by unfold runT; rw [if_neg h0]; simp only [List.append_assoc] at g3 ⊢; exact g3) hl
        refine ⟨w', ?_, k2⟩
        rw [← k1, ← g2]
        have z : ¬ w 1557 24 ≤ 0 := by omega
        rw [B_X11_writeMissing_17]
        simp (disch := first | assumption | omega) only [k1559, k1560, k1561, k1562, k1563, k1564, k1565, k1566, k1567, g1557_3, g1557_5, g1557_6, g1557_17, g1557_18, g1557_19, g1557_20, g1557_21, g1557_23, B_X11_writeMissing_0, B_X11_writeMissing_5, B_X11_writeMissing_113, B_X11_writeMissing_33, B_X11_writeMissing_57, B_X11_writeMissing_52, B_X11_writeMissing_67, B_X11_writeMissing_87, B_X11_writeMissing_92, Option.bind_some, back_v, Option.toList_some, Option.toList_none, List.cons_append, List.nil_append, Nat.reduceAdd, Int.reduceToNat, Int.reduceNeg, upm_eq, upm_r, upm_i, if_pos, if_neg, ite_self, true_or, or_true, true_and, and_true, false_or, or_false, false_and, and_false, wr_id, i10, i01, upr_f, upr_eq, thr58, upm_upr, upr_upr, lc_lt, lc_gt, lc_ge, lc_le, afit1, afit0, afitI, bifit, not_true_eq_false, not_false_eq_true, if_true, if_false, Bool.false_eq_true, reduceCtorEq, k1557, k1558, g1557_2, Int.reduceToNat, e2, hx, q1, o0, z, a1, g1]
end WMI
section WMO
variable {L : Nat}
theorem op_writeMissing {l : Int} : OP L 128 274 [a_i l] e2 := by
  intro c v w a t c0 c1 hX
  have be := fun pc len e ls st σ => pub_e (m := 128) (pc := pc) (len := len) (e := e) (ls := ls) (st := st) (σ := σ) (by decide)
  by_cases hv : v 18 8 = 0
  · have hw := XX_ld0 hX hv
    have cn := C_need_bad (L := L) (a := a) (t := t) hv
    have mn := M_noListener0 (L := L) (a := a) (t := t) (u := w) (l := l) hw
    exact OPc_bad (e := 1) (z := 0) (cd := 1) hX (by decide) (by simp (disch := first | assumption | omega) only [k18, g18_0, g18_1, g18_2, g18_3, g18_4, g18_5, g18_6, g18_7, E_X10_writeMissing, B_X10_writeMissing_0, B_X10_writeMissing_4, B_X10_writeMissing_9, B_X10_writeMissing_16, B_X10_writeMissing_95, B_X10_writeMissing_35, B_X10_writeMissing_56, B_X10_writeMissing_68, Option.bind_some, back_v, Option.toList_some, Option.toList_none, List.cons_append, List.nil_append, Nat.reduceAdd, Int.reduceToNat, Int.reduceNeg, upm_eq, upm_r, upm_i, if_pos, if_neg, ite_self, true_or, or_true, true_and, and_true, false_or, or_false, false_and, and_false, wr_id, i10, i01, upr_f, upr_eq, thr58, upm_upr, upr_upr, lc_lt, lc_gt, lc_ge, lc_le, afit1, afit0, afitI, bifit, not_true_eq_false, not_false_eq_true, if_true, if_false, Bool.false_eq_true, reduceCtorEq, k1557, k1558, g1557_2, cn, be]) (by simp (disch := first | assumption | omega) only [E_X11_writeMissing, B_X11_writeMissing_0, B_X11_writeMissing_5, B_X11_writeMissing_113, B_X11_writeMissing_33, B_X11_writeMissing_57, B_X11_writeMissing_52, B_X11_writeMissing_67, B_X11_writeMissing_87, B_X11_writeMissing_92, Option.bind_some, back_v, Option.toList_some, Option.toList_none, List.cons_append, List.nil_append, Nat.reduceAdd, Int.reduceToNat, Int.reduceNeg, upm_eq, upm_r, upm_i, if_pos, if_neg, ite_self, true_or, or_true, true_and, and_true, false_or, or_false, false_and, and_false, wr_id, i10, i01, upr_f, upr_eq, thr58, upm_upr, upr_upr, lc_lt, lc_gt, lc_ge, lc_le, afit1, afit0, afitI, bifit, not_true_eq_false, not_false_eq_true, if_true, if_false, Bool.false_eq_true, reduceCtorEq, k1557, k1558, g1557_2, mn])
  obtain ⟨hw, hS⟩ := XX_ld hX hv
  obtain ⟨⟨n3, n3a, n3b⟩, ⟨n2, n2a, n2b⟩, ⟨n4, n4a, n4b⟩, ⟨n1, n1a, n1b⟩, ⟨n0, n0a, n0b⟩, n5, n6⟩ := RS_n hS
  have hR : isRad 21 := .inl rfl
  have hM := hS.2.1
  have hW : upm w 1557 0 0 1558 = w 1558 := upm_rf (by decide)
  have cn := C_need (L := L) (a := a) (t := t) hv
  by_cases hl : l < 0 ∨ w 1558 3 ≤ l
  · have cl := C_needL_bad (L := L) (a := a) (t := t) (v := v) (l := l) (by omega)
    have mn := M_noListener2 (L := L) (a := a) (t := t) (u := w) (l := l) hw (by omega) (inB_f (by omega))
    exact OPc_bad (e := 2) (z := 0) (cd := 2) hX (by decide) (by simp (disch := first | assumption | omega) only [k18, g18_0, g18_1, g18_2, g18_3, g18_4, g18_5, g18_6, g18_7, E_X10_writeMissing, B_X10_writeMissing_0, B_X10_writeMissing_4, B_X10_writeMissing_9, B_X10_writeMissing_16, B_X10_writeMissing_95, B_X10_writeMissing_35, B_X10_writeMissing_56, B_X10_writeMissing_68, Option.bind_some, back_v, Option.toList_some, Option.toList_none, List.cons_append, List.nil_append, Nat.reduceAdd, Int.reduceToNat, Int.reduceNeg, upm_eq, upm_r, upm_i, if_pos, if_neg, ite_self, true_or, or_true, true_and, and_true, false_or, or_false, false_and, and_false, wr_id, i10, i01, upr_f, upr_eq, thr58, upm_upr, upr_upr, lc_lt, lc_gt, lc_ge, lc_le, afit1, afit0, afitI, bifit, not_true_eq_false, not_false_eq_true, if_true, if_false, Bool.false_eq_true, reduceCtorEq, k1557, k1558, g1557_2, cn, cl, be]) (by simp (disch := first | assumption | omega) only [E_X11_writeMissing, B_X11_writeMissing_0, B_X11_writeMissing_5, B_X11_writeMissing_113, B_X11_writeMissing_33, B_X11_writeMissing_57, B_X11_writeMissing_52, B_X11_writeMissing_67, B_X11_writeMissing_87, B_X11_writeMissing_92, Option.bind_some, back_v, Option.toList_some, Option.toList_none, List.cons_append, List.nil_append, Nat.reduceAdd, Int.reduceToNat, Int.reduceNeg, upm_eq, upm_r, upm_i, if_pos, if_neg, ite_self, true_or, or_true, true_and, and_true, false_or, or_false, false_and, and_false, wr_id, i10, i01, upr_f, upr_eq, thr58, upm_upr, upr_upr, lc_lt, lc_gt, lc_ge, lc_le, afit1, afit0, afitI, bifit, not_true_eq_false, not_false_eq_true, if_true, if_false, Bool.false_eq_true, reduceCtorEq, k1557, k1558, g1557_2, mn])
  have hl2 : 0 ≤ l ∧ l < w 1558 3 := by omega
  have cl := C_needL (L := L) (a := a) (t := t) (v := v) (l := l) (by omega)
  have mnA := fun aa : Nat → Nat → Nat => M_noListener (L := L) (a := aa) (t := t) (u := w) (l := l) hw (by omega) (inB_t (by omega) (by omega))
  have mn := mnA a
  obtain ⟨C, hC⟩ := hS.1
  have hgr := (hC.2.2.2.2.2.1 l hl2.1 hl2.2).2.2.2.2.2.2.2.2.1.2
  have hz : ∀ n, w 1558 2 < n → mMisses (w 1558) l n = false := by
    intro n hn
    unfold mMisses
    rw [decide_eq_false (p := n < mLi (w 1558) l 11) (by omega), Bool.false_and, Bool.and_false]
  have hpc : ∀ v', (∀ q, q ≠ 1301 → q ≠ 1302 → v' q = v q) → ∀ n, a_m 41 [a_r 21, a_i l, a_i n] (K0 L, v', G a, t) = some (.inl (some (a_i (bi (mMisses (w 1558) l n)))), (K0 L, v', G a, t)) := by
    intro v' hv' n
    have e : vw v' 21 = vw v 21 := by
      funext q j
      unfold vw
      split
      · rw [hv' _ (by omega) (by omega)]
      · rfl
    exact C_misses (L := L) (t := t) (u := v') (R := 21) (l := l) (n := n) hR (by rw [e]; exact hC) hM hl2
  have hpm : ∀ w', (∀ q, q ≠ 1557 → q ≠ 1567 → w' q = upm (upm w 1557 0 0) 1557 24 0 q) → ∀ n, a_m 236 [a_r 1557, a_i l, a_i n] (K0 L, w', G a, t) = some (.inl (some (a_i (bi (mMisses (w 1558) l n)))), (K0 L, w', G a, t)) := by
    intro w' hw' n
    have e : w' 1558 = w 1558 := by rw [hw' 1558 (by decide) (by decide), upm_rf (by decide), upm_rf (by decide)]
    have q1 := M_misses (L := L) (u := w') (a := a) (t := t) (l := l) (n := n) (by omega) (by rw [e]; omega)
    rw [e] at q1
    exact q1
  have hbd : ((cT (mMisses (w 1558) l) 99 1 (-1) []).length : Int) ≤ 202 := cT_bd 99 1 (-1) [] (by decide) (by decide) (.inl ⟨rfl, by split <;> decide⟩)
  have cc : a_m 74 [a_r 1301] (K0 L, v, G a, t) = some (.inl none, (K0 L, upm v 1301 1 0, G a, t)) := by simp (disch := first | assumption | omega) only [k1301, k1302, g1301_0, E_X7_clear, B_X7_clear_0, Option.bind_some, back_v, Option.toList_some, Option.toList_none, List.cons_append, List.nil_append, Nat.reduceAdd, Int.reduceToNat, Int.reduceNeg, upm_eq, upm_r, upm_i, if_pos, if_neg, ite_self, true_or, or_true, true_and, and_true, false_or, or_false, false_and, and_false, wr_id, i10, i01, upr_f, upr_eq, thr58, upm_upr, upr_upr, lc_lt, lc_gt, lc_ge, lc_le, afit1, afit0, afitI, bifit, not_true_eq_false, not_false_eq_true, if_true, if_false, Bool.false_eq_true, reduceCtorEq, k1557, k1558, g1557_2]
  have tc0 : tC v [] (upm v 1301 1 0) := ⟨fun q q1 _ => upm_rf q1, by rw [upm_eq]; exact tx_nil⟩
  obtain ⟨v2, c1, c2⟩ := C_wm_loop (L := L) (a := a) (t := t) (v0 := v) hpc 99 1 (-1) [] _ (by decide) (by decide) tc0 (by omega)
  have tm0 : tM (upm (upm w 1557 0 0) 1557 24 0) [] (upm (upm w 1557 0 0) 1557 24 0) := ⟨fun _ _ _ => rfl, fun _ _ => rfl, by rw [upm_eq]; exact tx_nil⟩
  have e2 : upm (upm w 1557 0 0) 1557 24 0 1558 = w 1558 := by rw [upm_rf (by decide), upm_rf (by decide)]
  obtain ⟨w2, m1, m2⟩ := M_wm_loop (L := L) (a := a) (t := t) (w0 := upm (upm w 1557 0 0) 1557 24 0) (l := l) (p := mMisses (w 1558) l) (fun i hi => hz i (by omega)) (by rw [e2]; omega) (by rw [e2]; exact hz) hpm 99 99 1 [] _ (a_x false) (by decide) (by decide) (by decide) tm0 (by omega)
  obtain ⟨x1, x2, x3, x4⟩ := XX_text hX (fun _ _ => rfl) (.inl Mq_thr) c2 m2 (by
    unfold finT
    split
    · decide
    · omega)
  refine ⟨v2, w2, a, x1, x2, x3, .inl ⟨x4 upm_eq, ((finT (cT (mMisses (w 1558) l) 99 1 (-1) [])).length : Int), ?_, ?_⟩⟩
  · rw [← c1]
    simp (disch := first | assumption | omega) only [k18, g18_0, g18_1, g18_2, g18_3, g18_4, g18_5, g18_6, g18_7, k1301, k1302, g1301_0, E_X10_writeMissing, B_X10_writeMissing_0, B_X10_writeMissing_4, B_X10_writeMissing_9, B_X10_writeMissing_16, B_X10_writeMissing_95, B_X10_writeMissing_35, B_X10_writeMissing_56, B_X10_writeMissing_68, Option.bind_some, back_v, Option.toList_some, Option.toList_none, List.cons_append, List.nil_append, Nat.reduceAdd, Int.reduceToNat, Int.reduceNeg, upm_eq, upm_r, upm_i, if_pos, if_neg, ite_self, true_or, or_true, true_and, and_true, false_or, or_false, false_and, and_false, wr_id, i10, i01, upr_f, upr_eq, thr58, upm_upr, upr_upr, lc_lt, lc_gt, lc_ge, lc_le, afit1, afit0, afitI, bifit, not_true_eq_false, not_false_eq_true, if_true, if_false, Bool.false_eq_true, reduceCtorEq, k1557, k1558, g1557_2, cn, cl, cc]
  · rw [← m1]
    simp (disch := first | assumption | omega) only [E_X11_writeMissing, B_X11_writeMissing_0, B_X11_writeMissing_5, B_X11_writeMissing_113, B_X11_writeMissing_33, B_X11_writeMissing_57, B_X11_writeMissing_52, B_X11_writeMissing_67, B_X11_writeMissing_87, B_X11_writeMissing_92, Option.bind_some, back_v, Option.toList_some, Option.toList_none, List.cons_append, List.nil_append, Nat.reduceAdd, Int.reduceToNat, Int.reduceNeg, upm_eq, upm_r, upm_i, if_pos, if_neg, ite_self, true_or, or_true, true_and, and_true, false_or, or_false, false_and, and_false, wr_id, i10, i01, upr_f, upr_eq, thr58, upm_upr, upr_upr, lc_lt, lc_gt, lc_ge, lc_le, afit1, afit0, afitI, bifit, not_true_eq_false, not_false_eq_true, if_true, if_false, Bool.false_eq_true, reduceCtorEq, k1557, k1558, g1557_2, mn]
end WMO
