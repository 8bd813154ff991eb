section MGC
variable {L : Nat} {a : Nat → Nat → Nat} {t : Nat × Nat × Nat}
def ivR (v : Nat → Nat → Int) (r : Int) : Int × Int × Int := (v 23 r.toNat, v 25 r.toNat, v 26 r.toNat)
def rwI (v : Nat → Nat → Int) (n : Nat) (M : List (Int × Int × Int)) : Prop :=
  v 1295 6 = n ∧ (∀ j, j < n → (0 ≤ v 1300 j ∧ v 1300 j < 111) ∧ v 25 (v 1300 j).toNat < v 26 (v 1300 j).toNat) ∧ (∀ i j, i < j → j < n → lxR v (v 1300 i) (v 1300 j)) ∧ ((List.range n).map (fun j => ivR v (v 1300 j))).Perm M
theorem C_insertRow {v : Nat → Nat → Int} {n : Nat} {r : Int} {M : List (Int × Int × Int)} (h : rwI v n M) (hn : n ≤ 11) (hr : 0 ≤ r ∧ r < 111) (hft : v 25 r.toNat < v 26 r.toNat) : ∃ v', a_m 24 [a_r 1295, a_r 22, a_i r] (K0 L, v, G a, t) = some (.inl none, (K0 L, v', G a, t)) ∧ (∀ q, q ≠ 1295 → q ≠ 1300 → v' q = v q) ∧ (∀ j, j ≠ 6 → v' 1295 j = v 1295 j) ∧ rwI v' (n + 1) (ivR v r :: M) := by
  obtain ⟨h1, h2, h3, h4⟩ := h
  obtain ⟨v', i, i0, g0, g1, g2, g3, g4, g5, g6⟩ := C_insRow_loop (L := L) (a := a) (t := t) hr hn n v (Nat.le_refl _) h1 (fun j hj => (h2 j hj).1)
  have e23 : v' 23 = v 23 := g1 _ (by decide) (by decide)
  have e25 : v' 25 = v 25 := g1 _ (by decide) (by decide)
  have e26 : v' 26 = v 26 := g1 _ (by decide) (by decide)
  have elx : ∀ x y, lxR v' x y ↔ lxR v x y := fun x y => by unfold lxR; rw [e23, e25]
  have eiv : ∀ x, ivR v' x = ivR v x := fun x => by unfold ivR; rw [e23, e25, e26]
  have blt : ∀ j, j < i → v' 1300 j = v 1300 j := fun j hj => by rw [g4, if_pos hj]
  have beq : v' 1300 i = r := by rw [g4, if_neg (Nat.lt_irrefl _), if_pos rfl]
  have bgt : ∀ j, i < j → j ≤ n → v' 1300 j = v 1300 (j - 1) := fun j hj hj2 => by rw [g4, if_neg (by omega), if_neg (by omega), if_pos hj2]
  have lo : ∀ j, j < i → lxR v (v 1300 j) r := fun j hj => by
    rcases g5 with g5 | g5
    · omega
    · have h9 := ahR_f g5
      by_cases hj2 : j = i - 1
      · rw [hj2]; exact h9
      · exact lxR_trans (h3 j (i - 1) (by omega) (by omega)) h9
  have hi : ∀ j, i ≤ j → j < n → lxR v r (v 1300 j) := fun j j1 j2 => ahR_t (g6 j j1 j2)
  refine ⟨v', ?_, g1, g2, by rw [g3]; omega, fun j hj => ?_, fun x y hxy hy => ?_, ?_⟩
  · rw [← g0]
    simp (disch := first | assumption | omega) only [k1295, k1296, k1297, k1298, k1299, k1300, g1295_0, g1295_1, g1295_2, g1295_3, g1295_5, E_X3_insertRow, B_X3_insertRow_0, B_X3_insertRow_23, Option.bind_some, back_v, Option.toList_some, Option.toList_none, List.cons_append, List.nil_append, Nat.reduceAdd, Int.reduceToNat, Int.reduceNeg, upm_eq, upm_r, upm_i, if_pos, if_neg, ite_self, true_or, or_true, true_and, and_true, false_or, or_false, false_and, and_false, wr_id, i10, i01, upr_f, upr_eq, thr58, upm_upr, upr_upr, lc_lt, lc_gt, lc_ge, lc_le, afit1, afit0, afitI, bifit, not_true_eq_false, not_false_eq_true, if_true, if_false, Bool.false_eq_true, reduceCtorEq, k1557, k1558, g1557_2, h1]
  · rw [e25, e26]
    rcases Nat.lt_trichotomy j i with hh | hh | hh
    · rw [blt j hh]; exact h2 j (by omega)
    · subst hh; rw [beq]; exact ⟨hr, hft⟩
    · rw [bgt j hh (by omega)]; exact h2 (j - 1) (by omega)
  · rw [elx]
    rcases Nat.lt_trichotomy x i with hx | hx | hx
    · rw [blt x hx]
      rcases Nat.lt_trichotomy y i with hh | hh | hh
      · rw [blt y hh]; exact h3 x y hxy (by omega)
      · subst hh; rw [beq]; exact lo x hx
      · rw [bgt y hh (by omega)]
        by_cases hxy2 : x < y - 1
        · exact h3 x (y - 1) hxy2 (by omega)
        · omega
    · subst hx
      rw [beq, bgt y hxy (by omega)]
      exact hi (y - 1) (by omega) (by omega)
    · rw [bgt x hx (by omega), bgt y (by omega) (by omega)]
      exact h3 (x - 1) (y - 1) (by omega) (by omega)
  · have := ins_perm (a := fun j => ivR v (v 1300 j)) (a' := fun j => ivR v' (v' 1300 j)) (r := ivR v r) (i := i) n i0 (fun j hj => by show ivR v' _ = ivR v _; rw [eiv, blt j hj]) (by show ivR v' _ = ivR v _; rw [eiv, beq]) (fun j j1 j2 => by show ivR v' _ = ivR v _; rw [eiv, bgt j j1 j2])
    exact this.trans (h4.cons _)
/-- what the list at q tells of its slots -/
def mgH (v : Nat → Nat → Int) (q : Nat) (f : Int → Int → Int) (d : Int) : Prop := ∀ k : Int, 0 ≤ k → k < 12 → (0 ≤ v q k.toNat ∧ v q k.toNat ≤ 99) ∧ v 23 (rowI k (v q k.toNat)).toNat = f k 0 ∧ v 24 (rowI k (v q k.toNat)).toNat = f k 1 ∧ v 25 (rowI k (v q k.toNat)).toNat = f k 2 ∧ v 26 (rowI k (v q k.toNat)).toNat = f k 3 ∧ (f k 1 = d → f k 2 < f k 3)
theorem C_coll_loop {q : Nat} {f : Int → Int → Int} {day : Int} (hq : q < 148) (kq : K0 L q = (20, 12)) : ∀ (d : Nat) (x : Nat) (v : Nat → Nat → Int) (n : Nat) (z : AV), x + d = 12 → mgH v q f day → rwI v n (SLs f day x) → n ≤ x →
    ∃ v' n' z', a_X 23 8 [a_r 1295, a_r 22, a_r q, a_i day, a_i (x : Int), z] [] (K0 L, v, G a, t) = a_X 23 59 [a_r 1295, a_r 22, a_r q, a_i day, a_i 0, z'] [] (K0 L, upm v' 1295 4 0, G a, t) ∧ (∀ q, q ≠ 1295 → q ≠ 1300 → v' q = v q) ∧ n' ≤ 12 ∧ rwI v' n' (SLs f day 12) := by
  intro d
  induction d with
  | zero =>
    intro x v n z hx hm hr hn
    have : x = 12 := by omega
    subst this
    refine ⟨v, n, z, ?_, fun _ _ _ => rfl, hn, hr⟩
    have h12 : ((12 : Nat) : Int) ≥ 12 := by decide
    rw [B_X3_collect_8]
    simp (disch := first | assumption | omega) only [k1295, k1296, k1297, k1298, k1299, k1300, g1295_0, g1295_1, g1295_2, g1295_3, g1295_5, B_X3_collect_0, B_X3_collect_25, B_X3_collect_80, B_X3_collect_45, Option.bind_some, back_v, Option.toList_some, Option.toList_none, List.cons_append, List.nil_append, Nat.reduceAdd, Int.reduceToNat, Int.reduceNeg, upm_eq, upm_r, upm_i, if_pos, if_neg, ite_self, true_or, or_true, true_and, and_true, false_or, or_false, false_and, and_false, wr_id, i10, i01, upr_f, upr_eq, thr58, upm_upr, upr_upr, lc_lt, lc_gt, lc_ge, lc_le, afit1, afit0, afitI, bifit, not_true_eq_false, not_false_eq_true, if_true, if_false, Bool.false_eq_true, reduceCtorEq, k1557, k1558, g1557_2, h12]
  | succ d ih =>
    intro x v n z hx hm hr hn
    obtain ⟨m1, m2, m3, m4, m5, m6⟩ := hm (x : Int) (by omega) (by omega)
    have hx12 : ¬ (x : Int) ≥ 12 := by omega
    have x0 : (0 : Int) ≤ (x : Int) := by omega
    have x12 : (x : Int) < ((12 : Nat) : Int) := by omega
    have z1 : (x : Int) + 1 = ((x + 1 : Nat) : Int) := by omega
    have pr := C_rowOf (u := v) (t := t) (kk := K0 L) (g := G a) (r := 22) (k := (x : Int)) m1
    have rr : 0 ≤ rowI (x : Int) (v q (x : Int).toNat) ∧ rowI (x : Int) (v q (x : Int).toNat) < 111 := by unfold rowI; split <;> omega
    have r1 : rowI (x : Int) (v q (x : Int).toNat) < ((111 : Nat) : Int) := by omega
    by_cases hd : f (x : Int) 1 = day
    · obtain ⟨v1, g0, g1, g2, g3⟩ := C_insertRow (L := L) (a := a) (t := t) (r := rowI (x : Int) (v q (x : Int).toNat)) hr (by omega) rr (by rw [m4, m5]; exact m6 hd)
      have hm1 : mgH v1 q f day := fun k k0 k1 => by
        rw [g1 q (by omega) (by omega), g1 23 (by decide) (by decide), g1 24 (by decide) (by decide), g1 25 (by decide) (by decide), g1 26 (by decide) (by decide)]
        exact hm k k0 k1
      have hr1 : rwI v1 (n + 1) (SLs f day (x + 1)) := by
        rw [SLs, if_pos hd]
        unfold ivR at g3
        rw [m2, m4, m5] at g3
        exact g3
      obtain ⟨v', n', z', e0, e1, e2, e3⟩ := ih (x + 1) v1 (n + 1) (a_i (rowI (x : Int) (v q (x : Int).toNat))) (by omega) hm1 hr1 (by omega)
      refine ⟨v', n', z', ?_, fun q q1 q2 => by rw [e1 q q1 q2, g1 q q1 q2], e2, e3⟩
      rw [← e0]
      have hne : ¬ v 24 (rowI (x : Int) (v q (x : Int).toNat)).toNat ≠ day := by rw [m3]; exact fun h => h hd
      rw [B_X3_collect_8]
      simp (disch := first | assumption | omega) only [kq21, kq22, kq23, kq24, kq25, kq26, kq27, kq28, kq29, kq30, kq31, kq32, kq123, gq21_0, gq21_1, gq21_2, gq21_3, gq22_0, gq22_1, gq22_2, gq22_3, gq22_4, gq22_5, gq22_6, gq31_0, gq123_j, gq32_j, kq124_l, kq125_l, kq126_l, kq127_l, gq124_2, gq124_3, gq124_4, kq33_p, kq34_p, kq35_p, gq33_6, gq33_7, k1295, k1296, k1297, k1298, k1299, k1300, g1295_0, g1295_1, g1295_2, g1295_3, g1295_5, B_X3_collect_0, B_X3_collect_25, B_X3_collect_80, B_X3_collect_45, Option.bind_some, back_v, Option.toList_some, Option.toList_none, List.cons_append, List.nil_append, Nat.reduceAdd, Int.reduceToNat, Int.reduceNeg, upm_eq, upm_r, upm_i, if_pos, if_neg, ite_self, true_or, or_true, true_and, and_true, false_or, or_false, false_and, and_false, wr_id, i10, i01, upr_f, upr_eq, thr58, upm_upr, upr_upr, lc_lt, lc_gt, lc_ge, lc_le, afit1, afit0, afitI, bifit, not_true_eq_false, not_false_eq_true, if_true, if_false, Bool.false_eq_true, reduceCtorEq, k1557, k1558, g1557_2, hx12, kq, pr, hne, g0, z1]
    · have hr1 : rwI v n (SLs f day (x + 1)) := by rw [SLs, if_neg hd]; exact hr
      obtain ⟨v', n', z', e0, e1, e2, e3⟩ := ih (x + 1) v n (a_i (rowI (x : Int) (v q (x : Int).toNat))) (by omega) hm hr1 (by omega)
      refine ⟨v', n', z', ?_, e1, e2, e3⟩
      rw [← e0]
      have hne : v 24 (rowI (x : Int) (v q (x : Int).toNat)).toNat ≠ day := by rw [m3]; exact hd
      rw [B_X3_collect_8]
      simp (disch := first | assumption | omega) only [kq21, kq22, kq23, kq24, kq25, kq26, kq27, kq28, kq29, kq30, kq31, kq32, kq123, gq21_0, gq21_1, gq21_2, gq21_3, gq22_0, gq22_1, gq22_2, gq22_3, gq22_4, gq22_5, gq22_6, gq31_0, gq123_j, gq32_j, kq124_l, kq125_l, kq126_l, kq127_l, gq124_2, gq124_3, gq124_4, kq33_p, kq34_p, kq35_p, gq33_6, gq33_7, k1295, k1296, k1297, k1298, k1299, k1300, g1295_0, g1295_1, g1295_2, g1295_3, g1295_5, B_X3_collect_0, B_X3_collect_25, B_X3_collect_80, B_X3_collect_45, Option.bind_some, back_v, Option.toList_some, Option.toList_none, List.cons_append, List.nil_append, Nat.reduceAdd, Int.reduceToNat, Int.reduceNeg, upm_eq, upm_r, upm_i, if_pos, if_neg, ite_self, true_or, or_true, true_and, and_true, false_or, or_false, false_and, and_false, wr_id, i10, i01, upr_f, upr_eq, thr58, upm_upr, upr_upr, lc_lt, lc_gt, lc_ge, lc_le, afit1, afit0, afitI, bifit, not_true_eq_false, not_false_eq_true, if_true, if_false, Bool.false_eq_true, reduceCtorEq, k1557, k1558, g1557_2, hx12, kq, pr, hne, z1]
end MGC
