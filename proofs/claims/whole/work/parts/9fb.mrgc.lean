section MGC
variable {L : Nat} {a : Nat → Nat → Nat} {t : Nat × Nat × Nat}
/-- the next row joins the stop that it touches, or stands behind all -/
theorem C_join_loop {v : Nat → Nat → Int} {n : Nat} {r : Int} {M : List (Int × Int × Int)} (hc : cnn M n (v 1296) (v 1297) (v 1298) (v 1299)) (h4 : v 1295 4 = n) (hn : n ≤ 11) (hr : 0 ≤ r ∧ r < 111) (hft : v 25 r.toNat < v 26 r.toNat) (ho : ∀ j, j < n → v 1297 j < v 25 r.toNat ∨ (v 1297 j = v 25 r.toNat ∧ v 1296 j ≤ v 23 r.toNat)) (hlen : M.length ≤ 11) : ∀ (d x : Nat), x + d = n → (∀ j, j < x → v 1296 j = v 23 r.toNat → v 1298 j < v 25 r.toNat) →
    ∃ v' n', a_X 26 2 [a_r 1295, a_r 22, a_i r, a_i (x : Int)] [] (K0 L, v, G a, t) = some (.inl none, (K0 L, v', G a, t)) ∧ (∀ q, (q < 1295 ∨ 1299 < q) → v' q = v q) ∧ (∀ j, j ≠ 4 → v' 1295 j = v 1295 j) ∧ v' 1295 4 = (n' : Nat) ∧ n' ≤ n + 1 ∧ cnn (ivR v r :: M) n' (v' 1296) (v' 1297) (v' 1298) (v' 1299) ∧ (∀ j, j < n' → v' 1297 j < v 25 r.toNat ∨ (v' 1297 j = v 25 r.toNat ∧ v' 1296 j ≤ v 23 r.toNat)) := by
  have r1 : r < ((111 : Nat) : Int) := by omega
  intro d
  induction d with
  | zero =>
    intro x hx hno
    have hxn : x = n := by omega
    subst hxn
    have n0 : (0 : Int) ≤ (x : Int) := by omega
    have n12 : (x : Int) < ((12 : Nat) : Int) := by omega
    have tn : (x : Int).toNat = x := by omega
    have hx : (x : Int) ≥ (x : Int) := Int.le_refl _
    have hlast : ∀ {f : Nat → Int} {y : Int} {j : Nat}, j < x + 1 → insF f x y j = up1 f x y j := fun {f y j} hj => by
      rcases Nat.lt_or_ge j x with hh | hh
      · rw [insF_lt hh, up1_ne (by omega)]
      · have : j = x := by omega
        subst this; rw [insF_eq, up1_eq]
    have hcc := cnn_ins (i := x) hc (Nat.le_refl _) (lse_one (p := v 23 r.toNat) hft) (fun j hj hp => .inl (hno j hj hp)) ho (fun j j1 j2 => by omega)
    refine ⟨upm (upm (upm (upm (upm v 1296 x (v 23 r.toNat)) 1297 x (v 25 r.toNat)) 1298 x (v 26 r.toNat)) 1299 x 1) 1295 4 ((x : Int) + 1), x + 1, ?_, fun q hq => by rw [upm_rf (by omega), upm_rf (by omega), upm_rf (by omega), upm_rf (by omega), upm_rf (by omega)], fun j hj => by rw [upm_i hj, upm_rf (by decide), upm_rf (by decide), upm_rf (by decide), upm_rf (by decide)], by rw [upm_eq]; omega, Nat.le_refl _, ?_, fun j hj => ?_⟩
    · rw [B_X3_join_2]
      simp (disch := first | assumption | omega) only [k1295, k1296, k1297, k1298, k1299, k1300, g1295_0, g1295_1, g1295_2, g1295_3, g1295_5, kq21, kq22, kq23, kq24, kq25, kq26, kq27, kq28, kq29, kq30, kq31, kq32, kq123, gq21_0, gq21_1, gq21_2, gq21_3, gq22_0, gq22_1, gq22_2, gq22_3, gq22_4, gq22_5, gq22_6, gq31_0, gq123_j, gq32_j, kq124_l, kq125_l, kq126_l, kq127_l, gq124_2, gq124_3, gq124_4, kq33_p, kq34_p, kq35_p, gq33_6, gq33_7, B_X3_join_0, B_X3_join_35, Option.bind_some, back_v, Option.toList_some, Option.toList_none, List.cons_append, List.nil_append, Nat.reduceAdd, Int.reduceToNat, Int.reduceNeg, upm_eq, upm_r, upm_i, if_pos, if_neg, ite_self, true_or, or_true, true_and, and_true, false_or, or_false, false_and, and_false, wr_id, i10, i01, upr_f, upr_eq, thr58, upm_upr, upr_upr, lc_lt, lc_gt, lc_ge, lc_le, afit1, afit0, afitI, bifit, not_true_eq_false, not_false_eq_true, if_true, if_false, Bool.false_eq_true, reduceCtorEq, k1557, k1558, g1557_2, h4, hx, tn]
    · refine cnn_congr hcc (fun j hj => ?_) (fun j hj => ?_) (fun j hj => ?_) (fun j hj => ?_)
      · rw [upm_rf (by decide), upm_rf (by decide), upm_rf (by decide), upm_rf (by decide), upm_row, hlast hj]
      · rw [upm_rf (by decide), upm_rf (by decide), upm_rf (by decide), upm_row, upm_rf (by decide), hlast hj]
      · rw [upm_rf (by decide), upm_rf (by decide), upm_row, upm_rf (by decide), upm_rf (by decide), hlast hj]
      · rw [upm_rf (by decide), upm_row, upm_rf (by decide), upm_rf (by decide), upm_rf (by decide), hlast hj]
    · rw [upm_rf (by decide), upm_rf (by decide), upm_rf (by decide), upm_row, upm_rf (by decide), upm_rf (by decide), upm_rf (by decide), upm_rf (by decide), upm_rf (by decide), upm_row]
      by_cases hj2 : j = x
      · subst hj2; rw [up1_eq, up1_eq]; exact .inr ⟨rfl, Int.le_refl _⟩
      · rw [up1_ne hj2, up1_ne hj2]; exact ho j (by omega)
  | succ d ih =>
    intro x hx hno
    have z1 : (x : Int) + 1 = ((x + 1 : Nat) : Int) := by omega
    have n0 : (0 : Int) ≤ (x : Int) := by omega
    have n12 : (x : Int) < ((12 : Nat) : Int) := by omega
    have tn : (x : Int).toNat = x := by omega
    have hxn : ¬ (x : Int) ≥ (n : Int) := by omega
    by_cases hp : v 1296 x = v 23 r.toNat
    · by_cases ht : v 1298 x < v 25 r.toNat
      · obtain ⟨v', n', g⟩ := ih (x + 1) (by omega) (fun j hj hpj => by
          by_cases hjx : j = x
          · rw [hjx]; exact ht
          · exact hno j (by omega) hpj)
        refine ⟨v', n', ?_, g.2⟩
        rw [← g.1]
        have hp' : ¬ v 1296 x ≠ v 23 r.toNat := fun h => h hp
        rw [B_X3_join_2]
        simp (disch := first | assumption | omega) only [k1295, k1296, k1297, k1298, k1299, k1300, g1295_0, g1295_1, g1295_2, g1295_3, g1295_5, kq21, kq22, kq23, kq24, kq25, kq26, kq27, kq28, kq29, kq30, kq31, kq32, kq123, gq21_0, gq21_1, gq21_2, gq21_3, gq22_0, gq22_1, gq22_2, gq22_3, gq22_4, gq22_5, gq22_6, gq31_0, gq123_j, gq32_j, kq124_l, kq125_l, kq126_l, kq127_l, gq124_2, gq124_3, gq124_4, kq33_p, kq34_p, kq35_p, gq33_6, gq33_7, B_X3_join_0, B_X3_join_35, Option.bind_some, back_v, Option.toList_some, Option.toList_none, List.cons_append, List.nil_append, Nat.reduceAdd, Int.reduceToNat, Int.reduceNeg, upm_eq, upm_r, upm_i, if_pos, if_neg, ite_self, true_or, or_true, true_and, and_true, false_or, or_false, false_and, and_false, wr_id, i10, i01, upr_f, upr_eq, thr58, upm_upr, upr_upr, lc_lt, lc_gt, lc_ge, lc_le, afit1, afit0, afitI, bifit, not_true_eq_false, not_false_eq_true, if_true, if_false, Bool.false_eq_true, reduceCtorEq, k1557, k1558, g1557_2, h4, hxn, tn, hp', ht, z1]
      · have hxl : x < n := by omega
        have ob := ho x hxl
        have hl := lse_join (M1 := [(v 23 r.toNat, v 25 r.toNat, v 26 r.toNat)]) hc hxl (lse_one (p := v 23 r.toNat) hft) hp (by omega) (by omega)
        rw [show min (v 25 r.toNat) (v 1297 x) = v 1297 x from by omega] at hl
        have hdr := cnn_drop hc hxl
        have hbe := hc.2.1 x hxl
        have hcc := cnn_ins (i := x) hdr (by omega) hl (fun j hj hpj => by
          by_cases hjx : j < x
          · rw [drpF_lt hjx] at hpj ⊢
            have := (hc.1 j x hjx hxl).2 (by omega)
            exact .inl this
          · rw [drpF_ge hjx] at hpj
            have h1 := (hc.1 x (j + 1) (by omega) (by omega)).2 (by omega)
            have h2 := ho (j + 1) (by omega)
            omega) (fun j hj => by
          rw [drpF_lt hj, drpF_lt hj]
          have := (hc.1 j x hj hxl).1
          omega) (fun j j1 j2 => by
          rw [drpF_ge (by omega), drpF_ge (by omega)]
          have := (hc.1 x (j + 1) (by omega) (by omega)).1
          omega)
        rw [show n - 1 + 1 = n from by omega] at hcc
        have hN := hc.2.2.2.2.1 x hxl
        have hcl := List.countP_le_length (p := wI (v 1296 x) (v 1297 x) (v 1298 x)) (l := M)
        have hdi : ∀ {f : Nat → Int} {y : Int} {j : Nat}, insF (drpF f x) x y j = up1 f x y j := fun {f y j} => by
          rcases Nat.lt_trichotomy j x with hh | hh | hh
          · rw [insF_lt hh, drpF_lt hh, up1_ne (by omega)]
          · subst hh; rw [insF_eq, up1_eq]
          · rw [insF_gt hh, drpF_ge (by omega), up1_ne (by omega), Nat.sub_add_cancel (by omega)]
        have hperm : (ivR v r :: M).Perm (([(v 23 r.toNat, v 25 r.toNat, v 26 r.toNat)] ++ M.filter (wI (v 1296 x) (v 1297 x) (v 1298 x))) ++ M.filter (fun m => !wI (v 1296 x) (v 1297 x) (v 1298 x) m)) := by
          rw [List.append_assoc]
          exact (List.Perm.cons _ (List.filter_append_perm _ M)).symm
        refine ⟨upm (upm v 1298 x (max (v 1298 x) (v 26 r.toNat))) 1299 x (v 1299 x + 1), n, ?_, fun q hq => by rw [upm_rf (by omega), upm_rf (by omega)], fun j hj => by rw [upm_rf (by decide), upm_rf (by decide)], by rw [upm_rf (by decide), upm_rf (by decide)]; exact h4, by omega, ?_, fun j hj => ?_⟩
        · have hp' : ¬ v 1296 x ≠ v 23 r.toNat := fun h => h hp
          rw [B_X3_join_2]
          simp (disch := first | assumption | omega) only [k1295, k1296, k1297, k1298, k1299, k1300, g1295_0, g1295_1, g1295_2, g1295_3, g1295_5, kq21, kq22, kq23, kq24, kq25, kq26, kq27, kq28, kq29, kq30, kq31, kq32, kq123, gq21_0, gq21_1, gq21_2, gq21_3, gq22_0, gq22_1, gq22_2, gq22_3, gq22_4, gq22_5, gq22_6, gq31_0, gq123_j, gq32_j, kq124_l, kq125_l, kq126_l, kq127_l, gq124_2, gq124_3, gq124_4, kq33_p, kq34_p, kq35_p, gq33_6, gq33_7, B_X3_join_0, B_X3_join_35, Option.bind_some, back_v, Option.toList_some, Option.toList_none, List.cons_append, List.nil_append, Nat.reduceAdd, Int.reduceToNat, Int.reduceNeg, upm_eq, upm_r, upm_i, if_pos, if_neg, ite_self, true_or, or_true, true_and, and_true, false_or, or_false, false_and, and_false, wr_id, i10, i01, upr_f, upr_eq, thr58, upm_upr, upr_upr, lc_lt, lc_gt, lc_ge, lc_le, afit1, afit0, afitI, bifit, not_true_eq_false, not_false_eq_true, if_true, if_false, Bool.false_eq_true, reduceCtorEq, k1557, k1558, g1557_2, h4, hxn, tn, hp', ht]
        · refine cnn_congr (cnn_perm hcc hperm) (fun j hj => ?_) (fun j hj => ?_) (fun j hj => ?_) (fun j hj => ?_)
          · rw [upm_rf (by decide), upm_rf (by decide), hdi]
            by_cases hjx : j = x
            · subst hjx; rw [up1_eq]; exact hp
            · rw [up1_ne hjx]
          · rw [upm_rf (by decide), upm_rf (by decide), hdi]
            by_cases hjx : j = x
            · subst hjx; rw [up1_eq]
            · rw [up1_ne hjx]
          · rw [upm_rf (by decide), upm_row, hdi, Int.max_comm]
          · rw [upm_row, upm_rf (by decide), hdi, Int.add_comm]
        · rw [upm_rf (by decide), upm_rf (by decide), upm_rf (by decide), upm_rf (by decide)]
          exact ho j hj
    · obtain ⟨v', n', g⟩ := ih (x + 1) (by omega) (fun j hj hpj => by
        by_cases hjx : j = x
        · rw [hjx] at hpj; exact absurd hpj hp
        · exact hno j (by omega) hpj)
      refine ⟨v', n', ?_, g.2⟩
      rw [← g.1]
      rw [B_X3_join_2]
      simp (disch := first | assumption | omega) only [k1295, k1296, k1297, k1298, k1299, k1300, g1295_0, g1295_1, g1295_2, g1295_3, g1295_5, kq21, kq22, kq23, kq24, kq25, kq26, kq27, kq28, kq29, kq30, kq31, kq32, kq123, gq21_0, gq21_1, gq21_2, gq21_3, gq22_0, gq22_1, gq22_2, gq22_3, gq22_4, gq22_5, gq22_6, gq31_0, gq123_j, gq32_j, kq124_l, kq125_l, kq126_l, kq127_l, gq124_2, gq124_3, gq124_4, kq33_p, kq34_p, kq35_p, gq33_6, gq33_7, B_X3_join_0, B_X3_join_35, Option.bind_some, back_v, Option.toList_some, Option.toList_none, List.cons_append, List.nil_append, Nat.reduceAdd, Int.reduceToNat, Int.reduceNeg, upm_eq, upm_r, upm_i, if_pos, if_neg, ite_self, true_or, or_true, true_and, and_true, false_or, or_false, false_and, and_false, wr_id, i10, i01, upr_f, upr_eq, thr58, upm_upr, upr_upr, lc_lt, lc_gt, lc_ge, lc_le, afit1, afit0, afitI, bifit, not_true_eq_false, not_false_eq_true, if_true, if_false, Bool.false_eq_true, reduceCtorEq, k1557, k1558, g1557_2, h4, hxn, tn, hp, z1]
end MGC
