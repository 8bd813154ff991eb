section MGC
variable {L : Nat} {a : Nat → Nat → Nat} {t : Nat × Nat × Nat}
theorem C_join {v : Nat → Nat → Int} {n : Nat} {r : Int} {M : List (Int × Int × Int)} (hc : cnn M n (v 1296) (v 1297) (v 1298) (v 1299)) (h4 : v 1295 4 = n) (hn : n ≤ 11) (hr : 0 ≤ r ∧ r < 111) (hft : v 25 r.toNat < v 26 r.toNat) (ho : ∀ j, j < n → v 1297 j < v 25 r.toNat ∨ (v 1297 j = v 25 r.toNat ∧ v 1296 j ≤ v 23 r.toNat)) (hlen : M.length ≤ 11) : ∃ v' n', a_m 26 [a_r 1295, a_r 22, a_i r] (K0 L, v, G a, t) = some (.inl none, (K0 L, v', G a, t)) ∧ (∀ q, (q < 1295 ∨ 1299 < q) → v' q = v q) ∧ (∀ j, j ≠ 4 → v' 1295 j = v 1295 j) ∧ v' 1295 4 = (n' : Nat) ∧ n' ≤ n + 1 ∧ cnn (ivR v r :: M) n' (v' 1296) (v' 1297) (v' 1298) (v' 1299) ∧ (∀ j, j < n' → v' 1297 j < v 25 r.toNat ∨ (v' 1297 j = v 25 r.toNat ∧ v' 1296 j ≤ v 23 r.toNat)) := by
  obtain ⟨v', n', g⟩ := C_join_loop (L := L) (a := a) (t := t) hc h4 hn hr hft ho hlen n 0 (by omega) (fun j hj => absurd hj (Nat.not_lt_zero _))
  refine ⟨v', n', ?_, g.2⟩
  have h := g.1
  rw [Int.natCast_zero] at h
  rw [← h]
  simp (disch := first | assumption | omega) only [E_X3_join, B_X3_join_0, B_X3_join_35, Option.bind_some, back_v, Option.toList_some, Option.toList_none, List.cons_append, List.nil_append, Nat.reduceAdd, Int.reduceToNat, Int.reduceNeg, upm_eq, upm_r, upm_i, if_pos, if_neg, ite_self, true_or, or_true, true_and, and_true, false_or, or_false, false_and, and_false, wr_id, i10, i01, upr_f, upr_eq, thr58, upm_upr, upr_upr, lc_lt, lc_gt, lc_ge, lc_le, afit1, afit0, afitI, bifit, not_true_eq_false, not_false_eq_true, if_true, if_false, Bool.false_eq_true, reduceCtorEq, k1557, k1558, g1557_2]
theorem C_joins_loop {q nr : Nat} {day : Int} {z : AV} {v0 : Nat → Nat → Int} {M0 : List (Int × Int × Int)} (h0 : rwI v0 nr M0) (hnr : nr ≤ 12) : ∀ (d i : Nat) (v : Nat → Nat → Int) (n : Nat), i + d = nr → (∀ q, (q < 1295 ∨ 1299 < q) → v q = v0 q) → (∀ j, j ≠ 4 → v 1295 j = v0 1295 j) → v 1295 4 = n → n ≤ i → cnn ((List.range i).map (fun j => ivR v0 (v0 1300 j))) n (v 1296) (v 1297) (v 1298) (v 1299) → (∀ j k, j < n → i ≤ k → k < nr → v 1297 j < v0 25 (v0 1300 k).toNat ∨ (v 1297 j = v0 25 (v0 1300 k).toNat ∧ v 1296 j ≤ v0 23 (v0 1300 k).toNat)) →
    ∃ v' n', a_X 23 59 [a_r 1295, a_r 22, a_r q, a_i day, a_i (i : Int), z] [] (K0 L, v, G a, t) = some (.inl none, (K0 L, v', G a, t)) ∧ (∀ q, (q < 1295 ∨ 1299 < q) → v' q = v0 q) ∧ v' 1295 4 = (n' : Nat) ∧ n' ≤ nr ∧ cnn M0 n' (v' 1296) (v' 1297) (v' 1298) (v' 1299) := by
  obtain ⟨r1, r2, r3, r4⟩ := h0
  intro d
  induction d with
  | zero =>
    intro i v n hi hv hj h4 hn hc ho
    have hin : i = nr := by omega
    subst hin
    refine ⟨v, n, ?_, hv, h4, hn, cnn_perm hc r4.symm⟩
    have e6 : v 1295 6 = (i : Int) := by rw [hj 6 (by decide)]; exact r1
    have hx : (i : Int) ≥ (i : Int) := Int.le_refl _
    rw [B_X3_collect_59]
    simp (disch := first | assumption | omega) only [k1295, k1296, k1297, k1298, k1299, k1300, g1295_0, g1295_1, g1295_2, g1295_3, g1295_5, B_X3_collect_0, B_X3_collect_25, B_X3_collect_80, B_X3_collect_45, Option.bind_some, back_v, Option.toList_some, Option.toList_none, List.cons_append, List.nil_append, Nat.reduceAdd, Int.reduceToNat, Int.reduceNeg, upm_eq, upm_r, upm_i, if_pos, if_neg, ite_self, true_or, or_true, true_and, and_true, false_or, or_false, false_and, and_false, wr_id, i10, i01, upr_f, upr_eq, thr58, upm_upr, upr_upr, lc_lt, lc_gt, lc_ge, lc_le, afit1, afit0, afitI, bifit, not_true_eq_false, not_false_eq_true, if_true, if_false, Bool.false_eq_true, reduceCtorEq, k1557, k1558, g1557_2, e6, hx]
  | succ d ih =>
    intro i v n hi hv hj h4 hn hc ho
    obtain ⟨rb, rf⟩ := r2 i (by omega)
    have e23 := hv 23 (by decide)
    have e25 := hv 25 (by decide)
    have e26 := hv 26 (by decide)
    have e00 := hv 1300 (by decide)
    have eiv : ∀ x, ivR v x = ivR v0 x := fun x => by unfold ivR; rw [e23, e25, e26]
    obtain ⟨v', n', g0, g1, g2, g3, g4, g5, g6⟩ := C_join (L := L) (a := a) (t := t) (r := v0 1300 i) hc h4 (by omega) rb (by rw [e25, e26]; exact rf) (fun j hj => by rw [e25, e23]; exact ho j i hj (by omega) (by omega)) (by rw [List.length_map, List.length_range]; omega)
    rw [eiv] at g5
    rw [e25, e23] at g6
    have hp : ((List.range (i + 1)).map (fun j => ivR v0 (v0 1300 j))).Perm (ivR v0 (v0 1300 i) :: (List.range i).map (fun j => ivR v0 (v0 1300 j))) := by
      rw [List.range_succ, List.map_append, List.map_cons, List.map_nil]
      exact List.perm_append_singleton _ _
    obtain ⟨v2, n2, k0, k1, k2, k3, k4⟩ := ih (i + 1) v' n' (by omega) (fun q hq => by rw [g1 q hq, hv q hq]) (fun j hj' => by rw [g2 j hj', hj j hj']) g3 (by omega) (cnn_perm g5 hp) (fun j k hj hk hk2 => by
      have h1 := g6 j hj
      have h2 := r3 i k (by omega) hk2
      unfold lxR at h2
      omega)
    refine ⟨v2, n2, ?_, k1, k2, k3, k4⟩
    rw [← k0]
    have e6 : v 1295 6 = (nr : Int) := by rw [hj 6 (by decide)]; exact r1
    have hx : ¬ (i : Int) ≥ (nr : Int) := by omega
    have z1 : (i : Int) + 1 = ((i + 1 : Nat) : Int) := by omega
    have i0 : (0 : Int) ≤ (i : Int) := by omega
    have i12 : (i : Int) < ((12 : Nat) : Int) := by omega
    have tn : (i : Int).toNat = i := by omega
    rw [B_X3_collect_59]
    simp (disch := first | assumption | omega) only [k1295, k1296, k1297, k1298, k1299, k1300, g1295_0, g1295_1, g1295_2, g1295_3, g1295_5, B_X3_collect_0, B_X3_collect_25, B_X3_collect_80, B_X3_collect_45, Option.bind_some, back_v, Option.toList_some, Option.toList_none, List.cons_append, List.nil_append, Nat.reduceAdd, Int.reduceToNat, Int.reduceNeg, upm_eq, upm_r, upm_i, if_pos, if_neg, ite_self, true_or, or_true, true_and, and_true, false_or, or_false, false_and, and_false, wr_id, i10, i01, upr_f, upr_eq, thr58, upm_upr, upr_upr, lc_lt, lc_gt, lc_ge, lc_le, afit1, afit0, afitI, bifit, not_true_eq_false, not_false_eq_true, if_true, if_false, Bool.false_eq_true, reduceCtorEq, k1557, k1558, g1557_2, e6, hx, e00, tn, g0, z1]
theorem C_collect {q : Nat} {f : Int → Int → Int} {day : Int} {v : Nat → Nat → Int} (hq : q < 148) (kq : K0 L q = (20, 12)) (hm : mgH v q f day) : ∃ v' n, a_m 23 [a_r 1295, a_r 22, a_r q, a_i day] (K0 L, v, G a, t) = some (.inl none, (K0 L, v', G a, t)) ∧ (∀ q, (q < 1295 ∨ 1300 < q) → v' q = v q) ∧ v' 1295 4 = (n : Nat) ∧ n ≤ 12 ∧ cnn (SLs f day 12) n (v' 1296) (v' 1297) (v' 1298) (v' 1299) := by
  obtain ⟨v1, n1, z1, e0, e1, e2, e3⟩ := C_coll_loop (L := L) (a := a) (t := t) (f := f) (day := day) hq kq 12 0 (upm v 1295 6 0) 0 (a_x false) (by decide) (fun k k0 k1 => by
    rw [upm_rf (by omega), upm_rf (by decide), upm_rf (by decide), upm_rf (by decide), upm_rf (by decide)]
    exact hm k k0 k1) ⟨upm_eq, fun j hj => absurd hj (Nat.not_lt_zero _), fun i j _ hj => absurd hj (Nat.not_lt_zero _), List.Perm.refl _⟩ (Nat.le_refl _)
  have e3' : rwI (upm v1 1295 4 0) n1 (SLs f day 12) := by
    obtain ⟨r1, r2, r3, r4⟩ := e3
    unfold rwI lxR ivR
    rw [upm_i (by decide), upm_rf (by decide), upm_rf (by decide), upm_rf (by decide), upm_rf (by decide)]
    exact ⟨r1, r2, r3, r4⟩
  obtain ⟨v2, n2, k0, k1, k2, k3, k4⟩ := C_joins_loop (L := L) (a := a) (t := t) (q := q) (day := day) (z := z1) e3' e2 n1 0 (upm v1 1295 4 0) 0 (by omega) (fun _ _ => rfl) (fun _ _ => rfl) upm_eq (Nat.le_refl _) cnn_nil (fun j k hj => absurd hj (Nat.not_lt_zero _))
  refine ⟨v2, n2, ?_, fun q hq => ?_, k2, by omega, k4⟩
  · rw [Int.natCast_zero] at k0 e0
    rw [← k0, ← e0]
    simp (disch := first | assumption | omega) only [k1295, k1296, k1297, k1298, k1299, k1300, g1295_0, g1295_1, g1295_2, g1295_3, g1295_5, E_X3_collect, B_X3_collect_0, B_X3_collect_25, B_X3_collect_80, B_X3_collect_45, Option.bind_some, back_v, Option.toList_some, Option.toList_none, List.cons_append, List.nil_append, Nat.reduceAdd, Int.reduceToNat, Int.reduceNeg, upm_eq, upm_r, upm_i, if_pos, if_neg, ite_self, true_or, or_true, true_and, and_true, false_or, or_false, false_and, and_false, wr_id, i10, i01, upr_f, upr_eq, thr58, upm_upr, upr_upr, lc_lt, lc_gt, lc_ge, lc_le, afit1, afit0, afitI, bifit, not_true_eq_false, not_false_eq_true, if_true, if_false, Bool.false_eq_true, reduceCtorEq, k1557, k1558, g1557_2]
  · rw [k1 q (by omega), upm_rf (by omega), e1 q (by omega) (by omega), upm_rf (by omega)]
end MGC
