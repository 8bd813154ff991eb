/-! ===== one call of the law on one heap: the class, and the reference behind it ===== -/
def zI (z : Int) : Int := z
def zB (z : Int) : Int := if z = 0 then 0 else 1
def WRAP (L m W : Nat) (as : List AV) (es : List (Nat × Int)) (zf : Int → Int) : Prop := ∀ (u v' : Nat → Nat → Int) (a a' : Nat → Nat → Nat) (t t' : Nat × Nat × Nat), (∀ z : Int, a_m m (a_r 18 :: as) (K0 L, u, G a, t) = some (.inl (some (a_i z)), (K0 L, v', G a', t')) → a_m W (a_r 18 :: (as ++ [a_r 1568])) (K0 L, u, G a, t) = some (.inl (some (a_i 0)), (K0 L, upm v' 1568 0 (zf z), G a', t'))) ∧ (∀ (e : Nat) (cd : Int), (e, cd) ∈ es → a_m m (a_r 18 :: as) (K0 L, u, G a, t) = some (.inr e, (K0 L, v', G a', t')) → a_m W (a_r 18 :: (as ++ [a_r 1568])) (K0 L, u, G a, t) = some (.inl (some (a_i cd)), (K0 L, v', G a', t')))
theorem some_inl {z z2 : Int} {k k2 : Nat → Nat × Nat} {v v2 : Nat → Nat → Int} {g g2 : Nat → Nat → Nat} {t t2 : Nat × Nat × Nat} (h : (some (.inl (some (a_i z)), (k, v, g, t)) : Option (AO × AS)) = some (.inl (some (a_i z2)), (k2, v2, g2, t2))) : z = z2 ∧ v = v2 ∧ g = g2 := by
  injection h with h
  injection h with h1 h2
  injection h1 with h1
  injection h1 with h1
  injection h1 with h1
  injection h2 with h3 h4
  injection h4 with h5 h6
  injection h6 with h7 h8
  exact ⟨h1, h5, h7⟩
theorem some_inr {e e2 : Nat} {k k2 : Nat → Nat × Nat} {v v2 : Nat → Nat → Int} {g g2 : Nat → Nat → Nat} {t t2 : Nat × Nat × Nat} (h : (some (.inr e, (k, v, g, t)) : Option (AO × AS)) = some (.inr e2, (k2, v2, g2, t2))) : e = e2 ∧ v = v2 ∧ g = g2 := by
  injection h with h
  injection h with h1 h2
  injection h1 with h1
  injection h2 with h3 h4
  injection h4 with h5 h6
  injection h6 with h7 h8
  exact ⟨h1, h5, h7⟩
theorem stepD {L m n : Nat} {as : List AV} {c : Int} {u : Nat → Nat → Int} {a : Nat → Nat → Nat} {t : Nat × Nat × Nat} (op : OP L m n as []) (c0 : 0 ≤ c) (c1 : c ≤ 600) (hX : XX c u u a) : ∃ (z : Int) (v1 w' : Nat → Nat → Int) (a' : Nat → Nat → Nat), a_m m (a_r 18 :: as) (K0 L, u, G a, t) = some (.inl (some (a_i z)), (K0 L, v1, G a', t)) ∧ a_m n (a_r 1557 :: as) (K0 L, v1, G a', t) = some (.inl (some (a_i z)), (K0 L, w', G a', t)) ∧ XX (c + 1) w' w' a' ∧ w' 17 = u 17 ∧ v1 17 = u 17 := by
  obtain ⟨v', w1, a', x1, f1, f2, hc⟩ := op c u u a t c0 c1 hX
  rcases hc with ⟨h0, z, hm, hr⟩ | ⟨e, z, he, -⟩
  · obtain ⟨v2, w2, a2, y1, k1, k2, hc2⟩ := op c u v' a t c0 c1 (XX_congr hX (fun _ _ => rfl) (fun q hq => f1 q (by omega)))
    rcases hc2 with ⟨h02, z2, hm2, hr2⟩ | ⟨e, z2, he, -⟩
    · obtain ⟨rfl, rfl, hG⟩ := some_inl (hm.symm.trans hm2)
      rw [hG] at hm
      exact ⟨z, v', w2, a2, hm, hr2, XX_congr y1 (fun q hq => k2 q (.inl hq)) (fun _ _ => rfl), by rw [k2 17 (by omega), f1 17 (by omega)], f1 17 (by omega)⟩
    · exact absurd he (by simp)
  · exact absurd he (by simp)
theorem stepW {L m n W : Nat} {as : List AV} {es : List (Nat × Int)} {zf : Int → Int} {c : Int} {u : Nat → Nat → Int} {a : Nat → Nat → Nat} {t : Nat × Nat × Nat} (op : OP L m n as es) (wr : WRAP L m W as es zf) (hnz : ∀ q ∈ es, q.2 ≠ 0) (c0 : 0 ≤ c) (c1 : c ≤ 600) (hX : XX c u u a) : ∃ (k z : Int) (v1 w' : Nat → Nat → Int) (a' : Nat → Nat → Nat) (t1 : Nat × Nat × Nat), a_m W (a_r 18 :: (as ++ [a_r 1568])) (K0 L, u, G a, t) = some (.inl (some (a_i k)), (K0 L, v1, G a', t1)) ∧ a_m n (a_r 1557 :: as) (K0 L, v1, G a', t1) = some (.inl (some (a_i z)), (K0 L, w', G a', t1)) ∧ w' 1557 0 = k ∧ (k = 0 → w' 1568 0 = zf z) ∧ XX (c + 1) w' w' a' ∧ w' 17 = u 17 ∧ v1 17 = u 17 ∧ t1.1 = t.1 ∧ t1.2.1 ≤ t.2.1 + 1 ∧ t1.2.2 ≤ t.2.2 + 6 := by
  obtain ⟨v', w1, a', x1, f1, f2, hc⟩ := op c u u a t c0 c1 hX
  rcases hc with ⟨h0, z, hm, hr⟩ | ⟨e, z, he, hm, hr⟩
  · have hw := (wr u v' a a' t t).1 z hm
    obtain ⟨v2, w2, a2, y1, k1, k2, hc2⟩ := op c u (upm v' 1568 0 (zf z)) a t c0 c1 (XX_congr hX (fun _ _ => rfl) (fun q hq => by rw [upm_rf (by omega), f1 q (by omega)]))
    rcases hc2 with ⟨h02, z2, hm2, hr2⟩ | ⟨e, z2, he, hm2, -⟩
    · obtain ⟨rfl, rfl, hG⟩ := some_inl (hm.symm.trans hm2)
      rw [hG] at hw
      refine ⟨0, z, _, w2, a2, t, hw, hr2, h02, fun _ => by rw [k2 1568 (by omega), upm_eq], XX_congr y1 (fun q hq => by rw [k2 q (.inl hq), upm_rf (by omega)]) (fun _ _ => rfl), ?_, ?_, rfl, by omega, by omega⟩
      · rw [k2 17 (by omega), upm_rf (by decide), f1 17 (by omega)]
      · rw [upm_rf (by decide), f1 17 (by omega)]
    · rw [hm] at hm2
      injection hm2 with hm2
      injection hm2 with hm2
      injection hm2
  · obtain ⟨v2, w2, a2, y1, k1, k2, hc2⟩ := op c u v' a t c0 c1 (XX_congr hX (fun _ _ => rfl) (fun q hq => f1 q (by omega)))
    rcases hc2 with ⟨h02, z2, hm2, hr2⟩ | ⟨e2, z2, he2, hm2, hr2⟩
    · rw [hm] at hm2
      injection hm2 with hm2
      injection hm2 with hm2
      injection hm2
    · obtain ⟨rfl, rfl, hG⟩ := some_inr (hm.symm.trans hm2)
      have hw := (wr u v' a a2 t (t.1, t.2.1 + 1, t.2.2 + 6)).2 e _ he2 hm2
      have hs := a_m_sh (d := (1, 6)) hr2
      have e1 : ∀ w : Nat → Nat → Int, sh (1, 6) (K0 L, w, G a2, t) = (K0 L, w, G a2, (t.1, t.2.1 + 1, t.2.2 + 6)) := fun w => by simp only [sh, Nat.add_comm]
      rw [e1, e1] at hs
      exact ⟨_, z2, v', w2, a2, _, hw, hs, rfl, fun h => absurd h (hnz _ he2), XX_congr y1 (fun q hq => k2 q (.inl hq)) (fun _ _ => rfl), by rw [k2 17 (by omega), f1 17 (by omega)], f1 17 (by omega), rfl, Nat.le_refl _, Nat.le_refl _⟩
/-! the law's wrappers, by wip/whole/spec/gen_law.py -/
section WRP
variable {L : Nat}
theorem wrap_302 {x0 : Int} : WRAP L 92 302 [a_i x0] eL zI := by
  intro u v' a a' t t'
  refine ⟨fun z h => ?_, fun e cd he h => ?_⟩
  · show a_m 302 [a_r 18, a_i x0, a_r 1568] _ = some (.inl (some (a_i 0)), (K0 L, upm v' 1568 0 z, G a', t'))
    simp (disch := first | assumption | omega) only [E_L_load, B_L_load_0, B_L_load_7, Option.bind_some, back_v, Option.toList_some, Option.toList_none, List.cons_append, List.nil_append, Nat.reduceAdd, Int.reduceToNat, Int.reduceNeg, upm_eq, upm_r, upm_i, if_pos, if_neg, ite_self, true_or, or_true, true_and, and_true, false_or, or_false, false_and, and_false, wr_id, i10, i01, upr_f, upr_eq, thr58, upm_upr, upr_upr, lc_lt, lc_gt, lc_ge, lc_le, afit1, afit0, afitI, bifit, not_true_eq_false, not_false_eq_true, if_true, if_false, Bool.false_eq_true, reduceCtorEq, k1557, k1558, g1557_2, h, k18, k1568]
  · show a_m 302 [a_r 18, a_i x0, a_r 1568] _ = _
    have hh : (e = 2 ∧ cd = 1) ∨ (e = 3 ∧ cd = 2) := by simpa [eL] using he
    rcases hh with ⟨rfl, rfl⟩ | ⟨rfl, rfl⟩
    · rw [E_L_load, B_L_load_0, if_pos (show (K0 L 18).1 = 10 from rfl), h]; exact (back_h (m := 302) (pc := 4) (len := 3) (st := [a_i 0, a_r 1568]) (e := 2) (h := 12) (by decide +kernel)).trans B_L_load_12
    · rw [E_L_load, B_L_load_0, if_pos (show (K0 L 18).1 = 10 from rfl), h]; exact (back_h (m := 302) (pc := 4) (len := 3) (st := [a_i 0, a_r 1568]) (e := 3) (h := 15) (by decide +kernel)).trans B_L_load_15
theorem wrap_303 {x0 : Int} : WRAP L 96 303 [a_i x0] eA zI := by
  intro u v' a a' t t'
  refine ⟨fun z h => ?_, fun e cd he h => ?_⟩
  · show a_m 303 [a_r 18, a_i x0, a_r 1568] _ = some (.inl (some (a_i 0)), (K0 L, upm v' 1568 0 z, G a', t'))
    simp (disch := first | assumption | omega) only [E_L_count, B_L_count_0, B_L_count_7, Option.bind_some, back_v, Option.toList_some, Option.toList_none, List.cons_append, List.nil_append, Nat.reduceAdd, Int.reduceToNat, Int.reduceNeg, upm_eq, upm_r, upm_i, if_pos, if_neg, ite_self, true_or, or_true, true_and, and_true, false_or, or_false, false_and, and_false, wr_id, i10, i01, upr_f, upr_eq, thr58, upm_upr, upr_upr, lc_lt, lc_gt, lc_ge, lc_le, afit1, afit0, afitI, bifit, not_true_eq_false, not_false_eq_true, if_true, if_false, Bool.false_eq_true, reduceCtorEq, k1557, k1558, g1557_2, h, k18, k1568]
  · show a_m 303 [a_r 18, a_i x0, a_r 1568] _ = _
    have hh : (e = 1 ∧ cd = 1) ∨ (e = 3 ∧ cd = 2) := by simpa [eA] using he
    rcases hh with ⟨rfl, rfl⟩ | ⟨rfl, rfl⟩
    · rw [E_L_count, B_L_count_0, if_pos (show (K0 L 18).1 = 10 from rfl), h]; exact (back_h (m := 303) (pc := 4) (len := 3) (st := [a_i 0, a_r 1568]) (e := 1) (h := 12) (by decide +kernel)).trans B_L_count_12
    · rw [E_L_count, B_L_count_0, if_pos (show (K0 L 18).1 = 10 from rfl), h]; exact (back_h (m := 303) (pc := 4) (len := 3) (st := [a_i 0, a_r 1568]) (e := 3) (h := 15) (by decide +kernel)).trans B_L_count_15
theorem wrap_304 {x0 x1 x2 : Int} : WRAP L 97 304 [a_i x0, a_i x1, a_i x2] e3 zI := by
  intro u v' a a' t t'
  refine ⟨fun z h => ?_, fun e cd he h => ?_⟩
  · show a_m 304 [a_r 18, a_i x0, a_i x1, a_i x2, a_r 1568] _ = some (.inl (some (a_i 0)), (K0 L, upm v' 1568 0 z, G a', t'))
    simp (disch := first | assumption | omega) only [E_L_stop, B_L_stop_0, B_L_stop_10, Option.bind_some, back_v, Option.toList_some, Option.toList_none, List.cons_append, List.nil_append, Nat.reduceAdd, Int.reduceToNat, Int.reduceNeg, upm_eq, upm_r, upm_i, if_pos, if_neg, ite_self, true_or, or_true, true_and, and_true, false_or, or_false, false_and, and_false, wr_id, i10, i01, upr_f, upr_eq, thr58, upm_upr, upr_upr, lc_lt, lc_gt, lc_ge, lc_le, afit1, afit0, afitI, bifit, not_true_eq_false, not_false_eq_true, if_true, if_false, Bool.false_eq_true, reduceCtorEq, k1557, k1558, g1557_2, h, k18, k1568]
  · show a_m 304 [a_r 18, a_i x0, a_i x1, a_i x2, a_r 1568] _ = _
    have hh : (e = 1 ∧ cd = 1) ∨ (e = 2 ∧ cd = 2) ∨ (e = 3 ∧ cd = 3) := by simpa [e3] using he
    rcases hh with ⟨rfl, rfl⟩ | ⟨rfl, rfl⟩ | ⟨rfl, rfl⟩
    · rw [E_L_stop, B_L_stop_0, if_pos (show (K0 L 18).1 = 10 from rfl), h]; exact (back_h (m := 304) (pc := 7) (len := 3) (st := [a_i 0, a_r 1568]) (e := 1) (h := 15) (by decide +kernel)).trans B_L_stop_15
    · rw [E_L_stop, B_L_stop_0, if_pos (show (K0 L 18).1 = 10 from rfl), h]; exact (back_h (m := 304) (pc := 7) (len := 3) (st := [a_i 0, a_r 1568]) (e := 2) (h := 19) (by decide +kernel)).trans B_L_stop_19
    · rw [E_L_stop, B_L_stop_0, if_pos (show (K0 L 18).1 = 10 from rfl), h]; exact (back_h (m := 304) (pc := 7) (len := 3) (st := [a_i 0, a_r 1568]) (e := 3) (h := 23) (by decide +kernel)).trans B_L_stop_23
theorem wrap_305 {x0 x1 : Int} : WRAP L 98 305 [a_i x0, a_i x1] e3 zI := by
  intro u v' a a' t t'
  refine ⟨fun z h => ?_, fun e cd he h => ?_⟩
  · show a_m 305 [a_r 18, a_i x0, a_i x1, a_r 1568] _ = some (.inl (some (a_i 0)), (K0 L, upm v' 1568 0 z, G a', t'))
    simp (disch := first | assumption | omega) only [E_L_onAir, B_L_onAir_0, B_L_onAir_8, Option.bind_some, back_v, Option.toList_some, Option.toList_none, List.cons_append, List.nil_append, Nat.reduceAdd, Int.reduceToNat, Int.reduceNeg, upm_eq, upm_r, upm_i, if_pos, if_neg, ite_self, true_or, or_true, true_and, and_true, false_or, or_false, false_and, and_false, wr_id, i10, i01, upr_f, upr_eq, thr58, upm_upr, upr_upr, lc_lt, lc_gt, lc_ge, lc_le, afit1, afit0, afitI, bifit, not_true_eq_false, not_false_eq_true, if_true, if_false, Bool.false_eq_true, reduceCtorEq, k1557, k1558, g1557_2, h, k18, k1568]
  · show a_m 305 [a_r 18, a_i x0, a_i x1, a_r 1568] _ = _
    have hh : (e = 1 ∧ cd = 1) ∨ (e = 2 ∧ cd = 2) ∨ (e = 3 ∧ cd = 3) := by simpa [e3] using he
    rcases hh with ⟨rfl, rfl⟩ | ⟨rfl, rfl⟩ | ⟨rfl, rfl⟩
    · rw [E_L_onAir, B_L_onAir_0, if_pos (show (K0 L 18).1 = 10 from rfl), h]; exact (back_h (m := 305) (pc := 5) (len := 3) (st := [a_i 0, a_r 1568]) (e := 1) (h := 13) (by decide +kernel)).trans B_L_onAir_13
    · rw [E_L_onAir, B_L_onAir_0, if_pos (show (K0 L 18).1 = 10 from rfl), h]; exact (back_h (m := 305) (pc := 5) (len := 3) (st := [a_i 0, a_r 1568]) (e := 2) (h := 17) (by decide +kernel)).trans B_L_onAir_17
    · rw [E_L_onAir, B_L_onAir_0, if_pos (show (K0 L 18).1 = 10 from rfl), h]; exact (back_h (m := 305) (pc := 5) (len := 3) (st := [a_i 0, a_r 1568]) (e := 3) (h := 21) (by decide +kernel)).trans B_L_onAir_21
theorem wrap_306 {x0 x1 : Int} : WRAP L 99 306 [a_i x0, a_i x1] eA zI := by
  intro u v' a a' t t'
  refine ⟨fun z h => ?_, fun e cd he h => ?_⟩
  · show a_m 306 [a_r 18, a_i x0, a_i x1, a_r 1568] _ = some (.inl (some (a_i 0)), (K0 L, upm v' 1568 0 z, G a', t'))
    simp (disch := first | assumption | omega) only [E_L_number, B_L_number_0, B_L_number_8, Option.bind_some, back_v, Option.toList_some, Option.toList_none, List.cons_append, List.nil_append, Nat.reduceAdd, Int.reduceToNat, Int.reduceNeg, upm_eq, upm_r, upm_i, if_pos, if_neg, ite_self, true_or, or_true, true_and, and_true, false_or, or_false, false_and, and_false, wr_id, i10, i01, upr_f, upr_eq, thr58, upm_upr, upr_upr, lc_lt, lc_gt, lc_ge, lc_le, afit1, afit0, afitI, bifit, not_true_eq_false, not_false_eq_true, if_true, if_false, Bool.false_eq_true, reduceCtorEq, k1557, k1558, g1557_2, h, k18, k1568]
  · show a_m 306 [a_r 18, a_i x0, a_i x1, a_r 1568] _ = _
    have hh : (e = 1 ∧ cd = 1) ∨ (e = 3 ∧ cd = 2) := by simpa [eA] using he
    rcases hh with ⟨rfl, rfl⟩ | ⟨rfl, rfl⟩
    · rw [E_L_number, B_L_number_0, if_pos (show (K0 L 18).1 = 10 from rfl), h]; exact (back_h (m := 306) (pc := 5) (len := 3) (st := [a_i 0, a_r 1568]) (e := 1) (h := 13) (by decide +kernel)).trans B_L_number_13
    · rw [E_L_number, B_L_number_0, if_pos (show (K0 L 18).1 = 10 from rfl), h]; exact (back_h (m := 306) (pc := 5) (len := 3) (st := [a_i 0, a_r 1568]) (e := 3) (h := 17) (by decide +kernel)).trans B_L_number_17
theorem wrap_307 {x0 x1 : Int} : WRAP L 100 307 [a_i x0, a_i x1] e3 zI := by
  intro u v' a a' t t'
  refine ⟨fun z h => ?_, fun e cd he h => ?_⟩
  · show a_m 307 [a_r 18, a_i x0, a_i x1, a_r 1568] _ = some (.inl (some (a_i 0)), (K0 L, upm v' 1568 0 z, G a', t'))
    simp (disch := first | assumption | omega) only [E_L_minutes, B_L_minutes_0, B_L_minutes_8, Option.bind_some, back_v, Option.toList_some, Option.toList_none, List.cons_append, List.nil_append, Nat.reduceAdd, Int.reduceToNat, Int.reduceNeg, upm_eq, upm_r, upm_i, if_pos, if_neg, ite_self, true_or, or_true, true_and, and_true, false_or, or_false, false_and, and_false, wr_id, i10, i01, upr_f, upr_eq, thr58, upm_upr, upr_upr, lc_lt, lc_gt, lc_ge, lc_le, afit1, afit0, afitI, bifit, not_true_eq_false, not_false_eq_true, if_true, if_false, Bool.false_eq_true, reduceCtorEq, k1557, k1558, g1557_2, h, k18, k1568]
  · show a_m 307 [a_r 18, a_i x0, a_i x1, a_r 1568] _ = _
    have hh : (e = 1 ∧ cd = 1) ∨ (e = 2 ∧ cd = 2) ∨ (e = 3 ∧ cd = 3) := by simpa [e3] using he
    rcases hh with ⟨rfl, rfl⟩ | ⟨rfl, rfl⟩ | ⟨rfl, rfl⟩
    · rw [E_L_minutes, B_L_minutes_0, if_pos (show (K0 L 18).1 = 10 from rfl), h]; exact (back_h (m := 307) (pc := 5) (len := 3) (st := [a_i 0, a_r 1568]) (e := 1) (h := 13) (by decide +kernel)).trans B_L_minutes_13
    · rw [E_L_minutes, B_L_minutes_0, if_pos (show (K0 L 18).1 = 10 from rfl), h]; exact (back_h (m := 307) (pc := 5) (len := 3) (st := [a_i 0, a_r 1568]) (e := 2) (h := 17) (by decide +kernel)).trans B_L_minutes_17
    · rw [E_L_minutes, B_L_minutes_0, if_pos (show (K0 L 18).1 = 10 from rfl), h]; exact (back_h (m := 307) (pc := 5) (len := 3) (st := [a_i 0, a_r 1568]) (e := 3) (h := 21) (by decide +kernel)).trans B_L_minutes_21
theorem wrap_308 {x0 x1 x2 : Int} : WRAP L 101 308 [a_i x0, a_i x1, a_i x2] e3 zI := by
  intro u v' a a' t t'
  refine ⟨fun z h => ?_, fun e cd he h => ?_⟩
  · show a_m 308 [a_r 18, a_i x0, a_i x1, a_i x2, a_r 1568] _ = some (.inl (some (a_i 0)), (K0 L, upm v' 1568 0 z, G a', t'))
    simp (disch := first | assumption | omega) only [E_L_stands, B_L_stands_0, B_L_stands_10, Option.bind_some, back_v, Option.toList_some, Option.toList_none, List.cons_append, List.nil_append, Nat.reduceAdd, Int.reduceToNat, Int.reduceNeg, upm_eq, upm_r, upm_i, if_pos, if_neg, ite_self, true_or, or_true, true_and, and_true, false_or, or_false, false_and, and_false, wr_id, i10, i01, upr_f, upr_eq, thr58, upm_upr, upr_upr, lc_lt, lc_gt, lc_ge, lc_le, afit1, afit0, afitI, bifit, not_true_eq_false, not_false_eq_true, if_true, if_false, Bool.false_eq_true, reduceCtorEq, k1557, k1558, g1557_2, h, k18, k1568]
  · show a_m 308 [a_r 18, a_i x0, a_i x1, a_i x2, a_r 1568] _ = _
    have hh : (e = 1 ∧ cd = 1) ∨ (e = 2 ∧ cd = 2) ∨ (e = 3 ∧ cd = 3) := by simpa [e3] using he
    rcases hh with ⟨rfl, rfl⟩ | ⟨rfl, rfl⟩ | ⟨rfl, rfl⟩
    · rw [E_L_stands, B_L_stands_0, if_pos (show (K0 L 18).1 = 10 from rfl), h]; exact (back_h (m := 308) (pc := 7) (len := 3) (st := [a_i 0, a_r 1568]) (e := 1) (h := 15) (by decide +kernel)).trans B_L_stands_15
    · rw [E_L_stands, B_L_stands_0, if_pos (show (K0 L 18).1 = 10 from rfl), h]; exact (back_h (m := 308) (pc := 7) (len := 3) (st := [a_i 0, a_r 1568]) (e := 2) (h := 19) (by decide +kernel)).trans B_L_stands_19
    · rw [E_L_stands, B_L_stands_0, if_pos (show (K0 L 18).1 = 10 from rfl), h]; exact (back_h (m := 308) (pc := 7) (len := 3) (st := [a_i 0, a_r 1568]) (e := 3) (h := 23) (by decide +kernel)).trans B_L_stands_23
theorem wrap_309 {x0 x1 x2 : Int} : WRAP L 102 309 [a_i x0, a_i x1, a_i x2] e3 zI := by
  intro u v' a a' t t'
  refine ⟨fun z h => ?_, fun e cd he h => ?_⟩
  · show a_m 309 [a_r 18, a_i x0, a_i x1, a_i x2, a_r 1568] _ = some (.inl (some (a_i 0)), (K0 L, upm v' 1568 0 z, G a', t'))
    simp (disch := first | assumption | omega) only [E_L_nextAt, B_L_nextAt_0, B_L_nextAt_10, Option.bind_some, back_v, Option.toList_some, Option.toList_none, List.cons_append, List.nil_append, Nat.reduceAdd, Int.reduceToNat, Int.reduceNeg, upm_eq, upm_r, upm_i, if_pos, if_neg, ite_self, true_or, or_true, true_and, and_true, false_or, or_false, false_and, and_false, wr_id, i10, i01, upr_f, upr_eq, thr58, upm_upr, upr_upr, lc_lt, lc_gt, lc_ge, lc_le, afit1, afit0, afitI, bifit, not_true_eq_false, not_false_eq_true, if_true, if_false, Bool.false_eq_true, reduceCtorEq, k1557, k1558, g1557_2, h, k18, k1568]
  · show a_m 309 [a_r 18, a_i x0, a_i x1, a_i x2, a_r 1568] _ = _
    have hh : (e = 1 ∧ cd = 1) ∨ (e = 2 ∧ cd = 2) ∨ (e = 3 ∧ cd = 3) := by simpa [e3] using he
    rcases hh with ⟨rfl, rfl⟩ | ⟨rfl, rfl⟩ | ⟨rfl, rfl⟩
    · rw [E_L_nextAt, B_L_nextAt_0, if_pos (show (K0 L 18).1 = 10 from rfl), h]; exact (back_h (m := 309) (pc := 7) (len := 3) (st := [a_i 0, a_r 1568]) (e := 1) (h := 15) (by decide +kernel)).trans B_L_nextAt_15
    · rw [E_L_nextAt, B_L_nextAt_0, if_pos (show (K0 L 18).1 = 10 from rfl), h]; exact (back_h (m := 309) (pc := 7) (len := 3) (st := [a_i 0, a_r 1568]) (e := 2) (h := 19) (by decide +kernel)).trans B_L_nextAt_19
    · rw [E_L_nextAt, B_L_nextAt_0, if_pos (show (K0 L 18).1 = 10 from rfl), h]; exact (back_h (m := 309) (pc := 7) (len := 3) (st := [a_i 0, a_r 1568]) (e := 3) (h := 23) (by decide +kernel)).trans B_L_nextAt_23
theorem wrap_310 {x0 : Int} : WRAP L 103 310 [a_i x0] e2 zI := by
  intro u v' a a' t t'
  refine ⟨fun z h => ?_, fun e cd he h => ?_⟩
  · show a_m 310 [a_r 18, a_i x0, a_r 1568] _ = some (.inl (some (a_i 0)), (K0 L, upm v' 1568 0 z, G a', t'))
    simp (disch := first | assumption | omega) only [E_L_clashes, B_L_clashes_0, B_L_clashes_7, Option.bind_some, back_v, Option.toList_some, Option.toList_none, List.cons_append, List.nil_append, Nat.reduceAdd, Int.reduceToNat, Int.reduceNeg, upm_eq, upm_r, upm_i, if_pos, if_neg, ite_self, true_or, or_true, true_and, and_true, false_or, or_false, false_and, and_false, wr_id, i10, i01, upr_f, upr_eq, thr58, upm_upr, upr_upr, lc_lt, lc_gt, lc_ge, lc_le, afit1, afit0, afitI, bifit, not_true_eq_false, not_false_eq_true, if_true, if_false, Bool.false_eq_true, reduceCtorEq, k1557, k1558, g1557_2, h, k18, k1568]
  · show a_m 310 [a_r 18, a_i x0, a_r 1568] _ = _
    have hh : (e = 1 ∧ cd = 1) ∨ (e = 2 ∧ cd = 2) := by simpa [e2] using he
    rcases hh with ⟨rfl, rfl⟩ | ⟨rfl, rfl⟩
    · rw [E_L_clashes, B_L_clashes_0, if_pos (show (K0 L 18).1 = 10 from rfl), h]; exact (back_h (m := 310) (pc := 4) (len := 3) (st := [a_i 0, a_r 1568]) (e := 1) (h := 12) (by decide +kernel)).trans B_L_clashes_12
    · rw [E_L_clashes, B_L_clashes_0, if_pos (show (K0 L 18).1 = 10 from rfl), h]; exact (back_h (m := 310) (pc := 4) (len := 3) (st := [a_i 0, a_r 1568]) (e := 2) (h := 15) (by decide +kernel)).trans B_L_clashes_15
theorem wrap_311 {x0 x1 : Int} : WRAP L 104 311 [a_i x0, a_i x1] e3 zI := by
  intro u v' a a' t t'
  refine ⟨fun z h => ?_, fun e cd he h => ?_⟩
  · show a_m 311 [a_r 18, a_i x0, a_i x1, a_r 1568] _ = some (.inl (some (a_i 0)), (K0 L, upm v' 1568 0 z, G a', t'))
    simp (disch := first | assumption | omega) only [E_L_merged, B_L_merged_0, B_L_merged_8, Option.bind_some, back_v, Option.toList_some, Option.toList_none, List.cons_append, List.nil_append, Nat.reduceAdd, Int.reduceToNat, Int.reduceNeg, upm_eq, upm_r, upm_i, if_pos, if_neg, ite_self, true_or, or_true, true_and, and_true, false_or, or_false, false_and, and_false, wr_id, i10, i01, upr_f, upr_eq, thr58, upm_upr, upr_upr, lc_lt, lc_gt, lc_ge, lc_le, afit1, afit0, afitI, bifit, not_true_eq_false, not_false_eq_true, if_true, if_false, Bool.false_eq_true, reduceCtorEq, k1557, k1558, g1557_2, h, k18, k1568]
  · show a_m 311 [a_r 18, a_i x0, a_i x1, a_r 1568] _ = _
    have hh : (e = 1 ∧ cd = 1) ∨ (e = 2 ∧ cd = 2) ∨ (e = 3 ∧ cd = 3) := by simpa [e3] using he
    rcases hh with ⟨rfl, rfl⟩ | ⟨rfl, rfl⟩ | ⟨rfl, rfl⟩
    · rw [E_L_merged, B_L_merged_0, if_pos (show (K0 L 18).1 = 10 from rfl), h]; exact (back_h (m := 311) (pc := 5) (len := 3) (st := [a_i 0, a_r 1568]) (e := 1) (h := 13) (by decide +kernel)).trans B_L_merged_13
    · rw [E_L_merged, B_L_merged_0, if_pos (show (K0 L 18).1 = 10 from rfl), h]; exact (back_h (m := 311) (pc := 5) (len := 3) (st := [a_i 0, a_r 1568]) (e := 2) (h := 17) (by decide +kernel)).trans B_L_merged_17
    · rw [E_L_merged, B_L_merged_0, if_pos (show (K0 L 18).1 = 10 from rfl), h]; exact (back_h (m := 311) (pc := 5) (len := 3) (st := [a_i 0, a_r 1568]) (e := 3) (h := 21) (by decide +kernel)).trans B_L_merged_21
theorem wrap_312 {x0 x1 x2 x3 : Int} : WRAP L 105 312 [a_i x0, a_i x1, a_i x2, a_i x3] e3 zI := by
  intro u v' a a' t t'
  refine ⟨fun z h => ?_, fun e cd he h => ?_⟩
  · show a_m 312 [a_r 18, a_i x0, a_i x1, a_i x2, a_i x3, a_r 1568] _ = some (.inl (some (a_i 0)), (K0 L, upm v' 1568 0 z, G a', t'))
    simp (disch := first | assumption | omega) only [E_L_mergedStop, B_L_mergedStop_0, B_L_mergedStop_12, Option.bind_some, back_v, Option.toList_some, Option.toList_none, List.cons_append, List.nil_append, Nat.reduceAdd, Int.reduceToNat, Int.reduceNeg, upm_eq, upm_r, upm_i, if_pos, if_neg, ite_self, true_or, or_true, true_and, and_true, false_or, or_false, false_and, and_false, wr_id, i10, i01, upr_f, upr_eq, thr58, upm_upr, upr_upr, lc_lt, lc_gt, lc_ge, lc_le, afit1, afit0, afitI, bifit, not_true_eq_false, not_false_eq_true, if_true, if_false, Bool.false_eq_true, reduceCtorEq, k1557, k1558, g1557_2, h, k18, k1568]
  · show a_m 312 [a_r 18, a_i x0, a_i x1, a_i x2, a_i x3, a_r 1568] _ = _
    have hh : (e = 1 ∧ cd = 1) ∨ (e = 2 ∧ cd = 2) ∨ (e = 3 ∧ cd = 3) := by simpa [e3] using he
    rcases hh with ⟨rfl, rfl⟩ | ⟨rfl, rfl⟩ | ⟨rfl, rfl⟩
    · rw [E_L_mergedStop, B_L_mergedStop_0, if_pos (show (K0 L 18).1 = 10 from rfl), h]; exact (back_h (m := 312) (pc := 9) (len := 3) (st := [a_i 0, a_r 1568]) (e := 1) (h := 17) (by decide +kernel)).trans B_L_mergedStop_17
    · rw [E_L_mergedStop, B_L_mergedStop_0, if_pos (show (K0 L 18).1 = 10 from rfl), h]; exact (back_h (m := 312) (pc := 9) (len := 3) (st := [a_i 0, a_r 1568]) (e := 2) (h := 21) (by decide +kernel)).trans B_L_mergedStop_21
    · rw [E_L_mergedStop, B_L_mergedStop_0, if_pos (show (K0 L 18).1 = 10 from rfl), h]; exact (back_h (m := 312) (pc := 9) (len := 3) (st := [a_i 0, a_r 1568]) (e := 3) (h := 25) (by decide +kernel)).trans B_L_mergedStop_25
theorem wrap_313 {x0 x1 : Int} : WRAP L 106 313 [a_i x0, a_i x1] e3 zI := by
  intro u v' a a' t t'
  refine ⟨fun z h => ?_, fun e cd he h => ?_⟩
  · show a_m 313 [a_r 18, a_i x0, a_i x1, a_r 1568] _ = some (.inl (some (a_i 0)), (K0 L, upm v' 1568 0 z, G a', t'))
    simp (disch := first | assumption | omega) only [E_L_listener, B_L_listener_0, B_L_listener_8, Option.bind_some, back_v, Option.toList_some, Option.toList_none, List.cons_append, List.nil_append, Nat.reduceAdd, Int.reduceToNat, Int.reduceNeg, upm_eq, upm_r, upm_i, if_pos, if_neg, ite_self, true_or, or_true, true_and, and_true, false_or, or_false, false_and, and_false, wr_id, i10, i01, upr_f, upr_eq, thr58, upm_upr, upr_upr, lc_lt, lc_gt, lc_ge, lc_le, afit1, afit0, afitI, bifit, not_true_eq_false, not_false_eq_true, if_true, if_false, Bool.false_eq_true, reduceCtorEq, k1557, k1558, g1557_2, h, k18, k1568]
  · show a_m 313 [a_r 18, a_i x0, a_i x1, a_r 1568] _ = _
    have hh : (e = 1 ∧ cd = 1) ∨ (e = 2 ∧ cd = 2) ∨ (e = 3 ∧ cd = 3) := by simpa [e3] using he
    rcases hh with ⟨rfl, rfl⟩ | ⟨rfl, rfl⟩ | ⟨rfl, rfl⟩
    · rw [E_L_listener, B_L_listener_0, if_pos (show (K0 L 18).1 = 10 from rfl), h]; exact (back_h (m := 313) (pc := 5) (len := 3) (st := [a_i 0, a_r 1568]) (e := 1) (h := 13) (by decide +kernel)).trans B_L_listener_13
    · rw [E_L_listener, B_L_listener_0, if_pos (show (K0 L 18).1 = 10 from rfl), h]; exact (back_h (m := 313) (pc := 5) (len := 3) (st := [a_i 0, a_r 1568]) (e := 2) (h := 17) (by decide +kernel)).trans B_L_listener_17
    · rw [E_L_listener, B_L_listener_0, if_pos (show (K0 L 18).1 = 10 from rfl), h]; exact (back_h (m := 313) (pc := 5) (len := 3) (st := [a_i 0, a_r 1568]) (e := 3) (h := 21) (by decide +kernel)).trans B_L_listener_21
theorem wrap_314 {x0 x1 x2 : Int} : WRAP L 107 314 [a_i x0, a_i x1, a_i x2] e3 zI := by
  intro u v' a a' t t'
  refine ⟨fun z h => ?_, fun e cd he h => ?_⟩
  · show a_m 314 [a_r 18, a_i x0, a_i x1, a_i x2, a_r 1568] _ = some (.inl (some (a_i 0)), (K0 L, upm v' 1568 0 z, G a', t'))
    simp (disch := first | assumption | omega) only [E_L_gap, B_L_gap_0, B_L_gap_10, Option.bind_some, back_v, Option.toList_some, Option.toList_none, List.cons_append, List.nil_append, Nat.reduceAdd, Int.reduceToNat, Int.reduceNeg, upm_eq, upm_r, upm_i, if_pos, if_neg, ite_self, true_or, or_true, true_and, and_true, false_or, or_false, false_and, and_false, wr_id, i10, i01, upr_f, upr_eq, thr58, upm_upr, upr_upr, lc_lt, lc_gt, lc_ge, lc_le, afit1, afit0, afitI, bifit, not_true_eq_false, not_false_eq_true, if_true, if_false, Bool.false_eq_true, reduceCtorEq, k1557, k1558, g1557_2, h, k18, k1568]
  · show a_m 314 [a_r 18, a_i x0, a_i x1, a_i x2, a_r 1568] _ = _
    have hh : (e = 1 ∧ cd = 1) ∨ (e = 2 ∧ cd = 2) ∨ (e = 3 ∧ cd = 3) := by simpa [e3] using he
    rcases hh with ⟨rfl, rfl⟩ | ⟨rfl, rfl⟩ | ⟨rfl, rfl⟩
    · rw [E_L_gap, B_L_gap_0, if_pos (show (K0 L 18).1 = 10 from rfl), h]; exact (back_h (m := 314) (pc := 7) (len := 3) (st := [a_i 0, a_r 1568]) (e := 1) (h := 15) (by decide +kernel)).trans B_L_gap_15
    · rw [E_L_gap, B_L_gap_0, if_pos (show (K0 L 18).1 = 10 from rfl), h]; exact (back_h (m := 314) (pc := 7) (len := 3) (st := [a_i 0, a_r 1568]) (e := 2) (h := 19) (by decide +kernel)).trans B_L_gap_19
    · rw [E_L_gap, B_L_gap_0, if_pos (show (K0 L 18).1 = 10 from rfl), h]; exact (back_h (m := 314) (pc := 7) (len := 3) (st := [a_i 0, a_r 1568]) (e := 3) (h := 23) (by decide +kernel)).trans B_L_gap_23
theorem wrap_315 {x0 x1 : Int} : WRAP L 108 315 [a_i x0, a_i x1] e2 zB := by
  intro u v' a a' t t'
  refine ⟨fun z h => ?_, fun e cd he h => ?_⟩
  · show a_m 315 [a_r 18, a_i x0, a_i x1, a_r 1568] _ = some (.inl (some (a_i 0)), (K0 L, upm v' 1568 0 (if z = 0 then 0 else 1), G a', t'))
    by_cases hz : z = 0
    · rw [if_pos hz]; simp (disch := first | assumption | omega) only [E_L_hasHeard, B_L_hasHeard_0, B_L_hasHeard_8, Option.bind_some, back_v, Option.toList_some, Option.toList_none, List.cons_append, List.nil_append, Nat.reduceAdd, Int.reduceToNat, Int.reduceNeg, upm_eq, upm_r, upm_i, if_pos, if_neg, ite_self, true_or, or_true, true_and, and_true, false_or, or_false, false_and, and_false, wr_id, i10, i01, upr_f, upr_eq, thr58, upm_upr, upr_upr, lc_lt, lc_gt, lc_ge, lc_le, afit1, afit0, afitI, bifit, not_true_eq_false, not_false_eq_true, if_true, if_false, Bool.false_eq_true, reduceCtorEq, k1557, k1558, g1557_2, h, hz, k18, k1568]
    · rw [if_neg hz]; simp (disch := first | assumption | omega) only [E_L_hasHeard, B_L_hasHeard_0, B_L_hasHeard_8, Option.bind_some, back_v, Option.toList_some, Option.toList_none, List.cons_append, List.nil_append, Nat.reduceAdd, Int.reduceToNat, Int.reduceNeg, upm_eq, upm_r, upm_i, if_pos, if_neg, ite_self, true_or, or_true, true_and, and_true, false_or, or_false, false_and, and_false, wr_id, i10, i01, upr_f, upr_eq, thr58, upm_upr, upr_upr, lc_lt, lc_gt, lc_ge, lc_le, afit1, afit0, afitI, bifit, not_true_eq_false, not_false_eq_true, if_true, if_false, Bool.false_eq_true, reduceCtorEq, k1557, k1558, g1557_2, h, hz, k18, k1568]
  · show a_m 315 [a_r 18, a_i x0, a_i x1, a_r 1568] _ = _
    have hh : (e = 1 ∧ cd = 1) ∨ (e = 2 ∧ cd = 2) := by simpa [e2] using he
    rcases hh with ⟨rfl, rfl⟩ | ⟨rfl, rfl⟩
    · rw [E_L_hasHeard, B_L_hasHeard_0, if_pos (show (K0 L 18).1 = 10 from rfl), h]; exact (back_h (m := 315) (pc := 5) (len := 3) (st := [a_i 0, a_r 1568]) (e := 1) (h := 20) (by decide +kernel)).trans B_L_hasHeard_20
    · rw [E_L_hasHeard, B_L_hasHeard_0, if_pos (show (K0 L 18).1 = 10 from rfl), h]; exact (back_h (m := 315) (pc := 5) (len := 3) (st := [a_i 0, a_r 1568]) (e := 2) (h := 24) (by decide +kernel)).trans B_L_hasHeard_24
theorem wrap_316 {x0 x1 : Int} : WRAP L 109 316 [a_i x0, a_i x1] e2 zI := by
  intro u v' a a' t t'
  refine ⟨fun z h => ?_, fun e cd he h => ?_⟩
  · show a_m 316 [a_r 18, a_i x0, a_i x1, a_r 1568] _ = some (.inl (some (a_i 0)), (K0 L, upm v' 1568 0 z, G a', t'))
    simp (disch := first | assumption | omega) only [E_L_missing, B_L_missing_0, B_L_missing_8, Option.bind_some, back_v, Option.toList_some, Option.toList_none, List.cons_append, List.nil_append, Nat.reduceAdd, Int.reduceToNat, Int.reduceNeg, upm_eq, upm_r, upm_i, if_pos, if_neg, ite_self, true_or, or_true, true_and, and_true, false_or, or_false, false_and, and_false, wr_id, i10, i01, upr_f, upr_eq, thr58, upm_upr, upr_upr, lc_lt, lc_gt, lc_ge, lc_le, afit1, afit0, afitI, bifit, not_true_eq_false, not_false_eq_true, if_true, if_false, Bool.false_eq_true, reduceCtorEq, k1557, k1558, g1557_2, h, k18, k1568]
  · show a_m 316 [a_r 18, a_i x0, a_i x1, a_r 1568] _ = _
    have hh : (e = 1 ∧ cd = 1) ∨ (e = 2 ∧ cd = 2) := by simpa [e2] using he
    rcases hh with ⟨rfl, rfl⟩ | ⟨rfl, rfl⟩
    · rw [E_L_missing, B_L_missing_0, if_pos (show (K0 L 18).1 = 10 from rfl), h]; exact (back_h (m := 316) (pc := 5) (len := 3) (st := [a_i 0, a_r 1568]) (e := 1) (h := 13) (by decide +kernel)).trans B_L_missing_13
    · rw [E_L_missing, B_L_missing_0, if_pos (show (K0 L 18).1 = 10 from rfl), h]; exact (back_h (m := 316) (pc := 5) (len := 3) (st := [a_i 0, a_r 1568]) (e := 2) (h := 17) (by decide +kernel)).trans B_L_missing_17
theorem wrap_317 {x0 x1 : Int} : WRAP L 110 317 [a_i x0, a_i x1] e2 zB := by
  intro u v' a a' t t'
  refine ⟨fun z h => ?_, fun e cd he h => ?_⟩
  · show a_m 317 [a_r 18, a_i x0, a_i x1, a_r 1568] _ = some (.inl (some (a_i 0)), (K0 L, upm v' 1568 0 (if z = 0 then 0 else 1), G a', t'))
    by_cases hz : z = 0
    · rw [if_pos hz]; simp (disch := first | assumption | omega) only [E_L_isSame, B_L_isSame_0, B_L_isSame_8, Option.bind_some, back_v, Option.toList_some, Option.toList_none, List.cons_append, List.nil_append, Nat.reduceAdd, Int.reduceToNat, Int.reduceNeg, upm_eq, upm_r, upm_i, if_pos, if_neg, ite_self, true_or, or_true, true_and, and_true, false_or, or_false, false_and, and_false, wr_id, i10, i01, upr_f, upr_eq, thr58, upm_upr, upr_upr, lc_lt, lc_gt, lc_ge, lc_le, afit1, afit0, afitI, bifit, not_true_eq_false, not_false_eq_true, if_true, if_false, Bool.false_eq_true, reduceCtorEq, k1557, k1558, g1557_2, h, hz, k18, k1568]
    · rw [if_neg hz]; simp (disch := first | assumption | omega) only [E_L_isSame, B_L_isSame_0, B_L_isSame_8, Option.bind_some, back_v, Option.toList_some, Option.toList_none, List.cons_append, List.nil_append, Nat.reduceAdd, Int.reduceToNat, Int.reduceNeg, upm_eq, upm_r, upm_i, if_pos, if_neg, ite_self, true_or, or_true, true_and, and_true, false_or, or_false, false_and, and_false, wr_id, i10, i01, upr_f, upr_eq, thr58, upm_upr, upr_upr, lc_lt, lc_gt, lc_ge, lc_le, afit1, afit0, afitI, bifit, not_true_eq_false, not_false_eq_true, if_true, if_false, Bool.false_eq_true, reduceCtorEq, k1557, k1558, g1557_2, h, hz, k18, k1568]
  · show a_m 317 [a_r 18, a_i x0, a_i x1, a_r 1568] _ = _
    have hh : (e = 1 ∧ cd = 1) ∨ (e = 2 ∧ cd = 2) := by simpa [e2] using he
    rcases hh with ⟨rfl, rfl⟩ | ⟨rfl, rfl⟩
    · rw [E_L_isSame, B_L_isSame_0, if_pos (show (K0 L 18).1 = 10 from rfl), h]; exact (back_h (m := 317) (pc := 5) (len := 3) (st := [a_i 0, a_r 1568]) (e := 1) (h := 20) (by decide +kernel)).trans B_L_isSame_20
    · rw [E_L_isSame, B_L_isSame_0, if_pos (show (K0 L 18).1 = 10 from rfl), h]; exact (back_h (m := 317) (pc := 5) (len := 3) (st := [a_i 0, a_r 1568]) (e := 2) (h := 24) (by decide +kernel)).trans B_L_isSame_24
theorem wrap_318 {x0 : Int} : WRAP L 111 318 [a_i x0] e2 zI := by
  intro u v' a a' t t'
  refine ⟨fun z h => ?_, fun e cd he h => ?_⟩
  · show a_m 318 [a_r 18, a_i x0, a_r 1568] _ = some (.inl (some (a_i 0)), (K0 L, upm v' 1568 0 z, G a', t'))
    simp (disch := first | assumption | omega) only [E_L_wrongMinutes, B_L_wrongMinutes_0, B_L_wrongMinutes_7, Option.bind_some, back_v, Option.toList_some, Option.toList_none, List.cons_append, List.nil_append, Nat.reduceAdd, Int.reduceToNat, Int.reduceNeg, upm_eq, upm_r, upm_i, if_pos, if_neg, ite_self, true_or, or_true, true_and, and_true, false_or, or_false, false_and, and_false, wr_id, i10, i01, upr_f, upr_eq, thr58, upm_upr, upr_upr, lc_lt, lc_gt, lc_ge, lc_le, afit1, afit0, afitI, bifit, not_true_eq_false, not_false_eq_true, if_true, if_false, Bool.false_eq_true, reduceCtorEq, k1557, k1558, g1557_2, h, k18, k1568]
  · show a_m 318 [a_r 18, a_i x0, a_r 1568] _ = _
    have hh : (e = 1 ∧ cd = 1) ∨ (e = 2 ∧ cd = 2) := by simpa [e2] using he
    rcases hh with ⟨rfl, rfl⟩ | ⟨rfl, rfl⟩
    · rw [E_L_wrongMinutes, B_L_wrongMinutes_0, if_pos (show (K0 L 18).1 = 10 from rfl), h]; exact (back_h (m := 318) (pc := 4) (len := 3) (st := [a_i 0, a_r 1568]) (e := 1) (h := 12) (by decide +kernel)).trans B_L_wrongMinutes_12
    · rw [E_L_wrongMinutes, B_L_wrongMinutes_0, if_pos (show (K0 L 18).1 = 10 from rfl), h]; exact (back_h (m := 318) (pc := 4) (len := 3) (st := [a_i 0, a_r 1568]) (e := 2) (h := 15) (by decide +kernel)).trans B_L_wrongMinutes_15
theorem wrap_319 : WRAP L 112 319 [] e1 zI := by
  intro u v' a a' t t'
  refine ⟨fun z h => ?_, fun e cd he h => ?_⟩
  · show a_m 319 [a_r 18, a_r 1568] _ = some (.inl (some (a_i 0)), (K0 L, upm v' 1568 0 z, G a', t'))
    simp (disch := first | assumption | omega) only [E_L_worst, B_L_worst_0, B_L_worst_6, Option.bind_some, back_v, Option.toList_some, Option.toList_none, List.cons_append, List.nil_append, Nat.reduceAdd, Int.reduceToNat, Int.reduceNeg, upm_eq, upm_r, upm_i, if_pos, if_neg, ite_self, true_or, or_true, true_and, and_true, false_or, or_false, false_and, and_false, wr_id, i10, i01, upr_f, upr_eq, thr58, upm_upr, upr_upr, lc_lt, lc_gt, lc_ge, lc_le, afit1, afit0, afitI, bifit, not_true_eq_false, not_false_eq_true, if_true, if_false, Bool.false_eq_true, reduceCtorEq, k1557, k1558, g1557_2, h, k18, k1568]
  · show a_m 319 [a_r 18, a_r 1568] _ = _
    have hh : (e = 1 ∧ cd = 1) := by simpa [e1] using he
    rcases hh with ⟨rfl, rfl⟩
    · rw [E_L_worst, B_L_worst_0, if_pos (show (K0 L 18).1 = 10 from rfl), h]; exact (back_h (m := 319) (pc := 3) (len := 3) (st := [a_i 0, a_r 1568]) (e := 1) (h := 11) (by decide +kernel)).trans B_L_worst_11
theorem wrap_320 {x0 : Int} : WRAP L 113 320 [a_i x0] e2 zI := by
  intro u v' a a' t t'
  refine ⟨fun z h => ?_, fun e cd he h => ?_⟩
  · show a_m 320 [a_r 18, a_i x0, a_r 1568] _ = some (.inl (some (a_i 0)), (K0 L, upm v' 1568 0 z, G a', t'))
    simp (disch := first | assumption | omega) only [E_L_behind, B_L_behind_0, B_L_behind_7, Option.bind_some, back_v, Option.toList_some, Option.toList_none, List.cons_append, List.nil_append, Nat.reduceAdd, Int.reduceToNat, Int.reduceNeg, upm_eq, upm_r, upm_i, if_pos, if_neg, ite_self, true_or, or_true, true_and, and_true, false_or, or_false, false_and, and_false, wr_id, i10, i01, upr_f, upr_eq, thr58, upm_upr, upr_upr, lc_lt, lc_gt, lc_ge, lc_le, afit1, afit0, afitI, bifit, not_true_eq_false, not_false_eq_true, if_true, if_false, Bool.false_eq_true, reduceCtorEq, k1557, k1558, g1557_2, h, k18, k1568]
  · show a_m 320 [a_r 18, a_i x0, a_r 1568] _ = _
    have hh : (e = 1 ∧ cd = 1) ∨ (e = 2 ∧ cd = 2) := by simpa [e2] using he
    rcases hh with ⟨rfl, rfl⟩ | ⟨rfl, rfl⟩
    · rw [E_L_behind, B_L_behind_0, if_pos (show (K0 L 18).1 = 10 from rfl), h]; exact (back_h (m := 320) (pc := 4) (len := 3) (st := [a_i 0, a_r 1568]) (e := 1) (h := 12) (by decide +kernel)).trans B_L_behind_12
    · rw [E_L_behind, B_L_behind_0, if_pos (show (K0 L 18).1 = 10 from rfl), h]; exact (back_h (m := 320) (pc := 4) (len := 3) (st := [a_i 0, a_r 1568]) (e := 2) (h := 15) (by decide +kernel)).trans B_L_behind_15
theorem wrap_321 {x0 : Int} : WRAP L 114 321 [a_i x0] e2 zI := by
  intro u v' a a' t t'
  refine ⟨fun z h => ?_, fun e cd he h => ?_⟩
  · show a_m 321 [a_r 18, a_i x0, a_r 1568] _ = some (.inl (some (a_i 0)), (K0 L, upm v' 1568 0 z, G a', t'))
    simp (disch := first | assumption | omega) only [E_L_overtakes, B_L_overtakes_0, B_L_overtakes_7, Option.bind_some, back_v, Option.toList_some, Option.toList_none, List.cons_append, List.nil_append, Nat.reduceAdd, Int.reduceToNat, Int.reduceNeg, upm_eq, upm_r, upm_i, if_pos, if_neg, ite_self, true_or, or_true, true_and, and_true, false_or, or_false, false_and, and_false, wr_id, i10, i01, upr_f, upr_eq, thr58, upm_upr, upr_upr, lc_lt, lc_gt, lc_ge, lc_le, afit1, afit0, afitI, bifit, not_true_eq_false, not_false_eq_true, if_true, if_false, Bool.false_eq_true, reduceCtorEq, k1557, k1558, g1557_2, h, k18, k1568]
  · show a_m 321 [a_r 18, a_i x0, a_r 1568] _ = _
    have hh : (e = 1 ∧ cd = 1) ∨ (e = 2 ∧ cd = 2) := by simpa [e2] using he
    rcases hh with ⟨rfl, rfl⟩ | ⟨rfl, rfl⟩
    · rw [E_L_overtakes, B_L_overtakes_0, if_pos (show (K0 L 18).1 = 10 from rfl), h]; exact (back_h (m := 321) (pc := 4) (len := 3) (st := [a_i 0, a_r 1568]) (e := 1) (h := 12) (by decide +kernel)).trans B_L_overtakes_12
    · rw [E_L_overtakes, B_L_overtakes_0, if_pos (show (K0 L 18).1 = 10 from rfl), h]; exact (back_h (m := 321) (pc := 4) (len := 3) (st := [a_i 0, a_r 1568]) (e := 2) (h := 15) (by decide +kernel)).trans B_L_overtakes_15
theorem wrap_322 {x0 : Int} : WRAP L 115 322 [a_i x0] e2 zI := by
  intro u v' a a' t t'
  refine ⟨fun z h => ?_, fun e cd he h => ?_⟩
  · show a_m 322 [a_r 18, a_i x0, a_r 1568] _ = some (.inl (some (a_i 0)), (K0 L, upm v' 1568 0 z, G a', t'))
    simp (disch := first | assumption | omega) only [E_L_sameIn, B_L_sameIn_0, B_L_sameIn_7, Option.bind_some, back_v, Option.toList_some, Option.toList_none, List.cons_append, List.nil_append, Nat.reduceAdd, Int.reduceToNat, Int.reduceNeg, upm_eq, upm_r, upm_i, if_pos, if_neg, ite_self, true_or, or_true, true_and, and_true, false_or, or_false, false_and, and_false, wr_id, i10, i01, upr_f, upr_eq, thr58, upm_upr, upr_upr, lc_lt, lc_gt, lc_ge, lc_le, afit1, afit0, afitI, bifit, not_true_eq_false, not_false_eq_true, if_true, if_false, Bool.false_eq_true, reduceCtorEq, k1557, k1558, g1557_2, h, k18, k1568]
  · show a_m 322 [a_r 18, a_i x0, a_r 1568] _ = _
    have hh : (e = 1 ∧ cd = 1) ∨ (e = 2 ∧ cd = 2) := by simpa [e2] using he
    rcases hh with ⟨rfl, rfl⟩ | ⟨rfl, rfl⟩
    · rw [E_L_sameIn, B_L_sameIn_0, if_pos (show (K0 L 18).1 = 10 from rfl), h]; exact (back_h (m := 322) (pc := 4) (len := 3) (st := [a_i 0, a_r 1568]) (e := 1) (h := 12) (by decide +kernel)).trans B_L_sameIn_12
    · rw [E_L_sameIn, B_L_sameIn_0, if_pos (show (K0 L 18).1 = 10 from rfl), h]; exact (back_h (m := 322) (pc := 4) (len := 3) (st := [a_i 0, a_r 1568]) (e := 2) (h := 15) (by decide +kernel)).trans B_L_sameIn_15
theorem wrap_323 : WRAP L 116 323 [] e1 zI := by
  intro u v' a a' t t'
  refine ⟨fun z h => ?_, fun e cd he h => ?_⟩
  · show a_m 323 [a_r 18, a_r 1568] _ = some (.inl (some (a_i 0)), (K0 L, upm v' 1568 0 z, G a', t'))
    simp (disch := first | assumption | omega) only [E_L_allSameIn, B_L_allSameIn_0, B_L_allSameIn_6, Option.bind_some, back_v, Option.toList_some, Option.toList_none, List.cons_append, List.nil_append, Nat.reduceAdd, Int.reduceToNat, Int.reduceNeg, upm_eq, upm_r, upm_i, if_pos, if_neg, ite_self, true_or, or_true, true_and, and_true, false_or, or_false, false_and, and_false, wr_id, i10, i01, upr_f, upr_eq, thr58, upm_upr, upr_upr, lc_lt, lc_gt, lc_ge, lc_le, afit1, afit0, afitI, bifit, not_true_eq_false, not_false_eq_true, if_true, if_false, Bool.false_eq_true, reduceCtorEq, k1557, k1558, g1557_2, h, k18, k1568]
  · show a_m 323 [a_r 18, a_r 1568] _ = _
    have hh : (e = 1 ∧ cd = 1) := by simpa [e1] using he
    rcases hh with ⟨rfl, rfl⟩
    · rw [E_L_allSameIn, B_L_allSameIn_0, if_pos (show (K0 L 18).1 = 10 from rfl), h]; exact (back_h (m := 323) (pc := 3) (len := 3) (st := [a_i 0, a_r 1568]) (e := 1) (h := 11) (by decide +kernel)).trans B_L_allSameIn_11
theorem wrap_324 {x0 x1 : Int} : WRAP L 117 324 [a_i x0, a_i x1] e2 zI := by
  intro u v' a a' t t'
  refine ⟨fun z h => ?_, fun e cd he h => ?_⟩
  · show a_m 324 [a_r 18, a_i x0, a_i x1, a_r 1568] _ = some (.inl (some (a_i 0)), (K0 L, upm v' 1568 0 z, G a', t'))
    simp (disch := first | assumption | omega) only [E_L_heardIn, B_L_heardIn_0, B_L_heardIn_8, Option.bind_some, back_v, Option.toList_some, Option.toList_none, List.cons_append, List.nil_append, Nat.reduceAdd, Int.reduceToNat, Int.reduceNeg, upm_eq, upm_r, upm_i, if_pos, if_neg, ite_self, true_or, or_true, true_and, and_true, false_or, or_false, false_and, and_false, wr_id, i10, i01, upr_f, upr_eq, thr58, upm_upr, upr_upr, lc_lt, lc_gt, lc_ge, lc_le, afit1, afit0, afitI, bifit, not_true_eq_false, not_false_eq_true, if_true, if_false, Bool.false_eq_true, reduceCtorEq, k1557, k1558, g1557_2, h, k18, k1568]
  · show a_m 324 [a_r 18, a_i x0, a_i x1, a_r 1568] _ = _
    have hh : (e = 1 ∧ cd = 1) ∨ (e = 2 ∧ cd = 2) := by simpa [e2] using he
    rcases hh with ⟨rfl, rfl⟩ | ⟨rfl, rfl⟩
    · rw [E_L_heardIn, B_L_heardIn_0, if_pos (show (K0 L 18).1 = 10 from rfl), h]; exact (back_h (m := 324) (pc := 5) (len := 3) (st := [a_i 0, a_r 1568]) (e := 1) (h := 13) (by decide +kernel)).trans B_L_heardIn_13
    · rw [E_L_heardIn, B_L_heardIn_0, if_pos (show (K0 L 18).1 = 10 from rfl), h]; exact (back_h (m := 324) (pc := 5) (len := 3) (st := [a_i 0, a_r 1568]) (e := 2) (h := 17) (by decide +kernel)).trans B_L_heardIn_17
theorem wrap_325 {x0 x1 : Int} : WRAP L 118 325 [a_i x0, a_i x1] e3 zI := by
  intro u v' a a' t t'
  refine ⟨fun z h => ?_, fun e cd he h => ?_⟩
  · show a_m 325 [a_r 18, a_i x0, a_i x1, a_r 1568] _ = some (.inl (some (a_i 0)), (K0 L, upm v' 1568 0 z, G a', t'))
    simp (disch := first | assumption | omega) only [E_L_missingIn, B_L_missingIn_0, B_L_missingIn_8, Option.bind_some, back_v, Option.toList_some, Option.toList_none, List.cons_append, List.nil_append, Nat.reduceAdd, Int.reduceToNat, Int.reduceNeg, upm_eq, upm_r, upm_i, if_pos, if_neg, ite_self, true_or, or_true, true_and, and_true, false_or, or_false, false_and, and_false, wr_id, i10, i01, upr_f, upr_eq, thr58, upm_upr, upr_upr, lc_lt, lc_gt, lc_ge, lc_le, afit1, afit0, afitI, bifit, not_true_eq_false, not_false_eq_true, if_true, if_false, Bool.false_eq_true, reduceCtorEq, k1557, k1558, g1557_2, h, k18, k1568]
  · show a_m 325 [a_r 18, a_i x0, a_i x1, a_r 1568] _ = _
    have hh : (e = 1 ∧ cd = 1) ∨ (e = 2 ∧ cd = 2) ∨ (e = 3 ∧ cd = 3) := by simpa [e3] using he
    rcases hh with ⟨rfl, rfl⟩ | ⟨rfl, rfl⟩ | ⟨rfl, rfl⟩
    · rw [E_L_missingIn, B_L_missingIn_0, if_pos (show (K0 L 18).1 = 10 from rfl), h]; exact (back_h (m := 325) (pc := 5) (len := 3) (st := [a_i 0, a_r 1568]) (e := 1) (h := 13) (by decide +kernel)).trans B_L_missingIn_13
    · rw [E_L_missingIn, B_L_missingIn_0, if_pos (show (K0 L 18).1 = 10 from rfl), h]; exact (back_h (m := 325) (pc := 5) (len := 3) (st := [a_i 0, a_r 1568]) (e := 2) (h := 17) (by decide +kernel)).trans B_L_missingIn_17
    · rw [E_L_missingIn, B_L_missingIn_0, if_pos (show (K0 L 18).1 = 10 from rfl), h]; exact (back_h (m := 325) (pc := 5) (len := 3) (st := [a_i 0, a_r 1568]) (e := 3) (h := 21) (by decide +kernel)).trans B_L_missingIn_21
theorem wrap_326 {x0 x1 : Int} : WRAP L 119 326 [a_i x0, a_i x1] e3 zI := by
  intro u v' a a' t t'
  refine ⟨fun z h => ?_, fun e cd he h => ?_⟩
  · show a_m 326 [a_r 18, a_i x0, a_i x1, a_r 1568] _ = some (.inl (some (a_i 0)), (K0 L, upm v' 1568 0 z, G a', t'))
    simp (disch := first | assumption | omega) only [E_L_wrongIn, B_L_wrongIn_0, B_L_wrongIn_8, Option.bind_some, back_v, Option.toList_some, Option.toList_none, List.cons_append, List.nil_append, Nat.reduceAdd, Int.reduceToNat, Int.reduceNeg, upm_eq, upm_r, upm_i, if_pos, if_neg, ite_self, true_or, or_true, true_and, and_true, false_or, or_false, false_and, and_false, wr_id, i10, i01, upr_f, upr_eq, thr58, upm_upr, upr_upr, lc_lt, lc_gt, lc_ge, lc_le, afit1, afit0, afitI, bifit, not_true_eq_false, not_false_eq_true, if_true, if_false, Bool.false_eq_true, reduceCtorEq, k1557, k1558, g1557_2, h, k18, k1568]
  · show a_m 326 [a_r 18, a_i x0, a_i x1, a_r 1568] _ = _
    have hh : (e = 1 ∧ cd = 1) ∨ (e = 2 ∧ cd = 2) ∨ (e = 3 ∧ cd = 3) := by simpa [e3] using he
    rcases hh with ⟨rfl, rfl⟩ | ⟨rfl, rfl⟩ | ⟨rfl, rfl⟩
    · rw [E_L_wrongIn, B_L_wrongIn_0, if_pos (show (K0 L 18).1 = 10 from rfl), h]; exact (back_h (m := 326) (pc := 5) (len := 3) (st := [a_i 0, a_r 1568]) (e := 1) (h := 13) (by decide +kernel)).trans B_L_wrongIn_13
    · rw [E_L_wrongIn, B_L_wrongIn_0, if_pos (show (K0 L 18).1 = 10 from rfl), h]; exact (back_h (m := 326) (pc := 5) (len := 3) (st := [a_i 0, a_r 1568]) (e := 2) (h := 17) (by decide +kernel)).trans B_L_wrongIn_17
    · rw [E_L_wrongIn, B_L_wrongIn_0, if_pos (show (K0 L 18).1 = 10 from rfl), h]; exact (back_h (m := 326) (pc := 5) (len := 3) (st := [a_i 0, a_r 1568]) (e := 3) (h := 21) (by decide +kernel)).trans B_L_wrongIn_21
theorem wrap_327 : WRAP L 120 327 [] e1 zI := by
  intro u v' a a' t t'
  refine ⟨fun z h => ?_, fun e cd he h => ?_⟩
  · show a_m 327 [a_r 18, a_r 1568] _ = some (.inl (some (a_i 0)), (K0 L, upm v' 1568 0 z, G a', t'))
    simp (disch := first | assumption | omega) only [E_L_quietIn, B_L_quietIn_0, B_L_quietIn_6, Option.bind_some, back_v, Option.toList_some, Option.toList_none, List.cons_append, List.nil_append, Nat.reduceAdd, Int.reduceToNat, Int.reduceNeg, upm_eq, upm_r, upm_i, if_pos, if_neg, ite_self, true_or, or_true, true_and, and_true, false_or, or_false, false_and, and_false, wr_id, i10, i01, upr_f, upr_eq, thr58, upm_upr, upr_upr, lc_lt, lc_gt, lc_ge, lc_le, afit1, afit0, afitI, bifit, not_true_eq_false, not_false_eq_true, if_true, if_false, Bool.false_eq_true, reduceCtorEq, k1557, k1558, g1557_2, h, k18, k1568]
  · show a_m 327 [a_r 18, a_r 1568] _ = _
    have hh : (e = 1 ∧ cd = 1) := by simpa [e1] using he
    rcases hh with ⟨rfl, rfl⟩
    · rw [E_L_quietIn, B_L_quietIn_0, if_pos (show (K0 L 18).1 = 10 from rfl), h]; exact (back_h (m := 327) (pc := 3) (len := 3) (st := [a_i 0, a_r 1568]) (e := 1) (h := 11) (by decide +kernel)).trans B_L_quietIn_11
theorem wrap_328 : WRAP L 121 328 [] e1 zI := by
  intro u v' a a' t t'
  refine ⟨fun z h => ?_, fun e cd he h => ?_⟩
  · show a_m 328 [a_r 18, a_r 1568] _ = some (.inl (some (a_i 0)), (K0 L, upm v' 1568 0 z, G a', t'))
    simp (disch := first | assumption | omega) only [E_L_wholeIn, B_L_wholeIn_0, B_L_wholeIn_6, Option.bind_some, back_v, Option.toList_some, Option.toList_none, List.cons_append, List.nil_append, Nat.reduceAdd, Int.reduceToNat, Int.reduceNeg, upm_eq, upm_r, upm_i, if_pos, if_neg, ite_self, true_or, or_true, true_and, and_true, false_or, or_false, false_and, and_false, wr_id, i10, i01, upr_f, upr_eq, thr58, upm_upr, upr_upr, lc_lt, lc_gt, lc_ge, lc_le, afit1, afit0, afitI, bifit, not_true_eq_false, not_false_eq_true, if_true, if_false, Bool.false_eq_true, reduceCtorEq, k1557, k1558, g1557_2, h, k18, k1568]
  · show a_m 328 [a_r 18, a_r 1568] _ = _
    have hh : (e = 1 ∧ cd = 1) := by simpa [e1] using he
    rcases hh with ⟨rfl, rfl⟩
    · rw [E_L_wholeIn, B_L_wholeIn_0, if_pos (show (K0 L 18).1 = 10 from rfl), h]; exact (back_h (m := 328) (pc := 3) (len := 3) (st := [a_i 0, a_r 1568]) (e := 1) (h := 11) (by decide +kernel)).trans B_L_wholeIn_11
theorem wrap_329 {x0 : Int} : WRAP L 122 329 [a_i x0] e2 zI := by
  intro u v' a a' t t'
  refine ⟨fun z h => ?_, fun e cd he h => ?_⟩
  · show a_m 329 [a_r 18, a_i x0, a_r 1568] _ = some (.inl (some (a_i 0)), (K0 L, upm v' 1568 0 z, G a', t'))
    simp (disch := first | assumption | omega) only [E_L_sameWithout, B_L_sameWithout_0, B_L_sameWithout_7, Option.bind_some, back_v, Option.toList_some, Option.toList_none, List.cons_append, List.nil_append, Nat.reduceAdd, Int.reduceToNat, Int.reduceNeg, upm_eq, upm_r, upm_i, if_pos, if_neg, ite_self, true_or, or_true, true_and, and_true, false_or, or_false, false_and, and_false, wr_id, i10, i01, upr_f, upr_eq, thr58, upm_upr, upr_upr, lc_lt, lc_gt, lc_ge, lc_le, afit1, afit0, afitI, bifit, not_true_eq_false, not_false_eq_true, if_true, if_false, Bool.false_eq_true, reduceCtorEq, k1557, k1558, g1557_2, h, k18, k1568]
  · show a_m 329 [a_r 18, a_i x0, a_r 1568] _ = _
    have hh : (e = 1 ∧ cd = 1) ∨ (e = 2 ∧ cd = 2) := by simpa [e2] using he
    rcases hh with ⟨rfl, rfl⟩ | ⟨rfl, rfl⟩
    · rw [E_L_sameWithout, B_L_sameWithout_0, if_pos (show (K0 L 18).1 = 10 from rfl), h]; exact (back_h (m := 329) (pc := 4) (len := 3) (st := [a_i 0, a_r 1568]) (e := 1) (h := 12) (by decide +kernel)).trans B_L_sameWithout_12
    · rw [E_L_sameWithout, B_L_sameWithout_0, if_pos (show (K0 L 18).1 = 10 from rfl), h]; exact (back_h (m := 329) (pc := 4) (len := 3) (st := [a_i 0, a_r 1568]) (e := 2) (h := 15) (by decide +kernel)).trans B_L_sameWithout_15
theorem wrap_330 {x0 x1 : Int} : WRAP L 123 330 [a_i x0, a_i x1] e3 zI := by
  intro u v' a a' t t'
  refine ⟨fun z h => ?_, fun e cd he h => ?_⟩
  · show a_m 330 [a_r 18, a_i x0, a_i x1, a_r 1568] _ = some (.inl (some (a_i 0)), (K0 L, upm v' 1568 0 z, G a', t'))
    simp (disch := first | assumption | omega) only [E_L_sameWith, B_L_sameWith_0, B_L_sameWith_8, Option.bind_some, back_v, Option.toList_some, Option.toList_none, List.cons_append, List.nil_append, Nat.reduceAdd, Int.reduceToNat, Int.reduceNeg, upm_eq, upm_r, upm_i, if_pos, if_neg, ite_self, true_or, or_true, true_and, and_true, false_or, or_false, false_and, and_false, wr_id, i10, i01, upr_f, upr_eq, thr58, upm_upr, upr_upr, lc_lt, lc_gt, lc_ge, lc_le, afit1, afit0, afitI, bifit, not_true_eq_false, not_false_eq_true, if_true, if_false, Bool.false_eq_true, reduceCtorEq, k1557, k1558, g1557_2, h, k18, k1568]
  · show a_m 330 [a_r 18, a_i x0, a_i x1, a_r 1568] _ = _
    have hh : (e = 1 ∧ cd = 1) ∨ (e = 2 ∧ cd = 2) ∨ (e = 3 ∧ cd = 3) := by simpa [e3] using he
    rcases hh with ⟨rfl, rfl⟩ | ⟨rfl, rfl⟩ | ⟨rfl, rfl⟩
    · rw [E_L_sameWith, B_L_sameWith_0, if_pos (show (K0 L 18).1 = 10 from rfl), h]; exact (back_h (m := 330) (pc := 5) (len := 3) (st := [a_i 0, a_r 1568]) (e := 1) (h := 13) (by decide +kernel)).trans B_L_sameWith_13
    · rw [E_L_sameWith, B_L_sameWith_0, if_pos (show (K0 L 18).1 = 10 from rfl), h]; exact (back_h (m := 330) (pc := 5) (len := 3) (st := [a_i 0, a_r 1568]) (e := 2) (h := 17) (by decide +kernel)).trans B_L_sameWith_17
    · rw [E_L_sameWith, B_L_sameWith_0, if_pos (show (K0 L 18).1 = 10 from rfl), h]; exact (back_h (m := 330) (pc := 5) (len := 3) (st := [a_i 0, a_r 1568]) (e := 3) (h := 21) (by decide +kernel)).trans B_L_sameWith_21
theorem wrap_331 {x0 : Int} : WRAP L 124 331 [a_i x0] e2 zI := by
  intro u v' a a' t t'
  refine ⟨fun z h => ?_, fun e cd he h => ?_⟩
  · show a_m 331 [a_r 18, a_i x0, a_r 1568] _ = some (.inl (some (a_i 0)), (K0 L, upm v' 1568 0 z, G a', t'))
    simp (disch := first | assumption | omega) only [E_L_bestPeriod, B_L_bestPeriod_0, B_L_bestPeriod_7, Option.bind_some, back_v, Option.toList_some, Option.toList_none, List.cons_append, List.nil_append, Nat.reduceAdd, Int.reduceToNat, Int.reduceNeg, upm_eq, upm_r, upm_i, if_pos, if_neg, ite_self, true_or, or_true, true_and, and_true, false_or, or_false, false_and, and_false, wr_id, i10, i01, upr_f, upr_eq, thr58, upm_upr, upr_upr, lc_lt, lc_gt, lc_ge, lc_le, afit1, afit0, afitI, bifit, not_true_eq_false, not_false_eq_true, if_true, if_false, Bool.false_eq_true, reduceCtorEq, k1557, k1558, g1557_2, h, k18, k1568]
  · show a_m 331 [a_r 18, a_i x0, a_r 1568] _ = _
    have hh : (e = 1 ∧ cd = 1) ∨ (e = 2 ∧ cd = 2) := by simpa [e2] using he
    rcases hh with ⟨rfl, rfl⟩ | ⟨rfl, rfl⟩
    · rw [E_L_bestPeriod, B_L_bestPeriod_0, if_pos (show (K0 L 18).1 = 10 from rfl), h]; exact (back_h (m := 331) (pc := 4) (len := 3) (st := [a_i 0, a_r 1568]) (e := 1) (h := 12) (by decide +kernel)).trans B_L_bestPeriod_12
    · rw [E_L_bestPeriod, B_L_bestPeriod_0, if_pos (show (K0 L 18).1 = 10 from rfl), h]; exact (back_h (m := 331) (pc := 4) (len := 3) (st := [a_i 0, a_r 1568]) (e := 2) (h := 15) (by decide +kernel)).trans B_L_bestPeriod_15
theorem wrap_334 {x0 x1 : Int} : WRAP L 127 334 [a_i x0, a_i x1] e3 zI := by
  intro u v' a a' t t'
  refine ⟨fun z h => ?_, fun e cd he h => ?_⟩
  · show a_m 334 [a_r 18, a_i x0, a_i x1, a_r 1568] _ = some (.inl (some (a_i 0)), (K0 L, upm v' 1568 0 z, G a', t'))
    simp (disch := first | assumption | omega) only [E_L_writeDay, B_L_writeDay_0, B_L_writeDay_8, Option.bind_some, back_v, Option.toList_some, Option.toList_none, List.cons_append, List.nil_append, Nat.reduceAdd, Int.reduceToNat, Int.reduceNeg, upm_eq, upm_r, upm_i, if_pos, if_neg, ite_self, true_or, or_true, true_and, and_true, false_or, or_false, false_and, and_false, wr_id, i10, i01, upr_f, upr_eq, thr58, upm_upr, upr_upr, lc_lt, lc_gt, lc_ge, lc_le, afit1, afit0, afitI, bifit, not_true_eq_false, not_false_eq_true, if_true, if_false, Bool.false_eq_true, reduceCtorEq, k1557, k1558, g1557_2, h, k18, k1568]
  · show a_m 334 [a_r 18, a_i x0, a_i x1, a_r 1568] _ = _
    have hh : (e = 1 ∧ cd = 1) ∨ (e = 2 ∧ cd = 2) ∨ (e = 3 ∧ cd = 3) := by simpa [e3] using he
    rcases hh with ⟨rfl, rfl⟩ | ⟨rfl, rfl⟩ | ⟨rfl, rfl⟩
    · rw [E_L_writeDay, B_L_writeDay_0, if_pos (show (K0 L 18).1 = 10 from rfl), h]; exact (back_h (m := 334) (pc := 5) (len := 3) (st := [a_i 0, a_r 1568]) (e := 1) (h := 13) (by decide +kernel)).trans B_L_writeDay_13
    · rw [E_L_writeDay, B_L_writeDay_0, if_pos (show (K0 L 18).1 = 10 from rfl), h]; exact (back_h (m := 334) (pc := 5) (len := 3) (st := [a_i 0, a_r 1568]) (e := 2) (h := 17) (by decide +kernel)).trans B_L_writeDay_17
    · rw [E_L_writeDay, B_L_writeDay_0, if_pos (show (K0 L 18).1 = 10 from rfl), h]; exact (back_h (m := 334) (pc := 5) (len := 3) (st := [a_i 0, a_r 1568]) (e := 3) (h := 21) (by decide +kernel)).trans B_L_writeDay_21
theorem wrap_335 {x0 : Int} : WRAP L 128 335 [a_i x0] e2 zI := by
  intro u v' a a' t t'
  refine ⟨fun z h => ?_, fun e cd he h => ?_⟩
  · show a_m 335 [a_r 18, a_i x0, a_r 1568] _ = some (.inl (some (a_i 0)), (K0 L, upm v' 1568 0 z, G a', t'))
    simp (disch := first | assumption | omega) only [E_L_writeMissing, B_L_writeMissing_0, B_L_writeMissing_7, Option.bind_some, back_v, Option.toList_some, Option.toList_none, List.cons_append, List.nil_append, Nat.reduceAdd, Int.reduceToNat, Int.reduceNeg, upm_eq, upm_r, upm_i, if_pos, if_neg, ite_self, true_or, or_true, true_and, and_true, false_or, or_false, false_and, and_false, wr_id, i10, i01, upr_f, upr_eq, thr58, upm_upr, upr_upr, lc_lt, lc_gt, lc_ge, lc_le, afit1, afit0, afitI, bifit, not_true_eq_false, not_false_eq_true, if_true, if_false, Bool.false_eq_true, reduceCtorEq, k1557, k1558, g1557_2, h, k18, k1568]
  · show a_m 335 [a_r 18, a_i x0, a_r 1568] _ = _
    have hh : (e = 1 ∧ cd = 1) ∨ (e = 2 ∧ cd = 2) := by simpa [e2] using he
    rcases hh with ⟨rfl, rfl⟩ | ⟨rfl, rfl⟩
    · rw [E_L_writeMissing, B_L_writeMissing_0, if_pos (show (K0 L 18).1 = 10 from rfl), h]; exact (back_h (m := 335) (pc := 4) (len := 3) (st := [a_i 0, a_r 1568]) (e := 1) (h := 12) (by decide +kernel)).trans B_L_writeMissing_12
    · rw [E_L_writeMissing, B_L_writeMissing_0, if_pos (show (K0 L 18).1 = 10 from rfl), h]; exact (back_h (m := 335) (pc := 4) (len := 3) (st := [a_i 0, a_r 1568]) (e := 2) (h := 15) (by decide +kernel)).trans B_L_writeMissing_15
theorem wrap_336 {x0 : Int} : WRAP L 129 336 [a_i x0] eT zI := by
  intro u v' a a' t t'
  refine ⟨fun z h => ?_, fun e cd he h => ?_⟩
  · show a_m 336 [a_r 18, a_i x0, a_r 1568] _ = some (.inl (some (a_i 0)), (K0 L, upm v' 1568 0 z, G a', t'))
    simp (disch := first | assumption | omega) only [E_L_textByte, B_L_textByte_0, B_L_textByte_7, Option.bind_some, back_v, Option.toList_some, Option.toList_none, List.cons_append, List.nil_append, Nat.reduceAdd, Int.reduceToNat, Int.reduceNeg, upm_eq, upm_r, upm_i, if_pos, if_neg, ite_self, true_or, or_true, true_and, and_true, false_or, or_false, false_and, and_false, wr_id, i10, i01, upr_f, upr_eq, thr58, upm_upr, upr_upr, lc_lt, lc_gt, lc_ge, lc_le, afit1, afit0, afitI, bifit, not_true_eq_false, not_false_eq_true, if_true, if_false, Bool.false_eq_true, reduceCtorEq, k1557, k1558, g1557_2, h, k18, k1568]
  · show a_m 336 [a_r 18, a_i x0, a_r 1568] _ = _
    have hh : (e = 2 ∧ cd = 1) := by simpa [eT] using he
    rcases hh with ⟨rfl, rfl⟩
    · rw [E_L_textByte, B_L_textByte_0, if_pos (show (K0 L 18).1 = 10 from rfl), h]; exact (back_h (m := 336) (pc := 4) (len := 3) (st := [a_i 0, a_r 1568]) (e := 2) (h := 12) (by decide +kernel)).trans B_L_textByte_12
theorem wrap_337 {x0 x1 x2 x3 x4 x5 : Int} : WRAP L 130 337 [a_i x0, a_i x1, a_i x2, a_i x3, a_i x4, a_i x5] e3 zI := by
  intro u v' a a' t t'
  refine ⟨fun z h => ?_, fun e cd he h => ?_⟩
  · show a_m 337 [a_r 18, a_i x0, a_i x1, a_i x2, a_i x3, a_i x4, a_i x5, a_r 1568] _ = some (.inl (some (a_i 0)), (K0 L, upm v' 1568 0 z, G a', t'))
    simp (disch := first | assumption | omega) only [E_L_correct, B_L_correct_0, B_L_correct_16, Option.bind_some, back_v, Option.toList_some, Option.toList_none, List.cons_append, List.nil_append, Nat.reduceAdd, Int.reduceToNat, Int.reduceNeg, upm_eq, upm_r, upm_i, if_pos, if_neg, ite_self, true_or, or_true, true_and, and_true, false_or, or_false, false_and, and_false, wr_id, i10, i01, upr_f, upr_eq, thr58, upm_upr, upr_upr, lc_lt, lc_gt, lc_ge, lc_le, afit1, afit0, afitI, bifit, not_true_eq_false, not_false_eq_true, if_true, if_false, Bool.false_eq_true, reduceCtorEq, k1557, k1558, g1557_2, h, k18, k1568]
  · show a_m 337 [a_r 18, a_i x0, a_i x1, a_i x2, a_i x3, a_i x4, a_i x5, a_r 1568] _ = _
    have hh : (e = 1 ∧ cd = 1) ∨ (e = 2 ∧ cd = 2) ∨ (e = 3 ∧ cd = 3) := by simpa [e3] using he
    rcases hh with ⟨rfl, rfl⟩ | ⟨rfl, rfl⟩ | ⟨rfl, rfl⟩
    · rw [E_L_correct, B_L_correct_0, if_pos (show (K0 L 18).1 = 10 from rfl), h]; exact (back_h (m := 337) (pc := 13) (len := 3) (st := [a_i 0, a_r 1568]) (e := 1) (h := 21) (by decide +kernel)).trans B_L_correct_21
    · rw [E_L_correct, B_L_correct_0, if_pos (show (K0 L 18).1 = 10 from rfl), h]; exact (back_h (m := 337) (pc := 13) (len := 3) (st := [a_i 0, a_r 1568]) (e := 2) (h := 25) (by decide +kernel)).trans B_L_correct_25
    · rw [E_L_correct, B_L_correct_0, if_pos (show (K0 L 18).1 = 10 from rfl), h]; exact (back_h (m := 337) (pc := 13) (len := 3) (st := [a_i 0, a_r 1568]) (e := 3) (h := 29) (by decide +kernel)).trans B_L_correct_29
theorem wrap_338 {x0 x1 : Int} : WRAP L 131 338 [a_i x0, a_i x1] e3 zI := by
  intro u v' a a' t t'
  refine ⟨fun z h => ?_, fun e cd he h => ?_⟩
  · show a_m 338 [a_r 18, a_i x0, a_i x1, a_r 1568] _ = some (.inl (some (a_i 0)), (K0 L, upm v' 1568 0 z, G a', t'))
    simp (disch := first | assumption | omega) only [E_L_cancel, B_L_cancel_0, B_L_cancel_8, Option.bind_some, back_v, Option.toList_some, Option.toList_none, List.cons_append, List.nil_append, Nat.reduceAdd, Int.reduceToNat, Int.reduceNeg, upm_eq, upm_r, upm_i, if_pos, if_neg, ite_self, true_or, or_true, true_and, and_true, false_or, or_false, false_and, and_false, wr_id, i10, i01, upr_f, upr_eq, thr58, upm_upr, upr_upr, lc_lt, lc_gt, lc_ge, lc_le, afit1, afit0, afitI, bifit, not_true_eq_false, not_false_eq_true, if_true, if_false, Bool.false_eq_true, reduceCtorEq, k1557, k1558, g1557_2, h, k18, k1568]
  · show a_m 338 [a_r 18, a_i x0, a_i x1, a_r 1568] _ = _
    have hh : (e = 1 ∧ cd = 1) ∨ (e = 2 ∧ cd = 2) ∨ (e = 3 ∧ cd = 3) := by simpa [e3] using he
    rcases hh with ⟨rfl, rfl⟩ | ⟨rfl, rfl⟩ | ⟨rfl, rfl⟩
    · rw [E_L_cancel, B_L_cancel_0, if_pos (show (K0 L 18).1 = 10 from rfl), h]; exact (back_h (m := 338) (pc := 5) (len := 3) (st := [a_i 0, a_r 1568]) (e := 1) (h := 13) (by decide +kernel)).trans B_L_cancel_13
    · rw [E_L_cancel, B_L_cancel_0, if_pos (show (K0 L 18).1 = 10 from rfl), h]; exact (back_h (m := 338) (pc := 5) (len := 3) (st := [a_i 0, a_r 1568]) (e := 2) (h := 17) (by decide +kernel)).trans B_L_cancel_17
    · rw [E_L_cancel, B_L_cancel_0, if_pos (show (K0 L 18).1 = 10 from rfl), h]; exact (back_h (m := 338) (pc := 5) (len := 3) (st := [a_i 0, a_r 1568]) (e := 3) (h := 21) (by decide +kernel)).trans B_L_cancel_21
theorem wrap_339 {x0 x1 : Int} : WRAP L 132 339 [a_i x0, a_i x1] eA zI := by
  intro u v' a a' t t'
  refine ⟨fun z h => ?_, fun e cd he h => ?_⟩
  · show a_m 339 [a_r 18, a_i x0, a_i x1, a_r 1568] _ = some (.inl (some (a_i 0)), (K0 L, upm v' 1568 0 z, G a', t'))
    simp (disch := first | assumption | omega) only [E_L_repeat, B_L_repeat_0, B_L_repeat_8, Option.bind_some, back_v, Option.toList_some, Option.toList_none, List.cons_append, List.nil_append, Nat.reduceAdd, Int.reduceToNat, Int.reduceNeg, upm_eq, upm_r, upm_i, if_pos, if_neg, ite_self, true_or, or_true, true_and, and_true, false_or, or_false, false_and, and_false, wr_id, i10, i01, upr_f, upr_eq, thr58, upm_upr, upr_upr, lc_lt, lc_gt, lc_ge, lc_le, afit1, afit0, afitI, bifit, not_true_eq_false, not_false_eq_true, if_true, if_false, Bool.false_eq_true, reduceCtorEq, k1557, k1558, g1557_2, h, k18, k1568]
  · show a_m 339 [a_r 18, a_i x0, a_i x1, a_r 1568] _ = _
    have hh : (e = 1 ∧ cd = 1) ∨ (e = 3 ∧ cd = 2) := by simpa [eA] using he
    rcases hh with ⟨rfl, rfl⟩ | ⟨rfl, rfl⟩
    · rw [E_L_repeat, B_L_repeat_0, if_pos (show (K0 L 18).1 = 10 from rfl), h]; exact (back_h (m := 339) (pc := 5) (len := 3) (st := [a_i 0, a_r 1568]) (e := 1) (h := 13) (by decide +kernel)).trans B_L_repeat_13
    · rw [E_L_repeat, B_L_repeat_0, if_pos (show (K0 L 18).1 = 10 from rfl), h]; exact (back_h (m := 339) (pc := 5) (len := 3) (st := [a_i 0, a_r 1568]) (e := 3) (h := 17) (by decide +kernel)).trans B_L_repeat_17
theorem wrap_340 {x0 : Int} : WRAP L 133 340 [a_i x0] eA zI := by
  intro u v' a a' t t'
  refine ⟨fun z h => ?_, fun e cd he h => ?_⟩
  · show a_m 340 [a_r 18, a_i x0, a_r 1568] _ = some (.inl (some (a_i 0)), (K0 L, upm v' 1568 0 z, G a', t'))
    simp (disch := first | assumption | omega) only [E_L_whole, B_L_whole_0, B_L_whole_7, Option.bind_some, back_v, Option.toList_some, Option.toList_none, List.cons_append, List.nil_append, Nat.reduceAdd, Int.reduceToNat, Int.reduceNeg, upm_eq, upm_r, upm_i, if_pos, if_neg, ite_self, true_or, or_true, true_and, and_true, false_or, or_false, false_and, and_false, wr_id, i10, i01, upr_f, upr_eq, thr58, upm_upr, upr_upr, lc_lt, lc_gt, lc_ge, lc_le, afit1, afit0, afitI, bifit, not_true_eq_false, not_false_eq_true, if_true, if_false, Bool.false_eq_true, reduceCtorEq, k1557, k1558, g1557_2, h, k18, k1568]
  · show a_m 340 [a_r 18, a_i x0, a_r 1568] _ = _
    have hh : (e = 1 ∧ cd = 1) ∨ (e = 3 ∧ cd = 2) := by simpa [eA] using he
    rcases hh with ⟨rfl, rfl⟩ | ⟨rfl, rfl⟩
    · rw [E_L_whole, B_L_whole_0, if_pos (show (K0 L 18).1 = 10 from rfl), h]; exact (back_h (m := 340) (pc := 4) (len := 3) (st := [a_i 0, a_r 1568]) (e := 1) (h := 12) (by decide +kernel)).trans B_L_whole_12
    · rw [E_L_whole, B_L_whole_0, if_pos (show (K0 L 18).1 = 10 from rfl), h]; exact (back_h (m := 340) (pc := 4) (len := 3) (st := [a_i 0, a_r 1568]) (e := 3) (h := 15) (by decide +kernel)).trans B_L_whole_15
theorem wrap_341 {x0 : Int} : WRAP L 134 341 [a_i x0] eA zI := by
  intro u v' a a' t t'
  refine ⟨fun z h => ?_, fun e cd he h => ?_⟩
  · show a_m 341 [a_r 18, a_i x0, a_r 1568] _ = some (.inl (some (a_i 0)), (K0 L, upm v' 1568 0 z, G a', t'))
    simp (disch := first | assumption | omega) only [E_L_tick, B_L_tick_0, B_L_tick_7, Option.bind_some, back_v, Option.toList_some, Option.toList_none, List.cons_append, List.nil_append, Nat.reduceAdd, Int.reduceToNat, Int.reduceNeg, upm_eq, upm_r, upm_i, if_pos, if_neg, ite_self, true_or, or_true, true_and, and_true, false_or, or_false, false_and, and_false, wr_id, i10, i01, upr_f, upr_eq, thr58, upm_upr, upr_upr, lc_lt, lc_gt, lc_ge, lc_le, afit1, afit0, afitI, bifit, not_true_eq_false, not_false_eq_true, if_true, if_false, Bool.false_eq_true, reduceCtorEq, k1557, k1558, g1557_2, h, k18, k1568]
  · show a_m 341 [a_r 18, a_i x0, a_r 1568] _ = _
    have hh : (e = 1 ∧ cd = 1) ∨ (e = 3 ∧ cd = 2) := by simpa [eA] using he
    rcases hh with ⟨rfl, rfl⟩ | ⟨rfl, rfl⟩
    · rw [E_L_tick, B_L_tick_0, if_pos (show (K0 L 18).1 = 10 from rfl), h]; exact (back_h (m := 341) (pc := 4) (len := 3) (st := [a_i 0, a_r 1568]) (e := 1) (h := 12) (by decide +kernel)).trans B_L_tick_12
    · rw [E_L_tick, B_L_tick_0, if_pos (show (K0 L 18).1 = 10 from rfl), h]; exact (back_h (m := 341) (pc := 4) (len := 3) (st := [a_i 0, a_r 1568]) (e := 3) (h := 15) (by decide +kernel)).trans B_L_tick_15
theorem wrap_342 {x0 x1 x2 : Int} : WRAP L 135 342 [a_i x0, a_i x1, a_i x2] e3 zI := by
  intro u v' a a' t t'
  refine ⟨fun z h => ?_, fun e cd he h => ?_⟩
  · show a_m 342 [a_r 18, a_i x0, a_i x1, a_i x2, a_r 1568] _ = some (.inl (some (a_i 0)), (K0 L, upm v' 1568 0 z, G a', t'))
    simp (disch := first | assumption | omega) only [E_L_addGap, B_L_addGap_0, B_L_addGap_10, Option.bind_some, back_v, Option.toList_some, Option.toList_none, List.cons_append, List.nil_append, Nat.reduceAdd, Int.reduceToNat, Int.reduceNeg, upm_eq, upm_r, upm_i, if_pos, if_neg, ite_self, true_or, or_true, true_and, and_true, false_or, or_false, false_and, and_false, wr_id, i10, i01, upr_f, upr_eq, thr58, upm_upr, upr_upr, lc_lt, lc_gt, lc_ge, lc_le, afit1, afit0, afitI, bifit, not_true_eq_false, not_false_eq_true, if_true, if_false, Bool.false_eq_true, reduceCtorEq, k1557, k1558, g1557_2, h, k18, k1568]
  · show a_m 342 [a_r 18, a_i x0, a_i x1, a_i x2, a_r 1568] _ = _
    have hh : (e = 1 ∧ cd = 1) ∨ (e = 2 ∧ cd = 2) ∨ (e = 3 ∧ cd = 3) := by simpa [e3] using he
    rcases hh with ⟨rfl, rfl⟩ | ⟨rfl, rfl⟩ | ⟨rfl, rfl⟩
    · rw [E_L_addGap, B_L_addGap_0, if_pos (show (K0 L 18).1 = 10 from rfl), h]; exact (back_h (m := 342) (pc := 7) (len := 3) (st := [a_i 0, a_r 1568]) (e := 1) (h := 15) (by decide +kernel)).trans B_L_addGap_15
    · rw [E_L_addGap, B_L_addGap_0, if_pos (show (K0 L 18).1 = 10 from rfl), h]; exact (back_h (m := 342) (pc := 7) (len := 3) (st := [a_i 0, a_r 1568]) (e := 2) (h := 19) (by decide +kernel)).trans B_L_addGap_19
    · rw [E_L_addGap, B_L_addGap_0, if_pos (show (K0 L 18).1 = 10 from rfl), h]; exact (back_h (m := 342) (pc := 7) (len := 3) (st := [a_i 0, a_r 1568]) (e := 3) (h := 23) (by decide +kernel)).trans B_L_addGap_23
theorem wrap_343 {x0 x1 : Int} : WRAP L 136 343 [a_i x0, a_i x1] e2 zI := by
  intro u v' a a' t t'
  refine ⟨fun z h => ?_, fun e cd he h => ?_⟩
  · show a_m 343 [a_r 18, a_i x0, a_i x1, a_r 1568] _ = some (.inl (some (a_i 0)), (K0 L, upm v' 1568 0 z, G a', t'))
    simp (disch := first | assumption | omega) only [E_L_dropGap, B_L_dropGap_0, B_L_dropGap_8, Option.bind_some, back_v, Option.toList_some, Option.toList_none, List.cons_append, List.nil_append, Nat.reduceAdd, Int.reduceToNat, Int.reduceNeg, upm_eq, upm_r, upm_i, if_pos, if_neg, ite_self, true_or, or_true, true_and, and_true, false_or, or_false, false_and, and_false, wr_id, i10, i01, upr_f, upr_eq, thr58, upm_upr, upr_upr, lc_lt, lc_gt, lc_ge, lc_le, afit1, afit0, afitI, bifit, not_true_eq_false, not_false_eq_true, if_true, if_false, Bool.false_eq_true, reduceCtorEq, k1557, k1558, g1557_2, h, k18, k1568]
  · show a_m 343 [a_r 18, a_i x0, a_i x1, a_r 1568] _ = _
    have hh : (e = 1 ∧ cd = 1) ∨ (e = 2 ∧ cd = 2) := by simpa [e2] using he
    rcases hh with ⟨rfl, rfl⟩ | ⟨rfl, rfl⟩
    · rw [E_L_dropGap, B_L_dropGap_0, if_pos (show (K0 L 18).1 = 10 from rfl), h]; exact (back_h (m := 343) (pc := 5) (len := 3) (st := [a_i 0, a_r 1568]) (e := 1) (h := 13) (by decide +kernel)).trans B_L_dropGap_13
    · rw [E_L_dropGap, B_L_dropGap_0, if_pos (show (K0 L 18).1 = 10 from rfl), h]; exact (back_h (m := 343) (pc := 5) (len := 3) (st := [a_i 0, a_r 1568]) (e := 2) (h := 17) (by decide +kernel)).trans B_L_dropGap_17
theorem wrap_344 {x0 x1 : Int} : WRAP L 137 344 [a_i x0, a_i x1] e3 zI := by
  intro u v' a a' t t'
  refine ⟨fun z h => ?_, fun e cd he h => ?_⟩
  · show a_m 344 [a_r 18, a_i x0, a_i x1, a_r 1568] _ = some (.inl (some (a_i 0)), (K0 L, upm v' 1568 0 z, G a', t'))
    simp (disch := first | assumption | omega) only [E_L_setDelay, B_L_setDelay_0, B_L_setDelay_8, Option.bind_some, back_v, Option.toList_some, Option.toList_none, List.cons_append, List.nil_append, Nat.reduceAdd, Int.reduceToNat, Int.reduceNeg, upm_eq, upm_r, upm_i, if_pos, if_neg, ite_self, true_or, or_true, true_and, and_true, false_or, or_false, false_and, and_false, wr_id, i10, i01, upr_f, upr_eq, thr58, upm_upr, upr_upr, lc_lt, lc_gt, lc_ge, lc_le, afit1, afit0, afitI, bifit, not_true_eq_false, not_false_eq_true, if_true, if_false, Bool.false_eq_true, reduceCtorEq, k1557, k1558, g1557_2, h, k18, k1568]
  · show a_m 344 [a_r 18, a_i x0, a_i x1, a_r 1568] _ = _
    have hh : (e = 1 ∧ cd = 1) ∨ (e = 2 ∧ cd = 2) ∨ (e = 3 ∧ cd = 3) := by simpa [e3] using he
    rcases hh with ⟨rfl, rfl⟩ | ⟨rfl, rfl⟩ | ⟨rfl, rfl⟩
    · rw [E_L_setDelay, B_L_setDelay_0, if_pos (show (K0 L 18).1 = 10 from rfl), h]; exact (back_h (m := 344) (pc := 5) (len := 3) (st := [a_i 0, a_r 1568]) (e := 1) (h := 13) (by decide +kernel)).trans B_L_setDelay_13
    · rw [E_L_setDelay, B_L_setDelay_0, if_pos (show (K0 L 18).1 = 10 from rfl), h]; exact (back_h (m := 344) (pc := 5) (len := 3) (st := [a_i 0, a_r 1568]) (e := 2) (h := 17) (by decide +kernel)).trans B_L_setDelay_17
    · rw [E_L_setDelay, B_L_setDelay_0, if_pos (show (K0 L 18).1 = 10 from rfl), h]; exact (back_h (m := 344) (pc := 5) (len := 3) (st := [a_i 0, a_r 1568]) (e := 3) (h := 21) (by decide +kernel)).trans B_L_setDelay_21
theorem wrap_345 {x0 : Int} : WRAP L 138 345 [a_i x0] eA zI := by
  intro u v' a a' t t'
  refine ⟨fun z h => ?_, fun e cd he h => ?_⟩
  · show a_m 345 [a_r 18, a_i x0, a_r 1568] _ = some (.inl (some (a_i 0)), (K0 L, upm v' 1568 0 z, G a', t'))
    simp (disch := first | assumption | omega) only [E_L_setPeriod, B_L_setPeriod_0, B_L_setPeriod_7, Option.bind_some, back_v, Option.toList_some, Option.toList_none, List.cons_append, List.nil_append, Nat.reduceAdd, Int.reduceToNat, Int.reduceNeg, upm_eq, upm_r, upm_i, if_pos, if_neg, ite_self, true_or, or_true, true_and, and_true, false_or, or_false, false_and, and_false, wr_id, i10, i01, upr_f, upr_eq, thr58, upm_upr, upr_upr, lc_lt, lc_gt, lc_ge, lc_le, afit1, afit0, afitI, bifit, not_true_eq_false, not_false_eq_true, if_true, if_false, Bool.false_eq_true, reduceCtorEq, k1557, k1558, g1557_2, h, k18, k1568]
  · show a_m 345 [a_r 18, a_i x0, a_r 1568] _ = _
    have hh : (e = 1 ∧ cd = 1) ∨ (e = 3 ∧ cd = 2) := by simpa [eA] using he
    rcases hh with ⟨rfl, rfl⟩ | ⟨rfl, rfl⟩
    · rw [E_L_setPeriod, B_L_setPeriod_0, if_pos (show (K0 L 18).1 = 10 from rfl), h]; exact (back_h (m := 345) (pc := 4) (len := 3) (st := [a_i 0, a_r 1568]) (e := 1) (h := 12) (by decide +kernel)).trans B_L_setPeriod_12
    · rw [E_L_setPeriod, B_L_setPeriod_0, if_pos (show (K0 L 18).1 = 10 from rfl), h]; exact (back_h (m := 345) (pc := 4) (len := 3) (st := [a_i 0, a_r 1568]) (e := 3) (h := 15) (by decide +kernel)).trans B_L_setPeriod_15
theorem wrap_346 {x0 : Int} : WRAP L 139 346 [a_i x0] e2 zI := by
  intro u v' a a' t t'
  refine ⟨fun z h => ?_, fun e cd he h => ?_⟩
  · show a_m 346 [a_r 18, a_i x0, a_r 1568] _ = some (.inl (some (a_i 0)), (K0 L, upm v' 1568 0 z, G a', t'))
    simp (disch := first | assumption | omega) only [E_L_fetch, B_L_fetch_0, B_L_fetch_7, Option.bind_some, back_v, Option.toList_some, Option.toList_none, List.cons_append, List.nil_append, Nat.reduceAdd, Int.reduceToNat, Int.reduceNeg, upm_eq, upm_r, upm_i, if_pos, if_neg, ite_self, true_or, or_true, true_and, and_true, false_or, or_false, false_and, and_false, wr_id, i10, i01, upr_f, upr_eq, thr58, upm_upr, upr_upr, lc_lt, lc_gt, lc_ge, lc_le, afit1, afit0, afitI, bifit, not_true_eq_false, not_false_eq_true, if_true, if_false, Bool.false_eq_true, reduceCtorEq, k1557, k1558, g1557_2, h, k18, k1568]
  · show a_m 346 [a_r 18, a_i x0, a_r 1568] _ = _
    have hh : (e = 1 ∧ cd = 1) ∨ (e = 2 ∧ cd = 2) := by simpa [e2] using he
    rcases hh with ⟨rfl, rfl⟩ | ⟨rfl, rfl⟩
    · rw [E_L_fetch, B_L_fetch_0, if_pos (show (K0 L 18).1 = 10 from rfl), h]; exact (back_h (m := 346) (pc := 4) (len := 3) (st := [a_i 0, a_r 1568]) (e := 1) (h := 12) (by decide +kernel)).trans B_L_fetch_12
    · rw [E_L_fetch, B_L_fetch_0, if_pos (show (K0 L 18).1 = 10 from rfl), h]; exact (back_h (m := 346) (pc := 4) (len := 3) (st := [a_i 0, a_r 1568]) (e := 2) (h := 15) (by decide +kernel)).trans B_L_fetch_15
theorem wrap_347 : WRAP L 140 347 [] e1 zI := by
  intro u v' a a' t t'
  refine ⟨fun z h => ?_, fun e cd he h => ?_⟩
  · show a_m 347 [a_r 18, a_r 1568] _ = some (.inl (some (a_i 0)), (K0 L, upm v' 1568 0 z, G a', t'))
    simp (disch := first | assumption | omega) only [E_L_undo, B_L_undo_0, B_L_undo_6, Option.bind_some, back_v, Option.toList_some, Option.toList_none, List.cons_append, List.nil_append, Nat.reduceAdd, Int.reduceToNat, Int.reduceNeg, upm_eq, upm_r, upm_i, if_pos, if_neg, ite_self, true_or, or_true, true_and, and_true, false_or, or_false, false_and, and_false, wr_id, i10, i01, upr_f, upr_eq, thr58, upm_upr, upr_upr, lc_lt, lc_gt, lc_ge, lc_le, afit1, afit0, afitI, bifit, not_true_eq_false, not_false_eq_true, if_true, if_false, Bool.false_eq_true, reduceCtorEq, k1557, k1558, g1557_2, h, k18, k1568]
  · show a_m 347 [a_r 18, a_r 1568] _ = _
    have hh : (e = 1 ∧ cd = 1) := by simpa [e1] using he
    rcases hh with ⟨rfl, rfl⟩
    · rw [E_L_undo, B_L_undo_0, if_pos (show (K0 L 18).1 = 10 from rfl), h]; exact (back_h (m := 347) (pc := 3) (len := 3) (st := [a_i 0, a_r 1568]) (e := 1) (h := 11) (by decide +kernel)).trans B_L_undo_11
theorem wrap_348 {x0 : Int} : WRAP L 142 348 [a_i x0] e2 zI := by
  intro u v' a a' t t'
  refine ⟨fun z h => ?_, fun e cd he h => ?_⟩
  · show a_m 348 [a_r 18, a_i x0, a_r 1568] _ = some (.inl (some (a_i 0)), (K0 L, upm v' 1568 0 z, G a', t'))
    simp (disch := first | assumption | omega) only [E_L_save, B_L_save_0, B_L_save_7, Option.bind_some, back_v, Option.toList_some, Option.toList_none, List.cons_append, List.nil_append, Nat.reduceAdd, Int.reduceToNat, Int.reduceNeg, upm_eq, upm_r, upm_i, if_pos, if_neg, ite_self, true_or, or_true, true_and, and_true, false_or, or_false, false_and, and_false, wr_id, i10, i01, upr_f, upr_eq, thr58, upm_upr, upr_upr, lc_lt, lc_gt, lc_ge, lc_le, afit1, afit0, afitI, bifit, not_true_eq_false, not_false_eq_true, if_true, if_false, Bool.false_eq_true, reduceCtorEq, k1557, k1558, g1557_2, h, k18, k1568]
  · show a_m 348 [a_r 18, a_i x0, a_r 1568] _ = _
    have hh : (e = 1 ∧ cd = 1) ∨ (e = 2 ∧ cd = 2) := by simpa [e2] using he
    rcases hh with ⟨rfl, rfl⟩ | ⟨rfl, rfl⟩
    · rw [E_L_save, B_L_save_0, if_pos (show (K0 L 18).1 = 10 from rfl), h]; exact (back_h (m := 348) (pc := 4) (len := 3) (st := [a_i 0, a_r 1568]) (e := 1) (h := 12) (by decide +kernel)).trans B_L_save_12
    · rw [E_L_save, B_L_save_0, if_pos (show (K0 L 18).1 = 10 from rfl), h]; exact (back_h (m := 348) (pc := 4) (len := 3) (st := [a_i 0, a_r 1568]) (e := 2) (h := 15) (by decide +kernel)).trans B_L_save_15
theorem wrap_349 {x0 : Int} : WRAP L 143 349 [a_i x0] eR zI := by
  intro u v' a a' t t'
  refine ⟨fun z h => ?_, fun e cd he h => ?_⟩
  · show a_m 349 [a_r 18, a_i x0, a_r 1568] _ = some (.inl (some (a_i 0)), (K0 L, upm v' 1568 0 z, G a', t'))
    simp (disch := first | assumption | omega) only [E_L_restore, B_L_restore_0, B_L_restore_7, Option.bind_some, back_v, Option.toList_some, Option.toList_none, List.cons_append, List.nil_append, Nat.reduceAdd, Int.reduceToNat, Int.reduceNeg, upm_eq, upm_r, upm_i, if_pos, if_neg, ite_self, true_or, or_true, true_and, and_true, false_or, or_false, false_and, and_false, wr_id, i10, i01, upr_f, upr_eq, thr58, upm_upr, upr_upr, lc_lt, lc_gt, lc_ge, lc_le, afit1, afit0, afitI, bifit, not_true_eq_false, not_false_eq_true, if_true, if_false, Bool.false_eq_true, reduceCtorEq, k1557, k1558, g1557_2, h, k18, k1568]
  · show a_m 349 [a_r 18, a_i x0, a_r 1568] _ = _
    have hh : (e = 2 ∧ cd = 1) ∨ (e = 1 ∧ cd = 2) := by simpa [eR] using he
    rcases hh with ⟨rfl, rfl⟩ | ⟨rfl, rfl⟩
    · rw [E_L_restore, B_L_restore_0, if_pos (show (K0 L 18).1 = 10 from rfl), h]; exact (back_h (m := 349) (pc := 4) (len := 3) (st := [a_i 0, a_r 1568]) (e := 2) (h := 12) (by decide +kernel)).trans B_L_restore_12
    · rw [E_L_restore, B_L_restore_0, if_pos (show (K0 L 18).1 = 10 from rfl), h]; exact (back_h (m := 349) (pc := 4) (len := 3) (st := [a_i 0, a_r 1568]) (e := 1) (h := 15) (by decide +kernel)).trans B_L_restore_15
end WRP
