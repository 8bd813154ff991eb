/-! block equations, by wip/whole/gen_blocks.py -/
theorem E_X2_isInGap {σ : AS} {r0 : Nat} {x1 : Int} : a_m 17 [a_r (r0), a_i (x1)] σ = a_X 17 0 [a_r (r0), a_i (x1), a_x false] [] σ := a_m_eq (by rw [a_entry, show m_maxL 17 = 3 from by decide +kernel]; rfl)
theorem B_X2_isInGap_0 {k : Nat → Nat × Nat} {u : Nat → Nat → Int} {g : Nat → Nat → Nat} {t : Nat × Nat × Nat} {r0 : Nat} {x1 : Int} {v2 : AV} : a_X 17 0 [a_r (r0), a_i (x1), v2] [] (k, u, g, t) = a_X 17 2 [a_r (r0), a_i (x1), a_i (0)] [] (k, u, g, t) := by
  refine (X_iconst (m := 17) (pc := 0) (n := 0) (by decide +kernel) ).trans ?_
  refine (X_istore_n (m := 17) (pc := 1) (n := 2) (by decide +kernel) rfl (Nat.le_of_ble_eq_true rfl) rfl).trans ?_
  rfl
theorem B_X2_isInGap_2 {k : Nat → Nat × Nat} {u : Nat → Nat → Int} {g : Nat → Nat → Nat} {t : Nat × Nat × Nat} {r0 : Nat} {x1 : Int} {x2 : Int} : a_X 17 2 [a_r (r0), a_i (x1), a_i (x2)] [] (k, u, g, t) = if (k r0).1 = 3 then if (x2) ≥ (u r0 1) then some (.inl (some (a_i (0))), (k, u, g, t)) else if (k r0).1 = 3 then if ((k (g r0 2)).1 = 20 ∨ (k (g r0 2)).1 = 24) ∧ 0 ≤ (x2) ∧ (x2) < ((k (g r0 2)).2 : Int) then if (u (g r0 2) (x2).toNat) > (x1) then a_X 17 2 [a_r (r0), a_i (x1), a_i (wr (x2 + 1))] [] (k, u, g, t) else if (k r0).1 = 3 then if ((k (g r0 3)).1 = 20 ∨ (k (g r0 3)).1 = 24) ∧ 0 ≤ (x2) ∧ (x2) < ((k (g r0 3)).2 : Int) then if (x1) > (u (g r0 3) (x2).toNat) then a_X 17 2 [a_r (r0), a_i (x1), a_i (wr (x2 + 1))] [] (k, u, g, t) else some (.inl (some (a_i (1))), (k, u, g, t)) else none else none else none else none else none := by
  refine (X_iload_n (m := 17) (pc := 2) (n := 2) (by decide +kernel) rfl).trans ?_
  refine (X_aload_n (m := 17) (pc := 3) (n := 0) (by decide +kernel) rfl).trans ?_
  refine (X_getI (m := 17) (pc := 4) (n := 25) (c := 3) (q := 1) (ty := 1) (fi := false) (by decide +kernel) (by decide +kernel) (by decide +kernel)).trans ?_
  refine ite_congr rfl (fun _ => ?_) (fun _ => rfl)
  refine (X_ic_ge (m := 17) (pc := 7) (off := 31) (tg := 38) (by decide +kernel) (by decide +kernel)).trans ?_
  refine ite_congr rfl (fun _ => ?_) (fun _ => ?_)
  · refine (X_iconst (m := 17) (pc := 38) (n := 0) (by decide +kernel) ).trans ?_
    exact X_ireturn (m := 17) (pc := 39) (f := 2) (by decide +kernel) (by decide +kernel) rfl
  · refine (X_aload_n (m := 17) (pc := 10) (n := 0) (by decide +kernel) rfl).trans ?_
    refine (X_getR (m := 17) (pc := 11) (n := 9) (c := 3) (q := 2) (fi := true) (by decide +kernel) (by decide +kernel)).trans ?_
    refine ite_congr rfl (fun _ => ?_) (fun _ => rfl)
    refine (X_iload_n (m := 17) (pc := 14) (n := 2) (by decide +kernel) rfl).trans ?_
    refine (X_iaload (m := 17) (pc := 15)  (by decide +kernel) ).trans ?_
    refine ite_congr rfl (fun _ => ?_) (fun _ => rfl)
    refine (X_iload_n (m := 17) (pc := 16) (n := 1) (by decide +kernel) rfl).trans ?_
    refine (X_ic_gt (m := 17) (pc := 17) (off := 15) (tg := 32) (by decide +kernel) (by decide +kernel)).trans ?_
    refine ite_congr rfl (fun _ => ?_) (fun _ => ?_)
    · refine (X_iinc (m := 17) (pc := 32) (n := 2) (c := 1) (by decide +kernel) rfl rfl (Nat.le_of_ble_eq_true rfl) rfl).trans ?_
      refine (X_goto (m := 17) (pc := 35) (off := -33) (tg := 2) (by decide +kernel) (by decide +kernel)).trans ?_
      rfl
    · refine (X_iload_n (m := 17) (pc := 20) (n := 1) (by decide +kernel) rfl).trans ?_
      refine (X_aload_n (m := 17) (pc := 21) (n := 0) (by decide +kernel) rfl).trans ?_
      refine (X_getR (m := 17) (pc := 22) (n := 15) (c := 3) (q := 3) (fi := true) (by decide +kernel) (by decide +kernel)).trans ?_
      refine ite_congr rfl (fun _ => ?_) (fun _ => rfl)
      refine (X_iload_n (m := 17) (pc := 25) (n := 2) (by decide +kernel) rfl).trans ?_
      refine (X_iaload (m := 17) (pc := 26)  (by decide +kernel) ).trans ?_
      refine ite_congr rfl (fun _ => ?_) (fun _ => rfl)
      refine (X_ic_gt (m := 17) (pc := 27) (off := 5) (tg := 32) (by decide +kernel) (by decide +kernel)).trans ?_
      refine ite_congr rfl (fun _ => ?_) (fun _ => ?_)
      · refine (X_iinc (m := 17) (pc := 32) (n := 2) (c := 1) (by decide +kernel) rfl rfl (Nat.le_of_ble_eq_true rfl) rfl).trans ?_
        refine (X_goto (m := 17) (pc := 35) (off := -33) (tg := 2) (by decide +kernel) (by decide +kernel)).trans ?_
        rfl
      · refine (X_iconst (m := 17) (pc := 30) (n := 1) (by decide +kernel) ).trans ?_
        exact X_ireturn (m := 17) (pc := 31) (f := 2) (by decide +kernel) (by decide +kernel) rfl
theorem E_X8_rowOf {σ : AS} {r0 : Nat} {x1 : Int} {x2 : Int} : a_m 84 [a_r (r0), a_i (x1), a_i (x2)] σ = a_X 84 0 [a_r (r0), a_i (x1), a_i (x2)] [] σ := a_m_eq (by rw [a_entry, show m_maxL 84 = 3 from by decide +kernel]; rfl)
theorem B_X8_rowOf_0 {k : Nat → Nat × Nat} {u : Nat → Nat → Int} {g : Nat → Nat → Nat} {t : Nat × Nat × Nat} {r0 : Nat} {x1 : Int} {x2 : Int} : a_X 84 0 [a_r (r0), a_i (x1), a_i (x2)] [] (k, u, g, t) = if (x2) ≠ 0 then some (.inl (some (a_i (wr (11 + x2)))), (k, u, g, t)) else some (.inl (some (a_i (x1))), (k, u, g, t)) := by
  refine (X_iload_n (m := 84) (pc := 0) (n := 2) (by decide +kernel) rfl).trans ?_
  refine (X_if_ne (m := 84) (pc := 1) (off := 7) (tg := 8) (by decide +kernel) (by decide +kernel)).trans ?_
  refine ite_congr rfl (fun _ => ?_) (fun _ => ?_)
  · refine (X_bipush (m := 84) (pc := 8) (n := 11) (by decide +kernel) ).trans ?_
    refine (X_iload_n (m := 84) (pc := 10) (n := 2) (by decide +kernel) rfl).trans ?_
    refine (X_iadd (m := 84) (pc := 11)  (by decide +kernel) ).trans ?_
    exact X_ireturn (m := 84) (pc := 12) (f := 1) (by decide +kernel) (by decide +kernel) rfl
  · refine (X_iload_n (m := 84) (pc := 4) (n := 1) (by decide +kernel) rfl).trans ?_
    refine (X_goto (m := 84) (pc := 5) (off := 7) (tg := 12) (by decide +kernel) (by decide +kernel)).trans ?_
    exact X_ireturn (m := 84) (pc := 12) (f := 1) (by decide +kernel) (by decide +kernel) rfl
theorem E_X8_covers {σ : AS} {r0 : Nat} {x1 : Int} {x2 : Int} {x3 : Int} : a_m 86 [a_r (r0), a_i (x1), a_i (x2), a_i (x3)] σ = a_X 86 0 [a_r (r0), a_i (x1), a_i (x2), a_i (x3)] [] σ := a_m_eq (by rw [a_entry, show m_maxL 86 = 4 from by decide +kernel]; rfl)
theorem B_X8_covers_0 {k : Nat → Nat × Nat} {u : Nat → Nat → Int} {g : Nat → Nat → Nat} {t : Nat × Nat × Nat} {r0 : Nat} {x1 : Int} {x2 : Int} {x3 : Int} : a_X 86 0 [a_r (r0), a_i (x1), a_i (x2), a_i (x3)] [] (k, u, g, t) = if (k r0).1 = 9 then if ((k (g r0 1)).1 = 20 ∨ (k (g r0 1)).1 = 24) ∧ 0 ≤ (x1) ∧ (x1) < ((k (g r0 1)).2 : Int) then if (u (g r0 1) (x1).toNat) ≠ (x2) then some (.inl (some (a_i (0))), (k, u, g, t)) else if (k r0).1 = 9 then if ((k (g r0 2)).1 = 20 ∨ (k (g r0 2)).1 = 24) ∧ 0 ≤ (x1) ∧ (x1) < ((k (g r0 2)).2 : Int) then if (u (g r0 2) (x1).toNat) > (x3) then some (.inl (some (a_i (0))), (k, u, g, t)) else if (k r0).1 = 9 then if ((k (g r0 3)).1 = 20 ∨ (k (g r0 3)).1 = 24) ∧ 0 ≤ (x1) ∧ (x1) < ((k (g r0 3)).2 : Int) then if (x3) ≥ (u (g r0 3) (x1).toNat) then some (.inl (some (a_i (0))), (k, u, g, t)) else some (.inl (some (a_i (1))), (k, u, g, t)) else none else none else none else none else none else none := by
  refine (X_aload_n (m := 86) (pc := 0) (n := 0) (by decide +kernel) rfl).trans ?_
  refine (X_getR (m := 86) (pc := 1) (n := 15) (c := 9) (q := 1) (fi := true) (by decide +kernel) (by decide +kernel)).trans ?_
  refine ite_congr rfl (fun _ => ?_) (fun _ => rfl)
  refine (X_iload_n (m := 86) (pc := 4) (n := 1) (by decide +kernel) rfl).trans ?_
  refine (X_iaload (m := 86) (pc := 5)  (by decide +kernel) ).trans ?_
  refine ite_congr rfl (fun _ => ?_) (fun _ => rfl)
  refine (X_iload_n (m := 86) (pc := 6) (n := 2) (by decide +kernel) rfl).trans ?_
  refine (X_ic_ne (m := 86) (pc := 7) (off := 27) (tg := 34) (by decide +kernel) (by decide +kernel)).trans ?_
  refine ite_congr rfl (fun _ => ?_) (fun _ => ?_)
  · refine (X_iconst (m := 86) (pc := 34) (n := 0) (by decide +kernel) ).trans ?_
    exact X_ireturn (m := 86) (pc := 35) (f := 2) (by decide +kernel) (by decide +kernel) rfl
  · refine (X_aload_n (m := 86) (pc := 10) (n := 0) (by decide +kernel) rfl).trans ?_
    refine (X_getR (m := 86) (pc := 11) (n := 18) (c := 9) (q := 2) (fi := true) (by decide +kernel) (by decide +kernel)).trans ?_
    refine ite_congr rfl (fun _ => ?_) (fun _ => rfl)
    refine (X_iload_n (m := 86) (pc := 14) (n := 1) (by decide +kernel) rfl).trans ?_
    refine (X_iaload (m := 86) (pc := 15)  (by decide +kernel) ).trans ?_
    refine ite_congr rfl (fun _ => ?_) (fun _ => rfl)
    refine (X_iload_n (m := 86) (pc := 16) (n := 3) (by decide +kernel) rfl).trans ?_
    refine (X_ic_gt (m := 86) (pc := 17) (off := 17) (tg := 34) (by decide +kernel) (by decide +kernel)).trans ?_
    refine ite_congr rfl (fun _ => ?_) (fun _ => ?_)
    · refine (X_iconst (m := 86) (pc := 34) (n := 0) (by decide +kernel) ).trans ?_
      exact X_ireturn (m := 86) (pc := 35) (f := 2) (by decide +kernel) (by decide +kernel) rfl
    · refine (X_iload_n (m := 86) (pc := 20) (n := 3) (by decide +kernel) rfl).trans ?_
      refine (X_aload_n (m := 86) (pc := 21) (n := 0) (by decide +kernel) rfl).trans ?_
      refine (X_getR (m := 86) (pc := 22) (n := 21) (c := 9) (q := 3) (fi := true) (by decide +kernel) (by decide +kernel)).trans ?_
      refine ite_congr rfl (fun _ => ?_) (fun _ => rfl)
      refine (X_iload_n (m := 86) (pc := 25) (n := 1) (by decide +kernel) rfl).trans ?_
      refine (X_iaload (m := 86) (pc := 26)  (by decide +kernel) ).trans ?_
      refine ite_congr rfl (fun _ => ?_) (fun _ => rfl)
      refine (X_ic_ge (m := 86) (pc := 27) (off := 7) (tg := 34) (by decide +kernel) (by decide +kernel)).trans ?_
      refine ite_congr rfl (fun _ => ?_) (fun _ => ?_)
      · refine (X_iconst (m := 86) (pc := 34) (n := 0) (by decide +kernel) ).trans ?_
        exact X_ireturn (m := 86) (pc := 35) (f := 2) (by decide +kernel) (by decide +kernel) rfl
      · refine (X_iconst (m := 86) (pc := 30) (n := 1) (by decide +kernel) ).trans ?_
        refine (X_goto (m := 86) (pc := 31) (off := 4) (tg := 35) (by decide +kernel) (by decide +kernel)).trans ?_
        exact X_ireturn (m := 86) (pc := 35) (f := 2) (by decide +kernel) (by decide +kernel) rfl
theorem E_X8_differences {σ : AS} {r0 : Nat} {r1 : Nat} {r2 : Nat} : a_m 89 [a_r (r0), a_r (r1), a_r (r2)] σ = a_X 89 0 [a_r (r0), a_r (r1), a_r (r2), a_x false, a_x false] [] σ := a_m_eq (by rw [a_entry, show m_maxL 89 = 5 from by decide +kernel]; rfl)
theorem B_X8_differences_0 {k : Nat → Nat × Nat} {u : Nat → Nat → Int} {g : Nat → Nat → Nat} {t : Nat × Nat × Nat} {r0 : Nat} {r1 : Nat} {r2 : Nat} {v3 : AV} {v4 : AV} : a_X 89 0 [a_r (r0), a_r (r1), a_r (r2), v3, v4] [] (k, u, g, t) = a_X 89 5 [a_r (r0), a_r (r1), a_r (r2), a_i (0), a_i (0)] [] (k, u, g, t) := by
  refine (X_iconst (m := 89) (pc := 0) (n := 0) (by decide +kernel) ).trans ?_
  refine (X_istore_n (m := 89) (pc := 1) (n := 3) (by decide +kernel) rfl (Nat.le_of_ble_eq_true rfl) rfl).trans ?_
  refine (X_iconst (m := 89) (pc := 2) (n := 0) (by decide +kernel) ).trans ?_
  refine (X_istore (m := 89) (pc := 3) (n := 4) (by decide +kernel) rfl (Nat.le_of_ble_eq_true rfl) rfl).trans ?_
  rfl
theorem B_X8_differences_5 {k : Nat → Nat × Nat} {u : Nat → Nat → Int} {g : Nat → Nat → Nat} {t : Nat × Nat × Nat} {r0 : Nat} {r1 : Nat} {r2 : Nat} {x3 : Int} {x4 : Int} : a_X 89 5 [a_r (r0), a_r (r1), a_r (r2), a_i (x3), a_i (x4)] [] (k, u, g, t) = if (x4) ≥ (12) then some (.inl (some (a_i (x3))), (k, u, g, t)) else if ((k r1).1 = 20 ∨ (k r1).1 = 24) ∧ 0 ≤ (x4) ∧ (x4) < ((k r1).2 : Int) then if ((k r2).1 = 20 ∨ (k r2).1 = 24) ∧ 0 ≤ (x4) ∧ (x4) < ((k r2).2 : Int) then if (u r1 (x4).toNat) = (u r2 (x4).toNat) then a_X 89 5 [a_r (r0), a_r (r1), a_r (r2), a_i (x3), a_i (wr (x4 + 1))] [] (k, u, g, t) else if ((k r1).1 = 20 ∨ (k r1).1 = 24) ∧ 0 ≤ (x4) ∧ (x4) < ((k r1).2 : Int) then if (k r0).1 = 9 then (a_m 84 [a_r (r0), a_i (x4), a_i (u r1 (x4).toNat)] (k, u, g, t)).bind (a_back 89 31 3 [a_r (r0), a_r (r1), a_r (r2), a_i (x3), a_i (x4)] [a_r (r0)]) else none else none else none else none := by
  refine (X_iload (m := 89) (pc := 5) (n := 4) (by decide +kernel) rfl).trans ?_
  refine (X_bipush (m := 89) (pc := 7) (n := 12) (by decide +kernel) ).trans ?_
  refine (X_ic_ge (m := 89) (pc := 9) (off := 54) (tg := 63) (by decide +kernel) (by decide +kernel)).trans ?_
  refine ite_congr rfl (fun _ => ?_) (fun _ => ?_)
  · refine (X_iload_n (m := 89) (pc := 63) (n := 3) (by decide +kernel) rfl).trans ?_
    exact X_ireturn (m := 89) (pc := 64) (f := 1) (by decide +kernel) (by decide +kernel) rfl
  · refine (X_aload_n (m := 89) (pc := 12) (n := 1) (by decide +kernel) rfl).trans ?_
    refine (X_iload (m := 89) (pc := 13) (n := 4) (by decide +kernel) rfl).trans ?_
    refine (X_iaload (m := 89) (pc := 15)  (by decide +kernel) ).trans ?_
    refine ite_congr rfl (fun _ => ?_) (fun _ => rfl)
    refine (X_aload_n (m := 89) (pc := 16) (n := 2) (by decide +kernel) rfl).trans ?_
    refine (X_iload (m := 89) (pc := 17) (n := 4) (by decide +kernel) rfl).trans ?_
    refine (X_iaload (m := 89) (pc := 19)  (by decide +kernel) ).trans ?_
    refine ite_congr rfl (fun _ => ?_) (fun _ => rfl)
    refine (X_ic_eq (m := 89) (pc := 20) (off := 37) (tg := 57) (by decide +kernel) (by decide +kernel)).trans ?_
    refine ite_congr rfl (fun _ => ?_) (fun _ => ?_)
    · refine (X_iinc (m := 89) (pc := 57) (n := 4) (c := 1) (by decide +kernel) rfl rfl (Nat.le_of_ble_eq_true rfl) rfl).trans ?_
      refine (X_goto (m := 89) (pc := 60) (off := -55) (tg := 5) (by decide +kernel) (by decide +kernel)).trans ?_
      rfl
    · refine (X_aload_n (m := 89) (pc := 23) (n := 0) (by decide +kernel) rfl).trans ?_
      refine (X_aload_n (m := 89) (pc := 24) (n := 0) (by decide +kernel) rfl).trans ?_
      refine (X_iload (m := 89) (pc := 25) (n := 4) (by decide +kernel) rfl).trans ?_
      refine (X_aload_n (m := 89) (pc := 27) (n := 1) (by decide +kernel) rfl).trans ?_
      refine (X_iload (m := 89) (pc := 28) (n := 4) (by decide +kernel) rfl).trans ?_
      refine (X_iaload (m := 89) (pc := 30)  (by decide +kernel) ).trans ?_
      refine ite_congr rfl (fun _ => ?_) (fun _ => rfl)
      refine (X_call_vi (m := 89) (pc := 31) (q := 51) (y := 84) (n := 3) (as := [a_r (r0), a_i (x4), a_i (u r1 (x4).toNat)]) (rest := [a_r (r0)]) (by decide +kernel) (by decide +kernel) (by decide +kernel) (by decide +kernel) rfl rfl (Nat.le_of_ble_eq_true rfl) (Nat.le_of_ble_eq_true rfl) rfl).trans ?_
      exact ite_congr (by simp [a_rcv, show m_recv 84 = 9 from by decide +kernel]) (fun _ => rfl) (fun _ => rfl)
theorem B_X8_differences_34 {k : Nat → Nat × Nat} {u : Nat → Nat → Int} {g : Nat → Nat → Nat} {t : Nat × Nat × Nat} {r0 : Nat} {r1 : Nat} {r2 : Nat} {x3 : Int} {x4 : Int} {q0 : Nat} {y1 : Int} : a_X 89 34 [a_r (r0), a_r (r1), a_r (r2), a_i (x3), a_i (x4)] [a_i (y1), a_r (q0)] (k, u, g, t) = if ((k r2).1 = 20 ∨ (k r2).1 = 24) ∧ 0 ≤ (x4) ∧ (x4) < ((k r2).2 : Int) then if (k r0).1 = 9 then (a_m 84 [a_r (r0), a_i (x4), a_i (u r2 (x4).toNat)] (k, u, g, t)).bind (a_back 89 41 3 [a_r (r0), a_r (r1), a_r (r2), a_i (x3), a_i (x4)] [a_i (y1), a_r (q0)]) else none else none := by
  refine (X_aload_n (m := 89) (pc := 34) (n := 0) (by decide +kernel) rfl).trans ?_
  refine (X_iload (m := 89) (pc := 35) (n := 4) (by decide +kernel) rfl).trans ?_
  refine (X_aload_n (m := 89) (pc := 37) (n := 2) (by decide +kernel) rfl).trans ?_
  refine (X_iload (m := 89) (pc := 38) (n := 4) (by decide +kernel) rfl).trans ?_
  refine (X_iaload (m := 89) (pc := 40)  (by decide +kernel) ).trans ?_
  refine ite_congr rfl (fun _ => ?_) (fun _ => rfl)
  refine (X_call_vi (m := 89) (pc := 41) (q := 51) (y := 84) (n := 3) (as := [a_r (r0), a_i (x4), a_i (u r2 (x4).toNat)]) (rest := [a_i (y1), a_r (q0)]) (by decide +kernel) (by decide +kernel) (by decide +kernel) (by decide +kernel) rfl rfl (Nat.le_of_ble_eq_true rfl) (Nat.le_of_ble_eq_true rfl) rfl).trans ?_
  exact ite_congr (by simp [a_rcv, show m_recv 84 = 9 from by decide +kernel]) (fun _ => rfl) (fun _ => rfl)
theorem B_X8_differences_44 {k : Nat → Nat × Nat} {u : Nat → Nat → Int} {g : Nat → Nat → Nat} {t : Nat × Nat × Nat} {r0 : Nat} {r1 : Nat} {r2 : Nat} {x3 : Int} {x4 : Int} {q0 : Nat} {y1 : Int} {y2 : Int} : a_X 89 44 [a_r (r0), a_r (r1), a_r (r2), a_i (x3), a_i (x4)] [a_i (y2), a_i (y1), a_r (q0)] (k, u, g, t) = if (k q0).1 = 9 then (a_m 87 [a_r (q0), a_i (y1), a_i (y2)] (k, u, g, t)).bind (a_back 89 44 3 [a_r (r0), a_r (r1), a_r (r2), a_i (x3), a_i (x4)] []) else none := by
  refine (X_call_vi (m := 89) (pc := 44) (q := 55) (y := 87) (n := 3) (as := [a_r (q0), a_i (y1), a_i (y2)]) (rest := []) (by decide +kernel) (by decide +kernel) (by decide +kernel) (by decide +kernel) rfl rfl (Nat.le_of_ble_eq_true rfl) (Nat.le_of_ble_eq_true rfl) rfl).trans ?_
  exact ite_congr (by simp [a_rcv, show m_recv 87 = 9 from by decide +kernel]) (fun _ => rfl) (fun _ => rfl)
theorem B_X8_differences_47 {k : Nat → Nat × Nat} {u : Nat → Nat → Int} {g : Nat → Nat → Nat} {t : Nat × Nat × Nat} {r0 : Nat} {r1 : Nat} {r2 : Nat} {x3 : Int} {x4 : Int} {y0 : Int} : a_X 89 47 [a_r (r0), a_r (r1), a_r (r2), a_i (x3), a_i (x4)] [a_i (y0)] (k, u, g, t) = if (y0) ≠ 0 then a_X 89 5 [a_r (r0), a_r (r1), a_r (r2), a_i (x3), a_i (wr (x4 + 1))] [] (k, u, g, t) else a_X 89 5 [a_r (r0), a_r (r1), a_r (r2), a_i (zor (x3) (zshl (1) (x4))), a_i (wr (x4 + 1))] [] (k, u, g, t) := by
  refine (X_if_ne (m := 89) (pc := 47) (off := 10) (tg := 57) (by decide +kernel) (by decide +kernel)).trans ?_
  refine ite_congr rfl (fun _ => ?_) (fun _ => ?_)
  · refine (X_iinc (m := 89) (pc := 57) (n := 4) (c := 1) (by decide +kernel) rfl rfl (Nat.le_of_ble_eq_true rfl) rfl).trans ?_
    refine (X_goto (m := 89) (pc := 60) (off := -55) (tg := 5) (by decide +kernel) (by decide +kernel)).trans ?_
    rfl
  · refine (X_iload_n (m := 89) (pc := 50) (n := 3) (by decide +kernel) rfl).trans ?_
    refine (X_iconst (m := 89) (pc := 51) (n := 1) (by decide +kernel) ).trans ?_
    refine (X_iload (m := 89) (pc := 52) (n := 4) (by decide +kernel) rfl).trans ?_
    refine (X_ishl (m := 89) (pc := 54)  (by decide +kernel) ).trans ?_
    refine (X_ior (m := 89) (pc := 55)  (by decide +kernel) ).trans ?_
    refine (X_istore_n (m := 89) (pc := 56) (n := 3) (by decide +kernel) rfl (Nat.le_of_ble_eq_true rfl) rfl).trans ?_
    refine (X_iinc (m := 89) (pc := 57) (n := 4) (c := 1) (by decide +kernel) rfl rfl (Nat.le_of_ble_eq_true rfl) rfl).trans ?_
    refine (X_goto (m := 89) (pc := 60) (off := -55) (tg := 5) (by decide +kernel) (by decide +kernel)).trans ?_
    rfl
theorem E_X0_insert {σ : AS} {r0 : Nat} {x1 : Int} {x2 : Int} : a_m 3 [a_r (r0), a_i (x1), a_i (x2)] σ = a_X 3 0 [a_r (r0), a_i (x1), a_i (x2), a_x false, a_x false] [] σ := a_m_eq (by rw [a_entry, show m_maxL 3 = 5 from by decide +kernel]; rfl)
theorem B_X0_insert_0 {k : Nat → Nat × Nat} {u : Nat → Nat → Int} {g : Nat → Nat → Nat} {t : Nat × Nat × Nat} {r0 : Nat} {x1 : Int} {x2 : Int} {v3 : AV} {v4 : AV} : a_X 3 0 [a_r (r0), a_i (x1), a_i (x2), v3, v4] [] (k, u, g, t) = if (k r0).1 = 1 then if (k r0).1 = 1 then if 30 ≤ (k (g r0 0)).1 ∧ 0 ≤ (u r0 1) ∧ (u r0 1) < ((k (g r0 0)).2 : Int) then if (k (g (g r0 0) (u r0 1).toNat)).1 = 7 then if (k (g (g r0 0) (u r0 1).toNat)).1 = 7 then if (k r0).1 = 1 then a_X 3 26 [a_r (r0), a_i (x1), a_i (x2), a_r (g (g r0 0) (u r0 1).toNat), a_i ((upm (upm u (g (g r0 0) (u r0 1).toNat) 0 x1) (g (g r0 0) (u r0 1).toNat) 1 x2) r0 1)] [] (k, (upm (upm u (g (g r0 0) (u r0 1).toNat) 0 x1) (g (g r0 0) (u r0 1).toNat) 1 x2), g, t) else none else none else none else none else none else none := by
  refine (X_aload_n (m := 3) (pc := 0) (n := 0) (by decide +kernel) rfl).trans ?_
  refine (X_getR (m := 3) (pc := 1) (n := 11) (c := 1) (q := 0) (fi := true) (by decide +kernel) (by decide +kernel)).trans ?_
  refine ite_congr rfl (fun _ => ?_) (fun _ => rfl)
  refine (X_aload_n (m := 3) (pc := 4) (n := 0) (by decide +kernel) rfl).trans ?_
  refine (X_getI (m := 3) (pc := 5) (n := 18) (c := 1) (q := 1) (ty := 1) (fi := false) (by decide +kernel) (by decide +kernel) (by decide +kernel)).trans ?_
  refine ite_congr rfl (fun _ => ?_) (fun _ => rfl)
  refine (X_aaload (m := 3) (pc := 8)  (by decide +kernel) ).trans ?_
  refine ite_congr rfl (fun _ => ?_) (fun _ => rfl)
  refine (X_astore_n (m := 3) (pc := 9) (n := 3) (by decide +kernel) rfl (Nat.le_of_ble_eq_true rfl) rfl).trans ?_
  refine (X_aload_n (m := 3) (pc := 10) (n := 3) (by decide +kernel) rfl).trans ?_
  refine (X_iload_n (m := 3) (pc := 11) (n := 1) (by decide +kernel) rfl).trans ?_
  refine (X_putI (m := 3) (pc := 12) (n := 26) (c := 7) (q := 0) (fi := false) (by decide +kernel) (by decide +kernel) (fun h => by cases h) (by decide +kernel)).trans ?_
  refine ite_congr rfl (fun _ => ?_) (fun _ => rfl)
  refine (X_aload_n (m := 3) (pc := 15) (n := 3) (by decide +kernel) rfl).trans ?_
  refine (X_iload_n (m := 3) (pc := 16) (n := 2) (by decide +kernel) rfl).trans ?_
  refine (X_putI (m := 3) (pc := 17) (n := 29) (c := 7) (q := 1) (fi := false) (by decide +kernel) (by decide +kernel) (fun h => by cases h) (by decide +kernel)).trans ?_
  refine ite_congr rfl (fun _ => ?_) (fun _ => rfl)
  refine (X_aload_n (m := 3) (pc := 20) (n := 0) (by decide +kernel) rfl).trans ?_
  refine (X_getI (m := 3) (pc := 21) (n := 18) (c := 1) (q := 1) (ty := 1) (fi := false) (by decide +kernel) (by decide +kernel) (by decide +kernel)).trans ?_
  refine ite_congr rfl (fun _ => ?_) (fun _ => rfl)
  refine (X_istore (m := 3) (pc := 24) (n := 4) (by decide +kernel) rfl (Nat.le_of_ble_eq_true rfl) rfl).trans ?_
  rfl
theorem B_X0_insert_26 {k : Nat → Nat × Nat} {u : Nat → Nat → Int} {g : Nat → Nat → Nat} {t : Nat × Nat × Nat} {r0 : Nat} {x1 : Int} {x2 : Int} {r3 : Nat} {x4 : Int} : a_X 3 26 [a_r (r0), a_i (x1), a_i (x2), a_r (r3), a_i (x4)] [] (k, u, g, t) = if (x4) ≤ 0 then if (k r0).1 = 1 then if 30 ≤ (k (g r0 0)).1 ∧ (k r3).1 + 29 = (k (g r0 0)).1 ∧ (k r3).1 ≠ 0 ∧ 0 ≤ (x4) ∧ (x4) < ((k (g r0 0)).2 : Int) then if (k r0).1 = 1 then if (k r0).1 = 1 then some (.inl (some (a_r (r3))), (k, (upm u r0 1 (wr ((u r0 1) + 1))), (upm g (g r0 0) (x4).toNat r3), t)) else none else none else none else none else if (k r0).1 = 1 then if 30 ≤ (k (g r0 0)).1 ∧ 0 ≤ (wr (x4 - 1)) ∧ (wr (x4 - 1)) < ((k (g r0 0)).2 : Int) then if (k r0).1 = 1 then (a_m 4 [a_r (r0), a_r (r3), a_r (g (g r0 0) (wr (x4 - 1)).toNat)] (k, u, g, t)).bind (a_back 3 42 3 [a_r (r0), a_i (x1), a_i (x2), a_r (r3), a_i (x4)] []) else none else none else none := by
  refine (X_iload (m := 3) (pc := 26) (n := 4) (by decide +kernel) rfl).trans ?_
  refine (X_if_le (m := 3) (pc := 28) (off := 42) (tg := 70) (by decide +kernel) (by decide +kernel)).trans ?_
  refine ite_congr rfl (fun _ => ?_) (fun _ => ?_)
  · refine (X_aload_n (m := 3) (pc := 70) (n := 0) (by decide +kernel) rfl).trans ?_
    refine (X_getR (m := 3) (pc := 71) (n := 11) (c := 1) (q := 0) (fi := true) (by decide +kernel) (by decide +kernel)).trans ?_
    refine ite_congr rfl (fun _ => ?_) (fun _ => rfl)
    refine (X_iload (m := 3) (pc := 74) (n := 4) (by decide +kernel) rfl).trans ?_
    refine (X_aload_n (m := 3) (pc := 76) (n := 3) (by decide +kernel) rfl).trans ?_
    refine (X_aastore (m := 3) (pc := 77)  (by decide +kernel) ).trans ?_
    refine ite_congr rfl (fun _ => ?_) (fun _ => rfl)
    refine (X_aload_n (m := 3) (pc := 78) (n := 0) (by decide +kernel) rfl).trans ?_
    refine (X_dup (m := 3) (pc := 79)  (by decide +kernel) rfl rfl).trans ?_
    refine (X_getI (m := 3) (pc := 80) (n := 18) (c := 1) (q := 1) (ty := 1) (fi := false) (by decide +kernel) (by decide +kernel) (by decide +kernel)).trans ?_
    refine ite_congr rfl (fun _ => ?_) (fun _ => rfl)
    refine (X_iconst (m := 3) (pc := 83) (n := 1) (by decide +kernel) ).trans ?_
    refine (X_iadd (m := 3) (pc := 84)  (by decide +kernel) ).trans ?_
    refine (X_putI (m := 3) (pc := 85) (n := 18) (c := 1) (q := 1) (fi := false) (by decide +kernel) (by decide +kernel) (fun h => by cases h) (by decide +kernel)).trans ?_
    refine ite_congr rfl (fun _ => ?_) (fun _ => rfl)
    refine (X_aload_n (m := 3) (pc := 88) (n := 3) (by decide +kernel) rfl).trans ?_
    exact X_areturn (m := 3) (pc := 89) (by decide +kernel) (by decide +kernel)
  · refine (X_aload_n (m := 3) (pc := 31) (n := 0) (by decide +kernel) rfl).trans ?_
    refine (X_aload_n (m := 3) (pc := 32) (n := 3) (by decide +kernel) rfl).trans ?_
    refine (X_aload_n (m := 3) (pc := 33) (n := 0) (by decide +kernel) rfl).trans ?_
    refine (X_getR (m := 3) (pc := 34) (n := 11) (c := 1) (q := 0) (fi := true) (by decide +kernel) (by decide +kernel)).trans ?_
    refine ite_congr rfl (fun _ => ?_) (fun _ => rfl)
    refine (X_iload (m := 3) (pc := 37) (n := 4) (by decide +kernel) rfl).trans ?_
    refine (X_iconst (m := 3) (pc := 39) (n := 1) (by decide +kernel) ).trans ?_
    refine (X_isub (m := 3) (pc := 40)  (by decide +kernel) ).trans ?_
    refine (X_aaload (m := 3) (pc := 41)  (by decide +kernel) ).trans ?_
    refine ite_congr rfl (fun _ => ?_) (fun _ => rfl)
    refine (X_call_vi (m := 3) (pc := 42) (q := 32) (y := 4) (n := 3) (as := [a_r (r0), a_r (r3), a_r (g (g r0 0) (wr (x4 - 1)).toNat)]) (rest := []) (by decide +kernel) (by decide +kernel) (by decide +kernel) (by decide +kernel) rfl rfl (Nat.le_of_ble_eq_true rfl) (Nat.le_of_ble_eq_true rfl) rfl).trans ?_
    exact ite_congr (by simp [a_rcv, show m_recv 4 = 1 from by decide +kernel]) (fun _ => rfl) (fun _ => rfl)
theorem B_X0_insert_45 {k : Nat → Nat × Nat} {u : Nat → Nat → Int} {g : Nat → Nat → Nat} {t : Nat × Nat × Nat} {r0 : Nat} {x1 : Int} {x2 : Int} {r3 : Nat} {x4 : Int} {y0 : Int} : a_X 3 45 [a_r (r0), a_i (x1), a_i (x2), a_r (r3), a_i (x4)] [a_i (y0)] (k, u, g, t) = if (y0) = 0 then if (k r0).1 = 1 then if 30 ≤ (k (g r0 0)).1 ∧ (k r3).1 + 29 = (k (g r0 0)).1 ∧ (k r3).1 ≠ 0 ∧ 0 ≤ (x4) ∧ (x4) < ((k (g r0 0)).2 : Int) then if (k r0).1 = 1 then if (k r0).1 = 1 then some (.inl (some (a_r (r3))), (k, (upm u r0 1 (wr ((u r0 1) + 1))), (upm g (g r0 0) (x4).toNat r3), t)) else none else none else none else none else if (k r0).1 = 1 then if (k r0).1 = 1 then if 30 ≤ (k (g r0 0)).1 ∧ 0 ≤ (wr (x4 - 1)) ∧ (wr (x4 - 1)) < ((k (g r0 0)).2 : Int) then if 30 ≤ (k (g r0 0)).1 ∧ (k (g (g r0 0) (wr (x4 - 1)).toNat)).1 + 29 = (k (g r0 0)).1 ∧ (k (g (g r0 0) (wr (x4 - 1)).toNat)).1 ≠ 0 ∧ 0 ≤ (x4) ∧ (x4) < ((k (g r0 0)).2 : Int) then a_X 3 26 [a_r (r0), a_i (x1), a_i (x2), a_r (r3), a_i (wr (x4 + (-1)))] [] (k, u, (upm g (g r0 0) (x4).toNat (g (g r0 0) (wr (x4 - 1)).toNat)), t) else none else none else none else none := by
  refine (X_if_eq (m := 3) (pc := 45) (off := 25) (tg := 70) (by decide +kernel) (by decide +kernel)).trans ?_
  refine ite_congr rfl (fun _ => ?_) (fun _ => ?_)
  · refine (X_aload_n (m := 3) (pc := 70) (n := 0) (by decide +kernel) rfl).trans ?_
    refine (X_getR (m := 3) (pc := 71) (n := 11) (c := 1) (q := 0) (fi := true) (by decide +kernel) (by decide +kernel)).trans ?_
    refine ite_congr rfl (fun _ => ?_) (fun _ => rfl)
    refine (X_iload (m := 3) (pc := 74) (n := 4) (by decide +kernel) rfl).trans ?_
    refine (X_aload_n (m := 3) (pc := 76) (n := 3) (by decide +kernel) rfl).trans ?_
    refine (X_aastore (m := 3) (pc := 77)  (by decide +kernel) ).trans ?_
    refine ite_congr rfl (fun _ => ?_) (fun _ => rfl)
    refine (X_aload_n (m := 3) (pc := 78) (n := 0) (by decide +kernel) rfl).trans ?_
    refine (X_dup (m := 3) (pc := 79)  (by decide +kernel) rfl rfl).trans ?_
    refine (X_getI (m := 3) (pc := 80) (n := 18) (c := 1) (q := 1) (ty := 1) (fi := false) (by decide +kernel) (by decide +kernel) (by decide +kernel)).trans ?_
    refine ite_congr rfl (fun _ => ?_) (fun _ => rfl)
    refine (X_iconst (m := 3) (pc := 83) (n := 1) (by decide +kernel) ).trans ?_
    refine (X_iadd (m := 3) (pc := 84)  (by decide +kernel) ).trans ?_
    refine (X_putI (m := 3) (pc := 85) (n := 18) (c := 1) (q := 1) (fi := false) (by decide +kernel) (by decide +kernel) (fun h => by cases h) (by decide +kernel)).trans ?_
    refine ite_congr rfl (fun _ => ?_) (fun _ => rfl)
    refine (X_aload_n (m := 3) (pc := 88) (n := 3) (by decide +kernel) rfl).trans ?_
    exact X_areturn (m := 3) (pc := 89) (by decide +kernel) (by decide +kernel)
  · refine (X_aload_n (m := 3) (pc := 48) (n := 0) (by decide +kernel) rfl).trans ?_
    refine (X_getR (m := 3) (pc := 49) (n := 11) (c := 1) (q := 0) (fi := true) (by decide +kernel) (by decide +kernel)).trans ?_
    refine ite_congr rfl (fun _ => ?_) (fun _ => rfl)
    refine (X_iload (m := 3) (pc := 52) (n := 4) (by decide +kernel) rfl).trans ?_
    refine (X_aload_n (m := 3) (pc := 54) (n := 0) (by decide +kernel) rfl).trans ?_
    refine (X_getR (m := 3) (pc := 55) (n := 11) (c := 1) (q := 0) (fi := true) (by decide +kernel) (by decide +kernel)).trans ?_
    refine ite_congr rfl (fun _ => ?_) (fun _ => rfl)
    refine (X_iload (m := 3) (pc := 58) (n := 4) (by decide +kernel) rfl).trans ?_
    refine (X_iconst (m := 3) (pc := 60) (n := 1) (by decide +kernel) ).trans ?_
    refine (X_isub (m := 3) (pc := 61)  (by decide +kernel) ).trans ?_
    refine (X_aaload (m := 3) (pc := 62)  (by decide +kernel) ).trans ?_
    refine ite_congr rfl (fun _ => ?_) (fun _ => rfl)
    refine (X_aastore (m := 3) (pc := 63)  (by decide +kernel) ).trans ?_
    refine ite_congr rfl (fun _ => ?_) (fun _ => rfl)
    refine (X_iinc (m := 3) (pc := 64) (n := 4) (c := -1) (by decide +kernel) rfl rfl (Nat.le_of_ble_eq_true rfl) rfl).trans ?_
    refine (X_goto (m := 3) (pc := 67) (off := -41) (tg := 26) (by decide +kernel) (by decide +kernel)).trans ?_
    rfl
