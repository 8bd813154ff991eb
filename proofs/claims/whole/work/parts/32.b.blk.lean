/-! block equations, by wip/whole/gen_blocks.py -/
theorem E_X11_hasRoom {σ : AS} {r0 : Nat} : a_m 192 [a_r (r0)] σ = a_X 192 0 [a_r (r0)] [] σ := a_m_eq (by rw [a_entry, show m_maxL 192 = 1 from by decide +kernel]; rfl)
theorem B_X11_hasRoom_0 {k : Nat → Nat × Nat} {u : Nat → Nat → Int} {g : Nat → Nat → Nat} {t : Nat × Nat × Nat} {r0 : Nat} : a_X 192 0 [a_r (r0)] [] (k, u, g, t) = if (k r0).1 = 11 then if ((k (g r0 2)).1 = 20 ∨ (k (g r0 2)).1 = 24) ∧ 0 ≤ (4 : Int) ∧ (4 : Int) < ((k (g r0 2)).2 : Int) then if (u (g r0 2) (4 : Int).toNat : Int) ≥ (30 : Int) then some (.inl (some (a_i (0))), (k, u, g, t)) else some (.inl (some (a_i (1))), (k, u, g, t)) else none else none := by
  refine (X_aload_n (m := 192) (pc := 0) (n := 0) (by decide +kernel) rfl).trans ?_
  refine (X_getR (m := 192) (pc := 1) (n := 7) (c := 11) (q := 2) (fi := true) (by decide +kernel) (by decide +kernel)).trans ?_
  refine ite_congr rfl (fun _ => ?_) (fun _ => rfl)
  refine (X_iconst (m := 192) (pc := 4) (n := 4) (by decide +kernel) ).trans ?_
  refine (X_iaload (m := 192) (pc := 5)  (by decide +kernel) ).trans ?_
  refine ite_congr rfl (fun _ => ?_) (fun _ => rfl)
  refine (X_bipush (m := 192) (pc := 6) (n := 30) (by decide +kernel) ).trans ?_
  refine (X_ic_ge (m := 192) (pc := 8) (off := 7) (tg := 15) (by decide +kernel) (by decide +kernel)).trans ?_
  refine ite_congr rfl (fun _ => ?_) (fun _ => ?_)
  · refine (X_iconst (m := 192) (pc := 15) (n := 0) (by decide +kernel) ).trans ?_
    exact X_ireturn (m := 192) (pc := 16) (f := 2) (by decide +kernel) (by decide +kernel) rfl
  · refine (X_iconst (m := 192) (pc := 11) (n := 1) (by decide +kernel) ).trans ?_
    refine (X_goto (m := 192) (pc := 12) (off := 4) (tg := 16) (by decide +kernel) (by decide +kernel)).trans ?_
    exact X_ireturn (m := 192) (pc := 16) (f := 2) (by decide +kernel) (by decide +kernel) rfl
theorem E_X11_airs {σ : AS} {r0 : Nat} {x1 : Int} {x2 : Int} {x3 : Int} : a_m 193 [a_r (r0), a_i (x1), a_i (x2), a_i (x3)] σ = a_X 193 0 [a_r (r0), a_i (x1), a_i (x2), a_i (x3), a_x false, a_x false] [] σ := a_m_eq (by rw [a_entry, show m_maxL 193 = 6 from by decide +kernel]; rfl)
theorem B_X11_airs_0 {k : Nat → Nat × Nat} {u : Nat → Nat → Int} {g : Nat → Nat → Nat} {t : Nat × Nat × Nat} {r0 : Nat} {x1 : Int} {x2 : Int} {x3 : Int} {v4 : AV} {v5 : AV} : a_X 193 0 [a_r (r0), a_i (x1), a_i (x2), a_i (x3), v4, v5] [] (k, u, g, t) = if (k r0).1 = 11 then if ((k (g r0 2)).1 = 20 ∨ (k (g r0 2)).1 = 24) ∧ 0 ≤ (4 : Int) ∧ (4 : Int) < ((k (g r0 2)).2 : Int) then if (k r0).1 = 11 then if (k (g r0 2)).1 = 20 ∧ 0 ≤ (wr ((wr (1150 + (wr (71 * (u (g r0 2) (4 : Int).toNat))))) + 0) : Int) ∧ (wr ((wr (1150 + (wr (71 * (u (g r0 2) (4 : Int).toNat))))) + 0) : Int) < ((k (g r0 2)).2 : Int) then if (k r0).1 = 11 then if (k (g r0 2)).1 = 20 ∧ 0 ≤ (wr ((wr (1150 + (wr (71 * (u (g r0 2) (4 : Int).toNat))))) + 1) : Int) ∧ (wr ((wr (1150 + (wr (71 * (u (g r0 2) (4 : Int).toNat))))) + 1) : Int) < ((k (g r0 2)).2 : Int) then if (k r0).1 = 11 then if (k r0).1 = 11 then if ((k (g r0 2)).1 = 20 ∨ (k (g r0 2)).1 = 24) ∧ 0 ≤ (1 : Int) ∧ (1 : Int) < ((k (g r0 2)).2 : Int) then if (k (g r0 2)).1 = 20 ∧ 0 ≤ (wr ((wr (1150 + (wr (71 * (u (g r0 2) (4 : Int).toNat))))) + 2) : Int) ∧ (wr ((wr (1150 + (wr (71 * (u (g r0 2) (4 : Int).toNat))))) + 2) : Int) < ((k (g r0 2)).2 : Int) then if (k r0).1 = 11 then if (k (g r0 2)).1 = 20 ∧ 0 ≤ (wr ((wr (1150 + (wr (71 * (u (g r0 2) (4 : Int).toNat))))) + 3) : Int) ∧ (wr ((wr (1150 + (wr (71 * (u (g r0 2) (4 : Int).toNat))))) + 3) : Int) < ((k (g r0 2)).2 : Int) then if (k r0).1 = 11 then if (k r0).1 = 11 then if ((k (g r0 2)).1 = 20 ∨ (k (g r0 2)).1 = 24) ∧ 0 ≤ (7 : Int) ∧ (7 : Int) < ((k (g r0 2)).2 : Int) then if (k (g r0 2)).1 = 20 ∧ 0 ≤ (wr ((wr (1150 + (wr (71 * (u (g r0 2) (4 : Int).toNat))))) + 4) : Int) ∧ (wr ((wr (1150 + (wr (71 * (u (g r0 2) (4 : Int).toNat))))) + 4) : Int) < ((k (g r0 2)).2 : Int) then a_X 193 79 [a_r (r0), a_i (x1), a_i (x2), a_i (x3), a_i (wr (1150 + (wr (71 * (u (g r0 2) (4 : Int).toNat))))), a_i (0)] [] (k, (upm (upm (upm (upm (upm u (g r0 2) (wr ((wr (1150 + (wr (71 * (u (g r0 2) (4 : Int).toNat))))) + 0) : Int).toNat x1) (g r0 2) (wr ((wr (1150 + (wr (71 * (u (g r0 2) (4 : Int).toNat))))) + 1) : Int).toNat x2) (g r0 2) (wr ((wr (1150 + (wr (71 * (u (g r0 2) (4 : Int).toNat))))) + 2) : Int).toNat ((upm (upm u (g r0 2) (wr ((wr (1150 + (wr (71 * (u (g r0 2) (4 : Int).toNat))))) + 0) : Int).toNat x1) (g r0 2) (wr ((wr (1150 + (wr (71 * (u (g r0 2) (4 : Int).toNat))))) + 1) : Int).toNat x2) (g r0 2) (1 : Int).toNat)) (g r0 2) (wr ((wr (1150 + (wr (71 * (u (g r0 2) (4 : Int).toNat))))) + 3) : Int).toNat x3) (g r0 2) (wr ((wr (1150 + (wr (71 * (u (g r0 2) (4 : Int).toNat))))) + 4) : Int).toNat ((upm (upm (upm (upm u (g r0 2) (wr ((wr (1150 + (wr (71 * (u (g r0 2) (4 : Int).toNat))))) + 0) : Int).toNat x1) (g r0 2) (wr ((wr (1150 + (wr (71 * (u (g r0 2) (4 : Int).toNat))))) + 1) : Int).toNat x2) (g r0 2) (wr ((wr (1150 + (wr (71 * (u (g r0 2) (4 : Int).toNat))))) + 2) : Int).toNat ((upm (upm u (g r0 2) (wr ((wr (1150 + (wr (71 * (u (g r0 2) (4 : Int).toNat))))) + 0) : Int).toNat x1) (g r0 2) (wr ((wr (1150 + (wr (71 * (u (g r0 2) (4 : Int).toNat))))) + 1) : Int).toNat x2) (g r0 2) (1 : Int).toNat)) (g r0 2) (wr ((wr (1150 + (wr (71 * (u (g r0 2) (4 : Int).toNat))))) + 3) : Int).toNat x3) (g r0 2) (7 : Int).toNat)), g, t) else none else none else none else none else none else none else none else none else none else none else none else none else none else none else none else none := by
  refine (X_sipush (m := 193) (pc := 0) (n := 1150) (by decide +kernel) ).trans ?_
  refine (X_bipush (m := 193) (pc := 3) (n := 71) (by decide +kernel) ).trans ?_
  refine (X_aload_n (m := 193) (pc := 5) (n := 0) (by decide +kernel) rfl).trans ?_
  refine (X_getR (m := 193) (pc := 6) (n := 7) (c := 11) (q := 2) (fi := true) (by decide +kernel) (by decide +kernel)).trans ?_
  refine ite_congr rfl (fun _ => ?_) (fun _ => rfl)
  refine (X_iconst (m := 193) (pc := 9) (n := 4) (by decide +kernel) ).trans ?_
  refine (X_iaload (m := 193) (pc := 10)  (by decide +kernel) ).trans ?_
  refine ite_congr rfl (fun _ => ?_) (fun _ => rfl)
  refine (X_imul (m := 193) (pc := 11)  (by decide +kernel) ).trans ?_
  refine (X_iadd (m := 193) (pc := 12)  (by decide +kernel) ).trans ?_
  refine (X_istore (m := 193) (pc := 13) (n := 4) (by decide +kernel) rfl (Nat.le_of_ble_eq_true rfl) rfl).trans ?_
  refine (X_aload_n (m := 193) (pc := 15) (n := 0) (by decide +kernel) rfl).trans ?_
  refine (X_getR (m := 193) (pc := 16) (n := 7) (c := 11) (q := 2) (fi := true) (by decide +kernel) (by decide +kernel)).trans ?_
  refine ite_congr rfl (fun _ => ?_) (fun _ => rfl)
  refine (X_iload (m := 193) (pc := 19) (n := 4) (by decide +kernel) rfl).trans ?_
  refine (X_iconst (m := 193) (pc := 21) (n := 0) (by decide +kernel) ).trans ?_
  refine (X_iadd (m := 193) (pc := 22)  (by decide +kernel) ).trans ?_
  refine (X_iload_n (m := 193) (pc := 23) (n := 1) (by decide +kernel) rfl).trans ?_
  refine (X_iastore (m := 193) (pc := 24)  (by decide +kernel) ).trans ?_
  refine ite_congr rfl (fun _ => ?_) (fun _ => rfl)
  refine (X_aload_n (m := 193) (pc := 25) (n := 0) (by decide +kernel) rfl).trans ?_
  refine (X_getR (m := 193) (pc := 26) (n := 7) (c := 11) (q := 2) (fi := true) (by decide +kernel) (by decide +kernel)).trans ?_
  refine ite_congr rfl (fun _ => ?_) (fun _ => rfl)
  refine (X_iload (m := 193) (pc := 29) (n := 4) (by decide +kernel) rfl).trans ?_
  refine (X_iconst (m := 193) (pc := 31) (n := 1) (by decide +kernel) ).trans ?_
  refine (X_iadd (m := 193) (pc := 32)  (by decide +kernel) ).trans ?_
  refine (X_iload_n (m := 193) (pc := 33) (n := 2) (by decide +kernel) rfl).trans ?_
  refine (X_iastore (m := 193) (pc := 34)  (by decide +kernel) ).trans ?_
  refine ite_congr rfl (fun _ => ?_) (fun _ => rfl)
  refine (X_aload_n (m := 193) (pc := 35) (n := 0) (by decide +kernel) rfl).trans ?_
  refine (X_getR (m := 193) (pc := 36) (n := 7) (c := 11) (q := 2) (fi := true) (by decide +kernel) (by decide +kernel)).trans ?_
  refine ite_congr rfl (fun _ => ?_) (fun _ => rfl)
  refine (X_iload (m := 193) (pc := 39) (n := 4) (by decide +kernel) rfl).trans ?_
  refine (X_iconst (m := 193) (pc := 41) (n := 2) (by decide +kernel) ).trans ?_
  refine (X_iadd (m := 193) (pc := 42)  (by decide +kernel) ).trans ?_
  refine (X_aload_n (m := 193) (pc := 43) (n := 0) (by decide +kernel) rfl).trans ?_
  refine (X_getR (m := 193) (pc := 44) (n := 7) (c := 11) (q := 2) (fi := true) (by decide +kernel) (by decide +kernel)).trans ?_
  refine ite_congr rfl (fun _ => ?_) (fun _ => rfl)
  refine (X_iconst (m := 193) (pc := 47) (n := 1) (by decide +kernel) ).trans ?_
  refine (X_iaload (m := 193) (pc := 48)  (by decide +kernel) ).trans ?_
  refine ite_congr rfl (fun _ => ?_) (fun _ => rfl)
  refine (X_iastore (m := 193) (pc := 49)  (by decide +kernel) ).trans ?_
  refine ite_congr rfl (fun _ => ?_) (fun _ => rfl)
  refine (X_aload_n (m := 193) (pc := 50) (n := 0) (by decide +kernel) rfl).trans ?_
  refine (X_getR (m := 193) (pc := 51) (n := 7) (c := 11) (q := 2) (fi := true) (by decide +kernel) (by decide +kernel)).trans ?_
  refine ite_congr rfl (fun _ => ?_) (fun _ => rfl)
  refine (X_iload (m := 193) (pc := 54) (n := 4) (by decide +kernel) rfl).trans ?_
  refine (X_iconst (m := 193) (pc := 56) (n := 3) (by decide +kernel) ).trans ?_
  refine (X_iadd (m := 193) (pc := 57)  (by decide +kernel) ).trans ?_
  refine (X_iload_n (m := 193) (pc := 58) (n := 3) (by decide +kernel) rfl).trans ?_
  refine (X_iastore (m := 193) (pc := 59)  (by decide +kernel) ).trans ?_
  refine ite_congr rfl (fun _ => ?_) (fun _ => rfl)
  refine (X_aload_n (m := 193) (pc := 60) (n := 0) (by decide +kernel) rfl).trans ?_
  refine (X_getR (m := 193) (pc := 61) (n := 7) (c := 11) (q := 2) (fi := true) (by decide +kernel) (by decide +kernel)).trans ?_
  refine ite_congr rfl (fun _ => ?_) (fun _ => rfl)
  refine (X_iload (m := 193) (pc := 64) (n := 4) (by decide +kernel) rfl).trans ?_
  refine (X_iconst (m := 193) (pc := 66) (n := 4) (by decide +kernel) ).trans ?_
  refine (X_iadd (m := 193) (pc := 67)  (by decide +kernel) ).trans ?_
  refine (X_aload_n (m := 193) (pc := 68) (n := 0) (by decide +kernel) rfl).trans ?_
  refine (X_getR (m := 193) (pc := 69) (n := 7) (c := 11) (q := 2) (fi := true) (by decide +kernel) (by decide +kernel)).trans ?_
  refine ite_congr rfl (fun _ => ?_) (fun _ => rfl)
  refine (X_bipush (m := 193) (pc := 72) (n := 7) (by decide +kernel) ).trans ?_
  refine (X_iaload (m := 193) (pc := 74)  (by decide +kernel) ).trans ?_
  refine ite_congr rfl (fun _ => ?_) (fun _ => rfl)
  refine (X_iastore (m := 193) (pc := 75)  (by decide +kernel) ).trans ?_
  refine ite_congr rfl (fun _ => ?_) (fun _ => rfl)
  refine (X_iconst (m := 193) (pc := 76) (n := 0) (by decide +kernel) ).trans ?_
  refine (X_istore (m := 193) (pc := 77) (n := 5) (by decide +kernel) rfl (Nat.le_of_ble_eq_true rfl) rfl).trans ?_
  rfl
theorem B_X11_airs_79 {k : Nat → Nat × Nat} {u : Nat → Nat → Int} {g : Nat → Nat → Nat} {t : Nat × Nat × Nat} {r0 : Nat} {x1 : Int} {x2 : Int} {x3 : Int} {x4 : Int} {x5 : Int} : a_X 193 79 [a_r (r0), a_i (x1), a_i (x2), a_i (x3), a_i (x4), a_i (x5)] [] (k, u, g, t) = if (x5 : Int) ≥ (6 : Int) then a_X 193 138 [a_r (r0), a_i (x1), a_i (x2), a_i (x3), a_i (x4), a_i (0)] [] (k, u, g, t) else if (k r0).1 = 11 then if (k r0).1 = 11 then if ((k (g r0 2)).1 = 20 ∨ (k (g r0 2)).1 = 24) ∧ 0 ≤ (3 : Int) ∧ (3 : Int) < ((k (g r0 2)).2 : Int) then if (x5 : Int) ≥ (u (g r0 2) (3 : Int).toNat : Int) then if (k (g r0 2)).1 = 20 ∧ 0 ≤ (wr ((wr (x4 + 5)) + x5) : Int) ∧ (wr ((wr (x4 + 5)) + x5) : Int) < ((k (g r0 2)).2 : Int) then a_X 193 79 [a_r (r0), a_i (x1), a_i (x2), a_i (x3), a_i (x4), a_i (wr (x5 + 1))] [] (k, (upm u (g r0 2) (wr ((wr (x4 + 5)) + x5) : Int).toNat (-1)), g, t) else none else if (k r0).1 = 11 then if ((k (g r0 2)).1 = 20 ∨ (k (g r0 2)).1 = 24) ∧ 0 ≤ (1 : Int) ∧ (1 : Int) < ((k (g r0 2)).2 : Int) then if (k r0).1 = 11 then (a_m 166 [a_r (r0), a_i (x5), a_i (0)] (k, u, g, t)).bind (a_back 193 120 3 [a_r (r0), a_i (x1), a_i (x2), a_i (x3), a_i (x4), a_i (x5)] [a_i (wr ((u (g r0 2) (1 : Int).toNat) + x3)), a_i (wr ((wr (x4 + 5)) + x5)), a_r (g r0 2)]) else none else none else none else none else none else none := by
  refine (X_iload (m := 193) (pc := 79) (n := 5) (by decide +kernel) rfl).trans ?_
  refine (X_bipush (m := 193) (pc := 81) (n := 6) (by decide +kernel) ).trans ?_
  refine (X_ic_ge (m := 193) (pc := 83) (off := 52) (tg := 135) (by decide +kernel) (by decide +kernel)).trans ?_
  refine ite_congr rfl (fun _ => ?_) (fun _ => ?_)
  · refine (X_iconst (m := 193) (pc := 135) (n := 0) (by decide +kernel) ).trans ?_
    refine (X_istore (m := 193) (pc := 136) (n := 5) (by decide +kernel) rfl (Nat.le_of_ble_eq_true rfl) rfl).trans ?_
    rfl
  · refine (X_aload_n (m := 193) (pc := 86) (n := 0) (by decide +kernel) rfl).trans ?_
    refine (X_getR (m := 193) (pc := 87) (n := 7) (c := 11) (q := 2) (fi := true) (by decide +kernel) (by decide +kernel)).trans ?_
    refine ite_congr rfl (fun _ => ?_) (fun _ => rfl)
    refine (X_iload (m := 193) (pc := 90) (n := 4) (by decide +kernel) rfl).trans ?_
    refine (X_iconst (m := 193) (pc := 92) (n := 5) (by decide +kernel) ).trans ?_
    refine (X_iadd (m := 193) (pc := 93)  (by decide +kernel) ).trans ?_
    refine (X_iload (m := 193) (pc := 94) (n := 5) (by decide +kernel) rfl).trans ?_
    refine (X_iadd (m := 193) (pc := 96)  (by decide +kernel) ).trans ?_
    refine (X_iload (m := 193) (pc := 97) (n := 5) (by decide +kernel) rfl).trans ?_
    refine (X_aload_n (m := 193) (pc := 99) (n := 0) (by decide +kernel) rfl).trans ?_
    refine (X_getR (m := 193) (pc := 100) (n := 7) (c := 11) (q := 2) (fi := true) (by decide +kernel) (by decide +kernel)).trans ?_
    refine ite_congr rfl (fun _ => ?_) (fun _ => rfl)
    refine (X_iconst (m := 193) (pc := 103) (n := 3) (by decide +kernel) ).trans ?_
    refine (X_iaload (m := 193) (pc := 104)  (by decide +kernel) ).trans ?_
    refine ite_congr rfl (fun _ => ?_) (fun _ => rfl)
    refine (X_ic_ge (m := 193) (pc := 105) (off := 22) (tg := 127) (by decide +kernel) (by decide +kernel)).trans ?_
    refine ite_congr rfl (fun _ => ?_) (fun _ => ?_)
    · refine (X_iconst (m := 193) (pc := 127) (n := -1) (by decide +kernel) ).trans ?_
      refine (X_iastore (m := 193) (pc := 128)  (by decide +kernel) ).trans ?_
      refine ite_congr rfl (fun _ => ?_) (fun _ => rfl)
      refine (X_iinc (m := 193) (pc := 129) (n := 5) (c := 1) (by decide +kernel) rfl rfl (Nat.le_of_ble_eq_true rfl) rfl).trans ?_
      refine (X_goto (m := 193) (pc := 132) (off := -53) (tg := 79) (by decide +kernel) (by decide +kernel)).trans ?_
      rfl
    · refine (X_aload_n (m := 193) (pc := 108) (n := 0) (by decide +kernel) rfl).trans ?_
      refine (X_getR (m := 193) (pc := 109) (n := 7) (c := 11) (q := 2) (fi := true) (by decide +kernel) (by decide +kernel)).trans ?_
      refine ite_congr rfl (fun _ => ?_) (fun _ => rfl)
      refine (X_iconst (m := 193) (pc := 112) (n := 1) (by decide +kernel) ).trans ?_
      refine (X_iaload (m := 193) (pc := 113)  (by decide +kernel) ).trans ?_
      refine ite_congr rfl (fun _ => ?_) (fun _ => rfl)
      refine (X_iload_n (m := 193) (pc := 114) (n := 3) (by decide +kernel) rfl).trans ?_
      refine (X_iadd (m := 193) (pc := 115)  (by decide +kernel) ).trans ?_
      refine (X_aload_n (m := 193) (pc := 116) (n := 0) (by decide +kernel) rfl).trans ?_
      refine (X_iload (m := 193) (pc := 117) (n := 5) (by decide +kernel) rfl).trans ?_
      refine (X_iconst (m := 193) (pc := 119) (n := 0) (by decide +kernel) ).trans ?_
      refine (X_call_vi (m := 193) (pc := 120) (q := 79) (y := 166) (n := 3) (as := [a_r (r0), a_i (x5), a_i (0)]) (rest := [a_i (wr ((u (g r0 2) (1 : Int).toNat) + x3)), a_i (wr ((wr (x4 + 5)) + x5)), a_r (g r0 2)]) (by decide +kernel) (by decide +kernel) (by decide +kernel) (by decide +kernel) rfl rfl (Nat.le_of_ble_eq_true rfl) (Nat.le_of_ble_eq_true rfl) rfl (by rw [show m_maxL 166 = 3 from by decide +kernel]; exact Nat.le_of_ble_eq_true rfl)).trans ?_
      exact ite_congr (by simp [a_rcv, show m_recv 166 = 11 from by decide +kernel]) (fun _ => rfl) (fun _ => rfl)
theorem B_X11_airs_138 {k : Nat → Nat × Nat} {u : Nat → Nat → Int} {g : Nat → Nat → Nat} {t : Nat × Nat × Nat} {r0 : Nat} {x1 : Int} {x2 : Int} {x3 : Int} {x4 : Int} {x5 : Int} : a_X 193 138 [a_r (r0), a_i (x1), a_i (x2), a_i (x3), a_i (x4), a_i (x5)] [] (k, u, g, t) = if (x5 : Int) ≥ (60 : Int) then if (k r0).1 = 11 then if ((k (g r0 2)).1 = 20 ∨ (k (g r0 2)).1 = 24) ∧ 0 ≤ (4 : Int) ∧ (4 : Int) < ((k (g r0 2)).2 : Int) then if (k (g r0 2)).1 = 20 ∧ 0 ≤ (4 : Int) ∧ (4 : Int) < ((k (g r0 2)).2 : Int) then if (k r0).1 = 11 then if ((k (g r0 2)).1 = 20 ∨ (k (g r0 2)).1 = 24) ∧ 0 ≤ (7 : Int) ∧ (7 : Int) < ((k (g r0 2)).2 : Int) then if (k (g r0 2)).1 = 20 ∧ 0 ≤ (7 : Int) ∧ (7 : Int) < ((k (g r0 2)).2 : Int) then if (k r0).1 = 11 then if ((k (g r0 2)).1 = 20 ∨ (k (g r0 2)).1 = 24) ∧ 0 ≤ (5 : Int) ∧ (5 : Int) < ((k (g r0 2)).2 : Int) then if (k (g r0 2)).1 = 20 ∧ 0 ≤ (5 : Int) ∧ (5 : Int) < ((k (g r0 2)).2 : Int) then some (.inl none, (k, (upm (upm (upm u (g r0 2) (4 : Int).toNat (wr ((u (g r0 2) (4 : Int).toNat) + 1))) (g r0 2) (7 : Int).toNat (wr (((upm u (g r0 2) (4 : Int).toNat (wr ((u (g r0 2) (4 : Int).toNat) + 1))) (g r0 2) (7 : Int).toNat) + 1))) (g r0 2) (5 : Int).toNat (wr (((upm (upm u (g r0 2) (4 : Int).toNat (wr ((u (g r0 2) (4 : Int).toNat) + 1))) (g r0 2) (7 : Int).toNat (wr (((upm u (g r0 2) (4 : Int).toNat (wr ((u (g r0 2) (4 : Int).toNat) + 1))) (g r0 2) (7 : Int).toNat) + 1))) (g r0 2) (5 : Int).toNat) + x1))), g, t)) else none else none else none else none else none else none else none else none else none else if (k r0).1 = 11 then if (x1 : Int) ≠ (1 : Int) then if (k (g r0 2)).1 = 20 ∧ 0 ≤ (wr ((wr (x4 + 11)) + x5) : Int) ∧ (wr ((wr (x4 + 11)) + x5) : Int) < ((k (g r0 2)).2 : Int) then a_X 193 138 [a_r (r0), a_i (x1), a_i (x2), a_i (x3), a_i (x4), a_i (wr (x5 + 1))] [] (k, (upm u (g r0 2) (wr ((wr (x4 + 11)) + x5) : Int).toNat 0), g, t) else none else if (k r0).1 = 11 then if ((k (g r0 2)).1 = 20 ∨ (k (g r0 2)).1 = 24) ∧ 0 ≤ (wr (16 + x5) : Int) ∧ (wr (16 + x5) : Int) < ((k (g r0 2)).2 : Int) then if (k (g r0 2)).1 = 20 ∧ 0 ≤ (wr ((wr (x4 + 11)) + x5) : Int) ∧ (wr ((wr (x4 + 11)) + x5) : Int) < ((k (g r0 2)).2 : Int) then a_X 193 138 [a_r (r0), a_i (x1), a_i (x2), a_i (x3), a_i (x4), a_i (wr (x5 + 1))] [] (k, (upm u (g r0 2) (wr ((wr (x4 + 11)) + x5) : Int).toNat (u (g r0 2) (wr (16 + x5) : Int).toNat)), g, t) else none else none else none else none := by
  refine (X_iload (m := 193) (pc := 138) (n := 5) (by decide +kernel) rfl).trans ?_
  refine (X_bipush (m := 193) (pc := 140) (n := 60) (by decide +kernel) ).trans ?_
  refine (X_ic_ge (m := 193) (pc := 142) (off := 41) (tg := 183) (by decide +kernel) (by decide +kernel)).trans ?_
  refine ite_congr rfl (fun _ => ?_) (fun _ => ?_)
  · refine (X_aload_n (m := 193) (pc := 183) (n := 0) (by decide +kernel) rfl).trans ?_
    refine (X_getR (m := 193) (pc := 184) (n := 7) (c := 11) (q := 2) (fi := true) (by decide +kernel) (by decide +kernel)).trans ?_
    refine ite_congr rfl (fun _ => ?_) (fun _ => rfl)
    refine (X_iconst (m := 193) (pc := 187) (n := 4) (by decide +kernel) ).trans ?_
    refine (X_dup2 (m := 193) (pc := 188)  (by decide +kernel) rfl rfl rfl rfl).trans ?_
    refine (X_iaload (m := 193) (pc := 189)  (by decide +kernel) ).trans ?_
    refine ite_congr rfl (fun _ => ?_) (fun _ => rfl)
    refine (X_iconst (m := 193) (pc := 190) (n := 1) (by decide +kernel) ).trans ?_
    refine (X_iadd (m := 193) (pc := 191)  (by decide +kernel) ).trans ?_
    refine (X_iastore (m := 193) (pc := 192)  (by decide +kernel) ).trans ?_
    refine ite_congr rfl (fun _ => ?_) (fun _ => rfl)
    refine (X_aload_n (m := 193) (pc := 193) (n := 0) (by decide +kernel) rfl).trans ?_
    refine (X_getR (m := 193) (pc := 194) (n := 7) (c := 11) (q := 2) (fi := true) (by decide +kernel) (by decide +kernel)).trans ?_
    refine ite_congr rfl (fun _ => ?_) (fun _ => rfl)
    refine (X_bipush (m := 193) (pc := 197) (n := 7) (by decide +kernel) ).trans ?_
    refine (X_dup2 (m := 193) (pc := 199)  (by decide +kernel) rfl rfl rfl rfl).trans ?_
    refine (X_iaload (m := 193) (pc := 200)  (by decide +kernel) ).trans ?_
    refine ite_congr rfl (fun _ => ?_) (fun _ => rfl)
    refine (X_iconst (m := 193) (pc := 201) (n := 1) (by decide +kernel) ).trans ?_
    refine (X_iadd (m := 193) (pc := 202)  (by decide +kernel) ).trans ?_
    refine (X_iastore (m := 193) (pc := 203)  (by decide +kernel) ).trans ?_
    refine ite_congr rfl (fun _ => ?_) (fun _ => rfl)
    refine (X_aload_n (m := 193) (pc := 204) (n := 0) (by decide +kernel) rfl).trans ?_
    refine (X_getR (m := 193) (pc := 205) (n := 7) (c := 11) (q := 2) (fi := true) (by decide +kernel) (by decide +kernel)).trans ?_
    refine ite_congr rfl (fun _ => ?_) (fun _ => rfl)
    refine (X_iconst (m := 193) (pc := 208) (n := 5) (by decide +kernel) ).trans ?_
    refine (X_dup2 (m := 193) (pc := 209)  (by decide +kernel) rfl rfl rfl rfl).trans ?_
    refine (X_iaload (m := 193) (pc := 210)  (by decide +kernel) ).trans ?_
    refine ite_congr rfl (fun _ => ?_) (fun _ => rfl)
    refine (X_iload_n (m := 193) (pc := 211) (n := 1) (by decide +kernel) rfl).trans ?_
    refine (X_iadd (m := 193) (pc := 212)  (by decide +kernel) ).trans ?_
    refine (X_iastore (m := 193) (pc := 213)  (by decide +kernel) ).trans ?_
    refine ite_congr rfl (fun _ => ?_) (fun _ => rfl)
    exact X_return (m := 193) (pc := 214) (by decide +kernel) (by decide +kernel)
  · refine (X_aload_n (m := 193) (pc := 145) (n := 0) (by decide +kernel) rfl).trans ?_
    refine (X_getR (m := 193) (pc := 146) (n := 7) (c := 11) (q := 2) (fi := true) (by decide +kernel) (by decide +kernel)).trans ?_
    refine ite_congr rfl (fun _ => ?_) (fun _ => rfl)
    refine (X_iload (m := 193) (pc := 149) (n := 4) (by decide +kernel) rfl).trans ?_
    refine (X_bipush (m := 193) (pc := 151) (n := 11) (by decide +kernel) ).trans ?_
    refine (X_iadd (m := 193) (pc := 153)  (by decide +kernel) ).trans ?_
    refine (X_iload (m := 193) (pc := 154) (n := 5) (by decide +kernel) rfl).trans ?_
    refine (X_iadd (m := 193) (pc := 156)  (by decide +kernel) ).trans ?_
    refine (X_iload_n (m := 193) (pc := 157) (n := 1) (by decide +kernel) rfl).trans ?_
    refine (X_iconst (m := 193) (pc := 158) (n := 1) (by decide +kernel) ).trans ?_
    refine (X_ic_ne (m := 193) (pc := 159) (off := 16) (tg := 175) (by decide +kernel) (by decide +kernel)).trans ?_
    refine ite_congr rfl (fun _ => ?_) (fun _ => ?_)
    · refine (X_iconst (m := 193) (pc := 175) (n := 0) (by decide +kernel) ).trans ?_
      refine (X_iastore (m := 193) (pc := 176)  (by decide +kernel) ).trans ?_
      refine ite_congr rfl (fun _ => ?_) (fun _ => rfl)
      refine (X_iinc (m := 193) (pc := 177) (n := 5) (c := 1) (by decide +kernel) rfl rfl (Nat.le_of_ble_eq_true rfl) rfl).trans ?_
      refine (X_goto (m := 193) (pc := 180) (off := -42) (tg := 138) (by decide +kernel) (by decide +kernel)).trans ?_
      rfl
    · refine (X_aload_n (m := 193) (pc := 162) (n := 0) (by decide +kernel) rfl).trans ?_
      refine (X_getR (m := 193) (pc := 163) (n := 7) (c := 11) (q := 2) (fi := true) (by decide +kernel) (by decide +kernel)).trans ?_
      refine ite_congr rfl (fun _ => ?_) (fun _ => rfl)
      refine (X_bipush (m := 193) (pc := 166) (n := 16) (by decide +kernel) ).trans ?_
      refine (X_iload (m := 193) (pc := 168) (n := 5) (by decide +kernel) rfl).trans ?_
      refine (X_iadd (m := 193) (pc := 170)  (by decide +kernel) ).trans ?_
      refine (X_iaload (m := 193) (pc := 171)  (by decide +kernel) ).trans ?_
      refine ite_congr rfl (fun _ => ?_) (fun _ => rfl)
      refine (X_goto (m := 193) (pc := 172) (off := 4) (tg := 176) (by decide +kernel) (by decide +kernel)).trans ?_
      refine (X_iastore (m := 193) (pc := 176)  (by decide +kernel) ).trans ?_
      refine ite_congr rfl (fun _ => ?_) (fun _ => rfl)
      refine (X_iinc (m := 193) (pc := 177) (n := 5) (c := 1) (by decide +kernel) rfl rfl (Nat.le_of_ble_eq_true rfl) rfl).trans ?_
      refine (X_goto (m := 193) (pc := 180) (off := -42) (tg := 138) (by decide +kernel) (by decide +kernel)).trans ?_
      rfl
theorem B_X11_airs_123 {k : Nat → Nat × Nat} {u : Nat → Nat → Int} {g : Nat → Nat → Nat} {t : Nat × Nat × Nat} {r0 : Nat} {x1 : Int} {x2 : Int} {x3 : Int} {x4 : Int} {x5 : Int} {q0 : Nat} {y1 : Int} {y2 : Int} {y3 : Int} : a_X 193 123 [a_r (r0), a_i (x1), a_i (x2), a_i (x3), a_i (x4), a_i (x5)] [a_i (y3), a_i (y2), a_i (y1), a_r (q0)] (k, u, g, t) = if (k q0).1 = 20 ∧ 0 ≤ (y1 : Int) ∧ (y1 : Int) < ((k q0).2 : Int) then a_X 193 79 [a_r (r0), a_i (x1), a_i (x2), a_i (x3), a_i (x4), a_i (wr (x5 + 1))] [] (k, (upm u q0 (y1 : Int).toNat (wr (y2 + y3))), g, t) else none := by
  refine (X_iadd (m := 193) (pc := 123)  (by decide +kernel) ).trans ?_
  refine (X_goto (m := 193) (pc := 124) (off := 4) (tg := 128) (by decide +kernel) (by decide +kernel)).trans ?_
  refine (X_iastore (m := 193) (pc := 128)  (by decide +kernel) ).trans ?_
  refine ite_congr rfl (fun _ => ?_) (fun _ => rfl)
  refine (X_iinc (m := 193) (pc := 129) (n := 5) (c := 1) (by decide +kernel) rfl rfl (Nat.le_of_ble_eq_true rfl) rfl).trans ?_
  refine (X_goto (m := 193) (pc := 132) (off := -53) (tg := 79) (by decide +kernel) (by decide +kernel)).trans ?_
  rfl
theorem E_X11_firstDue {σ : AS} {r0 : Nat} {x1 : Int} : a_m 194 [a_r (r0), a_i (x1)] σ = a_X 194 0 [a_r (r0), a_i (x1), a_x false, a_x false] [] σ := a_m_eq (by rw [a_entry, show m_maxL 194 = 4 from by decide +kernel]; rfl)
theorem B_X11_firstDue_0 {k : Nat → Nat × Nat} {u : Nat → Nat → Int} {g : Nat → Nat → Nat} {t : Nat × Nat × Nat} {r0 : Nat} {x1 : Int} {v2 : AV} {v3 : AV} : a_X 194 0 [a_r (r0), a_i (x1), v2, v3] [] (k, u, g, t) = if (k r0).1 = 11 then (a_m 169 [a_r (r0), a_i (x1), a_i (5)] (k, u, g, t)).bind (a_back 194 3 3 [a_r (r0), a_i (x1), v2, v3] []) else none := by
  refine (X_aload_n (m := 194) (pc := 0) (n := 0) (by decide +kernel) rfl).trans ?_
  refine (X_iload_n (m := 194) (pc := 1) (n := 1) (by decide +kernel) rfl).trans ?_
  refine (X_iconst (m := 194) (pc := 2) (n := 5) (by decide +kernel) ).trans ?_
  refine (X_call_vi (m := 194) (pc := 3) (q := 181) (y := 169) (n := 3) (as := [a_r (r0), a_i (x1), a_i (5)]) (rest := []) (by decide +kernel) (by decide +kernel) (by decide +kernel) (by decide +kernel) rfl rfl (Nat.le_of_ble_eq_true rfl) (Nat.le_of_ble_eq_true rfl) rfl (by rw [show m_maxL 169 = 3 from by decide +kernel]; exact Nat.le_of_ble_eq_true rfl)).trans ?_
  exact ite_congr (by simp [a_rcv, show m_recv 169 = 11 from by decide +kernel]) (fun _ => rfl) (fun _ => rfl)
theorem B_X11_firstDue_6 {k : Nat → Nat × Nat} {u : Nat → Nat → Int} {g : Nat → Nat → Nat} {t : Nat × Nat × Nat} {r0 : Nat} {x1 : Int} {v2 : AV} {v3 : AV} {y0 : Int} : a_X 194 6 [a_r (r0), a_i (x1), v2, v3] [a_i (y0)] (k, u, g, t) = a_X 194 9 [a_r (r0), a_i (x1), a_i (y0), a_i (1)] [] (k, u, g, t) := by
  refine (X_istore_n (m := 194) (pc := 6) (n := 2) (by decide +kernel) rfl (Nat.le_of_ble_eq_true rfl) rfl).trans ?_
  refine (X_iconst (m := 194) (pc := 7) (n := 1) (by decide +kernel) ).trans ?_
  refine (X_istore_n (m := 194) (pc := 8) (n := 3) (by decide +kernel) rfl (Nat.le_of_ble_eq_true rfl) rfl).trans ?_
  rfl
theorem B_X11_firstDue_9 {k : Nat → Nat × Nat} {u : Nat → Nat → Int} {g : Nat → Nat → Nat} {t : Nat × Nat × Nat} {r0 : Nat} {x1 : Int} {x2 : Int} {x3 : Int} : a_X 194 9 [a_r (r0), a_i (x1), a_i (x2), a_i (x3)] [] (k, u, g, t) = if (k r0).1 = 11 then if ((k (g r0 2)).1 = 20 ∨ (k (g r0 2)).1 = 24) ∧ 0 ≤ (3 : Int) ∧ (3 : Int) < ((k (g r0 2)).2 : Int) then if (x3 : Int) ≥ (u (g r0 2) (3 : Int).toNat : Int) then some (.inl (some (a_i (x2))), (k, u, g, t)) else if (k r0).1 = 11 then (a_m 169 [a_r (r0), a_i (x1), a_i (wr (5 + x3))] (k, u, g, t)).bind (a_back 194 25 3 [a_r (r0), a_i (x1), a_i (x2), a_i (x3)] [a_i (x2)]) else none else none else none := by
  refine (X_iload_n (m := 194) (pc := 9) (n := 3) (by decide +kernel) rfl).trans ?_
  refine (X_aload_n (m := 194) (pc := 10) (n := 0) (by decide +kernel) rfl).trans ?_
  refine (X_getR (m := 194) (pc := 11) (n := 7) (c := 11) (q := 2) (fi := true) (by decide +kernel) (by decide +kernel)).trans ?_
  refine ite_congr rfl (fun _ => ?_) (fun _ => rfl)
  refine (X_iconst (m := 194) (pc := 14) (n := 3) (by decide +kernel) ).trans ?_
  refine (X_iaload (m := 194) (pc := 15)  (by decide +kernel) ).trans ?_
  refine ite_congr rfl (fun _ => ?_) (fun _ => rfl)
  refine (X_ic_ge (m := 194) (pc := 16) (off := 22) (tg := 38) (by decide +kernel) (by decide +kernel)).trans ?_
  refine ite_congr rfl (fun _ => ?_) (fun _ => ?_)
  · refine (X_iload_n (m := 194) (pc := 38) (n := 2) (by decide +kernel) rfl).trans ?_
    exact X_ireturn (m := 194) (pc := 39) (f := 1) (by decide +kernel) (by decide +kernel) rfl
  · refine (X_iload_n (m := 194) (pc := 19) (n := 2) (by decide +kernel) rfl).trans ?_
    refine (X_aload_n (m := 194) (pc := 20) (n := 0) (by decide +kernel) rfl).trans ?_
    refine (X_iload_n (m := 194) (pc := 21) (n := 1) (by decide +kernel) rfl).trans ?_
    refine (X_iconst (m := 194) (pc := 22) (n := 5) (by decide +kernel) ).trans ?_
    refine (X_iload_n (m := 194) (pc := 23) (n := 3) (by decide +kernel) rfl).trans ?_
    refine (X_iadd (m := 194) (pc := 24)  (by decide +kernel) ).trans ?_
    refine (X_call_vi (m := 194) (pc := 25) (q := 181) (y := 169) (n := 3) (as := [a_r (r0), a_i (x1), a_i (wr (5 + x3))]) (rest := [a_i (x2)]) (by decide +kernel) (by decide +kernel) (by decide +kernel) (by decide +kernel) rfl rfl (Nat.le_of_ble_eq_true rfl) (Nat.le_of_ble_eq_true rfl) rfl (by rw [show m_maxL 169 = 3 from by decide +kernel]; exact Nat.le_of_ble_eq_true rfl)).trans ?_
    exact ite_congr (by simp [a_rcv, show m_recv 169 = 11 from by decide +kernel]) (fun _ => rfl) (fun _ => rfl)
theorem B_X11_firstDue_28 {k : Nat → Nat × Nat} {u : Nat → Nat → Int} {g : Nat → Nat → Nat} {t : Nat × Nat × Nat} {r0 : Nat} {x1 : Int} {x2 : Int} {x3 : Int} {y0 : Int} {y1 : Int} : a_X 194 28 [a_r (r0), a_i (x1), a_i (x2), a_i (x3)] [a_i (y1), a_i (y0)] (k, u, g, t) = a_X 194 9 [a_r (r0), a_i (x1), a_i (min (y0) (y1)), a_i (wr (x3 + 1))] [] (k, u, g, t) := by
  refine (X_min (m := 194) (pc := 28) (q := 184) (by decide +kernel) (by decide +kernel) (Nat.le_of_ble_eq_true rfl)).trans ?_
  refine (X_istore_n (m := 194) (pc := 31) (n := 2) (by decide +kernel) rfl (Nat.le_of_ble_eq_true rfl) rfl).trans ?_
  refine (X_iinc (m := 194) (pc := 32) (n := 3) (c := 1) (by decide +kernel) rfl rfl (Nat.le_of_ble_eq_true rfl) rfl).trans ?_
  refine (X_goto (m := 194) (pc := 35) (off := -26) (tg := 9) (by decide +kernel) (by decide +kernel)).trans ?_
  rfl
theorem E_X11_rank {σ : AS} {r0 : Nat} {x1 : Int} : a_m 195 [a_r (r0), a_i (x1)] σ = a_X 195 0 [a_r (r0), a_i (x1)] [] σ := a_m_eq (by rw [a_entry, show m_maxL 195 = 2 from by decide +kernel]; rfl)
theorem B_X11_rank_0 {k : Nat → Nat × Nat} {u : Nat → Nat → Int} {g : Nat → Nat → Nat} {t : Nat × Nat × Nat} {r0 : Nat} {x1 : Int} : a_X 195 0 [a_r (r0), a_i (x1)] [] (k, u, g, t) = if (k r0).1 = 11 then (a_m 169 [a_r (r0), a_i (x1), a_i (1)] (k, u, g, t)).bind (a_back 195 6 3 [a_r (r0), a_i (x1)] [a_l (2)]) else none := by
  refine (X_ldc2 (m := 195) (pc := 0) (n := 189) (z := 2) (by decide +kernel) (by decide +kernel)).trans ?_
  refine (X_aload_n (m := 195) (pc := 3) (n := 0) (by decide +kernel) rfl).trans ?_
  refine (X_iload_n (m := 195) (pc := 4) (n := 1) (by decide +kernel) rfl).trans ?_
  refine (X_iconst (m := 195) (pc := 5) (n := 1) (by decide +kernel) ).trans ?_
  refine (X_call_vi (m := 195) (pc := 6) (q := 181) (y := 169) (n := 3) (as := [a_r (r0), a_i (x1), a_i (1)]) (rest := [a_l (2)]) (by decide +kernel) (by decide +kernel) (by decide +kernel) (by decide +kernel) rfl rfl (Nat.le_of_ble_eq_true rfl) (Nat.le_of_ble_eq_true rfl) rfl (by rw [show m_maxL 169 = 3 from by decide +kernel]; exact Nat.le_of_ble_eq_true rfl)).trans ?_
  exact ite_congr (by simp [a_rcv, show m_recv 169 = 11 from by decide +kernel]) (fun _ => rfl) (fun _ => rfl)
theorem B_X11_rank_9 {k : Nat → Nat × Nat} {u : Nat → Nat → Int} {g : Nat → Nat → Nat} {t : Nat × Nat × Nat} {r0 : Nat} {x1 : Int} {w0 : Int} {y1 : Int} : a_X 195 9 [a_r (r0), a_i (x1)] [a_i (y1), a_l (w0)] (k, u, g, t) = if (k r0).1 = 11 then (a_m 169 [a_r (r0), a_i (x1), a_i (0)] (k, u, g, t)).bind (a_back 195 14 3 [a_r (r0), a_i (x1)] [a_l (wl ((w0) * (y1)))]) else none := by
  refine (X_i2l (m := 195) (pc := 9)  (by decide +kernel) ).trans ?_
  refine (X_lmul (m := 195) (pc := 10)  (by decide +kernel) ).trans ?_
  refine (X_aload_n (m := 195) (pc := 11) (n := 0) (by decide +kernel) rfl).trans ?_
  refine (X_iload_n (m := 195) (pc := 12) (n := 1) (by decide +kernel) rfl).trans ?_
  refine (X_iconst (m := 195) (pc := 13) (n := 0) (by decide +kernel) ).trans ?_
  refine (X_call_vi (m := 195) (pc := 14) (q := 181) (y := 169) (n := 3) (as := [a_r (r0), a_i (x1), a_i (0)]) (rest := [a_l (wl ((w0) * (y1)))]) (by decide +kernel) (by decide +kernel) (by decide +kernel) (by decide +kernel) rfl rfl (Nat.le_of_ble_eq_true rfl) (Nat.le_of_ble_eq_true rfl) rfl (by rw [show m_maxL 169 = 3 from by decide +kernel]; exact Nat.le_of_ble_eq_true rfl)).trans ?_
  exact ite_congr (by simp [a_rcv, show m_recv 169 = 11 from by decide +kernel]) (fun _ => rfl) (fun _ => rfl)
theorem B_X11_rank_17 {k : Nat → Nat × Nat} {u : Nat → Nat → Int} {g : Nat → Nat → Nat} {t : Nat × Nat × Nat} {r0 : Nat} {x1 : Int} {w0 : Int} {y1 : Int} : a_X 195 17 [a_r (r0), a_i (x1)] [a_i (y1), a_l (w0)] (k, u, g, t) = if (k r0).1 = 11 then (a_m 169 [a_r (r0), a_i (x1), a_i (4)] (k, u, g, t)).bind (a_back 195 26 3 [a_r (r0), a_i (x1)] [a_l (wl ((wl ((w0) + (y1))) * (1000000)))]) else none := by
  refine (X_i2l (m := 195) (pc := 17)  (by decide +kernel) ).trans ?_
  refine (X_ladd (m := 195) (pc := 18)  (by decide +kernel) ).trans ?_
  refine (X_ldc2 (m := 195) (pc := 19) (n := 191) (z := 1000000) (by decide +kernel) (by decide +kernel)).trans ?_
  refine (X_lmul (m := 195) (pc := 22)  (by decide +kernel) ).trans ?_
  refine (X_aload_n (m := 195) (pc := 23) (n := 0) (by decide +kernel) rfl).trans ?_
  refine (X_iload_n (m := 195) (pc := 24) (n := 1) (by decide +kernel) rfl).trans ?_
  refine (X_iconst (m := 195) (pc := 25) (n := 4) (by decide +kernel) ).trans ?_
  refine (X_call_vi (m := 195) (pc := 26) (q := 181) (y := 169) (n := 3) (as := [a_r (r0), a_i (x1), a_i (4)]) (rest := [a_l (wl ((wl ((w0) + (y1))) * (1000000)))]) (by decide +kernel) (by decide +kernel) (by decide +kernel) (by decide +kernel) rfl rfl (Nat.le_of_ble_eq_true rfl) (Nat.le_of_ble_eq_true rfl) rfl (by rw [show m_maxL 169 = 3 from by decide +kernel]; exact Nat.le_of_ble_eq_true rfl)).trans ?_
  exact ite_congr (by simp [a_rcv, show m_recv 169 = 11 from by decide +kernel]) (fun _ => rfl) (fun _ => rfl)
theorem B_X11_rank_29 {k : Nat → Nat × Nat} {u : Nat → Nat → Int} {g : Nat → Nat → Nat} {t : Nat × Nat × Nat} {r0 : Nat} {x1 : Int} {w0 : Int} {y1 : Int} : a_X 195 29 [a_r (r0), a_i (x1)] [a_i (y1), a_l (w0)] (k, u, g, t) = some (.inl (some (a_l (wl ((w0) + (y1))))), (k, u, g, t)) := by
  refine (X_i2l (m := 195) (pc := 29)  (by decide +kernel) ).trans ?_
  refine (X_ladd (m := 195) (pc := 30)  (by decide +kernel) ).trans ?_
  exact X_lreturn (m := 195) (pc := 31) (by decide +kernel) (by decide +kernel)
theorem E_X11_isAhead {σ : AS} {r0 : Nat} {x1 : Int} {x2 : Int} : a_m 196 [a_r (r0), a_i (x1), a_i (x2)] σ = a_X 196 0 [a_r (r0), a_i (x1), a_i (x2)] [] σ := a_m_eq (by rw [a_entry, show m_maxL 196 = 3 from by decide +kernel]; rfl)
theorem B_X11_isAhead_0 {k : Nat → Nat × Nat} {u : Nat → Nat → Int} {g : Nat → Nat → Nat} {t : Nat × Nat × Nat} {r0 : Nat} {x1 : Int} {x2 : Int} : a_X 196 0 [a_r (r0), a_i (x1), a_i (x2)] [] (k, u, g, t) = if (k r0).1 = 11 then (a_m 194 [a_r (r0), a_i (x1)] (k, u, g, t)).bind (a_back 196 2 3 [a_r (r0), a_i (x1), a_i (x2)] []) else none := by
  refine (X_aload_n (m := 196) (pc := 0) (n := 0) (by decide +kernel) rfl).trans ?_
  refine (X_iload_n (m := 196) (pc := 1) (n := 1) (by decide +kernel) rfl).trans ?_
  refine (X_call_vi (m := 196) (pc := 2) (q := 193) (y := 194) (n := 2) (as := [a_r (r0), a_i (x1)]) (rest := []) (by decide +kernel) (by decide +kernel) (by decide +kernel) (by decide +kernel) rfl rfl (Nat.le_of_ble_eq_true rfl) (Nat.le_of_ble_eq_true rfl) rfl (by rw [show m_maxL 194 = 4 from by decide +kernel]; exact Nat.le_of_ble_eq_true rfl)).trans ?_
  exact ite_congr (by simp [a_rcv, show m_recv 194 = 11 from by decide +kernel]) (fun _ => rfl) (fun _ => rfl)
theorem B_X11_isAhead_5 {k : Nat → Nat × Nat} {u : Nat → Nat → Int} {g : Nat → Nat → Nat} {t : Nat × Nat × Nat} {r0 : Nat} {x1 : Int} {x2 : Int} {y0 : Int} : a_X 196 5 [a_r (r0), a_i (x1), a_i (x2)] [a_i (y0)] (k, u, g, t) = if (k r0).1 = 11 then (a_m 194 [a_r (r0), a_i (x2)] (k, u, g, t)).bind (a_back 196 7 3 [a_r (r0), a_i (x1), a_i (x2)] [a_i (y0)]) else none := by
  refine (X_aload_n (m := 196) (pc := 5) (n := 0) (by decide +kernel) rfl).trans ?_
  refine (X_iload_n (m := 196) (pc := 6) (n := 2) (by decide +kernel) rfl).trans ?_
  refine (X_call_vi (m := 196) (pc := 7) (q := 193) (y := 194) (n := 2) (as := [a_r (r0), a_i (x2)]) (rest := [a_i (y0)]) (by decide +kernel) (by decide +kernel) (by decide +kernel) (by decide +kernel) rfl rfl (Nat.le_of_ble_eq_true rfl) (Nat.le_of_ble_eq_true rfl) rfl (by rw [show m_maxL 194 = 4 from by decide +kernel]; exact Nat.le_of_ble_eq_true rfl)).trans ?_
  exact ite_congr (by simp [a_rcv, show m_recv 194 = 11 from by decide +kernel]) (fun _ => rfl) (fun _ => rfl)
theorem B_X11_isAhead_10 {k : Nat → Nat × Nat} {u : Nat → Nat → Int} {g : Nat → Nat → Nat} {t : Nat × Nat × Nat} {r0 : Nat} {x1 : Int} {x2 : Int} {y0 : Int} {y1 : Int} : a_X 196 10 [a_r (r0), a_i (x1), a_i (x2)] [a_i (y1), a_i (y0)] (k, u, g, t) = if (y0 : Int) < (y1 : Int) then some (.inl (some (a_i (1))), (k, u, g, t)) else if (k r0).1 = 11 then (a_m 194 [a_r (r0), a_i (x1)] (k, u, g, t)).bind (a_back 196 15 3 [a_r (r0), a_i (x1), a_i (x2)] []) else none := by
  refine (X_ic_lt (m := 196) (pc := 10) (off := 30) (tg := 40) (by decide +kernel) (by decide +kernel)).trans ?_
  refine ite_congr rfl (fun _ => ?_) (fun _ => ?_)
  · refine (X_iconst (m := 196) (pc := 40) (n := 1) (by decide +kernel) ).trans ?_
    refine (X_goto (m := 196) (pc := 41) (off := 4) (tg := 45) (by decide +kernel) (by decide +kernel)).trans ?_
    exact X_ireturn (m := 196) (pc := 45) (f := 2) (by decide +kernel) (by decide +kernel) rfl
  · refine (X_aload_n (m := 196) (pc := 13) (n := 0) (by decide +kernel) rfl).trans ?_
    refine (X_iload_n (m := 196) (pc := 14) (n := 1) (by decide +kernel) rfl).trans ?_
    refine (X_call_vi (m := 196) (pc := 15) (q := 193) (y := 194) (n := 2) (as := [a_r (r0), a_i (x1)]) (rest := []) (by decide +kernel) (by decide +kernel) (by decide +kernel) (by decide +kernel) rfl rfl (Nat.le_of_ble_eq_true rfl) (Nat.le_of_ble_eq_true rfl) rfl (by rw [show m_maxL 194 = 4 from by decide +kernel]; exact Nat.le_of_ble_eq_true rfl)).trans ?_
    exact ite_congr (by simp [a_rcv, show m_recv 194 = 11 from by decide +kernel]) (fun _ => rfl) (fun _ => rfl)
theorem B_X11_isAhead_18 {k : Nat → Nat × Nat} {u : Nat → Nat → Int} {g : Nat → Nat → Nat} {t : Nat × Nat × Nat} {r0 : Nat} {x1 : Int} {x2 : Int} {y0 : Int} : a_X 196 18 [a_r (r0), a_i (x1), a_i (x2)] [a_i (y0)] (k, u, g, t) = if (k r0).1 = 11 then (a_m 194 [a_r (r0), a_i (x2)] (k, u, g, t)).bind (a_back 196 20 3 [a_r (r0), a_i (x1), a_i (x2)] [a_i (y0)]) else none := by
  refine (X_aload_n (m := 196) (pc := 18) (n := 0) (by decide +kernel) rfl).trans ?_
  refine (X_iload_n (m := 196) (pc := 19) (n := 2) (by decide +kernel) rfl).trans ?_
  refine (X_call_vi (m := 196) (pc := 20) (q := 193) (y := 194) (n := 2) (as := [a_r (r0), a_i (x2)]) (rest := [a_i (y0)]) (by decide +kernel) (by decide +kernel) (by decide +kernel) (by decide +kernel) rfl rfl (Nat.le_of_ble_eq_true rfl) (Nat.le_of_ble_eq_true rfl) rfl (by rw [show m_maxL 194 = 4 from by decide +kernel]; exact Nat.le_of_ble_eq_true rfl)).trans ?_
  exact ite_congr (by simp [a_rcv, show m_recv 194 = 11 from by decide +kernel]) (fun _ => rfl) (fun _ => rfl)
theorem B_X11_isAhead_23 {k : Nat → Nat × Nat} {u : Nat → Nat → Int} {g : Nat → Nat → Nat} {t : Nat × Nat × Nat} {r0 : Nat} {x1 : Int} {x2 : Int} {y0 : Int} {y1 : Int} : a_X 196 23 [a_r (r0), a_i (x1), a_i (x2)] [a_i (y1), a_i (y0)] (k, u, g, t) = if (y0 : Int) ≠ (y1 : Int) then some (.inl (some (a_i (0))), (k, u, g, t)) else if (k r0).1 = 11 then (a_m 195 [a_r (r0), a_i (x1)] (k, u, g, t)).bind (a_back 196 28 3 [a_r (r0), a_i (x1), a_i (x2)] []) else none := by
  refine (X_ic_ne (m := 196) (pc := 23) (off := 21) (tg := 44) (by decide +kernel) (by decide +kernel)).trans ?_
  refine ite_congr rfl (fun _ => ?_) (fun _ => ?_)
  · refine (X_iconst (m := 196) (pc := 44) (n := 0) (by decide +kernel) ).trans ?_
    exact X_ireturn (m := 196) (pc := 45) (f := 2) (by decide +kernel) (by decide +kernel) rfl
  · refine (X_aload_n (m := 196) (pc := 26) (n := 0) (by decide +kernel) rfl).trans ?_
    refine (X_iload_n (m := 196) (pc := 27) (n := 1) (by decide +kernel) rfl).trans ?_
    refine (X_call_vi (m := 196) (pc := 28) (q := 196) (y := 195) (n := 2) (as := [a_r (r0), a_i (x1)]) (rest := []) (by decide +kernel) (by decide +kernel) (by decide +kernel) (by decide +kernel) rfl rfl (Nat.le_of_ble_eq_true rfl) (Nat.le_of_ble_eq_true rfl) rfl (by rw [show m_maxL 195 = 2 from by decide +kernel]; exact Nat.le_of_ble_eq_true rfl)).trans ?_
    exact ite_congr (by simp [a_rcv, show m_recv 195 = 11 from by decide +kernel]) (fun _ => rfl) (fun _ => rfl)
theorem B_X11_isAhead_31 {k : Nat → Nat × Nat} {u : Nat → Nat → Int} {g : Nat → Nat → Nat} {t : Nat × Nat × Nat} {r0 : Nat} {x1 : Int} {x2 : Int} {w0 : Int} : a_X 196 31 [a_r (r0), a_i (x1), a_i (x2)] [a_l (w0)] (k, u, g, t) = if (k r0).1 = 11 then (a_m 195 [a_r (r0), a_i (x2)] (k, u, g, t)).bind (a_back 196 33 3 [a_r (r0), a_i (x1), a_i (x2)] [a_l (w0)]) else none := by
  refine (X_aload_n (m := 196) (pc := 31) (n := 0) (by decide +kernel) rfl).trans ?_
  refine (X_iload_n (m := 196) (pc := 32) (n := 2) (by decide +kernel) rfl).trans ?_
  refine (X_call_vi (m := 196) (pc := 33) (q := 196) (y := 195) (n := 2) (as := [a_r (r0), a_i (x2)]) (rest := [a_l (w0)]) (by decide +kernel) (by decide +kernel) (by decide +kernel) (by decide +kernel) rfl rfl (Nat.le_of_ble_eq_true rfl) (Nat.le_of_ble_eq_true rfl) rfl (by rw [show m_maxL 195 = 2 from by decide +kernel]; exact Nat.le_of_ble_eq_true rfl)).trans ?_
  exact ite_congr (by simp [a_rcv, show m_recv 195 = 11 from by decide +kernel]) (fun _ => rfl) (fun _ => rfl)
theorem B_X11_isAhead_36 {k : Nat → Nat × Nat} {u : Nat → Nat → Int} {g : Nat → Nat → Nat} {t : Nat × Nat × Nat} {r0 : Nat} {x1 : Int} {x2 : Int} {w0 : Int} {w1 : Int} : a_X 196 36 [a_r (r0), a_i (x1), a_i (x2)] [a_l (w1), a_l (w0)] (k, u, g, t) = if (if (w0) < (w1) then -1 else if (w0) = (w1) then 0 else 1 : Int) ≥ 0 then some (.inl (some (a_i (0))), (k, u, g, t)) else some (.inl (some (a_i (1))), (k, u, g, t)) := by
  refine (X_lcmp (m := 196) (pc := 36)  (by decide +kernel) ).trans ?_
  refine (X_if_ge (m := 196) (pc := 37) (off := 7) (tg := 44) (by decide +kernel) (by decide +kernel)).trans ?_
  refine ite_congr rfl (fun _ => ?_) (fun _ => ?_)
  · refine (X_iconst (m := 196) (pc := 44) (n := 0) (by decide +kernel) ).trans ?_
    exact X_ireturn (m := 196) (pc := 45) (f := 2) (by decide +kernel) (by decide +kernel) rfl
  · refine (X_iconst (m := 196) (pc := 40) (n := 1) (by decide +kernel) ).trans ?_
    refine (X_goto (m := 196) (pc := 41) (off := 4) (tg := 45) (by decide +kernel) (by decide +kernel)).trans ?_
    exact X_ireturn (m := 196) (pc := 45) (f := 2) (by decide +kernel) (by decide +kernel) rfl
theorem E_X11_airAt {σ : AS} {r0 : Nat} {x1 : Int} : a_m 197 [a_r (r0), a_i (x1)] σ = a_X 197 0 [a_r (r0), a_i (x1), a_x false, a_x false, a_x false] [] σ := a_m_eq (by rw [a_entry, show m_maxL 197 = 5 from by decide +kernel]; rfl)
theorem B_X11_airAt_0 {k : Nat → Nat × Nat} {u : Nat → Nat → Int} {g : Nat → Nat → Nat} {t : Nat × Nat × Nat} {r0 : Nat} {x1 : Int} {v2 : AV} {v3 : AV} {v4 : AV} : a_X 197 0 [a_r (r0), a_i (x1), v2, v3, v4] [] (k, u, g, t) = a_X 197 2 [a_r (r0), a_i (x1), a_i (0), v3, v4] [] (k, u, g, t) := by
  refine (X_iconst (m := 197) (pc := 0) (n := 0) (by decide +kernel) ).trans ?_
  refine (X_istore_n (m := 197) (pc := 1) (n := 2) (by decide +kernel) rfl (Nat.le_of_ble_eq_true rfl) rfl).trans ?_
  rfl
theorem B_X11_airAt_2 {k : Nat → Nat × Nat} {u : Nat → Nat → Int} {g : Nat → Nat → Nat} {t : Nat × Nat × Nat} {r0 : Nat} {x1 : Int} {x2 : Int} {v3 : AV} {v4 : AV} : a_X 197 2 [a_r (r0), a_i (x1), a_i (x2), v3, v4] [] (k, u, g, t) = if (k r0).1 = 11 then if ((k (g r0 2)).1 = 20 ∨ (k (g r0 2)).1 = 24) ∧ 0 ≤ (4 : Int) ∧ (4 : Int) < ((k (g r0 2)).2 : Int) then if (x2 : Int) ≥ (u (g r0 2) (4 : Int).toNat : Int) then some (.inl (some (a_i (-1))), (k, u, g, t)) else a_X 197 17 [a_r (r0), a_i (x1), a_i (x2), a_i (0), a_i (0)] [] (k, u, g, t) else none else none := by
  refine (X_iload_n (m := 197) (pc := 2) (n := 2) (by decide +kernel) rfl).trans ?_
  refine (X_aload_n (m := 197) (pc := 3) (n := 0) (by decide +kernel) rfl).trans ?_
  refine (X_getR (m := 197) (pc := 4) (n := 7) (c := 11) (q := 2) (fi := true) (by decide +kernel) (by decide +kernel)).trans ?_
  refine ite_congr rfl (fun _ => ?_) (fun _ => rfl)
  refine (X_iconst (m := 197) (pc := 7) (n := 4) (by decide +kernel) ).trans ?_
  refine (X_iaload (m := 197) (pc := 8)  (by decide +kernel) ).trans ?_
  refine ite_congr rfl (fun _ => ?_) (fun _ => rfl)
  refine (X_ic_ge (m := 197) (pc := 9) (off := 65) (tg := 74) (by decide +kernel) (by decide +kernel)).trans ?_
  refine ite_congr rfl (fun _ => ?_) (fun _ => ?_)
  · refine (X_iconst (m := 197) (pc := 74) (n := -1) (by decide +kernel) ).trans ?_
    exact X_ireturn (m := 197) (pc := 75) (f := 1) (by decide +kernel) (by decide +kernel) rfl
  · refine (X_iconst (m := 197) (pc := 12) (n := 0) (by decide +kernel) ).trans ?_
    refine (X_istore_n (m := 197) (pc := 13) (n := 3) (by decide +kernel) rfl (Nat.le_of_ble_eq_true rfl) rfl).trans ?_
    refine (X_iconst (m := 197) (pc := 14) (n := 0) (by decide +kernel) ).trans ?_
    refine (X_istore (m := 197) (pc := 15) (n := 4) (by decide +kernel) rfl (Nat.le_of_ble_eq_true rfl) rfl).trans ?_
    rfl
theorem B_X11_airAt_17 {k : Nat → Nat × Nat} {u : Nat → Nat → Int} {g : Nat → Nat → Nat} {t : Nat × Nat × Nat} {r0 : Nat} {x1 : Int} {x2 : Int} {x3 : Int} {x4 : Int} : a_X 197 17 [a_r (r0), a_i (x1), a_i (x2), a_i (x3), a_i (x4)] [] (k, u, g, t) = if (k r0).1 = 11 then if ((k (g r0 2)).1 = 20 ∨ (k (g r0 2)).1 = 24) ∧ 0 ≤ (4 : Int) ∧ (4 : Int) < ((k (g r0 2)).2 : Int) then if (x4 : Int) ≥ (u (g r0 2) (4 : Int).toNat : Int) then if (x3 : Int) ≠ (x1 : Int) then a_X 197 2 [a_r (r0), a_i (x1), a_i (wr (x2 + 1)), a_i (x3), a_i (x4)] [] (k, u, g, t) else some (.inl (some (a_i (x2))), (k, u, g, t)) else if (x4 : Int) = (x2 : Int) then (a_m 156 [a_i (0)] (k, u, g, t)).bind (a_back 197 50 3 [a_r (r0), a_i (x1), a_i (x2), a_i (x3), a_i (x4)] [a_i (x3)]) else if (k r0).1 = 11 then (a_m 196 [a_r (r0), a_i (x4), a_i (x2)] (k, u, g, t)).bind (a_back 197 39 3 [a_r (r0), a_i (x1), a_i (x2), a_i (x3), a_i (x4)] [a_i (x3)]) else none else none else none := by
  refine (X_iload (m := 197) (pc := 17) (n := 4) (by decide +kernel) rfl).trans ?_
  refine (X_aload_n (m := 197) (pc := 19) (n := 0) (by decide +kernel) rfl).trans ?_
  refine (X_getR (m := 197) (pc := 20) (n := 7) (c := 11) (q := 2) (fi := true) (by decide +kernel) (by decide +kernel)).trans ?_
  refine ite_congr rfl (fun _ => ?_) (fun _ => rfl)
  refine (X_iconst (m := 197) (pc := 23) (n := 4) (by decide +kernel) ).trans ?_
  refine (X_iaload (m := 197) (pc := 24)  (by decide +kernel) ).trans ?_
  refine ite_congr rfl (fun _ => ?_) (fun _ => rfl)
  refine (X_ic_ge (m := 197) (pc := 25) (off := 36) (tg := 61) (by decide +kernel) (by decide +kernel)).trans ?_
  refine ite_congr rfl (fun _ => ?_) (fun _ => ?_)
  · refine (X_iload_n (m := 197) (pc := 61) (n := 3) (by decide +kernel) rfl).trans ?_
    refine (X_iload_n (m := 197) (pc := 62) (n := 1) (by decide +kernel) rfl).trans ?_
    refine (X_ic_ne (m := 197) (pc := 63) (off := 5) (tg := 68) (by decide +kernel) (by decide +kernel)).trans ?_
    refine ite_congr rfl (fun _ => ?_) (fun _ => ?_)
    · refine (X_iinc (m := 197) (pc := 68) (n := 2) (c := 1) (by decide +kernel) rfl rfl (Nat.le_of_ble_eq_true rfl) rfl).trans ?_
      refine (X_goto (m := 197) (pc := 71) (off := -69) (tg := 2) (by decide +kernel) (by decide +kernel)).trans ?_
      rfl
    · refine (X_iload_n (m := 197) (pc := 66) (n := 2) (by decide +kernel) rfl).trans ?_
      exact X_ireturn (m := 197) (pc := 67) (f := 1) (by decide +kernel) (by decide +kernel) rfl
  · refine (X_iload_n (m := 197) (pc := 28) (n := 3) (by decide +kernel) rfl).trans ?_
    refine (X_iload (m := 197) (pc := 29) (n := 4) (by decide +kernel) rfl).trans ?_
    refine (X_iload_n (m := 197) (pc := 31) (n := 2) (by decide +kernel) rfl).trans ?_
    refine (X_ic_eq (m := 197) (pc := 32) (off := 17) (tg := 49) (by decide +kernel) (by decide +kernel)).trans ?_
    refine ite_congr rfl (fun _ => ?_) (fun _ => ?_)
    · refine (X_iconst (m := 197) (pc := 49) (n := 0) (by decide +kernel) ).trans ?_
      refine (X_call_st (m := 197) (pc := 50) (q := 204) (y := 156) (n := 1) (as := [a_i (0)]) (rest := [a_i (x3)]) (by decide +kernel) (by decide +kernel) (by decide +kernel) (by decide +kernel) rfl rfl (Nat.le_of_ble_eq_true rfl) (Nat.le_of_ble_eq_true rfl) rfl (by rw [show m_maxL 156 = 1 from by decide +kernel]; exact Nat.le_of_ble_eq_true rfl)).trans ?_
      exact if_pos rfl
    · refine (X_aload_n (m := 197) (pc := 35) (n := 0) (by decide +kernel) rfl).trans ?_
      refine (X_iload (m := 197) (pc := 36) (n := 4) (by decide +kernel) rfl).trans ?_
      refine (X_iload_n (m := 197) (pc := 38) (n := 2) (by decide +kernel) rfl).trans ?_
      refine (X_call_vi (m := 197) (pc := 39) (q := 200) (y := 196) (n := 3) (as := [a_r (r0), a_i (x4), a_i (x2)]) (rest := [a_i (x3)]) (by decide +kernel) (by decide +kernel) (by decide +kernel) (by decide +kernel) rfl rfl (Nat.le_of_ble_eq_true rfl) (Nat.le_of_ble_eq_true rfl) rfl (by rw [show m_maxL 196 = 3 from by decide +kernel]; exact Nat.le_of_ble_eq_true rfl)).trans ?_
      exact ite_congr (by simp [a_rcv, show m_recv 196 = 11 from by decide +kernel]) (fun _ => rfl) (fun _ => rfl)
theorem B_X11_airAt_53 {k : Nat → Nat × Nat} {u : Nat → Nat → Int} {g : Nat → Nat → Nat} {t : Nat × Nat × Nat} {r0 : Nat} {x1 : Int} {x2 : Int} {x3 : Int} {x4 : Int} {y0 : Int} {y1 : Int} : a_X 197 53 [a_r (r0), a_i (x1), a_i (x2), a_i (x3), a_i (x4)] [a_i (y1), a_i (y0)] (k, u, g, t) = a_X 197 17 [a_r (r0), a_i (x1), a_i (x2), a_i (wr (y0 + y1)), a_i (wr (x4 + 1))] [] (k, u, g, t) := by
  refine (X_iadd (m := 197) (pc := 53)  (by decide +kernel) ).trans ?_
  refine (X_istore_n (m := 197) (pc := 54) (n := 3) (by decide +kernel) rfl (Nat.le_of_ble_eq_true rfl) rfl).trans ?_
  refine (X_iinc (m := 197) (pc := 55) (n := 4) (c := 1) (by decide +kernel) rfl rfl (Nat.le_of_ble_eq_true rfl) rfl).trans ?_
  refine (X_goto (m := 197) (pc := 58) (off := -41) (tg := 17) (by decide +kernel) (by decide +kernel)).trans ?_
  rfl
theorem B_X11_airAt_42 {k : Nat → Nat × Nat} {u : Nat → Nat → Int} {g : Nat → Nat → Nat} {t : Nat × Nat × Nat} {r0 : Nat} {x1 : Int} {x2 : Int} {x3 : Int} {x4 : Int} {y0 : Int} {y1 : Int} : a_X 197 42 [a_r (r0), a_i (x1), a_i (x2), a_i (x3), a_i (x4)] [a_i (y1), a_i (y0)] (k, u, g, t) = if (y1 : Int) = 0 then (a_m 156 [a_i (0)] (k, u, g, t)).bind (a_back 197 50 3 [a_r (r0), a_i (x1), a_i (x2), a_i (x3), a_i (x4)] [a_i (y0)]) else (a_m 156 [a_i (1)] (k, u, g, t)).bind (a_back 197 50 3 [a_r (r0), a_i (x1), a_i (x2), a_i (x3), a_i (x4)] [a_i (y0)]) := by
  refine (X_if_eq (m := 197) (pc := 42) (off := 7) (tg := 49) (by decide +kernel) (by decide +kernel)).trans ?_
  refine ite_congr rfl (fun _ => ?_) (fun _ => ?_)
  · refine (X_iconst (m := 197) (pc := 49) (n := 0) (by decide +kernel) ).trans ?_
    refine (X_call_st (m := 197) (pc := 50) (q := 204) (y := 156) (n := 1) (as := [a_i (0)]) (rest := [a_i (y0)]) (by decide +kernel) (by decide +kernel) (by decide +kernel) (by decide +kernel) rfl rfl (Nat.le_of_ble_eq_true rfl) (Nat.le_of_ble_eq_true rfl) rfl (by rw [show m_maxL 156 = 1 from by decide +kernel]; exact Nat.le_of_ble_eq_true rfl)).trans ?_
    exact if_pos rfl
  · refine (X_iconst (m := 197) (pc := 45) (n := 1) (by decide +kernel) ).trans ?_
    refine (X_goto (m := 197) (pc := 46) (off := 4) (tg := 50) (by decide +kernel) (by decide +kernel)).trans ?_
    refine (X_call_st (m := 197) (pc := 50) (q := 204) (y := 156) (n := 1) (as := [a_i (1)]) (rest := [a_i (y0)]) (by decide +kernel) (by decide +kernel) (by decide +kernel) (by decide +kernel) rfl rfl (Nat.le_of_ble_eq_true rfl) (Nat.le_of_ble_eq_true rfl) rfl (by rw [show m_maxL 156 = 1 from by decide +kernel]; exact Nat.le_of_ble_eq_true rfl)).trans ?_
    exact if_pos rfl
theorem E_X11_stillTo {σ : AS} {r0 : Nat} {x1 : Int} : a_m 198 [a_r (r0), a_i (x1)] σ = a_X 198 0 [a_r (r0), a_i (x1), a_x false, a_x false] [] σ := a_m_eq (by rw [a_entry, show m_maxL 198 = 4 from by decide +kernel]; rfl)
theorem B_X11_stillTo_0 {k : Nat → Nat × Nat} {u : Nat → Nat → Int} {g : Nat → Nat → Nat} {t : Nat × Nat × Nat} {r0 : Nat} {x1 : Int} {v2 : AV} {v3 : AV} : a_X 198 0 [a_r (r0), a_i (x1), v2, v3] [] (k, u, g, t) = a_X 198 4 [a_r (r0), a_i (x1), a_i (0), a_i (0)] [] (k, u, g, t) := by
  refine (X_iconst (m := 198) (pc := 0) (n := 0) (by decide +kernel) ).trans ?_
  refine (X_istore_n (m := 198) (pc := 1) (n := 2) (by decide +kernel) rfl (Nat.le_of_ble_eq_true rfl) rfl).trans ?_
  refine (X_iconst (m := 198) (pc := 2) (n := 0) (by decide +kernel) ).trans ?_
  refine (X_istore_n (m := 198) (pc := 3) (n := 3) (by decide +kernel) rfl (Nat.le_of_ble_eq_true rfl) rfl).trans ?_
  rfl
theorem B_X11_stillTo_4 {k : Nat → Nat × Nat} {u : Nat → Nat → Int} {g : Nat → Nat → Nat} {t : Nat × Nat × Nat} {r0 : Nat} {x1 : Int} {x2 : Int} {x3 : Int} : a_X 198 4 [a_r (r0), a_i (x1), a_i (x2), a_i (x3)] [] (k, u, g, t) = if (k r0).1 = 11 then if ((k (g r0 2)).1 = 20 ∨ (k (g r0 2)).1 = 24) ∧ 0 ≤ (3 : Int) ∧ (3 : Int) < ((k (g r0 2)).2 : Int) then if (x3 : Int) ≥ (u (g r0 2) (3 : Int).toNat : Int) then some (.inl (some (a_i (x2))), (k, u, g, t)) else if (k r0).1 = 11 then (a_m 169 [a_r (r0), a_i (x1), a_i (wr (5 + x3))] (k, u, g, t)).bind (a_back 198 20 3 [a_r (r0), a_i (x1), a_i (x2), a_i (x3)] [a_i (x2)]) else none else none else none := by
  refine (X_iload_n (m := 198) (pc := 4) (n := 3) (by decide +kernel) rfl).trans ?_
  refine (X_aload_n (m := 198) (pc := 5) (n := 0) (by decide +kernel) rfl).trans ?_
  refine (X_getR (m := 198) (pc := 6) (n := 7) (c := 11) (q := 2) (fi := true) (by decide +kernel) (by decide +kernel)).trans ?_
  refine ite_congr rfl (fun _ => ?_) (fun _ => rfl)
  refine (X_iconst (m := 198) (pc := 9) (n := 3) (by decide +kernel) ).trans ?_
  refine (X_iaload (m := 198) (pc := 10)  (by decide +kernel) ).trans ?_
  refine ite_congr rfl (fun _ => ?_) (fun _ => rfl)
  refine (X_ic_ge (m := 198) (pc := 11) (off := 39) (tg := 50) (by decide +kernel) (by decide +kernel)).trans ?_
  refine ite_congr rfl (fun _ => ?_) (fun _ => ?_)
  · refine (X_iload_n (m := 198) (pc := 50) (n := 2) (by decide +kernel) rfl).trans ?_
    exact X_ireturn (m := 198) (pc := 51) (f := 1) (by decide +kernel) (by decide +kernel) rfl
  · refine (X_iload_n (m := 198) (pc := 14) (n := 2) (by decide +kernel) rfl).trans ?_
    refine (X_aload_n (m := 198) (pc := 15) (n := 0) (by decide +kernel) rfl).trans ?_
    refine (X_iload_n (m := 198) (pc := 16) (n := 1) (by decide +kernel) rfl).trans ?_
    refine (X_iconst (m := 198) (pc := 17) (n := 5) (by decide +kernel) ).trans ?_
    refine (X_iload_n (m := 198) (pc := 18) (n := 3) (by decide +kernel) rfl).trans ?_
    refine (X_iadd (m := 198) (pc := 19)  (by decide +kernel) ).trans ?_
    refine (X_call_vi (m := 198) (pc := 20) (q := 181) (y := 169) (n := 3) (as := [a_r (r0), a_i (x1), a_i (wr (5 + x3))]) (rest := [a_i (x2)]) (by decide +kernel) (by decide +kernel) (by decide +kernel) (by decide +kernel) rfl rfl (Nat.le_of_ble_eq_true rfl) (Nat.le_of_ble_eq_true rfl) rfl (by rw [show m_maxL 169 = 3 from by decide +kernel]; exact Nat.le_of_ble_eq_true rfl)).trans ?_
    exact ite_congr (by simp [a_rcv, show m_recv 169 = 11 from by decide +kernel]) (fun _ => rfl) (fun _ => rfl)
theorem B_X11_stillTo_23 {k : Nat → Nat × Nat} {u : Nat → Nat → Int} {g : Nat → Nat → Nat} {t : Nat × Nat × Nat} {r0 : Nat} {x1 : Int} {x2 : Int} {x3 : Int} {y0 : Int} {y1 : Int} : a_X 198 23 [a_r (r0), a_i (x1), a_i (x2), a_i (x3)] [a_i (y1), a_i (y0)] (k, u, g, t) = if (k r0).1 = 11 then if ((k (g r0 2)).1 = 20 ∨ (k (g r0 2)).1 = 24) ∧ 0 ≤ (1 : Int) ∧ (1 : Int) < ((k (g r0 2)).2 : Int) then if (y1 : Int) ≤ (u (g r0 2) (1 : Int).toNat : Int) then (a_m 156 [a_i (0)] (k, u, g, t)).bind (a_back 198 37 3 [a_r (r0), a_i (x1), a_i (x2), a_i (x3)] [a_i (y0)]) else (a_m 156 [a_i (1)] (k, u, g, t)).bind (a_back 198 37 3 [a_r (r0), a_i (x1), a_i (x2), a_i (x3)] [a_i (y0)]) else none else none := by
  refine (X_aload_n (m := 198) (pc := 23) (n := 0) (by decide +kernel) rfl).trans ?_
  refine (X_getR (m := 198) (pc := 24) (n := 7) (c := 11) (q := 2) (fi := true) (by decide +kernel) (by decide +kernel)).trans ?_
  refine ite_congr rfl (fun _ => ?_) (fun _ => rfl)
  refine (X_iconst (m := 198) (pc := 27) (n := 1) (by decide +kernel) ).trans ?_
  refine (X_iaload (m := 198) (pc := 28)  (by decide +kernel) ).trans ?_
  refine ite_congr rfl (fun _ => ?_) (fun _ => rfl)
  refine (X_ic_le (m := 198) (pc := 29) (off := 7) (tg := 36) (by decide +kernel) (by decide +kernel)).trans ?_
  refine ite_congr rfl (fun _ => ?_) (fun _ => ?_)
  · refine (X_iconst (m := 198) (pc := 36) (n := 0) (by decide +kernel) ).trans ?_
    refine (X_call_st (m := 198) (pc := 37) (q := 204) (y := 156) (n := 1) (as := [a_i (0)]) (rest := [a_i (y0)]) (by decide +kernel) (by decide +kernel) (by decide +kernel) (by decide +kernel) rfl rfl (Nat.le_of_ble_eq_true rfl) (Nat.le_of_ble_eq_true rfl) rfl (by rw [show m_maxL 156 = 1 from by decide +kernel]; exact Nat.le_of_ble_eq_true rfl)).trans ?_
    exact if_pos rfl
  · refine (X_iconst (m := 198) (pc := 32) (n := 1) (by decide +kernel) ).trans ?_
    refine (X_goto (m := 198) (pc := 33) (off := 4) (tg := 37) (by decide +kernel) (by decide +kernel)).trans ?_
    refine (X_call_st (m := 198) (pc := 37) (q := 204) (y := 156) (n := 1) (as := [a_i (1)]) (rest := [a_i (y0)]) (by decide +kernel) (by decide +kernel) (by decide +kernel) (by decide +kernel) rfl rfl (Nat.le_of_ble_eq_true rfl) (Nat.le_of_ble_eq_true rfl) rfl (by rw [show m_maxL 156 = 1 from by decide +kernel]; exact Nat.le_of_ble_eq_true rfl)).trans ?_
    exact if_pos rfl
theorem B_X11_stillTo_40 {k : Nat → Nat × Nat} {u : Nat → Nat → Int} {g : Nat → Nat → Nat} {t : Nat × Nat × Nat} {r0 : Nat} {x1 : Int} {x2 : Int} {x3 : Int} {y0 : Int} {y1 : Int} : a_X 198 40 [a_r (r0), a_i (x1), a_i (x2), a_i (x3)] [a_i (y1), a_i (y0)] (k, u, g, t) = a_X 198 4 [a_r (r0), a_i (x1), a_i (zor (y0) (zshl (y1) (x3))), a_i (wr (x3 + 1))] [] (k, u, g, t) := by
  refine (X_iload_n (m := 198) (pc := 40) (n := 3) (by decide +kernel) rfl).trans ?_
  refine (X_ishl (m := 198) (pc := 41)  (by decide +kernel) ).trans ?_
  refine (X_ior (m := 198) (pc := 42)  (by decide +kernel) ).trans ?_
  refine (X_istore_n (m := 198) (pc := 43) (n := 2) (by decide +kernel) rfl (Nat.le_of_ble_eq_true rfl) rfl).trans ?_
  refine (X_iinc (m := 198) (pc := 44) (n := 3) (c := 1) (by decide +kernel) rfl rfl (Nat.le_of_ble_eq_true rfl) rfl).trans ?_
  refine (X_goto (m := 198) (pc := 47) (off := -43) (tg := 4) (by decide +kernel) (by decide +kernel)).trans ?_
  rfl
theorem E_X11_clears {σ : AS} {r0 : Nat} : a_m 199 [a_r (r0)] σ = a_X 199 0 [a_r (r0), a_x false, a_x false] [] σ := a_m_eq (by rw [a_entry, show m_maxL 199 = 3 from by decide +kernel]; rfl)
theorem B_X11_clears_0 {k : Nat → Nat × Nat} {u : Nat → Nat → Int} {g : Nat → Nat → Nat} {t : Nat × Nat × Nat} {r0 : Nat} {v1 : AV} {v2 : AV} : a_X 199 0 [a_r (r0), v1, v2] [] (k, u, g, t) = if (k r0).1 = 11 then if ((k (g r0 2)).1 = 20 ∨ (k (g r0 2)).1 = 24) ∧ 0 ≤ (4 : Int) ∧ (4 : Int) < ((k (g r0 2)).2 : Int) then a_X 199 9 [a_r (r0), a_i (wr ((u (g r0 2) (4 : Int).toNat) - 1)), v2] [] (k, u, g, t) else none else none := by
  refine (X_aload_n (m := 199) (pc := 0) (n := 0) (by decide +kernel) rfl).trans ?_
  refine (X_getR (m := 199) (pc := 1) (n := 7) (c := 11) (q := 2) (fi := true) (by decide +kernel) (by decide +kernel)).trans ?_
  refine ite_congr rfl (fun _ => ?_) (fun _ => rfl)
  refine (X_iconst (m := 199) (pc := 4) (n := 4) (by decide +kernel) ).trans ?_
  refine (X_iaload (m := 199) (pc := 5)  (by decide +kernel) ).trans ?_
  refine ite_congr rfl (fun _ => ?_) (fun _ => rfl)
  refine (X_iconst (m := 199) (pc := 6) (n := 1) (by decide +kernel) ).trans ?_
  refine (X_isub (m := 199) (pc := 7)  (by decide +kernel) ).trans ?_
  refine (X_istore_n (m := 199) (pc := 8) (n := 1) (by decide +kernel) rfl (Nat.le_of_ble_eq_true rfl) rfl).trans ?_
  rfl
theorem B_X11_clears_9 {k : Nat → Nat × Nat} {u : Nat → Nat → Int} {g : Nat → Nat → Nat} {t : Nat × Nat × Nat} {r0 : Nat} {x1 : Int} {v2 : AV} : a_X 199 9 [a_r (r0), a_i (x1), v2] [] (k, u, g, t) = if (x1 : Int) < 0 then some (.inl none, (k, u, g, t)) else if (k r0).1 = 11 then (a_m 198 [a_r (r0), a_i (x1)] (k, u, g, t)).bind (a_back 199 15 3 [a_r (r0), a_i (x1), v2] []) else none := by
  refine (X_iload_n (m := 199) (pc := 9) (n := 1) (by decide +kernel) rfl).trans ?_
  refine (X_if_lt (m := 199) (pc := 10) (off := 79) (tg := 89) (by decide +kernel) (by decide +kernel)).trans ?_
  refine ite_congr rfl (fun _ => ?_) (fun _ => ?_)
  · exact X_return (m := 199) (pc := 89) (by decide +kernel) (by decide +kernel)
  · refine (X_aload_n (m := 199) (pc := 13) (n := 0) (by decide +kernel) rfl).trans ?_
    refine (X_iload_n (m := 199) (pc := 14) (n := 1) (by decide +kernel) rfl).trans ?_
    refine (X_call_vi (m := 199) (pc := 15) (q := 208) (y := 198) (n := 2) (as := [a_r (r0), a_i (x1)]) (rest := []) (by decide +kernel) (by decide +kernel) (by decide +kernel) (by decide +kernel) rfl rfl (Nat.le_of_ble_eq_true rfl) (Nat.le_of_ble_eq_true rfl) rfl (by rw [show m_maxL 198 = 4 from by decide +kernel]; exact Nat.le_of_ble_eq_true rfl)).trans ?_
    exact ite_congr (by simp [a_rcv, show m_recv 198 = 11 from by decide +kernel]) (fun _ => rfl) (fun _ => rfl)
theorem B_X11_clears_18 {k : Nat → Nat × Nat} {u : Nat → Nat → Int} {g : Nat → Nat → Nat} {t : Nat × Nat × Nat} {r0 : Nat} {x1 : Int} {v2 : AV} {y0 : Int} : a_X 199 18 [a_r (r0), a_i (x1), v2] [a_i (y0)] (k, u, g, t) = if (y0 : Int) = 0 then a_X 199 33 [a_r (r0), a_i (x1), a_i (wr (1150 + (wr (71 * x1))))] [] (k, u, g, t) else a_X 199 9 [a_r (r0), a_i (wr (x1 + (-1))), v2] [] (k, u, g, t) := by
  refine (X_if_eq (m := 199) (pc := 18) (off := 6) (tg := 24) (by decide +kernel) (by decide +kernel)).trans ?_
  refine ite_congr rfl (fun _ => ?_) (fun _ => ?_)
  · refine (X_sipush (m := 199) (pc := 24) (n := 1150) (by decide +kernel) ).trans ?_
    refine (X_bipush (m := 199) (pc := 27) (n := 71) (by decide +kernel) ).trans ?_
    refine (X_iload_n (m := 199) (pc := 29) (n := 1) (by decide +kernel) rfl).trans ?_
    refine (X_imul (m := 199) (pc := 30)  (by decide +kernel) ).trans ?_
    refine (X_iadd (m := 199) (pc := 31)  (by decide +kernel) ).trans ?_
    refine (X_istore_n (m := 199) (pc := 32) (n := 2) (by decide +kernel) rfl (Nat.le_of_ble_eq_true rfl) rfl).trans ?_
    rfl
  · refine (X_goto (m := 199) (pc := 21) (off := 62) (tg := 83) (by decide +kernel) (by decide +kernel)).trans ?_
    refine (X_iinc (m := 199) (pc := 83) (n := 1) (c := -1) (by decide +kernel) rfl rfl (Nat.le_of_ble_eq_true rfl) rfl).trans ?_
    refine (X_goto (m := 199) (pc := 86) (off := -77) (tg := 9) (by decide +kernel) (by decide +kernel)).trans ?_
    rfl
theorem B_X11_clears_33 {k : Nat → Nat × Nat} {u : Nat → Nat → Int} {g : Nat → Nat → Nat} {t : Nat × Nat × Nat} {r0 : Nat} {x1 : Int} {x2 : Int} : a_X 199 33 [a_r (r0), a_i (x1), a_i (x2)] [] (k, u, g, t) = if (k r0).1 = 11 then if ((k (g r0 2)).1 = 20 ∨ (k (g r0 2)).1 = 24) ∧ 0 ≤ (4 : Int) ∧ (4 : Int) < ((k (g r0 2)).2 : Int) then if (x2 : Int) ≥ (wr (1150 + (wr (71 * (wr ((u (g r0 2) (4 : Int).toNat) - 1))))) : Int) then if (k r0).1 = 11 then if ((k (g r0 2)).1 = 20 ∨ (k (g r0 2)).1 = 24) ∧ 0 ≤ (4 : Int) ∧ (4 : Int) < ((k (g r0 2)).2 : Int) then if (k (g r0 2)).1 = 20 ∧ 0 ≤ (4 : Int) ∧ (4 : Int) < ((k (g r0 2)).2 : Int) then a_X 199 9 [a_r (r0), a_i (wr (x1 + (-1))), a_i (x2)] [] (k, (upm u (g r0 2) (4 : Int).toNat (wr ((u (g r0 2) (4 : Int).toNat) - 1))), g, t) else none else none else none else if (k r0).1 = 11 then if (k r0).1 = 11 then if ((k (g r0 2)).1 = 20 ∨ (k (g r0 2)).1 = 24) ∧ 0 ≤ (wr (x2 + 71) : Int) ∧ (wr (x2 + 71) : Int) < ((k (g r0 2)).2 : Int) then if (k (g r0 2)).1 = 20 ∧ 0 ≤ (x2 : Int) ∧ (x2 : Int) < ((k (g r0 2)).2 : Int) then a_X 199 33 [a_r (r0), a_i (x1), a_i (wr (x2 + 1))] [] (k, (upm u (g r0 2) (x2 : Int).toNat (u (g r0 2) (wr (x2 + 71) : Int).toNat)), g, t) else none else none else none else none else none else none := by
  refine (X_iload_n (m := 199) (pc := 33) (n := 2) (by decide +kernel) rfl).trans ?_
  refine (X_sipush (m := 199) (pc := 34) (n := 1150) (by decide +kernel) ).trans ?_
  refine (X_bipush (m := 199) (pc := 37) (n := 71) (by decide +kernel) ).trans ?_
  refine (X_aload_n (m := 199) (pc := 39) (n := 0) (by decide +kernel) rfl).trans ?_
  refine (X_getR (m := 199) (pc := 40) (n := 7) (c := 11) (q := 2) (fi := true) (by decide +kernel) (by decide +kernel)).trans ?_
  refine ite_congr rfl (fun _ => ?_) (fun _ => rfl)
  refine (X_iconst (m := 199) (pc := 43) (n := 4) (by decide +kernel) ).trans ?_
  refine (X_iaload (m := 199) (pc := 44)  (by decide +kernel) ).trans ?_
  refine ite_congr rfl (fun _ => ?_) (fun _ => rfl)
  refine (X_iconst (m := 199) (pc := 45) (n := 1) (by decide +kernel) ).trans ?_
  refine (X_isub (m := 199) (pc := 46)  (by decide +kernel) ).trans ?_
  refine (X_imul (m := 199) (pc := 47)  (by decide +kernel) ).trans ?_
  refine (X_iadd (m := 199) (pc := 48)  (by decide +kernel) ).trans ?_
  refine (X_ic_ge (m := 199) (pc := 49) (off := 24) (tg := 73) (by decide +kernel) (by decide +kernel)).trans ?_
  refine ite_congr rfl (fun _ => ?_) (fun _ => ?_)
  · refine (X_aload_n (m := 199) (pc := 73) (n := 0) (by decide +kernel) rfl).trans ?_
    refine (X_getR (m := 199) (pc := 74) (n := 7) (c := 11) (q := 2) (fi := true) (by decide +kernel) (by decide +kernel)).trans ?_
    refine ite_congr rfl (fun _ => ?_) (fun _ => rfl)
    refine (X_iconst (m := 199) (pc := 77) (n := 4) (by decide +kernel) ).trans ?_
    refine (X_dup2 (m := 199) (pc := 78)  (by decide +kernel) rfl rfl rfl rfl).trans ?_
    refine (X_iaload (m := 199) (pc := 79)  (by decide +kernel) ).trans ?_
    refine ite_congr rfl (fun _ => ?_) (fun _ => rfl)
    refine (X_iconst (m := 199) (pc := 80) (n := 1) (by decide +kernel) ).trans ?_
    refine (X_isub (m := 199) (pc := 81)  (by decide +kernel) ).trans ?_
    refine (X_iastore (m := 199) (pc := 82)  (by decide +kernel) ).trans ?_
    refine ite_congr rfl (fun _ => ?_) (fun _ => rfl)
    refine (X_iinc (m := 199) (pc := 83) (n := 1) (c := -1) (by decide +kernel) rfl rfl (Nat.le_of_ble_eq_true rfl) rfl).trans ?_
    refine (X_goto (m := 199) (pc := 86) (off := -77) (tg := 9) (by decide +kernel) (by decide +kernel)).trans ?_
    rfl
  · refine (X_aload_n (m := 199) (pc := 52) (n := 0) (by decide +kernel) rfl).trans ?_
    refine (X_getR (m := 199) (pc := 53) (n := 7) (c := 11) (q := 2) (fi := true) (by decide +kernel) (by decide +kernel)).trans ?_
    refine ite_congr rfl (fun _ => ?_) (fun _ => rfl)
    refine (X_iload_n (m := 199) (pc := 56) (n := 2) (by decide +kernel) rfl).trans ?_
    refine (X_aload_n (m := 199) (pc := 57) (n := 0) (by decide +kernel) rfl).trans ?_
    refine (X_getR (m := 199) (pc := 58) (n := 7) (c := 11) (q := 2) (fi := true) (by decide +kernel) (by decide +kernel)).trans ?_
    refine ite_congr rfl (fun _ => ?_) (fun _ => rfl)
    refine (X_iload_n (m := 199) (pc := 61) (n := 2) (by decide +kernel) rfl).trans ?_
    refine (X_bipush (m := 199) (pc := 62) (n := 71) (by decide +kernel) ).trans ?_
    refine (X_iadd (m := 199) (pc := 64)  (by decide +kernel) ).trans ?_
    refine (X_iaload (m := 199) (pc := 65)  (by decide +kernel) ).trans ?_
    refine ite_congr rfl (fun _ => ?_) (fun _ => rfl)
    refine (X_iastore (m := 199) (pc := 66)  (by decide +kernel) ).trans ?_
    refine ite_congr rfl (fun _ => ?_) (fun _ => rfl)
    refine (X_iinc (m := 199) (pc := 67) (n := 2) (c := 1) (by decide +kernel) rfl rfl (Nat.le_of_ble_eq_true rfl) rfl).trans ?_
    refine (X_goto (m := 199) (pc := 70) (off := -37) (tg := 33) (by decide +kernel) (by decide +kernel)).trans ?_
    rfl
theorem E_X11_isOff {σ : AS} {r0 : Nat} {x1 : Int} {x2 : Int} : a_m 200 [a_r (r0), a_i (x1), a_i (x2)] σ = a_X 200 0 [a_r (r0), a_i (x1), a_i (x2), a_x false, a_x false] [] σ := a_m_eq (by rw [a_entry, show m_maxL 200 = 5 from by decide +kernel]; rfl)
theorem B_X11_isOff_0 {k : Nat → Nat × Nat} {u : Nat → Nat → Int} {g : Nat → Nat → Nat} {t : Nat × Nat × Nat} {r0 : Nat} {x1 : Int} {x2 : Int} {v3 : AV} {v4 : AV} : a_X 200 0 [a_r (r0), a_i (x1), a_i (x2), v3, v4] [] (k, u, g, t) = a_X 200 5 [a_r (r0), a_i (x1), a_i (x2), a_i (0), a_i (0)] [] (k, u, g, t) := by
  refine (X_iconst (m := 200) (pc := 0) (n := 0) (by decide +kernel) ).trans ?_
  refine (X_istore_n (m := 200) (pc := 1) (n := 3) (by decide +kernel) rfl (Nat.le_of_ble_eq_true rfl) rfl).trans ?_
  refine (X_iconst (m := 200) (pc := 2) (n := 0) (by decide +kernel) ).trans ?_
  refine (X_istore (m := 200) (pc := 3) (n := 4) (by decide +kernel) rfl (Nat.le_of_ble_eq_true rfl) rfl).trans ?_
  rfl
theorem B_X11_isOff_5 {k : Nat → Nat × Nat} {u : Nat → Nat → Int} {g : Nat → Nat → Nat} {t : Nat × Nat × Nat} {r0 : Nat} {x1 : Int} {x2 : Int} {x3 : Int} {x4 : Int} : a_X 200 5 [a_r (r0), a_i (x1), a_i (x2), a_i (x3), a_i (x4)] [] (k, u, g, t) = if (k r0).1 = 11 then (a_m 166 [a_r (r0), a_i (x1), a_i (1)] (k, u, g, t)).bind (a_back 200 10 3 [a_r (r0), a_i (x1), a_i (x2), a_i (x3), a_i (x4)] [a_i (x4)]) else none := by
  refine (X_iload (m := 200) (pc := 5) (n := 4) (by decide +kernel) rfl).trans ?_
  refine (X_aload_n (m := 200) (pc := 7) (n := 0) (by decide +kernel) rfl).trans ?_
  refine (X_iload_n (m := 200) (pc := 8) (n := 1) (by decide +kernel) rfl).trans ?_
  refine (X_iconst (m := 200) (pc := 9) (n := 1) (by decide +kernel) ).trans ?_
  refine (X_call_vi (m := 200) (pc := 10) (q := 79) (y := 166) (n := 3) (as := [a_r (r0), a_i (x1), a_i (1)]) (rest := [a_i (x4)]) (by decide +kernel) (by decide +kernel) (by decide +kernel) (by decide +kernel) rfl rfl (Nat.le_of_ble_eq_true rfl) (Nat.le_of_ble_eq_true rfl) rfl (by rw [show m_maxL 166 = 3 from by decide +kernel]; exact Nat.le_of_ble_eq_true rfl)).trans ?_
  exact ite_congr (by simp [a_rcv, show m_recv 166 = 11 from by decide +kernel]) (fun _ => rfl) (fun _ => rfl)
theorem B_X11_isOff_13 {k : Nat → Nat × Nat} {u : Nat → Nat → Int} {g : Nat → Nat → Nat} {t : Nat × Nat × Nat} {r0 : Nat} {x1 : Int} {x2 : Int} {x3 : Int} {x4 : Int} {y0 : Int} {y1 : Int} : a_X 200 13 [a_r (r0), a_i (x1), a_i (x2), a_i (x3), a_i (x4)] [a_i (y1), a_i (y0)] (k, u, g, t) = if (y0 : Int) ≥ (y1 : Int) then if a_fit 2 (x3) = true then some (.inl (some (a_i (x3))), (k, u, g, t)) else none else if (x3 : Int) ≠ 0 then a_X 200 5 [a_r (r0), a_i (x1), a_i (x2), a_i (1), a_i (wr (x4 + 1))] [] (k, u, g, t) else if (k r0).1 = 11 then (a_m 166 [a_r (r0), a_i (x1), a_i (wr (2 + (wr (2 * x4))))] (k, u, g, t)).bind (a_back 200 30 3 [a_r (r0), a_i (x1), a_i (x2), a_i (x3), a_i (x4)] [a_l (x2)]) else none := by
  refine (X_ic_ge (m := 200) (pc := 13) (off := 53) (tg := 66) (by decide +kernel) (by decide +kernel)).trans ?_
  refine ite_congr rfl (fun _ => ?_) (fun _ => ?_)
  · refine (X_iload_n (m := 200) (pc := 66) (n := 3) (by decide +kernel) rfl).trans ?_
    exact X_ireturnF (m := 200) (pc := 67) (f := 2) (by decide +kernel) (by decide +kernel)
  · refine (X_iload_n (m := 200) (pc := 16) (n := 3) (by decide +kernel) rfl).trans ?_
    refine (X_if_ne (m := 200) (pc := 17) (off := 37) (tg := 54) (by decide +kernel) (by decide +kernel)).trans ?_
    refine ite_congr rfl (fun _ => ?_) (fun _ => ?_)
    · refine (X_iconst (m := 200) (pc := 54) (n := 1) (by decide +kernel) ).trans ?_
      refine (X_goto (m := 200) (pc := 55) (off := 4) (tg := 59) (by decide +kernel) (by decide +kernel)).trans ?_
      refine (X_istore_n (m := 200) (pc := 59) (n := 3) (by decide +kernel) rfl (Nat.le_of_ble_eq_true rfl) rfl).trans ?_
      refine (X_iinc (m := 200) (pc := 60) (n := 4) (c := 1) (by decide +kernel) rfl rfl (Nat.le_of_ble_eq_true rfl) rfl).trans ?_
      refine (X_goto (m := 200) (pc := 63) (off := -58) (tg := 5) (by decide +kernel) (by decide +kernel)).trans ?_
      rfl
    · refine (X_iload_n (m := 200) (pc := 20) (n := 2) (by decide +kernel) rfl).trans ?_
      refine (X_i2l (m := 200) (pc := 21)  (by decide +kernel) ).trans ?_
      refine (X_aload_n (m := 200) (pc := 22) (n := 0) (by decide +kernel) rfl).trans ?_
      refine (X_iload_n (m := 200) (pc := 23) (n := 1) (by decide +kernel) rfl).trans ?_
      refine (X_iconst (m := 200) (pc := 24) (n := 2) (by decide +kernel) ).trans ?_
      refine (X_iconst (m := 200) (pc := 25) (n := 2) (by decide +kernel) ).trans ?_
      refine (X_iload (m := 200) (pc := 26) (n := 4) (by decide +kernel) rfl).trans ?_
      refine (X_imul (m := 200) (pc := 28)  (by decide +kernel) ).trans ?_
      refine (X_iadd (m := 200) (pc := 29)  (by decide +kernel) ).trans ?_
      refine (X_call_vi (m := 200) (pc := 30) (q := 79) (y := 166) (n := 3) (as := [a_r (r0), a_i (x1), a_i (wr (2 + (wr (2 * x4))))]) (rest := [a_l (x2)]) (by decide +kernel) (by decide +kernel) (by decide +kernel) (by decide +kernel) rfl rfl (Nat.le_of_ble_eq_true rfl) (Nat.le_of_ble_eq_true rfl) rfl (by rw [show m_maxL 166 = 3 from by decide +kernel]; exact Nat.le_of_ble_eq_true rfl)).trans ?_
      exact ite_congr (by simp [a_rcv, show m_recv 166 = 11 from by decide +kernel]) (fun _ => rfl) (fun _ => rfl)
theorem B_X11_isOff_33 {k : Nat → Nat × Nat} {u : Nat → Nat → Int} {g : Nat → Nat → Nat} {t : Nat × Nat × Nat} {r0 : Nat} {x1 : Int} {x2 : Int} {x3 : Int} {x4 : Int} {w0 : Int} {y1 : Int} : a_X 200 33 [a_r (r0), a_i (x1), a_i (x2), a_i (x3), a_i (x4)] [a_i (y1), a_l (w0)] (k, u, g, t) = if (k r0).1 = 11 then (a_m 166 [a_r (r0), a_i (x1), a_i (wr ((wr (2 + (wr (2 * x4)))) + 1))] (k, u, g, t)).bind (a_back 200 44 3 [a_r (r0), a_i (x1), a_i (x2), a_i (x3), a_i (x4)] [a_l (y1), a_l (w0)]) else none := by
  refine (X_i2l (m := 200) (pc := 33)  (by decide +kernel) ).trans ?_
  refine (X_aload_n (m := 200) (pc := 34) (n := 0) (by decide +kernel) rfl).trans ?_
  refine (X_iload_n (m := 200) (pc := 35) (n := 1) (by decide +kernel) rfl).trans ?_
  refine (X_iconst (m := 200) (pc := 36) (n := 2) (by decide +kernel) ).trans ?_
  refine (X_iconst (m := 200) (pc := 37) (n := 2) (by decide +kernel) ).trans ?_
  refine (X_iload (m := 200) (pc := 38) (n := 4) (by decide +kernel) rfl).trans ?_
  refine (X_imul (m := 200) (pc := 40)  (by decide +kernel) ).trans ?_
  refine (X_iadd (m := 200) (pc := 41)  (by decide +kernel) ).trans ?_
  refine (X_iconst (m := 200) (pc := 42) (n := 1) (by decide +kernel) ).trans ?_
  refine (X_iadd (m := 200) (pc := 43)  (by decide +kernel) ).trans ?_
  refine (X_call_vi (m := 200) (pc := 44) (q := 79) (y := 166) (n := 3) (as := [a_r (r0), a_i (x1), a_i (wr ((wr (2 + (wr (2 * x4)))) + 1))]) (rest := [a_l (y1), a_l (w0)]) (by decide +kernel) (by decide +kernel) (by decide +kernel) (by decide +kernel) rfl rfl (Nat.le_of_ble_eq_true rfl) (Nat.le_of_ble_eq_true rfl) rfl (by rw [show m_maxL 166 = 3 from by decide +kernel]; exact Nat.le_of_ble_eq_true rfl)).trans ?_
  exact ite_congr (by simp [a_rcv, show m_recv 166 = 11 from by decide +kernel]) (fun _ => rfl) (fun _ => rfl)
theorem B_X11_isOff_47 {k : Nat → Nat × Nat} {u : Nat → Nat → Int} {g : Nat → Nat → Nat} {t : Nat × Nat × Nat} {r0 : Nat} {x1 : Int} {x2 : Int} {x3 : Int} {x4 : Int} {w0 : Int} {w1 : Int} {y2 : Int} : a_X 200 47 [a_r (r0), a_i (x1), a_i (x2), a_i (x3), a_i (x4)] [a_i (y2), a_l (w1), a_l (w0)] (k, u, g, t) = (a_m 155 [a_l (w0), a_l (w1), a_l (y2)] (k, u, g, t)).bind (a_back 200 48 3 [a_r (r0), a_i (x1), a_i (x2), a_i (x3), a_i (x4)] []) := by
  refine (X_i2l (m := 200) (pc := 47)  (by decide +kernel) ).trans ?_
  refine (X_call_st (m := 200) (pc := 48) (q := 61) (y := 155) (n := 3) (as := [a_l (w0), a_l (w1), a_l (y2)]) (rest := []) (by decide +kernel) (by decide +kernel) (by decide +kernel) (by decide +kernel) rfl rfl (Nat.le_of_ble_eq_true rfl) (Nat.le_of_ble_eq_true rfl) rfl (by rw [show m_maxL 155 = 6 from by decide +kernel]; exact Nat.le_of_ble_eq_true rfl)).trans ?_
  exact if_pos rfl
theorem B_X11_isOff_51 {k : Nat → Nat × Nat} {u : Nat → Nat → Int} {g : Nat → Nat → Nat} {t : Nat × Nat × Nat} {r0 : Nat} {x1 : Int} {x2 : Int} {x3 : Int} {x4 : Int} {y0 : Int} : a_X 200 51 [a_r (r0), a_i (x1), a_i (x2), a_i (x3), a_i (x4)] [a_i (y0)] (k, u, g, t) = if (y0 : Int) = 0 then a_X 200 5 [a_r (r0), a_i (x1), a_i (x2), a_i (0), a_i (wr (x4 + 1))] [] (k, u, g, t) else a_X 200 5 [a_r (r0), a_i (x1), a_i (x2), a_i (1), a_i (wr (x4 + 1))] [] (k, u, g, t) := by
  refine (X_if_eq (m := 200) (pc := 51) (off := 7) (tg := 58) (by decide +kernel) (by decide +kernel)).trans ?_
  refine ite_congr rfl (fun _ => ?_) (fun _ => ?_)
  · refine (X_iconst (m := 200) (pc := 58) (n := 0) (by decide +kernel) ).trans ?_
    refine (X_istore_n (m := 200) (pc := 59) (n := 3) (by decide +kernel) rfl (Nat.le_of_ble_eq_true rfl) rfl).trans ?_
    refine (X_iinc (m := 200) (pc := 60) (n := 4) (c := 1) (by decide +kernel) rfl rfl (Nat.le_of_ble_eq_true rfl) rfl).trans ?_
    refine (X_goto (m := 200) (pc := 63) (off := -58) (tg := 5) (by decide +kernel) (by decide +kernel)).trans ?_
    rfl
  · refine (X_iconst (m := 200) (pc := 54) (n := 1) (by decide +kernel) ).trans ?_
    refine (X_goto (m := 200) (pc := 55) (off := 4) (tg := 59) (by decide +kernel) (by decide +kernel)).trans ?_
    refine (X_istore_n (m := 200) (pc := 59) (n := 3) (by decide +kernel) rfl (Nat.le_of_ble_eq_true rfl) rfl).trans ?_
    refine (X_iinc (m := 200) (pc := 60) (n := 4) (c := 1) (by decide +kernel) rfl rfl (Nat.le_of_ble_eq_true rfl) rfl).trans ?_
    refine (X_goto (m := 200) (pc := 63) (off := -58) (tg := 5) (by decide +kernel) (by decide +kernel)).trans ?_
    rfl
theorem E_X11_hearsNumber {σ : AS} {r0 : Nat} {x1 : Int} {x2 : Int} : a_m 201 [a_r (r0), a_i (x1), a_i (x2)] σ = a_X 201 0 [a_r (r0), a_i (x1), a_i (x2)] [] σ := a_m_eq (by rw [a_entry, show m_maxL 201 = 3 from by decide +kernel]; rfl)
theorem B_X11_hearsNumber_0 {k : Nat → Nat × Nat} {u : Nat → Nat → Int} {g : Nat → Nat → Nat} {t : Nat × Nat × Nat} {r0 : Nat} {x1 : Int} {x2 : Int} : a_X 201 0 [a_r (r0), a_i (x1), a_i (x2)] [] (k, u, g, t) = if (k r0).1 = 11 then (a_m 166 [a_r (r0), a_i (x1), a_i (11)] (k, u, g, t)).bind (a_back 201 9 3 [a_r (r0), a_i (x1), a_i (x2)] [a_i (x2), a_i (11), a_i (x1), a_r (r0)]) else none := by
  refine (X_aload_n (m := 201) (pc := 0) (n := 0) (by decide +kernel) rfl).trans ?_
  refine (X_iload_n (m := 201) (pc := 1) (n := 1) (by decide +kernel) rfl).trans ?_
  refine (X_bipush (m := 201) (pc := 2) (n := 11) (by decide +kernel) ).trans ?_
  refine (X_iload_n (m := 201) (pc := 4) (n := 2) (by decide +kernel) rfl).trans ?_
  refine (X_aload_n (m := 201) (pc := 5) (n := 0) (by decide +kernel) rfl).trans ?_
  refine (X_iload_n (m := 201) (pc := 6) (n := 1) (by decide +kernel) rfl).trans ?_
  refine (X_bipush (m := 201) (pc := 7) (n := 11) (by decide +kernel) ).trans ?_
  refine (X_call_vi (m := 201) (pc := 9) (q := 79) (y := 166) (n := 3) (as := [a_r (r0), a_i (x1), a_i (11)]) (rest := [a_i (x2), a_i (11), a_i (x1), a_r (r0)]) (by decide +kernel) (by decide +kernel) (by decide +kernel) (by decide +kernel) rfl rfl (Nat.le_of_ble_eq_true rfl) (Nat.le_of_ble_eq_true rfl) rfl (by rw [show m_maxL 166 = 3 from by decide +kernel]; exact Nat.le_of_ble_eq_true rfl)).trans ?_
  exact ite_congr (by simp [a_rcv, show m_recv 166 = 11 from by decide +kernel]) (fun _ => rfl) (fun _ => rfl)
theorem B_X11_hearsNumber_12 {k : Nat → Nat × Nat} {u : Nat → Nat → Int} {g : Nat → Nat → Nat} {t : Nat × Nat × Nat} {r0 : Nat} {x1 : Int} {x2 : Int} {q0 : Nat} {y1 : Int} {y2 : Int} {y3 : Int} {y4 : Int} : a_X 201 12 [a_r (r0), a_i (x1), a_i (x2)] [a_i (y4), a_i (y3), a_i (y2), a_i (y1), a_r (q0)] (k, u, g, t) = if (k q0).1 = 11 then (a_m 167 [a_r (q0), a_i (y1), a_i (y2), a_i (max (y3) (y4))] (k, u, g, t)).bind (a_back 201 15 3 [a_r (r0), a_i (x1), a_i (x2)] []) else none := by
  refine (X_max (m := 201) (pc := 12) (q := 211) (by decide +kernel) (by decide +kernel) (Nat.le_of_ble_eq_true rfl)).trans ?_
  refine (X_call_vi (m := 201) (pc := 15) (q := 149) (y := 167) (n := 4) (as := [a_r (q0), a_i (y1), a_i (y2), a_i (max (y3) (y4))]) (rest := []) (by decide +kernel) (by decide +kernel) (by decide +kernel) (by decide +kernel) rfl rfl (Nat.le_of_ble_eq_true rfl) (Nat.le_of_ble_eq_true rfl) rfl (by rw [show m_maxL 167 = 4 from by decide +kernel]; exact Nat.le_of_ble_eq_true rfl)).trans ?_
  exact ite_congr (by simp [a_rcv, show m_recv 167 = 11 from by decide +kernel]) (fun _ => rfl) (fun _ => rfl)
theorem B_X11_hearsNumber_18 {k : Nat → Nat × Nat} {u : Nat → Nat → Int} {g : Nat → Nat → Nat} {t : Nat × Nat × Nat} {r0 : Nat} {x1 : Int} {x2 : Int} : a_X 201 18 [a_r (r0), a_i (x1), a_i (x2)] [] (k, u, g, t) = some (.inl none, (k, u, g, t)) := by
  exact X_return (m := 201) (pc := 18) (by decide +kernel) (by decide +kernel)
theorem E_X11_hearsCorrection {σ : AS} {r0 : Nat} {x1 : Int} {x2 : Int} : a_m 202 [a_r (r0), a_i (x1), a_i (x2)] σ = a_X 202 0 [a_r (r0), a_i (x1), a_i (x2), a_x false, a_x false] [] σ := a_m_eq (by rw [a_entry, show m_maxL 202 = 5 from by decide +kernel]; rfl)
theorem B_X11_hearsCorrection_0 {k : Nat → Nat × Nat} {u : Nat → Nat → Int} {g : Nat → Nat → Nat} {t : Nat × Nat × Nat} {r0 : Nat} {x1 : Int} {x2 : Int} {v3 : AV} {v4 : AV} : a_X 202 0 [a_r (r0), a_i (x1), a_i (x2), v3, v4] [] (k, u, g, t) = if (k r0).1 = 11 then (a_m 201 [a_r (r0), a_i (x1), a_i (x2)] (k, u, g, t)).bind (a_back 202 3 3 [a_r (r0), a_i (x1), a_i (x2), v3, v4] []) else none := by
  refine (X_aload_n (m := 202) (pc := 0) (n := 0) (by decide +kernel) rfl).trans ?_
  refine (X_iload_n (m := 202) (pc := 1) (n := 1) (by decide +kernel) rfl).trans ?_
  refine (X_iload_n (m := 202) (pc := 2) (n := 2) (by decide +kernel) rfl).trans ?_
  refine (X_call_vi (m := 202) (pc := 3) (q := 214) (y := 201) (n := 3) (as := [a_r (r0), a_i (x1), a_i (x2)]) (rest := []) (by decide +kernel) (by decide +kernel) (by decide +kernel) (by decide +kernel) rfl rfl (Nat.le_of_ble_eq_true rfl) (Nat.le_of_ble_eq_true rfl) rfl (by rw [show m_maxL 201 = 3 from by decide +kernel]; exact Nat.le_of_ble_eq_true rfl)).trans ?_
  exact ite_congr (by simp [a_rcv, show m_recv 201 = 11 from by decide +kernel]) (fun _ => rfl) (fun _ => rfl)
theorem B_X11_hearsCorrection_6 {k : Nat → Nat × Nat} {u : Nat → Nat → Int} {g : Nat → Nat → Nat} {t : Nat × Nat × Nat} {r0 : Nat} {x1 : Int} {x2 : Int} {v3 : AV} {v4 : AV} : a_X 202 6 [a_r (r0), a_i (x1), a_i (x2), v3, v4] [] (k, u, g, t) = if (32 : Int) ≠ 0 then if (32 : Int) ≠ 0 then if (k r0).1 = 11 then (a_m 166 [a_r (r0), a_i (x1), a_i (wr (15 + (wr (Int.tdiv (x2) (32)))))] (k, u, g, t)).bind (a_back 202 24 3 [a_r (r0), a_i (x1), a_i (x2), v3, v4] [a_i (wr (15 + (wr (Int.tdiv (x2) (32))))), a_i (x1), a_r (r0)]) else none else none else none := by
  refine (X_aload_n (m := 202) (pc := 6) (n := 0) (by decide +kernel) rfl).trans ?_
  refine (X_iload_n (m := 202) (pc := 7) (n := 1) (by decide +kernel) rfl).trans ?_
  refine (X_bipush (m := 202) (pc := 8) (n := 15) (by decide +kernel) ).trans ?_
  refine (X_iload_n (m := 202) (pc := 10) (n := 2) (by decide +kernel) rfl).trans ?_
  refine (X_bipush (m := 202) (pc := 11) (n := 32) (by decide +kernel) ).trans ?_
  refine (X_idiv (m := 202) (pc := 13)  (by decide +kernel) ).trans ?_
  refine ite_congr rfl (fun _ => ?_) (fun _ => rfl)
  refine (X_iadd (m := 202) (pc := 14)  (by decide +kernel) ).trans ?_
  refine (X_aload_n (m := 202) (pc := 15) (n := 0) (by decide +kernel) rfl).trans ?_
  refine (X_iload_n (m := 202) (pc := 16) (n := 1) (by decide +kernel) rfl).trans ?_
  refine (X_bipush (m := 202) (pc := 17) (n := 15) (by decide +kernel) ).trans ?_
  refine (X_iload_n (m := 202) (pc := 19) (n := 2) (by decide +kernel) rfl).trans ?_
  refine (X_bipush (m := 202) (pc := 20) (n := 32) (by decide +kernel) ).trans ?_
  refine (X_idiv (m := 202) (pc := 22)  (by decide +kernel) ).trans ?_
  refine ite_congr rfl (fun _ => ?_) (fun _ => rfl)
  refine (X_iadd (m := 202) (pc := 23)  (by decide +kernel) ).trans ?_
  refine (X_call_vi (m := 202) (pc := 24) (q := 79) (y := 166) (n := 3) (as := [a_r (r0), a_i (x1), a_i (wr (15 + (wr (Int.tdiv (x2) (32)))))]) (rest := [a_i (wr (15 + (wr (Int.tdiv (x2) (32))))), a_i (x1), a_r (r0)]) (by decide +kernel) (by decide +kernel) (by decide +kernel) (by decide +kernel) rfl rfl (Nat.le_of_ble_eq_true rfl) (Nat.le_of_ble_eq_true rfl) rfl (by rw [show m_maxL 166 = 3 from by decide +kernel]; exact Nat.le_of_ble_eq_true rfl)).trans ?_
  exact ite_congr (by simp [a_rcv, show m_recv 166 = 11 from by decide +kernel]) (fun _ => rfl) (fun _ => rfl)
theorem B_X11_hearsCorrection_27 {k : Nat → Nat × Nat} {u : Nat → Nat → Int} {g : Nat → Nat → Nat} {t : Nat × Nat × Nat} {r0 : Nat} {x1 : Int} {x2 : Int} {v3 : AV} {v4 : AV} {q0 : Nat} {y1 : Int} {y2 : Int} {y3 : Int} : a_X 202 27 [a_r (r0), a_i (x1), a_i (x2), v3, v4] [a_i (y3), a_i (y2), a_i (y1), a_r (q0)] (k, u, g, t) = if (32 : Int) ≠ 0 then if (k q0).1 = 11 then (a_m 167 [a_r (q0), a_i (y1), a_i (y2), a_i (zor (y3) (zshl (1) (Int.tmod (x2) (32))))] (k, u, g, t)).bind (a_back 202 34 3 [a_r (r0), a_i (x1), a_i (x2), v3, v4] []) else none else none := by
  refine (X_iconst (m := 202) (pc := 27) (n := 1) (by decide +kernel) ).trans ?_
  refine (X_iload_n (m := 202) (pc := 28) (n := 2) (by decide +kernel) rfl).trans ?_
  refine (X_bipush (m := 202) (pc := 29) (n := 32) (by decide +kernel) ).trans ?_
  refine (X_irem (m := 202) (pc := 31)  (by decide +kernel) ).trans ?_
  refine ite_congr rfl (fun _ => ?_) (fun _ => rfl)
  refine (X_ishl (m := 202) (pc := 32)  (by decide +kernel) ).trans ?_
  refine (X_ior (m := 202) (pc := 33)  (by decide +kernel) ).trans ?_
  refine (X_call_vi (m := 202) (pc := 34) (q := 149) (y := 167) (n := 4) (as := [a_r (q0), a_i (y1), a_i (y2), a_i (zor (y3) (zshl (1) (Int.tmod (x2) (32))))]) (rest := []) (by decide +kernel) (by decide +kernel) (by decide +kernel) (by decide +kernel) rfl rfl (Nat.le_of_ble_eq_true rfl) (Nat.le_of_ble_eq_true rfl) rfl (by rw [show m_maxL 167 = 4 from by decide +kernel]; exact Nat.le_of_ble_eq_true rfl)).trans ?_
  exact ite_congr (by simp [a_rcv, show m_recv 167 = 11 from by decide +kernel]) (fun _ => rfl) (fun _ => rfl)
theorem B_X11_hearsCorrection_37 {k : Nat → Nat × Nat} {u : Nat → Nat → Int} {g : Nat → Nat → Nat} {t : Nat × Nat × Nat} {r0 : Nat} {x1 : Int} {x2 : Int} {v3 : AV} {v4 : AV} : a_X 202 37 [a_r (r0), a_i (x1), a_i (x2), v3, v4] [] (k, u, g, t) = if (k r0).1 = 11 then (a_m 170 [a_r (r0), a_i (x2), a_i (0)] (k, u, g, t)).bind (a_back 202 41 3 [a_r (r0), a_i (x1), a_i (x2), v3, v4] [a_i (x1)]) else none := by
  refine (X_iload_n (m := 202) (pc := 37) (n := 1) (by decide +kernel) rfl).trans ?_
  refine (X_aload_n (m := 202) (pc := 38) (n := 0) (by decide +kernel) rfl).trans ?_
  refine (X_iload_n (m := 202) (pc := 39) (n := 2) (by decide +kernel) rfl).trans ?_
  refine (X_iconst (m := 202) (pc := 40) (n := 0) (by decide +kernel) ).trans ?_
  refine (X_call_vi (m := 202) (pc := 41) (q := 218) (y := 170) (n := 3) (as := [a_r (r0), a_i (x2), a_i (0)]) (rest := [a_i (x1)]) (by decide +kernel) (by decide +kernel) (by decide +kernel) (by decide +kernel) rfl rfl (Nat.le_of_ble_eq_true rfl) (Nat.le_of_ble_eq_true rfl) rfl (by rw [show m_maxL 170 = 3 from by decide +kernel]; exact Nat.le_of_ble_eq_true rfl)).trans ?_
  exact ite_congr (by simp [a_rcv, show m_recv 170 = 11 from by decide +kernel]) (fun _ => rfl) (fun _ => rfl)
theorem B_X11_hearsCorrection_44 {k : Nat → Nat × Nat} {u : Nat → Nat → Int} {g : Nat → Nat → Nat} {t : Nat × Nat × Nat} {r0 : Nat} {x1 : Int} {x2 : Int} {v3 : AV} {v4 : AV} {y0 : Int} {y1 : Int} : a_X 202 44 [a_r (r0), a_i (x1), a_i (x2), v3, v4] [a_i (y1), a_i (y0)] (k, u, g, t) = (a_m 164 [a_i (y0), a_i (y1)] (k, u, g, t)).bind (a_back 202 44 3 [a_r (r0), a_i (x1), a_i (x2), v3, v4] []) := by
  refine (X_call_st (m := 202) (pc := 44) (q := 71) (y := 164) (n := 2) (as := [a_i (y0), a_i (y1)]) (rest := []) (by decide +kernel) (by decide +kernel) (by decide +kernel) (by decide +kernel) rfl rfl (Nat.le_of_ble_eq_true rfl) (Nat.le_of_ble_eq_true rfl) rfl (by rw [show m_maxL 164 = 2 from by decide +kernel]; exact Nat.le_of_ble_eq_true rfl)).trans ?_
  exact if_pos rfl
theorem B_X11_hearsCorrection_47 {k : Nat → Nat × Nat} {u : Nat → Nat → Int} {g : Nat → Nat → Nat} {t : Nat × Nat × Nat} {r0 : Nat} {x1 : Int} {x2 : Int} {v3 : AV} {v4 : AV} {y0 : Int} : a_X 202 47 [a_r (r0), a_i (x1), a_i (x2), v3, v4] [a_i (y0)] (k, u, g, t) = if (k r0).1 = 11 then if ((k (g r0 2)).1 = 20 ∨ (k (g r0 2)).1 = 24) ∧ 0 ≤ (wr (y0 + 4) : Int) ∧ (wr (y0 + 4) : Int) < ((k (g r0 2)).2 : Int) then if (u (g r0 2) (wr (y0 + 4) : Int).toNat : Int) < (x2 : Int) then a_X 202 71 [a_r (r0), a_i (x1), a_i (x2), a_i (y0), a_i (0)] [] (k, u, g, t) else if (k r0).1 = 11 then (a_m 168 [a_r (r0), a_i (x1), a_i (12)] (k, u, g, t)).bind (a_back 202 64 3 [a_r (r0), a_i (x1), a_i (x2), a_i (y0), v4] []) else none else none else none := by
  refine (X_istore_n (m := 202) (pc := 47) (n := 3) (by decide +kernel) rfl (Nat.le_of_ble_eq_true rfl) rfl).trans ?_
  refine (X_aload_n (m := 202) (pc := 48) (n := 0) (by decide +kernel) rfl).trans ?_
  refine (X_getR (m := 202) (pc := 49) (n := 7) (c := 11) (q := 2) (fi := true) (by decide +kernel) (by decide +kernel)).trans ?_
  refine ite_congr rfl (fun _ => ?_) (fun _ => rfl)
  refine (X_iload_n (m := 202) (pc := 52) (n := 3) (by decide +kernel) rfl).trans ?_
  refine (X_iconst (m := 202) (pc := 53) (n := 4) (by decide +kernel) ).trans ?_
  refine (X_iadd (m := 202) (pc := 54)  (by decide +kernel) ).trans ?_
  refine (X_iaload (m := 202) (pc := 55)  (by decide +kernel) ).trans ?_
  refine ite_congr rfl (fun _ => ?_) (fun _ => rfl)
  refine (X_iload_n (m := 202) (pc := 56) (n := 2) (by decide +kernel) rfl).trans ?_
  refine (X_ic_lt (m := 202) (pc := 57) (off := 11) (tg := 68) (by decide +kernel) (by decide +kernel)).trans ?_
  refine ite_congr rfl (fun _ => ?_) (fun _ => ?_)
  · refine (X_iconst (m := 202) (pc := 68) (n := 0) (by decide +kernel) ).trans ?_
    refine (X_istore (m := 202) (pc := 69) (n := 4) (by decide +kernel) rfl (Nat.le_of_ble_eq_true rfl) rfl).trans ?_
    rfl
  · refine (X_aload_n (m := 202) (pc := 60) (n := 0) (by decide +kernel) rfl).trans ?_
    refine (X_iload_n (m := 202) (pc := 61) (n := 1) (by decide +kernel) rfl).trans ?_
    refine (X_bipush (m := 202) (pc := 62) (n := 12) (by decide +kernel) ).trans ?_
    refine (X_call_vi (m := 202) (pc := 64) (q := 221) (y := 168) (n := 3) (as := [a_r (r0), a_i (x1), a_i (12)]) (rest := []) (by decide +kernel) (by decide +kernel) (by decide +kernel) (by decide +kernel) rfl rfl (Nat.le_of_ble_eq_true rfl) (Nat.le_of_ble_eq_true rfl) rfl (by rw [show m_maxL 168 = 3 from by decide +kernel]; exact Nat.le_of_ble_eq_true rfl)).trans ?_
    exact ite_congr (by simp [a_rcv, show m_recv 168 = 11 from by decide +kernel]) (fun _ => rfl) (fun _ => rfl)
theorem B_X11_hearsCorrection_71 {k : Nat → Nat × Nat} {u : Nat → Nat → Int} {g : Nat → Nat → Nat} {t : Nat × Nat × Nat} {r0 : Nat} {x1 : Int} {x2 : Int} {x3 : Int} {x4 : Int} : a_X 202 71 [a_r (r0), a_i (x1), a_i (x2), a_i (x3), a_i (x4)] [] (k, u, g, t) = if (x4 : Int) > (3 : Int) then if (k r0).1 = 11 then if (k (g r0 2)).1 = 20 ∧ 0 ≤ (wr (x3 + 4) : Int) ∧ (wr (x3 + 4) : Int) < ((k (g r0 2)).2 : Int) then some (.inl none, (k, (upm u (g r0 2) (wr (x3 + 4) : Int).toNat x2), g, t)) else none else none else if (k r0).1 = 11 then if (k r0).1 = 11 then (a_m 170 [a_r (r0), a_i (x2), a_i (wr (1 + x4))] (k, u, g, t)).bind (a_back 202 91 3 [a_r (r0), a_i (x1), a_i (x2), a_i (x3), a_i (x4)] [a_i (wr (x3 + x4)), a_r (g r0 2)]) else none else none := by
  refine (X_iload (m := 202) (pc := 71) (n := 4) (by decide +kernel) rfl).trans ?_
  refine (X_iconst (m := 202) (pc := 73) (n := 3) (by decide +kernel) ).trans ?_
  refine (X_ic_gt (m := 202) (pc := 74) (off := 27) (tg := 101) (by decide +kernel) (by decide +kernel)).trans ?_
  refine ite_congr rfl (fun _ => ?_) (fun _ => ?_)
  · refine (X_aload_n (m := 202) (pc := 101) (n := 0) (by decide +kernel) rfl).trans ?_
    refine (X_getR (m := 202) (pc := 102) (n := 7) (c := 11) (q := 2) (fi := true) (by decide +kernel) (by decide +kernel)).trans ?_
    refine ite_congr rfl (fun _ => ?_) (fun _ => rfl)
    refine (X_iload_n (m := 202) (pc := 105) (n := 3) (by decide +kernel) rfl).trans ?_
    refine (X_iconst (m := 202) (pc := 106) (n := 4) (by decide +kernel) ).trans ?_
    refine (X_iadd (m := 202) (pc := 107)  (by decide +kernel) ).trans ?_
    refine (X_iload_n (m := 202) (pc := 108) (n := 2) (by decide +kernel) rfl).trans ?_
    refine (X_iastore (m := 202) (pc := 109)  (by decide +kernel) ).trans ?_
    refine ite_congr rfl (fun _ => ?_) (fun _ => rfl)
    exact X_return (m := 202) (pc := 110) (by decide +kernel) (by decide +kernel)
  · refine (X_aload_n (m := 202) (pc := 77) (n := 0) (by decide +kernel) rfl).trans ?_
    refine (X_getR (m := 202) (pc := 78) (n := 7) (c := 11) (q := 2) (fi := true) (by decide +kernel) (by decide +kernel)).trans ?_
    refine ite_congr rfl (fun _ => ?_) (fun _ => rfl)
    refine (X_iload_n (m := 202) (pc := 81) (n := 3) (by decide +kernel) rfl).trans ?_
    refine (X_iload (m := 202) (pc := 82) (n := 4) (by decide +kernel) rfl).trans ?_
    refine (X_iadd (m := 202) (pc := 84)  (by decide +kernel) ).trans ?_
    refine (X_aload_n (m := 202) (pc := 85) (n := 0) (by decide +kernel) rfl).trans ?_
    refine (X_iload_n (m := 202) (pc := 86) (n := 2) (by decide +kernel) rfl).trans ?_
    refine (X_iconst (m := 202) (pc := 87) (n := 1) (by decide +kernel) ).trans ?_
    refine (X_iload (m := 202) (pc := 88) (n := 4) (by decide +kernel) rfl).trans ?_
    refine (X_iadd (m := 202) (pc := 90)  (by decide +kernel) ).trans ?_
    refine (X_call_vi (m := 202) (pc := 91) (q := 218) (y := 170) (n := 3) (as := [a_r (r0), a_i (x2), a_i (wr (1 + x4))]) (rest := [a_i (wr (x3 + x4)), a_r (g r0 2)]) (by decide +kernel) (by decide +kernel) (by decide +kernel) (by decide +kernel) rfl rfl (Nat.le_of_ble_eq_true rfl) (Nat.le_of_ble_eq_true rfl) rfl (by rw [show m_maxL 170 = 3 from by decide +kernel]; exact Nat.le_of_ble_eq_true rfl)).trans ?_
    exact ite_congr (by simp [a_rcv, show m_recv 170 = 11 from by decide +kernel]) (fun _ => rfl) (fun _ => rfl)
theorem B_X11_hearsCorrection_67 {k : Nat → Nat × Nat} {u : Nat → Nat → Int} {g : Nat → Nat → Nat} {t : Nat × Nat × Nat} {r0 : Nat} {x1 : Int} {x2 : Int} {x3 : Int} {v4 : AV} : a_X 202 67 [a_r (r0), a_i (x1), a_i (x2), a_i (x3), v4] [] (k, u, g, t) = some (.inl none, (k, u, g, t)) := by
  exact X_return (m := 202) (pc := 67) (by decide +kernel) (by decide +kernel)
theorem B_X11_hearsCorrection_94 {k : Nat → Nat × Nat} {u : Nat → Nat → Int} {g : Nat → Nat → Nat} {t : Nat × Nat × Nat} {r0 : Nat} {x1 : Int} {x2 : Int} {x3 : Int} {x4 : Int} {q0 : Nat} {y1 : Int} {y2 : Int} : a_X 202 94 [a_r (r0), a_i (x1), a_i (x2), a_i (x3), a_i (x4)] [a_i (y2), a_i (y1), a_r (q0)] (k, u, g, t) = if (k q0).1 = 20 ∧ 0 ≤ (y1 : Int) ∧ (y1 : Int) < ((k q0).2 : Int) then a_X 202 71 [a_r (r0), a_i (x1), a_i (x2), a_i (x3), a_i (wr (x4 + 1))] [] (k, (upm u q0 (y1 : Int).toNat y2), g, t) else none := by
  refine (X_iastore (m := 202) (pc := 94)  (by decide +kernel) ).trans ?_
  refine ite_congr rfl (fun _ => ?_) (fun _ => rfl)
  refine (X_iinc (m := 202) (pc := 95) (n := 4) (c := 1) (by decide +kernel) rfl rfl (Nat.le_of_ble_eq_true rfl) rfl).trans ?_
  refine (X_goto (m := 202) (pc := 98) (off := -27) (tg := 71) (by decide +kernel) (by decide +kernel)).trans ?_
  rfl
theorem E_X11_hearsWhole {σ : AS} {r0 : Nat} {x1 : Int} {x2 : Int} : a_m 203 [a_r (r0), a_i (x1), a_i (x2)] σ = a_X 203 0 [a_r (r0), a_i (x1), a_i (x2), a_x false, a_x false] [] σ := a_m_eq (by rw [a_entry, show m_maxL 203 = 5 from by decide +kernel]; rfl)
theorem B_X11_hearsWhole_0 {k : Nat → Nat × Nat} {u : Nat → Nat → Int} {g : Nat → Nat → Nat} {t : Nat × Nat × Nat} {r0 : Nat} {x1 : Int} {x2 : Int} {v3 : AV} {v4 : AV} : a_X 203 0 [a_r (r0), a_i (x1), a_i (x2), v3, v4] [] (k, u, g, t) = if (k r0).1 = 11 then (a_m 169 [a_r (r0), a_i (x2), a_i (1)] (k, u, g, t)).bind (a_back 203 5 3 [a_r (r0), a_i (x1), a_i (x2), v3, v4] [a_i (x1), a_r (r0)]) else none := by
  refine (X_aload_n (m := 203) (pc := 0) (n := 0) (by decide +kernel) rfl).trans ?_
  refine (X_iload_n (m := 203) (pc := 1) (n := 1) (by decide +kernel) rfl).trans ?_
  refine (X_aload_n (m := 203) (pc := 2) (n := 0) (by decide +kernel) rfl).trans ?_
  refine (X_iload_n (m := 203) (pc := 3) (n := 2) (by decide +kernel) rfl).trans ?_
  refine (X_iconst (m := 203) (pc := 4) (n := 1) (by decide +kernel) ).trans ?_
  refine (X_call_vi (m := 203) (pc := 5) (q := 181) (y := 169) (n := 3) (as := [a_r (r0), a_i (x2), a_i (1)]) (rest := [a_i (x1), a_r (r0)]) (by decide +kernel) (by decide +kernel) (by decide +kernel) (by decide +kernel) rfl rfl (Nat.le_of_ble_eq_true rfl) (Nat.le_of_ble_eq_true rfl) rfl (by rw [show m_maxL 169 = 3 from by decide +kernel]; exact Nat.le_of_ble_eq_true rfl)).trans ?_
  exact ite_congr (by simp [a_rcv, show m_recv 169 = 11 from by decide +kernel]) (fun _ => rfl) (fun _ => rfl)
theorem B_X11_hearsWhole_8 {k : Nat → Nat × Nat} {u : Nat → Nat → Int} {g : Nat → Nat → Nat} {t : Nat × Nat × Nat} {r0 : Nat} {x1 : Int} {x2 : Int} {v3 : AV} {v4 : AV} {q0 : Nat} {y1 : Int} {y2 : Int} : a_X 203 8 [a_r (r0), a_i (x1), a_i (x2), v3, v4] [a_i (y2), a_i (y1), a_r (q0)] (k, u, g, t) = if (k q0).1 = 11 then (a_m 201 [a_r (q0), a_i (y1), a_i (y2)] (k, u, g, t)).bind (a_back 203 8 3 [a_r (r0), a_i (x1), a_i (x2), v3, v4] []) else none := by
  refine (X_call_vi (m := 203) (pc := 8) (q := 214) (y := 201) (n := 3) (as := [a_r (q0), a_i (y1), a_i (y2)]) (rest := []) (by decide +kernel) (by decide +kernel) (by decide +kernel) (by decide +kernel) rfl rfl (Nat.le_of_ble_eq_true rfl) (Nat.le_of_ble_eq_true rfl) rfl (by rw [show m_maxL 201 = 3 from by decide +kernel]; exact Nat.le_of_ble_eq_true rfl)).trans ?_
  exact ite_congr (by simp [a_rcv, show m_recv 201 = 11 from by decide +kernel]) (fun _ => rfl) (fun _ => rfl)
theorem B_X11_hearsWhole_11 {k : Nat → Nat × Nat} {u : Nat → Nat → Int} {g : Nat → Nat → Nat} {t : Nat × Nat × Nat} {r0 : Nat} {x1 : Int} {x2 : Int} {v3 : AV} {v4 : AV} : a_X 203 11 [a_r (r0), a_i (x1), a_i (x2), v3, v4] [] (k, u, g, t) = if (k r0).1 = 11 then (a_m 169 [a_r (r0), a_i (x2), a_i (1)] (k, u, g, t)).bind (a_back 203 18 3 [a_r (r0), a_i (x1), a_i (x2), v3, v4] [a_i (10), a_i (x1), a_r (r0)]) else none := by
  refine (X_aload_n (m := 203) (pc := 11) (n := 0) (by decide +kernel) rfl).trans ?_
  refine (X_iload_n (m := 203) (pc := 12) (n := 1) (by decide +kernel) rfl).trans ?_
  refine (X_bipush (m := 203) (pc := 13) (n := 10) (by decide +kernel) ).trans ?_
  refine (X_aload_n (m := 203) (pc := 15) (n := 0) (by decide +kernel) rfl).trans ?_
  refine (X_iload_n (m := 203) (pc := 16) (n := 2) (by decide +kernel) rfl).trans ?_
  refine (X_iconst (m := 203) (pc := 17) (n := 1) (by decide +kernel) ).trans ?_
  refine (X_call_vi (m := 203) (pc := 18) (q := 181) (y := 169) (n := 3) (as := [a_r (r0), a_i (x2), a_i (1)]) (rest := [a_i (10), a_i (x1), a_r (r0)]) (by decide +kernel) (by decide +kernel) (by decide +kernel) (by decide +kernel) rfl rfl (Nat.le_of_ble_eq_true rfl) (Nat.le_of_ble_eq_true rfl) rfl (by rw [show m_maxL 169 = 3 from by decide +kernel]; exact Nat.le_of_ble_eq_true rfl)).trans ?_
  exact ite_congr (by simp [a_rcv, show m_recv 169 = 11 from by decide +kernel]) (fun _ => rfl) (fun _ => rfl)
theorem B_X11_hearsWhole_21 {k : Nat → Nat × Nat} {u : Nat → Nat → Int} {g : Nat → Nat → Nat} {t : Nat × Nat × Nat} {r0 : Nat} {x1 : Int} {x2 : Int} {v3 : AV} {v4 : AV} {q0 : Nat} {y1 : Int} {y2 : Int} {y3 : Int} : a_X 203 21 [a_r (r0), a_i (x1), a_i (x2), v3, v4] [a_i (y3), a_i (y2), a_i (y1), a_r (q0)] (k, u, g, t) = if (k r0).1 = 11 then (a_m 166 [a_r (r0), a_i (x1), a_i (10)] (k, u, g, t)).bind (a_back 203 25 3 [a_r (r0), a_i (x1), a_i (x2), v3, v4] [a_i (y3), a_i (y2), a_i (y1), a_r (q0)]) else none := by
  refine (X_aload_n (m := 203) (pc := 21) (n := 0) (by decide +kernel) rfl).trans ?_
  refine (X_iload_n (m := 203) (pc := 22) (n := 1) (by decide +kernel) rfl).trans ?_
  refine (X_bipush (m := 203) (pc := 23) (n := 10) (by decide +kernel) ).trans ?_
  refine (X_call_vi (m := 203) (pc := 25) (q := 79) (y := 166) (n := 3) (as := [a_r (r0), a_i (x1), a_i (10)]) (rest := [a_i (y3), a_i (y2), a_i (y1), a_r (q0)]) (by decide +kernel) (by decide +kernel) (by decide +kernel) (by decide +kernel) rfl rfl (Nat.le_of_ble_eq_true rfl) (Nat.le_of_ble_eq_true rfl) rfl (by rw [show m_maxL 166 = 3 from by decide +kernel]; exact Nat.le_of_ble_eq_true rfl)).trans ?_
  exact ite_congr (by simp [a_rcv, show m_recv 166 = 11 from by decide +kernel]) (fun _ => rfl) (fun _ => rfl)
theorem B_X11_hearsWhole_28 {k : Nat → Nat × Nat} {u : Nat → Nat → Int} {g : Nat → Nat → Nat} {t : Nat × Nat × Nat} {r0 : Nat} {x1 : Int} {x2 : Int} {v3 : AV} {v4 : AV} {q0 : Nat} {y1 : Int} {y2 : Int} {y3 : Int} {y4 : Int} : a_X 203 28 [a_r (r0), a_i (x1), a_i (x2), v3, v4] [a_i (y4), a_i (y3), a_i (y2), a_i (y1), a_r (q0)] (k, u, g, t) = if (k q0).1 = 11 then (a_m 167 [a_r (q0), a_i (y1), a_i (y2), a_i (max (y3) (y4))] (k, u, g, t)).bind (a_back 203 31 3 [a_r (r0), a_i (x1), a_i (x2), v3, v4] []) else none := by
  refine (X_max (m := 203) (pc := 28) (q := 211) (by decide +kernel) (by decide +kernel) (Nat.le_of_ble_eq_true rfl)).trans ?_
  refine (X_call_vi (m := 203) (pc := 31) (q := 149) (y := 167) (n := 4) (as := [a_r (q0), a_i (y1), a_i (y2), a_i (max (y3) (y4))]) (rest := []) (by decide +kernel) (by decide +kernel) (by decide +kernel) (by decide +kernel) rfl rfl (Nat.le_of_ble_eq_true rfl) (Nat.le_of_ble_eq_true rfl) rfl (by rw [show m_maxL 167 = 4 from by decide +kernel]; exact Nat.le_of_ble_eq_true rfl)).trans ?_
  exact ite_congr (by simp [a_rcv, show m_recv 167 = 11 from by decide +kernel]) (fun _ => rfl) (fun _ => rfl)
theorem B_X11_hearsWhole_34 {k : Nat → Nat × Nat} {u : Nat → Nat → Int} {g : Nat → Nat → Nat} {t : Nat × Nat × Nat} {r0 : Nat} {x1 : Int} {x2 : Int} {v3 : AV} {v4 : AV} : a_X 203 34 [a_r (r0), a_i (x1), a_i (x2), v3, v4] [] (k, u, g, t) = if (k r0).1 = 11 then (a_m 168 [a_r (r0), a_i (x1), a_i (13)] (k, u, g, t)).bind (a_back 203 38 3 [a_r (r0), a_i (x1), a_i (x2), v3, v4] []) else none := by
  refine (X_aload_n (m := 203) (pc := 34) (n := 0) (by decide +kernel) rfl).trans ?_
  refine (X_iload_n (m := 203) (pc := 35) (n := 1) (by decide +kernel) rfl).trans ?_
  refine (X_bipush (m := 203) (pc := 36) (n := 13) (by decide +kernel) ).trans ?_
  refine (X_call_vi (m := 203) (pc := 38) (q := 221) (y := 168) (n := 3) (as := [a_r (r0), a_i (x1), a_i (13)]) (rest := []) (by decide +kernel) (by decide +kernel) (by decide +kernel) (by decide +kernel) rfl rfl (Nat.le_of_ble_eq_true rfl) (Nat.le_of_ble_eq_true rfl) rfl (by rw [show m_maxL 168 = 3 from by decide +kernel]; exact Nat.le_of_ble_eq_true rfl)).trans ?_
  exact ite_congr (by simp [a_rcv, show m_recv 168 = 11 from by decide +kernel]) (fun _ => rfl) (fun _ => rfl)
theorem B_X11_hearsWhole_41 {k : Nat → Nat × Nat} {u : Nat → Nat → Int} {g : Nat → Nat → Nat} {t : Nat × Nat × Nat} {r0 : Nat} {x1 : Int} {x2 : Int} {v3 : AV} {v4 : AV} : a_X 203 41 [a_r (r0), a_i (x1), a_i (x2), v3, v4] [] (k, u, g, t) = a_X 203 43 [a_r (r0), a_i (x1), a_i (x2), a_i (0), v4] [] (k, u, g, t) := by
  refine (X_iconst (m := 203) (pc := 41) (n := 0) (by decide +kernel) ).trans ?_
  refine (X_istore_n (m := 203) (pc := 42) (n := 3) (by decide +kernel) rfl (Nat.le_of_ble_eq_true rfl) rfl).trans ?_
  rfl
theorem B_X11_hearsWhole_43 {k : Nat → Nat × Nat} {u : Nat → Nat → Int} {g : Nat → Nat → Nat} {t : Nat × Nat × Nat} {r0 : Nat} {x1 : Int} {x2 : Int} {x3 : Int} {v4 : AV} : a_X 203 43 [a_r (r0), a_i (x1), a_i (x2), a_i (x3), v4] [] (k, u, g, t) = if (x3 : Int) ≥ (12 : Int) then some (.inl none, (k, u, g, t)) else if (k r0).1 = 11 then if ((k (g r0 2)).1 = 20 ∨ (k (g r0 2)).1 = 24) ∧ 0 ≤ (wr ((wr ((wr ((wr (1150 + (wr (71 * x2)))) + 11)) + (wr (5 * x3)))) + 4) : Int) ∧ (wr ((wr ((wr ((wr (1150 + (wr (71 * x2)))) + 11)) + (wr (5 * x3)))) + 4) : Int) < ((k (g r0 2)).2 : Int) then if (k r0).1 = 11 then (a_m 165 [a_r (r0), a_i (x1), a_i (x3), a_i (4)] (k, u, g, t)).bind (a_back 203 79 3 [a_r (r0), a_i (x1), a_i (x2), a_i (x3), a_i (wr ((wr ((wr (1150 + (wr (71 * x2)))) + 11)) + (wr (5 * x3))))] [a_i (u (g r0 2) (wr ((wr ((wr ((wr (1150 + (wr (71 * x2)))) + 11)) + (wr (5 * x3)))) + 4) : Int).toNat)]) else none else none else none := by
  refine (X_iload_n (m := 203) (pc := 43) (n := 3) (by decide +kernel) rfl).trans ?_
  refine (X_bipush (m := 203) (pc := 44) (n := 12) (by decide +kernel) ).trans ?_
  refine (X_ic_ge (m := 203) (pc := 46) (off := 56) (tg := 102) (by decide +kernel) (by decide +kernel)).trans ?_
  refine ite_congr rfl (fun _ => ?_) (fun _ => ?_)
  · exact X_return (m := 203) (pc := 102) (by decide +kernel) (by decide +kernel)
  · refine (X_sipush (m := 203) (pc := 49) (n := 1150) (by decide +kernel) ).trans ?_
    refine (X_bipush (m := 203) (pc := 52) (n := 71) (by decide +kernel) ).trans ?_
    refine (X_iload_n (m := 203) (pc := 54) (n := 2) (by decide +kernel) rfl).trans ?_
    refine (X_imul (m := 203) (pc := 55)  (by decide +kernel) ).trans ?_
    refine (X_iadd (m := 203) (pc := 56)  (by decide +kernel) ).trans ?_
    refine (X_bipush (m := 203) (pc := 57) (n := 11) (by decide +kernel) ).trans ?_
    refine (X_iadd (m := 203) (pc := 59)  (by decide +kernel) ).trans ?_
    refine (X_iconst (m := 203) (pc := 60) (n := 5) (by decide +kernel) ).trans ?_
    refine (X_iload_n (m := 203) (pc := 61) (n := 3) (by decide +kernel) rfl).trans ?_
    refine (X_imul (m := 203) (pc := 62)  (by decide +kernel) ).trans ?_
    refine (X_iadd (m := 203) (pc := 63)  (by decide +kernel) ).trans ?_
    refine (X_istore (m := 203) (pc := 64) (n := 4) (by decide +kernel) rfl (Nat.le_of_ble_eq_true rfl) rfl).trans ?_
    refine (X_aload_n (m := 203) (pc := 66) (n := 0) (by decide +kernel) rfl).trans ?_
    refine (X_getR (m := 203) (pc := 67) (n := 7) (c := 11) (q := 2) (fi := true) (by decide +kernel) (by decide +kernel)).trans ?_
    refine ite_congr rfl (fun _ => ?_) (fun _ => rfl)
    refine (X_iload (m := 203) (pc := 70) (n := 4) (by decide +kernel) rfl).trans ?_
    refine (X_iconst (m := 203) (pc := 72) (n := 4) (by decide +kernel) ).trans ?_
    refine (X_iadd (m := 203) (pc := 73)  (by decide +kernel) ).trans ?_
    refine (X_iaload (m := 203) (pc := 74)  (by decide +kernel) ).trans ?_
    refine ite_congr rfl (fun _ => ?_) (fun _ => rfl)
    refine (X_aload_n (m := 203) (pc := 75) (n := 0) (by decide +kernel) rfl).trans ?_
    refine (X_iload_n (m := 203) (pc := 76) (n := 1) (by decide +kernel) rfl).trans ?_
    refine (X_iload_n (m := 203) (pc := 77) (n := 3) (by decide +kernel) rfl).trans ?_
    refine (X_iconst (m := 203) (pc := 78) (n := 4) (by decide +kernel) ).trans ?_
    refine (X_call_vi (m := 203) (pc := 79) (q := 82) (y := 165) (n := 4) (as := [a_r (r0), a_i (x1), a_i (x3), a_i (4)]) (rest := [a_i (u (g r0 2) (wr ((wr ((wr ((wr (1150 + (wr (71 * x2)))) + 11)) + (wr (5 * x3)))) + 4) : Int).toNat)]) (by decide +kernel) (by decide +kernel) (by decide +kernel) (by decide +kernel) rfl rfl (Nat.le_of_ble_eq_true rfl) (Nat.le_of_ble_eq_true rfl) rfl (by rw [show m_maxL 165 = 4 from by decide +kernel]; exact Nat.le_of_ble_eq_true rfl)).trans ?_
    exact ite_congr (by simp [a_rcv, show m_recv 165 = 11 from by decide +kernel]) (fun _ => rfl) (fun _ => rfl)
theorem B_X11_hearsWhole_82 {k : Nat → Nat × Nat} {u : Nat → Nat → Int} {g : Nat → Nat → Nat} {t : Nat × Nat × Nat} {r0 : Nat} {x1 : Int} {x2 : Int} {x3 : Int} {x4 : Int} {y0 : Int} {y1 : Int} : a_X 203 82 [a_r (r0), a_i (x1), a_i (x2), a_i (x3), a_i (x4)] [a_i (y1), a_i (y0)] (k, u, g, t) = if (y0 : Int) < (y1 : Int) then a_X 203 43 [a_r (r0), a_i (x1), a_i (x2), a_i (wr (x3 + 1)), a_i (x4)] [] (k, u, g, t) else (a_m 164 [a_i (x1), a_i (x3)] (k, u, g, t)).bind (a_back 203 90 3 [a_r (r0), a_i (x1), a_i (x2), a_i (x3), a_i (x4)] [a_i (x4), a_r (r0)]) := by
  refine (X_ic_lt (m := 203) (pc := 82) (off := 14) (tg := 96) (by decide +kernel) (by decide +kernel)).trans ?_
  refine ite_congr rfl (fun _ => ?_) (fun _ => ?_)
  · refine (X_iinc (m := 203) (pc := 96) (n := 3) (c := 1) (by decide +kernel) rfl rfl (Nat.le_of_ble_eq_true rfl) rfl).trans ?_
    refine (X_goto (m := 203) (pc := 99) (off := -56) (tg := 43) (by decide +kernel) (by decide +kernel)).trans ?_
    rfl
  · refine (X_aload_n (m := 203) (pc := 85) (n := 0) (by decide +kernel) rfl).trans ?_
    refine (X_iload (m := 203) (pc := 86) (n := 4) (by decide +kernel) rfl).trans ?_
    refine (X_iload_n (m := 203) (pc := 88) (n := 1) (by decide +kernel) rfl).trans ?_
    refine (X_iload_n (m := 203) (pc := 89) (n := 3) (by decide +kernel) rfl).trans ?_
    refine (X_call_st (m := 203) (pc := 90) (q := 71) (y := 164) (n := 2) (as := [a_i (x1), a_i (x3)]) (rest := [a_i (x4), a_r (r0)]) (by decide +kernel) (by decide +kernel) (by decide +kernel) (by decide +kernel) rfl rfl (Nat.le_of_ble_eq_true rfl) (Nat.le_of_ble_eq_true rfl) rfl (by rw [show m_maxL 164 = 2 from by decide +kernel]; exact Nat.le_of_ble_eq_true rfl)).trans ?_
    exact if_pos rfl
theorem B_X11_hearsWhole_93 {k : Nat → Nat × Nat} {u : Nat → Nat → Int} {g : Nat → Nat → Nat} {t : Nat × Nat × Nat} {r0 : Nat} {x1 : Int} {x2 : Int} {x3 : Int} {x4 : Int} {q0 : Nat} {y1 : Int} {y2 : Int} : a_X 203 93 [a_r (r0), a_i (x1), a_i (x2), a_i (x3), a_i (x4)] [a_i (y2), a_i (y1), a_r (q0)] (k, u, g, t) = if (k q0).1 = 11 then (a_m 174 [a_r (q0), a_i (y1), a_i (y2)] (k, u, g, t)).bind (a_back 203 93 3 [a_r (r0), a_i (x1), a_i (x2), a_i (x3), a_i (x4)] []) else none := by
  refine (X_call_vi (m := 203) (pc := 93) (q := 224) (y := 174) (n := 3) (as := [a_r (q0), a_i (y1), a_i (y2)]) (rest := []) (by decide +kernel) (by decide +kernel) (by decide +kernel) (by decide +kernel) rfl rfl (Nat.le_of_ble_eq_true rfl) (Nat.le_of_ble_eq_true rfl) rfl (by rw [show m_maxL 174 = 4 from by decide +kernel]; exact Nat.le_of_ble_eq_true rfl)).trans ?_
  exact ite_congr (by simp [a_rcv, show m_recv 174 = 11 from by decide +kernel]) (fun _ => rfl) (fun _ => rfl)
theorem B_X11_hearsWhole_96 {k : Nat → Nat × Nat} {u : Nat → Nat → Int} {g : Nat → Nat → Nat} {t : Nat × Nat × Nat} {r0 : Nat} {x1 : Int} {x2 : Int} {x3 : Int} {x4 : Int} : a_X 203 96 [a_r (r0), a_i (x1), a_i (x2), a_i (x3), a_i (x4)] [] (k, u, g, t) = a_X 203 43 [a_r (r0), a_i (x1), a_i (x2), a_i (wr (x3 + 1)), a_i (x4)] [] (k, u, g, t) := by
  refine (X_iinc (m := 203) (pc := 96) (n := 3) (c := 1) (by decide +kernel) rfl rfl (Nat.le_of_ble_eq_true rfl) rfl).trans ?_
  refine (X_goto (m := 203) (pc := 99) (off := -56) (tg := 43) (by decide +kernel) (by decide +kernel)).trans ?_
  rfl
theorem E_X11_hears {σ : AS} {r0 : Nat} {x1 : Int} {x2 : Int} : a_m 204 [a_r (r0), a_i (x1), a_i (x2)] σ = a_X 204 0 [a_r (r0), a_i (x1), a_i (x2)] [] σ := a_m_eq (by rw [a_entry, show m_maxL 204 = 3 from by decide +kernel]; rfl)
theorem B_X11_hears_0 {k : Nat → Nat × Nat} {u : Nat → Nat → Int} {g : Nat → Nat → Nat} {t : Nat × Nat × Nat} {r0 : Nat} {x1 : Int} {x2 : Int} : a_X 204 0 [a_r (r0), a_i (x1), a_i (x2)] [] (k, u, g, t) = if (k r0).1 = 11 then (a_m 169 [a_r (r0), a_i (x2), a_i (0)] (k, u, g, t)).bind (a_back 204 3 3 [a_r (r0), a_i (x1), a_i (x2)] []) else none := by
  refine (X_aload_n (m := 204) (pc := 0) (n := 0) (by decide +kernel) rfl).trans ?_
  refine (X_iload_n (m := 204) (pc := 1) (n := 2) (by decide +kernel) rfl).trans ?_
  refine (X_iconst (m := 204) (pc := 2) (n := 0) (by decide +kernel) ).trans ?_
  refine (X_call_vi (m := 204) (pc := 3) (q := 181) (y := 169) (n := 3) (as := [a_r (r0), a_i (x2), a_i (0)]) (rest := []) (by decide +kernel) (by decide +kernel) (by decide +kernel) (by decide +kernel) rfl rfl (Nat.le_of_ble_eq_true rfl) (Nat.le_of_ble_eq_true rfl) rfl (by rw [show m_maxL 169 = 3 from by decide +kernel]; exact Nat.le_of_ble_eq_true rfl)).trans ?_
  exact ite_congr (by simp [a_rcv, show m_recv 169 = 11 from by decide +kernel]) (fun _ => rfl) (fun _ => rfl)
theorem B_X11_hears_6 {k : Nat → Nat × Nat} {u : Nat → Nat → Int} {g : Nat → Nat → Nat} {t : Nat × Nat × Nat} {r0 : Nat} {x1 : Int} {x2 : Int} {y0 : Int} : a_X 204 6 [a_r (r0), a_i (x1), a_i (x2)] [a_i (y0)] (k, u, g, t) = if (y0 : Int) ≠ (1 : Int) then if (k r0).1 = 11 then (a_m 169 [a_r (r0), a_i (x2), a_i (1)] (k, u, g, t)).bind (a_back 204 24 3 [a_r (r0), a_i (x1), a_i (x2)] [a_i (x1), a_r (r0)]) else none else if (k r0).1 = 11 then (a_m 203 [a_r (r0), a_i (x1), a_i (x2)] (k, u, g, t)).bind (a_back 204 13 3 [a_r (r0), a_i (x1), a_i (x2)] []) else none := by
  refine (X_iconst (m := 204) (pc := 6) (n := 1) (by decide +kernel) ).trans ?_
  refine (X_ic_ne (m := 204) (pc := 7) (off := 12) (tg := 19) (by decide +kernel) (by decide +kernel)).trans ?_
  refine ite_congr rfl (fun _ => ?_) (fun _ => ?_)
  · refine (X_aload_n (m := 204) (pc := 19) (n := 0) (by decide +kernel) rfl).trans ?_
    refine (X_iload_n (m := 204) (pc := 20) (n := 1) (by decide +kernel) rfl).trans ?_
    refine (X_aload_n (m := 204) (pc := 21) (n := 0) (by decide +kernel) rfl).trans ?_
    refine (X_iload_n (m := 204) (pc := 22) (n := 2) (by decide +kernel) rfl).trans ?_
    refine (X_iconst (m := 204) (pc := 23) (n := 1) (by decide +kernel) ).trans ?_
    refine (X_call_vi (m := 204) (pc := 24) (q := 181) (y := 169) (n := 3) (as := [a_r (r0), a_i (x2), a_i (1)]) (rest := [a_i (x1), a_r (r0)]) (by decide +kernel) (by decide +kernel) (by decide +kernel) (by decide +kernel) rfl rfl (Nat.le_of_ble_eq_true rfl) (Nat.le_of_ble_eq_true rfl) rfl (by rw [show m_maxL 169 = 3 from by decide +kernel]; exact Nat.le_of_ble_eq_true rfl)).trans ?_
    exact ite_congr (by simp [a_rcv, show m_recv 169 = 11 from by decide +kernel]) (fun _ => rfl) (fun _ => rfl)
  · refine (X_aload_n (m := 204) (pc := 10) (n := 0) (by decide +kernel) rfl).trans ?_
    refine (X_iload_n (m := 204) (pc := 11) (n := 1) (by decide +kernel) rfl).trans ?_
    refine (X_iload_n (m := 204) (pc := 12) (n := 2) (by decide +kernel) rfl).trans ?_
    refine (X_call_vi (m := 204) (pc := 13) (q := 227) (y := 203) (n := 3) (as := [a_r (r0), a_i (x1), a_i (x2)]) (rest := []) (by decide +kernel) (by decide +kernel) (by decide +kernel) (by decide +kernel) rfl rfl (Nat.le_of_ble_eq_true rfl) (Nat.le_of_ble_eq_true rfl) rfl (by rw [show m_maxL 203 = 5 from by decide +kernel]; exact Nat.le_of_ble_eq_true rfl)).trans ?_
    exact ite_congr (by simp [a_rcv, show m_recv 203 = 11 from by decide +kernel]) (fun _ => rfl) (fun _ => rfl)
theorem B_X11_hears_27 {k : Nat → Nat × Nat} {u : Nat → Nat → Int} {g : Nat → Nat → Nat} {t : Nat × Nat × Nat} {r0 : Nat} {x1 : Int} {x2 : Int} {q0 : Nat} {y1 : Int} {y2 : Int} : a_X 204 27 [a_r (r0), a_i (x1), a_i (x2)] [a_i (y2), a_i (y1), a_r (q0)] (k, u, g, t) = if (k q0).1 = 11 then (a_m 202 [a_r (q0), a_i (y1), a_i (y2)] (k, u, g, t)).bind (a_back 204 27 3 [a_r (r0), a_i (x1), a_i (x2)] []) else none := by
  refine (X_call_vi (m := 204) (pc := 27) (q := 230) (y := 202) (n := 3) (as := [a_r (q0), a_i (y1), a_i (y2)]) (rest := []) (by decide +kernel) (by decide +kernel) (by decide +kernel) (by decide +kernel) rfl rfl (Nat.le_of_ble_eq_true rfl) (Nat.le_of_ble_eq_true rfl) rfl (by rw [show m_maxL 202 = 5 from by decide +kernel]; exact Nat.le_of_ble_eq_true rfl)).trans ?_
  exact ite_congr (by simp [a_rcv, show m_recv 202 = 11 from by decide +kernel]) (fun _ => rfl) (fun _ => rfl)
theorem B_X11_hears_16 {k : Nat → Nat × Nat} {u : Nat → Nat → Int} {g : Nat → Nat → Nat} {t : Nat × Nat × Nat} {r0 : Nat} {x1 : Int} {x2 : Int} : a_X 204 16 [a_r (r0), a_i (x1), a_i (x2)] [] (k, u, g, t) = some (.inl none, (k, u, g, t)) := by
  refine (X_goto (m := 204) (pc := 16) (off := 14) (tg := 30) (by decide +kernel) (by decide +kernel)).trans ?_
  exact X_return (m := 204) (pc := 30) (by decide +kernel) (by decide +kernel)
theorem B_X11_hears_30 {k : Nat → Nat × Nat} {u : Nat → Nat → Int} {g : Nat → Nat → Nat} {t : Nat × Nat × Nat} {r0 : Nat} {x1 : Int} {x2 : Int} : a_X 204 30 [a_r (r0), a_i (x1), a_i (x2)] [] (k, u, g, t) = some (.inl none, (k, u, g, t)) := by
  exact X_return (m := 204) (pc := 30) (by decide +kernel) (by decide +kernel)
theorem E_X11_nextDue {σ : AS} {r0 : Nat} {x1 : Int} {x2 : Int} {l3 : Int} : a_m 205 [a_r (r0), a_i (x1), a_i (x2), a_l (l3)] σ = a_X 205 0 [a_r (r0), a_i (x1), a_i (x2), a_l (l3), a_x false, a_x false, a_x false] [] σ := a_m_eq (by rw [a_entry, show m_maxL 205 = 7 from by decide +kernel]; rfl)
theorem B_X11_nextDue_0 {k : Nat → Nat × Nat} {u : Nat → Nat → Int} {g : Nat → Nat → Nat} {t : Nat × Nat × Nat} {r0 : Nat} {x1 : Int} {x2 : Int} {l3 : Int} {v5 : AV} {v6 : AV} : a_X 205 0 [a_r (r0), a_i (x1), a_i (x2), a_l (l3), a_x false, v5, v6] [] (k, u, g, t) = a_X 205 6 [a_r (r0), a_i (x1), a_i (x2), a_l (l3), a_x false, a_i (-1), a_i (0)] [] (k, u, g, t) := by
  refine (X_iconst (m := 205) (pc := 0) (n := -1) (by decide +kernel) ).trans ?_
  refine (X_istore (m := 205) (pc := 1) (n := 5) (by decide +kernel) rfl (Nat.le_of_ble_eq_true rfl) rfl).trans ?_
  refine (X_iconst (m := 205) (pc := 3) (n := 0) (by decide +kernel) ).trans ?_
  refine (X_istore (m := 205) (pc := 4) (n := 6) (by decide +kernel) rfl (Nat.le_of_ble_eq_true rfl) rfl).trans ?_
  rfl
theorem B_X11_nextDue_6 {k : Nat → Nat × Nat} {u : Nat → Nat → Int} {g : Nat → Nat → Nat} {t : Nat × Nat × Nat} {r0 : Nat} {x1 : Int} {x2 : Int} {l3 : Int} {x5 : Int} {x6 : Int} : a_X 205 6 [a_r (r0), a_i (x1), a_i (x2), a_l (l3), a_x false, a_i (x5), a_i (x6)] [] (k, u, g, t) = if (k r0).1 = 11 then if ((k (g r0 2)).1 = 20 ∨ (k (g r0 2)).1 = 24) ∧ 0 ≤ (4 : Int) ∧ (4 : Int) < ((k (g r0 2)).2 : Int) then if (x6 : Int) ≥ (u (g r0 2) (4 : Int).toNat : Int) then some (.inl (some (a_i (x5))), (k, u, g, t)) else if (k r0).1 = 11 then (a_m 169 [a_r (r0), a_i (x6), a_i (wr (5 + x1))] (k, u, g, t)).bind (a_back 205 23 3 [a_r (r0), a_i (x1), a_i (x2), a_l (l3), a_x false, a_i (x5), a_i (x6)] []) else none else none else none := by
  refine (X_iload (m := 205) (pc := 6) (n := 6) (by decide +kernel) rfl).trans ?_
  refine (X_aload_n (m := 205) (pc := 8) (n := 0) (by decide +kernel) rfl).trans ?_
  refine (X_getR (m := 205) (pc := 9) (n := 7) (c := 11) (q := 2) (fi := true) (by decide +kernel) (by decide +kernel)).trans ?_
  refine ite_congr rfl (fun _ => ?_) (fun _ => rfl)
  refine (X_iconst (m := 205) (pc := 12) (n := 4) (by decide +kernel) ).trans ?_
  refine (X_iaload (m := 205) (pc := 13)  (by decide +kernel) ).trans ?_
  refine ite_congr rfl (fun _ => ?_) (fun _ => rfl)
  refine (X_ic_ge (m := 205) (pc := 14) (off := 59) (tg := 73) (by decide +kernel) (by decide +kernel)).trans ?_
  refine ite_congr rfl (fun _ => ?_) (fun _ => ?_)
  · refine (X_iload (m := 205) (pc := 73) (n := 5) (by decide +kernel) rfl).trans ?_
    exact X_ireturn (m := 205) (pc := 75) (f := 1) (by decide +kernel) (by decide +kernel) rfl
  · refine (X_aload_n (m := 205) (pc := 17) (n := 0) (by decide +kernel) rfl).trans ?_
    refine (X_iload (m := 205) (pc := 18) (n := 6) (by decide +kernel) rfl).trans ?_
    refine (X_iconst (m := 205) (pc := 20) (n := 5) (by decide +kernel) ).trans ?_
    refine (X_iload_n (m := 205) (pc := 21) (n := 1) (by decide +kernel) rfl).trans ?_
    refine (X_iadd (m := 205) (pc := 22)  (by decide +kernel) ).trans ?_
    refine (X_call_vi (m := 205) (pc := 23) (q := 181) (y := 169) (n := 3) (as := [a_r (r0), a_i (x6), a_i (wr (5 + x1))]) (rest := []) (by decide +kernel) (by decide +kernel) (by decide +kernel) (by decide +kernel) rfl rfl (Nat.le_of_ble_eq_true rfl) (Nat.le_of_ble_eq_true rfl) rfl (by rw [show m_maxL 169 = 3 from by decide +kernel]; exact Nat.le_of_ble_eq_true rfl)).trans ?_
    exact ite_congr (by simp [a_rcv, show m_recv 169 = 11 from by decide +kernel]) (fun _ => rfl) (fun _ => rfl)
theorem B_X11_nextDue_26 {k : Nat → Nat × Nat} {u : Nat → Nat → Int} {g : Nat → Nat → Nat} {t : Nat × Nat × Nat} {r0 : Nat} {x1 : Int} {x2 : Int} {l3 : Int} {x5 : Int} {x6 : Int} {y0 : Int} : a_X 205 26 [a_r (r0), a_i (x1), a_i (x2), a_l (l3), a_x false, a_i (x5), a_i (x6)] [a_i (y0)] (k, u, g, t) = if (y0 : Int) ≠ (x2 : Int) then a_X 205 6 [a_r (r0), a_i (x1), a_i (x2), a_l (l3), a_x false, a_i (x5), a_i (wr (x6 + 1))] [] (k, u, g, t) else if (k r0).1 = 11 then (a_m 195 [a_r (r0), a_i (x6)] (k, u, g, t)).bind (a_back 205 33 3 [a_r (r0), a_i (x1), a_i (x2), a_l (l3), a_x false, a_i (x5), a_i (x6)] []) else none := by
  refine (X_iload_n (m := 205) (pc := 26) (n := 2) (by decide +kernel) rfl).trans ?_
  refine (X_ic_ne (m := 205) (pc := 27) (off := 40) (tg := 67) (by decide +kernel) (by decide +kernel)).trans ?_
  refine ite_congr rfl (fun _ => ?_) (fun _ => ?_)
  · refine (X_iinc (m := 205) (pc := 67) (n := 6) (c := 1) (by decide +kernel) rfl rfl (Nat.le_of_ble_eq_true rfl) rfl).trans ?_
    refine (X_goto (m := 205) (pc := 70) (off := -64) (tg := 6) (by decide +kernel) (by decide +kernel)).trans ?_
    rfl
  · refine (X_aload_n (m := 205) (pc := 30) (n := 0) (by decide +kernel) rfl).trans ?_
    refine (X_iload (m := 205) (pc := 31) (n := 6) (by decide +kernel) rfl).trans ?_
    refine (X_call_vi (m := 205) (pc := 33) (q := 196) (y := 195) (n := 2) (as := [a_r (r0), a_i (x6)]) (rest := []) (by decide +kernel) (by decide +kernel) (by decide +kernel) (by decide +kernel) rfl rfl (Nat.le_of_ble_eq_true rfl) (Nat.le_of_ble_eq_true rfl) rfl (by rw [show m_maxL 195 = 2 from by decide +kernel]; exact Nat.le_of_ble_eq_true rfl)).trans ?_
    exact ite_congr (by simp [a_rcv, show m_recv 195 = 11 from by decide +kernel]) (fun _ => rfl) (fun _ => rfl)
theorem B_X11_nextDue_36 {k : Nat → Nat × Nat} {u : Nat → Nat → Int} {g : Nat → Nat → Nat} {t : Nat × Nat × Nat} {r0 : Nat} {x1 : Int} {x2 : Int} {l3 : Int} {x5 : Int} {x6 : Int} {w0 : Int} : a_X 205 36 [a_r (r0), a_i (x1), a_i (x2), a_l (l3), a_x false, a_i (x5), a_i (x6)] [a_l (w0)] (k, u, g, t) = if (if (w0) < (l3) then -1 else if (w0) = (l3) then 0 else 1 : Int) ≤ 0 then a_X 205 6 [a_r (r0), a_i (x1), a_i (x2), a_l (l3), a_x false, a_i (x5), a_i (wr (x6 + 1))] [] (k, u, g, t) else if (x5 : Int) = (-1 : Int) then a_X 205 6 [a_r (r0), a_i (x1), a_i (x2), a_l (l3), a_x false, a_i (x6), a_i (wr (x6 + 1))] [] (k, u, g, t) else if (k r0).1 = 11 then (a_m 195 [a_r (r0), a_i (x6)] (k, u, g, t)).bind (a_back 205 50 3 [a_r (r0), a_i (x1), a_i (x2), a_l (l3), a_x false, a_i (x5), a_i (x6)] []) else none := by
  refine (X_lload_n (m := 205) (pc := 36) (n := 3) (by decide +kernel) rfl).trans ?_
  refine (X_lcmp (m := 205) (pc := 37)  (by decide +kernel) ).trans ?_
  refine (X_if_le (m := 205) (pc := 38) (off := 29) (tg := 67) (by decide +kernel) (by decide +kernel)).trans ?_
  refine ite_congr rfl (fun _ => ?_) (fun _ => ?_)
  · refine (X_iinc (m := 205) (pc := 67) (n := 6) (c := 1) (by decide +kernel) rfl rfl (Nat.le_of_ble_eq_true rfl) rfl).trans ?_
    refine (X_goto (m := 205) (pc := 70) (off := -64) (tg := 6) (by decide +kernel) (by decide +kernel)).trans ?_
    rfl
  · refine (X_iload (m := 205) (pc := 41) (n := 5) (by decide +kernel) rfl).trans ?_
    refine (X_iconst (m := 205) (pc := 43) (n := -1) (by decide +kernel) ).trans ?_
    refine (X_ic_eq (m := 205) (pc := 44) (off := 19) (tg := 63) (by decide +kernel) (by decide +kernel)).trans ?_
    refine ite_congr rfl (fun _ => ?_) (fun _ => ?_)
    · refine (X_iload (m := 205) (pc := 63) (n := 6) (by decide +kernel) rfl).trans ?_
      refine (X_istore (m := 205) (pc := 65) (n := 5) (by decide +kernel) rfl (Nat.le_of_ble_eq_true rfl) rfl).trans ?_
      refine (X_iinc (m := 205) (pc := 67) (n := 6) (c := 1) (by decide +kernel) rfl rfl (Nat.le_of_ble_eq_true rfl) rfl).trans ?_
      refine (X_goto (m := 205) (pc := 70) (off := -64) (tg := 6) (by decide +kernel) (by decide +kernel)).trans ?_
      rfl
    · refine (X_aload_n (m := 205) (pc := 47) (n := 0) (by decide +kernel) rfl).trans ?_
      refine (X_iload (m := 205) (pc := 48) (n := 6) (by decide +kernel) rfl).trans ?_
      refine (X_call_vi (m := 205) (pc := 50) (q := 196) (y := 195) (n := 2) (as := [a_r (r0), a_i (x6)]) (rest := []) (by decide +kernel) (by decide +kernel) (by decide +kernel) (by decide +kernel) rfl rfl (Nat.le_of_ble_eq_true rfl) (Nat.le_of_ble_eq_true rfl) rfl (by rw [show m_maxL 195 = 2 from by decide +kernel]; exact Nat.le_of_ble_eq_true rfl)).trans ?_
      exact ite_congr (by simp [a_rcv, show m_recv 195 = 11 from by decide +kernel]) (fun _ => rfl) (fun _ => rfl)
theorem B_X11_nextDue_53 {k : Nat → Nat × Nat} {u : Nat → Nat → Int} {g : Nat → Nat → Nat} {t : Nat × Nat × Nat} {r0 : Nat} {x1 : Int} {x2 : Int} {l3 : Int} {x5 : Int} {x6 : Int} {w0 : Int} : a_X 205 53 [a_r (r0), a_i (x1), a_i (x2), a_l (l3), a_x false, a_i (x5), a_i (x6)] [a_l (w0)] (k, u, g, t) = if (k r0).1 = 11 then (a_m 195 [a_r (r0), a_i (x5)] (k, u, g, t)).bind (a_back 205 56 3 [a_r (r0), a_i (x1), a_i (x2), a_l (l3), a_x false, a_i (x5), a_i (x6)] [a_l (w0)]) else none := by
  refine (X_aload_n (m := 205) (pc := 53) (n := 0) (by decide +kernel) rfl).trans ?_
  refine (X_iload (m := 205) (pc := 54) (n := 5) (by decide +kernel) rfl).trans ?_
  refine (X_call_vi (m := 205) (pc := 56) (q := 196) (y := 195) (n := 2) (as := [a_r (r0), a_i (x5)]) (rest := [a_l (w0)]) (by decide +kernel) (by decide +kernel) (by decide +kernel) (by decide +kernel) rfl rfl (Nat.le_of_ble_eq_true rfl) (Nat.le_of_ble_eq_true rfl) rfl (by rw [show m_maxL 195 = 2 from by decide +kernel]; exact Nat.le_of_ble_eq_true rfl)).trans ?_
  exact ite_congr (by simp [a_rcv, show m_recv 195 = 11 from by decide +kernel]) (fun _ => rfl) (fun _ => rfl)
theorem B_X11_nextDue_59 {k : Nat → Nat × Nat} {u : Nat → Nat → Int} {g : Nat → Nat → Nat} {t : Nat × Nat × Nat} {r0 : Nat} {x1 : Int} {x2 : Int} {l3 : Int} {x5 : Int} {x6 : Int} {w0 : Int} {w1 : Int} : a_X 205 59 [a_r (r0), a_i (x1), a_i (x2), a_l (l3), a_x false, a_i (x5), a_i (x6)] [a_l (w1), a_l (w0)] (k, u, g, t) = if (if (w0) < (w1) then -1 else if (w0) = (w1) then 0 else 1 : Int) ≥ 0 then a_X 205 6 [a_r (r0), a_i (x1), a_i (x2), a_l (l3), a_x false, a_i (x5), a_i (wr (x6 + 1))] [] (k, u, g, t) else a_X 205 6 [a_r (r0), a_i (x1), a_i (x2), a_l (l3), a_x false, a_i (x6), a_i (wr (x6 + 1))] [] (k, u, g, t) := by
  refine (X_lcmp (m := 205) (pc := 59)  (by decide +kernel) ).trans ?_
  refine (X_if_ge (m := 205) (pc := 60) (off := 7) (tg := 67) (by decide +kernel) (by decide +kernel)).trans ?_
  refine ite_congr rfl (fun _ => ?_) (fun _ => ?_)
  · refine (X_iinc (m := 205) (pc := 67) (n := 6) (c := 1) (by decide +kernel) rfl rfl (Nat.le_of_ble_eq_true rfl) rfl).trans ?_
    refine (X_goto (m := 205) (pc := 70) (off := -64) (tg := 6) (by decide +kernel) (by decide +kernel)).trans ?_
    rfl
  · refine (X_iload (m := 205) (pc := 63) (n := 6) (by decide +kernel) rfl).trans ?_
    refine (X_istore (m := 205) (pc := 65) (n := 5) (by decide +kernel) rfl (Nat.le_of_ble_eq_true rfl) rfl).trans ?_
    refine (X_iinc (m := 205) (pc := 67) (n := 6) (c := 1) (by decide +kernel) rfl rfl (Nat.le_of_ble_eq_true rfl) rfl).trans ?_
    refine (X_goto (m := 205) (pc := 70) (off := -64) (tg := 6) (by decide +kernel) (by decide +kernel)).trans ?_
    rfl
theorem E_X11_listens {σ : AS} {r0 : Nat} {x1 : Int} {x2 : Int} {x3 : Int} : a_m 206 [a_r (r0), a_i (x1), a_i (x2), a_i (x3)] σ = a_X 206 0 [a_r (r0), a_i (x1), a_i (x2), a_i (x3), a_x false] [] σ := a_m_eq (by rw [a_entry, show m_maxL 206 = 5 from by decide +kernel]; rfl)
theorem B_X11_listens_0 {k : Nat → Nat × Nat} {u : Nat → Nat → Int} {g : Nat → Nat → Nat} {t : Nat × Nat × Nat} {r0 : Nat} {x1 : Int} {x2 : Int} {x3 : Int} {v4 : AV} : a_X 206 0 [a_r (r0), a_i (x1), a_i (x2), a_i (x3), v4] [] (k, u, g, t) = if (k r0).1 = 11 then (a_m 205 [a_r (r0), a_i (x1), a_i (x2), a_l (-1)] (k, u, g, t)).bind (a_back 206 6 3 [a_r (r0), a_i (x1), a_i (x2), a_i (x3), v4] []) else none := by
  refine (X_aload_n (m := 206) (pc := 0) (n := 0) (by decide +kernel) rfl).trans ?_
  refine (X_iload_n (m := 206) (pc := 1) (n := 1) (by decide +kernel) rfl).trans ?_
  refine (X_iload_n (m := 206) (pc := 2) (n := 2) (by decide +kernel) rfl).trans ?_
  refine (X_ldc2 (m := 206) (pc := 3) (n := 65) (z := -1) (by decide +kernel) (by decide +kernel)).trans ?_
  refine (X_call_vi (m := 206) (pc := 6) (q := 233) (y := 205) (n := 4) (as := [a_r (r0), a_i (x1), a_i (x2), a_l (-1)]) (rest := []) (by decide +kernel) (by decide +kernel) (by decide +kernel) (by decide +kernel) rfl rfl (Nat.le_of_ble_eq_true rfl) (Nat.le_of_ble_eq_true rfl) rfl (by rw [show m_maxL 205 = 7 from by decide +kernel]; exact Nat.le_of_ble_eq_true rfl)).trans ?_
  exact ite_congr (by simp [a_rcv, show m_recv 205 = 11 from by decide +kernel]) (fun _ => rfl) (fun _ => rfl)
theorem B_X11_listens_9 {k : Nat → Nat × Nat} {u : Nat → Nat → Int} {g : Nat → Nat → Nat} {t : Nat × Nat × Nat} {r0 : Nat} {x1 : Int} {x2 : Int} {x3 : Int} {v4 : AV} {y0 : Int} : a_X 206 9 [a_r (r0), a_i (x1), a_i (x2), a_i (x3), v4] [a_i (y0)] (k, u, g, t) = a_X 206 11 [a_r (r0), a_i (x1), a_i (x2), a_i (x3), a_i (y0)] [] (k, u, g, t) := by
  refine (X_istore (m := 206) (pc := 9) (n := 4) (by decide +kernel) rfl (Nat.le_of_ble_eq_true rfl) rfl).trans ?_
  rfl
theorem B_X11_listens_11 {k : Nat → Nat × Nat} {u : Nat → Nat → Int} {g : Nat → Nat → Nat} {t : Nat × Nat × Nat} {r0 : Nat} {x1 : Int} {x2 : Int} {x3 : Int} {x4 : Int} : a_X 206 11 [a_r (r0), a_i (x1), a_i (x2), a_i (x3), a_i (x4)] [] (k, u, g, t) = if (x4 : Int) = (-1 : Int) then some (.inl none, (k, u, g, t)) else if (x3 : Int) = 0 then if (k r0).1 = 11 then (a_m 204 [a_r (r0), a_i (x1), a_i (x4)] (k, u, g, t)).bind (a_back 206 35 3 [a_r (r0), a_i (x1), a_i (x2), a_i (x3), a_i (x4)] []) else none else if (k r0).1 = 11 then (a_m 168 [a_r (r0), a_i (x1), a_i (14)] (k, u, g, t)).bind (a_back 206 25 3 [a_r (r0), a_i (x1), a_i (x2), a_i (x3), a_i (x4)] []) else none := by
  refine (X_iload (m := 206) (pc := 11) (n := 4) (by decide +kernel) rfl).trans ?_
  refine (X_iconst (m := 206) (pc := 13) (n := -1) (by decide +kernel) ).trans ?_
  refine (X_ic_eq (m := 206) (pc := 14) (off := 41) (tg := 55) (by decide +kernel) (by decide +kernel)).trans ?_
  refine ite_congr rfl (fun _ => ?_) (fun _ => ?_)
  · exact X_return (m := 206) (pc := 55) (by decide +kernel) (by decide +kernel)
  · refine (X_iload_n (m := 206) (pc := 17) (n := 3) (by decide +kernel) rfl).trans ?_
    refine (X_if_eq (m := 206) (pc := 18) (off := 13) (tg := 31) (by decide +kernel) (by decide +kernel)).trans ?_
    refine ite_congr rfl (fun _ => ?_) (fun _ => ?_)
    · refine (X_aload_n (m := 206) (pc := 31) (n := 0) (by decide +kernel) rfl).trans ?_
      refine (X_iload_n (m := 206) (pc := 32) (n := 1) (by decide +kernel) rfl).trans ?_
      refine (X_iload (m := 206) (pc := 33) (n := 4) (by decide +kernel) rfl).trans ?_
      refine (X_call_vi (m := 206) (pc := 35) (q := 237) (y := 204) (n := 3) (as := [a_r (r0), a_i (x1), a_i (x4)]) (rest := []) (by decide +kernel) (by decide +kernel) (by decide +kernel) (by decide +kernel) rfl rfl (Nat.le_of_ble_eq_true rfl) (Nat.le_of_ble_eq_true rfl) rfl (by rw [show m_maxL 204 = 3 from by decide +kernel]; exact Nat.le_of_ble_eq_true rfl)).trans ?_
      exact ite_congr (by simp [a_rcv, show m_recv 204 = 11 from by decide +kernel]) (fun _ => rfl) (fun _ => rfl)
    · refine (X_aload_n (m := 206) (pc := 21) (n := 0) (by decide +kernel) rfl).trans ?_
      refine (X_iload_n (m := 206) (pc := 22) (n := 1) (by decide +kernel) rfl).trans ?_
      refine (X_bipush (m := 206) (pc := 23) (n := 14) (by decide +kernel) ).trans ?_
      refine (X_call_vi (m := 206) (pc := 25) (q := 221) (y := 168) (n := 3) (as := [a_r (r0), a_i (x1), a_i (14)]) (rest := []) (by decide +kernel) (by decide +kernel) (by decide +kernel) (by decide +kernel) rfl rfl (Nat.le_of_ble_eq_true rfl) (Nat.le_of_ble_eq_true rfl) rfl (by rw [show m_maxL 168 = 3 from by decide +kernel]; exact Nat.le_of_ble_eq_true rfl)).trans ?_
      exact ite_congr (by simp [a_rcv, show m_recv 168 = 11 from by decide +kernel]) (fun _ => rfl) (fun _ => rfl)
theorem B_X11_listens_38 {k : Nat → Nat × Nat} {u : Nat → Nat → Int} {g : Nat → Nat → Nat} {t : Nat × Nat × Nat} {r0 : Nat} {x1 : Int} {x2 : Int} {x3 : Int} {x4 : Int} : a_X 206 38 [a_r (r0), a_i (x1), a_i (x2), a_i (x3), a_i (x4)] [] (k, u, g, t) = if (k r0).1 = 11 then (a_m 195 [a_r (r0), a_i (x4)] (k, u, g, t)).bind (a_back 206 44 3 [a_r (r0), a_i (x1), a_i (x2), a_i (x3), a_i (x4)] [a_i (x2), a_i (x1), a_r (r0)]) else none := by
  refine (X_aload_n (m := 206) (pc := 38) (n := 0) (by decide +kernel) rfl).trans ?_
  refine (X_iload_n (m := 206) (pc := 39) (n := 1) (by decide +kernel) rfl).trans ?_
  refine (X_iload_n (m := 206) (pc := 40) (n := 2) (by decide +kernel) rfl).trans ?_
  refine (X_aload_n (m := 206) (pc := 41) (n := 0) (by decide +kernel) rfl).trans ?_
  refine (X_iload (m := 206) (pc := 42) (n := 4) (by decide +kernel) rfl).trans ?_
  refine (X_call_vi (m := 206) (pc := 44) (q := 196) (y := 195) (n := 2) (as := [a_r (r0), a_i (x4)]) (rest := [a_i (x2), a_i (x1), a_r (r0)]) (by decide +kernel) (by decide +kernel) (by decide +kernel) (by decide +kernel) rfl rfl (Nat.le_of_ble_eq_true rfl) (Nat.le_of_ble_eq_true rfl) rfl (by rw [show m_maxL 195 = 2 from by decide +kernel]; exact Nat.le_of_ble_eq_true rfl)).trans ?_
  exact ite_congr (by simp [a_rcv, show m_recv 195 = 11 from by decide +kernel]) (fun _ => rfl) (fun _ => rfl)
theorem B_X11_listens_28 {k : Nat → Nat × Nat} {u : Nat → Nat → Int} {g : Nat → Nat → Nat} {t : Nat × Nat × Nat} {r0 : Nat} {x1 : Int} {x2 : Int} {x3 : Int} {x4 : Int} : a_X 206 28 [a_r (r0), a_i (x1), a_i (x2), a_i (x3), a_i (x4)] [] (k, u, g, t) = if (k r0).1 = 11 then (a_m 195 [a_r (r0), a_i (x4)] (k, u, g, t)).bind (a_back 206 44 3 [a_r (r0), a_i (x1), a_i (x2), a_i (x3), a_i (x4)] [a_i (x2), a_i (x1), a_r (r0)]) else none := by
  refine (X_goto (m := 206) (pc := 28) (off := 10) (tg := 38) (by decide +kernel) (by decide +kernel)).trans ?_
  refine (X_aload_n (m := 206) (pc := 38) (n := 0) (by decide +kernel) rfl).trans ?_
  refine (X_iload_n (m := 206) (pc := 39) (n := 1) (by decide +kernel) rfl).trans ?_
  refine (X_iload_n (m := 206) (pc := 40) (n := 2) (by decide +kernel) rfl).trans ?_
  refine (X_aload_n (m := 206) (pc := 41) (n := 0) (by decide +kernel) rfl).trans ?_
  refine (X_iload (m := 206) (pc := 42) (n := 4) (by decide +kernel) rfl).trans ?_
  refine (X_call_vi (m := 206) (pc := 44) (q := 196) (y := 195) (n := 2) (as := [a_r (r0), a_i (x4)]) (rest := [a_i (x2), a_i (x1), a_r (r0)]) (by decide +kernel) (by decide +kernel) (by decide +kernel) (by decide +kernel) rfl rfl (Nat.le_of_ble_eq_true rfl) (Nat.le_of_ble_eq_true rfl) rfl (by rw [show m_maxL 195 = 2 from by decide +kernel]; exact Nat.le_of_ble_eq_true rfl)).trans ?_
  exact ite_congr (by simp [a_rcv, show m_recv 195 = 11 from by decide +kernel]) (fun _ => rfl) (fun _ => rfl)
theorem B_X11_listens_47 {k : Nat → Nat × Nat} {u : Nat → Nat → Int} {g : Nat → Nat → Nat} {t : Nat × Nat × Nat} {r0 : Nat} {x1 : Int} {x2 : Int} {x3 : Int} {x4 : Int} {q0 : Nat} {y1 : Int} {y2 : Int} {w3 : Int} : a_X 206 47 [a_r (r0), a_i (x1), a_i (x2), a_i (x3), a_i (x4)] [a_l (w3), a_i (y2), a_i (y1), a_r (q0)] (k, u, g, t) = if (k q0).1 = 11 then (a_m 205 [a_r (q0), a_i (y1), a_i (y2), a_l (w3)] (k, u, g, t)).bind (a_back 206 47 3 [a_r (r0), a_i (x1), a_i (x2), a_i (x3), a_i (x4)] []) else none := by
  refine (X_call_vi (m := 206) (pc := 47) (q := 233) (y := 205) (n := 4) (as := [a_r (q0), a_i (y1), a_i (y2), a_l (w3)]) (rest := []) (by decide +kernel) (by decide +kernel) (by decide +kernel) (by decide +kernel) rfl rfl (Nat.le_of_ble_eq_true rfl) (Nat.le_of_ble_eq_true rfl) rfl (by rw [show m_maxL 205 = 7 from by decide +kernel]; exact Nat.le_of_ble_eq_true rfl)).trans ?_
  exact ite_congr (by simp [a_rcv, show m_recv 205 = 11 from by decide +kernel]) (fun _ => rfl) (fun _ => rfl)
theorem B_X11_listens_50 {k : Nat → Nat × Nat} {u : Nat → Nat → Int} {g : Nat → Nat → Nat} {t : Nat × Nat × Nat} {r0 : Nat} {x1 : Int} {x2 : Int} {x3 : Int} {x4 : Int} {y0 : Int} : a_X 206 50 [a_r (r0), a_i (x1), a_i (x2), a_i (x3), a_i (x4)] [a_i (y0)] (k, u, g, t) = a_X 206 11 [a_r (r0), a_i (x1), a_i (x2), a_i (x3), a_i (y0)] [] (k, u, g, t) := by
  refine (X_istore (m := 206) (pc := 50) (n := 4) (by decide +kernel) rfl (Nat.le_of_ble_eq_true rfl) rfl).trans ?_
  refine (X_goto (m := 206) (pc := 52) (off := -41) (tg := 11) (by decide +kernel) (by decide +kernel)).trans ?_
  rfl
theorem E_X11_ticks {σ : AS} {r0 : Nat} : a_m 207 [a_r (r0)] σ = a_X 207 0 [a_r (r0), a_x false] [] σ := a_m_eq (by rw [a_entry, show m_maxL 207 = 2 from by decide +kernel]; rfl)
theorem B_X11_ticks_0 {k : Nat → Nat × Nat} {u : Nat → Nat → Int} {g : Nat → Nat → Nat} {t : Nat × Nat × Nat} {r0 : Nat} {v1 : AV} : a_X 207 0 [a_r (r0), v1] [] (k, u, g, t) = if (k r0).1 = 11 then if ((k (g r0 2)).1 = 20 ∨ (k (g r0 2)).1 = 24) ∧ 0 ≤ (1 : Int) ∧ (1 : Int) < ((k (g r0 2)).2 : Int) then if (k (g r0 2)).1 = 20 ∧ 0 ≤ (1 : Int) ∧ (1 : Int) < ((k (g r0 2)).2 : Int) then if (k r0).1 = 11 then if ((k (g r0 2)).1 = 20 ∨ (k (g r0 2)).1 = 24) ∧ 0 ≤ (0 : Int) ∧ (0 : Int) < ((k (g r0 2)).2 : Int) then if ((upm u (g r0 2) (1 : Int).toNat (wr ((u (g r0 2) (1 : Int).toNat) + 1))) (g r0 2) (0 : Int).toNat : Int) ≤ 0 then a_X 207 70 [a_r (r0), a_i (0)] [] (k, (upm u (g r0 2) (1 : Int).toNat (wr ((u (g r0 2) (1 : Int).toNat) + 1))), g, t) else if (k r0).1 = 11 then if ((k (g r0 2)).1 = 20 ∨ (k (g r0 2)).1 = 24) ∧ 0 ≤ (1 : Int) ∧ (1 : Int) < ((k (g r0 2)).2 : Int) then if (k r0).1 = 11 then if ((k (g r0 2)).1 = 20 ∨ (k (g r0 2)).1 = 24) ∧ 0 ≤ (0 : Int) ∧ (0 : Int) < ((k (g r0 2)).2 : Int) then if ((upm u (g r0 2) (1 : Int).toNat (wr ((u (g r0 2) (1 : Int).toNat) + 1))) (g r0 2) (0 : Int).toNat : Int) ≠ 0 then if (Int.tmod ((upm u (g r0 2) (1 : Int).toNat (wr ((u (g r0 2) (1 : Int).toNat) + 1))) (g r0 2) (1 : Int).toNat) ((upm u (g r0 2) (1 : Int).toNat (wr ((u (g r0 2) (1 : Int).toNat) + 1))) (g r0 2) (0 : Int).toNat) : Int) ≠ 0 then a_X 207 70 [a_r (r0), a_i (0)] [] (k, (upm u (g r0 2) (1 : Int).toNat (wr ((u (g r0 2) (1 : Int).toNat) + 1))), g, t) else if (k r0).1 = 11 then (a_m 192 [a_r (r0)] (k, (upm u (g r0 2) (1 : Int).toNat (wr ((u (g r0 2) (1 : Int).toNat) + 1))), g, t)).bind (a_back 207 36 3 [a_r (r0), v1] []) else none else none else none else none else none else none else none else none else none else none else none := by
  refine (X_aload_n (m := 207) (pc := 0) (n := 0) (by decide +kernel) rfl).trans ?_
  refine (X_getR (m := 207) (pc := 1) (n := 7) (c := 11) (q := 2) (fi := true) (by decide +kernel) (by decide +kernel)).trans ?_
  refine ite_congr rfl (fun _ => ?_) (fun _ => rfl)
  refine (X_iconst (m := 207) (pc := 4) (n := 1) (by decide +kernel) ).trans ?_
  refine (X_dup2 (m := 207) (pc := 5)  (by decide +kernel) rfl rfl rfl rfl).trans ?_
  refine (X_iaload (m := 207) (pc := 6)  (by decide +kernel) ).trans ?_
  refine ite_congr rfl (fun _ => ?_) (fun _ => rfl)
  refine (X_iconst (m := 207) (pc := 7) (n := 1) (by decide +kernel) ).trans ?_
  refine (X_iadd (m := 207) (pc := 8)  (by decide +kernel) ).trans ?_
  refine (X_iastore (m := 207) (pc := 9)  (by decide +kernel) ).trans ?_
  refine ite_congr rfl (fun _ => ?_) (fun _ => rfl)
  refine (X_aload_n (m := 207) (pc := 10) (n := 0) (by decide +kernel) rfl).trans ?_
  refine (X_getR (m := 207) (pc := 11) (n := 7) (c := 11) (q := 2) (fi := true) (by decide +kernel) (by decide +kernel)).trans ?_
  refine ite_congr rfl (fun _ => ?_) (fun _ => rfl)
  refine (X_iconst (m := 207) (pc := 14) (n := 0) (by decide +kernel) ).trans ?_
  refine (X_iaload (m := 207) (pc := 15)  (by decide +kernel) ).trans ?_
  refine ite_congr rfl (fun _ => ?_) (fun _ => rfl)
  refine (X_if_le (m := 207) (pc := 16) (off := 52) (tg := 68) (by decide +kernel) (by decide +kernel)).trans ?_
  refine ite_congr rfl (fun _ => ?_) (fun _ => ?_)
  · refine (X_iconst (m := 207) (pc := 68) (n := 0) (by decide +kernel) ).trans ?_
    refine (X_istore_n (m := 207) (pc := 69) (n := 1) (by decide +kernel) rfl (Nat.le_of_ble_eq_true rfl) rfl).trans ?_
    rfl
  · refine (X_aload_n (m := 207) (pc := 19) (n := 0) (by decide +kernel) rfl).trans ?_
    refine (X_getR (m := 207) (pc := 20) (n := 7) (c := 11) (q := 2) (fi := true) (by decide +kernel) (by decide +kernel)).trans ?_
    refine ite_congr rfl (fun _ => ?_) (fun _ => rfl)
    refine (X_iconst (m := 207) (pc := 23) (n := 1) (by decide +kernel) ).trans ?_
    refine (X_iaload (m := 207) (pc := 24)  (by decide +kernel) ).trans ?_
    refine ite_congr rfl (fun _ => ?_) (fun _ => rfl)
    refine (X_aload_n (m := 207) (pc := 25) (n := 0) (by decide +kernel) rfl).trans ?_
    refine (X_getR (m := 207) (pc := 26) (n := 7) (c := 11) (q := 2) (fi := true) (by decide +kernel) (by decide +kernel)).trans ?_
    refine ite_congr rfl (fun _ => ?_) (fun _ => rfl)
    refine (X_iconst (m := 207) (pc := 29) (n := 0) (by decide +kernel) ).trans ?_
    refine (X_iaload (m := 207) (pc := 30)  (by decide +kernel) ).trans ?_
    refine ite_congr rfl (fun _ => ?_) (fun _ => rfl)
    refine (X_irem (m := 207) (pc := 31)  (by decide +kernel) ).trans ?_
    refine ite_congr rfl (fun _ => ?_) (fun _ => rfl)
    refine (X_if_ne (m := 207) (pc := 32) (off := 36) (tg := 68) (by decide +kernel) (by decide +kernel)).trans ?_
    refine ite_congr rfl (fun _ => ?_) (fun _ => ?_)
    · refine (X_iconst (m := 207) (pc := 68) (n := 0) (by decide +kernel) ).trans ?_
      refine (X_istore_n (m := 207) (pc := 69) (n := 1) (by decide +kernel) rfl (Nat.le_of_ble_eq_true rfl) rfl).trans ?_
      rfl
    · refine (X_aload_n (m := 207) (pc := 35) (n := 0) (by decide +kernel) rfl).trans ?_
      refine (X_call_vi (m := 207) (pc := 36) (q := 239) (y := 192) (n := 1) (as := [a_r (r0)]) (rest := []) (by decide +kernel) (by decide +kernel) (by decide +kernel) (by decide +kernel) rfl rfl (Nat.le_of_ble_eq_true rfl) (Nat.le_of_ble_eq_true rfl) rfl (by rw [show m_maxL 192 = 1 from by decide +kernel]; exact Nat.le_of_ble_eq_true rfl)).trans ?_
      exact ite_congr (by simp [a_rcv, show m_recv 192 = 11 from by decide +kernel]) (fun _ => rfl) (fun _ => rfl)
theorem B_X11_ticks_70 {k : Nat → Nat × Nat} {u : Nat → Nat → Int} {g : Nat → Nat → Nat} {t : Nat × Nat × Nat} {r0 : Nat} {x1 : Int} : a_X 207 70 [a_r (r0), a_i (x1)] [] (k, u, g, t) = if (k r0).1 = 11 then if ((k (g r0 2)).1 = 20 ∨ (k (g r0 2)).1 = 24) ∧ 0 ≤ (3 : Int) ∧ (3 : Int) < ((k (g r0 2)).2 : Int) then if (x1 : Int) ≥ (u (g r0 2) (3 : Int).toNat : Int) then if (k r0).1 = 11 then (a_m 199 [a_r (r0)] (k, u, g, t)).bind (a_back 207 109 3 [a_r (r0), a_i (x1)] []) else none else if (k r0).1 = 11 then if ((k (g r0 2)).1 = 20 ∨ (k (g r0 2)).1 = 24) ∧ 0 ≤ (1 : Int) ∧ (1 : Int) < ((k (g r0 2)).2 : Int) then if (k r0).1 = 11 then if ((k (g r0 2)).1 = 20 ∨ (k (g r0 2)).1 = 24) ∧ 0 ≤ (1 : Int) ∧ (1 : Int) < ((k (g r0 2)).2 : Int) then if (k r0).1 = 11 then (a_m 200 [a_r (r0), a_i (x1), a_i (u (g r0 2) (1 : Int).toNat)] (k, u, g, t)).bind (a_back 207 96 3 [a_r (r0), a_i (x1)] [a_i (u (g r0 2) (1 : Int).toNat), a_i (x1), a_r (r0)]) else none else none else none else none else none else none else none := by
  refine (X_iload_n (m := 207) (pc := 70) (n := 1) (by decide +kernel) rfl).trans ?_
  refine (X_aload_n (m := 207) (pc := 71) (n := 0) (by decide +kernel) rfl).trans ?_
  refine (X_getR (m := 207) (pc := 72) (n := 7) (c := 11) (q := 2) (fi := true) (by decide +kernel) (by decide +kernel)).trans ?_
  refine ite_congr rfl (fun _ => ?_) (fun _ => rfl)
  refine (X_iconst (m := 207) (pc := 75) (n := 3) (by decide +kernel) ).trans ?_
  refine (X_iaload (m := 207) (pc := 76)  (by decide +kernel) ).trans ?_
  refine ite_congr rfl (fun _ => ?_) (fun _ => rfl)
  refine (X_ic_ge (m := 207) (pc := 77) (off := 31) (tg := 108) (by decide +kernel) (by decide +kernel)).trans ?_
  refine ite_congr rfl (fun _ => ?_) (fun _ => ?_)
  · refine (X_aload_n (m := 207) (pc := 108) (n := 0) (by decide +kernel) rfl).trans ?_
    refine (X_call_vi (m := 207) (pc := 109) (q := 252) (y := 199) (n := 1) (as := [a_r (r0)]) (rest := []) (by decide +kernel) (by decide +kernel) (by decide +kernel) (by decide +kernel) rfl rfl (Nat.le_of_ble_eq_true rfl) (Nat.le_of_ble_eq_true rfl) rfl (by rw [show m_maxL 199 = 3 from by decide +kernel]; exact Nat.le_of_ble_eq_true rfl)).trans ?_
    exact ite_congr (by simp [a_rcv, show m_recv 199 = 11 from by decide +kernel]) (fun _ => rfl) (fun _ => rfl)
  · refine (X_aload_n (m := 207) (pc := 80) (n := 0) (by decide +kernel) rfl).trans ?_
    refine (X_iload_n (m := 207) (pc := 81) (n := 1) (by decide +kernel) rfl).trans ?_
    refine (X_aload_n (m := 207) (pc := 82) (n := 0) (by decide +kernel) rfl).trans ?_
    refine (X_getR (m := 207) (pc := 83) (n := 7) (c := 11) (q := 2) (fi := true) (by decide +kernel) (by decide +kernel)).trans ?_
    refine ite_congr rfl (fun _ => ?_) (fun _ => rfl)
    refine (X_iconst (m := 207) (pc := 86) (n := 1) (by decide +kernel) ).trans ?_
    refine (X_iaload (m := 207) (pc := 87)  (by decide +kernel) ).trans ?_
    refine ite_congr rfl (fun _ => ?_) (fun _ => rfl)
    refine (X_aload_n (m := 207) (pc := 88) (n := 0) (by decide +kernel) rfl).trans ?_
    refine (X_iload_n (m := 207) (pc := 89) (n := 1) (by decide +kernel) rfl).trans ?_
    refine (X_aload_n (m := 207) (pc := 90) (n := 0) (by decide +kernel) rfl).trans ?_
    refine (X_getR (m := 207) (pc := 91) (n := 7) (c := 11) (q := 2) (fi := true) (by decide +kernel) (by decide +kernel)).trans ?_
    refine ite_congr rfl (fun _ => ?_) (fun _ => rfl)
    refine (X_iconst (m := 207) (pc := 94) (n := 1) (by decide +kernel) ).trans ?_
    refine (X_iaload (m := 207) (pc := 95)  (by decide +kernel) ).trans ?_
    refine ite_congr rfl (fun _ => ?_) (fun _ => rfl)
    refine (X_call_vi (m := 207) (pc := 96) (q := 245) (y := 200) (n := 3) (as := [a_r (r0), a_i (x1), a_i (u (g r0 2) (1 : Int).toNat)]) (rest := [a_i (u (g r0 2) (1 : Int).toNat), a_i (x1), a_r (r0)]) (by decide +kernel) (by decide +kernel) (by decide +kernel) (by decide +kernel) rfl rfl (Nat.le_of_ble_eq_true rfl) (Nat.le_of_ble_eq_true rfl) rfl (by rw [show m_maxL 200 = 5 from by decide +kernel]; exact Nat.le_of_ble_eq_true rfl)).trans ?_
    exact ite_congr (by simp [a_rcv, show m_recv 200 = 11 from by decide +kernel]) (fun _ => rfl) (fun _ => rfl)
theorem B_X11_ticks_39 {k : Nat → Nat × Nat} {u : Nat → Nat → Int} {g : Nat → Nat → Nat} {t : Nat × Nat × Nat} {r0 : Nat} {v1 : AV} {y0 : Int} : a_X 207 39 [a_r (r0), v1] [a_i (y0)] (k, u, g, t) = if (y0 : Int) = 0 then if (k r0).1 = 11 then if ((k (g r0 2)).1 = 20 ∨ (k (g r0 2)).1 = 24) ∧ 0 ≤ (6 : Int) ∧ (6 : Int) < ((k (g r0 2)).2 : Int) then if (k (g r0 2)).1 = 20 ∧ 0 ≤ (6 : Int) ∧ (6 : Int) < ((k (g r0 2)).2 : Int) then a_X 207 70 [a_r (r0), a_i (0)] [] (k, (upm u (g r0 2) (6 : Int).toNat (wr ((u (g r0 2) (6 : Int).toNat) + 1))), g, t) else none else none else none else if (k r0).1 = 11 then if ((k (g r0 2)).1 = 20 ∨ (k (g r0 2)).1 = 24) ∧ 0 ≤ (2 : Int) ∧ (2 : Int) < ((k (g r0 2)).2 : Int) then if (k r0).1 = 11 then (a_m 193 [a_r (r0), a_i (1), a_i (u (g r0 2) (2 : Int).toNat), a_i (5)] (k, u, g, t)).bind (a_back 207 51 3 [a_r (r0), v1] []) else none else none else none := by
  refine (X_if_eq (m := 207) (pc := 39) (off := 18) (tg := 57) (by decide +kernel) (by decide +kernel)).trans ?_
  refine ite_congr rfl (fun _ => ?_) (fun _ => ?_)
  · refine (X_aload_n (m := 207) (pc := 57) (n := 0) (by decide +kernel) rfl).trans ?_
    refine (X_getR (m := 207) (pc := 58) (n := 7) (c := 11) (q := 2) (fi := true) (by decide +kernel) (by decide +kernel)).trans ?_
    refine ite_congr rfl (fun _ => ?_) (fun _ => rfl)
    refine (X_bipush (m := 207) (pc := 61) (n := 6) (by decide +kernel) ).trans ?_
    refine (X_dup2 (m := 207) (pc := 63)  (by decide +kernel) rfl rfl rfl rfl).trans ?_
    refine (X_iaload (m := 207) (pc := 64)  (by decide +kernel) ).trans ?_
    refine ite_congr rfl (fun _ => ?_) (fun _ => rfl)
    refine (X_iconst (m := 207) (pc := 65) (n := 1) (by decide +kernel) ).trans ?_
    refine (X_iadd (m := 207) (pc := 66)  (by decide +kernel) ).trans ?_
    refine (X_iastore (m := 207) (pc := 67)  (by decide +kernel) ).trans ?_
    refine ite_congr rfl (fun _ => ?_) (fun _ => rfl)
    refine (X_iconst (m := 207) (pc := 68) (n := 0) (by decide +kernel) ).trans ?_
    refine (X_istore_n (m := 207) (pc := 69) (n := 1) (by decide +kernel) rfl (Nat.le_of_ble_eq_true rfl) rfl).trans ?_
    rfl
  · refine (X_aload_n (m := 207) (pc := 42) (n := 0) (by decide +kernel) rfl).trans ?_
    refine (X_iconst (m := 207) (pc := 43) (n := 1) (by decide +kernel) ).trans ?_
    refine (X_aload_n (m := 207) (pc := 44) (n := 0) (by decide +kernel) rfl).trans ?_
    refine (X_getR (m := 207) (pc := 45) (n := 7) (c := 11) (q := 2) (fi := true) (by decide +kernel) (by decide +kernel)).trans ?_
    refine ite_congr rfl (fun _ => ?_) (fun _ => rfl)
    refine (X_iconst (m := 207) (pc := 48) (n := 2) (by decide +kernel) ).trans ?_
    refine (X_iaload (m := 207) (pc := 49)  (by decide +kernel) ).trans ?_
    refine ite_congr rfl (fun _ => ?_) (fun _ => rfl)
    refine (X_iconst (m := 207) (pc := 50) (n := 5) (by decide +kernel) ).trans ?_
    refine (X_call_vi (m := 207) (pc := 51) (q := 242) (y := 193) (n := 4) (as := [a_r (r0), a_i (1), a_i (u (g r0 2) (2 : Int).toNat), a_i (5)]) (rest := []) (by decide +kernel) (by decide +kernel) (by decide +kernel) (by decide +kernel) rfl rfl (Nat.le_of_ble_eq_true rfl) (Nat.le_of_ble_eq_true rfl) rfl (by rw [show m_maxL 193 = 6 from by decide +kernel]; exact Nat.le_of_ble_eq_true rfl)).trans ?_
    exact ite_congr (by simp [a_rcv, show m_recv 193 = 11 from by decide +kernel]) (fun _ => rfl) (fun _ => rfl)
theorem B_X11_ticks_112 {k : Nat → Nat × Nat} {u : Nat → Nat → Int} {g : Nat → Nat → Nat} {t : Nat × Nat × Nat} {r0 : Nat} {x1 : Int} : a_X 207 112 [a_r (r0), a_i (x1)] [] (k, u, g, t) = some (.inl none, (k, u, g, t)) := by
  exact X_return (m := 207) (pc := 112) (by decide +kernel) (by decide +kernel)
theorem B_X11_ticks_99 {k : Nat → Nat × Nat} {u : Nat → Nat → Int} {g : Nat → Nat → Nat} {t : Nat × Nat × Nat} {r0 : Nat} {x1 : Int} {q0 : Nat} {y1 : Int} {y2 : Int} {y3 : Int} : a_X 207 99 [a_r (r0), a_i (x1)] [a_i (y3), a_i (y2), a_i (y1), a_r (q0)] (k, u, g, t) = if (k q0).1 = 11 then (a_m 206 [a_r (q0), a_i (y1), a_i (y2), a_i (y3)] (k, u, g, t)).bind (a_back 207 99 3 [a_r (r0), a_i (x1)] []) else none := by
  refine (X_call_vi (m := 207) (pc := 99) (q := 248) (y := 206) (n := 4) (as := [a_r (q0), a_i (y1), a_i (y2), a_i (y3)]) (rest := []) (by decide +kernel) (by decide +kernel) (by decide +kernel) (by decide +kernel) rfl rfl (Nat.le_of_ble_eq_true rfl) (Nat.le_of_ble_eq_true rfl) rfl (by rw [show m_maxL 206 = 5 from by decide +kernel]; exact Nat.le_of_ble_eq_true rfl)).trans ?_
  exact ite_congr (by simp [a_rcv, show m_recv 206 = 11 from by decide +kernel]) (fun _ => rfl) (fun _ => rfl)
theorem B_X11_ticks_54 {k : Nat → Nat × Nat} {u : Nat → Nat → Int} {g : Nat → Nat → Nat} {t : Nat × Nat × Nat} {r0 : Nat} {v1 : AV} : a_X 207 54 [a_r (r0), v1] [] (k, u, g, t) = a_X 207 70 [a_r (r0), a_i (0)] [] (k, u, g, t) := by
  refine (X_goto (m := 207) (pc := 54) (off := 14) (tg := 68) (by decide +kernel) (by decide +kernel)).trans ?_
  refine (X_iconst (m := 207) (pc := 68) (n := 0) (by decide +kernel) ).trans ?_
  refine (X_istore_n (m := 207) (pc := 69) (n := 1) (by decide +kernel) rfl (Nat.le_of_ble_eq_true rfl) rfl).trans ?_
  rfl
theorem B_X11_ticks_102 {k : Nat → Nat × Nat} {u : Nat → Nat → Int} {g : Nat → Nat → Nat} {t : Nat × Nat × Nat} {r0 : Nat} {x1 : Int} : a_X 207 102 [a_r (r0), a_i (x1)] [] (k, u, g, t) = a_X 207 70 [a_r (r0), a_i (wr (x1 + 1))] [] (k, u, g, t) := by
  refine (X_iinc (m := 207) (pc := 102) (n := 1) (c := 1) (by decide +kernel) rfl rfl (Nat.le_of_ble_eq_true rfl) rfl).trans ?_
  refine (X_goto (m := 207) (pc := 105) (off := -35) (tg := 70) (by decide +kernel) (by decide +kernel)).trans ?_
  rfl
theorem E_X11_ticksAll {σ : AS} {r0 : Nat} {x1 : Int} : a_m 208 [a_r (r0), a_i (x1)] σ = a_X 208 0 [a_r (r0), a_i (x1), a_x false] [] σ := a_m_eq (by rw [a_entry, show m_maxL 208 = 3 from by decide +kernel]; rfl)
theorem B_X11_ticksAll_0 {k : Nat → Nat × Nat} {u : Nat → Nat → Int} {g : Nat → Nat → Nat} {t : Nat × Nat × Nat} {r0 : Nat} {x1 : Int} {v2 : AV} : a_X 208 0 [a_r (r0), a_i (x1), v2] [] (k, u, g, t) = a_X 208 2 [a_r (r0), a_i (x1), a_i (0)] [] (k, u, g, t) := by
  refine (X_iconst (m := 208) (pc := 0) (n := 0) (by decide +kernel) ).trans ?_
  refine (X_istore_n (m := 208) (pc := 1) (n := 2) (by decide +kernel) rfl (Nat.le_of_ble_eq_true rfl) rfl).trans ?_
  rfl
theorem B_X11_ticksAll_2 {k : Nat → Nat × Nat} {u : Nat → Nat → Int} {g : Nat → Nat → Nat} {t : Nat × Nat × Nat} {r0 : Nat} {x1 : Int} {x2 : Int} : a_X 208 2 [a_r (r0), a_i (x1), a_i (x2)] [] (k, u, g, t) = if (x2 : Int) ≥ (x1 : Int) then some (.inl none, (k, u, g, t)) else if (k r0).1 = 11 then (a_m 207 [a_r (r0)] (k, u, g, t)).bind (a_back 208 8 3 [a_r (r0), a_i (x1), a_i (x2)] []) else none := by
  refine (X_iload_n (m := 208) (pc := 2) (n := 2) (by decide +kernel) rfl).trans ?_
  refine (X_iload_n (m := 208) (pc := 3) (n := 1) (by decide +kernel) rfl).trans ?_
  refine (X_ic_ge (m := 208) (pc := 4) (off := 13) (tg := 17) (by decide +kernel) (by decide +kernel)).trans ?_
  refine ite_congr rfl (fun _ => ?_) (fun _ => ?_)
  · exact X_return (m := 208) (pc := 17) (by decide +kernel) (by decide +kernel)
  · refine (X_aload_n (m := 208) (pc := 7) (n := 0) (by decide +kernel) rfl).trans ?_
    refine (X_call_vi (m := 208) (pc := 8) (q := 255) (y := 207) (n := 1) (as := [a_r (r0)]) (rest := []) (by decide +kernel) (by decide +kernel) (by decide +kernel) (by decide +kernel) rfl rfl (Nat.le_of_ble_eq_true rfl) (Nat.le_of_ble_eq_true rfl) rfl (by rw [show m_maxL 207 = 2 from by decide +kernel]; exact Nat.le_of_ble_eq_true rfl)).trans ?_
    exact ite_congr (by simp [a_rcv, show m_recv 207 = 11 from by decide +kernel]) (fun _ => rfl) (fun _ => rfl)
theorem B_X11_ticksAll_11 {k : Nat → Nat × Nat} {u : Nat → Nat → Int} {g : Nat → Nat → Nat} {t : Nat × Nat × Nat} {r0 : Nat} {x1 : Int} {x2 : Int} : a_X 208 11 [a_r (r0), a_i (x1), a_i (x2)] [] (k, u, g, t) = a_X 208 2 [a_r (r0), a_i (x1), a_i (wr (x2 + 1))] [] (k, u, g, t) := by
  refine (X_iinc (m := 208) (pc := 11) (n := 2) (c := 1) (by decide +kernel) rfl rfl (Nat.le_of_ble_eq_true rfl) rfl).trans ?_
  refine (X_goto (m := 208) (pc := 14) (off := -12) (tg := 2) (by decide +kernel) (by decide +kernel)).trans ?_
  rfl
theorem E_X11_areAlike {σ : AS} {r0 : Nat} {x1 : Int} {x2 : Int} {x3 : Int} : a_m 209 [a_r (r0), a_i (x1), a_i (x2), a_i (x3)] σ = a_X 209 0 [a_r (r0), a_i (x1), a_i (x2), a_i (x3), a_x false, a_x false] [] σ := a_m_eq (by rw [a_entry, show m_maxL 209 = 6 from by decide +kernel]; rfl)
theorem B_X11_areAlike_0 {k : Nat → Nat × Nat} {u : Nat → Nat → Int} {g : Nat → Nat → Nat} {t : Nat × Nat × Nat} {r0 : Nat} {x1 : Int} {x2 : Int} {x3 : Int} {v4 : AV} {v5 : AV} : a_X 209 0 [a_r (r0), a_i (x1), a_i (x2), a_i (x3), v4, v5] [] (k, u, g, t) = a_X 209 6 [a_r (r0), a_i (x1), a_i (x2), a_i (x3), a_i (1), a_i (0)] [] (k, u, g, t) := by
  refine (X_iconst (m := 209) (pc := 0) (n := 1) (by decide +kernel) ).trans ?_
  refine (X_istore (m := 209) (pc := 1) (n := 4) (by decide +kernel) rfl (Nat.le_of_ble_eq_true rfl) rfl).trans ?_
  refine (X_iconst (m := 209) (pc := 3) (n := 0) (by decide +kernel) ).trans ?_
  refine (X_istore (m := 209) (pc := 4) (n := 5) (by decide +kernel) rfl (Nat.le_of_ble_eq_true rfl) rfl).trans ?_
  rfl
theorem B_X11_areAlike_6 {k : Nat → Nat × Nat} {u : Nat → Nat → Int} {g : Nat → Nat → Nat} {t : Nat × Nat × Nat} {r0 : Nat} {x1 : Int} {x2 : Int} {x3 : Int} {x4 : Int} {x5 : Int} : a_X 209 6 [a_r (r0), a_i (x1), a_i (x2), a_i (x3), a_i (x4), a_i (x5)] [] (k, u, g, t) = if (x5 : Int) > (3 : Int) then if a_fit 2 (x4) = true then some (.inl (some (a_i (x4))), (k, u, g, t)) else none else if (x4 : Int) = 0 then a_X 209 6 [a_r (r0), a_i (x1), a_i (x2), a_i (x3), a_i (0), a_i (wr (x5 + 1))] [] (k, u, g, t) else if (k r0).1 = 11 then (a_m 165 [a_r (r0), a_i (x1), a_i (x3), a_i (x5)] (k, u, g, t)).bind (a_back 209 22 3 [a_r (r0), a_i (x1), a_i (x2), a_i (x3), a_i (x4), a_i (x5)] []) else none := by
  refine (X_iload (m := 209) (pc := 6) (n := 5) (by decide +kernel) rfl).trans ?_
  refine (X_iconst (m := 209) (pc := 8) (n := 3) (by decide +kernel) ).trans ?_
  refine (X_ic_gt (m := 209) (pc := 9) (off := 40) (tg := 49) (by decide +kernel) (by decide +kernel)).trans ?_
  refine ite_congr rfl (fun _ => ?_) (fun _ => ?_)
  · refine (X_iload (m := 209) (pc := 49) (n := 4) (by decide +kernel) rfl).trans ?_
    exact X_ireturnF (m := 209) (pc := 51) (f := 2) (by decide +kernel) (by decide +kernel)
  · refine (X_iload (m := 209) (pc := 12) (n := 4) (by decide +kernel) rfl).trans ?_
    refine (X_if_eq (m := 209) (pc := 14) (off := 26) (tg := 40) (by decide +kernel) (by decide +kernel)).trans ?_
    refine ite_congr rfl (fun _ => ?_) (fun _ => ?_)
    · refine (X_iconst (m := 209) (pc := 40) (n := 0) (by decide +kernel) ).trans ?_
      refine (X_istore (m := 209) (pc := 41) (n := 4) (by decide +kernel) rfl (Nat.le_of_ble_eq_true rfl) rfl).trans ?_
      refine (X_iinc (m := 209) (pc := 43) (n := 5) (c := 1) (by decide +kernel) rfl rfl (Nat.le_of_ble_eq_true rfl) rfl).trans ?_
      refine (X_goto (m := 209) (pc := 46) (off := -40) (tg := 6) (by decide +kernel) (by decide +kernel)).trans ?_
      rfl
    · refine (X_aload_n (m := 209) (pc := 17) (n := 0) (by decide +kernel) rfl).trans ?_
      refine (X_iload_n (m := 209) (pc := 18) (n := 1) (by decide +kernel) rfl).trans ?_
      refine (X_iload_n (m := 209) (pc := 19) (n := 3) (by decide +kernel) rfl).trans ?_
      refine (X_iload (m := 209) (pc := 20) (n := 5) (by decide +kernel) rfl).trans ?_
      refine (X_call_vi (m := 209) (pc := 22) (q := 82) (y := 165) (n := 4) (as := [a_r (r0), a_i (x1), a_i (x3), a_i (x5)]) (rest := []) (by decide +kernel) (by decide +kernel) (by decide +kernel) (by decide +kernel) rfl rfl (Nat.le_of_ble_eq_true rfl) (Nat.le_of_ble_eq_true rfl) rfl (by rw [show m_maxL 165 = 4 from by decide +kernel]; exact Nat.le_of_ble_eq_true rfl)).trans ?_
      exact ite_congr (by simp [a_rcv, show m_recv 165 = 11 from by decide +kernel]) (fun _ => rfl) (fun _ => rfl)
theorem B_X11_areAlike_25 {k : Nat → Nat × Nat} {u : Nat → Nat → Int} {g : Nat → Nat → Nat} {t : Nat × Nat × Nat} {r0 : Nat} {x1 : Int} {x2 : Int} {x3 : Int} {x4 : Int} {x5 : Int} {y0 : Int} : a_X 209 25 [a_r (r0), a_i (x1), a_i (x2), a_i (x3), a_i (x4), a_i (x5)] [a_i (y0)] (k, u, g, t) = if (k r0).1 = 11 then (a_m 165 [a_r (r0), a_i (x2), a_i (x3), a_i (x5)] (k, u, g, t)).bind (a_back 209 30 3 [a_r (r0), a_i (x1), a_i (x2), a_i (x3), a_i (x4), a_i (x5)] [a_i (y0)]) else none := by
  refine (X_aload_n (m := 209) (pc := 25) (n := 0) (by decide +kernel) rfl).trans ?_
  refine (X_iload_n (m := 209) (pc := 26) (n := 2) (by decide +kernel) rfl).trans ?_
  refine (X_iload_n (m := 209) (pc := 27) (n := 3) (by decide +kernel) rfl).trans ?_
  refine (X_iload (m := 209) (pc := 28) (n := 5) (by decide +kernel) rfl).trans ?_
  refine (X_call_vi (m := 209) (pc := 30) (q := 82) (y := 165) (n := 4) (as := [a_r (r0), a_i (x2), a_i (x3), a_i (x5)]) (rest := [a_i (y0)]) (by decide +kernel) (by decide +kernel) (by decide +kernel) (by decide +kernel) rfl rfl (Nat.le_of_ble_eq_true rfl) (Nat.le_of_ble_eq_true rfl) rfl (by rw [show m_maxL 165 = 4 from by decide +kernel]; exact Nat.le_of_ble_eq_true rfl)).trans ?_
  exact ite_congr (by simp [a_rcv, show m_recv 165 = 11 from by decide +kernel]) (fun _ => rfl) (fun _ => rfl)
theorem B_X11_areAlike_33 {k : Nat → Nat × Nat} {u : Nat → Nat → Int} {g : Nat → Nat → Nat} {t : Nat × Nat × Nat} {r0 : Nat} {x1 : Int} {x2 : Int} {x3 : Int} {x4 : Int} {x5 : Int} {y0 : Int} {y1 : Int} : a_X 209 33 [a_r (r0), a_i (x1), a_i (x2), a_i (x3), a_i (x4), a_i (x5)] [a_i (y1), a_i (y0)] (k, u, g, t) = if (y0 : Int) ≠ (y1 : Int) then a_X 209 6 [a_r (r0), a_i (x1), a_i (x2), a_i (x3), a_i (0), a_i (wr (x5 + 1))] [] (k, u, g, t) else a_X 209 6 [a_r (r0), a_i (x1), a_i (x2), a_i (x3), a_i (1), a_i (wr (x5 + 1))] [] (k, u, g, t) := by
  refine (X_ic_ne (m := 209) (pc := 33) (off := 7) (tg := 40) (by decide +kernel) (by decide +kernel)).trans ?_
  refine ite_congr rfl (fun _ => ?_) (fun _ => ?_)
  · refine (X_iconst (m := 209) (pc := 40) (n := 0) (by decide +kernel) ).trans ?_
    refine (X_istore (m := 209) (pc := 41) (n := 4) (by decide +kernel) rfl (Nat.le_of_ble_eq_true rfl) rfl).trans ?_
    refine (X_iinc (m := 209) (pc := 43) (n := 5) (c := 1) (by decide +kernel) rfl rfl (Nat.le_of_ble_eq_true rfl) rfl).trans ?_
    refine (X_goto (m := 209) (pc := 46) (off := -40) (tg := 6) (by decide +kernel) (by decide +kernel)).trans ?_
    rfl
  · refine (X_iconst (m := 209) (pc := 36) (n := 1) (by decide +kernel) ).trans ?_
    refine (X_goto (m := 209) (pc := 37) (off := 4) (tg := 41) (by decide +kernel) (by decide +kernel)).trans ?_
    refine (X_istore (m := 209) (pc := 41) (n := 4) (by decide +kernel) rfl (Nat.le_of_ble_eq_true rfl) rfl).trans ?_
    refine (X_iinc (m := 209) (pc := 43) (n := 5) (c := 1) (by decide +kernel) rfl rfl (Nat.le_of_ble_eq_true rfl) rfl).trans ?_
    refine (X_goto (m := 209) (pc := 46) (off := -40) (tg := 6) (by decide +kernel) (by decide +kernel)).trans ?_
    rfl
theorem E_X11_differing {σ : AS} {r0 : Nat} {x1 : Int} {x2 : Int} : a_m 210 [a_r (r0), a_i (x1), a_i (x2)] σ = a_X 210 0 [a_r (r0), a_i (x1), a_i (x2), a_x false, a_x false] [] σ := a_m_eq (by rw [a_entry, show m_maxL 210 = 5 from by decide +kernel]; rfl)
theorem B_X11_differing_0 {k : Nat → Nat × Nat} {u : Nat → Nat → Int} {g : Nat → Nat → Nat} {t : Nat × Nat × Nat} {r0 : Nat} {x1 : Int} {x2 : Int} {v3 : AV} {v4 : AV} : a_X 210 0 [a_r (r0), a_i (x1), a_i (x2), v3, v4] [] (k, u, g, t) = a_X 210 5 [a_r (r0), a_i (x1), a_i (x2), a_i (0), a_i (0)] [] (k, u, g, t) := by
  refine (X_iconst (m := 210) (pc := 0) (n := 0) (by decide +kernel) ).trans ?_
  refine (X_istore_n (m := 210) (pc := 1) (n := 3) (by decide +kernel) rfl (Nat.le_of_ble_eq_true rfl) rfl).trans ?_
  refine (X_iconst (m := 210) (pc := 2) (n := 0) (by decide +kernel) ).trans ?_
  refine (X_istore (m := 210) (pc := 3) (n := 4) (by decide +kernel) rfl (Nat.le_of_ble_eq_true rfl) rfl).trans ?_
  rfl
theorem B_X11_differing_5 {k : Nat → Nat × Nat} {u : Nat → Nat → Int} {g : Nat → Nat → Nat} {t : Nat × Nat × Nat} {r0 : Nat} {x1 : Int} {x2 : Int} {x3 : Int} {x4 : Int} : a_X 210 5 [a_r (r0), a_i (x1), a_i (x2), a_i (x3), a_i (x4)] [] (k, u, g, t) = if (x4 : Int) ≥ (12 : Int) then some (.inl (some (a_i (x3))), (k, u, g, t)) else if (k r0).1 = 11 then (a_m 209 [a_r (r0), a_i (x1), a_i (x2), a_i (x4)] (k, u, g, t)).bind (a_back 210 18 3 [a_r (r0), a_i (x1), a_i (x2), a_i (x3), a_i (x4)] [a_i (x3)]) else none := by
  refine (X_iload (m := 210) (pc := 5) (n := 4) (by decide +kernel) rfl).trans ?_
  refine (X_bipush (m := 210) (pc := 7) (n := 12) (by decide +kernel) ).trans ?_
  refine (X_ic_ge (m := 210) (pc := 9) (off := 34) (tg := 43) (by decide +kernel) (by decide +kernel)).trans ?_
  refine ite_congr rfl (fun _ => ?_) (fun _ => ?_)
  · refine (X_iload_n (m := 210) (pc := 43) (n := 3) (by decide +kernel) rfl).trans ?_
    exact X_ireturn (m := 210) (pc := 44) (f := 1) (by decide +kernel) (by decide +kernel) rfl
  · refine (X_iload_n (m := 210) (pc := 12) (n := 3) (by decide +kernel) rfl).trans ?_
    refine (X_aload_n (m := 210) (pc := 13) (n := 0) (by decide +kernel) rfl).trans ?_
    refine (X_iload_n (m := 210) (pc := 14) (n := 1) (by decide +kernel) rfl).trans ?_
    refine (X_iload_n (m := 210) (pc := 15) (n := 2) (by decide +kernel) rfl).trans ?_
    refine (X_iload (m := 210) (pc := 16) (n := 4) (by decide +kernel) rfl).trans ?_
    refine (X_call_vi (m := 210) (pc := 18) (q := 258) (y := 209) (n := 4) (as := [a_r (r0), a_i (x1), a_i (x2), a_i (x4)]) (rest := [a_i (x3)]) (by decide +kernel) (by decide +kernel) (by decide +kernel) (by decide +kernel) rfl rfl (Nat.le_of_ble_eq_true rfl) (Nat.le_of_ble_eq_true rfl) rfl (by rw [show m_maxL 209 = 6 from by decide +kernel]; exact Nat.le_of_ble_eq_true rfl)).trans ?_
    exact ite_congr (by simp [a_rcv, show m_recv 209 = 11 from by decide +kernel]) (fun _ => rfl) (fun _ => rfl)
theorem B_X11_differing_21 {k : Nat → Nat × Nat} {u : Nat → Nat → Int} {g : Nat → Nat → Nat} {t : Nat × Nat × Nat} {r0 : Nat} {x1 : Int} {x2 : Int} {x3 : Int} {x4 : Int} {y0 : Int} {y1 : Int} : a_X 210 21 [a_r (r0), a_i (x1), a_i (x2), a_i (x3), a_i (x4)] [a_i (y1), a_i (y0)] (k, u, g, t) = if (y1 : Int) ≠ 0 then (a_m 156 [a_i (0)] (k, u, g, t)).bind (a_back 210 29 3 [a_r (r0), a_i (x1), a_i (x2), a_i (x3), a_i (x4)] [a_i (y0)]) else (a_m 156 [a_i (1)] (k, u, g, t)).bind (a_back 210 29 3 [a_r (r0), a_i (x1), a_i (x2), a_i (x3), a_i (x4)] [a_i (y0)]) := by
  refine (X_if_ne (m := 210) (pc := 21) (off := 7) (tg := 28) (by decide +kernel) (by decide +kernel)).trans ?_
  refine ite_congr rfl (fun _ => ?_) (fun _ => ?_)
  · refine (X_iconst (m := 210) (pc := 28) (n := 0) (by decide +kernel) ).trans ?_
    refine (X_call_st (m := 210) (pc := 29) (q := 204) (y := 156) (n := 1) (as := [a_i (0)]) (rest := [a_i (y0)]) (by decide +kernel) (by decide +kernel) (by decide +kernel) (by decide +kernel) rfl rfl (Nat.le_of_ble_eq_true rfl) (Nat.le_of_ble_eq_true rfl) rfl (by rw [show m_maxL 156 = 1 from by decide +kernel]; exact Nat.le_of_ble_eq_true rfl)).trans ?_
    exact if_pos rfl
  · refine (X_iconst (m := 210) (pc := 24) (n := 1) (by decide +kernel) ).trans ?_
    refine (X_goto (m := 210) (pc := 25) (off := 4) (tg := 29) (by decide +kernel) (by decide +kernel)).trans ?_
    refine (X_call_st (m := 210) (pc := 29) (q := 204) (y := 156) (n := 1) (as := [a_i (1)]) (rest := [a_i (y0)]) (by decide +kernel) (by decide +kernel) (by decide +kernel) (by decide +kernel) rfl rfl (Nat.le_of_ble_eq_true rfl) (Nat.le_of_ble_eq_true rfl) rfl (by rw [show m_maxL 156 = 1 from by decide +kernel]; exact Nat.le_of_ble_eq_true rfl)).trans ?_
    exact if_pos rfl
theorem B_X11_differing_32 {k : Nat → Nat × Nat} {u : Nat → Nat → Int} {g : Nat → Nat → Nat} {t : Nat × Nat × Nat} {r0 : Nat} {x1 : Int} {x2 : Int} {x3 : Int} {x4 : Int} {y0 : Int} {y1 : Int} : a_X 210 32 [a_r (r0), a_i (x1), a_i (x2), a_i (x3), a_i (x4)] [a_i (y1), a_i (y0)] (k, u, g, t) = a_X 210 5 [a_r (r0), a_i (x1), a_i (x2), a_i (zor (y0) (zshl (y1) (x4))), a_i (wr (x4 + 1))] [] (k, u, g, t) := by
  refine (X_iload (m := 210) (pc := 32) (n := 4) (by decide +kernel) rfl).trans ?_
  refine (X_ishl (m := 210) (pc := 34)  (by decide +kernel) ).trans ?_
  refine (X_ior (m := 210) (pc := 35)  (by decide +kernel) ).trans ?_
  refine (X_istore_n (m := 210) (pc := 36) (n := 3) (by decide +kernel) rfl (Nat.le_of_ble_eq_true rfl) rfl).trans ?_
  refine (X_iinc (m := 210) (pc := 37) (n := 4) (c := 1) (by decide +kernel) rfl rfl (Nat.le_of_ble_eq_true rfl) rfl).trans ?_
  refine (X_goto (m := 210) (pc := 40) (off := -35) (tg := 5) (by decide +kernel) (by decide +kernel)).trans ?_
  rfl
theorem E_X11_sameOnes {σ : AS} {r0 : Nat} : a_m 211 [a_r (r0)] σ = a_X 211 0 [a_r (r0), a_x false, a_x false] [] σ := a_m_eq (by rw [a_entry, show m_maxL 211 = 3 from by decide +kernel]; rfl)
theorem B_X11_sameOnes_0 {k : Nat → Nat × Nat} {u : Nat → Nat → Int} {g : Nat → Nat → Nat} {t : Nat × Nat × Nat} {r0 : Nat} {v1 : AV} {v2 : AV} : a_X 211 0 [a_r (r0), v1, v2] [] (k, u, g, t) = a_X 211 4 [a_r (r0), a_i (0), a_i (0)] [] (k, u, g, t) := by
  refine (X_iconst (m := 211) (pc := 0) (n := 0) (by decide +kernel) ).trans ?_
  refine (X_istore_n (m := 211) (pc := 1) (n := 1) (by decide +kernel) rfl (Nat.le_of_ble_eq_true rfl) rfl).trans ?_
  refine (X_iconst (m := 211) (pc := 2) (n := 0) (by decide +kernel) ).trans ?_
  refine (X_istore_n (m := 211) (pc := 3) (n := 2) (by decide +kernel) rfl (Nat.le_of_ble_eq_true rfl) rfl).trans ?_
  rfl
theorem B_X11_sameOnes_4 {k : Nat → Nat × Nat} {u : Nat → Nat → Int} {g : Nat → Nat → Nat} {t : Nat × Nat × Nat} {r0 : Nat} {x1 : Int} {x2 : Int} : a_X 211 4 [a_r (r0), a_i (x1), a_i (x2)] [] (k, u, g, t) = if (k r0).1 = 11 then if ((k (g r0 2)).1 = 20 ∨ (k (g r0 2)).1 = 24) ∧ 0 ≤ (3 : Int) ∧ (3 : Int) < ((k (g r0 2)).2 : Int) then if (x2 : Int) ≥ (u (g r0 2) (3 : Int).toNat : Int) then some (.inl (some (a_i (x1))), (k, u, g, t)) else if (k r0).1 = 11 then (a_m 210 [a_r (r0), a_i (x2), a_i (-1)] (k, u, g, t)).bind (a_back 211 18 3 [a_r (r0), a_i (x1), a_i (x2)] [a_i (x1)]) else none else none else none := by
  refine (X_iload_n (m := 211) (pc := 4) (n := 2) (by decide +kernel) rfl).trans ?_
  refine (X_aload_n (m := 211) (pc := 5) (n := 0) (by decide +kernel) rfl).trans ?_
  refine (X_getR (m := 211) (pc := 6) (n := 7) (c := 11) (q := 2) (fi := true) (by decide +kernel) (by decide +kernel)).trans ?_
  refine ite_congr rfl (fun _ => ?_) (fun _ => rfl)
  refine (X_iconst (m := 211) (pc := 9) (n := 3) (by decide +kernel) ).trans ?_
  refine (X_iaload (m := 211) (pc := 10)  (by decide +kernel) ).trans ?_
  refine ite_congr rfl (fun _ => ?_) (fun _ => rfl)
  refine (X_ic_ge (m := 211) (pc := 11) (off := 29) (tg := 40) (by decide +kernel) (by decide +kernel)).trans ?_
  refine ite_congr rfl (fun _ => ?_) (fun _ => ?_)
  · refine (X_iload_n (m := 211) (pc := 40) (n := 1) (by decide +kernel) rfl).trans ?_
    exact X_ireturn (m := 211) (pc := 41) (f := 1) (by decide +kernel) (by decide +kernel) rfl
  · refine (X_iload_n (m := 211) (pc := 14) (n := 1) (by decide +kernel) rfl).trans ?_
    refine (X_aload_n (m := 211) (pc := 15) (n := 0) (by decide +kernel) rfl).trans ?_
    refine (X_iload_n (m := 211) (pc := 16) (n := 2) (by decide +kernel) rfl).trans ?_
    refine (X_iconst (m := 211) (pc := 17) (n := -1) (by decide +kernel) ).trans ?_
    refine (X_call_vi (m := 211) (pc := 18) (q := 262) (y := 210) (n := 3) (as := [a_r (r0), a_i (x2), a_i (-1)]) (rest := [a_i (x1)]) (by decide +kernel) (by decide +kernel) (by decide +kernel) (by decide +kernel) rfl rfl (Nat.le_of_ble_eq_true rfl) (Nat.le_of_ble_eq_true rfl) rfl (by rw [show m_maxL 210 = 5 from by decide +kernel]; exact Nat.le_of_ble_eq_true rfl)).trans ?_
    exact ite_congr (by simp [a_rcv, show m_recv 210 = 11 from by decide +kernel]) (fun _ => rfl) (fun _ => rfl)
theorem B_X11_sameOnes_21 {k : Nat → Nat × Nat} {u : Nat → Nat → Int} {g : Nat → Nat → Nat} {t : Nat × Nat × Nat} {r0 : Nat} {x1 : Int} {x2 : Int} {y0 : Int} {y1 : Int} : a_X 211 21 [a_r (r0), a_i (x1), a_i (x2)] [a_i (y1), a_i (y0)] (k, u, g, t) = if (y1 : Int) ≠ 0 then (a_m 156 [a_i (0)] (k, u, g, t)).bind (a_back 211 29 3 [a_r (r0), a_i (x1), a_i (x2)] [a_i (y0)]) else (a_m 156 [a_i (1)] (k, u, g, t)).bind (a_back 211 29 3 [a_r (r0), a_i (x1), a_i (x2)] [a_i (y0)]) := by
  refine (X_if_ne (m := 211) (pc := 21) (off := 7) (tg := 28) (by decide +kernel) (by decide +kernel)).trans ?_
  refine ite_congr rfl (fun _ => ?_) (fun _ => ?_)
  · refine (X_iconst (m := 211) (pc := 28) (n := 0) (by decide +kernel) ).trans ?_
    refine (X_call_st (m := 211) (pc := 29) (q := 204) (y := 156) (n := 1) (as := [a_i (0)]) (rest := [a_i (y0)]) (by decide +kernel) (by decide +kernel) (by decide +kernel) (by decide +kernel) rfl rfl (Nat.le_of_ble_eq_true rfl) (Nat.le_of_ble_eq_true rfl) rfl (by rw [show m_maxL 156 = 1 from by decide +kernel]; exact Nat.le_of_ble_eq_true rfl)).trans ?_
    exact if_pos rfl
  · refine (X_iconst (m := 211) (pc := 24) (n := 1) (by decide +kernel) ).trans ?_
    refine (X_goto (m := 211) (pc := 25) (off := 4) (tg := 29) (by decide +kernel) (by decide +kernel)).trans ?_
    refine (X_call_st (m := 211) (pc := 29) (q := 204) (y := 156) (n := 1) (as := [a_i (1)]) (rest := [a_i (y0)]) (by decide +kernel) (by decide +kernel) (by decide +kernel) (by decide +kernel) rfl rfl (Nat.le_of_ble_eq_true rfl) (Nat.le_of_ble_eq_true rfl) rfl (by rw [show m_maxL 156 = 1 from by decide +kernel]; exact Nat.le_of_ble_eq_true rfl)).trans ?_
    exact if_pos rfl
theorem B_X11_sameOnes_32 {k : Nat → Nat × Nat} {u : Nat → Nat → Int} {g : Nat → Nat → Nat} {t : Nat × Nat × Nat} {r0 : Nat} {x1 : Int} {x2 : Int} {y0 : Int} {y1 : Int} : a_X 211 32 [a_r (r0), a_i (x1), a_i (x2)] [a_i (y1), a_i (y0)] (k, u, g, t) = a_X 211 4 [a_r (r0), a_i (wr (y0 + y1)), a_i (wr (x2 + 1))] [] (k, u, g, t) := by
  refine (X_iadd (m := 211) (pc := 32)  (by decide +kernel) ).trans ?_
  refine (X_istore_n (m := 211) (pc := 33) (n := 1) (by decide +kernel) rfl (Nat.le_of_ble_eq_true rfl) rfl).trans ?_
  refine (X_iinc (m := 211) (pc := 34) (n := 2) (c := 1) (by decide +kernel) rfl rfl (Nat.le_of_ble_eq_true rfl) rfl).trans ?_
  refine (X_goto (m := 211) (pc := 37) (off := -33) (tg := 4) (by decide +kernel) (by decide +kernel)).trans ?_
  rfl
theorem E_X11_stopsNow {σ : AS} {r0 : Nat} : a_m 212 [a_r (r0)] σ = a_X 212 0 [a_r (r0), a_x false, a_x false] [] σ := a_m_eq (by rw [a_entry, show m_maxL 212 = 3 from by decide +kernel]; rfl)
theorem B_X11_stopsNow_0 {k : Nat → Nat × Nat} {u : Nat → Nat → Int} {g : Nat → Nat → Nat} {t : Nat × Nat × Nat} {r0 : Nat} {v1 : AV} {v2 : AV} : a_X 212 0 [a_r (r0), v1, v2] [] (k, u, g, t) = a_X 212 4 [a_r (r0), a_i (0), a_i (0)] [] (k, u, g, t) := by
  refine (X_iconst (m := 212) (pc := 0) (n := 0) (by decide +kernel) ).trans ?_
  refine (X_istore_n (m := 212) (pc := 1) (n := 1) (by decide +kernel) rfl (Nat.le_of_ble_eq_true rfl) rfl).trans ?_
  refine (X_iconst (m := 212) (pc := 2) (n := 0) (by decide +kernel) ).trans ?_
  refine (X_istore_n (m := 212) (pc := 3) (n := 2) (by decide +kernel) rfl (Nat.le_of_ble_eq_true rfl) rfl).trans ?_
  rfl
theorem B_X11_stopsNow_4 {k : Nat → Nat × Nat} {u : Nat → Nat → Int} {g : Nat → Nat → Nat} {t : Nat × Nat × Nat} {r0 : Nat} {x1 : Int} {x2 : Int} : a_X 212 4 [a_r (r0), a_i (x1), a_i (x2)] [] (k, u, g, t) = if (x2 : Int) ≥ (12 : Int) then some (.inl (some (a_i (x1))), (k, u, g, t)) else if (k r0).1 = 11 then (a_m 173 [a_r (r0), a_i (-1), a_i (x2)] (k, u, g, t)).bind (a_back 212 14 3 [a_r (r0), a_i (x1), a_i (x2)] [a_i (x1)]) else none := by
  refine (X_iload_n (m := 212) (pc := 4) (n := 2) (by decide +kernel) rfl).trans ?_
  refine (X_bipush (m := 212) (pc := 5) (n := 12) (by decide +kernel) ).trans ?_
  refine (X_ic_ge (m := 212) (pc := 7) (off := 29) (tg := 36) (by decide +kernel) (by decide +kernel)).trans ?_
  refine ite_congr rfl (fun _ => ?_) (fun _ => ?_)
  · refine (X_iload_n (m := 212) (pc := 36) (n := 1) (by decide +kernel) rfl).trans ?_
    exact X_ireturn (m := 212) (pc := 37) (f := 1) (by decide +kernel) (by decide +kernel) rfl
  · refine (X_iload_n (m := 212) (pc := 10) (n := 1) (by decide +kernel) rfl).trans ?_
    refine (X_aload_n (m := 212) (pc := 11) (n := 0) (by decide +kernel) rfl).trans ?_
    refine (X_iconst (m := 212) (pc := 12) (n := -1) (by decide +kernel) ).trans ?_
    refine (X_iload_n (m := 212) (pc := 13) (n := 2) (by decide +kernel) rfl).trans ?_
    refine (X_call_vi (m := 212) (pc := 14) (q := 265) (y := 173) (n := 3) (as := [a_r (r0), a_i (-1), a_i (x2)]) (rest := [a_i (x1)]) (by decide +kernel) (by decide +kernel) (by decide +kernel) (by decide +kernel) rfl rfl (Nat.le_of_ble_eq_true rfl) (Nat.le_of_ble_eq_true rfl) rfl (by rw [show m_maxL 173 = 3 from by decide +kernel]; exact Nat.le_of_ble_eq_true rfl)).trans ?_
    exact ite_congr (by simp [a_rcv, show m_recv 173 = 11 from by decide +kernel]) (fun _ => rfl) (fun _ => rfl)
theorem B_X11_stopsNow_17 {k : Nat → Nat × Nat} {u : Nat → Nat → Int} {g : Nat → Nat → Nat} {t : Nat × Nat × Nat} {r0 : Nat} {x1 : Int} {x2 : Int} {y0 : Int} {y1 : Int} : a_X 212 17 [a_r (r0), a_i (x1), a_i (x2)] [a_i (y1), a_i (y0)] (k, u, g, t) = if (y1 : Int) ≠ 0 then (a_m 156 [a_i (0)] (k, u, g, t)).bind (a_back 212 25 3 [a_r (r0), a_i (x1), a_i (x2)] [a_i (y0)]) else (a_m 156 [a_i (1)] (k, u, g, t)).bind (a_back 212 25 3 [a_r (r0), a_i (x1), a_i (x2)] [a_i (y0)]) := by
  refine (X_if_ne (m := 212) (pc := 17) (off := 7) (tg := 24) (by decide +kernel) (by decide +kernel)).trans ?_
  refine ite_congr rfl (fun _ => ?_) (fun _ => ?_)
  · refine (X_iconst (m := 212) (pc := 24) (n := 0) (by decide +kernel) ).trans ?_
    refine (X_call_st (m := 212) (pc := 25) (q := 204) (y := 156) (n := 1) (as := [a_i (0)]) (rest := [a_i (y0)]) (by decide +kernel) (by decide +kernel) (by decide +kernel) (by decide +kernel) rfl rfl (Nat.le_of_ble_eq_true rfl) (Nat.le_of_ble_eq_true rfl) rfl (by rw [show m_maxL 156 = 1 from by decide +kernel]; exact Nat.le_of_ble_eq_true rfl)).trans ?_
    exact if_pos rfl
  · refine (X_iconst (m := 212) (pc := 20) (n := 1) (by decide +kernel) ).trans ?_
    refine (X_goto (m := 212) (pc := 21) (off := 4) (tg := 25) (by decide +kernel) (by decide +kernel)).trans ?_
    refine (X_call_st (m := 212) (pc := 25) (q := 204) (y := 156) (n := 1) (as := [a_i (1)]) (rest := [a_i (y0)]) (by decide +kernel) (by decide +kernel) (by decide +kernel) (by decide +kernel) rfl rfl (Nat.le_of_ble_eq_true rfl) (Nat.le_of_ble_eq_true rfl) rfl (by rw [show m_maxL 156 = 1 from by decide +kernel]; exact Nat.le_of_ble_eq_true rfl)).trans ?_
    exact if_pos rfl
theorem B_X11_stopsNow_28 {k : Nat → Nat × Nat} {u : Nat → Nat → Int} {g : Nat → Nat → Nat} {t : Nat × Nat × Nat} {r0 : Nat} {x1 : Int} {x2 : Int} {y0 : Int} {y1 : Int} : a_X 212 28 [a_r (r0), a_i (x1), a_i (x2)] [a_i (y1), a_i (y0)] (k, u, g, t) = a_X 212 4 [a_r (r0), a_i (wr (y0 + y1)), a_i (wr (x2 + 1))] [] (k, u, g, t) := by
  refine (X_iadd (m := 212) (pc := 28)  (by decide +kernel) ).trans ?_
  refine (X_istore_n (m := 212) (pc := 29) (n := 1) (by decide +kernel) rfl (Nat.le_of_ble_eq_true rfl) rfl).trans ?_
  refine (X_iinc (m := 212) (pc := 30) (n := 2) (c := 1) (by decide +kernel) rfl rfl (Nat.le_of_ble_eq_true rfl) rfl).trans ?_
  refine (X_goto (m := 212) (pc := 33) (off := -29) (tg := 4) (by decide +kernel) (by decide +kernel)).trans ?_
  rfl
theorem E_X11_onAirOf {σ : AS} {r0 : Nat} {x1 : Int} : a_m 213 [a_r (r0), a_i (x1)] σ = a_X 213 0 [a_r (r0), a_i (x1), a_x false, a_x false] [] σ := a_m_eq (by rw [a_entry, show m_maxL 213 = 4 from by decide +kernel]; rfl)
theorem B_X11_onAirOf_0 {k : Nat → Nat × Nat} {u : Nat → Nat → Int} {g : Nat → Nat → Nat} {t : Nat × Nat × Nat} {r0 : Nat} {x1 : Int} {v2 : AV} {v3 : AV} : a_X 213 0 [a_r (r0), a_i (x1), v2, v3] [] (k, u, g, t) = a_X 213 4 [a_r (r0), a_i (x1), a_i (0), a_i (0)] [] (k, u, g, t) := by
  refine (X_iconst (m := 213) (pc := 0) (n := 0) (by decide +kernel) ).trans ?_
  refine (X_istore_n (m := 213) (pc := 1) (n := 2) (by decide +kernel) rfl (Nat.le_of_ble_eq_true rfl) rfl).trans ?_
  refine (X_iconst (m := 213) (pc := 2) (n := 0) (by decide +kernel) ).trans ?_
  refine (X_istore_n (m := 213) (pc := 3) (n := 3) (by decide +kernel) rfl (Nat.le_of_ble_eq_true rfl) rfl).trans ?_
  rfl
theorem B_X11_onAirOf_4 {k : Nat → Nat × Nat} {u : Nat → Nat → Int} {g : Nat → Nat → Nat} {t : Nat × Nat × Nat} {r0 : Nat} {x1 : Int} {x2 : Int} {x3 : Int} : a_X 213 4 [a_r (r0), a_i (x1), a_i (x2), a_i (x3)] [] (k, u, g, t) = if (k r0).1 = 11 then if ((k (g r0 2)).1 = 20 ∨ (k (g r0 2)).1 = 24) ∧ 0 ≤ (4 : Int) ∧ (4 : Int) < ((k (g r0 2)).2 : Int) then if (x3 : Int) ≥ (u (g r0 2) (4 : Int).toNat : Int) then some (.inl (some (a_i (x2))), (k, u, g, t)) else if (k r0).1 = 11 then (a_m 169 [a_r (r0), a_i (x3), a_i (0)] (k, u, g, t)).bind (a_back 213 18 3 [a_r (r0), a_i (x1), a_i (x2), a_i (x3)] [a_i (x2)]) else none else none else none := by
  refine (X_iload_n (m := 213) (pc := 4) (n := 3) (by decide +kernel) rfl).trans ?_
  refine (X_aload_n (m := 213) (pc := 5) (n := 0) (by decide +kernel) rfl).trans ?_
  refine (X_getR (m := 213) (pc := 6) (n := 7) (c := 11) (q := 2) (fi := true) (by decide +kernel) (by decide +kernel)).trans ?_
  refine ite_congr rfl (fun _ => ?_) (fun _ => rfl)
  refine (X_iconst (m := 213) (pc := 9) (n := 4) (by decide +kernel) ).trans ?_
  refine (X_iaload (m := 213) (pc := 10)  (by decide +kernel) ).trans ?_
  refine ite_congr rfl (fun _ => ?_) (fun _ => rfl)
  refine (X_ic_ge (m := 213) (pc := 11) (off := 30) (tg := 41) (by decide +kernel) (by decide +kernel)).trans ?_
  refine ite_congr rfl (fun _ => ?_) (fun _ => ?_)
  · refine (X_iload_n (m := 213) (pc := 41) (n := 2) (by decide +kernel) rfl).trans ?_
    exact X_ireturn (m := 213) (pc := 42) (f := 1) (by decide +kernel) (by decide +kernel) rfl
  · refine (X_iload_n (m := 213) (pc := 14) (n := 2) (by decide +kernel) rfl).trans ?_
    refine (X_aload_n (m := 213) (pc := 15) (n := 0) (by decide +kernel) rfl).trans ?_
    refine (X_iload_n (m := 213) (pc := 16) (n := 3) (by decide +kernel) rfl).trans ?_
    refine (X_iconst (m := 213) (pc := 17) (n := 0) (by decide +kernel) ).trans ?_
    refine (X_call_vi (m := 213) (pc := 18) (q := 181) (y := 169) (n := 3) (as := [a_r (r0), a_i (x3), a_i (0)]) (rest := [a_i (x2)]) (by decide +kernel) (by decide +kernel) (by decide +kernel) (by decide +kernel) rfl rfl (Nat.le_of_ble_eq_true rfl) (Nat.le_of_ble_eq_true rfl) rfl (by rw [show m_maxL 169 = 3 from by decide +kernel]; exact Nat.le_of_ble_eq_true rfl)).trans ?_
    exact ite_congr (by simp [a_rcv, show m_recv 169 = 11 from by decide +kernel]) (fun _ => rfl) (fun _ => rfl)
theorem B_X11_onAirOf_21 {k : Nat → Nat × Nat} {u : Nat → Nat → Int} {g : Nat → Nat → Nat} {t : Nat × Nat × Nat} {r0 : Nat} {x1 : Int} {x2 : Int} {x3 : Int} {y0 : Int} {y1 : Int} : a_X 213 21 [a_r (r0), a_i (x1), a_i (x2), a_i (x3)] [a_i (y1), a_i (y0)] (k, u, g, t) = if (y1 : Int) ≠ (x1 : Int) then (a_m 156 [a_i (0)] (k, u, g, t)).bind (a_back 213 30 3 [a_r (r0), a_i (x1), a_i (x2), a_i (x3)] [a_i (y0)]) else (a_m 156 [a_i (1)] (k, u, g, t)).bind (a_back 213 30 3 [a_r (r0), a_i (x1), a_i (x2), a_i (x3)] [a_i (y0)]) := by
  refine (X_iload_n (m := 213) (pc := 21) (n := 1) (by decide +kernel) rfl).trans ?_
  refine (X_ic_ne (m := 213) (pc := 22) (off := 7) (tg := 29) (by decide +kernel) (by decide +kernel)).trans ?_
  refine ite_congr rfl (fun _ => ?_) (fun _ => ?_)
  · refine (X_iconst (m := 213) (pc := 29) (n := 0) (by decide +kernel) ).trans ?_
    refine (X_call_st (m := 213) (pc := 30) (q := 204) (y := 156) (n := 1) (as := [a_i (0)]) (rest := [a_i (y0)]) (by decide +kernel) (by decide +kernel) (by decide +kernel) (by decide +kernel) rfl rfl (Nat.le_of_ble_eq_true rfl) (Nat.le_of_ble_eq_true rfl) rfl (by rw [show m_maxL 156 = 1 from by decide +kernel]; exact Nat.le_of_ble_eq_true rfl)).trans ?_
    exact if_pos rfl
  · refine (X_iconst (m := 213) (pc := 25) (n := 1) (by decide +kernel) ).trans ?_
    refine (X_goto (m := 213) (pc := 26) (off := 4) (tg := 30) (by decide +kernel) (by decide +kernel)).trans ?_
    refine (X_call_st (m := 213) (pc := 30) (q := 204) (y := 156) (n := 1) (as := [a_i (1)]) (rest := [a_i (y0)]) (by decide +kernel) (by decide +kernel) (by decide +kernel) (by decide +kernel) rfl rfl (Nat.le_of_ble_eq_true rfl) (Nat.le_of_ble_eq_true rfl) rfl (by rw [show m_maxL 156 = 1 from by decide +kernel]; exact Nat.le_of_ble_eq_true rfl)).trans ?_
    exact if_pos rfl
theorem B_X11_onAirOf_33 {k : Nat → Nat × Nat} {u : Nat → Nat → Int} {g : Nat → Nat → Nat} {t : Nat × Nat × Nat} {r0 : Nat} {x1 : Int} {x2 : Int} {x3 : Int} {y0 : Int} {y1 : Int} : a_X 213 33 [a_r (r0), a_i (x1), a_i (x2), a_i (x3)] [a_i (y1), a_i (y0)] (k, u, g, t) = a_X 213 4 [a_r (r0), a_i (x1), a_i (wr (y0 + y1)), a_i (wr (x3 + 1))] [] (k, u, g, t) := by
  refine (X_iadd (m := 213) (pc := 33)  (by decide +kernel) ).trans ?_
  refine (X_istore_n (m := 213) (pc := 34) (n := 2) (by decide +kernel) rfl (Nat.le_of_ble_eq_true rfl) rfl).trans ?_
  refine (X_iinc (m := 213) (pc := 35) (n := 3) (c := 1) (by decide +kernel) rfl rfl (Nat.le_of_ble_eq_true rfl) rfl).trans ?_
  refine (X_goto (m := 213) (pc := 38) (off := -34) (tg := 4) (by decide +kernel) (by decide +kernel)).trans ?_
  rfl
theorem E_X11_sumOf {σ : AS} {r0 : Nat} {x1 : Int} : a_m 214 [a_r (r0), a_i (x1)] σ = a_X 214 0 [a_r (r0), a_i (x1), a_x false, a_x false] [] σ := a_m_eq (by rw [a_entry, show m_maxL 214 = 4 from by decide +kernel]; rfl)
theorem B_X11_sumOf_0 {k : Nat → Nat × Nat} {u : Nat → Nat → Int} {g : Nat → Nat → Nat} {t : Nat × Nat × Nat} {r0 : Nat} {x1 : Int} {v2 : AV} {v3 : AV} : a_X 214 0 [a_r (r0), a_i (x1), v2, v3] [] (k, u, g, t) = a_X 214 4 [a_r (r0), a_i (x1), a_i (0), a_i (0)] [] (k, u, g, t) := by
  refine (X_iconst (m := 214) (pc := 0) (n := 0) (by decide +kernel) ).trans ?_
  refine (X_istore_n (m := 214) (pc := 1) (n := 2) (by decide +kernel) rfl (Nat.le_of_ble_eq_true rfl) rfl).trans ?_
  refine (X_iconst (m := 214) (pc := 2) (n := 0) (by decide +kernel) ).trans ?_
  refine (X_istore_n (m := 214) (pc := 3) (n := 3) (by decide +kernel) rfl (Nat.le_of_ble_eq_true rfl) rfl).trans ?_
  rfl
theorem B_X11_sumOf_4 {k : Nat → Nat × Nat} {u : Nat → Nat → Int} {g : Nat → Nat → Nat} {t : Nat × Nat × Nat} {r0 : Nat} {x1 : Int} {x2 : Int} {x3 : Int} : a_X 214 4 [a_r (r0), a_i (x1), a_i (x2), a_i (x3)] [] (k, u, g, t) = if (k r0).1 = 11 then if ((k (g r0 2)).1 = 20 ∨ (k (g r0 2)).1 = 24) ∧ 0 ≤ (3 : Int) ∧ (3 : Int) < ((k (g r0 2)).2 : Int) then if (x3 : Int) ≥ (u (g r0 2) (3 : Int).toNat : Int) then some (.inl (some (a_i (x2))), (k, u, g, t)) else if (k r0).1 = 11 then (a_m 166 [a_r (r0), a_i (x3), a_i (x1)] (k, u, g, t)).bind (a_back 214 18 3 [a_r (r0), a_i (x1), a_i (x2), a_i (x3)] [a_i (x2)]) else none else none else none := by
  refine (X_iload_n (m := 214) (pc := 4) (n := 3) (by decide +kernel) rfl).trans ?_
  refine (X_aload_n (m := 214) (pc := 5) (n := 0) (by decide +kernel) rfl).trans ?_
  refine (X_getR (m := 214) (pc := 6) (n := 7) (c := 11) (q := 2) (fi := true) (by decide +kernel) (by decide +kernel)).trans ?_
  refine ite_congr rfl (fun _ => ?_) (fun _ => rfl)
  refine (X_iconst (m := 214) (pc := 9) (n := 3) (by decide +kernel) ).trans ?_
  refine (X_iaload (m := 214) (pc := 10)  (by decide +kernel) ).trans ?_
  refine ite_congr rfl (fun _ => ?_) (fun _ => rfl)
  refine (X_ic_ge (m := 214) (pc := 11) (off := 18) (tg := 29) (by decide +kernel) (by decide +kernel)).trans ?_
  refine ite_congr rfl (fun _ => ?_) (fun _ => ?_)
  · refine (X_iload_n (m := 214) (pc := 29) (n := 2) (by decide +kernel) rfl).trans ?_
    exact X_ireturn (m := 214) (pc := 30) (f := 1) (by decide +kernel) (by decide +kernel) rfl
  · refine (X_iload_n (m := 214) (pc := 14) (n := 2) (by decide +kernel) rfl).trans ?_
    refine (X_aload_n (m := 214) (pc := 15) (n := 0) (by decide +kernel) rfl).trans ?_
    refine (X_iload_n (m := 214) (pc := 16) (n := 3) (by decide +kernel) rfl).trans ?_
    refine (X_iload_n (m := 214) (pc := 17) (n := 1) (by decide +kernel) rfl).trans ?_
    refine (X_call_vi (m := 214) (pc := 18) (q := 79) (y := 166) (n := 3) (as := [a_r (r0), a_i (x3), a_i (x1)]) (rest := [a_i (x2)]) (by decide +kernel) (by decide +kernel) (by decide +kernel) (by decide +kernel) rfl rfl (Nat.le_of_ble_eq_true rfl) (Nat.le_of_ble_eq_true rfl) rfl (by rw [show m_maxL 166 = 3 from by decide +kernel]; exact Nat.le_of_ble_eq_true rfl)).trans ?_
    exact ite_congr (by simp [a_rcv, show m_recv 166 = 11 from by decide +kernel]) (fun _ => rfl) (fun _ => rfl)
theorem B_X11_sumOf_21 {k : Nat → Nat × Nat} {u : Nat → Nat → Int} {g : Nat → Nat → Nat} {t : Nat × Nat × Nat} {r0 : Nat} {x1 : Int} {x2 : Int} {x3 : Int} {y0 : Int} {y1 : Int} : a_X 214 21 [a_r (r0), a_i (x1), a_i (x2), a_i (x3)] [a_i (y1), a_i (y0)] (k, u, g, t) = a_X 214 4 [a_r (r0), a_i (x1), a_i (wr (y0 + y1)), a_i (wr (x3 + 1))] [] (k, u, g, t) := by
  refine (X_iadd (m := 214) (pc := 21)  (by decide +kernel) ).trans ?_
  refine (X_istore_n (m := 214) (pc := 22) (n := 2) (by decide +kernel) rfl (Nat.le_of_ble_eq_true rfl) rfl).trans ?_
  refine (X_iinc (m := 214) (pc := 23) (n := 3) (c := 1) (by decide +kernel) rfl rfl (Nat.le_of_ble_eq_true rfl) rfl).trans ?_
  refine (X_goto (m := 214) (pc := 26) (off := -22) (tg := 4) (by decide +kernel) (by decide +kernel)).trans ?_
  rfl
theorem E_X11_count {σ : AS} {r0 : Nat} {x1 : Int} : a_m 215 [a_r (r0), a_i (x1)] σ = a_X 215 0 [a_r (r0), a_i (x1)] [] σ := a_m_eq (by rw [a_entry, show m_maxL 215 = 2 from by decide +kernel]; rfl)
theorem B_X11_count_0 {k : Nat → Nat × Nat} {u : Nat → Nat → Int} {g : Nat → Nat → Nat} {t : Nat × Nat × Nat} {r0 : Nat} {x1 : Int} : a_X 215 0 [a_r (r0), a_i (x1)] [] (k, u, g, t) = if (k r0).1 = 11 then (a_m 158 [a_r (r0)] (k, u, g, t)).bind (a_back 215 1 3 [a_r (r0), a_i (x1)] []) else none := by
  refine (X_aload_n (m := 215) (pc := 0) (n := 0) (by decide +kernel) rfl).trans ?_
  refine (X_call_vi (m := 215) (pc := 1) (q := 57) (y := 158) (n := 1) (as := [a_r (r0)]) (rest := []) (by decide +kernel) (by decide +kernel) (by decide +kernel) (by decide +kernel) rfl rfl (Nat.le_of_ble_eq_true rfl) (Nat.le_of_ble_eq_true rfl) rfl (by rw [show m_maxL 158 = 1 from by decide +kernel]; exact Nat.le_of_ble_eq_true rfl)).trans ?_
  exact ite_congr (by simp [a_rcv, show m_recv 158 = 11 from by decide +kernel]) (fun _ => rfl) (fun _ => rfl)
theorem B_X11_count_4 {k : Nat → Nat × Nat} {u : Nat → Nat → Int} {g : Nat → Nat → Nat} {t : Nat × Nat × Nat} {r0 : Nat} {x1 : Int} {y0 : Int} : a_X 215 4 [a_r (r0), a_i (x1)] [a_i (y0)] (k, u, g, t) = if (y0 : Int) ≠ 0 then some (.inl (some (a_i (0))), (k, u, g, t)) else (a_m 155 [a_l (x1), a_l (0), a_l (11)] (k, u, g, t)).bind (a_back 215 14 3 [a_r (r0), a_i (x1)] [a_r (r0)]) := by
  refine (X_if_ne (m := 215) (pc := 4) (off := 28) (tg := 32) (by decide +kernel) (by decide +kernel)).trans ?_
  refine ite_congr rfl (fun _ => ?_) (fun _ => ?_)
  · refine (X_iconst (m := 215) (pc := 32) (n := 0) (by decide +kernel) ).trans ?_
    exact X_ireturn (m := 215) (pc := 33) (f := 1) (by decide +kernel) (by decide +kernel) rfl
  · refine (X_aload_n (m := 215) (pc := 7) (n := 0) (by decide +kernel) rfl).trans ?_
    refine (X_iload_n (m := 215) (pc := 8) (n := 1) (by decide +kernel) rfl).trans ?_
    refine (X_i2l (m := 215) (pc := 9)  (by decide +kernel) ).trans ?_
    refine (X_lconst (m := 215) (pc := 10) (n := 0) (by decide +kernel) ).trans ?_
    refine (X_ldc2 (m := 215) (pc := 11) (n := 67) (z := 11) (by decide +kernel) (by decide +kernel)).trans ?_
    refine (X_call_st (m := 215) (pc := 14) (q := 61) (y := 155) (n := 3) (as := [a_l (x1), a_l (0), a_l (11)]) (rest := [a_r (r0)]) (by decide +kernel) (by decide +kernel) (by decide +kernel) (by decide +kernel) rfl rfl (Nat.le_of_ble_eq_true rfl) (Nat.le_of_ble_eq_true rfl) rfl (by rw [show m_maxL 155 = 6 from by decide +kernel]; exact Nat.le_of_ble_eq_true rfl)).trans ?_
    exact if_pos rfl
theorem B_X11_count_17 {k : Nat → Nat × Nat} {u : Nat → Nat → Int} {g : Nat → Nat → Nat} {t : Nat × Nat × Nat} {r0 : Nat} {x1 : Int} {q0 : Nat} {y1 : Int} : a_X 215 17 [a_r (r0), a_i (x1)] [a_i (y1), a_r (q0)] (k, u, g, t) = if (y1 : Int) ≠ 0 then if (k q0).1 = 11 then (a_m 157 [a_r (q0), a_i (0), a_i (2)] (k, u, g, t)).bind (a_back 215 26 3 [a_r (r0), a_i (x1)] []) else none else if (k q0).1 = 11 then (a_m 157 [a_r (q0), a_i (1), a_i (2)] (k, u, g, t)).bind (a_back 215 26 3 [a_r (r0), a_i (x1)] []) else none := by
  refine (X_if_ne (m := 215) (pc := 17) (off := 7) (tg := 24) (by decide +kernel) (by decide +kernel)).trans ?_
  refine ite_congr rfl (fun _ => ?_) (fun _ => ?_)
  · refine (X_iconst (m := 215) (pc := 24) (n := 0) (by decide +kernel) ).trans ?_
    refine (X_iconst (m := 215) (pc := 25) (n := 2) (by decide +kernel) ).trans ?_
    refine (X_call_vi (m := 215) (pc := 26) (q := 53) (y := 157) (n := 3) (as := [a_r (q0), a_i (0), a_i (2)]) (rest := []) (by decide +kernel) (by decide +kernel) (by decide +kernel) (by decide +kernel) rfl rfl (Nat.le_of_ble_eq_true rfl) (Nat.le_of_ble_eq_true rfl) rfl (by rw [show m_maxL 157 = 3 from by decide +kernel]; exact Nat.le_of_ble_eq_true rfl)).trans ?_
    exact ite_congr (by simp [a_rcv, show m_recv 157 = 11 from by decide +kernel]) (fun _ => rfl) (fun _ => rfl)
  · refine (X_iconst (m := 215) (pc := 20) (n := 1) (by decide +kernel) ).trans ?_
    refine (X_goto (m := 215) (pc := 21) (off := 4) (tg := 25) (by decide +kernel) (by decide +kernel)).trans ?_
    refine (X_iconst (m := 215) (pc := 25) (n := 2) (by decide +kernel) ).trans ?_
    refine (X_call_vi (m := 215) (pc := 26) (q := 53) (y := 157) (n := 3) (as := [a_r (q0), a_i (1), a_i (2)]) (rest := []) (by decide +kernel) (by decide +kernel) (by decide +kernel) (by decide +kernel) rfl rfl (Nat.le_of_ble_eq_true rfl) (Nat.le_of_ble_eq_true rfl) rfl (by rw [show m_maxL 157 = 3 from by decide +kernel]; exact Nat.le_of_ble_eq_true rfl)).trans ?_
    exact ite_congr (by simp [a_rcv, show m_recv 157 = 11 from by decide +kernel]) (fun _ => rfl) (fun _ => rfl)
theorem B_X11_count_29 {k : Nat → Nat × Nat} {u : Nat → Nat → Int} {g : Nat → Nat → Nat} {t : Nat × Nat × Nat} {r0 : Nat} {x1 : Int} {y0 : Int} : a_X 215 29 [a_r (r0), a_i (x1)] [a_i (y0)] (k, u, g, t) = if (y0 : Int) = 0 then if (x1) = 0 then a_X 215 92 [a_r (r0), a_i (x1)] [] (k, u, g, t) else if (x1) = 1 then a_X 215 97 [a_r (r0), a_i (x1)] [] (k, u, g, t) else if (x1) = 2 then a_X 215 104 [a_r (r0), a_i (x1)] [] (k, u, g, t) else if (x1) = 3 then a_X 215 111 [a_r (r0), a_i (x1)] [] (k, u, g, t) else if (x1) = 4 then a_X 215 118 [a_r (r0), a_i (x1)] [] (k, u, g, t) else if (x1) = 5 then a_X 215 125 [a_r (r0), a_i (x1)] [] (k, u, g, t) else if (x1) = 6 then a_X 215 131 [a_r (r0), a_i (x1)] [] (k, u, g, t) else if (x1) = 7 then a_X 215 137 [a_r (r0), a_i (x1)] [] (k, u, g, t) else if (x1) = 8 then a_X 215 144 [a_r (r0), a_i (x1)] [] (k, u, g, t) else if (x1) = 9 then a_X 215 152 [a_r (r0), a_i (x1)] [] (k, u, g, t) else if (x1) = 10 then a_X 215 157 [a_r (r0), a_i (x1)] [] (k, u, g, t) else a_X 215 164 [a_r (r0), a_i (x1)] [] (k, u, g, t) else some (.inl (some (a_i (0))), (k, u, g, t)) := by
  refine (X_if_eq (m := 215) (pc := 29) (off := 5) (tg := 34) (by decide +kernel) (by decide +kernel)).trans ?_
  refine ite_congr rfl (fun _ => ?_) (fun _ => ?_)
  · refine (X_iload_n (m := 215) (pc := 34) (n := 1) (by decide +kernel) rfl).trans ?_
    rw [X_table (m := 215) (pc := 35) (d := 129) (lo := 0) (hi := 10) (offs := #[57, 62, 69, 76, 83, 90, 96, 102, 109, 117, 122]) (len := 57) (by decide +kernel)]
    by_cases hh : (x1) < 0 ∨ 10 < (x1)
    · rw [if_pos hh]
      rw [if_neg (by omega)]
      rw [if_neg (by omega)]
      rw [if_neg (by omega)]
      rw [if_neg (by omega)]
      rw [if_neg (by omega)]
      rw [if_neg (by omega)]
      rw [if_neg (by omega)]
      rw [if_neg (by omega)]
      rw [if_neg (by omega)]
      rw [if_neg (by omega)]
      rw [if_neg (by omega)]
      rfl
    · rw [if_neg hh]
      generalize hx : (x1) = xx at hh ⊢
      have h9 : xx = 0 ∨ xx = 1 ∨ xx = 2 ∨ xx = 3 ∨ xx = 4 ∨ xx = 5 ∨ xx = 6 ∨ xx = 7 ∨ xx = 8 ∨ xx = 9 ∨ xx = 10 := by omega
      rcases h9 with rfl | rfl | rfl | rfl | rfl | rfl | rfl | rfl | rfl | rfl | rfl <;> rfl
  · refine (X_iconst (m := 215) (pc := 32) (n := 0) (by decide +kernel) ).trans ?_
    exact X_ireturn (m := 215) (pc := 33) (f := 1) (by decide +kernel) (by decide +kernel) rfl
theorem B_X11_count_92 {k : Nat → Nat × Nat} {u : Nat → Nat → Int} {g : Nat → Nat → Nat} {t : Nat × Nat × Nat} {r0 : Nat} {x1 : Int} : a_X 215 92 [a_r (r0), a_i (x1)] [] (k, u, g, t) = if (k r0).1 = 11 then (a_m 212 [a_r (r0)] (k, u, g, t)).bind (a_back 215 93 3 [a_r (r0), a_i (x1)] []) else none := by
  refine (X_aload_n (m := 215) (pc := 92) (n := 0) (by decide +kernel) rfl).trans ?_
  refine (X_call_vi (m := 215) (pc := 93) (q := 268) (y := 212) (n := 1) (as := [a_r (r0)]) (rest := []) (by decide +kernel) (by decide +kernel) (by decide +kernel) (by decide +kernel) rfl rfl (Nat.le_of_ble_eq_true rfl) (Nat.le_of_ble_eq_true rfl) rfl (by rw [show m_maxL 212 = 3 from by decide +kernel]; exact Nat.le_of_ble_eq_true rfl)).trans ?_
  exact ite_congr (by simp [a_rcv, show m_recv 212 = 11 from by decide +kernel]) (fun _ => rfl) (fun _ => rfl)
theorem B_X11_count_97 {k : Nat → Nat × Nat} {u : Nat → Nat → Int} {g : Nat → Nat → Nat} {t : Nat × Nat × Nat} {r0 : Nat} {x1 : Int} : a_X 215 97 [a_r (r0), a_i (x1)] [] (k, u, g, t) = if (k r0).1 = 11 then if ((k (g r0 2)).1 = 20 ∨ (k (g r0 2)).1 = 24) ∧ 0 ≤ (3 : Int) ∧ (3 : Int) < ((k (g r0 2)).2 : Int) then some (.inl (some (a_i (u (g r0 2) (3 : Int).toNat))), (k, u, g, t)) else none else none := by
  refine (X_aload_n (m := 215) (pc := 97) (n := 0) (by decide +kernel) rfl).trans ?_
  refine (X_getR (m := 215) (pc := 98) (n := 7) (c := 11) (q := 2) (fi := true) (by decide +kernel) (by decide +kernel)).trans ?_
  refine ite_congr rfl (fun _ => ?_) (fun _ => rfl)
  refine (X_iconst (m := 215) (pc := 101) (n := 3) (by decide +kernel) ).trans ?_
  refine (X_iaload (m := 215) (pc := 102)  (by decide +kernel) ).trans ?_
  refine ite_congr rfl (fun _ => ?_) (fun _ => rfl)
  exact X_ireturn (m := 215) (pc := 103) (f := 1) (by decide +kernel) (by decide +kernel) rfl
theorem B_X11_count_104 {k : Nat → Nat × Nat} {u : Nat → Nat → Int} {g : Nat → Nat → Nat} {t : Nat × Nat × Nat} {r0 : Nat} {x1 : Int} : a_X 215 104 [a_r (r0), a_i (x1)] [] (k, u, g, t) = if (k r0).1 = 11 then if ((k (g r0 2)).1 = 20 ∨ (k (g r0 2)).1 = 24) ∧ 0 ≤ (0 : Int) ∧ (0 : Int) < ((k (g r0 2)).2 : Int) then some (.inl (some (a_i (u (g r0 2) (0 : Int).toNat))), (k, u, g, t)) else none else none := by
  refine (X_aload_n (m := 215) (pc := 104) (n := 0) (by decide +kernel) rfl).trans ?_
  refine (X_getR (m := 215) (pc := 105) (n := 7) (c := 11) (q := 2) (fi := true) (by decide +kernel) (by decide +kernel)).trans ?_
  refine ite_congr rfl (fun _ => ?_) (fun _ => rfl)
  refine (X_iconst (m := 215) (pc := 108) (n := 0) (by decide +kernel) ).trans ?_
  refine (X_iaload (m := 215) (pc := 109)  (by decide +kernel) ).trans ?_
  refine ite_congr rfl (fun _ => ?_) (fun _ => rfl)
  exact X_ireturn (m := 215) (pc := 110) (f := 1) (by decide +kernel) (by decide +kernel) rfl
theorem B_X11_count_111 {k : Nat → Nat × Nat} {u : Nat → Nat → Int} {g : Nat → Nat → Nat} {t : Nat × Nat × Nat} {r0 : Nat} {x1 : Int} : a_X 215 111 [a_r (r0), a_i (x1)] [] (k, u, g, t) = if (k r0).1 = 11 then if ((k (g r0 2)).1 = 20 ∨ (k (g r0 2)).1 = 24) ∧ 0 ≤ (1 : Int) ∧ (1 : Int) < ((k (g r0 2)).2 : Int) then some (.inl (some (a_i (u (g r0 2) (1 : Int).toNat))), (k, u, g, t)) else none else none := by
  refine (X_aload_n (m := 215) (pc := 111) (n := 0) (by decide +kernel) rfl).trans ?_
  refine (X_getR (m := 215) (pc := 112) (n := 7) (c := 11) (q := 2) (fi := true) (by decide +kernel) (by decide +kernel)).trans ?_
  refine ite_congr rfl (fun _ => ?_) (fun _ => rfl)
  refine (X_iconst (m := 215) (pc := 115) (n := 1) (by decide +kernel) ).trans ?_
  refine (X_iaload (m := 215) (pc := 116)  (by decide +kernel) ).trans ?_
  refine ite_congr rfl (fun _ => ?_) (fun _ => rfl)
  exact X_ireturn (m := 215) (pc := 117) (f := 1) (by decide +kernel) (by decide +kernel) rfl
theorem B_X11_count_118 {k : Nat → Nat × Nat} {u : Nat → Nat → Int} {g : Nat → Nat → Nat} {t : Nat × Nat × Nat} {r0 : Nat} {x1 : Int} : a_X 215 118 [a_r (r0), a_i (x1)] [] (k, u, g, t) = if (k r0).1 = 11 then if ((k (g r0 2)).1 = 20 ∨ (k (g r0 2)).1 = 24) ∧ 0 ≤ (2 : Int) ∧ (2 : Int) < ((k (g r0 2)).2 : Int) then some (.inl (some (a_i (u (g r0 2) (2 : Int).toNat))), (k, u, g, t)) else none else none := by
  refine (X_aload_n (m := 215) (pc := 118) (n := 0) (by decide +kernel) rfl).trans ?_
  refine (X_getR (m := 215) (pc := 119) (n := 7) (c := 11) (q := 2) (fi := true) (by decide +kernel) (by decide +kernel)).trans ?_
  refine ite_congr rfl (fun _ => ?_) (fun _ => rfl)
  refine (X_iconst (m := 215) (pc := 122) (n := 2) (by decide +kernel) ).trans ?_
  refine (X_iaload (m := 215) (pc := 123)  (by decide +kernel) ).trans ?_
  refine ite_congr rfl (fun _ => ?_) (fun _ => rfl)
  exact X_ireturn (m := 215) (pc := 124) (f := 1) (by decide +kernel) (by decide +kernel) rfl
theorem B_X11_count_125 {k : Nat → Nat × Nat} {u : Nat → Nat → Int} {g : Nat → Nat → Nat} {t : Nat × Nat × Nat} {r0 : Nat} {x1 : Int} : a_X 215 125 [a_r (r0), a_i (x1)] [] (k, u, g, t) = if (k r0).1 = 11 then (a_m 213 [a_r (r0), a_i (0)] (k, u, g, t)).bind (a_back 215 127 3 [a_r (r0), a_i (x1)] []) else none := by
  refine (X_aload_n (m := 215) (pc := 125) (n := 0) (by decide +kernel) rfl).trans ?_
  refine (X_iconst (m := 215) (pc := 126) (n := 0) (by decide +kernel) ).trans ?_
  refine (X_call_vi (m := 215) (pc := 127) (q := 271) (y := 213) (n := 2) (as := [a_r (r0), a_i (0)]) (rest := []) (by decide +kernel) (by decide +kernel) (by decide +kernel) (by decide +kernel) rfl rfl (Nat.le_of_ble_eq_true rfl) (Nat.le_of_ble_eq_true rfl) rfl (by rw [show m_maxL 213 = 4 from by decide +kernel]; exact Nat.le_of_ble_eq_true rfl)).trans ?_
  exact ite_congr (by simp [a_rcv, show m_recv 213 = 11 from by decide +kernel]) (fun _ => rfl) (fun _ => rfl)
theorem B_X11_count_131 {k : Nat → Nat × Nat} {u : Nat → Nat → Int} {g : Nat → Nat → Nat} {t : Nat × Nat × Nat} {r0 : Nat} {x1 : Int} : a_X 215 131 [a_r (r0), a_i (x1)] [] (k, u, g, t) = if (k r0).1 = 11 then (a_m 213 [a_r (r0), a_i (1)] (k, u, g, t)).bind (a_back 215 133 3 [a_r (r0), a_i (x1)] []) else none := by
  refine (X_aload_n (m := 215) (pc := 131) (n := 0) (by decide +kernel) rfl).trans ?_
  refine (X_iconst (m := 215) (pc := 132) (n := 1) (by decide +kernel) ).trans ?_
  refine (X_call_vi (m := 215) (pc := 133) (q := 271) (y := 213) (n := 2) (as := [a_r (r0), a_i (1)]) (rest := []) (by decide +kernel) (by decide +kernel) (by decide +kernel) (by decide +kernel) rfl rfl (Nat.le_of_ble_eq_true rfl) (Nat.le_of_ble_eq_true rfl) rfl (by rw [show m_maxL 213 = 4 from by decide +kernel]; exact Nat.le_of_ble_eq_true rfl)).trans ?_
  exact ite_congr (by simp [a_rcv, show m_recv 213 = 11 from by decide +kernel]) (fun _ => rfl) (fun _ => rfl)
theorem B_X11_count_137 {k : Nat → Nat × Nat} {u : Nat → Nat → Int} {g : Nat → Nat → Nat} {t : Nat × Nat × Nat} {r0 : Nat} {x1 : Int} : a_X 215 137 [a_r (r0), a_i (x1)] [] (k, u, g, t) = if (k r0).1 = 11 then if ((k (g r0 2)).1 = 20 ∨ (k (g r0 2)).1 = 24) ∧ 0 ≤ (5 : Int) ∧ (5 : Int) < ((k (g r0 2)).2 : Int) then some (.inl (some (a_i (u (g r0 2) (5 : Int).toNat))), (k, u, g, t)) else none else none := by
  refine (X_aload_n (m := 215) (pc := 137) (n := 0) (by decide +kernel) rfl).trans ?_
  refine (X_getR (m := 215) (pc := 138) (n := 7) (c := 11) (q := 2) (fi := true) (by decide +kernel) (by decide +kernel)).trans ?_
  refine ite_congr rfl (fun _ => ?_) (fun _ => rfl)
  refine (X_iconst (m := 215) (pc := 141) (n := 5) (by decide +kernel) ).trans ?_
  refine (X_iaload (m := 215) (pc := 142)  (by decide +kernel) ).trans ?_
  refine ite_congr rfl (fun _ => ?_) (fun _ => rfl)
  exact X_ireturn (m := 215) (pc := 143) (f := 1) (by decide +kernel) (by decide +kernel) rfl
theorem B_X11_count_144 {k : Nat → Nat × Nat} {u : Nat → Nat → Int} {g : Nat → Nat → Nat} {t : Nat × Nat × Nat} {r0 : Nat} {x1 : Int} : a_X 215 144 [a_r (r0), a_i (x1)] [] (k, u, g, t) = if (k r0).1 = 11 then if ((k (g r0 2)).1 = 20 ∨ (k (g r0 2)).1 = 24) ∧ 0 ≤ (6 : Int) ∧ (6 : Int) < ((k (g r0 2)).2 : Int) then some (.inl (some (a_i (u (g r0 2) (6 : Int).toNat))), (k, u, g, t)) else none else none := by
  refine (X_aload_n (m := 215) (pc := 144) (n := 0) (by decide +kernel) rfl).trans ?_
  refine (X_getR (m := 215) (pc := 145) (n := 7) (c := 11) (q := 2) (fi := true) (by decide +kernel) (by decide +kernel)).trans ?_
  refine ite_congr rfl (fun _ => ?_) (fun _ => rfl)
  refine (X_bipush (m := 215) (pc := 148) (n := 6) (by decide +kernel) ).trans ?_
  refine (X_iaload (m := 215) (pc := 150)  (by decide +kernel) ).trans ?_
  refine ite_congr rfl (fun _ => ?_) (fun _ => rfl)
  exact X_ireturn (m := 215) (pc := 151) (f := 1) (by decide +kernel) (by decide +kernel) rfl
theorem B_X11_count_152 {k : Nat → Nat × Nat} {u : Nat → Nat → Int} {g : Nat → Nat → Nat} {t : Nat × Nat × Nat} {r0 : Nat} {x1 : Int} : a_X 215 152 [a_r (r0), a_i (x1)] [] (k, u, g, t) = if (k r0).1 = 11 then (a_m 211 [a_r (r0)] (k, u, g, t)).bind (a_back 215 153 3 [a_r (r0), a_i (x1)] []) else none := by
  refine (X_aload_n (m := 215) (pc := 152) (n := 0) (by decide +kernel) rfl).trans ?_
  refine (X_call_vi (m := 215) (pc := 153) (q := 274) (y := 211) (n := 1) (as := [a_r (r0)]) (rest := []) (by decide +kernel) (by decide +kernel) (by decide +kernel) (by decide +kernel) rfl rfl (Nat.le_of_ble_eq_true rfl) (Nat.le_of_ble_eq_true rfl) rfl (by rw [show m_maxL 211 = 3 from by decide +kernel]; exact Nat.le_of_ble_eq_true rfl)).trans ?_
  exact ite_congr (by simp [a_rcv, show m_recv 211 = 11 from by decide +kernel]) (fun _ => rfl) (fun _ => rfl)
theorem B_X11_count_157 {k : Nat → Nat × Nat} {u : Nat → Nat → Int} {g : Nat → Nat → Nat} {t : Nat × Nat × Nat} {r0 : Nat} {x1 : Int} : a_X 215 157 [a_r (r0), a_i (x1)] [] (k, u, g, t) = if (k r0).1 = 11 then (a_m 214 [a_r (r0), a_i (12)] (k, u, g, t)).bind (a_back 215 160 3 [a_r (r0), a_i (x1)] []) else none := by
  refine (X_aload_n (m := 215) (pc := 157) (n := 0) (by decide +kernel) rfl).trans ?_
  refine (X_bipush (m := 215) (pc := 158) (n := 12) (by decide +kernel) ).trans ?_
  refine (X_call_vi (m := 215) (pc := 160) (q := 277) (y := 214) (n := 2) (as := [a_r (r0), a_i (12)]) (rest := []) (by decide +kernel) (by decide +kernel) (by decide +kernel) (by decide +kernel) rfl rfl (Nat.le_of_ble_eq_true rfl) (Nat.le_of_ble_eq_true rfl) rfl (by rw [show m_maxL 214 = 4 from by decide +kernel]; exact Nat.le_of_ble_eq_true rfl)).trans ?_
  exact ite_congr (by simp [a_rcv, show m_recv 214 = 11 from by decide +kernel]) (fun _ => rfl) (fun _ => rfl)
theorem B_X11_count_164 {k : Nat → Nat × Nat} {u : Nat → Nat → Int} {g : Nat → Nat → Nat} {t : Nat × Nat × Nat} {r0 : Nat} {x1 : Int} : a_X 215 164 [a_r (r0), a_i (x1)] [] (k, u, g, t) = if (k r0).1 = 11 then (a_m 214 [a_r (r0), a_i (14)] (k, u, g, t)).bind (a_back 215 167 3 [a_r (r0), a_i (x1)] []) else none := by
  refine (X_aload_n (m := 215) (pc := 164) (n := 0) (by decide +kernel) rfl).trans ?_
  refine (X_bipush (m := 215) (pc := 165) (n := 14) (by decide +kernel) ).trans ?_
  refine (X_call_vi (m := 215) (pc := 167) (q := 277) (y := 214) (n := 2) (as := [a_r (r0), a_i (14)]) (rest := []) (by decide +kernel) (by decide +kernel) (by decide +kernel) (by decide +kernel) rfl rfl (Nat.le_of_ble_eq_true rfl) (Nat.le_of_ble_eq_true rfl) rfl (by rw [show m_maxL 214 = 4 from by decide +kernel]; exact Nat.le_of_ble_eq_true rfl)).trans ?_
  exact ite_congr (by simp [a_rcv, show m_recv 214 = 11 from by decide +kernel]) (fun _ => rfl) (fun _ => rfl)
theorem B_X11_count_96 {k : Nat → Nat × Nat} {u : Nat → Nat → Int} {g : Nat → Nat → Nat} {t : Nat × Nat × Nat} {r0 : Nat} {x1 : Int} {y0 : Int} : a_X 215 96 [a_r (r0), a_i (x1)] [a_i (y0)] (k, u, g, t) = some (.inl (some (a_i (y0))), (k, u, g, t)) := by
  exact X_ireturn (m := 215) (pc := 96) (f := 1) (by decide +kernel) (by decide +kernel) rfl
theorem B_X11_count_130 {k : Nat → Nat × Nat} {u : Nat → Nat → Int} {g : Nat → Nat → Nat} {t : Nat × Nat × Nat} {r0 : Nat} {x1 : Int} {y0 : Int} : a_X 215 130 [a_r (r0), a_i (x1)] [a_i (y0)] (k, u, g, t) = some (.inl (some (a_i (y0))), (k, u, g, t)) := by
  exact X_ireturn (m := 215) (pc := 130) (f := 1) (by decide +kernel) (by decide +kernel) rfl
theorem B_X11_count_136 {k : Nat → Nat × Nat} {u : Nat → Nat → Int} {g : Nat → Nat → Nat} {t : Nat × Nat × Nat} {r0 : Nat} {x1 : Int} {y0 : Int} : a_X 215 136 [a_r (r0), a_i (x1)] [a_i (y0)] (k, u, g, t) = some (.inl (some (a_i (y0))), (k, u, g, t)) := by
  exact X_ireturn (m := 215) (pc := 136) (f := 1) (by decide +kernel) (by decide +kernel) rfl
theorem B_X11_count_156 {k : Nat → Nat × Nat} {u : Nat → Nat → Int} {g : Nat → Nat → Nat} {t : Nat × Nat × Nat} {r0 : Nat} {x1 : Int} {y0 : Int} : a_X 215 156 [a_r (r0), a_i (x1)] [a_i (y0)] (k, u, g, t) = some (.inl (some (a_i (y0))), (k, u, g, t)) := by
  exact X_ireturn (m := 215) (pc := 156) (f := 1) (by decide +kernel) (by decide +kernel) rfl
theorem B_X11_count_163 {k : Nat → Nat × Nat} {u : Nat → Nat → Int} {g : Nat → Nat → Nat} {t : Nat × Nat × Nat} {r0 : Nat} {x1 : Int} {y0 : Int} : a_X 215 163 [a_r (r0), a_i (x1)] [a_i (y0)] (k, u, g, t) = some (.inl (some (a_i (y0))), (k, u, g, t)) := by
  exact X_ireturn (m := 215) (pc := 163) (f := 1) (by decide +kernel) (by decide +kernel) rfl
theorem B_X11_count_170 {k : Nat → Nat × Nat} {u : Nat → Nat → Int} {g : Nat → Nat → Nat} {t : Nat × Nat × Nat} {r0 : Nat} {x1 : Int} {y0 : Int} : a_X 215 170 [a_r (r0), a_i (x1)] [a_i (y0)] (k, u, g, t) = some (.inl (some (a_i (y0))), (k, u, g, t)) := by
  exact X_ireturn (m := 215) (pc := 170) (f := 1) (by decide +kernel) (by decide +kernel) rfl
theorem E_X11_stop {σ : AS} {r0 : Nat} {x1 : Int} {x2 : Int} {x3 : Int} : a_m 216 [a_r (r0), a_i (x1), a_i (x2), a_i (x3)] σ = a_X 216 0 [a_r (r0), a_i (x1), a_i (x2), a_i (x3)] [] σ := a_m_eq (by rw [a_entry, show m_maxL 216 = 4 from by decide +kernel]; rfl)
theorem B_X11_stop_0 {k : Nat → Nat × Nat} {u : Nat → Nat → Int} {g : Nat → Nat → Nat} {t : Nat × Nat × Nat} {r0 : Nat} {x1 : Int} {x2 : Int} {x3 : Int} : a_X 216 0 [a_r (r0), a_i (x1), a_i (x2), a_i (x3)] [] (k, u, g, t) = if (k r0).1 = 11 then (a_m 160 [a_r (r0), a_i (x1)] (k, u, g, t)).bind (a_back 216 2 3 [a_r (r0), a_i (x1), a_i (x2), a_i (x3)] []) else none := by
  refine (X_aload_n (m := 216) (pc := 0) (n := 0) (by decide +kernel) rfl).trans ?_
  refine (X_iload_n (m := 216) (pc := 1) (n := 1) (by decide +kernel) rfl).trans ?_
  refine (X_call_vi (m := 216) (pc := 2) (q := 280) (y := 160) (n := 2) (as := [a_r (r0), a_i (x1)]) (rest := []) (by decide +kernel) (by decide +kernel) (by decide +kernel) (by decide +kernel) rfl rfl (Nat.le_of_ble_eq_true rfl) (Nat.le_of_ble_eq_true rfl) rfl (by rw [show m_maxL 160 = 2 from by decide +kernel]; exact Nat.le_of_ble_eq_true rfl)).trans ?_
  exact ite_congr (by simp [a_rcv, show m_recv 160 = 11 from by decide +kernel]) (fun _ => rfl) (fun _ => rfl)
theorem B_X11_stop_5 {k : Nat → Nat × Nat} {u : Nat → Nat → Int} {g : Nat → Nat → Nat} {t : Nat × Nat × Nat} {r0 : Nat} {x1 : Int} {x2 : Int} {x3 : Int} {y0 : Int} : a_X 216 5 [a_r (r0), a_i (x1), a_i (x2), a_i (x3)] [a_i (y0)] (k, u, g, t) = if (y0 : Int) ≠ 0 then some (.inl (some (a_i (0))), (k, u, g, t)) else (a_m 161 [a_i (x2)] (k, u, g, t)).bind (a_back 216 10 3 [a_r (r0), a_i (x1), a_i (x2), a_i (x3)] [a_r (r0)]) := by
  refine (X_if_ne (m := 216) (pc := 5) (off := 48) (tg := 53) (by decide +kernel) (by decide +kernel)).trans ?_
  refine ite_congr rfl (fun _ => ?_) (fun _ => ?_)
  · refine (X_iconst (m := 216) (pc := 53) (n := 0) (by decide +kernel) ).trans ?_
    exact X_ireturn (m := 216) (pc := 54) (f := 1) (by decide +kernel) (by decide +kernel) rfl
  · refine (X_aload_n (m := 216) (pc := 8) (n := 0) (by decide +kernel) rfl).trans ?_
    refine (X_iload_n (m := 216) (pc := 9) (n := 2) (by decide +kernel) rfl).trans ?_
    refine (X_call_st (m := 216) (pc := 10) (q := 283) (y := 161) (n := 1) (as := [a_i (x2)]) (rest := [a_r (r0)]) (by decide +kernel) (by decide +kernel) (by decide +kernel) (by decide +kernel) rfl rfl (Nat.le_of_ble_eq_true rfl) (Nat.le_of_ble_eq_true rfl) rfl (by rw [show m_maxL 161 = 1 from by decide +kernel]; exact Nat.le_of_ble_eq_true rfl)).trans ?_
    exact if_pos rfl
theorem B_X11_stop_13 {k : Nat → Nat × Nat} {u : Nat → Nat → Int} {g : Nat → Nat → Nat} {t : Nat × Nat × Nat} {r0 : Nat} {x1 : Int} {x2 : Int} {x3 : Int} {q0 : Nat} {y1 : Int} : a_X 216 13 [a_r (r0), a_i (x1), a_i (x2), a_i (x3)] [a_i (y1), a_r (q0)] (k, u, g, t) = if (y1 : Int) ≠ 0 then if (k q0).1 = 11 then (a_m 157 [a_r (q0), a_i (0), a_i (2)] (k, u, g, t)).bind (a_back 216 22 3 [a_r (r0), a_i (x1), a_i (x2), a_i (x3)] []) else none else if (k q0).1 = 11 then (a_m 157 [a_r (q0), a_i (1), a_i (2)] (k, u, g, t)).bind (a_back 216 22 3 [a_r (r0), a_i (x1), a_i (x2), a_i (x3)] []) else none := by
  refine (X_if_ne (m := 216) (pc := 13) (off := 7) (tg := 20) (by decide +kernel) (by decide +kernel)).trans ?_
  refine ite_congr rfl (fun _ => ?_) (fun _ => ?_)
  · refine (X_iconst (m := 216) (pc := 20) (n := 0) (by decide +kernel) ).trans ?_
    refine (X_iconst (m := 216) (pc := 21) (n := 2) (by decide +kernel) ).trans ?_
    refine (X_call_vi (m := 216) (pc := 22) (q := 53) (y := 157) (n := 3) (as := [a_r (q0), a_i (0), a_i (2)]) (rest := []) (by decide +kernel) (by decide +kernel) (by decide +kernel) (by decide +kernel) rfl rfl (Nat.le_of_ble_eq_true rfl) (Nat.le_of_ble_eq_true rfl) rfl (by rw [show m_maxL 157 = 3 from by decide +kernel]; exact Nat.le_of_ble_eq_true rfl)).trans ?_
    exact ite_congr (by simp [a_rcv, show m_recv 157 = 11 from by decide +kernel]) (fun _ => rfl) (fun _ => rfl)
  · refine (X_iconst (m := 216) (pc := 16) (n := 1) (by decide +kernel) ).trans ?_
    refine (X_goto (m := 216) (pc := 17) (off := 4) (tg := 21) (by decide +kernel) (by decide +kernel)).trans ?_
    refine (X_iconst (m := 216) (pc := 21) (n := 2) (by decide +kernel) ).trans ?_
    refine (X_call_vi (m := 216) (pc := 22) (q := 53) (y := 157) (n := 3) (as := [a_r (q0), a_i (1), a_i (2)]) (rest := []) (by decide +kernel) (by decide +kernel) (by decide +kernel) (by decide +kernel) rfl rfl (Nat.le_of_ble_eq_true rfl) (Nat.le_of_ble_eq_true rfl) rfl (by rw [show m_maxL 157 = 3 from by decide +kernel]; exact Nat.le_of_ble_eq_true rfl)).trans ?_
    exact ite_congr (by simp [a_rcv, show m_recv 157 = 11 from by decide +kernel]) (fun _ => rfl) (fun _ => rfl)
theorem B_X11_stop_25 {k : Nat → Nat × Nat} {u : Nat → Nat → Int} {g : Nat → Nat → Nat} {t : Nat × Nat × Nat} {r0 : Nat} {x1 : Int} {x2 : Int} {x3 : Int} {y0 : Int} : a_X 216 25 [a_r (r0), a_i (x1), a_i (x2), a_i (x3)] [a_i (y0)] (k, u, g, t) = if (y0 : Int) ≠ 0 then some (.inl (some (a_i (0))), (k, u, g, t)) else (a_m 155 [a_l (x3), a_l (0), a_l (4)] (k, u, g, t)).bind (a_back 216 35 3 [a_r (r0), a_i (x1), a_i (x2), a_i (x3)] [a_r (r0)]) := by
  refine (X_if_ne (m := 216) (pc := 25) (off := 28) (tg := 53) (by decide +kernel) (by decide +kernel)).trans ?_
  refine ite_congr rfl (fun _ => ?_) (fun _ => ?_)
  · refine (X_iconst (m := 216) (pc := 53) (n := 0) (by decide +kernel) ).trans ?_
    exact X_ireturn (m := 216) (pc := 54) (f := 1) (by decide +kernel) (by decide +kernel) rfl
  · refine (X_aload_n (m := 216) (pc := 28) (n := 0) (by decide +kernel) rfl).trans ?_
    refine (X_iload_n (m := 216) (pc := 29) (n := 3) (by decide +kernel) rfl).trans ?_
    refine (X_i2l (m := 216) (pc := 30)  (by decide +kernel) ).trans ?_
    refine (X_lconst (m := 216) (pc := 31) (n := 0) (by decide +kernel) ).trans ?_
    refine (X_ldc2 (m := 216) (pc := 32) (n := 286) (z := 4) (by decide +kernel) (by decide +kernel)).trans ?_
    refine (X_call_st (m := 216) (pc := 35) (q := 61) (y := 155) (n := 3) (as := [a_l (x3), a_l (0), a_l (4)]) (rest := [a_r (r0)]) (by decide +kernel) (by decide +kernel) (by decide +kernel) (by decide +kernel) rfl rfl (Nat.le_of_ble_eq_true rfl) (Nat.le_of_ble_eq_true rfl) rfl (by rw [show m_maxL 155 = 6 from by decide +kernel]; exact Nat.le_of_ble_eq_true rfl)).trans ?_
    exact if_pos rfl
theorem B_X11_stop_38 {k : Nat → Nat × Nat} {u : Nat → Nat → Int} {g : Nat → Nat → Nat} {t : Nat × Nat × Nat} {r0 : Nat} {x1 : Int} {x2 : Int} {x3 : Int} {q0 : Nat} {y1 : Int} : a_X 216 38 [a_r (r0), a_i (x1), a_i (x2), a_i (x3)] [a_i (y1), a_r (q0)] (k, u, g, t) = if (y1 : Int) ≠ 0 then if (k q0).1 = 11 then (a_m 157 [a_r (q0), a_i (0), a_i (3)] (k, u, g, t)).bind (a_back 216 47 3 [a_r (r0), a_i (x1), a_i (x2), a_i (x3)] []) else none else if (k q0).1 = 11 then (a_m 157 [a_r (q0), a_i (1), a_i (3)] (k, u, g, t)).bind (a_back 216 47 3 [a_r (r0), a_i (x1), a_i (x2), a_i (x3)] []) else none := by
  refine (X_if_ne (m := 216) (pc := 38) (off := 7) (tg := 45) (by decide +kernel) (by decide +kernel)).trans ?_
  refine ite_congr rfl (fun _ => ?_) (fun _ => ?_)
  · refine (X_iconst (m := 216) (pc := 45) (n := 0) (by decide +kernel) ).trans ?_
    refine (X_iconst (m := 216) (pc := 46) (n := 3) (by decide +kernel) ).trans ?_
    refine (X_call_vi (m := 216) (pc := 47) (q := 53) (y := 157) (n := 3) (as := [a_r (q0), a_i (0), a_i (3)]) (rest := []) (by decide +kernel) (by decide +kernel) (by decide +kernel) (by decide +kernel) rfl rfl (Nat.le_of_ble_eq_true rfl) (Nat.le_of_ble_eq_true rfl) rfl (by rw [show m_maxL 157 = 3 from by decide +kernel]; exact Nat.le_of_ble_eq_true rfl)).trans ?_
    exact ite_congr (by simp [a_rcv, show m_recv 157 = 11 from by decide +kernel]) (fun _ => rfl) (fun _ => rfl)
  · refine (X_iconst (m := 216) (pc := 41) (n := 1) (by decide +kernel) ).trans ?_
    refine (X_goto (m := 216) (pc := 42) (off := 4) (tg := 46) (by decide +kernel) (by decide +kernel)).trans ?_
    refine (X_iconst (m := 216) (pc := 46) (n := 3) (by decide +kernel) ).trans ?_
    refine (X_call_vi (m := 216) (pc := 47) (q := 53) (y := 157) (n := 3) (as := [a_r (q0), a_i (1), a_i (3)]) (rest := []) (by decide +kernel) (by decide +kernel) (by decide +kernel) (by decide +kernel) rfl rfl (Nat.le_of_ble_eq_true rfl) (Nat.le_of_ble_eq_true rfl) rfl (by rw [show m_maxL 157 = 3 from by decide +kernel]; exact Nat.le_of_ble_eq_true rfl)).trans ?_
    exact ite_congr (by simp [a_rcv, show m_recv 157 = 11 from by decide +kernel]) (fun _ => rfl) (fun _ => rfl)
theorem B_X11_stop_50 {k : Nat → Nat × Nat} {u : Nat → Nat → Int} {g : Nat → Nat → Nat} {t : Nat × Nat × Nat} {r0 : Nat} {x1 : Int} {x2 : Int} {x3 : Int} {y0 : Int} : a_X 216 50 [a_r (r0), a_i (x1), a_i (x2), a_i (x3)] [a_i (y0)] (k, u, g, t) = if (y0 : Int) = 0 then if (k r0).1 = 11 then (a_m 165 [a_r (r0), a_i (x1), a_i (x2), a_i (x3)] (k, u, g, t)).bind (a_back 216 59 3 [a_r (r0), a_i (x1), a_i (x2), a_i (x3)] []) else none else some (.inl (some (a_i (0))), (k, u, g, t)) := by
  refine (X_if_eq (m := 216) (pc := 50) (off := 5) (tg := 55) (by decide +kernel) (by decide +kernel)).trans ?_
  refine ite_congr rfl (fun _ => ?_) (fun _ => ?_)
  · refine (X_aload_n (m := 216) (pc := 55) (n := 0) (by decide +kernel) rfl).trans ?_
    refine (X_iload_n (m := 216) (pc := 56) (n := 1) (by decide +kernel) rfl).trans ?_
    refine (X_iload_n (m := 216) (pc := 57) (n := 2) (by decide +kernel) rfl).trans ?_
    refine (X_iload_n (m := 216) (pc := 58) (n := 3) (by decide +kernel) rfl).trans ?_
    refine (X_call_vi (m := 216) (pc := 59) (q := 82) (y := 165) (n := 4) (as := [a_r (r0), a_i (x1), a_i (x2), a_i (x3)]) (rest := []) (by decide +kernel) (by decide +kernel) (by decide +kernel) (by decide +kernel) rfl rfl (Nat.le_of_ble_eq_true rfl) (Nat.le_of_ble_eq_true rfl) rfl (by rw [show m_maxL 165 = 4 from by decide +kernel]; exact Nat.le_of_ble_eq_true rfl)).trans ?_
    exact ite_congr (by simp [a_rcv, show m_recv 165 = 11 from by decide +kernel]) (fun _ => rfl) (fun _ => rfl)
  · refine (X_iconst (m := 216) (pc := 53) (n := 0) (by decide +kernel) ).trans ?_
    exact X_ireturn (m := 216) (pc := 54) (f := 1) (by decide +kernel) (by decide +kernel) rfl
theorem B_X11_stop_62 {k : Nat → Nat × Nat} {u : Nat → Nat → Int} {g : Nat → Nat → Nat} {t : Nat × Nat × Nat} {r0 : Nat} {x1 : Int} {x2 : Int} {x3 : Int} {y0 : Int} : a_X 216 62 [a_r (r0), a_i (x1), a_i (x2), a_i (x3)] [a_i (y0)] (k, u, g, t) = some (.inl (some (a_i (y0))), (k, u, g, t)) := by
  exact X_ireturn (m := 216) (pc := 62) (f := 1) (by decide +kernel) (by decide +kernel) rfl
theorem E_X11_onAir {σ : AS} {r0 : Nat} {x1 : Int} {x2 : Int} : a_m 217 [a_r (r0), a_i (x1), a_i (x2)] σ = a_X 217 0 [a_r (r0), a_i (x1), a_i (x2), a_x false] [] σ := a_m_eq (by rw [a_entry, show m_maxL 217 = 4 from by decide +kernel]; rfl)
theorem B_X11_onAir_0 {k : Nat → Nat × Nat} {u : Nat → Nat → Int} {g : Nat → Nat → Nat} {t : Nat × Nat × Nat} {r0 : Nat} {x1 : Int} {x2 : Int} {v3 : AV} : a_X 217 0 [a_r (r0), a_i (x1), a_i (x2), v3] [] (k, u, g, t) = if (k r0).1 = 11 then (a_m 158 [a_r (r0)] (k, u, g, t)).bind (a_back 217 1 3 [a_r (r0), a_i (x1), a_i (x2), v3] []) else none := by
  refine (X_aload_n (m := 217) (pc := 0) (n := 0) (by decide +kernel) rfl).trans ?_
  refine (X_call_vi (m := 217) (pc := 1) (q := 57) (y := 158) (n := 1) (as := [a_r (r0)]) (rest := []) (by decide +kernel) (by decide +kernel) (by decide +kernel) (by decide +kernel) rfl rfl (Nat.le_of_ble_eq_true rfl) (Nat.le_of_ble_eq_true rfl) rfl (by rw [show m_maxL 158 = 1 from by decide +kernel]; exact Nat.le_of_ble_eq_true rfl)).trans ?_
  exact ite_congr (by simp [a_rcv, show m_recv 158 = 11 from by decide +kernel]) (fun _ => rfl) (fun _ => rfl)
theorem B_X11_onAir_4 {k : Nat → Nat × Nat} {u : Nat → Nat → Int} {g : Nat → Nat → Nat} {t : Nat × Nat × Nat} {r0 : Nat} {x1 : Int} {x2 : Int} {v3 : AV} {y0 : Int} : a_X 217 4 [a_r (r0), a_i (x1), a_i (x2), v3] [a_i (y0)] (k, u, g, t) = if (y0 : Int) ≠ 0 then some (.inl (some (a_i (0))), (k, u, g, t)) else if (k r0).1 = 11 then if ((k (g r0 2)).1 = 20 ∨ (k (g r0 2)).1 = 24) ∧ 0 ≤ (4 : Int) ∧ (4 : Int) < ((k (g r0 2)).2 : Int) then (a_m 155 [a_l (x1), a_l (0), a_l (wr ((u (g r0 2) (4 : Int).toNat) - 1))] (k, u, g, t)).bind (a_back 217 20 3 [a_r (r0), a_i (x1), a_i (x2), v3] [a_r (r0)]) else none else none := by
  refine (X_if_ne (m := 217) (pc := 4) (off := 59) (tg := 63) (by decide +kernel) (by decide +kernel)).trans ?_
  refine ite_congr rfl (fun _ => ?_) (fun _ => ?_)
  · refine (X_iconst (m := 217) (pc := 63) (n := 0) (by decide +kernel) ).trans ?_
    exact X_ireturn (m := 217) (pc := 64) (f := 1) (by decide +kernel) (by decide +kernel) rfl
  · refine (X_aload_n (m := 217) (pc := 7) (n := 0) (by decide +kernel) rfl).trans ?_
    refine (X_iload_n (m := 217) (pc := 8) (n := 1) (by decide +kernel) rfl).trans ?_
    refine (X_i2l (m := 217) (pc := 9)  (by decide +kernel) ).trans ?_
    refine (X_lconst (m := 217) (pc := 10) (n := 0) (by decide +kernel) ).trans ?_
    refine (X_aload_n (m := 217) (pc := 11) (n := 0) (by decide +kernel) rfl).trans ?_
    refine (X_getR (m := 217) (pc := 12) (n := 7) (c := 11) (q := 2) (fi := true) (by decide +kernel) (by decide +kernel)).trans ?_
    refine ite_congr rfl (fun _ => ?_) (fun _ => rfl)
    refine (X_iconst (m := 217) (pc := 15) (n := 4) (by decide +kernel) ).trans ?_
    refine (X_iaload (m := 217) (pc := 16)  (by decide +kernel) ).trans ?_
    refine ite_congr rfl (fun _ => ?_) (fun _ => rfl)
    refine (X_iconst (m := 217) (pc := 17) (n := 1) (by decide +kernel) ).trans ?_
    refine (X_isub (m := 217) (pc := 18)  (by decide +kernel) ).trans ?_
    refine (X_i2l (m := 217) (pc := 19)  (by decide +kernel) ).trans ?_
    refine (X_call_st (m := 217) (pc := 20) (q := 61) (y := 155) (n := 3) (as := [a_l (x1), a_l (0), a_l (wr ((u (g r0 2) (4 : Int).toNat) - 1))]) (rest := [a_r (r0)]) (by decide +kernel) (by decide +kernel) (by decide +kernel) (by decide +kernel) rfl rfl (Nat.le_of_ble_eq_true rfl) (Nat.le_of_ble_eq_true rfl) rfl (by rw [show m_maxL 155 = 6 from by decide +kernel]; exact Nat.le_of_ble_eq_true rfl)).trans ?_
    exact if_pos rfl
theorem B_X11_onAir_23 {k : Nat → Nat × Nat} {u : Nat → Nat → Int} {g : Nat → Nat → Nat} {t : Nat × Nat × Nat} {r0 : Nat} {x1 : Int} {x2 : Int} {v3 : AV} {q0 : Nat} {y1 : Int} : a_X 217 23 [a_r (r0), a_i (x1), a_i (x2), v3] [a_i (y1), a_r (q0)] (k, u, g, t) = if (y1 : Int) ≠ 0 then if (k q0).1 = 11 then (a_m 157 [a_r (q0), a_i (0), a_i (2)] (k, u, g, t)).bind (a_back 217 32 3 [a_r (r0), a_i (x1), a_i (x2), v3] []) else none else if (k q0).1 = 11 then (a_m 157 [a_r (q0), a_i (1), a_i (2)] (k, u, g, t)).bind (a_back 217 32 3 [a_r (r0), a_i (x1), a_i (x2), v3] []) else none := by
  refine (X_if_ne (m := 217) (pc := 23) (off := 7) (tg := 30) (by decide +kernel) (by decide +kernel)).trans ?_
  refine ite_congr rfl (fun _ => ?_) (fun _ => ?_)
  · refine (X_iconst (m := 217) (pc := 30) (n := 0) (by decide +kernel) ).trans ?_
    refine (X_iconst (m := 217) (pc := 31) (n := 2) (by decide +kernel) ).trans ?_
    refine (X_call_vi (m := 217) (pc := 32) (q := 53) (y := 157) (n := 3) (as := [a_r (q0), a_i (0), a_i (2)]) (rest := []) (by decide +kernel) (by decide +kernel) (by decide +kernel) (by decide +kernel) rfl rfl (Nat.le_of_ble_eq_true rfl) (Nat.le_of_ble_eq_true rfl) rfl (by rw [show m_maxL 157 = 3 from by decide +kernel]; exact Nat.le_of_ble_eq_true rfl)).trans ?_
    exact ite_congr (by simp [a_rcv, show m_recv 157 = 11 from by decide +kernel]) (fun _ => rfl) (fun _ => rfl)
  · refine (X_iconst (m := 217) (pc := 26) (n := 1) (by decide +kernel) ).trans ?_
    refine (X_goto (m := 217) (pc := 27) (off := 4) (tg := 31) (by decide +kernel) (by decide +kernel)).trans ?_
    refine (X_iconst (m := 217) (pc := 31) (n := 2) (by decide +kernel) ).trans ?_
    refine (X_call_vi (m := 217) (pc := 32) (q := 53) (y := 157) (n := 3) (as := [a_r (q0), a_i (1), a_i (2)]) (rest := []) (by decide +kernel) (by decide +kernel) (by decide +kernel) (by decide +kernel) rfl rfl (Nat.le_of_ble_eq_true rfl) (Nat.le_of_ble_eq_true rfl) rfl (by rw [show m_maxL 157 = 3 from by decide +kernel]; exact Nat.le_of_ble_eq_true rfl)).trans ?_
    exact ite_congr (by simp [a_rcv, show m_recv 157 = 11 from by decide +kernel]) (fun _ => rfl) (fun _ => rfl)
theorem B_X11_onAir_35 {k : Nat → Nat × Nat} {u : Nat → Nat → Int} {g : Nat → Nat → Nat} {t : Nat × Nat × Nat} {r0 : Nat} {x1 : Int} {x2 : Int} {v3 : AV} {y0 : Int} : a_X 217 35 [a_r (r0), a_i (x1), a_i (x2), v3] [a_i (y0)] (k, u, g, t) = if (y0 : Int) ≠ 0 then some (.inl (some (a_i (0))), (k, u, g, t)) else (a_m 155 [a_l (x2), a_l (0), a_l (5)] (k, u, g, t)).bind (a_back 217 45 3 [a_r (r0), a_i (x1), a_i (x2), v3] [a_r (r0)]) := by
  refine (X_if_ne (m := 217) (pc := 35) (off := 28) (tg := 63) (by decide +kernel) (by decide +kernel)).trans ?_
  refine ite_congr rfl (fun _ => ?_) (fun _ => ?_)
  · refine (X_iconst (m := 217) (pc := 63) (n := 0) (by decide +kernel) ).trans ?_
    exact X_ireturn (m := 217) (pc := 64) (f := 1) (by decide +kernel) (by decide +kernel) rfl
  · refine (X_aload_n (m := 217) (pc := 38) (n := 0) (by decide +kernel) rfl).trans ?_
    refine (X_iload_n (m := 217) (pc := 39) (n := 2) (by decide +kernel) rfl).trans ?_
    refine (X_i2l (m := 217) (pc := 40)  (by decide +kernel) ).trans ?_
    refine (X_lconst (m := 217) (pc := 41) (n := 0) (by decide +kernel) ).trans ?_
    refine (X_ldc2 (m := 217) (pc := 42) (n := 288) (z := 5) (by decide +kernel) (by decide +kernel)).trans ?_
    refine (X_call_st (m := 217) (pc := 45) (q := 61) (y := 155) (n := 3) (as := [a_l (x2), a_l (0), a_l (5)]) (rest := [a_r (r0)]) (by decide +kernel) (by decide +kernel) (by decide +kernel) (by decide +kernel) rfl rfl (Nat.le_of_ble_eq_true rfl) (Nat.le_of_ble_eq_true rfl) rfl (by rw [show m_maxL 155 = 6 from by decide +kernel]; exact Nat.le_of_ble_eq_true rfl)).trans ?_
    exact if_pos rfl
theorem B_X11_onAir_48 {k : Nat → Nat × Nat} {u : Nat → Nat → Int} {g : Nat → Nat → Nat} {t : Nat × Nat × Nat} {r0 : Nat} {x1 : Int} {x2 : Int} {v3 : AV} {q0 : Nat} {y1 : Int} : a_X 217 48 [a_r (r0), a_i (x1), a_i (x2), v3] [a_i (y1), a_r (q0)] (k, u, g, t) = if (y1 : Int) ≠ 0 then if (k q0).1 = 11 then (a_m 157 [a_r (q0), a_i (0), a_i (3)] (k, u, g, t)).bind (a_back 217 57 3 [a_r (r0), a_i (x1), a_i (x2), v3] []) else none else if (k q0).1 = 11 then (a_m 157 [a_r (q0), a_i (1), a_i (3)] (k, u, g, t)).bind (a_back 217 57 3 [a_r (r0), a_i (x1), a_i (x2), v3] []) else none := by
  refine (X_if_ne (m := 217) (pc := 48) (off := 7) (tg := 55) (by decide +kernel) (by decide +kernel)).trans ?_
  refine ite_congr rfl (fun _ => ?_) (fun _ => ?_)
  · refine (X_iconst (m := 217) (pc := 55) (n := 0) (by decide +kernel) ).trans ?_
    refine (X_iconst (m := 217) (pc := 56) (n := 3) (by decide +kernel) ).trans ?_
    refine (X_call_vi (m := 217) (pc := 57) (q := 53) (y := 157) (n := 3) (as := [a_r (q0), a_i (0), a_i (3)]) (rest := []) (by decide +kernel) (by decide +kernel) (by decide +kernel) (by decide +kernel) rfl rfl (Nat.le_of_ble_eq_true rfl) (Nat.le_of_ble_eq_true rfl) rfl (by rw [show m_maxL 157 = 3 from by decide +kernel]; exact Nat.le_of_ble_eq_true rfl)).trans ?_
    exact ite_congr (by simp [a_rcv, show m_recv 157 = 11 from by decide +kernel]) (fun _ => rfl) (fun _ => rfl)
  · refine (X_iconst (m := 217) (pc := 51) (n := 1) (by decide +kernel) ).trans ?_
    refine (X_goto (m := 217) (pc := 52) (off := 4) (tg := 56) (by decide +kernel) (by decide +kernel)).trans ?_
    refine (X_iconst (m := 217) (pc := 56) (n := 3) (by decide +kernel) ).trans ?_
    refine (X_call_vi (m := 217) (pc := 57) (q := 53) (y := 157) (n := 3) (as := [a_r (q0), a_i (1), a_i (3)]) (rest := []) (by decide +kernel) (by decide +kernel) (by decide +kernel) (by decide +kernel) rfl rfl (Nat.le_of_ble_eq_true rfl) (Nat.le_of_ble_eq_true rfl) rfl (by rw [show m_maxL 157 = 3 from by decide +kernel]; exact Nat.le_of_ble_eq_true rfl)).trans ?_
    exact ite_congr (by simp [a_rcv, show m_recv 157 = 11 from by decide +kernel]) (fun _ => rfl) (fun _ => rfl)
theorem B_X11_onAir_60 {k : Nat → Nat × Nat} {u : Nat → Nat → Int} {g : Nat → Nat → Nat} {t : Nat × Nat × Nat} {r0 : Nat} {x1 : Int} {x2 : Int} {v3 : AV} {y0 : Int} : a_X 217 60 [a_r (r0), a_i (x1), a_i (x2), v3] [a_i (y0)] (k, u, g, t) = if (y0 : Int) = 0 then if (k r0).1 = 11 then (a_m 197 [a_r (r0), a_i (x1)] (k, u, g, t)).bind (a_back 217 67 3 [a_r (r0), a_i (x1), a_i (x2), v3] []) else none else some (.inl (some (a_i (0))), (k, u, g, t)) := by
  refine (X_if_eq (m := 217) (pc := 60) (off := 5) (tg := 65) (by decide +kernel) (by decide +kernel)).trans ?_
  refine ite_congr rfl (fun _ => ?_) (fun _ => ?_)
  · refine (X_aload_n (m := 217) (pc := 65) (n := 0) (by decide +kernel) rfl).trans ?_
    refine (X_iload_n (m := 217) (pc := 66) (n := 1) (by decide +kernel) rfl).trans ?_
    refine (X_call_vi (m := 217) (pc := 67) (q := 290) (y := 197) (n := 2) (as := [a_r (r0), a_i (x1)]) (rest := []) (by decide +kernel) (by decide +kernel) (by decide +kernel) (by decide +kernel) rfl rfl (Nat.le_of_ble_eq_true rfl) (Nat.le_of_ble_eq_true rfl) rfl (by rw [show m_maxL 197 = 5 from by decide +kernel]; exact Nat.le_of_ble_eq_true rfl)).trans ?_
    exact ite_congr (by simp [a_rcv, show m_recv 197 = 11 from by decide +kernel]) (fun _ => rfl) (fun _ => rfl)
  · refine (X_iconst (m := 217) (pc := 63) (n := 0) (by decide +kernel) ).trans ?_
    exact X_ireturn (m := 217) (pc := 64) (f := 1) (by decide +kernel) (by decide +kernel) rfl
theorem B_X11_onAir_70 {k : Nat → Nat × Nat} {u : Nat → Nat → Int} {g : Nat → Nat → Nat} {t : Nat × Nat × Nat} {r0 : Nat} {x1 : Int} {x2 : Int} {v3 : AV} {y0 : Int} : a_X 217 70 [a_r (r0), a_i (x1), a_i (x2), v3] [a_i (y0)] (k, u, g, t) = if (x2) = 0 then a_X 217 108 [a_r (r0), a_i (x1), a_i (x2), a_i (y0)] [] (k, u, g, t) else if (x2) = 1 then a_X 217 115 [a_r (r0), a_i (x1), a_i (x2), a_i (y0)] [] (k, u, g, t) else if (x2) = 2 then a_X 217 141 [a_r (r0), a_i (x1), a_i (x2), a_i (y0)] [] (k, u, g, t) else if (x2) = 3 then a_X 217 148 [a_r (r0), a_i (x1), a_i (x2), a_i (y0)] [] (k, u, g, t) else if (x2) = 4 then a_X 217 155 [a_r (r0), a_i (x1), a_i (x2), a_i (y0)] [] (k, u, g, t) else a_X 217 161 [a_r (r0), a_i (x1), a_i (x2), a_i (y0)] [] (k, u, g, t) := by
  refine (X_istore_n (m := 217) (pc := 70) (n := 3) (by decide +kernel) rfl (Nat.le_of_ble_eq_true rfl) rfl).trans ?_
  refine (X_iload_n (m := 217) (pc := 71) (n := 2) (by decide +kernel) rfl).trans ?_
  rw [X_table (m := 217) (pc := 72) (d := 89) (lo := 0) (hi := 4) (offs := #[36, 43, 69, 76, 83]) (len := 36) (by decide +kernel)]
  by_cases hh : (x2) < 0 ∨ 4 < (x2)
  · rw [if_pos hh]
    rw [if_neg (by omega)]
    rw [if_neg (by omega)]
    rw [if_neg (by omega)]
    rw [if_neg (by omega)]
    rw [if_neg (by omega)]
    rfl
  · rw [if_neg hh]
    generalize hx : (x2) = xx at hh ⊢
    have h9 : xx = 0 ∨ xx = 1 ∨ xx = 2 ∨ xx = 3 ∨ xx = 4 := by omega
    rcases h9 with rfl | rfl | rfl | rfl | rfl <;> rfl
theorem B_X11_onAir_108 {k : Nat → Nat × Nat} {u : Nat → Nat → Int} {g : Nat → Nat → Nat} {t : Nat × Nat × Nat} {r0 : Nat} {x1 : Int} {x2 : Int} {x3 : Int} : a_X 217 108 [a_r (r0), a_i (x1), a_i (x2), a_i (x3)] [] (k, u, g, t) = if (k r0).1 = 11 then (a_m 169 [a_r (r0), a_i (x3), a_i (1)] (k, u, g, t)).bind (a_back 217 111 3 [a_r (r0), a_i (x1), a_i (x2), a_i (x3)] []) else none := by
  refine (X_aload_n (m := 217) (pc := 108) (n := 0) (by decide +kernel) rfl).trans ?_
  refine (X_iload_n (m := 217) (pc := 109) (n := 3) (by decide +kernel) rfl).trans ?_
  refine (X_iconst (m := 217) (pc := 110) (n := 1) (by decide +kernel) ).trans ?_
  refine (X_call_vi (m := 217) (pc := 111) (q := 181) (y := 169) (n := 3) (as := [a_r (r0), a_i (x3), a_i (1)]) (rest := []) (by decide +kernel) (by decide +kernel) (by decide +kernel) (by decide +kernel) rfl rfl (Nat.le_of_ble_eq_true rfl) (Nat.le_of_ble_eq_true rfl) rfl (by rw [show m_maxL 169 = 3 from by decide +kernel]; exact Nat.le_of_ble_eq_true rfl)).trans ?_
  exact ite_congr (by simp [a_rcv, show m_recv 169 = 11 from by decide +kernel]) (fun _ => rfl) (fun _ => rfl)
theorem B_X11_onAir_115 {k : Nat → Nat × Nat} {u : Nat → Nat → Int} {g : Nat → Nat → Nat} {t : Nat × Nat × Nat} {r0 : Nat} {x1 : Int} {x2 : Int} {x3 : Int} : a_X 217 115 [a_r (r0), a_i (x1), a_i (x2), a_i (x3)] [] (k, u, g, t) = if (k r0).1 = 11 then (a_m 169 [a_r (r0), a_i (x3), a_i (0)] (k, u, g, t)).bind (a_back 217 118 3 [a_r (r0), a_i (x1), a_i (x2), a_i (x3)] []) else none := by
  refine (X_aload_n (m := 217) (pc := 115) (n := 0) (by decide +kernel) rfl).trans ?_
  refine (X_iload_n (m := 217) (pc := 116) (n := 3) (by decide +kernel) rfl).trans ?_
  refine (X_iconst (m := 217) (pc := 117) (n := 0) (by decide +kernel) ).trans ?_
  refine (X_call_vi (m := 217) (pc := 118) (q := 181) (y := 169) (n := 3) (as := [a_r (r0), a_i (x3), a_i (0)]) (rest := []) (by decide +kernel) (by decide +kernel) (by decide +kernel) (by decide +kernel) rfl rfl (Nat.le_of_ble_eq_true rfl) (Nat.le_of_ble_eq_true rfl) rfl (by rw [show m_maxL 169 = 3 from by decide +kernel]; exact Nat.le_of_ble_eq_true rfl)).trans ?_
  exact ite_congr (by simp [a_rcv, show m_recv 169 = 11 from by decide +kernel]) (fun _ => rfl) (fun _ => rfl)
theorem B_X11_onAir_141 {k : Nat → Nat × Nat} {u : Nat → Nat → Int} {g : Nat → Nat → Nat} {t : Nat × Nat × Nat} {r0 : Nat} {x1 : Int} {x2 : Int} {x3 : Int} : a_X 217 141 [a_r (r0), a_i (x1), a_i (x2), a_i (x3)] [] (k, u, g, t) = if (k r0).1 = 11 then (a_m 169 [a_r (r0), a_i (x3), a_i (2)] (k, u, g, t)).bind (a_back 217 144 3 [a_r (r0), a_i (x1), a_i (x2), a_i (x3)] []) else none := by
  refine (X_aload_n (m := 217) (pc := 141) (n := 0) (by decide +kernel) rfl).trans ?_
  refine (X_iload_n (m := 217) (pc := 142) (n := 3) (by decide +kernel) rfl).trans ?_
  refine (X_iconst (m := 217) (pc := 143) (n := 2) (by decide +kernel) ).trans ?_
  refine (X_call_vi (m := 217) (pc := 144) (q := 181) (y := 169) (n := 3) (as := [a_r (r0), a_i (x3), a_i (2)]) (rest := []) (by decide +kernel) (by decide +kernel) (by decide +kernel) (by decide +kernel) rfl rfl (Nat.le_of_ble_eq_true rfl) (Nat.le_of_ble_eq_true rfl) rfl (by rw [show m_maxL 169 = 3 from by decide +kernel]; exact Nat.le_of_ble_eq_true rfl)).trans ?_
  exact ite_congr (by simp [a_rcv, show m_recv 169 = 11 from by decide +kernel]) (fun _ => rfl) (fun _ => rfl)
theorem B_X11_onAir_148 {k : Nat → Nat × Nat} {u : Nat → Nat → Int} {g : Nat → Nat → Nat} {t : Nat × Nat × Nat} {r0 : Nat} {x1 : Int} {x2 : Int} {x3 : Int} : a_X 217 148 [a_r (r0), a_i (x1), a_i (x2), a_i (x3)] [] (k, u, g, t) = if (k r0).1 = 11 then (a_m 169 [a_r (r0), a_i (x3), a_i (3)] (k, u, g, t)).bind (a_back 217 151 3 [a_r (r0), a_i (x1), a_i (x2), a_i (x3)] []) else none := by
  refine (X_aload_n (m := 217) (pc := 148) (n := 0) (by decide +kernel) rfl).trans ?_
  refine (X_iload_n (m := 217) (pc := 149) (n := 3) (by decide +kernel) rfl).trans ?_
  refine (X_iconst (m := 217) (pc := 150) (n := 3) (by decide +kernel) ).trans ?_
  refine (X_call_vi (m := 217) (pc := 151) (q := 181) (y := 169) (n := 3) (as := [a_r (r0), a_i (x3), a_i (3)]) (rest := []) (by decide +kernel) (by decide +kernel) (by decide +kernel) (by decide +kernel) rfl rfl (Nat.le_of_ble_eq_true rfl) (Nat.le_of_ble_eq_true rfl) rfl (by rw [show m_maxL 169 = 3 from by decide +kernel]; exact Nat.le_of_ble_eq_true rfl)).trans ?_
  exact ite_congr (by simp [a_rcv, show m_recv 169 = 11 from by decide +kernel]) (fun _ => rfl) (fun _ => rfl)
theorem B_X11_onAir_155 {k : Nat → Nat × Nat} {u : Nat → Nat → Int} {g : Nat → Nat → Nat} {t : Nat × Nat × Nat} {r0 : Nat} {x1 : Int} {x2 : Int} {x3 : Int} : a_X 217 155 [a_r (r0), a_i (x1), a_i (x2), a_i (x3)] [] (k, u, g, t) = if (k r0).1 = 11 then (a_m 194 [a_r (r0), a_i (x3)] (k, u, g, t)).bind (a_back 217 157 3 [a_r (r0), a_i (x1), a_i (x2), a_i (x3)] []) else none := by
  refine (X_aload_n (m := 217) (pc := 155) (n := 0) (by decide +kernel) rfl).trans ?_
  refine (X_iload_n (m := 217) (pc := 156) (n := 3) (by decide +kernel) rfl).trans ?_
  refine (X_call_vi (m := 217) (pc := 157) (q := 193) (y := 194) (n := 2) (as := [a_r (r0), a_i (x3)]) (rest := []) (by decide +kernel) (by decide +kernel) (by decide +kernel) (by decide +kernel) rfl rfl (Nat.le_of_ble_eq_true rfl) (Nat.le_of_ble_eq_true rfl) rfl (by rw [show m_maxL 194 = 4 from by decide +kernel]; exact Nat.le_of_ble_eq_true rfl)).trans ?_
  exact ite_congr (by simp [a_rcv, show m_recv 194 = 11 from by decide +kernel]) (fun _ => rfl) (fun _ => rfl)
theorem B_X11_onAir_161 {k : Nat → Nat × Nat} {u : Nat → Nat → Int} {g : Nat → Nat → Nat} {t : Nat × Nat × Nat} {r0 : Nat} {x1 : Int} {x2 : Int} {x3 : Int} : a_X 217 161 [a_r (r0), a_i (x1), a_i (x2), a_i (x3)] [] (k, u, g, t) = if (k r0).1 = 11 then (a_m 198 [a_r (r0), a_i (x3)] (k, u, g, t)).bind (a_back 217 163 3 [a_r (r0), a_i (x1), a_i (x2), a_i (x3)] []) else none := by
  refine (X_aload_n (m := 217) (pc := 161) (n := 0) (by decide +kernel) rfl).trans ?_
  refine (X_iload_n (m := 217) (pc := 162) (n := 3) (by decide +kernel) rfl).trans ?_
  refine (X_call_vi (m := 217) (pc := 163) (q := 208) (y := 198) (n := 2) (as := [a_r (r0), a_i (x3)]) (rest := []) (by decide +kernel) (by decide +kernel) (by decide +kernel) (by decide +kernel) rfl rfl (Nat.le_of_ble_eq_true rfl) (Nat.le_of_ble_eq_true rfl) rfl (by rw [show m_maxL 198 = 4 from by decide +kernel]; exact Nat.le_of_ble_eq_true rfl)).trans ?_
  exact ite_congr (by simp [a_rcv, show m_recv 198 = 11 from by decide +kernel]) (fun _ => rfl) (fun _ => rfl)
theorem B_X11_onAir_114 {k : Nat → Nat × Nat} {u : Nat → Nat → Int} {g : Nat → Nat → Nat} {t : Nat × Nat × Nat} {r0 : Nat} {x1 : Int} {x2 : Int} {x3 : Int} {y0 : Int} : a_X 217 114 [a_r (r0), a_i (x1), a_i (x2), a_i (x3)] [a_i (y0)] (k, u, g, t) = some (.inl (some (a_i (y0))), (k, u, g, t)) := by
  exact X_ireturn (m := 217) (pc := 114) (f := 1) (by decide +kernel) (by decide +kernel) rfl
theorem B_X11_onAir_121 {k : Nat → Nat × Nat} {u : Nat → Nat → Int} {g : Nat → Nat → Nat} {t : Nat × Nat × Nat} {r0 : Nat} {x1 : Int} {x2 : Int} {x3 : Int} {y0 : Int} : a_X 217 121 [a_r (r0), a_i (x1), a_i (x2), a_i (x3)] [a_i (y0)] (k, u, g, t) = if (y0 : Int) ≠ (1 : Int) then if (k r0).1 = 11 then (a_m 169 [a_r (r0), a_i (x3), a_i (1)] (k, u, g, t)).bind (a_back 217 133 3 [a_r (r0), a_i (x1), a_i (x2), a_i (x3)] [a_r (r0)]) else none else some (.inl (some (a_i (-1))), (k, u, g, t)) := by
  refine (X_iconst (m := 217) (pc := 121) (n := 1) (by decide +kernel) ).trans ?_
  refine (X_ic_ne (m := 217) (pc := 122) (off := 7) (tg := 129) (by decide +kernel) (by decide +kernel)).trans ?_
  refine ite_congr rfl (fun _ => ?_) (fun _ => ?_)
  · refine (X_aload_n (m := 217) (pc := 129) (n := 0) (by decide +kernel) rfl).trans ?_
    refine (X_aload_n (m := 217) (pc := 130) (n := 0) (by decide +kernel) rfl).trans ?_
    refine (X_iload_n (m := 217) (pc := 131) (n := 3) (by decide +kernel) rfl).trans ?_
    refine (X_iconst (m := 217) (pc := 132) (n := 1) (by decide +kernel) ).trans ?_
    refine (X_call_vi (m := 217) (pc := 133) (q := 181) (y := 169) (n := 3) (as := [a_r (r0), a_i (x3), a_i (1)]) (rest := [a_r (r0)]) (by decide +kernel) (by decide +kernel) (by decide +kernel) (by decide +kernel) rfl rfl (Nat.le_of_ble_eq_true rfl) (Nat.le_of_ble_eq_true rfl) rfl (by rw [show m_maxL 169 = 3 from by decide +kernel]; exact Nat.le_of_ble_eq_true rfl)).trans ?_
    exact ite_congr (by simp [a_rcv, show m_recv 169 = 11 from by decide +kernel]) (fun _ => rfl) (fun _ => rfl)
  · refine (X_iconst (m := 217) (pc := 125) (n := -1) (by decide +kernel) ).trans ?_
    refine (X_goto (m := 217) (pc := 126) (off := 14) (tg := 140) (by decide +kernel) (by decide +kernel)).trans ?_
    exact X_ireturn (m := 217) (pc := 140) (f := 1) (by decide +kernel) (by decide +kernel) rfl
theorem B_X11_onAir_147 {k : Nat → Nat × Nat} {u : Nat → Nat → Int} {g : Nat → Nat → Nat} {t : Nat × Nat × Nat} {r0 : Nat} {x1 : Int} {x2 : Int} {x3 : Int} {y0 : Int} : a_X 217 147 [a_r (r0), a_i (x1), a_i (x2), a_i (x3)] [a_i (y0)] (k, u, g, t) = some (.inl (some (a_i (y0))), (k, u, g, t)) := by
  exact X_ireturn (m := 217) (pc := 147) (f := 1) (by decide +kernel) (by decide +kernel) rfl
theorem B_X11_onAir_154 {k : Nat → Nat × Nat} {u : Nat → Nat → Int} {g : Nat → Nat → Nat} {t : Nat × Nat × Nat} {r0 : Nat} {x1 : Int} {x2 : Int} {x3 : Int} {y0 : Int} : a_X 217 154 [a_r (r0), a_i (x1), a_i (x2), a_i (x3)] [a_i (y0)] (k, u, g, t) = some (.inl (some (a_i (y0))), (k, u, g, t)) := by
  exact X_ireturn (m := 217) (pc := 154) (f := 1) (by decide +kernel) (by decide +kernel) rfl
theorem B_X11_onAir_160 {k : Nat → Nat × Nat} {u : Nat → Nat → Int} {g : Nat → Nat → Nat} {t : Nat × Nat × Nat} {r0 : Nat} {x1 : Int} {x2 : Int} {x3 : Int} {y0 : Int} : a_X 217 160 [a_r (r0), a_i (x1), a_i (x2), a_i (x3)] [a_i (y0)] (k, u, g, t) = some (.inl (some (a_i (y0))), (k, u, g, t)) := by
  exact X_ireturn (m := 217) (pc := 160) (f := 1) (by decide +kernel) (by decide +kernel) rfl
theorem B_X11_onAir_166 {k : Nat → Nat × Nat} {u : Nat → Nat → Int} {g : Nat → Nat → Nat} {t : Nat × Nat × Nat} {r0 : Nat} {x1 : Int} {x2 : Int} {x3 : Int} {y0 : Int} : a_X 217 166 [a_r (r0), a_i (x1), a_i (x2), a_i (x3)] [a_i (y0)] (k, u, g, t) = some (.inl (some (a_i (y0))), (k, u, g, t)) := by
  exact X_ireturn (m := 217) (pc := 166) (f := 1) (by decide +kernel) (by decide +kernel) rfl
theorem B_X11_onAir_136 {k : Nat → Nat × Nat} {u : Nat → Nat → Int} {g : Nat → Nat → Nat} {t : Nat × Nat × Nat} {r0 : Nat} {x1 : Int} {x2 : Int} {x3 : Int} {q0 : Nat} {y1 : Int} : a_X 217 136 [a_r (r0), a_i (x1), a_i (x2), a_i (x3)] [a_i (y1), a_r (q0)] (k, u, g, t) = if (k q0).1 = 11 then (a_m 170 [a_r (q0), a_i (y1), a_i (0)] (k, u, g, t)).bind (a_back 217 137 3 [a_r (r0), a_i (x1), a_i (x2), a_i (x3)] []) else none := by
  refine (X_iconst (m := 217) (pc := 136) (n := 0) (by decide +kernel) ).trans ?_
  refine (X_call_vi (m := 217) (pc := 137) (q := 218) (y := 170) (n := 3) (as := [a_r (q0), a_i (y1), a_i (0)]) (rest := []) (by decide +kernel) (by decide +kernel) (by decide +kernel) (by decide +kernel) rfl rfl (Nat.le_of_ble_eq_true rfl) (Nat.le_of_ble_eq_true rfl) rfl (by rw [show m_maxL 170 = 3 from by decide +kernel]; exact Nat.le_of_ble_eq_true rfl)).trans ?_
  exact ite_congr (by simp [a_rcv, show m_recv 170 = 11 from by decide +kernel]) (fun _ => rfl) (fun _ => rfl)
theorem B_X11_onAir_140 {k : Nat → Nat × Nat} {u : Nat → Nat → Int} {g : Nat → Nat → Nat} {t : Nat × Nat × Nat} {r0 : Nat} {x1 : Int} {x2 : Int} {x3 : Int} {y0 : Int} : a_X 217 140 [a_r (r0), a_i (x1), a_i (x2), a_i (x3)] [a_i (y0)] (k, u, g, t) = some (.inl (some (a_i (y0))), (k, u, g, t)) := by
  exact X_ireturn (m := 217) (pc := 140) (f := 1) (by decide +kernel) (by decide +kernel) rfl
theorem E_X11_heardBy {σ : AS} {r0 : Nat} {x1 : Int} : a_m 218 [a_r (r0), a_i (x1)] σ = a_X 218 0 [a_r (r0), a_i (x1), a_x false, a_x false] [] σ := a_m_eq (by rw [a_entry, show m_maxL 218 = 4 from by decide +kernel]; rfl)
theorem B_X11_heardBy_0 {k : Nat → Nat × Nat} {u : Nat → Nat → Int} {g : Nat → Nat → Nat} {t : Nat × Nat × Nat} {r0 : Nat} {x1 : Int} {v2 : AV} {v3 : AV} : a_X 218 0 [a_r (r0), a_i (x1), v2, v3] [] (k, u, g, t) = a_X 218 4 [a_r (r0), a_i (x1), a_i (0), a_i (0)] [] (k, u, g, t) := by
  refine (X_iconst (m := 218) (pc := 0) (n := 0) (by decide +kernel) ).trans ?_
  refine (X_istore_n (m := 218) (pc := 1) (n := 2) (by decide +kernel) rfl (Nat.le_of_ble_eq_true rfl) rfl).trans ?_
  refine (X_iconst (m := 218) (pc := 2) (n := 0) (by decide +kernel) ).trans ?_
  refine (X_istore_n (m := 218) (pc := 3) (n := 3) (by decide +kernel) rfl (Nat.le_of_ble_eq_true rfl) rfl).trans ?_
  rfl
theorem B_X11_heardBy_4 {k : Nat → Nat × Nat} {u : Nat → Nat → Int} {g : Nat → Nat → Nat} {t : Nat × Nat × Nat} {r0 : Nat} {x1 : Int} {x2 : Int} {x3 : Int} : a_X 218 4 [a_r (r0), a_i (x1), a_i (x2), a_i (x3)] [] (k, u, g, t) = if (k r0).1 = 11 then if ((k (g r0 2)).1 = 20 ∨ (k (g r0 2)).1 = 24) ∧ 0 ≤ (3 : Int) ∧ (3 : Int) < ((k (g r0 2)).2 : Int) then if (x3 : Int) ≥ (u (g r0 2) (3 : Int).toNat : Int) then some (.inl (some (a_i (x2))), (k, u, g, t)) else if (k r0).1 = 11 then (a_m 172 [a_r (r0), a_i (x3), a_i (x1)] (k, u, g, t)).bind (a_back 218 18 3 [a_r (r0), a_i (x1), a_i (x2), a_i (x3)] [a_i (x2)]) else none else none else none := by
  refine (X_iload_n (m := 218) (pc := 4) (n := 3) (by decide +kernel) rfl).trans ?_
  refine (X_aload_n (m := 218) (pc := 5) (n := 0) (by decide +kernel) rfl).trans ?_
  refine (X_getR (m := 218) (pc := 6) (n := 7) (c := 11) (q := 2) (fi := true) (by decide +kernel) (by decide +kernel)).trans ?_
  refine ite_congr rfl (fun _ => ?_) (fun _ => rfl)
  refine (X_iconst (m := 218) (pc := 9) (n := 3) (by decide +kernel) ).trans ?_
  refine (X_iaload (m := 218) (pc := 10)  (by decide +kernel) ).trans ?_
  refine ite_congr rfl (fun _ => ?_) (fun _ => rfl)
  refine (X_ic_ge (m := 218) (pc := 11) (off := 23) (tg := 34) (by decide +kernel) (by decide +kernel)).trans ?_
  refine ite_congr rfl (fun _ => ?_) (fun _ => ?_)
  · refine (X_iload_n (m := 218) (pc := 34) (n := 2) (by decide +kernel) rfl).trans ?_
    exact X_ireturn (m := 218) (pc := 35) (f := 1) (by decide +kernel) (by decide +kernel) rfl
  · refine (X_iload_n (m := 218) (pc := 14) (n := 2) (by decide +kernel) rfl).trans ?_
    refine (X_aload_n (m := 218) (pc := 15) (n := 0) (by decide +kernel) rfl).trans ?_
    refine (X_iload_n (m := 218) (pc := 16) (n := 3) (by decide +kernel) rfl).trans ?_
    refine (X_iload_n (m := 218) (pc := 17) (n := 1) (by decide +kernel) rfl).trans ?_
    refine (X_call_vi (m := 218) (pc := 18) (q := 293) (y := 172) (n := 3) (as := [a_r (r0), a_i (x3), a_i (x1)]) (rest := [a_i (x2)]) (by decide +kernel) (by decide +kernel) (by decide +kernel) (by decide +kernel) rfl rfl (Nat.le_of_ble_eq_true rfl) (Nat.le_of_ble_eq_true rfl) rfl (by rw [show m_maxL 172 = 3 from by decide +kernel]; exact Nat.le_of_ble_eq_true rfl)).trans ?_
    exact ite_congr (by simp [a_rcv, show m_recv 172 = 11 from by decide +kernel]) (fun _ => rfl) (fun _ => rfl)
theorem B_X11_heardBy_21 {k : Nat → Nat × Nat} {u : Nat → Nat → Int} {g : Nat → Nat → Nat} {t : Nat × Nat × Nat} {r0 : Nat} {x1 : Int} {x2 : Int} {x3 : Int} {y0 : Int} {y1 : Int} : a_X 218 21 [a_r (r0), a_i (x1), a_i (x2), a_i (x3)] [a_i (y1), a_i (y0)] (k, u, g, t) = (a_m 156 [a_i (y1)] (k, u, g, t)).bind (a_back 218 21 3 [a_r (r0), a_i (x1), a_i (x2), a_i (x3)] [a_i (y0)]) := by
  refine (X_call_st (m := 218) (pc := 21) (q := 204) (y := 156) (n := 1) (as := [a_i (y1)]) (rest := [a_i (y0)]) (by decide +kernel) (by decide +kernel) (by decide +kernel) (by decide +kernel) rfl rfl (Nat.le_of_ble_eq_true rfl) (Nat.le_of_ble_eq_true rfl) rfl (by rw [show m_maxL 156 = 1 from by decide +kernel]; exact Nat.le_of_ble_eq_true rfl)).trans ?_
  exact if_pos rfl
theorem B_X11_heardBy_24 {k : Nat → Nat × Nat} {u : Nat → Nat → Int} {g : Nat → Nat → Nat} {t : Nat × Nat × Nat} {r0 : Nat} {x1 : Int} {x2 : Int} {x3 : Int} {y0 : Int} {y1 : Int} : a_X 218 24 [a_r (r0), a_i (x1), a_i (x2), a_i (x3)] [a_i (y1), a_i (y0)] (k, u, g, t) = a_X 218 4 [a_r (r0), a_i (x1), a_i (zor (y0) (zshl (y1) (x3))), a_i (wr (x3 + 1))] [] (k, u, g, t) := by
  refine (X_iload_n (m := 218) (pc := 24) (n := 3) (by decide +kernel) rfl).trans ?_
  refine (X_ishl (m := 218) (pc := 25)  (by decide +kernel) ).trans ?_
  refine (X_ior (m := 218) (pc := 26)  (by decide +kernel) ).trans ?_
  refine (X_istore_n (m := 218) (pc := 27) (n := 2) (by decide +kernel) rfl (Nat.le_of_ble_eq_true rfl) rfl).trans ?_
  refine (X_iinc (m := 218) (pc := 28) (n := 3) (c := 1) (by decide +kernel) rfl rfl (Nat.le_of_ble_eq_true rfl) rfl).trans ?_
  refine (X_goto (m := 218) (pc := 31) (off := -27) (tg := 4) (by decide +kernel) (by decide +kernel)).trans ?_
  rfl
theorem E_X11_isOnAir {σ : AS} {r0 : Nat} {x1 : Int} : a_m 219 [a_r (r0), a_i (x1)] σ = a_X 219 0 [a_r (r0), a_i (x1), a_x false, a_x false] [] σ := a_m_eq (by rw [a_entry, show m_maxL 219 = 4 from by decide +kernel]; rfl)
theorem B_X11_isOnAir_0 {k : Nat → Nat × Nat} {u : Nat → Nat → Int} {g : Nat → Nat → Nat} {t : Nat × Nat × Nat} {r0 : Nat} {x1 : Int} {v2 : AV} {v3 : AV} : a_X 219 0 [a_r (r0), a_i (x1), v2, v3] [] (k, u, g, t) = a_X 219 4 [a_r (r0), a_i (x1), a_i (0), a_i (0)] [] (k, u, g, t) := by
  refine (X_iconst (m := 219) (pc := 0) (n := 0) (by decide +kernel) ).trans ?_
  refine (X_istore_n (m := 219) (pc := 1) (n := 2) (by decide +kernel) rfl (Nat.le_of_ble_eq_true rfl) rfl).trans ?_
  refine (X_iconst (m := 219) (pc := 2) (n := 0) (by decide +kernel) ).trans ?_
  refine (X_istore_n (m := 219) (pc := 3) (n := 3) (by decide +kernel) rfl (Nat.le_of_ble_eq_true rfl) rfl).trans ?_
  rfl
theorem B_X11_isOnAir_4 {k : Nat → Nat × Nat} {u : Nat → Nat → Int} {g : Nat → Nat → Nat} {t : Nat × Nat × Nat} {r0 : Nat} {x1 : Int} {x2 : Int} {x3 : Int} : a_X 219 4 [a_r (r0), a_i (x1), a_i (x2), a_i (x3)] [] (k, u, g, t) = if (k r0).1 = 11 then if ((k (g r0 2)).1 = 20 ∨ (k (g r0 2)).1 = 24) ∧ 0 ≤ (4 : Int) ∧ (4 : Int) < ((k (g r0 2)).2 : Int) then if (x3 : Int) ≥ (u (g r0 2) (4 : Int).toNat : Int) then if a_fit 2 (x2) = true then some (.inl (some (a_i (x2))), (k, u, g, t)) else none else if (x2 : Int) ≠ 0 then a_X 219 4 [a_r (r0), a_i (x1), a_i (1), a_i (wr (x3 + 1))] [] (k, u, g, t) else if (k r0).1 = 11 then (a_m 169 [a_r (r0), a_i (x3), a_i (0)] (k, u, g, t)).bind (a_back 219 21 3 [a_r (r0), a_i (x1), a_i (x2), a_i (x3)] []) else none else none else none := by
  refine (X_iload_n (m := 219) (pc := 4) (n := 3) (by decide +kernel) rfl).trans ?_
  refine (X_aload_n (m := 219) (pc := 5) (n := 0) (by decide +kernel) rfl).trans ?_
  refine (X_getR (m := 219) (pc := 6) (n := 7) (c := 11) (q := 2) (fi := true) (by decide +kernel) (by decide +kernel)).trans ?_
  refine ite_congr rfl (fun _ => ?_) (fun _ => rfl)
  refine (X_iconst (m := 219) (pc := 9) (n := 4) (by decide +kernel) ).trans ?_
  refine (X_iaload (m := 219) (pc := 10)  (by decide +kernel) ).trans ?_
  refine ite_congr rfl (fun _ => ?_) (fun _ => rfl)
  refine (X_ic_ge (m := 219) (pc := 11) (off := 38) (tg := 49) (by decide +kernel) (by decide +kernel)).trans ?_
  refine ite_congr rfl (fun _ => ?_) (fun _ => ?_)
  · refine (X_iload_n (m := 219) (pc := 49) (n := 2) (by decide +kernel) rfl).trans ?_
    exact X_ireturnF (m := 219) (pc := 50) (f := 2) (by decide +kernel) (by decide +kernel)
  · refine (X_iload_n (m := 219) (pc := 14) (n := 2) (by decide +kernel) rfl).trans ?_
    refine (X_if_ne (m := 219) (pc := 15) (off := 22) (tg := 37) (by decide +kernel) (by decide +kernel)).trans ?_
    refine ite_congr rfl (fun _ => ?_) (fun _ => ?_)
    · refine (X_iconst (m := 219) (pc := 37) (n := 1) (by decide +kernel) ).trans ?_
      refine (X_goto (m := 219) (pc := 38) (off := 4) (tg := 42) (by decide +kernel) (by decide +kernel)).trans ?_
      refine (X_istore_n (m := 219) (pc := 42) (n := 2) (by decide +kernel) rfl (Nat.le_of_ble_eq_true rfl) rfl).trans ?_
      refine (X_iinc (m := 219) (pc := 43) (n := 3) (c := 1) (by decide +kernel) rfl rfl (Nat.le_of_ble_eq_true rfl) rfl).trans ?_
      refine (X_goto (m := 219) (pc := 46) (off := -42) (tg := 4) (by decide +kernel) (by decide +kernel)).trans ?_
      rfl
    · refine (X_aload_n (m := 219) (pc := 18) (n := 0) (by decide +kernel) rfl).trans ?_
      refine (X_iload_n (m := 219) (pc := 19) (n := 3) (by decide +kernel) rfl).trans ?_
      refine (X_iconst (m := 219) (pc := 20) (n := 0) (by decide +kernel) ).trans ?_
      refine (X_call_vi (m := 219) (pc := 21) (q := 181) (y := 169) (n := 3) (as := [a_r (r0), a_i (x3), a_i (0)]) (rest := []) (by decide +kernel) (by decide +kernel) (by decide +kernel) (by decide +kernel) rfl rfl (Nat.le_of_ble_eq_true rfl) (Nat.le_of_ble_eq_true rfl) rfl (by rw [show m_maxL 169 = 3 from by decide +kernel]; exact Nat.le_of_ble_eq_true rfl)).trans ?_
      exact ite_congr (by simp [a_rcv, show m_recv 169 = 11 from by decide +kernel]) (fun _ => rfl) (fun _ => rfl)
theorem B_X11_isOnAir_24 {k : Nat → Nat × Nat} {u : Nat → Nat → Int} {g : Nat → Nat → Nat} {t : Nat × Nat × Nat} {r0 : Nat} {x1 : Int} {x2 : Int} {x3 : Int} {y0 : Int} : a_X 219 24 [a_r (r0), a_i (x1), a_i (x2), a_i (x3)] [a_i (y0)] (k, u, g, t) = if (y0 : Int) ≠ 0 then a_X 219 4 [a_r (r0), a_i (x1), a_i (0), a_i (wr (x3 + 1))] [] (k, u, g, t) else if (k r0).1 = 11 then (a_m 169 [a_r (r0), a_i (x3), a_i (1)] (k, u, g, t)).bind (a_back 219 30 3 [a_r (r0), a_i (x1), a_i (x2), a_i (x3)] []) else none := by
  refine (X_if_ne (m := 219) (pc := 24) (off := 17) (tg := 41) (by decide +kernel) (by decide +kernel)).trans ?_
  refine ite_congr rfl (fun _ => ?_) (fun _ => ?_)
  · refine (X_iconst (m := 219) (pc := 41) (n := 0) (by decide +kernel) ).trans ?_
    refine (X_istore_n (m := 219) (pc := 42) (n := 2) (by decide +kernel) rfl (Nat.le_of_ble_eq_true rfl) rfl).trans ?_
    refine (X_iinc (m := 219) (pc := 43) (n := 3) (c := 1) (by decide +kernel) rfl rfl (Nat.le_of_ble_eq_true rfl) rfl).trans ?_
    refine (X_goto (m := 219) (pc := 46) (off := -42) (tg := 4) (by decide +kernel) (by decide +kernel)).trans ?_
    rfl
  · refine (X_aload_n (m := 219) (pc := 27) (n := 0) (by decide +kernel) rfl).trans ?_
    refine (X_iload_n (m := 219) (pc := 28) (n := 3) (by decide +kernel) rfl).trans ?_
    refine (X_iconst (m := 219) (pc := 29) (n := 1) (by decide +kernel) ).trans ?_
    refine (X_call_vi (m := 219) (pc := 30) (q := 181) (y := 169) (n := 3) (as := [a_r (r0), a_i (x3), a_i (1)]) (rest := []) (by decide +kernel) (by decide +kernel) (by decide +kernel) (by decide +kernel) rfl rfl (Nat.le_of_ble_eq_true rfl) (Nat.le_of_ble_eq_true rfl) rfl (by rw [show m_maxL 169 = 3 from by decide +kernel]; exact Nat.le_of_ble_eq_true rfl)).trans ?_
    exact ite_congr (by simp [a_rcv, show m_recv 169 = 11 from by decide +kernel]) (fun _ => rfl) (fun _ => rfl)
theorem B_X11_isOnAir_33 {k : Nat → Nat × Nat} {u : Nat → Nat → Int} {g : Nat → Nat → Nat} {t : Nat × Nat × Nat} {r0 : Nat} {x1 : Int} {x2 : Int} {x3 : Int} {y0 : Int} : a_X 219 33 [a_r (r0), a_i (x1), a_i (x2), a_i (x3)] [a_i (y0)] (k, u, g, t) = if (y0 : Int) ≠ (x1 : Int) then a_X 219 4 [a_r (r0), a_i (x1), a_i (0), a_i (wr (x3 + 1))] [] (k, u, g, t) else a_X 219 4 [a_r (r0), a_i (x1), a_i (1), a_i (wr (x3 + 1))] [] (k, u, g, t) := by
  refine (X_iload_n (m := 219) (pc := 33) (n := 1) (by decide +kernel) rfl).trans ?_
  refine (X_ic_ne (m := 219) (pc := 34) (off := 7) (tg := 41) (by decide +kernel) (by decide +kernel)).trans ?_
  refine ite_congr rfl (fun _ => ?_) (fun _ => ?_)
  · refine (X_iconst (m := 219) (pc := 41) (n := 0) (by decide +kernel) ).trans ?_
    refine (X_istore_n (m := 219) (pc := 42) (n := 2) (by decide +kernel) rfl (Nat.le_of_ble_eq_true rfl) rfl).trans ?_
    refine (X_iinc (m := 219) (pc := 43) (n := 3) (c := 1) (by decide +kernel) rfl rfl (Nat.le_of_ble_eq_true rfl) rfl).trans ?_
    refine (X_goto (m := 219) (pc := 46) (off := -42) (tg := 4) (by decide +kernel) (by decide +kernel)).trans ?_
    rfl
  · refine (X_iconst (m := 219) (pc := 37) (n := 1) (by decide +kernel) ).trans ?_
    refine (X_goto (m := 219) (pc := 38) (off := 4) (tg := 42) (by decide +kernel) (by decide +kernel)).trans ?_
    refine (X_istore_n (m := 219) (pc := 42) (n := 2) (by decide +kernel) rfl (Nat.le_of_ble_eq_true rfl) rfl).trans ?_
    refine (X_iinc (m := 219) (pc := 43) (n := 3) (c := 1) (by decide +kernel) rfl rfl (Nat.le_of_ble_eq_true rfl) rfl).trans ?_
    refine (X_goto (m := 219) (pc := 46) (off := -42) (tg := 4) (by decide +kernel) (by decide +kernel)).trans ?_
    rfl
theorem E_X11_number {σ : AS} {r0 : Nat} {x1 : Int} {x2 : Int} : a_m 220 [a_r (r0), a_i (x1), a_i (x2)] σ = a_X 220 0 [a_r (r0), a_i (x1), a_i (x2)] [] σ := a_m_eq (by rw [a_entry, show m_maxL 220 = 3 from by decide +kernel]; rfl)
theorem B_X11_number_0 {k : Nat → Nat × Nat} {u : Nat → Nat → Int} {g : Nat → Nat → Nat} {t : Nat × Nat × Nat} {r0 : Nat} {x1 : Int} {x2 : Int} : a_X 220 0 [a_r (r0), a_i (x1), a_i (x2)] [] (k, u, g, t) = if (k r0).1 = 11 then (a_m 158 [a_r (r0)] (k, u, g, t)).bind (a_back 220 1 3 [a_r (r0), a_i (x1), a_i (x2)] []) else none := by
  refine (X_aload_n (m := 220) (pc := 0) (n := 0) (by decide +kernel) rfl).trans ?_
  refine (X_call_vi (m := 220) (pc := 1) (q := 57) (y := 158) (n := 1) (as := [a_r (r0)]) (rest := []) (by decide +kernel) (by decide +kernel) (by decide +kernel) (by decide +kernel) rfl rfl (Nat.le_of_ble_eq_true rfl) (Nat.le_of_ble_eq_true rfl) rfl (by rw [show m_maxL 158 = 1 from by decide +kernel]; exact Nat.le_of_ble_eq_true rfl)).trans ?_
  exact ite_congr (by simp [a_rcv, show m_recv 158 = 11 from by decide +kernel]) (fun _ => rfl) (fun _ => rfl)
theorem B_X11_number_4 {k : Nat → Nat × Nat} {u : Nat → Nat → Int} {g : Nat → Nat → Nat} {t : Nat × Nat × Nat} {r0 : Nat} {x1 : Int} {x2 : Int} {y0 : Int} : a_X 220 4 [a_r (r0), a_i (x1), a_i (x2)] [a_i (y0)] (k, u, g, t) = if (y0 : Int) ≠ 0 then some (.inl (some (a_i (0))), (k, u, g, t)) else if (k r0).1 = 11 then (a_m 171 [a_r (r0), a_i (x1)] (k, u, g, t)).bind (a_back 220 10 3 [a_r (r0), a_i (x1), a_i (x2)] [a_r (r0)]) else none := by
  refine (X_if_ne (m := 220) (pc := 4) (off := 36) (tg := 40) (by decide +kernel) (by decide +kernel)).trans ?_
  refine ite_congr rfl (fun _ => ?_) (fun _ => ?_)
  · refine (X_iconst (m := 220) (pc := 40) (n := 0) (by decide +kernel) ).trans ?_
    exact X_ireturn (m := 220) (pc := 41) (f := 1) (by decide +kernel) (by decide +kernel) rfl
  · refine (X_aload_n (m := 220) (pc := 7) (n := 0) (by decide +kernel) rfl).trans ?_
    refine (X_aload_n (m := 220) (pc := 8) (n := 0) (by decide +kernel) rfl).trans ?_
    refine (X_iload_n (m := 220) (pc := 9) (n := 1) (by decide +kernel) rfl).trans ?_
    refine (X_call_vi (m := 220) (pc := 10) (q := 75) (y := 171) (n := 2) (as := [a_r (r0), a_i (x1)]) (rest := [a_r (r0)]) (by decide +kernel) (by decide +kernel) (by decide +kernel) (by decide +kernel) rfl rfl (Nat.le_of_ble_eq_true rfl) (Nat.le_of_ble_eq_true rfl) rfl (by rw [show m_maxL 171 = 2 from by decide +kernel]; exact Nat.le_of_ble_eq_true rfl)).trans ?_
    exact ite_congr (by simp [a_rcv, show m_recv 171 = 11 from by decide +kernel]) (fun _ => rfl) (fun _ => rfl)
theorem B_X11_number_13 {k : Nat → Nat × Nat} {u : Nat → Nat → Int} {g : Nat → Nat → Nat} {t : Nat × Nat × Nat} {r0 : Nat} {x1 : Int} {x2 : Int} {q0 : Nat} {y1 : Int} : a_X 220 13 [a_r (r0), a_i (x1), a_i (x2)] [a_i (y1), a_r (q0)] (k, u, g, t) = if (y1 : Int) = 0 then if (k q0).1 = 11 then (a_m 157 [a_r (q0), a_i (1), a_i (2)] (k, u, g, t)).bind (a_back 220 34 3 [a_r (r0), a_i (x1), a_i (x2)] []) else none else (a_m 155 [a_l (x2), a_l (0), a_l (4)] (k, u, g, t)).bind (a_back 220 22 3 [a_r (r0), a_i (x1), a_i (x2)] [a_r (q0)]) := by
  refine (X_if_eq (m := 220) (pc := 13) (off := 15) (tg := 28) (by decide +kernel) (by decide +kernel)).trans ?_
  refine ite_congr rfl (fun _ => ?_) (fun _ => ?_)
  · refine (X_iconst (m := 220) (pc := 28) (n := 1) (by decide +kernel) ).trans ?_
    refine (X_goto (m := 220) (pc := 29) (off := 4) (tg := 33) (by decide +kernel) (by decide +kernel)).trans ?_
    refine (X_iconst (m := 220) (pc := 33) (n := 2) (by decide +kernel) ).trans ?_
    refine (X_call_vi (m := 220) (pc := 34) (q := 53) (y := 157) (n := 3) (as := [a_r (q0), a_i (1), a_i (2)]) (rest := []) (by decide +kernel) (by decide +kernel) (by decide +kernel) (by decide +kernel) rfl rfl (Nat.le_of_ble_eq_true rfl) (Nat.le_of_ble_eq_true rfl) rfl (by rw [show m_maxL 157 = 3 from by decide +kernel]; exact Nat.le_of_ble_eq_true rfl)).trans ?_
    exact ite_congr (by simp [a_rcv, show m_recv 157 = 11 from by decide +kernel]) (fun _ => rfl) (fun _ => rfl)
  · refine (X_iload_n (m := 220) (pc := 16) (n := 2) (by decide +kernel) rfl).trans ?_
    refine (X_i2l (m := 220) (pc := 17)  (by decide +kernel) ).trans ?_
    refine (X_lconst (m := 220) (pc := 18) (n := 0) (by decide +kernel) ).trans ?_
    refine (X_ldc2 (m := 220) (pc := 19) (n := 286) (z := 4) (by decide +kernel) (by decide +kernel)).trans ?_
    refine (X_call_st (m := 220) (pc := 22) (q := 61) (y := 155) (n := 3) (as := [a_l (x2), a_l (0), a_l (4)]) (rest := [a_r (q0)]) (by decide +kernel) (by decide +kernel) (by decide +kernel) (by decide +kernel) rfl rfl (Nat.le_of_ble_eq_true rfl) (Nat.le_of_ble_eq_true rfl) rfl (by rw [show m_maxL 155 = 6 from by decide +kernel]; exact Nat.le_of_ble_eq_true rfl)).trans ?_
    exact if_pos rfl
theorem B_X11_number_37 {k : Nat → Nat × Nat} {u : Nat → Nat → Int} {g : Nat → Nat → Nat} {t : Nat × Nat × Nat} {r0 : Nat} {x1 : Int} {x2 : Int} {y0 : Int} : a_X 220 37 [a_r (r0), a_i (x1), a_i (x2)] [a_i (y0)] (k, u, g, t) = if (y0 : Int) = 0 then if (x2) = 0 then a_X 220 72 [a_r (r0), a_i (x1), a_i (x2)] [] (k, u, g, t) else if (x2) = 1 then a_X 220 79 [a_r (r0), a_i (x1), a_i (x2)] [] (k, u, g, t) else if (x2) = 2 then a_X 220 86 [a_r (r0), a_i (x1), a_i (x2)] [] (k, u, g, t) else if (x2) = 3 then a_X 220 93 [a_r (r0), a_i (x1), a_i (x2)] [] (k, u, g, t) else a_X 220 99 [a_r (r0), a_i (x1), a_i (x2)] [] (k, u, g, t) else some (.inl (some (a_i (0))), (k, u, g, t)) := by
  refine (X_if_eq (m := 220) (pc := 37) (off := 5) (tg := 42) (by decide +kernel) (by decide +kernel)).trans ?_
  refine ite_congr rfl (fun _ => ?_) (fun _ => ?_)
  · refine (X_iload_n (m := 220) (pc := 42) (n := 2) (by decide +kernel) rfl).trans ?_
    rw [X_table (m := 220) (pc := 43) (d := 56) (lo := 0) (hi := 3) (offs := #[29, 36, 43, 50]) (len := 29) (by decide +kernel)]
    by_cases hh : (x2) < 0 ∨ 3 < (x2)
    · rw [if_pos hh]
      rw [if_neg (by omega)]
      rw [if_neg (by omega)]
      rw [if_neg (by omega)]
      rw [if_neg (by omega)]
      rfl
    · rw [if_neg hh]
      generalize hx : (x2) = xx at hh ⊢
      have h9 : xx = 0 ∨ xx = 1 ∨ xx = 2 ∨ xx = 3 := by omega
      rcases h9 with rfl | rfl | rfl | rfl <;> rfl
  · refine (X_iconst (m := 220) (pc := 40) (n := 0) (by decide +kernel) ).trans ?_
    exact X_ireturn (m := 220) (pc := 41) (f := 1) (by decide +kernel) (by decide +kernel) rfl
theorem B_X11_number_25 {k : Nat → Nat × Nat} {u : Nat → Nat → Int} {g : Nat → Nat → Nat} {t : Nat × Nat × Nat} {r0 : Nat} {x1 : Int} {x2 : Int} {q0 : Nat} {y1 : Int} : a_X 220 25 [a_r (r0), a_i (x1), a_i (x2)] [a_i (y1), a_r (q0)] (k, u, g, t) = if (y1 : Int) ≠ 0 then if (k q0).1 = 11 then (a_m 157 [a_r (q0), a_i (0), a_i (2)] (k, u, g, t)).bind (a_back 220 34 3 [a_r (r0), a_i (x1), a_i (x2)] []) else none else if (k q0).1 = 11 then (a_m 157 [a_r (q0), a_i (1), a_i (2)] (k, u, g, t)).bind (a_back 220 34 3 [a_r (r0), a_i (x1), a_i (x2)] []) else none := by
  refine (X_if_ne (m := 220) (pc := 25) (off := 7) (tg := 32) (by decide +kernel) (by decide +kernel)).trans ?_
  refine ite_congr rfl (fun _ => ?_) (fun _ => ?_)
  · refine (X_iconst (m := 220) (pc := 32) (n := 0) (by decide +kernel) ).trans ?_
    refine (X_iconst (m := 220) (pc := 33) (n := 2) (by decide +kernel) ).trans ?_
    refine (X_call_vi (m := 220) (pc := 34) (q := 53) (y := 157) (n := 3) (as := [a_r (q0), a_i (0), a_i (2)]) (rest := []) (by decide +kernel) (by decide +kernel) (by decide +kernel) (by decide +kernel) rfl rfl (Nat.le_of_ble_eq_true rfl) (Nat.le_of_ble_eq_true rfl) rfl (by rw [show m_maxL 157 = 3 from by decide +kernel]; exact Nat.le_of_ble_eq_true rfl)).trans ?_
    exact ite_congr (by simp [a_rcv, show m_recv 157 = 11 from by decide +kernel]) (fun _ => rfl) (fun _ => rfl)
  · refine (X_iconst (m := 220) (pc := 28) (n := 1) (by decide +kernel) ).trans ?_
    refine (X_goto (m := 220) (pc := 29) (off := 4) (tg := 33) (by decide +kernel) (by decide +kernel)).trans ?_
    refine (X_iconst (m := 220) (pc := 33) (n := 2) (by decide +kernel) ).trans ?_
    refine (X_call_vi (m := 220) (pc := 34) (q := 53) (y := 157) (n := 3) (as := [a_r (q0), a_i (1), a_i (2)]) (rest := []) (by decide +kernel) (by decide +kernel) (by decide +kernel) (by decide +kernel) rfl rfl (Nat.le_of_ble_eq_true rfl) (Nat.le_of_ble_eq_true rfl) rfl (by rw [show m_maxL 157 = 3 from by decide +kernel]; exact Nat.le_of_ble_eq_true rfl)).trans ?_
    exact ite_congr (by simp [a_rcv, show m_recv 157 = 11 from by decide +kernel]) (fun _ => rfl) (fun _ => rfl)
theorem B_X11_number_72 {k : Nat → Nat × Nat} {u : Nat → Nat → Int} {g : Nat → Nat → Nat} {t : Nat × Nat × Nat} {r0 : Nat} {x1 : Int} {x2 : Int} : a_X 220 72 [a_r (r0), a_i (x1), a_i (x2)] [] (k, u, g, t) = if (k r0).1 = 11 then (a_m 170 [a_r (r0), a_i (x1), a_i (0)] (k, u, g, t)).bind (a_back 220 75 3 [a_r (r0), a_i (x1), a_i (x2)] []) else none := by
  refine (X_aload_n (m := 220) (pc := 72) (n := 0) (by decide +kernel) rfl).trans ?_
  refine (X_iload_n (m := 220) (pc := 73) (n := 1) (by decide +kernel) rfl).trans ?_
  refine (X_iconst (m := 220) (pc := 74) (n := 0) (by decide +kernel) ).trans ?_
  refine (X_call_vi (m := 220) (pc := 75) (q := 218) (y := 170) (n := 3) (as := [a_r (r0), a_i (x1), a_i (0)]) (rest := []) (by decide +kernel) (by decide +kernel) (by decide +kernel) (by decide +kernel) rfl rfl (Nat.le_of_ble_eq_true rfl) (Nat.le_of_ble_eq_true rfl) rfl (by rw [show m_maxL 170 = 3 from by decide +kernel]; exact Nat.le_of_ble_eq_true rfl)).trans ?_
  exact ite_congr (by simp [a_rcv, show m_recv 170 = 11 from by decide +kernel]) (fun _ => rfl) (fun _ => rfl)
theorem B_X11_number_79 {k : Nat → Nat × Nat} {u : Nat → Nat → Int} {g : Nat → Nat → Nat} {t : Nat × Nat × Nat} {r0 : Nat} {x1 : Int} {x2 : Int} : a_X 220 79 [a_r (r0), a_i (x1), a_i (x2)] [] (k, u, g, t) = if (k r0).1 = 11 then (a_m 170 [a_r (r0), a_i (x1), a_i (1)] (k, u, g, t)).bind (a_back 220 82 3 [a_r (r0), a_i (x1), a_i (x2)] []) else none := by
  refine (X_aload_n (m := 220) (pc := 79) (n := 0) (by decide +kernel) rfl).trans ?_
  refine (X_iload_n (m := 220) (pc := 80) (n := 1) (by decide +kernel) rfl).trans ?_
  refine (X_iconst (m := 220) (pc := 81) (n := 1) (by decide +kernel) ).trans ?_
  refine (X_call_vi (m := 220) (pc := 82) (q := 218) (y := 170) (n := 3) (as := [a_r (r0), a_i (x1), a_i (1)]) (rest := []) (by decide +kernel) (by decide +kernel) (by decide +kernel) (by decide +kernel) rfl rfl (Nat.le_of_ble_eq_true rfl) (Nat.le_of_ble_eq_true rfl) rfl (by rw [show m_maxL 170 = 3 from by decide +kernel]; exact Nat.le_of_ble_eq_true rfl)).trans ?_
  exact ite_congr (by simp [a_rcv, show m_recv 170 = 11 from by decide +kernel]) (fun _ => rfl) (fun _ => rfl)
theorem B_X11_number_86 {k : Nat → Nat × Nat} {u : Nat → Nat → Int} {g : Nat → Nat → Nat} {t : Nat × Nat × Nat} {r0 : Nat} {x1 : Int} {x2 : Int} : a_X 220 86 [a_r (r0), a_i (x1), a_i (x2)] [] (k, u, g, t) = if (k r0).1 = 11 then (a_m 170 [a_r (r0), a_i (x1), a_i (5)] (k, u, g, t)).bind (a_back 220 89 3 [a_r (r0), a_i (x1), a_i (x2)] []) else none := by
  refine (X_aload_n (m := 220) (pc := 86) (n := 0) (by decide +kernel) rfl).trans ?_
  refine (X_iload_n (m := 220) (pc := 87) (n := 1) (by decide +kernel) rfl).trans ?_
  refine (X_iconst (m := 220) (pc := 88) (n := 5) (by decide +kernel) ).trans ?_
  refine (X_call_vi (m := 220) (pc := 89) (q := 218) (y := 170) (n := 3) (as := [a_r (r0), a_i (x1), a_i (5)]) (rest := []) (by decide +kernel) (by decide +kernel) (by decide +kernel) (by decide +kernel) rfl rfl (Nat.le_of_ble_eq_true rfl) (Nat.le_of_ble_eq_true rfl) rfl (by rw [show m_maxL 170 = 3 from by decide +kernel]; exact Nat.le_of_ble_eq_true rfl)).trans ?_
  exact ite_congr (by simp [a_rcv, show m_recv 170 = 11 from by decide +kernel]) (fun _ => rfl) (fun _ => rfl)
theorem B_X11_number_93 {k : Nat → Nat × Nat} {u : Nat → Nat → Int} {g : Nat → Nat → Nat} {t : Nat × Nat × Nat} {r0 : Nat} {x1 : Int} {x2 : Int} : a_X 220 93 [a_r (r0), a_i (x1), a_i (x2)] [] (k, u, g, t) = if (k r0).1 = 11 then (a_m 218 [a_r (r0), a_i (x1)] (k, u, g, t)).bind (a_back 220 95 3 [a_r (r0), a_i (x1), a_i (x2)] []) else none := by
  refine (X_aload_n (m := 220) (pc := 93) (n := 0) (by decide +kernel) rfl).trans ?_
  refine (X_iload_n (m := 220) (pc := 94) (n := 1) (by decide +kernel) rfl).trans ?_
  refine (X_call_vi (m := 220) (pc := 95) (q := 296) (y := 218) (n := 2) (as := [a_r (r0), a_i (x1)]) (rest := []) (by decide +kernel) (by decide +kernel) (by decide +kernel) (by decide +kernel) rfl rfl (Nat.le_of_ble_eq_true rfl) (Nat.le_of_ble_eq_true rfl) rfl (by rw [show m_maxL 218 = 4 from by decide +kernel]; exact Nat.le_of_ble_eq_true rfl)).trans ?_
  exact ite_congr (by simp [a_rcv, show m_recv 218 = 11 from by decide +kernel]) (fun _ => rfl) (fun _ => rfl)
theorem B_X11_number_99 {k : Nat → Nat × Nat} {u : Nat → Nat → Int} {g : Nat → Nat → Nat} {t : Nat × Nat × Nat} {r0 : Nat} {x1 : Int} {x2 : Int} : a_X 220 99 [a_r (r0), a_i (x1), a_i (x2)] [] (k, u, g, t) = if (k r0).1 = 11 then (a_m 219 [a_r (r0), a_i (x1)] (k, u, g, t)).bind (a_back 220 101 3 [a_r (r0), a_i (x1), a_i (x2)] []) else none := by
  refine (X_aload_n (m := 220) (pc := 99) (n := 0) (by decide +kernel) rfl).trans ?_
  refine (X_iload_n (m := 220) (pc := 100) (n := 1) (by decide +kernel) rfl).trans ?_
  refine (X_call_vi (m := 220) (pc := 101) (q := 299) (y := 219) (n := 2) (as := [a_r (r0), a_i (x1)]) (rest := []) (by decide +kernel) (by decide +kernel) (by decide +kernel) (by decide +kernel) rfl rfl (Nat.le_of_ble_eq_true rfl) (Nat.le_of_ble_eq_true rfl) rfl (by rw [show m_maxL 219 = 4 from by decide +kernel]; exact Nat.le_of_ble_eq_true rfl)).trans ?_
  exact ite_congr (by simp [a_rcv, show m_recv 219 = 11 from by decide +kernel]) (fun _ => rfl) (fun _ => rfl)
theorem B_X11_number_78 {k : Nat → Nat × Nat} {u : Nat → Nat → Int} {g : Nat → Nat → Nat} {t : Nat × Nat × Nat} {r0 : Nat} {x1 : Int} {x2 : Int} {y0 : Int} : a_X 220 78 [a_r (r0), a_i (x1), a_i (x2)] [a_i (y0)] (k, u, g, t) = some (.inl (some (a_i (y0))), (k, u, g, t)) := by
  exact X_ireturn (m := 220) (pc := 78) (f := 1) (by decide +kernel) (by decide +kernel) rfl
theorem B_X11_number_85 {k : Nat → Nat × Nat} {u : Nat → Nat → Int} {g : Nat → Nat → Nat} {t : Nat × Nat × Nat} {r0 : Nat} {x1 : Int} {x2 : Int} {y0 : Int} : a_X 220 85 [a_r (r0), a_i (x1), a_i (x2)] [a_i (y0)] (k, u, g, t) = some (.inl (some (a_i (y0))), (k, u, g, t)) := by
  exact X_ireturn (m := 220) (pc := 85) (f := 1) (by decide +kernel) (by decide +kernel) rfl
theorem B_X11_number_92 {k : Nat → Nat × Nat} {u : Nat → Nat → Int} {g : Nat → Nat → Nat} {t : Nat × Nat × Nat} {r0 : Nat} {x1 : Int} {x2 : Int} {y0 : Int} : a_X 220 92 [a_r (r0), a_i (x1), a_i (x2)] [a_i (y0)] (k, u, g, t) = some (.inl (some (a_i (y0))), (k, u, g, t)) := by
  exact X_ireturn (m := 220) (pc := 92) (f := 1) (by decide +kernel) (by decide +kernel) rfl
theorem B_X11_number_98 {k : Nat → Nat × Nat} {u : Nat → Nat → Int} {g : Nat → Nat → Nat} {t : Nat × Nat × Nat} {r0 : Nat} {x1 : Int} {x2 : Int} {y0 : Int} : a_X 220 98 [a_r (r0), a_i (x1), a_i (x2)] [a_i (y0)] (k, u, g, t) = some (.inl (some (a_i (y0))), (k, u, g, t)) := by
  exact X_ireturn (m := 220) (pc := 98) (f := 1) (by decide +kernel) (by decide +kernel) rfl
theorem B_X11_number_104 {k : Nat → Nat × Nat} {u : Nat → Nat → Int} {g : Nat → Nat → Nat} {t : Nat × Nat × Nat} {r0 : Nat} {x1 : Int} {x2 : Int} {y0 : Int} : a_X 220 104 [a_r (r0), a_i (x1), a_i (x2)] [a_i (y0)] (k, u, g, t) = (a_m 156 [a_i (y0)] (k, u, g, t)).bind (a_back 220 104 3 [a_r (r0), a_i (x1), a_i (x2)] []) := by
  refine (X_call_st (m := 220) (pc := 104) (q := 204) (y := 156) (n := 1) (as := [a_i (y0)]) (rest := []) (by decide +kernel) (by decide +kernel) (by decide +kernel) (by decide +kernel) rfl rfl (Nat.le_of_ble_eq_true rfl) (Nat.le_of_ble_eq_true rfl) rfl (by rw [show m_maxL 156 = 1 from by decide +kernel]; exact Nat.le_of_ble_eq_true rfl)).trans ?_
  exact if_pos rfl
theorem B_X11_number_107 {k : Nat → Nat × Nat} {u : Nat → Nat → Int} {g : Nat → Nat → Nat} {t : Nat × Nat × Nat} {r0 : Nat} {x1 : Int} {x2 : Int} {y0 : Int} : a_X 220 107 [a_r (r0), a_i (x1), a_i (x2)] [a_i (y0)] (k, u, g, t) = some (.inl (some (a_i (y0))), (k, u, g, t)) := by
  exact X_ireturn (m := 220) (pc := 107) (f := 1) (by decide +kernel) (by decide +kernel) rfl
theorem E_X11_covers {σ : AS} {r0 : Nat} {x1 : Int} {x2 : Int} {x3 : Int} {x4 : Int} : a_m 221 [a_r (r0), a_i (x1), a_i (x2), a_i (x3), a_i (x4)] σ = a_X 221 0 [a_r (r0), a_i (x1), a_i (x2), a_i (x3), a_i (x4)] [] σ := a_m_eq (by rw [a_entry, show m_maxL 221 = 5 from by decide +kernel]; rfl)
theorem B_X11_covers_0 {k : Nat → Nat × Nat} {u : Nat → Nat → Int} {g : Nat → Nat → Nat} {t : Nat × Nat × Nat} {r0 : Nat} {x1 : Int} {x2 : Int} {x3 : Int} {x4 : Int} : a_X 221 0 [a_r (r0), a_i (x1), a_i (x2), a_i (x3), a_i (x4)] [] (k, u, g, t) = if (k r0).1 = 11 then (a_m 173 [a_r (r0), a_i (x1), a_i (x2)] (k, u, g, t)).bind (a_back 221 3 3 [a_r (r0), a_i (x1), a_i (x2), a_i (x3), a_i (x4)] []) else none := by
  refine (X_aload_n (m := 221) (pc := 0) (n := 0) (by decide +kernel) rfl).trans ?_
  refine (X_iload_n (m := 221) (pc := 1) (n := 1) (by decide +kernel) rfl).trans ?_
  refine (X_iload_n (m := 221) (pc := 2) (n := 2) (by decide +kernel) rfl).trans ?_
  refine (X_call_vi (m := 221) (pc := 3) (q := 265) (y := 173) (n := 3) (as := [a_r (r0), a_i (x1), a_i (x2)]) (rest := []) (by decide +kernel) (by decide +kernel) (by decide +kernel) (by decide +kernel) rfl rfl (Nat.le_of_ble_eq_true rfl) (Nat.le_of_ble_eq_true rfl) rfl (by rw [show m_maxL 173 = 3 from by decide +kernel]; exact Nat.le_of_ble_eq_true rfl)).trans ?_
  exact ite_congr (by simp [a_rcv, show m_recv 173 = 11 from by decide +kernel]) (fun _ => rfl) (fun _ => rfl)
theorem B_X11_covers_6 {k : Nat → Nat × Nat} {u : Nat → Nat → Int} {g : Nat → Nat → Nat} {t : Nat × Nat × Nat} {r0 : Nat} {x1 : Int} {x2 : Int} {x3 : Int} {x4 : Int} {y0 : Int} : a_X 221 6 [a_r (r0), a_i (x1), a_i (x2), a_i (x3), a_i (x4)] [a_i (y0)] (k, u, g, t) = if (y0 : Int) ≠ 0 then some (.inl (some (a_i (0))), (k, u, g, t)) else if (k r0).1 = 11 then (a_m 165 [a_r (r0), a_i (x1), a_i (x2), a_i (1)] (k, u, g, t)).bind (a_back 221 13 3 [a_r (r0), a_i (x1), a_i (x2), a_i (x3), a_i (x4)] []) else none := by
  refine (X_if_ne (m := 221) (pc := 6) (off := 45) (tg := 51) (by decide +kernel) (by decide +kernel)).trans ?_
  refine ite_congr rfl (fun _ => ?_) (fun _ => ?_)
  · refine (X_iconst (m := 221) (pc := 51) (n := 0) (by decide +kernel) ).trans ?_
    exact X_ireturn (m := 221) (pc := 52) (f := 2) (by decide +kernel) (by decide +kernel) rfl
  · refine (X_aload_n (m := 221) (pc := 9) (n := 0) (by decide +kernel) rfl).trans ?_
    refine (X_iload_n (m := 221) (pc := 10) (n := 1) (by decide +kernel) rfl).trans ?_
    refine (X_iload_n (m := 221) (pc := 11) (n := 2) (by decide +kernel) rfl).trans ?_
    refine (X_iconst (m := 221) (pc := 12) (n := 1) (by decide +kernel) ).trans ?_
    refine (X_call_vi (m := 221) (pc := 13) (q := 82) (y := 165) (n := 4) (as := [a_r (r0), a_i (x1), a_i (x2), a_i (1)]) (rest := []) (by decide +kernel) (by decide +kernel) (by decide +kernel) (by decide +kernel) rfl rfl (Nat.le_of_ble_eq_true rfl) (Nat.le_of_ble_eq_true rfl) rfl (by rw [show m_maxL 165 = 4 from by decide +kernel]; exact Nat.le_of_ble_eq_true rfl)).trans ?_
    exact ite_congr (by simp [a_rcv, show m_recv 165 = 11 from by decide +kernel]) (fun _ => rfl) (fun _ => rfl)
theorem B_X11_covers_16 {k : Nat → Nat × Nat} {u : Nat → Nat → Int} {g : Nat → Nat → Nat} {t : Nat × Nat × Nat} {r0 : Nat} {x1 : Int} {x2 : Int} {x3 : Int} {x4 : Int} {y0 : Int} : a_X 221 16 [a_r (r0), a_i (x1), a_i (x2), a_i (x3), a_i (x4)] [a_i (y0)] (k, u, g, t) = if (y0 : Int) ≠ (x3 : Int) then some (.inl (some (a_i (0))), (k, u, g, t)) else if (k r0).1 = 11 then (a_m 165 [a_r (r0), a_i (x1), a_i (x2), a_i (2)] (k, u, g, t)).bind (a_back 221 27 3 [a_r (r0), a_i (x1), a_i (x2), a_i (x3), a_i (x4)] [a_l (x4)]) else none := by
  refine (X_iload_n (m := 221) (pc := 16) (n := 3) (by decide +kernel) rfl).trans ?_
  refine (X_ic_ne (m := 221) (pc := 17) (off := 34) (tg := 51) (by decide +kernel) (by decide +kernel)).trans ?_
  refine ite_congr rfl (fun _ => ?_) (fun _ => ?_)
  · refine (X_iconst (m := 221) (pc := 51) (n := 0) (by decide +kernel) ).trans ?_
    exact X_ireturn (m := 221) (pc := 52) (f := 2) (by decide +kernel) (by decide +kernel) rfl
  · refine (X_iload (m := 221) (pc := 20) (n := 4) (by decide +kernel) rfl).trans ?_
    refine (X_i2l (m := 221) (pc := 22)  (by decide +kernel) ).trans ?_
    refine (X_aload_n (m := 221) (pc := 23) (n := 0) (by decide +kernel) rfl).trans ?_
    refine (X_iload_n (m := 221) (pc := 24) (n := 1) (by decide +kernel) rfl).trans ?_
    refine (X_iload_n (m := 221) (pc := 25) (n := 2) (by decide +kernel) rfl).trans ?_
    refine (X_iconst (m := 221) (pc := 26) (n := 2) (by decide +kernel) ).trans ?_
    refine (X_call_vi (m := 221) (pc := 27) (q := 82) (y := 165) (n := 4) (as := [a_r (r0), a_i (x1), a_i (x2), a_i (2)]) (rest := [a_l (x4)]) (by decide +kernel) (by decide +kernel) (by decide +kernel) (by decide +kernel) rfl rfl (Nat.le_of_ble_eq_true rfl) (Nat.le_of_ble_eq_true rfl) rfl (by rw [show m_maxL 165 = 4 from by decide +kernel]; exact Nat.le_of_ble_eq_true rfl)).trans ?_
    exact ite_congr (by simp [a_rcv, show m_recv 165 = 11 from by decide +kernel]) (fun _ => rfl) (fun _ => rfl)
theorem B_X11_covers_30 {k : Nat → Nat × Nat} {u : Nat → Nat → Int} {g : Nat → Nat → Nat} {t : Nat × Nat × Nat} {r0 : Nat} {x1 : Int} {x2 : Int} {x3 : Int} {x4 : Int} {w0 : Int} {y1 : Int} : a_X 221 30 [a_r (r0), a_i (x1), a_i (x2), a_i (x3), a_i (x4)] [a_i (y1), a_l (w0)] (k, u, g, t) = if (k r0).1 = 11 then (a_m 165 [a_r (r0), a_i (x1), a_i (x2), a_i (3)] (k, u, g, t)).bind (a_back 221 35 3 [a_r (r0), a_i (x1), a_i (x2), a_i (x3), a_i (x4)] [a_l (y1), a_l (w0)]) else none := by
  refine (X_i2l (m := 221) (pc := 30)  (by decide +kernel) ).trans ?_
  refine (X_aload_n (m := 221) (pc := 31) (n := 0) (by decide +kernel) rfl).trans ?_
  refine (X_iload_n (m := 221) (pc := 32) (n := 1) (by decide +kernel) rfl).trans ?_
  refine (X_iload_n (m := 221) (pc := 33) (n := 2) (by decide +kernel) rfl).trans ?_
  refine (X_iconst (m := 221) (pc := 34) (n := 3) (by decide +kernel) ).trans ?_
  refine (X_call_vi (m := 221) (pc := 35) (q := 82) (y := 165) (n := 4) (as := [a_r (r0), a_i (x1), a_i (x2), a_i (3)]) (rest := [a_l (y1), a_l (w0)]) (by decide +kernel) (by decide +kernel) (by decide +kernel) (by decide +kernel) rfl rfl (Nat.le_of_ble_eq_true rfl) (Nat.le_of_ble_eq_true rfl) rfl (by rw [show m_maxL 165 = 4 from by decide +kernel]; exact Nat.le_of_ble_eq_true rfl)).trans ?_
  exact ite_congr (by simp [a_rcv, show m_recv 165 = 11 from by decide +kernel]) (fun _ => rfl) (fun _ => rfl)
theorem B_X11_covers_38 {k : Nat → Nat × Nat} {u : Nat → Nat → Int} {g : Nat → Nat → Nat} {t : Nat × Nat × Nat} {r0 : Nat} {x1 : Int} {x2 : Int} {x3 : Int} {x4 : Int} {w0 : Int} {w1 : Int} {y2 : Int} : a_X 221 38 [a_r (r0), a_i (x1), a_i (x2), a_i (x3), a_i (x4)] [a_i (y2), a_l (w1), a_l (w0)] (k, u, g, t) = (a_m 155 [a_l (w0), a_l (w1), a_l (wr (y2 - 1))] (k, u, g, t)).bind (a_back 221 41 3 [a_r (r0), a_i (x1), a_i (x2), a_i (x3), a_i (x4)] []) := by
  refine (X_iconst (m := 221) (pc := 38) (n := 1) (by decide +kernel) ).trans ?_
  refine (X_isub (m := 221) (pc := 39)  (by decide +kernel) ).trans ?_
  refine (X_i2l (m := 221) (pc := 40)  (by decide +kernel) ).trans ?_
  refine (X_call_st (m := 221) (pc := 41) (q := 61) (y := 155) (n := 3) (as := [a_l (w0), a_l (w1), a_l (wr (y2 - 1))]) (rest := []) (by decide +kernel) (by decide +kernel) (by decide +kernel) (by decide +kernel) rfl rfl (Nat.le_of_ble_eq_true rfl) (Nat.le_of_ble_eq_true rfl) rfl (by rw [show m_maxL 155 = 6 from by decide +kernel]; exact Nat.le_of_ble_eq_true rfl)).trans ?_
  exact if_pos rfl
theorem B_X11_covers_44 {k : Nat → Nat × Nat} {u : Nat → Nat → Int} {g : Nat → Nat → Nat} {t : Nat × Nat × Nat} {r0 : Nat} {x1 : Int} {x2 : Int} {x3 : Int} {x4 : Int} {y0 : Int} : a_X 221 44 [a_r (r0), a_i (x1), a_i (x2), a_i (x3), a_i (x4)] [a_i (y0)] (k, u, g, t) = if (y0 : Int) = 0 then some (.inl (some (a_i (0))), (k, u, g, t)) else some (.inl (some (a_i (1))), (k, u, g, t)) := by
  refine (X_if_eq (m := 221) (pc := 44) (off := 7) (tg := 51) (by decide +kernel) (by decide +kernel)).trans ?_
  refine ite_congr rfl (fun _ => ?_) (fun _ => ?_)
  · refine (X_iconst (m := 221) (pc := 51) (n := 0) (by decide +kernel) ).trans ?_
    exact X_ireturn (m := 221) (pc := 52) (f := 2) (by decide +kernel) (by decide +kernel) rfl
  · refine (X_iconst (m := 221) (pc := 47) (n := 1) (by decide +kernel) ).trans ?_
    refine (X_goto (m := 221) (pc := 48) (off := 4) (tg := 52) (by decide +kernel) (by decide +kernel)).trans ?_
    exact X_ireturn (m := 221) (pc := 52) (f := 2) (by decide +kernel) (by decide +kernel) rfl
theorem E_X11_standsAt {σ : AS} {r0 : Nat} {x1 : Int} {x2 : Int} {x3 : Int} : a_m 222 [a_r (r0), a_i (x1), a_i (x2), a_i (x3)] σ = a_X 222 0 [a_r (r0), a_i (x1), a_i (x2), a_i (x3), a_x false] [] σ := a_m_eq (by rw [a_entry, show m_maxL 222 = 5 from by decide +kernel]; rfl)
theorem B_X11_standsAt_0 {k : Nat → Nat × Nat} {u : Nat → Nat → Int} {g : Nat → Nat → Nat} {t : Nat × Nat × Nat} {r0 : Nat} {x1 : Int} {x2 : Int} {x3 : Int} {v4 : AV} : a_X 222 0 [a_r (r0), a_i (x1), a_i (x2), a_i (x3), v4] [] (k, u, g, t) = a_X 222 3 [a_r (r0), a_i (x1), a_i (x2), a_i (x3), a_i (0)] [] (k, u, g, t) := by
  refine (X_iconst (m := 222) (pc := 0) (n := 0) (by decide +kernel) ).trans ?_
  refine (X_istore (m := 222) (pc := 1) (n := 4) (by decide +kernel) rfl (Nat.le_of_ble_eq_true rfl) rfl).trans ?_
  rfl
theorem B_X11_standsAt_3 {k : Nat → Nat × Nat} {u : Nat → Nat → Int} {g : Nat → Nat → Nat} {t : Nat × Nat × Nat} {r0 : Nat} {x1 : Int} {x2 : Int} {x3 : Int} {x4 : Int} : a_X 222 3 [a_r (r0), a_i (x1), a_i (x2), a_i (x3), a_i (x4)] [] (k, u, g, t) = if (x4 : Int) ≥ (12 : Int) then some (.inl (some (a_i (-1))), (k, u, g, t)) else if (k r0).1 = 11 then (a_m 221 [a_r (r0), a_i (x1), a_i (x4), a_i (x2), a_i (x3)] (k, u, g, t)).bind (a_back 222 16 3 [a_r (r0), a_i (x1), a_i (x2), a_i (x3), a_i (x4)] []) else none := by
  refine (X_iload (m := 222) (pc := 3) (n := 4) (by decide +kernel) rfl).trans ?_
  refine (X_bipush (m := 222) (pc := 5) (n := 12) (by decide +kernel) ).trans ?_
  refine (X_ic_ge (m := 222) (pc := 7) (off := 30) (tg := 37) (by decide +kernel) (by decide +kernel)).trans ?_
  refine ite_congr rfl (fun _ => ?_) (fun _ => ?_)
  · refine (X_iconst (m := 222) (pc := 37) (n := -1) (by decide +kernel) ).trans ?_
    exact X_ireturn (m := 222) (pc := 38) (f := 1) (by decide +kernel) (by decide +kernel) rfl
  · refine (X_aload_n (m := 222) (pc := 10) (n := 0) (by decide +kernel) rfl).trans ?_
    refine (X_iload_n (m := 222) (pc := 11) (n := 1) (by decide +kernel) rfl).trans ?_
    refine (X_iload (m := 222) (pc := 12) (n := 4) (by decide +kernel) rfl).trans ?_
    refine (X_iload_n (m := 222) (pc := 14) (n := 2) (by decide +kernel) rfl).trans ?_
    refine (X_iload_n (m := 222) (pc := 15) (n := 3) (by decide +kernel) rfl).trans ?_
    refine (X_call_vi (m := 222) (pc := 16) (q := 302) (y := 221) (n := 5) (as := [a_r (r0), a_i (x1), a_i (x4), a_i (x2), a_i (x3)]) (rest := []) (by decide +kernel) (by decide +kernel) (by decide +kernel) (by decide +kernel) rfl rfl (Nat.le_of_ble_eq_true rfl) (Nat.le_of_ble_eq_true rfl) rfl (by rw [show m_maxL 221 = 5 from by decide +kernel]; exact Nat.le_of_ble_eq_true rfl)).trans ?_
    exact ite_congr (by simp [a_rcv, show m_recv 221 = 11 from by decide +kernel]) (fun _ => rfl) (fun _ => rfl)
theorem B_X11_standsAt_19 {k : Nat → Nat × Nat} {u : Nat → Nat → Int} {g : Nat → Nat → Nat} {t : Nat × Nat × Nat} {r0 : Nat} {x1 : Int} {x2 : Int} {x3 : Int} {x4 : Int} {y0 : Int} : a_X 222 19 [a_r (r0), a_i (x1), a_i (x2), a_i (x3), a_i (x4)] [a_i (y0)] (k, u, g, t) = if (y0 : Int) = 0 then a_X 222 3 [a_r (r0), a_i (x1), a_i (x2), a_i (x3), a_i (wr (x4 + 1))] [] (k, u, g, t) else if (k r0).1 = 11 then (a_m 165 [a_r (r0), a_i (x1), a_i (x4), a_i (0)] (k, u, g, t)).bind (a_back 222 27 3 [a_r (r0), a_i (x1), a_i (x2), a_i (x3), a_i (x4)] []) else none := by
  refine (X_if_eq (m := 222) (pc := 19) (off := 12) (tg := 31) (by decide +kernel) (by decide +kernel)).trans ?_
  refine ite_congr rfl (fun _ => ?_) (fun _ => ?_)
  · refine (X_iinc (m := 222) (pc := 31) (n := 4) (c := 1) (by decide +kernel) rfl rfl (Nat.le_of_ble_eq_true rfl) rfl).trans ?_
    refine (X_goto (m := 222) (pc := 34) (off := -31) (tg := 3) (by decide +kernel) (by decide +kernel)).trans ?_
    rfl
  · refine (X_aload_n (m := 222) (pc := 22) (n := 0) (by decide +kernel) rfl).trans ?_
    refine (X_iload_n (m := 222) (pc := 23) (n := 1) (by decide +kernel) rfl).trans ?_
    refine (X_iload (m := 222) (pc := 24) (n := 4) (by decide +kernel) rfl).trans ?_
    refine (X_iconst (m := 222) (pc := 26) (n := 0) (by decide +kernel) ).trans ?_
    refine (X_call_vi (m := 222) (pc := 27) (q := 82) (y := 165) (n := 4) (as := [a_r (r0), a_i (x1), a_i (x4), a_i (0)]) (rest := []) (by decide +kernel) (by decide +kernel) (by decide +kernel) (by decide +kernel) rfl rfl (Nat.le_of_ble_eq_true rfl) (Nat.le_of_ble_eq_true rfl) rfl (by rw [show m_maxL 165 = 4 from by decide +kernel]; exact Nat.le_of_ble_eq_true rfl)).trans ?_
    exact ite_congr (by simp [a_rcv, show m_recv 165 = 11 from by decide +kernel]) (fun _ => rfl) (fun _ => rfl)
theorem B_X11_standsAt_30 {k : Nat → Nat × Nat} {u : Nat → Nat → Int} {g : Nat → Nat → Nat} {t : Nat × Nat × Nat} {r0 : Nat} {x1 : Int} {x2 : Int} {x3 : Int} {x4 : Int} {y0 : Int} : a_X 222 30 [a_r (r0), a_i (x1), a_i (x2), a_i (x3), a_i (x4)] [a_i (y0)] (k, u, g, t) = some (.inl (some (a_i (y0))), (k, u, g, t)) := by
  exact X_ireturn (m := 222) (pc := 30) (f := 1) (by decide +kernel) (by decide +kernel) rfl
theorem E_X11_minutes {σ : AS} {r0 : Nat} {x1 : Int} {x2 : Int} : a_m 223 [a_r (r0), a_i (x1), a_i (x2)] σ = a_X 223 0 [a_r (r0), a_i (x1), a_i (x2), a_x false, a_x false, a_x false] [] σ := a_m_eq (by rw [a_entry, show m_maxL 223 = 6 from by decide +kernel]; rfl)
theorem B_X11_minutes_0 {k : Nat → Nat × Nat} {u : Nat → Nat → Int} {g : Nat → Nat → Nat} {t : Nat × Nat × Nat} {r0 : Nat} {x1 : Int} {x2 : Int} {v3 : AV} {v4 : AV} {v5 : AV} : a_X 223 0 [a_r (r0), a_i (x1), a_i (x2), v3, v4, v5] [] (k, u, g, t) = if (k r0).1 = 11 then (a_m 160 [a_r (r0), a_i (x1)] (k, u, g, t)).bind (a_back 223 2 3 [a_r (r0), a_i (x1), a_i (x2), v3, v4, v5] []) else none := by
  refine (X_aload_n (m := 223) (pc := 0) (n := 0) (by decide +kernel) rfl).trans ?_
  refine (X_iload_n (m := 223) (pc := 1) (n := 1) (by decide +kernel) rfl).trans ?_
  refine (X_call_vi (m := 223) (pc := 2) (q := 280) (y := 160) (n := 2) (as := [a_r (r0), a_i (x1)]) (rest := []) (by decide +kernel) (by decide +kernel) (by decide +kernel) (by decide +kernel) rfl rfl (Nat.le_of_ble_eq_true rfl) (Nat.le_of_ble_eq_true rfl) rfl (by rw [show m_maxL 160 = 2 from by decide +kernel]; exact Nat.le_of_ble_eq_true rfl)).trans ?_
  exact ite_congr (by simp [a_rcv, show m_recv 160 = 11 from by decide +kernel]) (fun _ => rfl) (fun _ => rfl)
theorem B_X11_minutes_5 {k : Nat → Nat × Nat} {u : Nat → Nat → Int} {g : Nat → Nat → Nat} {t : Nat × Nat × Nat} {r0 : Nat} {x1 : Int} {x2 : Int} {v3 : AV} {v4 : AV} {v5 : AV} {y0 : Int} : a_X 223 5 [a_r (r0), a_i (x1), a_i (x2), v3, v4, v5] [a_i (y0)] (k, u, g, t) = if (y0 : Int) ≠ 0 then some (.inl (some (a_i (0))), (k, u, g, t)) else (a_m 155 [a_l (x2), a_l (0), a_l (29)] (k, u, g, t)).bind (a_back 223 15 3 [a_r (r0), a_i (x1), a_i (x2), v3, v4, v5] [a_r (r0)]) := by
  refine (X_if_ne (m := 223) (pc := 5) (off := 28) (tg := 33) (by decide +kernel) (by decide +kernel)).trans ?_
  refine ite_congr rfl (fun _ => ?_) (fun _ => ?_)
  · refine (X_iconst (m := 223) (pc := 33) (n := 0) (by decide +kernel) ).trans ?_
    exact X_ireturn (m := 223) (pc := 34) (f := 1) (by decide +kernel) (by decide +kernel) rfl
  · refine (X_aload_n (m := 223) (pc := 8) (n := 0) (by decide +kernel) rfl).trans ?_
    refine (X_iload_n (m := 223) (pc := 9) (n := 2) (by decide +kernel) rfl).trans ?_
    refine (X_i2l (m := 223) (pc := 10)  (by decide +kernel) ).trans ?_
    refine (X_lconst (m := 223) (pc := 11) (n := 0) (by decide +kernel) ).trans ?_
    refine (X_ldc2 (m := 223) (pc := 12) (n := 306) (z := 29) (by decide +kernel) (by decide +kernel)).trans ?_
    refine (X_call_st (m := 223) (pc := 15) (q := 61) (y := 155) (n := 3) (as := [a_l (x2), a_l (0), a_l (29)]) (rest := [a_r (r0)]) (by decide +kernel) (by decide +kernel) (by decide +kernel) (by decide +kernel) rfl rfl (Nat.le_of_ble_eq_true rfl) (Nat.le_of_ble_eq_true rfl) rfl (by rw [show m_maxL 155 = 6 from by decide +kernel]; exact Nat.le_of_ble_eq_true rfl)).trans ?_
    exact if_pos rfl
theorem B_X11_minutes_18 {k : Nat → Nat × Nat} {u : Nat → Nat → Int} {g : Nat → Nat → Nat} {t : Nat × Nat × Nat} {r0 : Nat} {x1 : Int} {x2 : Int} {v3 : AV} {v4 : AV} {v5 : AV} {q0 : Nat} {y1 : Int} : a_X 223 18 [a_r (r0), a_i (x1), a_i (x2), v3, v4, v5] [a_i (y1), a_r (q0)] (k, u, g, t) = if (y1 : Int) ≠ 0 then if (k q0).1 = 11 then (a_m 157 [a_r (q0), a_i (0), a_i (3)] (k, u, g, t)).bind (a_back 223 27 3 [a_r (r0), a_i (x1), a_i (x2), v3, v4, v5] []) else none else if (k q0).1 = 11 then (a_m 157 [a_r (q0), a_i (1), a_i (3)] (k, u, g, t)).bind (a_back 223 27 3 [a_r (r0), a_i (x1), a_i (x2), v3, v4, v5] []) else none := by
  refine (X_if_ne (m := 223) (pc := 18) (off := 7) (tg := 25) (by decide +kernel) (by decide +kernel)).trans ?_
  refine ite_congr rfl (fun _ => ?_) (fun _ => ?_)
  · refine (X_iconst (m := 223) (pc := 25) (n := 0) (by decide +kernel) ).trans ?_
    refine (X_iconst (m := 223) (pc := 26) (n := 3) (by decide +kernel) ).trans ?_
    refine (X_call_vi (m := 223) (pc := 27) (q := 53) (y := 157) (n := 3) (as := [a_r (q0), a_i (0), a_i (3)]) (rest := []) (by decide +kernel) (by decide +kernel) (by decide +kernel) (by decide +kernel) rfl rfl (Nat.le_of_ble_eq_true rfl) (Nat.le_of_ble_eq_true rfl) rfl (by rw [show m_maxL 157 = 3 from by decide +kernel]; exact Nat.le_of_ble_eq_true rfl)).trans ?_
    exact ite_congr (by simp [a_rcv, show m_recv 157 = 11 from by decide +kernel]) (fun _ => rfl) (fun _ => rfl)
  · refine (X_iconst (m := 223) (pc := 21) (n := 1) (by decide +kernel) ).trans ?_
    refine (X_goto (m := 223) (pc := 22) (off := 4) (tg := 26) (by decide +kernel) (by decide +kernel)).trans ?_
    refine (X_iconst (m := 223) (pc := 26) (n := 3) (by decide +kernel) ).trans ?_
    refine (X_call_vi (m := 223) (pc := 27) (q := 53) (y := 157) (n := 3) (as := [a_r (q0), a_i (1), a_i (3)]) (rest := []) (by decide +kernel) (by decide +kernel) (by decide +kernel) (by decide +kernel) rfl rfl (Nat.le_of_ble_eq_true rfl) (Nat.le_of_ble_eq_true rfl) rfl (by rw [show m_maxL 157 = 3 from by decide +kernel]; exact Nat.le_of_ble_eq_true rfl)).trans ?_
    exact ite_congr (by simp [a_rcv, show m_recv 157 = 11 from by decide +kernel]) (fun _ => rfl) (fun _ => rfl)
theorem B_X11_minutes_30 {k : Nat → Nat × Nat} {u : Nat → Nat → Int} {g : Nat → Nat → Nat} {t : Nat × Nat × Nat} {r0 : Nat} {x1 : Int} {x2 : Int} {v3 : AV} {v4 : AV} {v5 : AV} {y0 : Int} : a_X 223 30 [a_r (r0), a_i (x1), a_i (x2), v3, v4, v5] [a_i (y0)] (k, u, g, t) = if (y0 : Int) = 0 then a_X 223 40 [a_r (r0), a_i (x1), a_i (x2), a_i (0), a_i (0), v5] [] (k, u, g, t) else some (.inl (some (a_i (0))), (k, u, g, t)) := by
  refine (X_if_eq (m := 223) (pc := 30) (off := 5) (tg := 35) (by decide +kernel) (by decide +kernel)).trans ?_
  refine ite_congr rfl (fun _ => ?_) (fun _ => ?_)
  · refine (X_iconst (m := 223) (pc := 35) (n := 0) (by decide +kernel) ).trans ?_
    refine (X_istore_n (m := 223) (pc := 36) (n := 3) (by decide +kernel) rfl (Nat.le_of_ble_eq_true rfl) rfl).trans ?_
    refine (X_iconst (m := 223) (pc := 37) (n := 0) (by decide +kernel) ).trans ?_
    refine (X_istore (m := 223) (pc := 38) (n := 4) (by decide +kernel) rfl (Nat.le_of_ble_eq_true rfl) rfl).trans ?_
    rfl
  · refine (X_iconst (m := 223) (pc := 33) (n := 0) (by decide +kernel) ).trans ?_
    exact X_ireturn (m := 223) (pc := 34) (f := 1) (by decide +kernel) (by decide +kernel) rfl
theorem B_X11_minutes_40 {k : Nat → Nat × Nat} {u : Nat → Nat → Int} {g : Nat → Nat → Nat} {t : Nat × Nat × Nat} {r0 : Nat} {x1 : Int} {x2 : Int} {x3 : Int} {x4 : Int} {v5 : AV} : a_X 223 40 [a_r (r0), a_i (x1), a_i (x2), a_i (x3), a_i (x4), v5] [] (k, u, g, t) = if (x4 : Int) ≥ (7 : Int) then some (.inl (some (a_i (x3))), (k, u, g, t)) else a_X 223 50 [a_r (r0), a_i (x1), a_i (x2), a_i (x3), a_i (x4), a_i (0)] [] (k, u, g, t) := by
  refine (X_iload (m := 223) (pc := 40) (n := 4) (by decide +kernel) rfl).trans ?_
  refine (X_bipush (m := 223) (pc := 42) (n := 7) (by decide +kernel) ).trans ?_
  refine (X_ic_ge (m := 223) (pc := 44) (off := 50) (tg := 94) (by decide +kernel) (by decide +kernel)).trans ?_
  refine ite_congr rfl (fun _ => ?_) (fun _ => ?_)
  · refine (X_iload_n (m := 223) (pc := 94) (n := 3) (by decide +kernel) rfl).trans ?_
    exact X_ireturn (m := 223) (pc := 95) (f := 1) (by decide +kernel) (by decide +kernel) rfl
  · refine (X_iconst (m := 223) (pc := 47) (n := 0) (by decide +kernel) ).trans ?_
    refine (X_istore (m := 223) (pc := 48) (n := 5) (by decide +kernel) rfl (Nat.le_of_ble_eq_true rfl) rfl).trans ?_
    rfl
theorem B_X11_minutes_50 {k : Nat → Nat × Nat} {u : Nat → Nat → Int} {g : Nat → Nat → Nat} {t : Nat × Nat × Nat} {r0 : Nat} {x1 : Int} {x2 : Int} {x3 : Int} {x4 : Int} {x5 : Int} : a_X 223 50 [a_r (r0), a_i (x1), a_i (x2), a_i (x3), a_i (x4), a_i (x5)] [] (k, u, g, t) = if (x5 : Int) ≥ (1440 : Int) then a_X 223 40 [a_r (r0), a_i (x1), a_i (x2), a_i (x3), a_i (wr (x4 + 1)), a_i (x5)] [] (k, u, g, t) else if (k r0).1 = 11 then (a_m 222 [a_r (r0), a_i (x1), a_i (x4), a_i (x5)] (k, u, g, t)).bind (a_back 223 65 3 [a_r (r0), a_i (x1), a_i (x2), a_i (x3), a_i (x4), a_i (x5)] [a_i (x3)]) else none := by
  refine (X_iload (m := 223) (pc := 50) (n := 5) (by decide +kernel) rfl).trans ?_
  refine (X_sipush (m := 223) (pc := 52) (n := 1440) (by decide +kernel) ).trans ?_
  refine (X_ic_ge (m := 223) (pc := 55) (off := 33) (tg := 88) (by decide +kernel) (by decide +kernel)).trans ?_
  refine ite_congr rfl (fun _ => ?_) (fun _ => ?_)
  · refine (X_iinc (m := 223) (pc := 88) (n := 4) (c := 1) (by decide +kernel) rfl rfl (Nat.le_of_ble_eq_true rfl) rfl).trans ?_
    refine (X_goto (m := 223) (pc := 91) (off := -51) (tg := 40) (by decide +kernel) (by decide +kernel)).trans ?_
    rfl
  · refine (X_iload_n (m := 223) (pc := 58) (n := 3) (by decide +kernel) rfl).trans ?_
    refine (X_aload_n (m := 223) (pc := 59) (n := 0) (by decide +kernel) rfl).trans ?_
    refine (X_iload_n (m := 223) (pc := 60) (n := 1) (by decide +kernel) rfl).trans ?_
    refine (X_iload (m := 223) (pc := 61) (n := 4) (by decide +kernel) rfl).trans ?_
    refine (X_iload (m := 223) (pc := 63) (n := 5) (by decide +kernel) rfl).trans ?_
    refine (X_call_vi (m := 223) (pc := 65) (q := 308) (y := 222) (n := 4) (as := [a_r (r0), a_i (x1), a_i (x4), a_i (x5)]) (rest := [a_i (x3)]) (by decide +kernel) (by decide +kernel) (by decide +kernel) (by decide +kernel) rfl rfl (Nat.le_of_ble_eq_true rfl) (Nat.le_of_ble_eq_true rfl) rfl (by rw [show m_maxL 222 = 5 from by decide +kernel]; exact Nat.le_of_ble_eq_true rfl)).trans ?_
    exact ite_congr (by simp [a_rcv, show m_recv 222 = 11 from by decide +kernel]) (fun _ => rfl) (fun _ => rfl)
theorem B_X11_minutes_68 {k : Nat → Nat × Nat} {u : Nat → Nat → Int} {g : Nat → Nat → Nat} {t : Nat × Nat × Nat} {r0 : Nat} {x1 : Int} {x2 : Int} {x3 : Int} {x4 : Int} {x5 : Int} {y0 : Int} {y1 : Int} : a_X 223 68 [a_r (r0), a_i (x1), a_i (x2), a_i (x3), a_i (x4), a_i (x5)] [a_i (y1), a_i (y0)] (k, u, g, t) = if (y1 : Int) ≠ (x2 : Int) then (a_m 156 [a_i (0)] (k, u, g, t)).bind (a_back 223 77 3 [a_r (r0), a_i (x1), a_i (x2), a_i (x3), a_i (x4), a_i (x5)] [a_i (y0)]) else (a_m 156 [a_i (1)] (k, u, g, t)).bind (a_back 223 77 3 [a_r (r0), a_i (x1), a_i (x2), a_i (x3), a_i (x4), a_i (x5)] [a_i (y0)]) := by
  refine (X_iload_n (m := 223) (pc := 68) (n := 2) (by decide +kernel) rfl).trans ?_
  refine (X_ic_ne (m := 223) (pc := 69) (off := 7) (tg := 76) (by decide +kernel) (by decide +kernel)).trans ?_
  refine ite_congr rfl (fun _ => ?_) (fun _ => ?_)
  · refine (X_iconst (m := 223) (pc := 76) (n := 0) (by decide +kernel) ).trans ?_
    refine (X_call_st (m := 223) (pc := 77) (q := 204) (y := 156) (n := 1) (as := [a_i (0)]) (rest := [a_i (y0)]) (by decide +kernel) (by decide +kernel) (by decide +kernel) (by decide +kernel) rfl rfl (Nat.le_of_ble_eq_true rfl) (Nat.le_of_ble_eq_true rfl) rfl (by rw [show m_maxL 156 = 1 from by decide +kernel]; exact Nat.le_of_ble_eq_true rfl)).trans ?_
    exact if_pos rfl
  · refine (X_iconst (m := 223) (pc := 72) (n := 1) (by decide +kernel) ).trans ?_
    refine (X_goto (m := 223) (pc := 73) (off := 4) (tg := 77) (by decide +kernel) (by decide +kernel)).trans ?_
    refine (X_call_st (m := 223) (pc := 77) (q := 204) (y := 156) (n := 1) (as := [a_i (1)]) (rest := [a_i (y0)]) (by decide +kernel) (by decide +kernel) (by decide +kernel) (by decide +kernel) rfl rfl (Nat.le_of_ble_eq_true rfl) (Nat.le_of_ble_eq_true rfl) rfl (by rw [show m_maxL 156 = 1 from by decide +kernel]; exact Nat.le_of_ble_eq_true rfl)).trans ?_
    exact if_pos rfl
theorem B_X11_minutes_80 {k : Nat → Nat × Nat} {u : Nat → Nat → Int} {g : Nat → Nat → Nat} {t : Nat × Nat × Nat} {r0 : Nat} {x1 : Int} {x2 : Int} {x3 : Int} {x4 : Int} {x5 : Int} {y0 : Int} {y1 : Int} : a_X 223 80 [a_r (r0), a_i (x1), a_i (x2), a_i (x3), a_i (x4), a_i (x5)] [a_i (y1), a_i (y0)] (k, u, g, t) = a_X 223 50 [a_r (r0), a_i (x1), a_i (x2), a_i (wr (y0 + y1)), a_i (x4), a_i (wr (x5 + 1))] [] (k, u, g, t) := by
  refine (X_iadd (m := 223) (pc := 80)  (by decide +kernel) ).trans ?_
  refine (X_istore_n (m := 223) (pc := 81) (n := 3) (by decide +kernel) rfl (Nat.le_of_ble_eq_true rfl) rfl).trans ?_
  refine (X_iinc (m := 223) (pc := 82) (n := 5) (c := 1) (by decide +kernel) rfl rfl (Nat.le_of_ble_eq_true rfl) rfl).trans ?_
  refine (X_goto (m := 223) (pc := 85) (off := -35) (tg := 50) (by decide +kernel) (by decide +kernel)).trans ?_
  rfl
theorem E_X11_noMinute {σ : AS} {r0 : Nat} {x1 : Int} {x2 : Int} {x3 : Int} : a_m 224 [a_r (r0), a_i (x1), a_i (x2), a_i (x3)] σ = a_X 224 0 [a_r (r0), a_i (x1), a_i (x2), a_i (x3)] [] σ := a_m_eq (by rw [a_entry, show m_maxL 224 = 4 from by decide +kernel]; rfl)
theorem B_X11_noMinute_0 {k : Nat → Nat × Nat} {u : Nat → Nat → Int} {g : Nat → Nat → Nat} {t : Nat × Nat × Nat} {r0 : Nat} {x1 : Int} {x2 : Int} {x3 : Int} : a_X 224 0 [a_r (r0), a_i (x1), a_i (x2), a_i (x3)] [] (k, u, g, t) = if (k r0).1 = 11 then (a_m 160 [a_r (r0), a_i (x1)] (k, u, g, t)).bind (a_back 224 2 3 [a_r (r0), a_i (x1), a_i (x2), a_i (x3)] []) else none := by
  refine (X_aload_n (m := 224) (pc := 0) (n := 0) (by decide +kernel) rfl).trans ?_
  refine (X_iload_n (m := 224) (pc := 1) (n := 1) (by decide +kernel) rfl).trans ?_
  refine (X_call_vi (m := 224) (pc := 2) (q := 280) (y := 160) (n := 2) (as := [a_r (r0), a_i (x1)]) (rest := []) (by decide +kernel) (by decide +kernel) (by decide +kernel) (by decide +kernel) rfl rfl (Nat.le_of_ble_eq_true rfl) (Nat.le_of_ble_eq_true rfl) rfl (by rw [show m_maxL 160 = 2 from by decide +kernel]; exact Nat.le_of_ble_eq_true rfl)).trans ?_
  exact ite_congr (by simp [a_rcv, show m_recv 160 = 11 from by decide +kernel]) (fun _ => rfl) (fun _ => rfl)
theorem B_X11_noMinute_5 {k : Nat → Nat × Nat} {u : Nat → Nat → Int} {g : Nat → Nat → Nat} {t : Nat × Nat × Nat} {r0 : Nat} {x1 : Int} {x2 : Int} {x3 : Int} {y0 : Int} : a_X 224 5 [a_r (r0), a_i (x1), a_i (x2), a_i (x3)] [a_i (y0)] (k, u, g, t) = if (y0 : Int) ≠ 0 then some (.inl (some (a_i (1))), (k, u, g, t)) else (a_m 162 [a_i (x2)] (k, u, g, t)).bind (a_back 224 10 3 [a_r (r0), a_i (x1), a_i (x2), a_i (x3)] [a_r (r0)]) := by
  refine (X_if_ne (m := 224) (pc := 5) (off := 35) (tg := 40) (by decide +kernel) (by decide +kernel)).trans ?_
  refine ite_congr rfl (fun _ => ?_) (fun _ => ?_)
  · refine (X_iconst (m := 224) (pc := 40) (n := 1) (by decide +kernel) ).trans ?_
    refine (X_goto (m := 224) (pc := 41) (off := 4) (tg := 45) (by decide +kernel) (by decide +kernel)).trans ?_
    exact X_ireturn (m := 224) (pc := 45) (f := 2) (by decide +kernel) (by decide +kernel) rfl
  · refine (X_aload_n (m := 224) (pc := 8) (n := 0) (by decide +kernel) rfl).trans ?_
    refine (X_iload_n (m := 224) (pc := 9) (n := 2) (by decide +kernel) rfl).trans ?_
    refine (X_call_st (m := 224) (pc := 10) (q := 311) (y := 162) (n := 1) (as := [a_i (x2)]) (rest := [a_r (r0)]) (by decide +kernel) (by decide +kernel) (by decide +kernel) (by decide +kernel) rfl rfl (Nat.le_of_ble_eq_true rfl) (Nat.le_of_ble_eq_true rfl) rfl (by rw [show m_maxL 162 = 1 from by decide +kernel]; exact Nat.le_of_ble_eq_true rfl)).trans ?_
    exact if_pos rfl
theorem B_X11_noMinute_13 {k : Nat → Nat × Nat} {u : Nat → Nat → Int} {g : Nat → Nat → Nat} {t : Nat × Nat × Nat} {r0 : Nat} {x1 : Int} {x2 : Int} {x3 : Int} {q0 : Nat} {y1 : Int} : a_X 224 13 [a_r (r0), a_i (x1), a_i (x2), a_i (x3)] [a_i (y1), a_r (q0)] (k, u, g, t) = if (y1 : Int) = 0 then if (k q0).1 = 11 then (a_m 157 [a_r (q0), a_i (1), a_i (3)] (k, u, g, t)).bind (a_back 224 34 3 [a_r (r0), a_i (x1), a_i (x2), a_i (x3)] []) else none else (a_m 155 [a_l (x3), a_l (0), a_l (1439)] (k, u, g, t)).bind (a_back 224 22 3 [a_r (r0), a_i (x1), a_i (x2), a_i (x3)] [a_r (q0)]) := by
  refine (X_if_eq (m := 224) (pc := 13) (off := 15) (tg := 28) (by decide +kernel) (by decide +kernel)).trans ?_
  refine ite_congr rfl (fun _ => ?_) (fun _ => ?_)
  · refine (X_iconst (m := 224) (pc := 28) (n := 1) (by decide +kernel) ).trans ?_
    refine (X_goto (m := 224) (pc := 29) (off := 4) (tg := 33) (by decide +kernel) (by decide +kernel)).trans ?_
    refine (X_iconst (m := 224) (pc := 33) (n := 3) (by decide +kernel) ).trans ?_
    refine (X_call_vi (m := 224) (pc := 34) (q := 53) (y := 157) (n := 3) (as := [a_r (q0), a_i (1), a_i (3)]) (rest := []) (by decide +kernel) (by decide +kernel) (by decide +kernel) (by decide +kernel) rfl rfl (Nat.le_of_ble_eq_true rfl) (Nat.le_of_ble_eq_true rfl) rfl (by rw [show m_maxL 157 = 3 from by decide +kernel]; exact Nat.le_of_ble_eq_true rfl)).trans ?_
    exact ite_congr (by simp [a_rcv, show m_recv 157 = 11 from by decide +kernel]) (fun _ => rfl) (fun _ => rfl)
  · refine (X_iload_n (m := 224) (pc := 16) (n := 3) (by decide +kernel) rfl).trans ?_
    refine (X_i2l (m := 224) (pc := 17)  (by decide +kernel) ).trans ?_
    refine (X_lconst (m := 224) (pc := 18) (n := 0) (by decide +kernel) ).trans ?_
    refine (X_ldc2 (m := 224) (pc := 19) (n := 314) (z := 1439) (by decide +kernel) (by decide +kernel)).trans ?_
    refine (X_call_st (m := 224) (pc := 22) (q := 61) (y := 155) (n := 3) (as := [a_l (x3), a_l (0), a_l (1439)]) (rest := [a_r (q0)]) (by decide +kernel) (by decide +kernel) (by decide +kernel) (by decide +kernel) rfl rfl (Nat.le_of_ble_eq_true rfl) (Nat.le_of_ble_eq_true rfl) rfl (by rw [show m_maxL 155 = 6 from by decide +kernel]; exact Nat.le_of_ble_eq_true rfl)).trans ?_
    exact if_pos rfl
theorem B_X11_noMinute_37 {k : Nat → Nat × Nat} {u : Nat → Nat → Int} {g : Nat → Nat → Nat} {t : Nat × Nat × Nat} {r0 : Nat} {x1 : Int} {x2 : Int} {x3 : Int} {y0 : Int} : a_X 224 37 [a_r (r0), a_i (x1), a_i (x2), a_i (x3)] [a_i (y0)] (k, u, g, t) = if (y0 : Int) = 0 then some (.inl (some (a_i (0))), (k, u, g, t)) else some (.inl (some (a_i (1))), (k, u, g, t)) := by
  refine (X_if_eq (m := 224) (pc := 37) (off := 7) (tg := 44) (by decide +kernel) (by decide +kernel)).trans ?_
  refine ite_congr rfl (fun _ => ?_) (fun _ => ?_)
  · refine (X_iconst (m := 224) (pc := 44) (n := 0) (by decide +kernel) ).trans ?_
    exact X_ireturn (m := 224) (pc := 45) (f := 2) (by decide +kernel) (by decide +kernel) rfl
  · refine (X_iconst (m := 224) (pc := 40) (n := 1) (by decide +kernel) ).trans ?_
    refine (X_goto (m := 224) (pc := 41) (off := 4) (tg := 45) (by decide +kernel) (by decide +kernel)).trans ?_
    exact X_ireturn (m := 224) (pc := 45) (f := 2) (by decide +kernel) (by decide +kernel) rfl
theorem B_X11_noMinute_25 {k : Nat → Nat × Nat} {u : Nat → Nat → Int} {g : Nat → Nat → Nat} {t : Nat × Nat × Nat} {r0 : Nat} {x1 : Int} {x2 : Int} {x3 : Int} {q0 : Nat} {y1 : Int} : a_X 224 25 [a_r (r0), a_i (x1), a_i (x2), a_i (x3)] [a_i (y1), a_r (q0)] (k, u, g, t) = if (y1 : Int) ≠ 0 then if (k q0).1 = 11 then (a_m 157 [a_r (q0), a_i (0), a_i (3)] (k, u, g, t)).bind (a_back 224 34 3 [a_r (r0), a_i (x1), a_i (x2), a_i (x3)] []) else none else if (k q0).1 = 11 then (a_m 157 [a_r (q0), a_i (1), a_i (3)] (k, u, g, t)).bind (a_back 224 34 3 [a_r (r0), a_i (x1), a_i (x2), a_i (x3)] []) else none := by
  refine (X_if_ne (m := 224) (pc := 25) (off := 7) (tg := 32) (by decide +kernel) (by decide +kernel)).trans ?_
  refine ite_congr rfl (fun _ => ?_) (fun _ => ?_)
  · refine (X_iconst (m := 224) (pc := 32) (n := 0) (by decide +kernel) ).trans ?_
    refine (X_iconst (m := 224) (pc := 33) (n := 3) (by decide +kernel) ).trans ?_
    refine (X_call_vi (m := 224) (pc := 34) (q := 53) (y := 157) (n := 3) (as := [a_r (q0), a_i (0), a_i (3)]) (rest := []) (by decide +kernel) (by decide +kernel) (by decide +kernel) (by decide +kernel) rfl rfl (Nat.le_of_ble_eq_true rfl) (Nat.le_of_ble_eq_true rfl) rfl (by rw [show m_maxL 157 = 3 from by decide +kernel]; exact Nat.le_of_ble_eq_true rfl)).trans ?_
    exact ite_congr (by simp [a_rcv, show m_recv 157 = 11 from by decide +kernel]) (fun _ => rfl) (fun _ => rfl)
  · refine (X_iconst (m := 224) (pc := 28) (n := 1) (by decide +kernel) ).trans ?_
    refine (X_goto (m := 224) (pc := 29) (off := 4) (tg := 33) (by decide +kernel) (by decide +kernel)).trans ?_
    refine (X_iconst (m := 224) (pc := 33) (n := 3) (by decide +kernel) ).trans ?_
    refine (X_call_vi (m := 224) (pc := 34) (q := 53) (y := 157) (n := 3) (as := [a_r (q0), a_i (1), a_i (3)]) (rest := []) (by decide +kernel) (by decide +kernel) (by decide +kernel) (by decide +kernel) rfl rfl (Nat.le_of_ble_eq_true rfl) (Nat.le_of_ble_eq_true rfl) rfl (by rw [show m_maxL 157 = 3 from by decide +kernel]; exact Nat.le_of_ble_eq_true rfl)).trans ?_
    exact ite_congr (by simp [a_rcv, show m_recv 157 = 11 from by decide +kernel]) (fun _ => rfl) (fun _ => rfl)
theorem E_X11_stands {σ : AS} {r0 : Nat} {x1 : Int} {x2 : Int} {x3 : Int} : a_m 225 [a_r (r0), a_i (x1), a_i (x2), a_i (x3)] σ = a_X 225 0 [a_r (r0), a_i (x1), a_i (x2), a_i (x3)] [] σ := a_m_eq (by rw [a_entry, show m_maxL 225 = 4 from by decide +kernel]; rfl)
theorem B_X11_stands_0 {k : Nat → Nat × Nat} {u : Nat → Nat → Int} {g : Nat → Nat → Nat} {t : Nat × Nat × Nat} {r0 : Nat} {x1 : Int} {x2 : Int} {x3 : Int} : a_X 225 0 [a_r (r0), a_i (x1), a_i (x2), a_i (x3)] [] (k, u, g, t) = if (k r0).1 = 11 then (a_m 224 [a_r (r0), a_i (x1), a_i (x2), a_i (x3)] (k, u, g, t)).bind (a_back 225 4 3 [a_r (r0), a_i (x1), a_i (x2), a_i (x3)] []) else none := by
  refine (X_aload_n (m := 225) (pc := 0) (n := 0) (by decide +kernel) rfl).trans ?_
  refine (X_iload_n (m := 225) (pc := 1) (n := 1) (by decide +kernel) rfl).trans ?_
  refine (X_iload_n (m := 225) (pc := 2) (n := 2) (by decide +kernel) rfl).trans ?_
  refine (X_iload_n (m := 225) (pc := 3) (n := 3) (by decide +kernel) rfl).trans ?_
  refine (X_call_vi (m := 225) (pc := 4) (q := 316) (y := 224) (n := 4) (as := [a_r (r0), a_i (x1), a_i (x2), a_i (x3)]) (rest := []) (by decide +kernel) (by decide +kernel) (by decide +kernel) (by decide +kernel) rfl rfl (Nat.le_of_ble_eq_true rfl) (Nat.le_of_ble_eq_true rfl) rfl (by rw [show m_maxL 224 = 4 from by decide +kernel]; exact Nat.le_of_ble_eq_true rfl)).trans ?_
  exact ite_congr (by simp [a_rcv, show m_recv 224 = 11 from by decide +kernel]) (fun _ => rfl) (fun _ => rfl)
theorem B_X11_stands_7 {k : Nat → Nat × Nat} {u : Nat → Nat → Int} {g : Nat → Nat → Nat} {t : Nat × Nat × Nat} {r0 : Nat} {x1 : Int} {x2 : Int} {x3 : Int} {y0 : Int} : a_X 225 7 [a_r (r0), a_i (x1), a_i (x2), a_i (x3)] [a_i (y0)] (k, u, g, t) = if (y0 : Int) = 0 then if (k r0).1 = 11 then (a_m 222 [a_r (r0), a_i (x1), a_i (x2), a_i (x3)] (k, u, g, t)).bind (a_back 225 18 3 [a_r (r0), a_i (x1), a_i (x2), a_i (x3)] []) else none else some (.inl (some (a_i (0))), (k, u, g, t)) := by
  refine (X_if_eq (m := 225) (pc := 7) (off := 7) (tg := 14) (by decide +kernel) (by decide +kernel)).trans ?_
  refine ite_congr rfl (fun _ => ?_) (fun _ => ?_)
  · refine (X_aload_n (m := 225) (pc := 14) (n := 0) (by decide +kernel) rfl).trans ?_
    refine (X_iload_n (m := 225) (pc := 15) (n := 1) (by decide +kernel) rfl).trans ?_
    refine (X_iload_n (m := 225) (pc := 16) (n := 2) (by decide +kernel) rfl).trans ?_
    refine (X_iload_n (m := 225) (pc := 17) (n := 3) (by decide +kernel) rfl).trans ?_
    refine (X_call_vi (m := 225) (pc := 18) (q := 308) (y := 222) (n := 4) (as := [a_r (r0), a_i (x1), a_i (x2), a_i (x3)]) (rest := []) (by decide +kernel) (by decide +kernel) (by decide +kernel) (by decide +kernel) rfl rfl (Nat.le_of_ble_eq_true rfl) (Nat.le_of_ble_eq_true rfl) rfl (by rw [show m_maxL 222 = 5 from by decide +kernel]; exact Nat.le_of_ble_eq_true rfl)).trans ?_
    exact ite_congr (by simp [a_rcv, show m_recv 222 = 11 from by decide +kernel]) (fun _ => rfl) (fun _ => rfl)
  · refine (X_iconst (m := 225) (pc := 10) (n := 0) (by decide +kernel) ).trans ?_
    refine (X_goto (m := 225) (pc := 11) (off := 10) (tg := 21) (by decide +kernel) (by decide +kernel)).trans ?_
    exact X_ireturn (m := 225) (pc := 21) (f := 1) (by decide +kernel) (by decide +kernel) rfl
theorem B_X11_stands_21 {k : Nat → Nat × Nat} {u : Nat → Nat → Int} {g : Nat → Nat → Nat} {t : Nat × Nat × Nat} {r0 : Nat} {x1 : Int} {x2 : Int} {x3 : Int} {y0 : Int} : a_X 225 21 [a_r (r0), a_i (x1), a_i (x2), a_i (x3)] [a_i (y0)] (k, u, g, t) = some (.inl (some (a_i (y0))), (k, u, g, t)) := by
  exact X_ireturn (m := 225) (pc := 21) (f := 1) (by decide +kernel) (by decide +kernel) rfl
theorem E_X11_nextAt {σ : AS} {r0 : Nat} {x1 : Int} {x2 : Int} {x3 : Int} : a_m 226 [a_r (r0), a_i (x1), a_i (x2), a_i (x3)] σ = a_X 226 0 [a_r (r0), a_i (x1), a_i (x2), a_i (x3), a_x false] [] σ := a_m_eq (by rw [a_entry, show m_maxL 226 = 5 from by decide +kernel]; rfl)
theorem B_X11_nextAt_0 {k : Nat → Nat × Nat} {u : Nat → Nat → Int} {g : Nat → Nat → Nat} {t : Nat × Nat × Nat} {r0 : Nat} {x1 : Int} {x2 : Int} {x3 : Int} {v4 : AV} : a_X 226 0 [a_r (r0), a_i (x1), a_i (x2), a_i (x3), v4] [] (k, u, g, t) = if (k r0).1 = 11 then (a_m 224 [a_r (r0), a_i (x1), a_i (x2), a_i (x3)] (k, u, g, t)).bind (a_back 226 4 3 [a_r (r0), a_i (x1), a_i (x2), a_i (x3), v4] []) else none := by
  refine (X_aload_n (m := 226) (pc := 0) (n := 0) (by decide +kernel) rfl).trans ?_
  refine (X_iload_n (m := 226) (pc := 1) (n := 1) (by decide +kernel) rfl).trans ?_
  refine (X_iload_n (m := 226) (pc := 2) (n := 2) (by decide +kernel) rfl).trans ?_
  refine (X_iload_n (m := 226) (pc := 3) (n := 3) (by decide +kernel) rfl).trans ?_
  refine (X_call_vi (m := 226) (pc := 4) (q := 316) (y := 224) (n := 4) (as := [a_r (r0), a_i (x1), a_i (x2), a_i (x3)]) (rest := []) (by decide +kernel) (by decide +kernel) (by decide +kernel) (by decide +kernel) rfl rfl (Nat.le_of_ble_eq_true rfl) (Nat.le_of_ble_eq_true rfl) rfl (by rw [show m_maxL 224 = 4 from by decide +kernel]; exact Nat.le_of_ble_eq_true rfl)).trans ?_
  exact ite_congr (by simp [a_rcv, show m_recv 224 = 11 from by decide +kernel]) (fun _ => rfl) (fun _ => rfl)
theorem B_X11_nextAt_7 {k : Nat → Nat × Nat} {u : Nat → Nat → Int} {g : Nat → Nat → Nat} {t : Nat × Nat × Nat} {r0 : Nat} {x1 : Int} {x2 : Int} {x3 : Int} {v4 : AV} {y0 : Int} : a_X 226 7 [a_r (r0), a_i (x1), a_i (x2), a_i (x3), v4] [a_i (y0)] (k, u, g, t) = if (y0 : Int) = 0 then a_X 226 15 [a_r (r0), a_i (x1), a_i (x2), a_i (x3), a_i (x3)] [] (k, u, g, t) else some (.inl (some (a_i (0))), (k, u, g, t)) := by
  refine (X_if_eq (m := 226) (pc := 7) (off := 5) (tg := 12) (by decide +kernel) (by decide +kernel)).trans ?_
  refine ite_congr rfl (fun _ => ?_) (fun _ => ?_)
  · refine (X_iload_n (m := 226) (pc := 12) (n := 3) (by decide +kernel) rfl).trans ?_
    refine (X_istore (m := 226) (pc := 13) (n := 4) (by decide +kernel) rfl (Nat.le_of_ble_eq_true rfl) rfl).trans ?_
    rfl
  · refine (X_iconst (m := 226) (pc := 10) (n := 0) (by decide +kernel) ).trans ?_
    exact X_ireturn (m := 226) (pc := 11) (f := 1) (by decide +kernel) (by decide +kernel) rfl
theorem B_X11_nextAt_15 {k : Nat → Nat × Nat} {u : Nat → Nat → Int} {g : Nat → Nat → Nat} {t : Nat × Nat × Nat} {r0 : Nat} {x1 : Int} {x2 : Int} {x3 : Int} {x4 : Int} : a_X 226 15 [a_r (r0), a_i (x1), a_i (x2), a_i (x3), a_i (x4)] [] (k, u, g, t) = if (x4 : Int) ≥ (1440 : Int) then if (x4 : Int) ≥ (1440 : Int) then some (.inl (some (a_i (-1))), (k, u, g, t)) else some (.inl (some (a_i (x4))), (k, u, g, t)) else if (k r0).1 = 11 then (a_m 222 [a_r (r0), a_i (x1), a_i (x2), a_i (x4)] (k, u, g, t)).bind (a_back 226 28 3 [a_r (r0), a_i (x1), a_i (x2), a_i (x3), a_i (x4)] []) else none := by
  refine (X_iload (m := 226) (pc := 15) (n := 4) (by decide +kernel) rfl).trans ?_
  refine (X_sipush (m := 226) (pc := 17) (n := 1440) (by decide +kernel) ).trans ?_
  refine (X_ic_ge (m := 226) (pc := 20) (off := 21) (tg := 41) (by decide +kernel) (by decide +kernel)).trans ?_
  refine ite_congr rfl (fun _ => ?_) (fun _ => ?_)
  · refine (X_iload (m := 226) (pc := 41) (n := 4) (by decide +kernel) rfl).trans ?_
    refine (X_sipush (m := 226) (pc := 43) (n := 1440) (by decide +kernel) ).trans ?_
    refine (X_ic_ge (m := 226) (pc := 46) (off := 8) (tg := 54) (by decide +kernel) (by decide +kernel)).trans ?_
    refine ite_congr rfl (fun _ => ?_) (fun _ => ?_)
    · refine (X_iconst (m := 226) (pc := 54) (n := -1) (by decide +kernel) ).trans ?_
      exact X_ireturn (m := 226) (pc := 55) (f := 1) (by decide +kernel) (by decide +kernel) rfl
    · refine (X_iload (m := 226) (pc := 49) (n := 4) (by decide +kernel) rfl).trans ?_
      refine (X_goto (m := 226) (pc := 51) (off := 4) (tg := 55) (by decide +kernel) (by decide +kernel)).trans ?_
      exact X_ireturn (m := 226) (pc := 55) (f := 1) (by decide +kernel) (by decide +kernel) rfl
  · refine (X_aload_n (m := 226) (pc := 23) (n := 0) (by decide +kernel) rfl).trans ?_
    refine (X_iload_n (m := 226) (pc := 24) (n := 1) (by decide +kernel) rfl).trans ?_
    refine (X_iload_n (m := 226) (pc := 25) (n := 2) (by decide +kernel) rfl).trans ?_
    refine (X_iload (m := 226) (pc := 26) (n := 4) (by decide +kernel) rfl).trans ?_
    refine (X_call_vi (m := 226) (pc := 28) (q := 308) (y := 222) (n := 4) (as := [a_r (r0), a_i (x1), a_i (x2), a_i (x4)]) (rest := []) (by decide +kernel) (by decide +kernel) (by decide +kernel) (by decide +kernel) rfl rfl (Nat.le_of_ble_eq_true rfl) (Nat.le_of_ble_eq_true rfl) rfl (by rw [show m_maxL 222 = 5 from by decide +kernel]; exact Nat.le_of_ble_eq_true rfl)).trans ?_
    exact ite_congr (by simp [a_rcv, show m_recv 222 = 11 from by decide +kernel]) (fun _ => rfl) (fun _ => rfl)
theorem B_X11_nextAt_31 {k : Nat → Nat × Nat} {u : Nat → Nat → Int} {g : Nat → Nat → Nat} {t : Nat × Nat × Nat} {r0 : Nat} {x1 : Int} {x2 : Int} {x3 : Int} {x4 : Int} {y0 : Int} : a_X 226 31 [a_r (r0), a_i (x1), a_i (x2), a_i (x3), a_i (x4)] [a_i (y0)] (k, u, g, t) = if (y0 : Int) ≠ (-1 : Int) then if (x4 : Int) ≥ (1440 : Int) then some (.inl (some (a_i (-1))), (k, u, g, t)) else some (.inl (some (a_i (x4))), (k, u, g, t)) else a_X 226 15 [a_r (r0), a_i (x1), a_i (x2), a_i (x3), a_i (wr (x4 + 1))] [] (k, u, g, t) := by
  refine (X_iconst (m := 226) (pc := 31) (n := -1) (by decide +kernel) ).trans ?_
  refine (X_ic_ne (m := 226) (pc := 32) (off := 9) (tg := 41) (by decide +kernel) (by decide +kernel)).trans ?_
  refine ite_congr rfl (fun _ => ?_) (fun _ => ?_)
  · refine (X_iload (m := 226) (pc := 41) (n := 4) (by decide +kernel) rfl).trans ?_
    refine (X_sipush (m := 226) (pc := 43) (n := 1440) (by decide +kernel) ).trans ?_
    refine (X_ic_ge (m := 226) (pc := 46) (off := 8) (tg := 54) (by decide +kernel) (by decide +kernel)).trans ?_
    refine ite_congr rfl (fun _ => ?_) (fun _ => ?_)
    · refine (X_iconst (m := 226) (pc := 54) (n := -1) (by decide +kernel) ).trans ?_
      exact X_ireturn (m := 226) (pc := 55) (f := 1) (by decide +kernel) (by decide +kernel) rfl
    · refine (X_iload (m := 226) (pc := 49) (n := 4) (by decide +kernel) rfl).trans ?_
      refine (X_goto (m := 226) (pc := 51) (off := 4) (tg := 55) (by decide +kernel) (by decide +kernel)).trans ?_
      exact X_ireturn (m := 226) (pc := 55) (f := 1) (by decide +kernel) (by decide +kernel) rfl
  · refine (X_iinc (m := 226) (pc := 35) (n := 4) (c := 1) (by decide +kernel) rfl rfl (Nat.le_of_ble_eq_true rfl) rfl).trans ?_
    refine (X_goto (m := 226) (pc := 38) (off := -23) (tg := 15) (by decide +kernel) (by decide +kernel)).trans ?_
    rfl
theorem E_X11_isClash {σ : AS} {r0 : Nat} {x1 : Int} {x2 : Int} {x3 : Int} : a_m 227 [a_r (r0), a_i (x1), a_i (x2), a_i (x3)] σ = a_X 227 0 [a_r (r0), a_i (x1), a_i (x2), a_i (x3)] [] σ := a_m_eq (by rw [a_entry, show m_maxL 227 = 4 from by decide +kernel]; rfl)
theorem B_X11_isClash_0 {k : Nat → Nat × Nat} {u : Nat → Nat → Int} {g : Nat → Nat → Nat} {t : Nat × Nat × Nat} {r0 : Nat} {x1 : Int} {x2 : Int} {x3 : Int} : a_X 227 0 [a_r (r0), a_i (x1), a_i (x2), a_i (x3)] [] (k, u, g, t) = if (k r0).1 = 11 then (a_m 173 [a_r (r0), a_i (x1), a_i (x2)] (k, u, g, t)).bind (a_back 227 3 3 [a_r (r0), a_i (x1), a_i (x2), a_i (x3)] []) else none := by
  refine (X_aload_n (m := 227) (pc := 0) (n := 0) (by decide +kernel) rfl).trans ?_
  refine (X_iload_n (m := 227) (pc := 1) (n := 1) (by decide +kernel) rfl).trans ?_
  refine (X_iload_n (m := 227) (pc := 2) (n := 2) (by decide +kernel) rfl).trans ?_
  refine (X_call_vi (m := 227) (pc := 3) (q := 265) (y := 173) (n := 3) (as := [a_r (r0), a_i (x1), a_i (x2)]) (rest := []) (by decide +kernel) (by decide +kernel) (by decide +kernel) (by decide +kernel) rfl rfl (Nat.le_of_ble_eq_true rfl) (Nat.le_of_ble_eq_true rfl) rfl (by rw [show m_maxL 173 = 3 from by decide +kernel]; exact Nat.le_of_ble_eq_true rfl)).trans ?_
  exact ite_congr (by simp [a_rcv, show m_recv 173 = 11 from by decide +kernel]) (fun _ => rfl) (fun _ => rfl)
theorem B_X11_isClash_6 {k : Nat → Nat × Nat} {u : Nat → Nat → Int} {g : Nat → Nat → Nat} {t : Nat × Nat × Nat} {r0 : Nat} {x1 : Int} {x2 : Int} {x3 : Int} {y0 : Int} : a_X 227 6 [a_r (r0), a_i (x1), a_i (x2), a_i (x3)] [a_i (y0)] (k, u, g, t) = if (y0 : Int) ≠ 0 then some (.inl (some (a_i (0))), (k, u, g, t)) else if (k r0).1 = 11 then (a_m 173 [a_r (r0), a_i (x1), a_i (x3)] (k, u, g, t)).bind (a_back 227 12 3 [a_r (r0), a_i (x1), a_i (x2), a_i (x3)] []) else none := by
  refine (X_if_ne (m := 227) (pc := 6) (off := 46) (tg := 52) (by decide +kernel) (by decide +kernel)).trans ?_
  refine ite_congr rfl (fun _ => ?_) (fun _ => ?_)
  · refine (X_iconst (m := 227) (pc := 52) (n := 0) (by decide +kernel) ).trans ?_
    exact X_ireturn (m := 227) (pc := 53) (f := 2) (by decide +kernel) (by decide +kernel) rfl
  · refine (X_aload_n (m := 227) (pc := 9) (n := 0) (by decide +kernel) rfl).trans ?_
    refine (X_iload_n (m := 227) (pc := 10) (n := 1) (by decide +kernel) rfl).trans ?_
    refine (X_iload_n (m := 227) (pc := 11) (n := 3) (by decide +kernel) rfl).trans ?_
    refine (X_call_vi (m := 227) (pc := 12) (q := 265) (y := 173) (n := 3) (as := [a_r (r0), a_i (x1), a_i (x3)]) (rest := []) (by decide +kernel) (by decide +kernel) (by decide +kernel) (by decide +kernel) rfl rfl (Nat.le_of_ble_eq_true rfl) (Nat.le_of_ble_eq_true rfl) rfl (by rw [show m_maxL 173 = 3 from by decide +kernel]; exact Nat.le_of_ble_eq_true rfl)).trans ?_
    exact ite_congr (by simp [a_rcv, show m_recv 173 = 11 from by decide +kernel]) (fun _ => rfl) (fun _ => rfl)
theorem B_X11_isClash_15 {k : Nat → Nat × Nat} {u : Nat → Nat → Int} {g : Nat → Nat → Nat} {t : Nat × Nat × Nat} {r0 : Nat} {x1 : Int} {x2 : Int} {x3 : Int} {y0 : Int} : a_X 227 15 [a_r (r0), a_i (x1), a_i (x2), a_i (x3)] [a_i (y0)] (k, u, g, t) = if (y0 : Int) ≠ 0 then some (.inl (some (a_i (0))), (k, u, g, t)) else if (k r0).1 = 11 then (a_m 165 [a_r (r0), a_i (x1), a_i (x2), a_i (1)] (k, u, g, t)).bind (a_back 227 22 3 [a_r (r0), a_i (x1), a_i (x2), a_i (x3)] []) else none := by
  refine (X_if_ne (m := 227) (pc := 15) (off := 37) (tg := 52) (by decide +kernel) (by decide +kernel)).trans ?_
  refine ite_congr rfl (fun _ => ?_) (fun _ => ?_)
  · refine (X_iconst (m := 227) (pc := 52) (n := 0) (by decide +kernel) ).trans ?_
    exact X_ireturn (m := 227) (pc := 53) (f := 2) (by decide +kernel) (by decide +kernel) rfl
  · refine (X_aload_n (m := 227) (pc := 18) (n := 0) (by decide +kernel) rfl).trans ?_
    refine (X_iload_n (m := 227) (pc := 19) (n := 1) (by decide +kernel) rfl).trans ?_
    refine (X_iload_n (m := 227) (pc := 20) (n := 2) (by decide +kernel) rfl).trans ?_
    refine (X_iconst (m := 227) (pc := 21) (n := 1) (by decide +kernel) ).trans ?_
    refine (X_call_vi (m := 227) (pc := 22) (q := 82) (y := 165) (n := 4) (as := [a_r (r0), a_i (x1), a_i (x2), a_i (1)]) (rest := []) (by decide +kernel) (by decide +kernel) (by decide +kernel) (by decide +kernel) rfl rfl (Nat.le_of_ble_eq_true rfl) (Nat.le_of_ble_eq_true rfl) rfl (by rw [show m_maxL 165 = 4 from by decide +kernel]; exact Nat.le_of_ble_eq_true rfl)).trans ?_
    exact ite_congr (by simp [a_rcv, show m_recv 165 = 11 from by decide +kernel]) (fun _ => rfl) (fun _ => rfl)
theorem B_X11_isClash_25 {k : Nat → Nat × Nat} {u : Nat → Nat → Int} {g : Nat → Nat → Nat} {t : Nat × Nat × Nat} {r0 : Nat} {x1 : Int} {x2 : Int} {x3 : Int} {y0 : Int} : a_X 227 25 [a_r (r0), a_i (x1), a_i (x2), a_i (x3)] [a_i (y0)] (k, u, g, t) = if (k r0).1 = 11 then (a_m 165 [a_r (r0), a_i (x1), a_i (x3), a_i (1)] (k, u, g, t)).bind (a_back 227 29 3 [a_r (r0), a_i (x1), a_i (x2), a_i (x3)] [a_i (y0)]) else none := by
  refine (X_aload_n (m := 227) (pc := 25) (n := 0) (by decide +kernel) rfl).trans ?_
  refine (X_iload_n (m := 227) (pc := 26) (n := 1) (by decide +kernel) rfl).trans ?_
  refine (X_iload_n (m := 227) (pc := 27) (n := 3) (by decide +kernel) rfl).trans ?_
  refine (X_iconst (m := 227) (pc := 28) (n := 1) (by decide +kernel) ).trans ?_
  refine (X_call_vi (m := 227) (pc := 29) (q := 82) (y := 165) (n := 4) (as := [a_r (r0), a_i (x1), a_i (x3), a_i (1)]) (rest := [a_i (y0)]) (by decide +kernel) (by decide +kernel) (by decide +kernel) (by decide +kernel) rfl rfl (Nat.le_of_ble_eq_true rfl) (Nat.le_of_ble_eq_true rfl) rfl (by rw [show m_maxL 165 = 4 from by decide +kernel]; exact Nat.le_of_ble_eq_true rfl)).trans ?_
  exact ite_congr (by simp [a_rcv, show m_recv 165 = 11 from by decide +kernel]) (fun _ => rfl) (fun _ => rfl)
theorem B_X11_isClash_32 {k : Nat → Nat × Nat} {u : Nat → Nat → Int} {g : Nat → Nat → Nat} {t : Nat × Nat × Nat} {r0 : Nat} {x1 : Int} {x2 : Int} {x3 : Int} {y0 : Int} {y1 : Int} : a_X 227 32 [a_r (r0), a_i (x1), a_i (x2), a_i (x3)] [a_i (y1), a_i (y0)] (k, u, g, t) = if (y0 : Int) ≠ (y1 : Int) then some (.inl (some (a_i (0))), (k, u, g, t)) else if (k r0).1 = 11 then (a_m 165 [a_r (r0), a_i (x1), a_i (x2), a_i (0)] (k, u, g, t)).bind (a_back 227 39 3 [a_r (r0), a_i (x1), a_i (x2), a_i (x3)] []) else none := by
  refine (X_ic_ne (m := 227) (pc := 32) (off := 20) (tg := 52) (by decide +kernel) (by decide +kernel)).trans ?_
  refine ite_congr rfl (fun _ => ?_) (fun _ => ?_)
  · refine (X_iconst (m := 227) (pc := 52) (n := 0) (by decide +kernel) ).trans ?_
    exact X_ireturn (m := 227) (pc := 53) (f := 2) (by decide +kernel) (by decide +kernel) rfl
  · refine (X_aload_n (m := 227) (pc := 35) (n := 0) (by decide +kernel) rfl).trans ?_
    refine (X_iload_n (m := 227) (pc := 36) (n := 1) (by decide +kernel) rfl).trans ?_
    refine (X_iload_n (m := 227) (pc := 37) (n := 2) (by decide +kernel) rfl).trans ?_
    refine (X_iconst (m := 227) (pc := 38) (n := 0) (by decide +kernel) ).trans ?_
    refine (X_call_vi (m := 227) (pc := 39) (q := 82) (y := 165) (n := 4) (as := [a_r (r0), a_i (x1), a_i (x2), a_i (0)]) (rest := []) (by decide +kernel) (by decide +kernel) (by decide +kernel) (by decide +kernel) rfl rfl (Nat.le_of_ble_eq_true rfl) (Nat.le_of_ble_eq_true rfl) rfl (by rw [show m_maxL 165 = 4 from by decide +kernel]; exact Nat.le_of_ble_eq_true rfl)).trans ?_
    exact ite_congr (by simp [a_rcv, show m_recv 165 = 11 from by decide +kernel]) (fun _ => rfl) (fun _ => rfl)
theorem B_X11_isClash_42 {k : Nat → Nat × Nat} {u : Nat → Nat → Int} {g : Nat → Nat → Nat} {t : Nat × Nat × Nat} {r0 : Nat} {x1 : Int} {x2 : Int} {x3 : Int} {y0 : Int} : a_X 227 42 [a_r (r0), a_i (x1), a_i (x2), a_i (x3)] [a_i (y0)] (k, u, g, t) = if (k r0).1 = 11 then (a_m 165 [a_r (r0), a_i (x1), a_i (x3), a_i (0)] (k, u, g, t)).bind (a_back 227 46 3 [a_r (r0), a_i (x1), a_i (x2), a_i (x3)] [a_i (y0)]) else none := by
  refine (X_aload_n (m := 227) (pc := 42) (n := 0) (by decide +kernel) rfl).trans ?_
  refine (X_iload_n (m := 227) (pc := 43) (n := 1) (by decide +kernel) rfl).trans ?_
  refine (X_iload_n (m := 227) (pc := 44) (n := 3) (by decide +kernel) rfl).trans ?_
  refine (X_iconst (m := 227) (pc := 45) (n := 0) (by decide +kernel) ).trans ?_
  refine (X_call_vi (m := 227) (pc := 46) (q := 82) (y := 165) (n := 4) (as := [a_r (r0), a_i (x1), a_i (x3), a_i (0)]) (rest := [a_i (y0)]) (by decide +kernel) (by decide +kernel) (by decide +kernel) (by decide +kernel) rfl rfl (Nat.le_of_ble_eq_true rfl) (Nat.le_of_ble_eq_true rfl) rfl (by rw [show m_maxL 165 = 4 from by decide +kernel]; exact Nat.le_of_ble_eq_true rfl)).trans ?_
  exact ite_congr (by simp [a_rcv, show m_recv 165 = 11 from by decide +kernel]) (fun _ => rfl) (fun _ => rfl)
theorem B_X11_isClash_49 {k : Nat → Nat × Nat} {u : Nat → Nat → Int} {g : Nat → Nat → Nat} {t : Nat × Nat × Nat} {r0 : Nat} {x1 : Int} {x2 : Int} {x3 : Int} {y0 : Int} {y1 : Int} : a_X 227 49 [a_r (r0), a_i (x1), a_i (x2), a_i (x3)] [a_i (y1), a_i (y0)] (k, u, g, t) = if (y0 : Int) ≠ (y1 : Int) then if (k r0).1 = 11 then (a_m 165 [a_r (r0), a_i (x1), a_i (x2), a_i (2)] (k, u, g, t)).bind (a_back 227 58 3 [a_r (r0), a_i (x1), a_i (x2), a_i (x3)] []) else none else some (.inl (some (a_i (0))), (k, u, g, t)) := by
  refine (X_ic_ne (m := 227) (pc := 49) (off := 5) (tg := 54) (by decide +kernel) (by decide +kernel)).trans ?_
  refine ite_congr rfl (fun _ => ?_) (fun _ => ?_)
  · refine (X_aload_n (m := 227) (pc := 54) (n := 0) (by decide +kernel) rfl).trans ?_
    refine (X_iload_n (m := 227) (pc := 55) (n := 1) (by decide +kernel) rfl).trans ?_
    refine (X_iload_n (m := 227) (pc := 56) (n := 2) (by decide +kernel) rfl).trans ?_
    refine (X_iconst (m := 227) (pc := 57) (n := 2) (by decide +kernel) ).trans ?_
    refine (X_call_vi (m := 227) (pc := 58) (q := 82) (y := 165) (n := 4) (as := [a_r (r0), a_i (x1), a_i (x2), a_i (2)]) (rest := []) (by decide +kernel) (by decide +kernel) (by decide +kernel) (by decide +kernel) rfl rfl (Nat.le_of_ble_eq_true rfl) (Nat.le_of_ble_eq_true rfl) rfl (by rw [show m_maxL 165 = 4 from by decide +kernel]; exact Nat.le_of_ble_eq_true rfl)).trans ?_
    exact ite_congr (by simp [a_rcv, show m_recv 165 = 11 from by decide +kernel]) (fun _ => rfl) (fun _ => rfl)
  · refine (X_iconst (m := 227) (pc := 52) (n := 0) (by decide +kernel) ).trans ?_
    exact X_ireturn (m := 227) (pc := 53) (f := 2) (by decide +kernel) (by decide +kernel) rfl
theorem B_X11_isClash_61 {k : Nat → Nat × Nat} {u : Nat → Nat → Int} {g : Nat → Nat → Nat} {t : Nat × Nat × Nat} {r0 : Nat} {x1 : Int} {x2 : Int} {x3 : Int} {y0 : Int} : a_X 227 61 [a_r (r0), a_i (x1), a_i (x2), a_i (x3)] [a_i (y0)] (k, u, g, t) = if (k r0).1 = 11 then (a_m 165 [a_r (r0), a_i (x1), a_i (x3), a_i (3)] (k, u, g, t)).bind (a_back 227 65 3 [a_r (r0), a_i (x1), a_i (x2), a_i (x3)] [a_i (y0)]) else none := by
  refine (X_aload_n (m := 227) (pc := 61) (n := 0) (by decide +kernel) rfl).trans ?_
  refine (X_iload_n (m := 227) (pc := 62) (n := 1) (by decide +kernel) rfl).trans ?_
  refine (X_iload_n (m := 227) (pc := 63) (n := 3) (by decide +kernel) rfl).trans ?_
  refine (X_iconst (m := 227) (pc := 64) (n := 3) (by decide +kernel) ).trans ?_
  refine (X_call_vi (m := 227) (pc := 65) (q := 82) (y := 165) (n := 4) (as := [a_r (r0), a_i (x1), a_i (x3), a_i (3)]) (rest := [a_i (y0)]) (by decide +kernel) (by decide +kernel) (by decide +kernel) (by decide +kernel) rfl rfl (Nat.le_of_ble_eq_true rfl) (Nat.le_of_ble_eq_true rfl) rfl (by rw [show m_maxL 165 = 4 from by decide +kernel]; exact Nat.le_of_ble_eq_true rfl)).trans ?_
  exact ite_congr (by simp [a_rcv, show m_recv 165 = 11 from by decide +kernel]) (fun _ => rfl) (fun _ => rfl)
theorem B_X11_isClash_68 {k : Nat → Nat × Nat} {u : Nat → Nat → Int} {g : Nat → Nat → Nat} {t : Nat × Nat × Nat} {r0 : Nat} {x1 : Int} {x2 : Int} {x3 : Int} {y0 : Int} {y1 : Int} : a_X 227 68 [a_r (r0), a_i (x1), a_i (x2), a_i (x3)] [a_i (y1), a_i (y0)] (k, u, g, t) = if (y0 : Int) ≥ (y1 : Int) then some (.inl (some (a_i (0))), (k, u, g, t)) else if (k r0).1 = 11 then (a_m 165 [a_r (r0), a_i (x1), a_i (x3), a_i (2)] (k, u, g, t)).bind (a_back 227 75 3 [a_r (r0), a_i (x1), a_i (x2), a_i (x3)] []) else none := by
  refine (X_ic_ge (m := 227) (pc := 68) (off := 24) (tg := 92) (by decide +kernel) (by decide +kernel)).trans ?_
  refine ite_congr rfl (fun _ => ?_) (fun _ => ?_)
  · refine (X_iconst (m := 227) (pc := 92) (n := 0) (by decide +kernel) ).trans ?_
    exact X_ireturn (m := 227) (pc := 93) (f := 2) (by decide +kernel) (by decide +kernel) rfl
  · refine (X_aload_n (m := 227) (pc := 71) (n := 0) (by decide +kernel) rfl).trans ?_
    refine (X_iload_n (m := 227) (pc := 72) (n := 1) (by decide +kernel) rfl).trans ?_
    refine (X_iload_n (m := 227) (pc := 73) (n := 3) (by decide +kernel) rfl).trans ?_
    refine (X_iconst (m := 227) (pc := 74) (n := 2) (by decide +kernel) ).trans ?_
    refine (X_call_vi (m := 227) (pc := 75) (q := 82) (y := 165) (n := 4) (as := [a_r (r0), a_i (x1), a_i (x3), a_i (2)]) (rest := []) (by decide +kernel) (by decide +kernel) (by decide +kernel) (by decide +kernel) rfl rfl (Nat.le_of_ble_eq_true rfl) (Nat.le_of_ble_eq_true rfl) rfl (by rw [show m_maxL 165 = 4 from by decide +kernel]; exact Nat.le_of_ble_eq_true rfl)).trans ?_
    exact ite_congr (by simp [a_rcv, show m_recv 165 = 11 from by decide +kernel]) (fun _ => rfl) (fun _ => rfl)
theorem B_X11_isClash_78 {k : Nat → Nat × Nat} {u : Nat → Nat → Int} {g : Nat → Nat → Nat} {t : Nat × Nat × Nat} {r0 : Nat} {x1 : Int} {x2 : Int} {x3 : Int} {y0 : Int} : a_X 227 78 [a_r (r0), a_i (x1), a_i (x2), a_i (x3)] [a_i (y0)] (k, u, g, t) = if (k r0).1 = 11 then (a_m 165 [a_r (r0), a_i (x1), a_i (x2), a_i (3)] (k, u, g, t)).bind (a_back 227 82 3 [a_r (r0), a_i (x1), a_i (x2), a_i (x3)] [a_i (y0)]) else none := by
  refine (X_aload_n (m := 227) (pc := 78) (n := 0) (by decide +kernel) rfl).trans ?_
  refine (X_iload_n (m := 227) (pc := 79) (n := 1) (by decide +kernel) rfl).trans ?_
  refine (X_iload_n (m := 227) (pc := 80) (n := 2) (by decide +kernel) rfl).trans ?_
  refine (X_iconst (m := 227) (pc := 81) (n := 3) (by decide +kernel) ).trans ?_
  refine (X_call_vi (m := 227) (pc := 82) (q := 82) (y := 165) (n := 4) (as := [a_r (r0), a_i (x1), a_i (x2), a_i (3)]) (rest := [a_i (y0)]) (by decide +kernel) (by decide +kernel) (by decide +kernel) (by decide +kernel) rfl rfl (Nat.le_of_ble_eq_true rfl) (Nat.le_of_ble_eq_true rfl) rfl (by rw [show m_maxL 165 = 4 from by decide +kernel]; exact Nat.le_of_ble_eq_true rfl)).trans ?_
  exact ite_congr (by simp [a_rcv, show m_recv 165 = 11 from by decide +kernel]) (fun _ => rfl) (fun _ => rfl)
theorem B_X11_isClash_85 {k : Nat → Nat × Nat} {u : Nat → Nat → Int} {g : Nat → Nat → Nat} {t : Nat × Nat × Nat} {r0 : Nat} {x1 : Int} {x2 : Int} {x3 : Int} {y0 : Int} {y1 : Int} : a_X 227 85 [a_r (r0), a_i (x1), a_i (x2), a_i (x3)] [a_i (y1), a_i (y0)] (k, u, g, t) = if (y0 : Int) ≥ (y1 : Int) then some (.inl (some (a_i (0))), (k, u, g, t)) else some (.inl (some (a_i (1))), (k, u, g, t)) := by
  refine (X_ic_ge (m := 227) (pc := 85) (off := 7) (tg := 92) (by decide +kernel) (by decide +kernel)).trans ?_
  refine ite_congr rfl (fun _ => ?_) (fun _ => ?_)
  · refine (X_iconst (m := 227) (pc := 92) (n := 0) (by decide +kernel) ).trans ?_
    exact X_ireturn (m := 227) (pc := 93) (f := 2) (by decide +kernel) (by decide +kernel) rfl
  · refine (X_iconst (m := 227) (pc := 88) (n := 1) (by decide +kernel) ).trans ?_
    refine (X_goto (m := 227) (pc := 89) (off := 4) (tg := 93) (by decide +kernel) (by decide +kernel)).trans ?_
    exact X_ireturn (m := 227) (pc := 93) (f := 2) (by decide +kernel) (by decide +kernel) rfl
theorem E_X11_clashes {σ : AS} {r0 : Nat} {x1 : Int} : a_m 228 [a_r (r0), a_i (x1)] σ = a_X 228 0 [a_r (r0), a_i (x1), a_x false, a_x false, a_x false] [] σ := a_m_eq (by rw [a_entry, show m_maxL 228 = 5 from by decide +kernel]; rfl)
theorem B_X11_clashes_0 {k : Nat → Nat × Nat} {u : Nat → Nat → Int} {g : Nat → Nat → Nat} {t : Nat × Nat × Nat} {r0 : Nat} {x1 : Int} {v2 : AV} {v3 : AV} {v4 : AV} : a_X 228 0 [a_r (r0), a_i (x1), v2, v3, v4] [] (k, u, g, t) = if (k r0).1 = 11 then (a_m 160 [a_r (r0), a_i (x1)] (k, u, g, t)).bind (a_back 228 2 3 [a_r (r0), a_i (x1), v2, v3, v4] []) else none := by
  refine (X_aload_n (m := 228) (pc := 0) (n := 0) (by decide +kernel) rfl).trans ?_
  refine (X_iload_n (m := 228) (pc := 1) (n := 1) (by decide +kernel) rfl).trans ?_
  refine (X_call_vi (m := 228) (pc := 2) (q := 280) (y := 160) (n := 2) (as := [a_r (r0), a_i (x1)]) (rest := []) (by decide +kernel) (by decide +kernel) (by decide +kernel) (by decide +kernel) rfl rfl (Nat.le_of_ble_eq_true rfl) (Nat.le_of_ble_eq_true rfl) rfl (by rw [show m_maxL 160 = 2 from by decide +kernel]; exact Nat.le_of_ble_eq_true rfl)).trans ?_
  exact ite_congr (by simp [a_rcv, show m_recv 160 = 11 from by decide +kernel]) (fun _ => rfl) (fun _ => rfl)
theorem B_X11_clashes_5 {k : Nat → Nat × Nat} {u : Nat → Nat → Int} {g : Nat → Nat → Nat} {t : Nat × Nat × Nat} {r0 : Nat} {x1 : Int} {v2 : AV} {v3 : AV} {v4 : AV} {y0 : Int} : a_X 228 5 [a_r (r0), a_i (x1), v2, v3, v4] [a_i (y0)] (k, u, g, t) = if (y0 : Int) = 0 then a_X 228 14 [a_r (r0), a_i (x1), a_i (0), a_i (0), v4] [] (k, u, g, t) else some (.inl (some (a_i (0))), (k, u, g, t)) := by
  refine (X_if_eq (m := 228) (pc := 5) (off := 5) (tg := 10) (by decide +kernel) (by decide +kernel)).trans ?_
  refine ite_congr rfl (fun _ => ?_) (fun _ => ?_)
  · refine (X_iconst (m := 228) (pc := 10) (n := 0) (by decide +kernel) ).trans ?_
    refine (X_istore_n (m := 228) (pc := 11) (n := 2) (by decide +kernel) rfl (Nat.le_of_ble_eq_true rfl) rfl).trans ?_
    refine (X_iconst (m := 228) (pc := 12) (n := 0) (by decide +kernel) ).trans ?_
    refine (X_istore_n (m := 228) (pc := 13) (n := 3) (by decide +kernel) rfl (Nat.le_of_ble_eq_true rfl) rfl).trans ?_
    rfl
  · refine (X_iconst (m := 228) (pc := 8) (n := 0) (by decide +kernel) ).trans ?_
    exact X_ireturn (m := 228) (pc := 9) (f := 1) (by decide +kernel) (by decide +kernel) rfl
theorem B_X11_clashes_14 {k : Nat → Nat × Nat} {u : Nat → Nat → Int} {g : Nat → Nat → Nat} {t : Nat × Nat × Nat} {r0 : Nat} {x1 : Int} {x2 : Int} {x3 : Int} {v4 : AV} : a_X 228 14 [a_r (r0), a_i (x1), a_i (x2), a_i (x3), v4] [] (k, u, g, t) = if (x3 : Int) ≥ (12 : Int) then some (.inl (some (a_i (x2))), (k, u, g, t)) else a_X 228 25 [a_r (r0), a_i (x1), a_i (x2), a_i (x3), a_i (wr (x3 + 1))] [] (k, u, g, t) := by
  refine (X_iload_n (m := 228) (pc := 14) (n := 3) (by decide +kernel) rfl).trans ?_
  refine (X_bipush (m := 228) (pc := 15) (n := 12) (by decide +kernel) ).trans ?_
  refine (X_ic_ge (m := 228) (pc := 17) (off := 41) (tg := 58) (by decide +kernel) (by decide +kernel)).trans ?_
  refine ite_congr rfl (fun _ => ?_) (fun _ => ?_)
  · refine (X_iload_n (m := 228) (pc := 58) (n := 2) (by decide +kernel) rfl).trans ?_
    exact X_ireturn (m := 228) (pc := 59) (f := 1) (by decide +kernel) (by decide +kernel) rfl
  · refine (X_iload_n (m := 228) (pc := 20) (n := 3) (by decide +kernel) rfl).trans ?_
    refine (X_iconst (m := 228) (pc := 21) (n := 1) (by decide +kernel) ).trans ?_
    refine (X_iadd (m := 228) (pc := 22)  (by decide +kernel) ).trans ?_
    refine (X_istore (m := 228) (pc := 23) (n := 4) (by decide +kernel) rfl (Nat.le_of_ble_eq_true rfl) rfl).trans ?_
    rfl
theorem B_X11_clashes_25 {k : Nat → Nat × Nat} {u : Nat → Nat → Int} {g : Nat → Nat → Nat} {t : Nat × Nat × Nat} {r0 : Nat} {x1 : Int} {x2 : Int} {x3 : Int} {x4 : Int} : a_X 228 25 [a_r (r0), a_i (x1), a_i (x2), a_i (x3), a_i (x4)] [] (k, u, g, t) = if (x4 : Int) ≥ (12 : Int) then a_X 228 14 [a_r (r0), a_i (x1), a_i (x2), a_i (wr (x3 + 1)), a_i (x4)] [] (k, u, g, t) else if (k r0).1 = 11 then (a_m 227 [a_r (r0), a_i (x1), a_i (x3), a_i (x4)] (k, u, g, t)).bind (a_back 228 38 3 [a_r (r0), a_i (x1), a_i (x2), a_i (x3), a_i (x4)] [a_i (x2)]) else none := by
  refine (X_iload (m := 228) (pc := 25) (n := 4) (by decide +kernel) rfl).trans ?_
  refine (X_bipush (m := 228) (pc := 27) (n := 12) (by decide +kernel) ).trans ?_
  refine (X_ic_ge (m := 228) (pc := 29) (off := 23) (tg := 52) (by decide +kernel) (by decide +kernel)).trans ?_
  refine ite_congr rfl (fun _ => ?_) (fun _ => ?_)
  · refine (X_iinc (m := 228) (pc := 52) (n := 3) (c := 1) (by decide +kernel) rfl rfl (Nat.le_of_ble_eq_true rfl) rfl).trans ?_
    refine (X_goto (m := 228) (pc := 55) (off := -41) (tg := 14) (by decide +kernel) (by decide +kernel)).trans ?_
    rfl
  · refine (X_iload_n (m := 228) (pc := 32) (n := 2) (by decide +kernel) rfl).trans ?_
    refine (X_aload_n (m := 228) (pc := 33) (n := 0) (by decide +kernel) rfl).trans ?_
    refine (X_iload_n (m := 228) (pc := 34) (n := 1) (by decide +kernel) rfl).trans ?_
    refine (X_iload_n (m := 228) (pc := 35) (n := 3) (by decide +kernel) rfl).trans ?_
    refine (X_iload (m := 228) (pc := 36) (n := 4) (by decide +kernel) rfl).trans ?_
    refine (X_call_vi (m := 228) (pc := 38) (q := 319) (y := 227) (n := 4) (as := [a_r (r0), a_i (x1), a_i (x3), a_i (x4)]) (rest := [a_i (x2)]) (by decide +kernel) (by decide +kernel) (by decide +kernel) (by decide +kernel) rfl rfl (Nat.le_of_ble_eq_true rfl) (Nat.le_of_ble_eq_true rfl) rfl (by rw [show m_maxL 227 = 4 from by decide +kernel]; exact Nat.le_of_ble_eq_true rfl)).trans ?_
    exact ite_congr (by simp [a_rcv, show m_recv 227 = 11 from by decide +kernel]) (fun _ => rfl) (fun _ => rfl)
theorem B_X11_clashes_41 {k : Nat → Nat × Nat} {u : Nat → Nat → Int} {g : Nat → Nat → Nat} {t : Nat × Nat × Nat} {r0 : Nat} {x1 : Int} {x2 : Int} {x3 : Int} {x4 : Int} {y0 : Int} {y1 : Int} : a_X 228 41 [a_r (r0), a_i (x1), a_i (x2), a_i (x3), a_i (x4)] [a_i (y1), a_i (y0)] (k, u, g, t) = (a_m 156 [a_i (y1)] (k, u, g, t)).bind (a_back 228 41 3 [a_r (r0), a_i (x1), a_i (x2), a_i (x3), a_i (x4)] [a_i (y0)]) := by
  refine (X_call_st (m := 228) (pc := 41) (q := 204) (y := 156) (n := 1) (as := [a_i (y1)]) (rest := [a_i (y0)]) (by decide +kernel) (by decide +kernel) (by decide +kernel) (by decide +kernel) rfl rfl (Nat.le_of_ble_eq_true rfl) (Nat.le_of_ble_eq_true rfl) rfl (by rw [show m_maxL 156 = 1 from by decide +kernel]; exact Nat.le_of_ble_eq_true rfl)).trans ?_
  exact if_pos rfl
theorem B_X11_clashes_44 {k : Nat → Nat × Nat} {u : Nat → Nat → Int} {g : Nat → Nat → Nat} {t : Nat × Nat × Nat} {r0 : Nat} {x1 : Int} {x2 : Int} {x3 : Int} {x4 : Int} {y0 : Int} {y1 : Int} : a_X 228 44 [a_r (r0), a_i (x1), a_i (x2), a_i (x3), a_i (x4)] [a_i (y1), a_i (y0)] (k, u, g, t) = a_X 228 25 [a_r (r0), a_i (x1), a_i (wr (y0 + y1)), a_i (x3), a_i (wr (x4 + 1))] [] (k, u, g, t) := by
  refine (X_iadd (m := 228) (pc := 44)  (by decide +kernel) ).trans ?_
  refine (X_istore_n (m := 228) (pc := 45) (n := 2) (by decide +kernel) rfl (Nat.le_of_ble_eq_true rfl) rfl).trans ?_
  refine (X_iinc (m := 228) (pc := 46) (n := 4) (c := 1) (by decide +kernel) rfl rfl (Nat.le_of_ble_eq_true rfl) rfl).trans ?_
  refine (X_goto (m := 228) (pc := 49) (off := -24) (tg := 25) (by decide +kernel) (by decide +kernel)).trans ?_
  rfl
theorem E_X11_comesAhead {σ : AS} {r0 : Nat} {x1 : Int} {x2 : Int} {x3 : Int} : a_m 229 [a_r (r0), a_i (x1), a_i (x2), a_i (x3)] σ = a_X 229 0 [a_r (r0), a_i (x1), a_i (x2), a_i (x3)] [] σ := a_m_eq (by rw [a_entry, show m_maxL 229 = 4 from by decide +kernel]; rfl)
theorem B_X11_comesAhead_0 {k : Nat → Nat × Nat} {u : Nat → Nat → Int} {g : Nat → Nat → Nat} {t : Nat × Nat × Nat} {r0 : Nat} {x1 : Int} {x2 : Int} {x3 : Int} : a_X 229 0 [a_r (r0), a_i (x1), a_i (x2), a_i (x3)] [] (k, u, g, t) = if (k r0).1 = 11 then if ((k (g r0 19)).1 = 20 ∨ (k (g r0 19)).1 = 24) ∧ 0 ≤ (x3 : Int) ∧ (x3 : Int) < ((k (g r0 19)).2 : Int) then if (x2 : Int) < (u (g r0 19) (x3 : Int).toNat : Int) then some (.inl (some (a_i (1))), (k, u, g, t)) else if (k r0).1 = 11 then if ((k (g r0 19)).1 = 20 ∨ (k (g r0 19)).1 = 24) ∧ 0 ≤ (x3 : Int) ∧ (x3 : Int) < ((k (g r0 19)).2 : Int) then if (x2 : Int) ≠ (u (g r0 19) (x3 : Int).toNat : Int) then some (.inl (some (a_i (0))), (k, u, g, t)) else if (k r0).1 = 11 then if ((k (g r0 18)).1 = 20 ∨ (k (g r0 18)).1 = 24) ∧ 0 ≤ (x3 : Int) ∧ (x3 : Int) < ((k (g r0 18)).2 : Int) then if (x1 : Int) ≥ (u (g r0 18) (x3 : Int).toNat : Int) then some (.inl (some (a_i (0))), (k, u, g, t)) else some (.inl (some (a_i (1))), (k, u, g, t)) else none else none else none else none else none else none := by
  refine (X_iload_n (m := 229) (pc := 0) (n := 2) (by decide +kernel) rfl).trans ?_
  refine (X_aload_n (m := 229) (pc := 1) (n := 0) (by decide +kernel) rfl).trans ?_
  refine (X_getR (m := 229) (pc := 2) (n := 34) (c := 11) (q := 19) (fi := true) (by decide +kernel) (by decide +kernel)).trans ?_
  refine ite_congr rfl (fun _ => ?_) (fun _ => rfl)
  refine (X_iload_n (m := 229) (pc := 5) (n := 3) (by decide +kernel) rfl).trans ?_
  refine (X_iaload (m := 229) (pc := 6)  (by decide +kernel) ).trans ?_
  refine ite_congr rfl (fun _ => ?_) (fun _ => rfl)
  refine (X_ic_lt (m := 229) (pc := 7) (off := 23) (tg := 30) (by decide +kernel) (by decide +kernel)).trans ?_
  refine ite_congr rfl (fun _ => ?_) (fun _ => ?_)
  · refine (X_iconst (m := 229) (pc := 30) (n := 1) (by decide +kernel) ).trans ?_
    refine (X_goto (m := 229) (pc := 31) (off := 4) (tg := 35) (by decide +kernel) (by decide +kernel)).trans ?_
    exact X_ireturn (m := 229) (pc := 35) (f := 2) (by decide +kernel) (by decide +kernel) rfl
  · refine (X_iload_n (m := 229) (pc := 10) (n := 2) (by decide +kernel) rfl).trans ?_
    refine (X_aload_n (m := 229) (pc := 11) (n := 0) (by decide +kernel) rfl).trans ?_
    refine (X_getR (m := 229) (pc := 12) (n := 34) (c := 11) (q := 19) (fi := true) (by decide +kernel) (by decide +kernel)).trans ?_
    refine ite_congr rfl (fun _ => ?_) (fun _ => rfl)
    refine (X_iload_n (m := 229) (pc := 15) (n := 3) (by decide +kernel) rfl).trans ?_
    refine (X_iaload (m := 229) (pc := 16)  (by decide +kernel) ).trans ?_
    refine ite_congr rfl (fun _ => ?_) (fun _ => rfl)
    refine (X_ic_ne (m := 229) (pc := 17) (off := 17) (tg := 34) (by decide +kernel) (by decide +kernel)).trans ?_
    refine ite_congr rfl (fun _ => ?_) (fun _ => ?_)
    · refine (X_iconst (m := 229) (pc := 34) (n := 0) (by decide +kernel) ).trans ?_
      exact X_ireturn (m := 229) (pc := 35) (f := 2) (by decide +kernel) (by decide +kernel) rfl
    · refine (X_iload_n (m := 229) (pc := 20) (n := 1) (by decide +kernel) rfl).trans ?_
      refine (X_aload_n (m := 229) (pc := 21) (n := 0) (by decide +kernel) rfl).trans ?_
      refine (X_getR (m := 229) (pc := 22) (n := 31) (c := 11) (q := 18) (fi := true) (by decide +kernel) (by decide +kernel)).trans ?_
      refine ite_congr rfl (fun _ => ?_) (fun _ => rfl)
      refine (X_iload_n (m := 229) (pc := 25) (n := 3) (by decide +kernel) rfl).trans ?_
      refine (X_iaload (m := 229) (pc := 26)  (by decide +kernel) ).trans ?_
      refine ite_congr rfl (fun _ => ?_) (fun _ => rfl)
      refine (X_ic_ge (m := 229) (pc := 27) (off := 7) (tg := 34) (by decide +kernel) (by decide +kernel)).trans ?_
      refine ite_congr rfl (fun _ => ?_) (fun _ => ?_)
      · refine (X_iconst (m := 229) (pc := 34) (n := 0) (by decide +kernel) ).trans ?_
        exact X_ireturn (m := 229) (pc := 35) (f := 2) (by decide +kernel) (by decide +kernel) rfl
      · refine (X_iconst (m := 229) (pc := 30) (n := 1) (by decide +kernel) ).trans ?_
        refine (X_goto (m := 229) (pc := 31) (off := 4) (tg := 35) (by decide +kernel) (by decide +kernel)).trans ?_
        exact X_ireturn (m := 229) (pc := 35) (f := 2) (by decide +kernel) (by decide +kernel) rfl
theorem E_X11_drops {σ : AS} {r0 : Nat} {x1 : Int} : a_m 230 [a_r (r0), a_i (x1)] σ = a_X 230 0 [a_r (r0), a_i (x1), a_x false] [] σ := a_m_eq (by rw [a_entry, show m_maxL 230 = 3 from by decide +kernel]; rfl)
theorem B_X11_drops_0 {k : Nat → Nat × Nat} {u : Nat → Nat → Int} {g : Nat → Nat → Nat} {t : Nat × Nat × Nat} {r0 : Nat} {x1 : Int} {v2 : AV} : a_X 230 0 [a_r (r0), a_i (x1), v2] [] (k, u, g, t) = a_X 230 2 [a_r (r0), a_i (x1), a_i (x1)] [] (k, u, g, t) := by
  refine (X_iload_n (m := 230) (pc := 0) (n := 1) (by decide +kernel) rfl).trans ?_
  refine (X_istore_n (m := 230) (pc := 1) (n := 2) (by decide +kernel) rfl (Nat.le_of_ble_eq_true rfl) rfl).trans ?_
  rfl
theorem B_X11_drops_2 {k : Nat → Nat × Nat} {u : Nat → Nat → Int} {g : Nat → Nat → Nat} {t : Nat × Nat × Nat} {r0 : Nat} {x1 : Int} {x2 : Int} : a_X 230 2 [a_r (r0), a_i (x1), a_i (x2)] [] (k, u, g, t) = if (k r0).1 = 11 then if (wr (x2 + 1) : Int) ≥ (u r0 22 : Int) then if (k r0).1 = 11 then if (k r0).1 = 11 then some (.inl none, (k, (upm u r0 22 (wr ((u r0 22) - 1))), g, t)) else none else none else if (k r0).1 = 11 then if (k r0).1 = 11 then if ((k (g r0 18)).1 = 20 ∨ (k (g r0 18)).1 = 24) ∧ 0 ≤ (wr (x2 + 1) : Int) ∧ (wr (x2 + 1) : Int) < ((k (g r0 18)).2 : Int) then if (k (g r0 18)).1 = 20 ∧ 0 ≤ (x2 : Int) ∧ (x2 : Int) < ((k (g r0 18)).2 : Int) then if (k r0).1 = 11 then if (k r0).1 = 11 then if ((k (g r0 19)).1 = 20 ∨ (k (g r0 19)).1 = 24) ∧ 0 ≤ (wr (x2 + 1) : Int) ∧ (wr (x2 + 1) : Int) < ((k (g r0 19)).2 : Int) then if (k (g r0 19)).1 = 20 ∧ 0 ≤ (x2 : Int) ∧ (x2 : Int) < ((k (g r0 19)).2 : Int) then if (k r0).1 = 11 then if (k r0).1 = 11 then if ((k (g r0 20)).1 = 20 ∨ (k (g r0 20)).1 = 24) ∧ 0 ≤ (wr (x2 + 1) : Int) ∧ (wr (x2 + 1) : Int) < ((k (g r0 20)).2 : Int) then if (k (g r0 20)).1 = 20 ∧ 0 ≤ (x2 : Int) ∧ (x2 : Int) < ((k (g r0 20)).2 : Int) then if (k r0).1 = 11 then if (k r0).1 = 11 then if ((k (g r0 21)).1 = 20 ∨ (k (g r0 21)).1 = 24) ∧ 0 ≤ (wr (x2 + 1) : Int) ∧ (wr (x2 + 1) : Int) < ((k (g r0 21)).2 : Int) then if (k (g r0 21)).1 = 20 ∧ 0 ≤ (x2 : Int) ∧ (x2 : Int) < ((k (g r0 21)).2 : Int) then a_X 230 2 [a_r (r0), a_i (x1), a_i (wr (x2 + 1))] [] (k, (upm (upm (upm (upm u (g r0 18) (x2 : Int).toNat (u (g r0 18) (wr (x2 + 1) : Int).toNat)) (g r0 19) (x2 : Int).toNat ((upm u (g r0 18) (x2 : Int).toNat (u (g r0 18) (wr (x2 + 1) : Int).toNat)) (g r0 19) (wr (x2 + 1) : Int).toNat)) (g r0 20) (x2 : Int).toNat ((upm (upm u (g r0 18) (x2 : Int).toNat (u (g r0 18) (wr (x2 + 1) : Int).toNat)) (g r0 19) (x2 : Int).toNat ((upm u (g r0 18) (x2 : Int).toNat (u (g r0 18) (wr (x2 + 1) : Int).toNat)) (g r0 19) (wr (x2 + 1) : Int).toNat)) (g r0 20) (wr (x2 + 1) : Int).toNat)) (g r0 21) (x2 : Int).toNat ((upm (upm (upm u (g r0 18) (x2 : Int).toNat (u (g r0 18) (wr (x2 + 1) : Int).toNat)) (g r0 19) (x2 : Int).toNat ((upm u (g r0 18) (x2 : Int).toNat (u (g r0 18) (wr (x2 + 1) : Int).toNat)) (g r0 19) (wr (x2 + 1) : Int).toNat)) (g r0 20) (x2 : Int).toNat ((upm (upm u (g r0 18) (x2 : Int).toNat (u (g r0 18) (wr (x2 + 1) : Int).toNat)) (g r0 19) (x2 : Int).toNat ((upm u (g r0 18) (x2 : Int).toNat (u (g r0 18) (wr (x2 + 1) : Int).toNat)) (g r0 19) (wr (x2 + 1) : Int).toNat)) (g r0 20) (wr (x2 + 1) : Int).toNat)) (g r0 21) (wr (x2 + 1) : Int).toNat)), g, t) else none else none else none else none else none else none else none else none else none else none else none else none else none else none else none else none else none := by
  refine (X_iload_n (m := 230) (pc := 2) (n := 2) (by decide +kernel) rfl).trans ?_
  refine (X_iconst (m := 230) (pc := 3) (n := 1) (by decide +kernel) ).trans ?_
  refine (X_iadd (m := 230) (pc := 4)  (by decide +kernel) ).trans ?_
  refine (X_aload_n (m := 230) (pc := 5) (n := 0) (by decide +kernel) rfl).trans ?_
  refine (X_getI (m := 230) (pc := 6) (n := 322) (c := 11) (q := 22) (ty := 1) (fi := false) (by decide +kernel) (by decide +kernel) (by decide +kernel)).trans ?_
  refine ite_congr rfl (fun _ => ?_) (fun _ => rfl)
  refine (X_ic_ge (m := 230) (pc := 9) (off := 65) (tg := 74) (by decide +kernel) (by decide +kernel)).trans ?_
  refine ite_congr rfl (fun _ => ?_) (fun _ => ?_)
  · refine (X_aload_n (m := 230) (pc := 74) (n := 0) (by decide +kernel) rfl).trans ?_
    refine (X_dup (m := 230) (pc := 75)  (by decide +kernel) rfl rfl).trans ?_
    refine (X_getI (m := 230) (pc := 76) (n := 322) (c := 11) (q := 22) (ty := 1) (fi := false) (by decide +kernel) (by decide +kernel) (by decide +kernel)).trans ?_
    refine ite_congr rfl (fun _ => ?_) (fun _ => rfl)
    refine (X_iconst (m := 230) (pc := 79) (n := 1) (by decide +kernel) ).trans ?_
    refine (X_isub (m := 230) (pc := 80)  (by decide +kernel) ).trans ?_
    refine (X_putI (m := 230) (pc := 81) (n := 322) (c := 11) (q := 22) (fi := false) (by decide +kernel) (by decide +kernel) (fun h => by cases h) (by decide +kernel)).trans ?_
    refine ite_congr rfl (fun _ => ?_) (fun _ => rfl)
    exact X_return (m := 230) (pc := 84) (by decide +kernel) (by decide +kernel)
  · refine (X_aload_n (m := 230) (pc := 12) (n := 0) (by decide +kernel) rfl).trans ?_
    refine (X_getR (m := 230) (pc := 13) (n := 31) (c := 11) (q := 18) (fi := true) (by decide +kernel) (by decide +kernel)).trans ?_
    refine ite_congr rfl (fun _ => ?_) (fun _ => rfl)
    refine (X_iload_n (m := 230) (pc := 16) (n := 2) (by decide +kernel) rfl).trans ?_
    refine (X_aload_n (m := 230) (pc := 17) (n := 0) (by decide +kernel) rfl).trans ?_
    refine (X_getR (m := 230) (pc := 18) (n := 31) (c := 11) (q := 18) (fi := true) (by decide +kernel) (by decide +kernel)).trans ?_
    refine ite_congr rfl (fun _ => ?_) (fun _ => rfl)
    refine (X_iload_n (m := 230) (pc := 21) (n := 2) (by decide +kernel) rfl).trans ?_
    refine (X_iconst (m := 230) (pc := 22) (n := 1) (by decide +kernel) ).trans ?_
    refine (X_iadd (m := 230) (pc := 23)  (by decide +kernel) ).trans ?_
    refine (X_iaload (m := 230) (pc := 24)  (by decide +kernel) ).trans ?_
    refine ite_congr rfl (fun _ => ?_) (fun _ => rfl)
    refine (X_iastore (m := 230) (pc := 25)  (by decide +kernel) ).trans ?_
    refine ite_congr rfl (fun _ => ?_) (fun _ => rfl)
    refine (X_aload_n (m := 230) (pc := 26) (n := 0) (by decide +kernel) rfl).trans ?_
    refine (X_getR (m := 230) (pc := 27) (n := 34) (c := 11) (q := 19) (fi := true) (by decide +kernel) (by decide +kernel)).trans ?_
    refine ite_congr rfl (fun _ => ?_) (fun _ => rfl)
    refine (X_iload_n (m := 230) (pc := 30) (n := 2) (by decide +kernel) rfl).trans ?_
    refine (X_aload_n (m := 230) (pc := 31) (n := 0) (by decide +kernel) rfl).trans ?_
    refine (X_getR (m := 230) (pc := 32) (n := 34) (c := 11) (q := 19) (fi := true) (by decide +kernel) (by decide +kernel)).trans ?_
    refine ite_congr rfl (fun _ => ?_) (fun _ => rfl)
    refine (X_iload_n (m := 230) (pc := 35) (n := 2) (by decide +kernel) rfl).trans ?_
    refine (X_iconst (m := 230) (pc := 36) (n := 1) (by decide +kernel) ).trans ?_
    refine (X_iadd (m := 230) (pc := 37)  (by decide +kernel) ).trans ?_
    refine (X_iaload (m := 230) (pc := 38)  (by decide +kernel) ).trans ?_
    refine ite_congr rfl (fun _ => ?_) (fun _ => rfl)
    refine (X_iastore (m := 230) (pc := 39)  (by decide +kernel) ).trans ?_
    refine ite_congr rfl (fun _ => ?_) (fun _ => rfl)
    refine (X_aload_n (m := 230) (pc := 40) (n := 0) (by decide +kernel) rfl).trans ?_
    refine (X_getR (m := 230) (pc := 41) (n := 37) (c := 11) (q := 20) (fi := true) (by decide +kernel) (by decide +kernel)).trans ?_
    refine ite_congr rfl (fun _ => ?_) (fun _ => rfl)
    refine (X_iload_n (m := 230) (pc := 44) (n := 2) (by decide +kernel) rfl).trans ?_
    refine (X_aload_n (m := 230) (pc := 45) (n := 0) (by decide +kernel) rfl).trans ?_
    refine (X_getR (m := 230) (pc := 46) (n := 37) (c := 11) (q := 20) (fi := true) (by decide +kernel) (by decide +kernel)).trans ?_
    refine ite_congr rfl (fun _ => ?_) (fun _ => rfl)
    refine (X_iload_n (m := 230) (pc := 49) (n := 2) (by decide +kernel) rfl).trans ?_
    refine (X_iconst (m := 230) (pc := 50) (n := 1) (by decide +kernel) ).trans ?_
    refine (X_iadd (m := 230) (pc := 51)  (by decide +kernel) ).trans ?_
    refine (X_iaload (m := 230) (pc := 52)  (by decide +kernel) ).trans ?_
    refine ite_congr rfl (fun _ => ?_) (fun _ => rfl)
    refine (X_iastore (m := 230) (pc := 53)  (by decide +kernel) ).trans ?_
    refine ite_congr rfl (fun _ => ?_) (fun _ => rfl)
    refine (X_aload_n (m := 230) (pc := 54) (n := 0) (by decide +kernel) rfl).trans ?_
    refine (X_getR (m := 230) (pc := 55) (n := 40) (c := 11) (q := 21) (fi := true) (by decide +kernel) (by decide +kernel)).trans ?_
    refine ite_congr rfl (fun _ => ?_) (fun _ => rfl)
    refine (X_iload_n (m := 230) (pc := 58) (n := 2) (by decide +kernel) rfl).trans ?_
    refine (X_aload_n (m := 230) (pc := 59) (n := 0) (by decide +kernel) rfl).trans ?_
    refine (X_getR (m := 230) (pc := 60) (n := 40) (c := 11) (q := 21) (fi := true) (by decide +kernel) (by decide +kernel)).trans ?_
    refine ite_congr rfl (fun _ => ?_) (fun _ => rfl)
    refine (X_iload_n (m := 230) (pc := 63) (n := 2) (by decide +kernel) rfl).trans ?_
    refine (X_iconst (m := 230) (pc := 64) (n := 1) (by decide +kernel) ).trans ?_
    refine (X_iadd (m := 230) (pc := 65)  (by decide +kernel) ).trans ?_
    refine (X_iaload (m := 230) (pc := 66)  (by decide +kernel) ).trans ?_
    refine ite_congr rfl (fun _ => ?_) (fun _ => rfl)
    refine (X_iastore (m := 230) (pc := 67)  (by decide +kernel) ).trans ?_
    refine ite_congr rfl (fun _ => ?_) (fun _ => rfl)
    refine (X_iinc (m := 230) (pc := 68) (n := 2) (c := 1) (by decide +kernel) rfl rfl (Nat.le_of_ble_eq_true rfl) rfl).trans ?_
    refine (X_goto (m := 230) (pc := 71) (off := -69) (tg := 2) (by decide +kernel) (by decide +kernel)).trans ?_
    rfl
theorem E_X11_puts {σ : AS} {r0 : Nat} {x1 : Int} {x2 : Int} {x3 : Int} : a_m 231 [a_r (r0), a_i (x1), a_i (x2), a_i (x3)] σ = a_X 231 0 [a_r (r0), a_i (x1), a_i (x2), a_i (x3), a_x false, a_x false, a_x false, a_x false, a_x false] [] σ := a_m_eq (by rw [a_entry, show m_maxL 231 = 9 from by decide +kernel]; rfl)
theorem B_X11_puts_0 {k : Nat → Nat × Nat} {u : Nat → Nat → Int} {g : Nat → Nat → Nat} {t : Nat × Nat × Nat} {r0 : Nat} {x1 : Int} {x2 : Int} {x3 : Int} {v4 : AV} {v5 : AV} {v6 : AV} {v7 : AV} {v8 : AV} : a_X 231 0 [a_r (r0), a_i (x1), a_i (x2), a_i (x3), v4, v5, v6, v7, v8] [] (k, u, g, t) = if (k r0).1 = 11 then a_X 231 17 [a_r (r0), a_i (x1), a_i (x2), a_i (x3), a_i (x2), a_i (x3), a_i (1), a_i (wr ((u r0 22) - 1)), v8] [] (k, u, g, t) else none := by
  refine (X_iload_n (m := 231) (pc := 0) (n := 2) (by decide +kernel) rfl).trans ?_
  refine (X_istore (m := 231) (pc := 1) (n := 4) (by decide +kernel) rfl (Nat.le_of_ble_eq_true rfl) rfl).trans ?_
  refine (X_iload_n (m := 231) (pc := 3) (n := 3) (by decide +kernel) rfl).trans ?_
  refine (X_istore (m := 231) (pc := 4) (n := 5) (by decide +kernel) rfl (Nat.le_of_ble_eq_true rfl) rfl).trans ?_
  refine (X_iconst (m := 231) (pc := 6) (n := 1) (by decide +kernel) ).trans ?_
  refine (X_istore (m := 231) (pc := 7) (n := 6) (by decide +kernel) rfl (Nat.le_of_ble_eq_true rfl) rfl).trans ?_
  refine (X_aload_n (m := 231) (pc := 9) (n := 0) (by decide +kernel) rfl).trans ?_
  refine (X_getI (m := 231) (pc := 10) (n := 322) (c := 11) (q := 22) (ty := 1) (fi := false) (by decide +kernel) (by decide +kernel) (by decide +kernel)).trans ?_
  refine ite_congr rfl (fun _ => ?_) (fun _ => rfl)
  refine (X_iconst (m := 231) (pc := 13) (n := 1) (by decide +kernel) ).trans ?_
  refine (X_isub (m := 231) (pc := 14)  (by decide +kernel) ).trans ?_
  refine (X_istore (m := 231) (pc := 15) (n := 7) (by decide +kernel) rfl (Nat.le_of_ble_eq_true rfl) rfl).trans ?_
  rfl
theorem B_X11_puts_17 {k : Nat → Nat × Nat} {u : Nat → Nat → Int} {g : Nat → Nat → Nat} {t : Nat × Nat × Nat} {r0 : Nat} {x1 : Int} {x2 : Int} {x3 : Int} {x4 : Int} {x5 : Int} {x6 : Int} {x7 : Int} {v8 : AV} : a_X 231 17 [a_r (r0), a_i (x1), a_i (x2), a_i (x3), a_i (x4), a_i (x5), a_i (x6), a_i (x7), v8] [] (k, u, g, t) = if (x7 : Int) < 0 then a_X 231 118 [a_r (r0), a_i (x1), a_i (x2), a_i (x3), a_i (x4), a_i (x5), a_i (x6), a_i (0), v8] [] (k, u, g, t) else if (k r0).1 = 11 then if ((k (g r0 18)).1 = 20 ∨ (k (g r0 18)).1 = 24) ∧ 0 ≤ (x7 : Int) ∧ (x7 : Int) < ((k (g r0 18)).2 : Int) then if (u (g r0 18) (x7 : Int).toNat : Int) ≠ (x1 : Int) then a_X 231 17 [a_r (r0), a_i (x1), a_i (x2), a_i (x3), a_i (x4), a_i (x5), a_i (x6), a_i (wr (x7 + (-1))), v8] [] (k, u, g, t) else if (k r0).1 = 11 then if ((k (g r0 19)).1 = 20 ∨ (k (g r0 19)).1 = 24) ∧ 0 ≤ (x7 : Int) ∧ (x7 : Int) < ((k (g r0 19)).2 : Int) then if (u (g r0 19) (x7 : Int).toNat : Int) > (x5 : Int) then a_X 231 17 [a_r (r0), a_i (x1), a_i (x2), a_i (x3), a_i (x4), a_i (x5), a_i (x6), a_i (wr (x7 + (-1))), v8] [] (k, u, g, t) else if (k r0).1 = 11 then if ((k (g r0 20)).1 = 20 ∨ (k (g r0 20)).1 = 24) ∧ 0 ≤ (x7 : Int) ∧ (x7 : Int) < ((k (g r0 20)).2 : Int) then if (x4 : Int) > (u (g r0 20) (x7 : Int).toNat : Int) then a_X 231 17 [a_r (r0), a_i (x1), a_i (x2), a_i (x3), a_i (x4), a_i (x5), a_i (x6), a_i (wr (x7 + (-1))), v8] [] (k, u, g, t) else if (k r0).1 = 11 then if ((k (g r0 19)).1 = 20 ∨ (k (g r0 19)).1 = 24) ∧ 0 ≤ (x7 : Int) ∧ (x7 : Int) < ((k (g r0 19)).2 : Int) then if (k r0).1 = 11 then if ((k (g r0 20)).1 = 20 ∨ (k (g r0 20)).1 = 24) ∧ 0 ≤ (x7 : Int) ∧ (x7 : Int) < ((k (g r0 20)).2 : Int) then if (k r0).1 = 11 then if ((k (g r0 21)).1 = 20 ∨ (k (g r0 21)).1 = 24) ∧ 0 ≤ (x7 : Int) ∧ (x7 : Int) < ((k (g r0 21)).2 : Int) then if (k r0).1 = 11 then (a_m 230 [a_r (r0), a_i (x7)] (k, u, g, t)).bind (a_back 231 100 3 [a_r (r0), a_i (x1), a_i (x2), a_i (x3), a_i (min (x4) (u (g r0 19) (x7 : Int).toNat)), a_i (max (x5) (u (g r0 20) (x7 : Int).toNat)), a_i (wr (x6 + (u (g r0 21) (x7 : Int).toNat))), a_i (x7), v8] []) else none else none else none else none else none else none else none else none else none else none else none else none else none := by
  refine (X_iload (m := 231) (pc := 17) (n := 7) (by decide +kernel) rfl).trans ?_
  refine (X_if_lt (m := 231) (pc := 19) (off := 96) (tg := 115) (by decide +kernel) (by decide +kernel)).trans ?_
  refine ite_congr rfl (fun _ => ?_) (fun _ => ?_)
  · refine (X_iconst (m := 231) (pc := 115) (n := 0) (by decide +kernel) ).trans ?_
    refine (X_istore (m := 231) (pc := 116) (n := 7) (by decide +kernel) rfl (Nat.le_of_ble_eq_true rfl) rfl).trans ?_
    rfl
  · refine (X_aload_n (m := 231) (pc := 22) (n := 0) (by decide +kernel) rfl).trans ?_
    refine (X_getR (m := 231) (pc := 23) (n := 31) (c := 11) (q := 18) (fi := true) (by decide +kernel) (by decide +kernel)).trans ?_
    refine ite_congr rfl (fun _ => ?_) (fun _ => rfl)
    refine (X_iload (m := 231) (pc := 26) (n := 7) (by decide +kernel) rfl).trans ?_
    refine (X_iaload (m := 231) (pc := 28)  (by decide +kernel) ).trans ?_
    refine ite_congr rfl (fun _ => ?_) (fun _ => rfl)
    refine (X_iload_n (m := 231) (pc := 29) (n := 1) (by decide +kernel) rfl).trans ?_
    refine (X_ic_ne (m := 231) (pc := 30) (off := 79) (tg := 109) (by decide +kernel) (by decide +kernel)).trans ?_
    refine ite_congr rfl (fun _ => ?_) (fun _ => ?_)
    · refine (X_iinc (m := 231) (pc := 109) (n := 7) (c := -1) (by decide +kernel) rfl rfl (Nat.le_of_ble_eq_true rfl) rfl).trans ?_
      refine (X_goto (m := 231) (pc := 112) (off := -95) (tg := 17) (by decide +kernel) (by decide +kernel)).trans ?_
      rfl
    · refine (X_aload_n (m := 231) (pc := 33) (n := 0) (by decide +kernel) rfl).trans ?_
      refine (X_getR (m := 231) (pc := 34) (n := 34) (c := 11) (q := 19) (fi := true) (by decide +kernel) (by decide +kernel)).trans ?_
      refine ite_congr rfl (fun _ => ?_) (fun _ => rfl)
      refine (X_iload (m := 231) (pc := 37) (n := 7) (by decide +kernel) rfl).trans ?_
      refine (X_iaload (m := 231) (pc := 39)  (by decide +kernel) ).trans ?_
      refine ite_congr rfl (fun _ => ?_) (fun _ => rfl)
      refine (X_iload (m := 231) (pc := 40) (n := 5) (by decide +kernel) rfl).trans ?_
      refine (X_ic_gt (m := 231) (pc := 42) (off := 67) (tg := 109) (by decide +kernel) (by decide +kernel)).trans ?_
      refine ite_congr rfl (fun _ => ?_) (fun _ => ?_)
      · refine (X_iinc (m := 231) (pc := 109) (n := 7) (c := -1) (by decide +kernel) rfl rfl (Nat.le_of_ble_eq_true rfl) rfl).trans ?_
        refine (X_goto (m := 231) (pc := 112) (off := -95) (tg := 17) (by decide +kernel) (by decide +kernel)).trans ?_
        rfl
      · refine (X_iload (m := 231) (pc := 45) (n := 4) (by decide +kernel) rfl).trans ?_
        refine (X_aload_n (m := 231) (pc := 47) (n := 0) (by decide +kernel) rfl).trans ?_
        refine (X_getR (m := 231) (pc := 48) (n := 37) (c := 11) (q := 20) (fi := true) (by decide +kernel) (by decide +kernel)).trans ?_
        refine ite_congr rfl (fun _ => ?_) (fun _ => rfl)
        refine (X_iload (m := 231) (pc := 51) (n := 7) (by decide +kernel) rfl).trans ?_
        refine (X_iaload (m := 231) (pc := 53)  (by decide +kernel) ).trans ?_
        refine ite_congr rfl (fun _ => ?_) (fun _ => rfl)
        refine (X_ic_gt (m := 231) (pc := 54) (off := 55) (tg := 109) (by decide +kernel) (by decide +kernel)).trans ?_
        refine ite_congr rfl (fun _ => ?_) (fun _ => ?_)
        · refine (X_iinc (m := 231) (pc := 109) (n := 7) (c := -1) (by decide +kernel) rfl rfl (Nat.le_of_ble_eq_true rfl) rfl).trans ?_
          refine (X_goto (m := 231) (pc := 112) (off := -95) (tg := 17) (by decide +kernel) (by decide +kernel)).trans ?_
          rfl
        · refine (X_iload (m := 231) (pc := 57) (n := 4) (by decide +kernel) rfl).trans ?_
          refine (X_aload_n (m := 231) (pc := 59) (n := 0) (by decide +kernel) rfl).trans ?_
          refine (X_getR (m := 231) (pc := 60) (n := 34) (c := 11) (q := 19) (fi := true) (by decide +kernel) (by decide +kernel)).trans ?_
          refine ite_congr rfl (fun _ => ?_) (fun _ => rfl)
          refine (X_iload (m := 231) (pc := 63) (n := 7) (by decide +kernel) rfl).trans ?_
          refine (X_iaload (m := 231) (pc := 65)  (by decide +kernel) ).trans ?_
          refine ite_congr rfl (fun _ => ?_) (fun _ => rfl)
          refine (X_min (m := 231) (pc := 66) (q := 184) (by decide +kernel) (by decide +kernel) (Nat.le_of_ble_eq_true rfl)).trans ?_
          refine (X_istore (m := 231) (pc := 69) (n := 4) (by decide +kernel) rfl (Nat.le_of_ble_eq_true rfl) rfl).trans ?_
          refine (X_iload (m := 231) (pc := 71) (n := 5) (by decide +kernel) rfl).trans ?_
          refine (X_aload_n (m := 231) (pc := 73) (n := 0) (by decide +kernel) rfl).trans ?_
          refine (X_getR (m := 231) (pc := 74) (n := 37) (c := 11) (q := 20) (fi := true) (by decide +kernel) (by decide +kernel)).trans ?_
          refine ite_congr rfl (fun _ => ?_) (fun _ => rfl)
          refine (X_iload (m := 231) (pc := 77) (n := 7) (by decide +kernel) rfl).trans ?_
          refine (X_iaload (m := 231) (pc := 79)  (by decide +kernel) ).trans ?_
          refine ite_congr rfl (fun _ => ?_) (fun _ => rfl)
          refine (X_max (m := 231) (pc := 80) (q := 211) (by decide +kernel) (by decide +kernel) (Nat.le_of_ble_eq_true rfl)).trans ?_
          refine (X_istore (m := 231) (pc := 83) (n := 5) (by decide +kernel) rfl (Nat.le_of_ble_eq_true rfl) rfl).trans ?_
          refine (X_iload (m := 231) (pc := 85) (n := 6) (by decide +kernel) rfl).trans ?_
          refine (X_aload_n (m := 231) (pc := 87) (n := 0) (by decide +kernel) rfl).trans ?_
          refine (X_getR (m := 231) (pc := 88) (n := 40) (c := 11) (q := 21) (fi := true) (by decide +kernel) (by decide +kernel)).trans ?_
          refine ite_congr rfl (fun _ => ?_) (fun _ => rfl)
          refine (X_iload (m := 231) (pc := 91) (n := 7) (by decide +kernel) rfl).trans ?_
          refine (X_iaload (m := 231) (pc := 93)  (by decide +kernel) ).trans ?_
          refine ite_congr rfl (fun _ => ?_) (fun _ => rfl)
          refine (X_iadd (m := 231) (pc := 94)  (by decide +kernel) ).trans ?_
          refine (X_istore (m := 231) (pc := 95) (n := 6) (by decide +kernel) rfl (Nat.le_of_ble_eq_true rfl) rfl).trans ?_
          refine (X_aload_n (m := 231) (pc := 97) (n := 0) (by decide +kernel) rfl).trans ?_
          refine (X_iload (m := 231) (pc := 98) (n := 7) (by decide +kernel) rfl).trans ?_
          refine (X_call_vi (m := 231) (pc := 100) (q := 325) (y := 230) (n := 2) (as := [a_r (r0), a_i (x7)]) (rest := []) (by decide +kernel) (by decide +kernel) (by decide +kernel) (by decide +kernel) rfl rfl (Nat.le_of_ble_eq_true rfl) (Nat.le_of_ble_eq_true rfl) rfl (by rw [show m_maxL 230 = 3 from by decide +kernel]; exact Nat.le_of_ble_eq_true rfl)).trans ?_
          exact ite_congr (by simp [a_rcv, show m_recv 230 = 11 from by decide +kernel]) (fun _ => rfl) (fun _ => rfl)
theorem B_X11_puts_118 {k : Nat → Nat × Nat} {u : Nat → Nat → Int} {g : Nat → Nat → Nat} {t : Nat × Nat × Nat} {r0 : Nat} {x1 : Int} {x2 : Int} {x3 : Int} {x4 : Int} {x5 : Int} {x6 : Int} {x7 : Int} {v8 : AV} : a_X 231 118 [a_r (r0), a_i (x1), a_i (x2), a_i (x3), a_i (x4), a_i (x5), a_i (x6), a_i (x7), v8] [] (k, u, g, t) = if (k r0).1 = 11 then if (x7 : Int) ≥ (u r0 22 : Int) then if (k r0).1 = 11 then a_X 231 151 [a_r (r0), a_i (x1), a_i (x2), a_i (x3), a_i (x4), a_i (x5), a_i (x6), a_i (x7), a_i (u r0 22)] [] (k, u, g, t) else none else if (k r0).1 = 11 then (a_m 229 [a_r (r0), a_i (x1), a_i (x4), a_i (x7)] (k, u, g, t)).bind (a_back 231 133 3 [a_r (r0), a_i (x1), a_i (x2), a_i (x3), a_i (x4), a_i (x5), a_i (x6), a_i (x7), v8] []) else none else none := by
  refine (X_iload (m := 231) (pc := 118) (n := 7) (by decide +kernel) rfl).trans ?_
  refine (X_aload_n (m := 231) (pc := 120) (n := 0) (by decide +kernel) rfl).trans ?_
  refine (X_getI (m := 231) (pc := 121) (n := 322) (c := 11) (q := 22) (ty := 1) (fi := false) (by decide +kernel) (by decide +kernel) (by decide +kernel)).trans ?_
  refine ite_congr rfl (fun _ => ?_) (fun _ => rfl)
  refine (X_ic_ge (m := 231) (pc := 124) (off := 21) (tg := 145) (by decide +kernel) (by decide +kernel)).trans ?_
  refine ite_congr rfl (fun _ => ?_) (fun _ => ?_)
  · refine (X_aload_n (m := 231) (pc := 145) (n := 0) (by decide +kernel) rfl).trans ?_
    refine (X_getI (m := 231) (pc := 146) (n := 322) (c := 11) (q := 22) (ty := 1) (fi := false) (by decide +kernel) (by decide +kernel) (by decide +kernel)).trans ?_
    refine ite_congr rfl (fun _ => ?_) (fun _ => rfl)
    refine (X_istore (m := 231) (pc := 149) (n := 8) (by decide +kernel) rfl (Nat.le_of_ble_eq_true rfl) rfl).trans ?_
    rfl
  · refine (X_aload_n (m := 231) (pc := 127) (n := 0) (by decide +kernel) rfl).trans ?_
    refine (X_iload_n (m := 231) (pc := 128) (n := 1) (by decide +kernel) rfl).trans ?_
    refine (X_iload (m := 231) (pc := 129) (n := 4) (by decide +kernel) rfl).trans ?_
    refine (X_iload (m := 231) (pc := 131) (n := 7) (by decide +kernel) rfl).trans ?_
    refine (X_call_vi (m := 231) (pc := 133) (q := 328) (y := 229) (n := 4) (as := [a_r (r0), a_i (x1), a_i (x4), a_i (x7)]) (rest := []) (by decide +kernel) (by decide +kernel) (by decide +kernel) (by decide +kernel) rfl rfl (Nat.le_of_ble_eq_true rfl) (Nat.le_of_ble_eq_true rfl) rfl (by rw [show m_maxL 229 = 4 from by decide +kernel]; exact Nat.le_of_ble_eq_true rfl)).trans ?_
    exact ite_congr (by simp [a_rcv, show m_recv 229 = 11 from by decide +kernel]) (fun _ => rfl) (fun _ => rfl)
theorem B_X11_puts_103 {k : Nat → Nat × Nat} {u : Nat → Nat → Int} {g : Nat → Nat → Nat} {t : Nat × Nat × Nat} {r0 : Nat} {x1 : Int} {x2 : Int} {x3 : Int} {x4 : Int} {x5 : Int} {x6 : Int} {x7 : Int} {v8 : AV} : a_X 231 103 [a_r (r0), a_i (x1), a_i (x2), a_i (x3), a_i (x4), a_i (x5), a_i (x6), a_i (x7), v8] [] (k, u, g, t) = if (k r0).1 = 11 then a_X 231 17 [a_r (r0), a_i (x1), a_i (x2), a_i (x3), a_i (x4), a_i (x5), a_i (x6), a_i (wr (u r0 22 + (-1))), v8] [] (k, u, g, t) else none := by
  refine (X_aload_n (m := 231) (pc := 103) (n := 0) (by decide +kernel) rfl).trans ?_
  refine (X_getI (m := 231) (pc := 104) (n := 322) (c := 11) (q := 22) (ty := 1) (fi := false) (by decide +kernel) (by decide +kernel) (by decide +kernel)).trans ?_
  refine ite_congr rfl (fun _ => ?_) (fun _ => rfl)
  refine (X_istore (m := 231) (pc := 107) (n := 7) (by decide +kernel) rfl (Nat.le_of_ble_eq_true rfl) rfl).trans ?_
  refine (X_iinc (m := 231) (pc := 109) (n := 7) (c := -1) (by decide +kernel) rfl rfl (Nat.le_of_ble_eq_true rfl) rfl).trans ?_
  refine (X_goto (m := 231) (pc := 112) (off := -95) (tg := 17) (by decide +kernel) (by decide +kernel)).trans ?_
  rfl
theorem B_X11_puts_151 {k : Nat → Nat × Nat} {u : Nat → Nat → Int} {g : Nat → Nat → Nat} {t : Nat × Nat × Nat} {r0 : Nat} {x1 : Int} {x2 : Int} {x3 : Int} {x4 : Int} {x5 : Int} {x6 : Int} {x7 : Int} {x8 : Int} : a_X 231 151 [a_r (r0), a_i (x1), a_i (x2), a_i (x3), a_i (x4), a_i (x5), a_i (x6), a_i (x7), a_i (x8)] [] (k, u, g, t) = if (x8 : Int) ≤ (x7 : Int) then if (k r0).1 = 11 then if (k (g r0 18)).1 = 20 ∧ 0 ≤ (x7 : Int) ∧ (x7 : Int) < ((k (g r0 18)).2 : Int) then if (k r0).1 = 11 then if (k (g r0 19)).1 = 20 ∧ 0 ≤ (x7 : Int) ∧ (x7 : Int) < ((k (g r0 19)).2 : Int) then if (k r0).1 = 11 then if (k (g r0 20)).1 = 20 ∧ 0 ≤ (x7 : Int) ∧ (x7 : Int) < ((k (g r0 20)).2 : Int) then if (k r0).1 = 11 then if (k (g r0 21)).1 = 20 ∧ 0 ≤ (x7 : Int) ∧ (x7 : Int) < ((k (g r0 21)).2 : Int) then if (k r0).1 = 11 then if (k r0).1 = 11 then some (.inl none, (k, (upm (upm (upm (upm (upm u (g r0 18) (x7 : Int).toNat x1) (g r0 19) (x7 : Int).toNat x4) (g r0 20) (x7 : Int).toNat x5) (g r0 21) (x7 : Int).toNat x6) r0 22 (wr (((upm (upm (upm (upm u (g r0 18) (x7 : Int).toNat x1) (g r0 19) (x7 : Int).toNat x4) (g r0 20) (x7 : Int).toNat x5) (g r0 21) (x7 : Int).toNat x6) r0 22) + 1))), g, t)) else none else none else none else none else none else none else none else none else none else none else if (k r0).1 = 11 then if (k r0).1 = 11 then if ((k (g r0 18)).1 = 20 ∨ (k (g r0 18)).1 = 24) ∧ 0 ≤ (wr (x8 - 1) : Int) ∧ (wr (x8 - 1) : Int) < ((k (g r0 18)).2 : Int) then if (k (g r0 18)).1 = 20 ∧ 0 ≤ (x8 : Int) ∧ (x8 : Int) < ((k (g r0 18)).2 : Int) then if (k r0).1 = 11 then if (k r0).1 = 11 then if ((k (g r0 19)).1 = 20 ∨ (k (g r0 19)).1 = 24) ∧ 0 ≤ (wr (x8 - 1) : Int) ∧ (wr (x8 - 1) : Int) < ((k (g r0 19)).2 : Int) then if (k (g r0 19)).1 = 20 ∧ 0 ≤ (x8 : Int) ∧ (x8 : Int) < ((k (g r0 19)).2 : Int) then if (k r0).1 = 11 then if (k r0).1 = 11 then if ((k (g r0 20)).1 = 20 ∨ (k (g r0 20)).1 = 24) ∧ 0 ≤ (wr (x8 - 1) : Int) ∧ (wr (x8 - 1) : Int) < ((k (g r0 20)).2 : Int) then if (k (g r0 20)).1 = 20 ∧ 0 ≤ (x8 : Int) ∧ (x8 : Int) < ((k (g r0 20)).2 : Int) then a_X 231 207 [a_r (r0), a_i (x1), a_i (x2), a_i (x3), a_i (x4), a_i (x5), a_i (x6), a_i (x7), a_i (x8)] [a_r (r0)] (k, (upm (upm (upm u (g r0 18) (x8 : Int).toNat (u (g r0 18) (wr (x8 - 1) : Int).toNat)) (g r0 19) (x8 : Int).toNat ((upm u (g r0 18) (x8 : Int).toNat (u (g r0 18) (wr (x8 - 1) : Int).toNat)) (g r0 19) (wr (x8 - 1) : Int).toNat)) (g r0 20) (x8 : Int).toNat ((upm (upm u (g r0 18) (x8 : Int).toNat (u (g r0 18) (wr (x8 - 1) : Int).toNat)) (g r0 19) (x8 : Int).toNat ((upm u (g r0 18) (x8 : Int).toNat (u (g r0 18) (wr (x8 - 1) : Int).toNat)) (g r0 19) (wr (x8 - 1) : Int).toNat)) (g r0 20) (wr (x8 - 1) : Int).toNat)), g, t) else none else none else none else none else none else none else none else none else none else none else none else none := by
  refine (X_iload (m := 231) (pc := 151) (n := 8) (by decide +kernel) rfl).trans ?_
  refine (X_iload (m := 231) (pc := 153) (n := 7) (by decide +kernel) rfl).trans ?_
  refine (X_ic_le (m := 231) (pc := 155) (off := 73) (tg := 228) (by decide +kernel) (by decide +kernel)).trans ?_
  refine ite_congr rfl (fun _ => ?_) (fun _ => ?_)
  · refine (X_aload_n (m := 231) (pc := 228) (n := 0) (by decide +kernel) rfl).trans ?_
    refine (X_getR (m := 231) (pc := 229) (n := 31) (c := 11) (q := 18) (fi := true) (by decide +kernel) (by decide +kernel)).trans ?_
    refine ite_congr rfl (fun _ => ?_) (fun _ => rfl)
    refine (X_iload (m := 231) (pc := 232) (n := 7) (by decide +kernel) rfl).trans ?_
    refine (X_iload_n (m := 231) (pc := 234) (n := 1) (by decide +kernel) rfl).trans ?_
    refine (X_iastore (m := 231) (pc := 235)  (by decide +kernel) ).trans ?_
    refine ite_congr rfl (fun _ => ?_) (fun _ => rfl)
    refine (X_aload_n (m := 231) (pc := 236) (n := 0) (by decide +kernel) rfl).trans ?_
    refine (X_getR (m := 231) (pc := 237) (n := 34) (c := 11) (q := 19) (fi := true) (by decide +kernel) (by decide +kernel)).trans ?_
    refine ite_congr rfl (fun _ => ?_) (fun _ => rfl)
    refine (X_iload (m := 231) (pc := 240) (n := 7) (by decide +kernel) rfl).trans ?_
    refine (X_iload (m := 231) (pc := 242) (n := 4) (by decide +kernel) rfl).trans ?_
    refine (X_iastore (m := 231) (pc := 244)  (by decide +kernel) ).trans ?_
    refine ite_congr rfl (fun _ => ?_) (fun _ => rfl)
    refine (X_aload_n (m := 231) (pc := 245) (n := 0) (by decide +kernel) rfl).trans ?_
    refine (X_getR (m := 231) (pc := 246) (n := 37) (c := 11) (q := 20) (fi := true) (by decide +kernel) (by decide +kernel)).trans ?_
    refine ite_congr rfl (fun _ => ?_) (fun _ => rfl)
    refine (X_iload (m := 231) (pc := 249) (n := 7) (by decide +kernel) rfl).trans ?_
    refine (X_iload (m := 231) (pc := 251) (n := 5) (by decide +kernel) rfl).trans ?_
    refine (X_iastore (m := 231) (pc := 253)  (by decide +kernel) ).trans ?_
    refine ite_congr rfl (fun _ => ?_) (fun _ => rfl)
    refine (X_aload_n (m := 231) (pc := 254) (n := 0) (by decide +kernel) rfl).trans ?_
    refine (X_getR (m := 231) (pc := 255) (n := 40) (c := 11) (q := 21) (fi := true) (by decide +kernel) (by decide +kernel)).trans ?_
    refine ite_congr rfl (fun _ => ?_) (fun _ => rfl)
    refine (X_iload (m := 231) (pc := 258) (n := 7) (by decide +kernel) rfl).trans ?_
    refine (X_iload (m := 231) (pc := 260) (n := 6) (by decide +kernel) rfl).trans ?_
    refine (X_iastore (m := 231) (pc := 262)  (by decide +kernel) ).trans ?_
    refine ite_congr rfl (fun _ => ?_) (fun _ => rfl)
    refine (X_aload_n (m := 231) (pc := 263) (n := 0) (by decide +kernel) rfl).trans ?_
    refine (X_dup (m := 231) (pc := 264)  (by decide +kernel) rfl rfl).trans ?_
    refine (X_getI (m := 231) (pc := 265) (n := 322) (c := 11) (q := 22) (ty := 1) (fi := false) (by decide +kernel) (by decide +kernel) (by decide +kernel)).trans ?_
    refine ite_congr rfl (fun _ => ?_) (fun _ => rfl)
    refine (X_iconst (m := 231) (pc := 268) (n := 1) (by decide +kernel) ).trans ?_
    refine (X_iadd (m := 231) (pc := 269)  (by decide +kernel) ).trans ?_
    refine (X_putI (m := 231) (pc := 270) (n := 322) (c := 11) (q := 22) (fi := false) (by decide +kernel) (by decide +kernel) (fun h => by cases h) (by decide +kernel)).trans ?_
    refine ite_congr rfl (fun _ => ?_) (fun _ => rfl)
    exact X_return (m := 231) (pc := 273) (by decide +kernel) (by decide +kernel)
  · refine (X_aload_n (m := 231) (pc := 158) (n := 0) (by decide +kernel) rfl).trans ?_
    refine (X_getR (m := 231) (pc := 159) (n := 31) (c := 11) (q := 18) (fi := true) (by decide +kernel) (by decide +kernel)).trans ?_
    refine ite_congr rfl (fun _ => ?_) (fun _ => rfl)
    refine (X_iload (m := 231) (pc := 162) (n := 8) (by decide +kernel) rfl).trans ?_
    refine (X_aload_n (m := 231) (pc := 164) (n := 0) (by decide +kernel) rfl).trans ?_
    refine (X_getR (m := 231) (pc := 165) (n := 31) (c := 11) (q := 18) (fi := true) (by decide +kernel) (by decide +kernel)).trans ?_
    refine ite_congr rfl (fun _ => ?_) (fun _ => rfl)
    refine (X_iload (m := 231) (pc := 168) (n := 8) (by decide +kernel) rfl).trans ?_
    refine (X_iconst (m := 231) (pc := 170) (n := 1) (by decide +kernel) ).trans ?_
    refine (X_isub (m := 231) (pc := 171)  (by decide +kernel) ).trans ?_
    refine (X_iaload (m := 231) (pc := 172)  (by decide +kernel) ).trans ?_
    refine ite_congr rfl (fun _ => ?_) (fun _ => rfl)
    refine (X_iastore (m := 231) (pc := 173)  (by decide +kernel) ).trans ?_
    refine ite_congr rfl (fun _ => ?_) (fun _ => rfl)
    refine (X_aload_n (m := 231) (pc := 174) (n := 0) (by decide +kernel) rfl).trans ?_
    refine (X_getR (m := 231) (pc := 175) (n := 34) (c := 11) (q := 19) (fi := true) (by decide +kernel) (by decide +kernel)).trans ?_
    refine ite_congr rfl (fun _ => ?_) (fun _ => rfl)
    refine (X_iload (m := 231) (pc := 178) (n := 8) (by decide +kernel) rfl).trans ?_
    refine (X_aload_n (m := 231) (pc := 180) (n := 0) (by decide +kernel) rfl).trans ?_
    refine (X_getR (m := 231) (pc := 181) (n := 34) (c := 11) (q := 19) (fi := true) (by decide +kernel) (by decide +kernel)).trans ?_
    refine ite_congr rfl (fun _ => ?_) (fun _ => rfl)
    refine (X_iload (m := 231) (pc := 184) (n := 8) (by decide +kernel) rfl).trans ?_
    refine (X_iconst (m := 231) (pc := 186) (n := 1) (by decide +kernel) ).trans ?_
    refine (X_isub (m := 231) (pc := 187)  (by decide +kernel) ).trans ?_
    refine (X_iaload (m := 231) (pc := 188)  (by decide +kernel) ).trans ?_
    refine ite_congr rfl (fun _ => ?_) (fun _ => rfl)
    refine (X_iastore (m := 231) (pc := 189)  (by decide +kernel) ).trans ?_
    refine ite_congr rfl (fun _ => ?_) (fun _ => rfl)
    refine (X_aload_n (m := 231) (pc := 190) (n := 0) (by decide +kernel) rfl).trans ?_
    refine (X_getR (m := 231) (pc := 191) (n := 37) (c := 11) (q := 20) (fi := true) (by decide +kernel) (by decide +kernel)).trans ?_
    refine ite_congr rfl (fun _ => ?_) (fun _ => rfl)
    refine (X_iload (m := 231) (pc := 194) (n := 8) (by decide +kernel) rfl).trans ?_
    refine (X_aload_n (m := 231) (pc := 196) (n := 0) (by decide +kernel) rfl).trans ?_
    refine (X_getR (m := 231) (pc := 197) (n := 37) (c := 11) (q := 20) (fi := true) (by decide +kernel) (by decide +kernel)).trans ?_
    refine ite_congr rfl (fun _ => ?_) (fun _ => rfl)
    refine (X_iload (m := 231) (pc := 200) (n := 8) (by decide +kernel) rfl).trans ?_
    refine (X_iconst (m := 231) (pc := 202) (n := 1) (by decide +kernel) ).trans ?_
    refine (X_isub (m := 231) (pc := 203)  (by decide +kernel) ).trans ?_
    refine (X_iaload (m := 231) (pc := 204)  (by decide +kernel) ).trans ?_
    refine ite_congr rfl (fun _ => ?_) (fun _ => rfl)
    refine (X_iastore (m := 231) (pc := 205)  (by decide +kernel) ).trans ?_
    refine ite_congr rfl (fun _ => ?_) (fun _ => rfl)
    refine (X_aload_n (m := 231) (pc := 206) (n := 0) (by decide +kernel) rfl).trans ?_
    rfl
theorem B_X11_puts_136 {k : Nat → Nat × Nat} {u : Nat → Nat → Int} {g : Nat → Nat → Nat} {t : Nat × Nat × Nat} {r0 : Nat} {x1 : Int} {x2 : Int} {x3 : Int} {x4 : Int} {x5 : Int} {x6 : Int} {x7 : Int} {v8 : AV} {y0 : Int} : a_X 231 136 [a_r (r0), a_i (x1), a_i (x2), a_i (x3), a_i (x4), a_i (x5), a_i (x6), a_i (x7), v8] [a_i (y0)] (k, u, g, t) = if (y0 : Int) ≠ 0 then if (k r0).1 = 11 then a_X 231 151 [a_r (r0), a_i (x1), a_i (x2), a_i (x3), a_i (x4), a_i (x5), a_i (x6), a_i (x7), a_i (u r0 22)] [] (k, u, g, t) else none else a_X 231 118 [a_r (r0), a_i (x1), a_i (x2), a_i (x3), a_i (x4), a_i (x5), a_i (x6), a_i (wr (x7 + 1)), v8] [] (k, u, g, t) := by
  refine (X_if_ne (m := 231) (pc := 136) (off := 9) (tg := 145) (by decide +kernel) (by decide +kernel)).trans ?_
  refine ite_congr rfl (fun _ => ?_) (fun _ => ?_)
  · refine (X_aload_n (m := 231) (pc := 145) (n := 0) (by decide +kernel) rfl).trans ?_
    refine (X_getI (m := 231) (pc := 146) (n := 322) (c := 11) (q := 22) (ty := 1) (fi := false) (by decide +kernel) (by decide +kernel) (by decide +kernel)).trans ?_
    refine ite_congr rfl (fun _ => ?_) (fun _ => rfl)
    refine (X_istore (m := 231) (pc := 149) (n := 8) (by decide +kernel) rfl (Nat.le_of_ble_eq_true rfl) rfl).trans ?_
    rfl
  · refine (X_iinc (m := 231) (pc := 139) (n := 7) (c := 1) (by decide +kernel) rfl rfl (Nat.le_of_ble_eq_true rfl) rfl).trans ?_
    refine (X_goto (m := 231) (pc := 142) (off := -24) (tg := 118) (by decide +kernel) (by decide +kernel)).trans ?_
    rfl
theorem B_X11_puts_207 {k : Nat → Nat × Nat} {u : Nat → Nat → Int} {g : Nat → Nat → Nat} {t : Nat × Nat × Nat} {r0 : Nat} {x1 : Int} {x2 : Int} {x3 : Int} {x4 : Int} {x5 : Int} {x6 : Int} {x7 : Int} {x8 : Int} {q0 : Nat} : a_X 231 207 [a_r (r0), a_i (x1), a_i (x2), a_i (x3), a_i (x4), a_i (x5), a_i (x6), a_i (x7), a_i (x8)] [a_r (q0)] (k, u, g, t) = if (k q0).1 = 11 then if (k r0).1 = 11 then if ((k (g r0 21)).1 = 20 ∨ (k (g r0 21)).1 = 24) ∧ 0 ≤ (wr (x8 - 1) : Int) ∧ (wr (x8 - 1) : Int) < ((k (g r0 21)).2 : Int) then if (k (g q0 21)).1 = 20 ∧ 0 ≤ (x8 : Int) ∧ (x8 : Int) < ((k (g q0 21)).2 : Int) then a_X 231 151 [a_r (r0), a_i (x1), a_i (x2), a_i (x3), a_i (x4), a_i (x5), a_i (x6), a_i (x7), a_i (wr (x8 + (-1)))] [] (k, (upm u (g q0 21) (x8 : Int).toNat (u (g r0 21) (wr (x8 - 1) : Int).toNat)), g, t) else none else none else none else none := by
  refine (X_getR (m := 231) (pc := 207) (n := 40) (c := 11) (q := 21) (fi := true) (by decide +kernel) (by decide +kernel)).trans ?_
  refine ite_congr rfl (fun _ => ?_) (fun _ => rfl)
  refine (X_iload (m := 231) (pc := 210) (n := 8) (by decide +kernel) rfl).trans ?_
  refine (X_aload_n (m := 231) (pc := 212) (n := 0) (by decide +kernel) rfl).trans ?_
  refine (X_getR (m := 231) (pc := 213) (n := 40) (c := 11) (q := 21) (fi := true) (by decide +kernel) (by decide +kernel)).trans ?_
  refine ite_congr rfl (fun _ => ?_) (fun _ => rfl)
  refine (X_iload (m := 231) (pc := 216) (n := 8) (by decide +kernel) rfl).trans ?_
  refine (X_iconst (m := 231) (pc := 218) (n := 1) (by decide +kernel) ).trans ?_
  refine (X_isub (m := 231) (pc := 219)  (by decide +kernel) ).trans ?_
  refine (X_iaload (m := 231) (pc := 220)  (by decide +kernel) ).trans ?_
  refine ite_congr rfl (fun _ => ?_) (fun _ => rfl)
  refine (X_iastore (m := 231) (pc := 221)  (by decide +kernel) ).trans ?_
  refine ite_congr rfl (fun _ => ?_) (fun _ => rfl)
  refine (X_iinc (m := 231) (pc := 222) (n := 8) (c := -1) (by decide +kernel) rfl rfl (Nat.le_of_ble_eq_true rfl) rfl).trans ?_
  refine (X_goto (m := 231) (pc := 225) (off := -74) (tg := 151) (by decide +kernel) (by decide +kernel)).trans ?_
  rfl
theorem E_X11_merges {σ : AS} {r0 : Nat} {x1 : Int} {x2 : Int} : a_m 232 [a_r (r0), a_i (x1), a_i (x2)] σ = a_X 232 0 [a_r (r0), a_i (x1), a_i (x2), a_x false] [] σ := a_m_eq (by rw [a_entry, show m_maxL 232 = 4 from by decide +kernel]; rfl)
theorem B_X11_merges_0 {k : Nat → Nat × Nat} {u : Nat → Nat → Int} {g : Nat → Nat → Nat} {t : Nat × Nat × Nat} {r0 : Nat} {x1 : Int} {x2 : Int} {v3 : AV} : a_X 232 0 [a_r (r0), a_i (x1), a_i (x2), v3] [] (k, u, g, t) = if (k r0).1 = 11 then a_X 232 7 [a_r (r0), a_i (x1), a_i (x2), a_i (0)] [] (k, (upm u r0 22 0), g, t) else none := by
  refine (X_aload_n (m := 232) (pc := 0) (n := 0) (by decide +kernel) rfl).trans ?_
  refine (X_iconst (m := 232) (pc := 1) (n := 0) (by decide +kernel) ).trans ?_
  refine (X_putI (m := 232) (pc := 2) (n := 322) (c := 11) (q := 22) (fi := false) (by decide +kernel) (by decide +kernel) (fun h => by cases h) (by decide +kernel)).trans ?_
  refine ite_congr rfl (fun _ => ?_) (fun _ => rfl)
  refine (X_iconst (m := 232) (pc := 5) (n := 0) (by decide +kernel) ).trans ?_
  refine (X_istore_n (m := 232) (pc := 6) (n := 3) (by decide +kernel) rfl (Nat.le_of_ble_eq_true rfl) rfl).trans ?_
  rfl
theorem B_X11_merges_7 {k : Nat → Nat × Nat} {u : Nat → Nat → Int} {g : Nat → Nat → Nat} {t : Nat × Nat × Nat} {r0 : Nat} {x1 : Int} {x2 : Int} {x3 : Int} : a_X 232 7 [a_r (r0), a_i (x1), a_i (x2), a_i (x3)] [] (k, u, g, t) = if (x3 : Int) ≥ (12 : Int) then some (.inl none, (k, u, g, t)) else if (k r0).1 = 11 then (a_m 173 [a_r (r0), a_i (x1), a_i (x3)] (k, u, g, t)).bind (a_back 232 16 3 [a_r (r0), a_i (x1), a_i (x2), a_i (x3)] []) else none := by
  refine (X_iload_n (m := 232) (pc := 7) (n := 3) (by decide +kernel) rfl).trans ?_
  refine (X_bipush (m := 232) (pc := 8) (n := 12) (by decide +kernel) ).trans ?_
  refine (X_ic_ge (m := 232) (pc := 10) (off := 54) (tg := 64) (by decide +kernel) (by decide +kernel)).trans ?_
  refine ite_congr rfl (fun _ => ?_) (fun _ => ?_)
  · exact X_return (m := 232) (pc := 64) (by decide +kernel) (by decide +kernel)
  · refine (X_aload_n (m := 232) (pc := 13) (n := 0) (by decide +kernel) rfl).trans ?_
    refine (X_iload_n (m := 232) (pc := 14) (n := 1) (by decide +kernel) rfl).trans ?_
    refine (X_iload_n (m := 232) (pc := 15) (n := 3) (by decide +kernel) rfl).trans ?_
    refine (X_call_vi (m := 232) (pc := 16) (q := 265) (y := 173) (n := 3) (as := [a_r (r0), a_i (x1), a_i (x3)]) (rest := []) (by decide +kernel) (by decide +kernel) (by decide +kernel) (by decide +kernel) rfl rfl (Nat.le_of_ble_eq_true rfl) (Nat.le_of_ble_eq_true rfl) rfl (by rw [show m_maxL 173 = 3 from by decide +kernel]; exact Nat.le_of_ble_eq_true rfl)).trans ?_
    exact ite_congr (by simp [a_rcv, show m_recv 173 = 11 from by decide +kernel]) (fun _ => rfl) (fun _ => rfl)
theorem B_X11_merges_19 {k : Nat → Nat × Nat} {u : Nat → Nat → Int} {g : Nat → Nat → Nat} {t : Nat × Nat × Nat} {r0 : Nat} {x1 : Int} {x2 : Int} {x3 : Int} {y0 : Int} : a_X 232 19 [a_r (r0), a_i (x1), a_i (x2), a_i (x3)] [a_i (y0)] (k, u, g, t) = if (y0 : Int) ≠ 0 then a_X 232 7 [a_r (r0), a_i (x1), a_i (x2), a_i (wr (x3 + 1))] [] (k, u, g, t) else if (k r0).1 = 11 then (a_m 165 [a_r (r0), a_i (x1), a_i (x3), a_i (1)] (k, u, g, t)).bind (a_back 232 26 3 [a_r (r0), a_i (x1), a_i (x2), a_i (x3)] []) else none := by
  refine (X_if_ne (m := 232) (pc := 19) (off := 39) (tg := 58) (by decide +kernel) (by decide +kernel)).trans ?_
  refine ite_congr rfl (fun _ => ?_) (fun _ => ?_)
  · refine (X_iinc (m := 232) (pc := 58) (n := 3) (c := 1) (by decide +kernel) rfl rfl (Nat.le_of_ble_eq_true rfl) rfl).trans ?_
    refine (X_goto (m := 232) (pc := 61) (off := -54) (tg := 7) (by decide +kernel) (by decide +kernel)).trans ?_
    rfl
  · refine (X_aload_n (m := 232) (pc := 22) (n := 0) (by decide +kernel) rfl).trans ?_
    refine (X_iload_n (m := 232) (pc := 23) (n := 1) (by decide +kernel) rfl).trans ?_
    refine (X_iload_n (m := 232) (pc := 24) (n := 3) (by decide +kernel) rfl).trans ?_
    refine (X_iconst (m := 232) (pc := 25) (n := 1) (by decide +kernel) ).trans ?_
    refine (X_call_vi (m := 232) (pc := 26) (q := 82) (y := 165) (n := 4) (as := [a_r (r0), a_i (x1), a_i (x3), a_i (1)]) (rest := []) (by decide +kernel) (by decide +kernel) (by decide +kernel) (by decide +kernel) rfl rfl (Nat.le_of_ble_eq_true rfl) (Nat.le_of_ble_eq_true rfl) rfl (by rw [show m_maxL 165 = 4 from by decide +kernel]; exact Nat.le_of_ble_eq_true rfl)).trans ?_
    exact ite_congr (by simp [a_rcv, show m_recv 165 = 11 from by decide +kernel]) (fun _ => rfl) (fun _ => rfl)
theorem B_X11_merges_29 {k : Nat → Nat × Nat} {u : Nat → Nat → Int} {g : Nat → Nat → Nat} {t : Nat × Nat × Nat} {r0 : Nat} {x1 : Int} {x2 : Int} {x3 : Int} {y0 : Int} : a_X 232 29 [a_r (r0), a_i (x1), a_i (x2), a_i (x3)] [a_i (y0)] (k, u, g, t) = if (y0 : Int) ≠ (x2 : Int) then a_X 232 7 [a_r (r0), a_i (x1), a_i (x2), a_i (wr (x3 + 1))] [] (k, u, g, t) else if (k r0).1 = 11 then (a_m 165 [a_r (r0), a_i (x1), a_i (x3), a_i (0)] (k, u, g, t)).bind (a_back 232 38 3 [a_r (r0), a_i (x1), a_i (x2), a_i (x3)] [a_r (r0)]) else none := by
  refine (X_iload_n (m := 232) (pc := 29) (n := 2) (by decide +kernel) rfl).trans ?_
  refine (X_ic_ne (m := 232) (pc := 30) (off := 28) (tg := 58) (by decide +kernel) (by decide +kernel)).trans ?_
  refine ite_congr rfl (fun _ => ?_) (fun _ => ?_)
  · refine (X_iinc (m := 232) (pc := 58) (n := 3) (c := 1) (by decide +kernel) rfl rfl (Nat.le_of_ble_eq_true rfl) rfl).trans ?_
    refine (X_goto (m := 232) (pc := 61) (off := -54) (tg := 7) (by decide +kernel) (by decide +kernel)).trans ?_
    rfl
  · refine (X_aload_n (m := 232) (pc := 33) (n := 0) (by decide +kernel) rfl).trans ?_
    refine (X_aload_n (m := 232) (pc := 34) (n := 0) (by decide +kernel) rfl).trans ?_
    refine (X_iload_n (m := 232) (pc := 35) (n := 1) (by decide +kernel) rfl).trans ?_
    refine (X_iload_n (m := 232) (pc := 36) (n := 3) (by decide +kernel) rfl).trans ?_
    refine (X_iconst (m := 232) (pc := 37) (n := 0) (by decide +kernel) ).trans ?_
    refine (X_call_vi (m := 232) (pc := 38) (q := 82) (y := 165) (n := 4) (as := [a_r (r0), a_i (x1), a_i (x3), a_i (0)]) (rest := [a_r (r0)]) (by decide +kernel) (by decide +kernel) (by decide +kernel) (by decide +kernel) rfl rfl (Nat.le_of_ble_eq_true rfl) (Nat.le_of_ble_eq_true rfl) rfl (by rw [show m_maxL 165 = 4 from by decide +kernel]; exact Nat.le_of_ble_eq_true rfl)).trans ?_
    exact ite_congr (by simp [a_rcv, show m_recv 165 = 11 from by decide +kernel]) (fun _ => rfl) (fun _ => rfl)
theorem B_X11_merges_41 {k : Nat → Nat × Nat} {u : Nat → Nat → Int} {g : Nat → Nat → Nat} {t : Nat × Nat × Nat} {r0 : Nat} {x1 : Int} {x2 : Int} {x3 : Int} {q0 : Nat} {y1 : Int} : a_X 232 41 [a_r (r0), a_i (x1), a_i (x2), a_i (x3)] [a_i (y1), a_r (q0)] (k, u, g, t) = if (k r0).1 = 11 then (a_m 165 [a_r (r0), a_i (x1), a_i (x3), a_i (2)] (k, u, g, t)).bind (a_back 232 45 3 [a_r (r0), a_i (x1), a_i (x2), a_i (x3)] [a_i (y1), a_r (q0)]) else none := by
  refine (X_aload_n (m := 232) (pc := 41) (n := 0) (by decide +kernel) rfl).trans ?_
  refine (X_iload_n (m := 232) (pc := 42) (n := 1) (by decide +kernel) rfl).trans ?_
  refine (X_iload_n (m := 232) (pc := 43) (n := 3) (by decide +kernel) rfl).trans ?_
  refine (X_iconst (m := 232) (pc := 44) (n := 2) (by decide +kernel) ).trans ?_
  refine (X_call_vi (m := 232) (pc := 45) (q := 82) (y := 165) (n := 4) (as := [a_r (r0), a_i (x1), a_i (x3), a_i (2)]) (rest := [a_i (y1), a_r (q0)]) (by decide +kernel) (by decide +kernel) (by decide +kernel) (by decide +kernel) rfl rfl (Nat.le_of_ble_eq_true rfl) (Nat.le_of_ble_eq_true rfl) rfl (by rw [show m_maxL 165 = 4 from by decide +kernel]; exact Nat.le_of_ble_eq_true rfl)).trans ?_
  exact ite_congr (by simp [a_rcv, show m_recv 165 = 11 from by decide +kernel]) (fun _ => rfl) (fun _ => rfl)
theorem B_X11_merges_48 {k : Nat → Nat × Nat} {u : Nat → Nat → Int} {g : Nat → Nat → Nat} {t : Nat × Nat × Nat} {r0 : Nat} {x1 : Int} {x2 : Int} {x3 : Int} {q0 : Nat} {y1 : Int} {y2 : Int} : a_X 232 48 [a_r (r0), a_i (x1), a_i (x2), a_i (x3)] [a_i (y2), a_i (y1), a_r (q0)] (k, u, g, t) = if (k r0).1 = 11 then (a_m 165 [a_r (r0), a_i (x1), a_i (x3), a_i (3)] (k, u, g, t)).bind (a_back 232 52 3 [a_r (r0), a_i (x1), a_i (x2), a_i (x3)] [a_i (y2), a_i (y1), a_r (q0)]) else none := by
  refine (X_aload_n (m := 232) (pc := 48) (n := 0) (by decide +kernel) rfl).trans ?_
  refine (X_iload_n (m := 232) (pc := 49) (n := 1) (by decide +kernel) rfl).trans ?_
  refine (X_iload_n (m := 232) (pc := 50) (n := 3) (by decide +kernel) rfl).trans ?_
  refine (X_iconst (m := 232) (pc := 51) (n := 3) (by decide +kernel) ).trans ?_
  refine (X_call_vi (m := 232) (pc := 52) (q := 82) (y := 165) (n := 4) (as := [a_r (r0), a_i (x1), a_i (x3), a_i (3)]) (rest := [a_i (y2), a_i (y1), a_r (q0)]) (by decide +kernel) (by decide +kernel) (by decide +kernel) (by decide +kernel) rfl rfl (Nat.le_of_ble_eq_true rfl) (Nat.le_of_ble_eq_true rfl) rfl (by rw [show m_maxL 165 = 4 from by decide +kernel]; exact Nat.le_of_ble_eq_true rfl)).trans ?_
  exact ite_congr (by simp [a_rcv, show m_recv 165 = 11 from by decide +kernel]) (fun _ => rfl) (fun _ => rfl)
theorem B_X11_merges_55 {k : Nat → Nat × Nat} {u : Nat → Nat → Int} {g : Nat → Nat → Nat} {t : Nat × Nat × Nat} {r0 : Nat} {x1 : Int} {x2 : Int} {x3 : Int} {q0 : Nat} {y1 : Int} {y2 : Int} {y3 : Int} : a_X 232 55 [a_r (r0), a_i (x1), a_i (x2), a_i (x3)] [a_i (y3), a_i (y2), a_i (y1), a_r (q0)] (k, u, g, t) = if (k q0).1 = 11 then (a_m 231 [a_r (q0), a_i (y1), a_i (y2), a_i (y3)] (k, u, g, t)).bind (a_back 232 55 3 [a_r (r0), a_i (x1), a_i (x2), a_i (x3)] []) else none := by
  refine (X_call_vi (m := 232) (pc := 55) (q := 331) (y := 231) (n := 4) (as := [a_r (q0), a_i (y1), a_i (y2), a_i (y3)]) (rest := []) (by decide +kernel) (by decide +kernel) (by decide +kernel) (by decide +kernel) rfl rfl (Nat.le_of_ble_eq_true rfl) (Nat.le_of_ble_eq_true rfl) rfl (by rw [show m_maxL 231 = 9 from by decide +kernel]; exact Nat.le_of_ble_eq_true rfl)).trans ?_
  exact ite_congr (by simp [a_rcv, show m_recv 231 = 11 from by decide +kernel]) (fun _ => rfl) (fun _ => rfl)
theorem B_X11_merges_58 {k : Nat → Nat × Nat} {u : Nat → Nat → Int} {g : Nat → Nat → Nat} {t : Nat × Nat × Nat} {r0 : Nat} {x1 : Int} {x2 : Int} {x3 : Int} : a_X 232 58 [a_r (r0), a_i (x1), a_i (x2), a_i (x3)] [] (k, u, g, t) = a_X 232 7 [a_r (r0), a_i (x1), a_i (x2), a_i (wr (x3 + 1))] [] (k, u, g, t) := by
  refine (X_iinc (m := 232) (pc := 58) (n := 3) (c := 1) (by decide +kernel) rfl rfl (Nat.le_of_ble_eq_true rfl) rfl).trans ?_
  refine (X_goto (m := 232) (pc := 61) (off := -54) (tg := 7) (by decide +kernel) (by decide +kernel)).trans ?_
  rfl
theorem E_X11_noDay {σ : AS} {r0 : Nat} {x1 : Int} {x2 : Int} : a_m 233 [a_r (r0), a_i (x1), a_i (x2)] σ = a_X 233 0 [a_r (r0), a_i (x1), a_i (x2)] [] σ := a_m_eq (by rw [a_entry, show m_maxL 233 = 3 from by decide +kernel]; rfl)
theorem B_X11_noDay_0 {k : Nat → Nat × Nat} {u : Nat → Nat → Int} {g : Nat → Nat → Nat} {t : Nat × Nat × Nat} {r0 : Nat} {x1 : Int} {x2 : Int} : a_X 233 0 [a_r (r0), a_i (x1), a_i (x2)] [] (k, u, g, t) = if (k r0).1 = 11 then (a_m 160 [a_r (r0), a_i (x1)] (k, u, g, t)).bind (a_back 233 2 3 [a_r (r0), a_i (x1), a_i (x2)] []) else none := by
  refine (X_aload_n (m := 233) (pc := 0) (n := 0) (by decide +kernel) rfl).trans ?_
  refine (X_iload_n (m := 233) (pc := 1) (n := 1) (by decide +kernel) rfl).trans ?_
  refine (X_call_vi (m := 233) (pc := 2) (q := 280) (y := 160) (n := 2) (as := [a_r (r0), a_i (x1)]) (rest := []) (by decide +kernel) (by decide +kernel) (by decide +kernel) (by decide +kernel) rfl rfl (Nat.le_of_ble_eq_true rfl) (Nat.le_of_ble_eq_true rfl) rfl (by rw [show m_maxL 160 = 2 from by decide +kernel]; exact Nat.le_of_ble_eq_true rfl)).trans ?_
  exact ite_congr (by simp [a_rcv, show m_recv 160 = 11 from by decide +kernel]) (fun _ => rfl) (fun _ => rfl)
theorem B_X11_noDay_5 {k : Nat → Nat × Nat} {u : Nat → Nat → Int} {g : Nat → Nat → Nat} {t : Nat × Nat × Nat} {r0 : Nat} {x1 : Int} {x2 : Int} {y0 : Int} : a_X 233 5 [a_r (r0), a_i (x1), a_i (x2)] [a_i (y0)] (k, u, g, t) = if (y0 : Int) ≠ 0 then some (.inl (some (a_i (1))), (k, u, g, t)) else (a_m 162 [a_i (x2)] (k, u, g, t)).bind (a_back 233 10 3 [a_r (r0), a_i (x1), a_i (x2)] [a_r (r0)]) := by
  refine (X_if_ne (m := 233) (pc := 5) (off := 23) (tg := 28) (by decide +kernel) (by decide +kernel)).trans ?_
  refine ite_congr rfl (fun _ => ?_) (fun _ => ?_)
  · refine (X_iconst (m := 233) (pc := 28) (n := 1) (by decide +kernel) ).trans ?_
    refine (X_goto (m := 233) (pc := 29) (off := 4) (tg := 33) (by decide +kernel) (by decide +kernel)).trans ?_
    exact X_ireturn (m := 233) (pc := 33) (f := 2) (by decide +kernel) (by decide +kernel) rfl
  · refine (X_aload_n (m := 233) (pc := 8) (n := 0) (by decide +kernel) rfl).trans ?_
    refine (X_iload_n (m := 233) (pc := 9) (n := 2) (by decide +kernel) rfl).trans ?_
    refine (X_call_st (m := 233) (pc := 10) (q := 311) (y := 162) (n := 1) (as := [a_i (x2)]) (rest := [a_r (r0)]) (by decide +kernel) (by decide +kernel) (by decide +kernel) (by decide +kernel) rfl rfl (Nat.le_of_ble_eq_true rfl) (Nat.le_of_ble_eq_true rfl) rfl (by rw [show m_maxL 162 = 1 from by decide +kernel]; exact Nat.le_of_ble_eq_true rfl)).trans ?_
    exact if_pos rfl
theorem B_X11_noDay_13 {k : Nat → Nat × Nat} {u : Nat → Nat → Int} {g : Nat → Nat → Nat} {t : Nat × Nat × Nat} {r0 : Nat} {x1 : Int} {x2 : Int} {q0 : Nat} {y1 : Int} : a_X 233 13 [a_r (r0), a_i (x1), a_i (x2)] [a_i (y1), a_r (q0)] (k, u, g, t) = if (y1 : Int) ≠ 0 then if (k q0).1 = 11 then (a_m 157 [a_r (q0), a_i (0), a_i (3)] (k, u, g, t)).bind (a_back 233 22 3 [a_r (r0), a_i (x1), a_i (x2)] []) else none else if (k q0).1 = 11 then (a_m 157 [a_r (q0), a_i (1), a_i (3)] (k, u, g, t)).bind (a_back 233 22 3 [a_r (r0), a_i (x1), a_i (x2)] []) else none := by
  refine (X_if_ne (m := 233) (pc := 13) (off := 7) (tg := 20) (by decide +kernel) (by decide +kernel)).trans ?_
  refine ite_congr rfl (fun _ => ?_) (fun _ => ?_)
  · refine (X_iconst (m := 233) (pc := 20) (n := 0) (by decide +kernel) ).trans ?_
    refine (X_iconst (m := 233) (pc := 21) (n := 3) (by decide +kernel) ).trans ?_
    refine (X_call_vi (m := 233) (pc := 22) (q := 53) (y := 157) (n := 3) (as := [a_r (q0), a_i (0), a_i (3)]) (rest := []) (by decide +kernel) (by decide +kernel) (by decide +kernel) (by decide +kernel) rfl rfl (Nat.le_of_ble_eq_true rfl) (Nat.le_of_ble_eq_true rfl) rfl (by rw [show m_maxL 157 = 3 from by decide +kernel]; exact Nat.le_of_ble_eq_true rfl)).trans ?_
    exact ite_congr (by simp [a_rcv, show m_recv 157 = 11 from by decide +kernel]) (fun _ => rfl) (fun _ => rfl)
  · refine (X_iconst (m := 233) (pc := 16) (n := 1) (by decide +kernel) ).trans ?_
    refine (X_goto (m := 233) (pc := 17) (off := 4) (tg := 21) (by decide +kernel) (by decide +kernel)).trans ?_
    refine (X_iconst (m := 233) (pc := 21) (n := 3) (by decide +kernel) ).trans ?_
    refine (X_call_vi (m := 233) (pc := 22) (q := 53) (y := 157) (n := 3) (as := [a_r (q0), a_i (1), a_i (3)]) (rest := []) (by decide +kernel) (by decide +kernel) (by decide +kernel) (by decide +kernel) rfl rfl (Nat.le_of_ble_eq_true rfl) (Nat.le_of_ble_eq_true rfl) rfl (by rw [show m_maxL 157 = 3 from by decide +kernel]; exact Nat.le_of_ble_eq_true rfl)).trans ?_
    exact ite_congr (by simp [a_rcv, show m_recv 157 = 11 from by decide +kernel]) (fun _ => rfl) (fun _ => rfl)
theorem B_X11_noDay_25 {k : Nat → Nat × Nat} {u : Nat → Nat → Int} {g : Nat → Nat → Nat} {t : Nat × Nat × Nat} {r0 : Nat} {x1 : Int} {x2 : Int} {y0 : Int} : a_X 233 25 [a_r (r0), a_i (x1), a_i (x2)] [a_i (y0)] (k, u, g, t) = if (y0 : Int) = 0 then some (.inl (some (a_i (0))), (k, u, g, t)) else some (.inl (some (a_i (1))), (k, u, g, t)) := by
  refine (X_if_eq (m := 233) (pc := 25) (off := 7) (tg := 32) (by decide +kernel) (by decide +kernel)).trans ?_
  refine ite_congr rfl (fun _ => ?_) (fun _ => ?_)
  · refine (X_iconst (m := 233) (pc := 32) (n := 0) (by decide +kernel) ).trans ?_
    exact X_ireturn (m := 233) (pc := 33) (f := 2) (by decide +kernel) (by decide +kernel) rfl
  · refine (X_iconst (m := 233) (pc := 28) (n := 1) (by decide +kernel) ).trans ?_
    refine (X_goto (m := 233) (pc := 29) (off := 4) (tg := 33) (by decide +kernel) (by decide +kernel)).trans ?_
    exact X_ireturn (m := 233) (pc := 33) (f := 2) (by decide +kernel) (by decide +kernel) rfl
theorem E_X11_merged {σ : AS} {r0 : Nat} {x1 : Int} {x2 : Int} : a_m 234 [a_r (r0), a_i (x1), a_i (x2)] σ = a_X 234 0 [a_r (r0), a_i (x1), a_i (x2)] [] σ := a_m_eq (by rw [a_entry, show m_maxL 234 = 3 from by decide +kernel]; rfl)
theorem B_X11_merged_0 {k : Nat → Nat × Nat} {u : Nat → Nat → Int} {g : Nat → Nat → Nat} {t : Nat × Nat × Nat} {r0 : Nat} {x1 : Int} {x2 : Int} : a_X 234 0 [a_r (r0), a_i (x1), a_i (x2)] [] (k, u, g, t) = if (k r0).1 = 11 then (a_m 233 [a_r (r0), a_i (x1), a_i (x2)] (k, u, g, t)).bind (a_back 234 3 3 [a_r (r0), a_i (x1), a_i (x2)] []) else none := by
  refine (X_aload_n (m := 234) (pc := 0) (n := 0) (by decide +kernel) rfl).trans ?_
  refine (X_iload_n (m := 234) (pc := 1) (n := 1) (by decide +kernel) rfl).trans ?_
  refine (X_iload_n (m := 234) (pc := 2) (n := 2) (by decide +kernel) rfl).trans ?_
  refine (X_call_vi (m := 234) (pc := 3) (q := 334) (y := 233) (n := 3) (as := [a_r (r0), a_i (x1), a_i (x2)]) (rest := []) (by decide +kernel) (by decide +kernel) (by decide +kernel) (by decide +kernel) rfl rfl (Nat.le_of_ble_eq_true rfl) (Nat.le_of_ble_eq_true rfl) rfl (by rw [show m_maxL 233 = 3 from by decide +kernel]; exact Nat.le_of_ble_eq_true rfl)).trans ?_
  exact ite_congr (by simp [a_rcv, show m_recv 233 = 11 from by decide +kernel]) (fun _ => rfl) (fun _ => rfl)
theorem B_X11_merged_6 {k : Nat → Nat × Nat} {u : Nat → Nat → Int} {g : Nat → Nat → Nat} {t : Nat × Nat × Nat} {r0 : Nat} {x1 : Int} {x2 : Int} {y0 : Int} : a_X 234 6 [a_r (r0), a_i (x1), a_i (x2)] [a_i (y0)] (k, u, g, t) = if (y0 : Int) = 0 then if (k r0).1 = 11 then (a_m 232 [a_r (r0), a_i (x1), a_i (x2)] (k, u, g, t)).bind (a_back 234 14 3 [a_r (r0), a_i (x1), a_i (x2)] []) else none else some (.inl (some (a_i (0))), (k, u, g, t)) := by
  refine (X_if_eq (m := 234) (pc := 6) (off := 5) (tg := 11) (by decide +kernel) (by decide +kernel)).trans ?_
  refine ite_congr rfl (fun _ => ?_) (fun _ => ?_)
  · refine (X_aload_n (m := 234) (pc := 11) (n := 0) (by decide +kernel) rfl).trans ?_
    refine (X_iload_n (m := 234) (pc := 12) (n := 1) (by decide +kernel) rfl).trans ?_
    refine (X_iload_n (m := 234) (pc := 13) (n := 2) (by decide +kernel) rfl).trans ?_
    refine (X_call_vi (m := 234) (pc := 14) (q := 337) (y := 232) (n := 3) (as := [a_r (r0), a_i (x1), a_i (x2)]) (rest := []) (by decide +kernel) (by decide +kernel) (by decide +kernel) (by decide +kernel) rfl rfl (Nat.le_of_ble_eq_true rfl) (Nat.le_of_ble_eq_true rfl) rfl (by rw [show m_maxL 232 = 4 from by decide +kernel]; exact Nat.le_of_ble_eq_true rfl)).trans ?_
    exact ite_congr (by simp [a_rcv, show m_recv 232 = 11 from by decide +kernel]) (fun _ => rfl) (fun _ => rfl)
  · refine (X_iconst (m := 234) (pc := 9) (n := 0) (by decide +kernel) ).trans ?_
    exact X_ireturn (m := 234) (pc := 10) (f := 1) (by decide +kernel) (by decide +kernel) rfl
theorem B_X11_merged_17 {k : Nat → Nat × Nat} {u : Nat → Nat → Int} {g : Nat → Nat → Nat} {t : Nat × Nat × Nat} {r0 : Nat} {x1 : Int} {x2 : Int} : a_X 234 17 [a_r (r0), a_i (x1), a_i (x2)] [] (k, u, g, t) = if (k r0).1 = 11 then some (.inl (some (a_i (u r0 22))), (k, u, g, t)) else none := by
  refine (X_aload_n (m := 234) (pc := 17) (n := 0) (by decide +kernel) rfl).trans ?_
  refine (X_getI (m := 234) (pc := 18) (n := 322) (c := 11) (q := 22) (ty := 1) (fi := false) (by decide +kernel) (by decide +kernel) (by decide +kernel)).trans ?_
  refine ite_congr rfl (fun _ => ?_) (fun _ => rfl)
  exact X_ireturn (m := 234) (pc := 21) (f := 1) (by decide +kernel) (by decide +kernel) rfl
theorem E_X11_mergedStop {σ : AS} {r0 : Nat} {x1 : Int} {x2 : Int} {x3 : Int} {x4 : Int} : a_m 235 [a_r (r0), a_i (x1), a_i (x2), a_i (x3), a_i (x4)] σ = a_X 235 0 [a_r (r0), a_i (x1), a_i (x2), a_i (x3), a_i (x4)] [] σ := a_m_eq (by rw [a_entry, show m_maxL 235 = 5 from by decide +kernel]; rfl)
theorem B_X11_mergedStop_0 {k : Nat → Nat × Nat} {u : Nat → Nat → Int} {g : Nat → Nat → Nat} {t : Nat × Nat × Nat} {r0 : Nat} {x1 : Int} {x2 : Int} {x3 : Int} {x4 : Int} : a_X 235 0 [a_r (r0), a_i (x1), a_i (x2), a_i (x3), a_i (x4)] [] (k, u, g, t) = if (k r0).1 = 11 then (a_m 233 [a_r (r0), a_i (x1), a_i (x2)] (k, u, g, t)).bind (a_back 235 3 3 [a_r (r0), a_i (x1), a_i (x2), a_i (x3), a_i (x4)] []) else none := by
  refine (X_aload_n (m := 235) (pc := 0) (n := 0) (by decide +kernel) rfl).trans ?_
  refine (X_iload_n (m := 235) (pc := 1) (n := 1) (by decide +kernel) rfl).trans ?_
  refine (X_iload_n (m := 235) (pc := 2) (n := 2) (by decide +kernel) rfl).trans ?_
  refine (X_call_vi (m := 235) (pc := 3) (q := 334) (y := 233) (n := 3) (as := [a_r (r0), a_i (x1), a_i (x2)]) (rest := []) (by decide +kernel) (by decide +kernel) (by decide +kernel) (by decide +kernel) rfl rfl (Nat.le_of_ble_eq_true rfl) (Nat.le_of_ble_eq_true rfl) rfl (by rw [show m_maxL 233 = 3 from by decide +kernel]; exact Nat.le_of_ble_eq_true rfl)).trans ?_
  exact ite_congr (by simp [a_rcv, show m_recv 233 = 11 from by decide +kernel]) (fun _ => rfl) (fun _ => rfl)
theorem B_X11_mergedStop_6 {k : Nat → Nat × Nat} {u : Nat → Nat → Int} {g : Nat → Nat → Nat} {t : Nat × Nat × Nat} {r0 : Nat} {x1 : Int} {x2 : Int} {x3 : Int} {x4 : Int} {y0 : Int} : a_X 235 6 [a_r (r0), a_i (x1), a_i (x2), a_i (x3), a_i (x4)] [a_i (y0)] (k, u, g, t) = if (y0 : Int) ≠ 0 then some (.inl (some (a_i (0))), (k, u, g, t)) else (a_m 155 [a_l (x4), a_l (0), a_l (3)] (k, u, g, t)).bind (a_back 235 17 3 [a_r (r0), a_i (x1), a_i (x2), a_i (x3), a_i (x4)] [a_r (r0)]) := by
  refine (X_if_ne (m := 235) (pc := 6) (off := 29) (tg := 35) (by decide +kernel) (by decide +kernel)).trans ?_
  refine ite_congr rfl (fun _ => ?_) (fun _ => ?_)
  · refine (X_iconst (m := 235) (pc := 35) (n := 0) (by decide +kernel) ).trans ?_
    exact X_ireturn (m := 235) (pc := 36) (f := 1) (by decide +kernel) (by decide +kernel) rfl
  · refine (X_aload_n (m := 235) (pc := 9) (n := 0) (by decide +kernel) rfl).trans ?_
    refine (X_iload (m := 235) (pc := 10) (n := 4) (by decide +kernel) rfl).trans ?_
    refine (X_i2l (m := 235) (pc := 12)  (by decide +kernel) ).trans ?_
    refine (X_lconst (m := 235) (pc := 13) (n := 0) (by decide +kernel) ).trans ?_
    refine (X_ldc2 (m := 235) (pc := 14) (n := 340) (z := 3) (by decide +kernel) (by decide +kernel)).trans ?_
    refine (X_call_st (m := 235) (pc := 17) (q := 61) (y := 155) (n := 3) (as := [a_l (x4), a_l (0), a_l (3)]) (rest := [a_r (r0)]) (by decide +kernel) (by decide +kernel) (by decide +kernel) (by decide +kernel) rfl rfl (Nat.le_of_ble_eq_true rfl) (Nat.le_of_ble_eq_true rfl) rfl (by rw [show m_maxL 155 = 6 from by decide +kernel]; exact Nat.le_of_ble_eq_true rfl)).trans ?_
    exact if_pos rfl
theorem B_X11_mergedStop_20 {k : Nat → Nat × Nat} {u : Nat → Nat → Int} {g : Nat → Nat → Nat} {t : Nat × Nat × Nat} {r0 : Nat} {x1 : Int} {x2 : Int} {x3 : Int} {x4 : Int} {q0 : Nat} {y1 : Int} : a_X 235 20 [a_r (r0), a_i (x1), a_i (x2), a_i (x3), a_i (x4)] [a_i (y1), a_r (q0)] (k, u, g, t) = if (y1 : Int) ≠ 0 then if (k q0).1 = 11 then (a_m 157 [a_r (q0), a_i (0), a_i (3)] (k, u, g, t)).bind (a_back 235 29 3 [a_r (r0), a_i (x1), a_i (x2), a_i (x3), a_i (x4)] []) else none else if (k q0).1 = 11 then (a_m 157 [a_r (q0), a_i (1), a_i (3)] (k, u, g, t)).bind (a_back 235 29 3 [a_r (r0), a_i (x1), a_i (x2), a_i (x3), a_i (x4)] []) else none := by
  refine (X_if_ne (m := 235) (pc := 20) (off := 7) (tg := 27) (by decide +kernel) (by decide +kernel)).trans ?_
  refine ite_congr rfl (fun _ => ?_) (fun _ => ?_)
  · refine (X_iconst (m := 235) (pc := 27) (n := 0) (by decide +kernel) ).trans ?_
    refine (X_iconst (m := 235) (pc := 28) (n := 3) (by decide +kernel) ).trans ?_
    refine (X_call_vi (m := 235) (pc := 29) (q := 53) (y := 157) (n := 3) (as := [a_r (q0), a_i (0), a_i (3)]) (rest := []) (by decide +kernel) (by decide +kernel) (by decide +kernel) (by decide +kernel) rfl rfl (Nat.le_of_ble_eq_true rfl) (Nat.le_of_ble_eq_true rfl) rfl (by rw [show m_maxL 157 = 3 from by decide +kernel]; exact Nat.le_of_ble_eq_true rfl)).trans ?_
    exact ite_congr (by simp [a_rcv, show m_recv 157 = 11 from by decide +kernel]) (fun _ => rfl) (fun _ => rfl)
  · refine (X_iconst (m := 235) (pc := 23) (n := 1) (by decide +kernel) ).trans ?_
    refine (X_goto (m := 235) (pc := 24) (off := 4) (tg := 28) (by decide +kernel) (by decide +kernel)).trans ?_
    refine (X_iconst (m := 235) (pc := 28) (n := 3) (by decide +kernel) ).trans ?_
    refine (X_call_vi (m := 235) (pc := 29) (q := 53) (y := 157) (n := 3) (as := [a_r (q0), a_i (1), a_i (3)]) (rest := []) (by decide +kernel) (by decide +kernel) (by decide +kernel) (by decide +kernel) rfl rfl (Nat.le_of_ble_eq_true rfl) (Nat.le_of_ble_eq_true rfl) rfl (by rw [show m_maxL 157 = 3 from by decide +kernel]; exact Nat.le_of_ble_eq_true rfl)).trans ?_
    exact ite_congr (by simp [a_rcv, show m_recv 157 = 11 from by decide +kernel]) (fun _ => rfl) (fun _ => rfl)
theorem B_X11_mergedStop_32 {k : Nat → Nat × Nat} {u : Nat → Nat → Int} {g : Nat → Nat → Nat} {t : Nat × Nat × Nat} {r0 : Nat} {x1 : Int} {x2 : Int} {x3 : Int} {x4 : Int} {y0 : Int} : a_X 235 32 [a_r (r0), a_i (x1), a_i (x2), a_i (x3), a_i (x4)] [a_i (y0)] (k, u, g, t) = if (y0 : Int) = 0 then if (k r0).1 = 11 then (a_m 232 [a_r (r0), a_i (x1), a_i (x2)] (k, u, g, t)).bind (a_back 235 40 3 [a_r (r0), a_i (x1), a_i (x2), a_i (x3), a_i (x4)] []) else none else some (.inl (some (a_i (0))), (k, u, g, t)) := by
  refine (X_if_eq (m := 235) (pc := 32) (off := 5) (tg := 37) (by decide +kernel) (by decide +kernel)).trans ?_
  refine ite_congr rfl (fun _ => ?_) (fun _ => ?_)
  · refine (X_aload_n (m := 235) (pc := 37) (n := 0) (by decide +kernel) rfl).trans ?_
    refine (X_iload_n (m := 235) (pc := 38) (n := 1) (by decide +kernel) rfl).trans ?_
    refine (X_iload_n (m := 235) (pc := 39) (n := 2) (by decide +kernel) rfl).trans ?_
    refine (X_call_vi (m := 235) (pc := 40) (q := 337) (y := 232) (n := 3) (as := [a_r (r0), a_i (x1), a_i (x2)]) (rest := []) (by decide +kernel) (by decide +kernel) (by decide +kernel) (by decide +kernel) rfl rfl (Nat.le_of_ble_eq_true rfl) (Nat.le_of_ble_eq_true rfl) rfl (by rw [show m_maxL 232 = 4 from by decide +kernel]; exact Nat.le_of_ble_eq_true rfl)).trans ?_
    exact ite_congr (by simp [a_rcv, show m_recv 232 = 11 from by decide +kernel]) (fun _ => rfl) (fun _ => rfl)
  · refine (X_iconst (m := 235) (pc := 35) (n := 0) (by decide +kernel) ).trans ?_
    exact X_ireturn (m := 235) (pc := 36) (f := 1) (by decide +kernel) (by decide +kernel) rfl
theorem B_X11_mergedStop_43 {k : Nat → Nat × Nat} {u : Nat → Nat → Int} {g : Nat → Nat → Nat} {t : Nat × Nat × Nat} {r0 : Nat} {x1 : Int} {x2 : Int} {x3 : Int} {x4 : Int} : a_X 235 43 [a_r (r0), a_i (x1), a_i (x2), a_i (x3), a_i (x4)] [] (k, u, g, t) = if (k r0).1 = 11 then (a_m 155 [a_l (x3), a_l (0), a_l (wr ((u r0 22) - 1))] (k, u, g, t)).bind (a_back 235 53 3 [a_r (r0), a_i (x1), a_i (x2), a_i (x3), a_i (x4)] []) else none := by
  refine (X_iload_n (m := 235) (pc := 43) (n := 3) (by decide +kernel) rfl).trans ?_
  refine (X_i2l (m := 235) (pc := 44)  (by decide +kernel) ).trans ?_
  refine (X_lconst (m := 235) (pc := 45) (n := 0) (by decide +kernel) ).trans ?_
  refine (X_aload_n (m := 235) (pc := 46) (n := 0) (by decide +kernel) rfl).trans ?_
  refine (X_getI (m := 235) (pc := 47) (n := 322) (c := 11) (q := 22) (ty := 1) (fi := false) (by decide +kernel) (by decide +kernel) (by decide +kernel)).trans ?_
  refine ite_congr rfl (fun _ => ?_) (fun _ => rfl)
  refine (X_iconst (m := 235) (pc := 50) (n := 1) (by decide +kernel) ).trans ?_
  refine (X_isub (m := 235) (pc := 51)  (by decide +kernel) ).trans ?_
  refine (X_i2l (m := 235) (pc := 52)  (by decide +kernel) ).trans ?_
  refine (X_call_st (m := 235) (pc := 53) (q := 61) (y := 155) (n := 3) (as := [a_l (x3), a_l (0), a_l (wr ((u r0 22) - 1))]) (rest := []) (by decide +kernel) (by decide +kernel) (by decide +kernel) (by decide +kernel) rfl rfl (Nat.le_of_ble_eq_true rfl) (Nat.le_of_ble_eq_true rfl) rfl (by rw [show m_maxL 155 = 6 from by decide +kernel]; exact Nat.le_of_ble_eq_true rfl)).trans ?_
  exact if_pos rfl
theorem B_X11_mergedStop_56 {k : Nat → Nat × Nat} {u : Nat → Nat → Int} {g : Nat → Nat → Nat} {t : Nat × Nat × Nat} {r0 : Nat} {x1 : Int} {x2 : Int} {x3 : Int} {x4 : Int} {y0 : Int} : a_X 235 56 [a_r (r0), a_i (x1), a_i (x2), a_i (x3), a_i (x4)] [a_i (y0)] (k, u, g, t) = if (y0 : Int) ≠ 0 then if (x4 : Int) ≠ 0 then if (x4 : Int) ≠ (1 : Int) then if (x4 : Int) ≠ (2 : Int) then if (k r0).1 = 11 then if ((k (g r0 21)).1 = 20 ∨ (k (g r0 21)).1 = 24) ∧ 0 ≤ (x3 : Int) ∧ (x3 : Int) < ((k (g r0 21)).2 : Int) then some (.inl (some (a_i (u (g r0 21) (x3 : Int).toNat))), (k, u, g, t)) else none else none else if (k r0).1 = 11 then if ((k (g r0 20)).1 = 20 ∨ (k (g r0 20)).1 = 24) ∧ 0 ≤ (x3 : Int) ∧ (x3 : Int) < ((k (g r0 20)).2 : Int) then some (.inl (some (a_i (u (g r0 20) (x3 : Int).toNat))), (k, u, g, t)) else none else none else if (k r0).1 = 11 then if ((k (g r0 19)).1 = 20 ∨ (k (g r0 19)).1 = 24) ∧ 0 ≤ (x3 : Int) ∧ (x3 : Int) < ((k (g r0 19)).2 : Int) then some (.inl (some (a_i (u (g r0 19) (x3 : Int).toNat))), (k, u, g, t)) else none else none else if (k r0).1 = 11 then if ((k (g r0 18)).1 = 20 ∨ (k (g r0 18)).1 = 24) ∧ 0 ≤ (x3 : Int) ∧ (x3 : Int) < ((k (g r0 18)).2 : Int) then some (.inl (some (a_i (u (g r0 18) (x3 : Int).toNat))), (k, u, g, t)) else none else none else some (.inl (some (a_i (-1))), (k, u, g, t)) := by
  refine (X_if_ne (m := 235) (pc := 56) (off := 5) (tg := 61) (by decide +kernel) (by decide +kernel)).trans ?_
  refine ite_congr rfl (fun _ => ?_) (fun _ => ?_)
  · refine (X_iload (m := 235) (pc := 61) (n := 4) (by decide +kernel) rfl).trans ?_
    refine (X_if_ne (m := 235) (pc := 63) (off := 12) (tg := 75) (by decide +kernel) (by decide +kernel)).trans ?_
    refine ite_congr rfl (fun _ => ?_) (fun _ => ?_)
    · refine (X_iload (m := 235) (pc := 75) (n := 4) (by decide +kernel) rfl).trans ?_
      refine (X_iconst (m := 235) (pc := 77) (n := 1) (by decide +kernel) ).trans ?_
      refine (X_ic_ne (m := 235) (pc := 78) (off := 12) (tg := 90) (by decide +kernel) (by decide +kernel)).trans ?_
      refine ite_congr rfl (fun _ => ?_) (fun _ => ?_)
      · refine (X_iload (m := 235) (pc := 90) (n := 4) (by decide +kernel) rfl).trans ?_
        refine (X_iconst (m := 235) (pc := 92) (n := 2) (by decide +kernel) ).trans ?_
        refine (X_ic_ne (m := 235) (pc := 93) (off := 12) (tg := 105) (by decide +kernel) (by decide +kernel)).trans ?_
        refine ite_congr rfl (fun _ => ?_) (fun _ => ?_)
        · refine (X_aload_n (m := 235) (pc := 105) (n := 0) (by decide +kernel) rfl).trans ?_
          refine (X_getR (m := 235) (pc := 106) (n := 40) (c := 11) (q := 21) (fi := true) (by decide +kernel) (by decide +kernel)).trans ?_
          refine ite_congr rfl (fun _ => ?_) (fun _ => rfl)
          refine (X_iload_n (m := 235) (pc := 109) (n := 3) (by decide +kernel) rfl).trans ?_
          refine (X_iaload (m := 235) (pc := 110)  (by decide +kernel) ).trans ?_
          refine ite_congr rfl (fun _ => ?_) (fun _ => rfl)
          exact X_ireturn (m := 235) (pc := 111) (f := 1) (by decide +kernel) (by decide +kernel) rfl
        · refine (X_aload_n (m := 235) (pc := 96) (n := 0) (by decide +kernel) rfl).trans ?_
          refine (X_getR (m := 235) (pc := 97) (n := 37) (c := 11) (q := 20) (fi := true) (by decide +kernel) (by decide +kernel)).trans ?_
          refine ite_congr rfl (fun _ => ?_) (fun _ => rfl)
          refine (X_iload_n (m := 235) (pc := 100) (n := 3) (by decide +kernel) rfl).trans ?_
          refine (X_iaload (m := 235) (pc := 101)  (by decide +kernel) ).trans ?_
          refine ite_congr rfl (fun _ => ?_) (fun _ => rfl)
          refine (X_goto (m := 235) (pc := 102) (off := 9) (tg := 111) (by decide +kernel) (by decide +kernel)).trans ?_
          exact X_ireturn (m := 235) (pc := 111) (f := 1) (by decide +kernel) (by decide +kernel) rfl
      · refine (X_aload_n (m := 235) (pc := 81) (n := 0) (by decide +kernel) rfl).trans ?_
        refine (X_getR (m := 235) (pc := 82) (n := 34) (c := 11) (q := 19) (fi := true) (by decide +kernel) (by decide +kernel)).trans ?_
        refine ite_congr rfl (fun _ => ?_) (fun _ => rfl)
        refine (X_iload_n (m := 235) (pc := 85) (n := 3) (by decide +kernel) rfl).trans ?_
        refine (X_iaload (m := 235) (pc := 86)  (by decide +kernel) ).trans ?_
        refine ite_congr rfl (fun _ => ?_) (fun _ => rfl)
        refine (X_goto (m := 235) (pc := 87) (off := 24) (tg := 111) (by decide +kernel) (by decide +kernel)).trans ?_
        exact X_ireturn (m := 235) (pc := 111) (f := 1) (by decide +kernel) (by decide +kernel) rfl
    · refine (X_aload_n (m := 235) (pc := 66) (n := 0) (by decide +kernel) rfl).trans ?_
      refine (X_getR (m := 235) (pc := 67) (n := 31) (c := 11) (q := 18) (fi := true) (by decide +kernel) (by decide +kernel)).trans ?_
      refine ite_congr rfl (fun _ => ?_) (fun _ => rfl)
      refine (X_iload_n (m := 235) (pc := 70) (n := 3) (by decide +kernel) rfl).trans ?_
      refine (X_iaload (m := 235) (pc := 71)  (by decide +kernel) ).trans ?_
      refine ite_congr rfl (fun _ => ?_) (fun _ => rfl)
      refine (X_goto (m := 235) (pc := 72) (off := 39) (tg := 111) (by decide +kernel) (by decide +kernel)).trans ?_
      exact X_ireturn (m := 235) (pc := 111) (f := 1) (by decide +kernel) (by decide +kernel) rfl
  · refine (X_iconst (m := 235) (pc := 59) (n := -1) (by decide +kernel) ).trans ?_
    exact X_ireturn (m := 235) (pc := 60) (f := 1) (by decide +kernel) (by decide +kernel) rfl
theorem E_X11_misses {σ : AS} {r0 : Nat} {x1 : Int} {x2 : Int} : a_m 236 [a_r (r0), a_i (x1), a_i (x2)] σ = a_X 236 0 [a_r (r0), a_i (x1), a_i (x2)] [] σ := a_m_eq (by rw [a_entry, show m_maxL 236 = 3 from by decide +kernel]; rfl)
theorem B_X11_misses_0 {k : Nat → Nat × Nat} {u : Nat → Nat → Int} {g : Nat → Nat → Nat} {t : Nat × Nat × Nat} {r0 : Nat} {x1 : Int} {x2 : Int} : a_X 236 0 [a_r (r0), a_i (x1), a_i (x2)] [] (k, u, g, t) = if (k r0).1 = 11 then (a_m 166 [a_r (r0), a_i (x1), a_i (10)] (k, u, g, t)).bind (a_back 236 5 3 [a_r (r0), a_i (x1), a_i (x2)] [a_i (x2)]) else none := by
  refine (X_iload_n (m := 236) (pc := 0) (n := 2) (by decide +kernel) rfl).trans ?_
  refine (X_aload_n (m := 236) (pc := 1) (n := 0) (by decide +kernel) rfl).trans ?_
  refine (X_iload_n (m := 236) (pc := 2) (n := 1) (by decide +kernel) rfl).trans ?_
  refine (X_bipush (m := 236) (pc := 3) (n := 10) (by decide +kernel) ).trans ?_
  refine (X_call_vi (m := 236) (pc := 5) (q := 79) (y := 166) (n := 3) (as := [a_r (r0), a_i (x1), a_i (10)]) (rest := [a_i (x2)]) (by decide +kernel) (by decide +kernel) (by decide +kernel) (by decide +kernel) rfl rfl (Nat.le_of_ble_eq_true rfl) (Nat.le_of_ble_eq_true rfl) rfl (by rw [show m_maxL 166 = 3 from by decide +kernel]; exact Nat.le_of_ble_eq_true rfl)).trans ?_
  exact ite_congr (by simp [a_rcv, show m_recv 166 = 11 from by decide +kernel]) (fun _ => rfl) (fun _ => rfl)
theorem B_X11_misses_8 {k : Nat → Nat × Nat} {u : Nat → Nat → Int} {g : Nat → Nat → Nat} {t : Nat × Nat × Nat} {r0 : Nat} {x1 : Int} {x2 : Int} {y0 : Int} {y1 : Int} : a_X 236 8 [a_r (r0), a_i (x1), a_i (x2)] [a_i (y1), a_i (y0)] (k, u, g, t) = if (y0 : Int) ≤ (y1 : Int) then some (.inl (some (a_i (0))), (k, u, g, t)) else if (k r0).1 = 11 then (a_m 166 [a_r (r0), a_i (x1), a_i (11)] (k, u, g, t)).bind (a_back 236 16 3 [a_r (r0), a_i (x1), a_i (x2)] [a_i (x2)]) else none := by
  refine (X_ic_le (m := 236) (pc := 8) (off := 27) (tg := 35) (by decide +kernel) (by decide +kernel)).trans ?_
  refine ite_congr rfl (fun _ => ?_) (fun _ => ?_)
  · refine (X_iconst (m := 236) (pc := 35) (n := 0) (by decide +kernel) ).trans ?_
    exact X_ireturn (m := 236) (pc := 36) (f := 2) (by decide +kernel) (by decide +kernel) rfl
  · refine (X_iload_n (m := 236) (pc := 11) (n := 2) (by decide +kernel) rfl).trans ?_
    refine (X_aload_n (m := 236) (pc := 12) (n := 0) (by decide +kernel) rfl).trans ?_
    refine (X_iload_n (m := 236) (pc := 13) (n := 1) (by decide +kernel) rfl).trans ?_
    refine (X_bipush (m := 236) (pc := 14) (n := 11) (by decide +kernel) ).trans ?_
    refine (X_call_vi (m := 236) (pc := 16) (q := 79) (y := 166) (n := 3) (as := [a_r (r0), a_i (x1), a_i (11)]) (rest := [a_i (x2)]) (by decide +kernel) (by decide +kernel) (by decide +kernel) (by decide +kernel) rfl rfl (Nat.le_of_ble_eq_true rfl) (Nat.le_of_ble_eq_true rfl) rfl (by rw [show m_maxL 166 = 3 from by decide +kernel]; exact Nat.le_of_ble_eq_true rfl)).trans ?_
    exact ite_congr (by simp [a_rcv, show m_recv 166 = 11 from by decide +kernel]) (fun _ => rfl) (fun _ => rfl)
theorem B_X11_misses_19 {k : Nat → Nat × Nat} {u : Nat → Nat → Int} {g : Nat → Nat → Nat} {t : Nat × Nat × Nat} {r0 : Nat} {x1 : Int} {x2 : Int} {y0 : Int} {y1 : Int} : a_X 236 19 [a_r (r0), a_i (x1), a_i (x2)] [a_i (y1), a_i (y0)] (k, u, g, t) = if (y0 : Int) ≥ (y1 : Int) then some (.inl (some (a_i (0))), (k, u, g, t)) else if (k r0).1 = 11 then (a_m 172 [a_r (r0), a_i (x1), a_i (x2)] (k, u, g, t)).bind (a_back 236 25 3 [a_r (r0), a_i (x1), a_i (x2)] []) else none := by
  refine (X_ic_ge (m := 236) (pc := 19) (off := 16) (tg := 35) (by decide +kernel) (by decide +kernel)).trans ?_
  refine ite_congr rfl (fun _ => ?_) (fun _ => ?_)
  · refine (X_iconst (m := 236) (pc := 35) (n := 0) (by decide +kernel) ).trans ?_
    exact X_ireturn (m := 236) (pc := 36) (f := 2) (by decide +kernel) (by decide +kernel) rfl
  · refine (X_aload_n (m := 236) (pc := 22) (n := 0) (by decide +kernel) rfl).trans ?_
    refine (X_iload_n (m := 236) (pc := 23) (n := 1) (by decide +kernel) rfl).trans ?_
    refine (X_iload_n (m := 236) (pc := 24) (n := 2) (by decide +kernel) rfl).trans ?_
    refine (X_call_vi (m := 236) (pc := 25) (q := 293) (y := 172) (n := 3) (as := [a_r (r0), a_i (x1), a_i (x2)]) (rest := []) (by decide +kernel) (by decide +kernel) (by decide +kernel) (by decide +kernel) rfl rfl (Nat.le_of_ble_eq_true rfl) (Nat.le_of_ble_eq_true rfl) rfl (by rw [show m_maxL 172 = 3 from by decide +kernel]; exact Nat.le_of_ble_eq_true rfl)).trans ?_
    exact ite_congr (by simp [a_rcv, show m_recv 172 = 11 from by decide +kernel]) (fun _ => rfl) (fun _ => rfl)
theorem B_X11_misses_28 {k : Nat → Nat × Nat} {u : Nat → Nat → Int} {g : Nat → Nat → Nat} {t : Nat × Nat × Nat} {r0 : Nat} {x1 : Int} {x2 : Int} {y0 : Int} : a_X 236 28 [a_r (r0), a_i (x1), a_i (x2)] [a_i (y0)] (k, u, g, t) = if (y0 : Int) ≠ 0 then some (.inl (some (a_i (0))), (k, u, g, t)) else some (.inl (some (a_i (1))), (k, u, g, t)) := by
  refine (X_if_ne (m := 236) (pc := 28) (off := 7) (tg := 35) (by decide +kernel) (by decide +kernel)).trans ?_
  refine ite_congr rfl (fun _ => ?_) (fun _ => ?_)
  · refine (X_iconst (m := 236) (pc := 35) (n := 0) (by decide +kernel) ).trans ?_
    exact X_ireturn (m := 236) (pc := 36) (f := 2) (by decide +kernel) (by decide +kernel) rfl
  · refine (X_iconst (m := 236) (pc := 31) (n := 1) (by decide +kernel) ).trans ?_
    refine (X_goto (m := 236) (pc := 32) (off := 4) (tg := 36) (by decide +kernel) (by decide +kernel)).trans ?_
    exact X_ireturn (m := 236) (pc := 36) (f := 2) (by decide +kernel) (by decide +kernel) rfl
theorem E_X11_missed {σ : AS} {r0 : Nat} {x1 : Int} : a_m 237 [a_r (r0), a_i (x1)] σ = a_X 237 0 [a_r (r0), a_i (x1), a_x false, a_x false] [] σ := a_m_eq (by rw [a_entry, show m_maxL 237 = 4 from by decide +kernel]; rfl)
theorem B_X11_missed_0 {k : Nat → Nat × Nat} {u : Nat → Nat → Int} {g : Nat → Nat → Nat} {t : Nat × Nat × Nat} {r0 : Nat} {x1 : Int} {v2 : AV} {v3 : AV} : a_X 237 0 [a_r (r0), a_i (x1), v2, v3] [] (k, u, g, t) = a_X 237 4 [a_r (r0), a_i (x1), a_i (0), a_i (1)] [] (k, u, g, t) := by
  refine (X_iconst (m := 237) (pc := 0) (n := 0) (by decide +kernel) ).trans ?_
  refine (X_istore_n (m := 237) (pc := 1) (n := 2) (by decide +kernel) rfl (Nat.le_of_ble_eq_true rfl) rfl).trans ?_
  refine (X_iconst (m := 237) (pc := 2) (n := 1) (by decide +kernel) ).trans ?_
  refine (X_istore_n (m := 237) (pc := 3) (n := 3) (by decide +kernel) rfl (Nat.le_of_ble_eq_true rfl) rfl).trans ?_
  rfl
theorem B_X11_missed_4 {k : Nat → Nat × Nat} {u : Nat → Nat → Int} {g : Nat → Nat → Nat} {t : Nat × Nat × Nat} {r0 : Nat} {x1 : Int} {x2 : Int} {x3 : Int} : a_X 237 4 [a_r (r0), a_i (x1), a_i (x2), a_i (x3)] [] (k, u, g, t) = if (k r0).1 = 11 then if ((k (g r0 2)).1 = 20 ∨ (k (g r0 2)).1 = 24) ∧ 0 ≤ (2 : Int) ∧ (2 : Int) < ((k (g r0 2)).2 : Int) then if (x3 : Int) > (u (g r0 2) (2 : Int).toNat : Int) then some (.inl (some (a_i (x2))), (k, u, g, t)) else if (k r0).1 = 11 then (a_m 236 [a_r (r0), a_i (x1), a_i (x3)] (k, u, g, t)).bind (a_back 237 18 3 [a_r (r0), a_i (x1), a_i (x2), a_i (x3)] [a_i (x2)]) else none else none else none := by
  refine (X_iload_n (m := 237) (pc := 4) (n := 3) (by decide +kernel) rfl).trans ?_
  refine (X_aload_n (m := 237) (pc := 5) (n := 0) (by decide +kernel) rfl).trans ?_
  refine (X_getR (m := 237) (pc := 6) (n := 7) (c := 11) (q := 2) (fi := true) (by decide +kernel) (by decide +kernel)).trans ?_
  refine ite_congr rfl (fun _ => ?_) (fun _ => rfl)
  refine (X_iconst (m := 237) (pc := 9) (n := 2) (by decide +kernel) ).trans ?_
  refine (X_iaload (m := 237) (pc := 10)  (by decide +kernel) ).trans ?_
  refine ite_congr rfl (fun _ => ?_) (fun _ => rfl)
  refine (X_ic_gt (m := 237) (pc := 11) (off := 21) (tg := 32) (by decide +kernel) (by decide +kernel)).trans ?_
  refine ite_congr rfl (fun _ => ?_) (fun _ => ?_)
  · refine (X_iload_n (m := 237) (pc := 32) (n := 2) (by decide +kernel) rfl).trans ?_
    exact X_ireturn (m := 237) (pc := 33) (f := 1) (by decide +kernel) (by decide +kernel) rfl
  · refine (X_iload_n (m := 237) (pc := 14) (n := 2) (by decide +kernel) rfl).trans ?_
    refine (X_aload_n (m := 237) (pc := 15) (n := 0) (by decide +kernel) rfl).trans ?_
    refine (X_iload_n (m := 237) (pc := 16) (n := 1) (by decide +kernel) rfl).trans ?_
    refine (X_iload_n (m := 237) (pc := 17) (n := 3) (by decide +kernel) rfl).trans ?_
    refine (X_call_vi (m := 237) (pc := 18) (q := 342) (y := 236) (n := 3) (as := [a_r (r0), a_i (x1), a_i (x3)]) (rest := [a_i (x2)]) (by decide +kernel) (by decide +kernel) (by decide +kernel) (by decide +kernel) rfl rfl (Nat.le_of_ble_eq_true rfl) (Nat.le_of_ble_eq_true rfl) rfl (by rw [show m_maxL 236 = 3 from by decide +kernel]; exact Nat.le_of_ble_eq_true rfl)).trans ?_
    exact ite_congr (by simp [a_rcv, show m_recv 236 = 11 from by decide +kernel]) (fun _ => rfl) (fun _ => rfl)
theorem B_X11_missed_21 {k : Nat → Nat × Nat} {u : Nat → Nat → Int} {g : Nat → Nat → Nat} {t : Nat × Nat × Nat} {r0 : Nat} {x1 : Int} {x2 : Int} {x3 : Int} {y0 : Int} {y1 : Int} : a_X 237 21 [a_r (r0), a_i (x1), a_i (x2), a_i (x3)] [a_i (y1), a_i (y0)] (k, u, g, t) = (a_m 156 [a_i (y1)] (k, u, g, t)).bind (a_back 237 21 3 [a_r (r0), a_i (x1), a_i (x2), a_i (x3)] [a_i (y0)]) := by
  refine (X_call_st (m := 237) (pc := 21) (q := 204) (y := 156) (n := 1) (as := [a_i (y1)]) (rest := [a_i (y0)]) (by decide +kernel) (by decide +kernel) (by decide +kernel) (by decide +kernel) rfl rfl (Nat.le_of_ble_eq_true rfl) (Nat.le_of_ble_eq_true rfl) rfl (by rw [show m_maxL 156 = 1 from by decide +kernel]; exact Nat.le_of_ble_eq_true rfl)).trans ?_
  exact if_pos rfl
theorem B_X11_missed_24 {k : Nat → Nat × Nat} {u : Nat → Nat → Int} {g : Nat → Nat → Nat} {t : Nat × Nat × Nat} {r0 : Nat} {x1 : Int} {x2 : Int} {x3 : Int} {y0 : Int} {y1 : Int} : a_X 237 24 [a_r (r0), a_i (x1), a_i (x2), a_i (x3)] [a_i (y1), a_i (y0)] (k, u, g, t) = a_X 237 4 [a_r (r0), a_i (x1), a_i (wr (y0 + y1)), a_i (wr (x3 + 1))] [] (k, u, g, t) := by
  refine (X_iadd (m := 237) (pc := 24)  (by decide +kernel) ).trans ?_
  refine (X_istore_n (m := 237) (pc := 25) (n := 2) (by decide +kernel) rfl (Nat.le_of_ble_eq_true rfl) rfl).trans ?_
  refine (X_iinc (m := 237) (pc := 26) (n := 3) (c := 1) (by decide +kernel) rfl rfl (Nat.le_of_ble_eq_true rfl) rfl).trans ?_
  refine (X_goto (m := 237) (pc := 29) (off := -25) (tg := 4) (by decide +kernel) (by decide +kernel)).trans ?_
  rfl
theorem E_X11_heardOnes {σ : AS} {r0 : Nat} {x1 : Int} : a_m 238 [a_r (r0), a_i (x1)] σ = a_X 238 0 [a_r (r0), a_i (x1), a_x false, a_x false] [] σ := a_m_eq (by rw [a_entry, show m_maxL 238 = 4 from by decide +kernel]; rfl)
theorem B_X11_heardOnes_0 {k : Nat → Nat × Nat} {u : Nat → Nat → Int} {g : Nat → Nat → Nat} {t : Nat × Nat × Nat} {r0 : Nat} {x1 : Int} {v2 : AV} {v3 : AV} : a_X 238 0 [a_r (r0), a_i (x1), v2, v3] [] (k, u, g, t) = a_X 238 4 [a_r (r0), a_i (x1), a_i (0), a_i (1)] [] (k, u, g, t) := by
  refine (X_iconst (m := 238) (pc := 0) (n := 0) (by decide +kernel) ).trans ?_
  refine (X_istore_n (m := 238) (pc := 1) (n := 2) (by decide +kernel) rfl (Nat.le_of_ble_eq_true rfl) rfl).trans ?_
  refine (X_iconst (m := 238) (pc := 2) (n := 1) (by decide +kernel) ).trans ?_
  refine (X_istore_n (m := 238) (pc := 3) (n := 3) (by decide +kernel) rfl (Nat.le_of_ble_eq_true rfl) rfl).trans ?_
  rfl
theorem B_X11_heardOnes_4 {k : Nat → Nat × Nat} {u : Nat → Nat → Int} {g : Nat → Nat → Nat} {t : Nat × Nat × Nat} {r0 : Nat} {x1 : Int} {x2 : Int} {x3 : Int} : a_X 238 4 [a_r (r0), a_i (x1), a_i (x2), a_i (x3)] [] (k, u, g, t) = if (k r0).1 = 11 then if ((k (g r0 2)).1 = 20 ∨ (k (g r0 2)).1 = 24) ∧ 0 ≤ (2 : Int) ∧ (2 : Int) < ((k (g r0 2)).2 : Int) then if (x3 : Int) > (u (g r0 2) (2 : Int).toNat : Int) then some (.inl (some (a_i (x2))), (k, u, g, t)) else if (k r0).1 = 11 then (a_m 172 [a_r (r0), a_i (x1), a_i (x3)] (k, u, g, t)).bind (a_back 238 18 3 [a_r (r0), a_i (x1), a_i (x2), a_i (x3)] [a_i (x2)]) else none else none else none := by
  refine (X_iload_n (m := 238) (pc := 4) (n := 3) (by decide +kernel) rfl).trans ?_
  refine (X_aload_n (m := 238) (pc := 5) (n := 0) (by decide +kernel) rfl).trans ?_
  refine (X_getR (m := 238) (pc := 6) (n := 7) (c := 11) (q := 2) (fi := true) (by decide +kernel) (by decide +kernel)).trans ?_
  refine ite_congr rfl (fun _ => ?_) (fun _ => rfl)
  refine (X_iconst (m := 238) (pc := 9) (n := 2) (by decide +kernel) ).trans ?_
  refine (X_iaload (m := 238) (pc := 10)  (by decide +kernel) ).trans ?_
  refine ite_congr rfl (fun _ => ?_) (fun _ => rfl)
  refine (X_ic_gt (m := 238) (pc := 11) (off := 21) (tg := 32) (by decide +kernel) (by decide +kernel)).trans ?_
  refine ite_congr rfl (fun _ => ?_) (fun _ => ?_)
  · refine (X_iload_n (m := 238) (pc := 32) (n := 2) (by decide +kernel) rfl).trans ?_
    exact X_ireturn (m := 238) (pc := 33) (f := 1) (by decide +kernel) (by decide +kernel) rfl
  · refine (X_iload_n (m := 238) (pc := 14) (n := 2) (by decide +kernel) rfl).trans ?_
    refine (X_aload_n (m := 238) (pc := 15) (n := 0) (by decide +kernel) rfl).trans ?_
    refine (X_iload_n (m := 238) (pc := 16) (n := 1) (by decide +kernel) rfl).trans ?_
    refine (X_iload_n (m := 238) (pc := 17) (n := 3) (by decide +kernel) rfl).trans ?_
    refine (X_call_vi (m := 238) (pc := 18) (q := 293) (y := 172) (n := 3) (as := [a_r (r0), a_i (x1), a_i (x3)]) (rest := [a_i (x2)]) (by decide +kernel) (by decide +kernel) (by decide +kernel) (by decide +kernel) rfl rfl (Nat.le_of_ble_eq_true rfl) (Nat.le_of_ble_eq_true rfl) rfl (by rw [show m_maxL 172 = 3 from by decide +kernel]; exact Nat.le_of_ble_eq_true rfl)).trans ?_
    exact ite_congr (by simp [a_rcv, show m_recv 172 = 11 from by decide +kernel]) (fun _ => rfl) (fun _ => rfl)
theorem B_X11_heardOnes_21 {k : Nat → Nat × Nat} {u : Nat → Nat → Int} {g : Nat → Nat → Nat} {t : Nat × Nat × Nat} {r0 : Nat} {x1 : Int} {x2 : Int} {x3 : Int} {y0 : Int} {y1 : Int} : a_X 238 21 [a_r (r0), a_i (x1), a_i (x2), a_i (x3)] [a_i (y1), a_i (y0)] (k, u, g, t) = (a_m 156 [a_i (y1)] (k, u, g, t)).bind (a_back 238 21 3 [a_r (r0), a_i (x1), a_i (x2), a_i (x3)] [a_i (y0)]) := by
  refine (X_call_st (m := 238) (pc := 21) (q := 204) (y := 156) (n := 1) (as := [a_i (y1)]) (rest := [a_i (y0)]) (by decide +kernel) (by decide +kernel) (by decide +kernel) (by decide +kernel) rfl rfl (Nat.le_of_ble_eq_true rfl) (Nat.le_of_ble_eq_true rfl) rfl (by rw [show m_maxL 156 = 1 from by decide +kernel]; exact Nat.le_of_ble_eq_true rfl)).trans ?_
  exact if_pos rfl
theorem B_X11_heardOnes_24 {k : Nat → Nat × Nat} {u : Nat → Nat → Int} {g : Nat → Nat → Nat} {t : Nat × Nat × Nat} {r0 : Nat} {x1 : Int} {x2 : Int} {x3 : Int} {y0 : Int} {y1 : Int} : a_X 238 24 [a_r (r0), a_i (x1), a_i (x2), a_i (x3)] [a_i (y1), a_i (y0)] (k, u, g, t) = a_X 238 4 [a_r (r0), a_i (x1), a_i (wr (y0 + y1)), a_i (wr (x3 + 1))] [] (k, u, g, t) := by
  refine (X_iadd (m := 238) (pc := 24)  (by decide +kernel) ).trans ?_
  refine (X_istore_n (m := 238) (pc := 25) (n := 2) (by decide +kernel) rfl (Nat.le_of_ble_eq_true rfl) rfl).trans ?_
  refine (X_iinc (m := 238) (pc := 26) (n := 3) (c := 1) (by decide +kernel) rfl rfl (Nat.le_of_ble_eq_true rfl) rfl).trans ?_
  refine (X_goto (m := 238) (pc := 29) (off := -25) (tg := 4) (by decide +kernel) (by decide +kernel)).trans ?_
  rfl
theorem E_X11_listener {σ : AS} {r0 : Nat} {x1 : Int} {x2 : Int} : a_m 239 [a_r (r0), a_i (x1), a_i (x2)] σ = a_X 239 0 [a_r (r0), a_i (x1), a_i (x2)] [] σ := a_m_eq (by rw [a_entry, show m_maxL 239 = 3 from by decide +kernel]; rfl)
theorem B_X11_listener_0 {k : Nat → Nat × Nat} {u : Nat → Nat → Int} {g : Nat → Nat → Nat} {t : Nat × Nat × Nat} {r0 : Nat} {x1 : Int} {x2 : Int} : a_X 239 0 [a_r (r0), a_i (x1), a_i (x2)] [] (k, u, g, t) = if (k r0).1 = 11 then (a_m 159 [a_r (r0), a_i (x1)] (k, u, g, t)).bind (a_back 239 2 3 [a_r (r0), a_i (x1), a_i (x2)] []) else none := by
  refine (X_aload_n (m := 239) (pc := 0) (n := 0) (by decide +kernel) rfl).trans ?_
  refine (X_iload_n (m := 239) (pc := 1) (n := 1) (by decide +kernel) rfl).trans ?_
  refine (X_call_vi (m := 239) (pc := 2) (q := 345) (y := 159) (n := 2) (as := [a_r (r0), a_i (x1)]) (rest := []) (by decide +kernel) (by decide +kernel) (by decide +kernel) (by decide +kernel) rfl rfl (Nat.le_of_ble_eq_true rfl) (Nat.le_of_ble_eq_true rfl) rfl (by rw [show m_maxL 159 = 2 from by decide +kernel]; exact Nat.le_of_ble_eq_true rfl)).trans ?_
  exact ite_congr (by simp [a_rcv, show m_recv 159 = 11 from by decide +kernel]) (fun _ => rfl) (fun _ => rfl)
theorem B_X11_listener_5 {k : Nat → Nat × Nat} {u : Nat → Nat → Int} {g : Nat → Nat → Nat} {t : Nat × Nat × Nat} {r0 : Nat} {x1 : Int} {x2 : Int} {y0 : Int} : a_X 239 5 [a_r (r0), a_i (x1), a_i (x2)] [a_i (y0)] (k, u, g, t) = if (y0 : Int) ≠ 0 then some (.inl (some (a_i (0))), (k, u, g, t)) else (a_m 155 [a_l (x2), a_l (0), a_l (11)] (k, u, g, t)).bind (a_back 239 15 3 [a_r (r0), a_i (x1), a_i (x2)] [a_r (r0)]) := by
  refine (X_if_ne (m := 239) (pc := 5) (off := 28) (tg := 33) (by decide +kernel) (by decide +kernel)).trans ?_
  refine ite_congr rfl (fun _ => ?_) (fun _ => ?_)
  · refine (X_iconst (m := 239) (pc := 33) (n := 0) (by decide +kernel) ).trans ?_
    exact X_ireturn (m := 239) (pc := 34) (f := 1) (by decide +kernel) (by decide +kernel) rfl
  · refine (X_aload_n (m := 239) (pc := 8) (n := 0) (by decide +kernel) rfl).trans ?_
    refine (X_iload_n (m := 239) (pc := 9) (n := 2) (by decide +kernel) rfl).trans ?_
    refine (X_i2l (m := 239) (pc := 10)  (by decide +kernel) ).trans ?_
    refine (X_lconst (m := 239) (pc := 11) (n := 0) (by decide +kernel) ).trans ?_
    refine (X_ldc2 (m := 239) (pc := 12) (n := 67) (z := 11) (by decide +kernel) (by decide +kernel)).trans ?_
    refine (X_call_st (m := 239) (pc := 15) (q := 61) (y := 155) (n := 3) (as := [a_l (x2), a_l (0), a_l (11)]) (rest := [a_r (r0)]) (by decide +kernel) (by decide +kernel) (by decide +kernel) (by decide +kernel) rfl rfl (Nat.le_of_ble_eq_true rfl) (Nat.le_of_ble_eq_true rfl) rfl (by rw [show m_maxL 155 = 6 from by decide +kernel]; exact Nat.le_of_ble_eq_true rfl)).trans ?_
    exact if_pos rfl
theorem B_X11_listener_18 {k : Nat → Nat × Nat} {u : Nat → Nat → Int} {g : Nat → Nat → Nat} {t : Nat × Nat × Nat} {r0 : Nat} {x1 : Int} {x2 : Int} {q0 : Nat} {y1 : Int} : a_X 239 18 [a_r (r0), a_i (x1), a_i (x2)] [a_i (y1), a_r (q0)] (k, u, g, t) = if (y1 : Int) ≠ 0 then if (k q0).1 = 11 then (a_m 157 [a_r (q0), a_i (0), a_i (3)] (k, u, g, t)).bind (a_back 239 27 3 [a_r (r0), a_i (x1), a_i (x2)] []) else none else if (k q0).1 = 11 then (a_m 157 [a_r (q0), a_i (1), a_i (3)] (k, u, g, t)).bind (a_back 239 27 3 [a_r (r0), a_i (x1), a_i (x2)] []) else none := by
  refine (X_if_ne (m := 239) (pc := 18) (off := 7) (tg := 25) (by decide +kernel) (by decide +kernel)).trans ?_
  refine ite_congr rfl (fun _ => ?_) (fun _ => ?_)
  · refine (X_iconst (m := 239) (pc := 25) (n := 0) (by decide +kernel) ).trans ?_
    refine (X_iconst (m := 239) (pc := 26) (n := 3) (by decide +kernel) ).trans ?_
    refine (X_call_vi (m := 239) (pc := 27) (q := 53) (y := 157) (n := 3) (as := [a_r (q0), a_i (0), a_i (3)]) (rest := []) (by decide +kernel) (by decide +kernel) (by decide +kernel) (by decide +kernel) rfl rfl (Nat.le_of_ble_eq_true rfl) (Nat.le_of_ble_eq_true rfl) rfl (by rw [show m_maxL 157 = 3 from by decide +kernel]; exact Nat.le_of_ble_eq_true rfl)).trans ?_
    exact ite_congr (by simp [a_rcv, show m_recv 157 = 11 from by decide +kernel]) (fun _ => rfl) (fun _ => rfl)
  · refine (X_iconst (m := 239) (pc := 21) (n := 1) (by decide +kernel) ).trans ?_
    refine (X_goto (m := 239) (pc := 22) (off := 4) (tg := 26) (by decide +kernel) (by decide +kernel)).trans ?_
    refine (X_iconst (m := 239) (pc := 26) (n := 3) (by decide +kernel) ).trans ?_
    refine (X_call_vi (m := 239) (pc := 27) (q := 53) (y := 157) (n := 3) (as := [a_r (q0), a_i (1), a_i (3)]) (rest := []) (by decide +kernel) (by decide +kernel) (by decide +kernel) (by decide +kernel) rfl rfl (Nat.le_of_ble_eq_true rfl) (Nat.le_of_ble_eq_true rfl) rfl (by rw [show m_maxL 157 = 3 from by decide +kernel]; exact Nat.le_of_ble_eq_true rfl)).trans ?_
    exact ite_congr (by simp [a_rcv, show m_recv 157 = 11 from by decide +kernel]) (fun _ => rfl) (fun _ => rfl)
theorem B_X11_listener_30 {k : Nat → Nat × Nat} {u : Nat → Nat → Int} {g : Nat → Nat → Nat} {t : Nat × Nat × Nat} {r0 : Nat} {x1 : Int} {x2 : Int} {y0 : Int} : a_X 239 30 [a_r (r0), a_i (x1), a_i (x2)] [a_i (y0)] (k, u, g, t) = if (y0 : Int) = 0 then if (x2) = 0 then a_X 239 96 [a_r (r0), a_i (x1), a_i (x2)] [] (k, u, g, t) else if (x2) = 1 then a_X 239 103 [a_r (r0), a_i (x1), a_i (x2)] [] (k, u, g, t) else if (x2) = 2 then a_X 239 110 [a_r (r0), a_i (x1), a_i (x2)] [] (k, u, g, t) else if (x2) = 3 then a_X 239 125 [a_r (r0), a_i (x1), a_i (x2)] [] (k, u, g, t) else if (x2) = 4 then a_X 239 133 [a_r (r0), a_i (x1), a_i (x2)] [] (k, u, g, t) else if (x2) = 5 then a_X 239 141 [a_r (r0), a_i (x1), a_i (x2)] [] (k, u, g, t) else if (x2) = 6 then a_X 239 147 [a_r (r0), a_i (x1), a_i (x2)] [] (k, u, g, t) else if (x2) = 7 then a_X 239 153 [a_r (r0), a_i (x1), a_i (x2)] [] (k, u, g, t) else if (x2) = 8 then a_X 239 161 [a_r (r0), a_i (x1), a_i (x2)] [] (k, u, g, t) else if (x2) = 9 then a_X 239 169 [a_r (r0), a_i (x1), a_i (x2)] [] (k, u, g, t) else if (x2) = 10 then a_X 239 176 [a_r (r0), a_i (x1), a_i (x2)] [] (k, u, g, t) else a_X 239 194 [a_r (r0), a_i (x1), a_i (x2)] [] (k, u, g, t) else some (.inl (some (a_i (0))), (k, u, g, t)) := by
  refine (X_if_eq (m := 239) (pc := 30) (off := 5) (tg := 35) (by decide +kernel) (by decide +kernel)).trans ?_
  refine ite_congr rfl (fun _ => ?_) (fun _ => ?_)
  · refine (X_iload_n (m := 239) (pc := 35) (n := 2) (by decide +kernel) rfl).trans ?_
    rw [X_table (m := 239) (pc := 36) (d := 158) (lo := 0) (hi := 10) (offs := #[60, 67, 74, 89, 97, 105, 111, 117, 125, 133, 140]) (len := 60) (by decide +kernel)]
    by_cases hh : (x2) < 0 ∨ 10 < (x2)
    · rw [if_pos hh]
      rw [if_neg (by omega)]
      rw [if_neg (by omega)]
      rw [if_neg (by omega)]
      rw [if_neg (by omega)]
      rw [if_neg (by omega)]
      rw [if_neg (by omega)]
      rw [if_neg (by omega)]
      rw [if_neg (by omega)]
      rw [if_neg (by omega)]
      rw [if_neg (by omega)]
      rw [if_neg (by omega)]
      rfl
    · rw [if_neg hh]
      generalize hx : (x2) = xx at hh ⊢
      have h9 : xx = 0 ∨ xx = 1 ∨ xx = 2 ∨ xx = 3 ∨ xx = 4 ∨ xx = 5 ∨ xx = 6 ∨ xx = 7 ∨ xx = 8 ∨ xx = 9 ∨ xx = 10 := by omega
      rcases h9 with rfl | rfl | rfl | rfl | rfl | rfl | rfl | rfl | rfl | rfl | rfl <;> rfl
  · refine (X_iconst (m := 239) (pc := 33) (n := 0) (by decide +kernel) ).trans ?_
    exact X_ireturn (m := 239) (pc := 34) (f := 1) (by decide +kernel) (by decide +kernel) rfl
theorem B_X11_listener_96 {k : Nat → Nat × Nat} {u : Nat → Nat → Int} {g : Nat → Nat → Nat} {t : Nat × Nat × Nat} {r0 : Nat} {x1 : Int} {x2 : Int} : a_X 239 96 [a_r (r0), a_i (x1), a_i (x2)] [] (k, u, g, t) = if (k r0).1 = 11 then (a_m 166 [a_r (r0), a_i (x1), a_i (0)] (k, u, g, t)).bind (a_back 239 99 3 [a_r (r0), a_i (x1), a_i (x2)] []) else none := by
  refine (X_aload_n (m := 239) (pc := 96) (n := 0) (by decide +kernel) rfl).trans ?_
  refine (X_iload_n (m := 239) (pc := 97) (n := 1) (by decide +kernel) rfl).trans ?_
  refine (X_iconst (m := 239) (pc := 98) (n := 0) (by decide +kernel) ).trans ?_
  refine (X_call_vi (m := 239) (pc := 99) (q := 79) (y := 166) (n := 3) (as := [a_r (r0), a_i (x1), a_i (0)]) (rest := []) (by decide +kernel) (by decide +kernel) (by decide +kernel) (by decide +kernel) rfl rfl (Nat.le_of_ble_eq_true rfl) (Nat.le_of_ble_eq_true rfl) rfl (by rw [show m_maxL 166 = 3 from by decide +kernel]; exact Nat.le_of_ble_eq_true rfl)).trans ?_
  exact ite_congr (by simp [a_rcv, show m_recv 166 = 11 from by decide +kernel]) (fun _ => rfl) (fun _ => rfl)
theorem B_X11_listener_103 {k : Nat → Nat × Nat} {u : Nat → Nat → Int} {g : Nat → Nat → Nat} {t : Nat × Nat × Nat} {r0 : Nat} {x1 : Int} {x2 : Int} : a_X 239 103 [a_r (r0), a_i (x1), a_i (x2)] [] (k, u, g, t) = if (k r0).1 = 11 then (a_m 166 [a_r (r0), a_i (x1), a_i (1)] (k, u, g, t)).bind (a_back 239 106 3 [a_r (r0), a_i (x1), a_i (x2)] []) else none := by
  refine (X_aload_n (m := 239) (pc := 103) (n := 0) (by decide +kernel) rfl).trans ?_
  refine (X_iload_n (m := 239) (pc := 104) (n := 1) (by decide +kernel) rfl).trans ?_
  refine (X_iconst (m := 239) (pc := 105) (n := 1) (by decide +kernel) ).trans ?_
  refine (X_call_vi (m := 239) (pc := 106) (q := 79) (y := 166) (n := 3) (as := [a_r (r0), a_i (x1), a_i (1)]) (rest := []) (by decide +kernel) (by decide +kernel) (by decide +kernel) (by decide +kernel) rfl rfl (Nat.le_of_ble_eq_true rfl) (Nat.le_of_ble_eq_true rfl) rfl (by rw [show m_maxL 166 = 3 from by decide +kernel]; exact Nat.le_of_ble_eq_true rfl)).trans ?_
  exact ite_congr (by simp [a_rcv, show m_recv 166 = 11 from by decide +kernel]) (fun _ => rfl) (fun _ => rfl)
theorem B_X11_listener_110 {k : Nat → Nat × Nat} {u : Nat → Nat → Int} {g : Nat → Nat → Nat} {t : Nat × Nat × Nat} {r0 : Nat} {x1 : Int} {x2 : Int} : a_X 239 110 [a_r (r0), a_i (x1), a_i (x2)] [] (k, u, g, t) = if (k r0).1 = 11 then if ((k (g r0 2)).1 = 20 ∨ (k (g r0 2)).1 = 24) ∧ 0 ≤ (1 : Int) ∧ (1 : Int) < ((k (g r0 2)).2 : Int) then if (k r0).1 = 11 then (a_m 200 [a_r (r0), a_i (x1), a_i (u (g r0 2) (1 : Int).toNat)] (k, u, g, t)).bind (a_back 239 118 3 [a_r (r0), a_i (x1), a_i (x2)] []) else none else none else none := by
  refine (X_aload_n (m := 239) (pc := 110) (n := 0) (by decide +kernel) rfl).trans ?_
  refine (X_iload_n (m := 239) (pc := 111) (n := 1) (by decide +kernel) rfl).trans ?_
  refine (X_aload_n (m := 239) (pc := 112) (n := 0) (by decide +kernel) rfl).trans ?_
  refine (X_getR (m := 239) (pc := 113) (n := 7) (c := 11) (q := 2) (fi := true) (by decide +kernel) (by decide +kernel)).trans ?_
  refine ite_congr rfl (fun _ => ?_) (fun _ => rfl)
  refine (X_iconst (m := 239) (pc := 116) (n := 1) (by decide +kernel) ).trans ?_
  refine (X_iaload (m := 239) (pc := 117)  (by decide +kernel) ).trans ?_
  refine ite_congr rfl (fun _ => ?_) (fun _ => rfl)
  refine (X_call_vi (m := 239) (pc := 118) (q := 245) (y := 200) (n := 3) (as := [a_r (r0), a_i (x1), a_i (u (g r0 2) (1 : Int).toNat)]) (rest := []) (by decide +kernel) (by decide +kernel) (by decide +kernel) (by decide +kernel) rfl rfl (Nat.le_of_ble_eq_true rfl) (Nat.le_of_ble_eq_true rfl) rfl (by rw [show m_maxL 200 = 5 from by decide +kernel]; exact Nat.le_of_ble_eq_true rfl)).trans ?_
  exact ite_congr (by simp [a_rcv, show m_recv 200 = 11 from by decide +kernel]) (fun _ => rfl) (fun _ => rfl)
theorem B_X11_listener_125 {k : Nat → Nat × Nat} {u : Nat → Nat → Int} {g : Nat → Nat → Nat} {t : Nat × Nat × Nat} {r0 : Nat} {x1 : Int} {x2 : Int} : a_X 239 125 [a_r (r0), a_i (x1), a_i (x2)] [] (k, u, g, t) = if (k r0).1 = 11 then (a_m 166 [a_r (r0), a_i (x1), a_i (10)] (k, u, g, t)).bind (a_back 239 129 3 [a_r (r0), a_i (x1), a_i (x2)] []) else none := by
  refine (X_aload_n (m := 239) (pc := 125) (n := 0) (by decide +kernel) rfl).trans ?_
  refine (X_iload_n (m := 239) (pc := 126) (n := 1) (by decide +kernel) rfl).trans ?_
  refine (X_bipush (m := 239) (pc := 127) (n := 10) (by decide +kernel) ).trans ?_
  refine (X_call_vi (m := 239) (pc := 129) (q := 79) (y := 166) (n := 3) (as := [a_r (r0), a_i (x1), a_i (10)]) (rest := []) (by decide +kernel) (by decide +kernel) (by decide +kernel) (by decide +kernel) rfl rfl (Nat.le_of_ble_eq_true rfl) (Nat.le_of_ble_eq_true rfl) rfl (by rw [show m_maxL 166 = 3 from by decide +kernel]; exact Nat.le_of_ble_eq_true rfl)).trans ?_
  exact ite_congr (by simp [a_rcv, show m_recv 166 = 11 from by decide +kernel]) (fun _ => rfl) (fun _ => rfl)
theorem B_X11_listener_133 {k : Nat → Nat × Nat} {u : Nat → Nat → Int} {g : Nat → Nat → Nat} {t : Nat × Nat × Nat} {r0 : Nat} {x1 : Int} {x2 : Int} : a_X 239 133 [a_r (r0), a_i (x1), a_i (x2)] [] (k, u, g, t) = if (k r0).1 = 11 then (a_m 166 [a_r (r0), a_i (x1), a_i (11)] (k, u, g, t)).bind (a_back 239 137 3 [a_r (r0), a_i (x1), a_i (x2)] []) else none := by
  refine (X_aload_n (m := 239) (pc := 133) (n := 0) (by decide +kernel) rfl).trans ?_
  refine (X_iload_n (m := 239) (pc := 134) (n := 1) (by decide +kernel) rfl).trans ?_
  refine (X_bipush (m := 239) (pc := 135) (n := 11) (by decide +kernel) ).trans ?_
  refine (X_call_vi (m := 239) (pc := 137) (q := 79) (y := 166) (n := 3) (as := [a_r (r0), a_i (x1), a_i (11)]) (rest := []) (by decide +kernel) (by decide +kernel) (by decide +kernel) (by decide +kernel) rfl rfl (Nat.le_of_ble_eq_true rfl) (Nat.le_of_ble_eq_true rfl) rfl (by rw [show m_maxL 166 = 3 from by decide +kernel]; exact Nat.le_of_ble_eq_true rfl)).trans ?_
  exact ite_congr (by simp [a_rcv, show m_recv 166 = 11 from by decide +kernel]) (fun _ => rfl) (fun _ => rfl)
theorem B_X11_listener_141 {k : Nat → Nat × Nat} {u : Nat → Nat → Int} {g : Nat → Nat → Nat} {t : Nat × Nat × Nat} {r0 : Nat} {x1 : Int} {x2 : Int} : a_X 239 141 [a_r (r0), a_i (x1), a_i (x2)] [] (k, u, g, t) = if (k r0).1 = 11 then (a_m 238 [a_r (r0), a_i (x1)] (k, u, g, t)).bind (a_back 239 143 3 [a_r (r0), a_i (x1), a_i (x2)] []) else none := by
  refine (X_aload_n (m := 239) (pc := 141) (n := 0) (by decide +kernel) rfl).trans ?_
  refine (X_iload_n (m := 239) (pc := 142) (n := 1) (by decide +kernel) rfl).trans ?_
  refine (X_call_vi (m := 239) (pc := 143) (q := 348) (y := 238) (n := 2) (as := [a_r (r0), a_i (x1)]) (rest := []) (by decide +kernel) (by decide +kernel) (by decide +kernel) (by decide +kernel) rfl rfl (Nat.le_of_ble_eq_true rfl) (Nat.le_of_ble_eq_true rfl) rfl (by rw [show m_maxL 238 = 4 from by decide +kernel]; exact Nat.le_of_ble_eq_true rfl)).trans ?_
  exact ite_congr (by simp [a_rcv, show m_recv 238 = 11 from by decide +kernel]) (fun _ => rfl) (fun _ => rfl)
theorem B_X11_listener_147 {k : Nat → Nat × Nat} {u : Nat → Nat → Int} {g : Nat → Nat → Nat} {t : Nat × Nat × Nat} {r0 : Nat} {x1 : Int} {x2 : Int} : a_X 239 147 [a_r (r0), a_i (x1), a_i (x2)] [] (k, u, g, t) = if (k r0).1 = 11 then (a_m 237 [a_r (r0), a_i (x1)] (k, u, g, t)).bind (a_back 239 149 3 [a_r (r0), a_i (x1), a_i (x2)] []) else none := by
  refine (X_aload_n (m := 239) (pc := 147) (n := 0) (by decide +kernel) rfl).trans ?_
  refine (X_iload_n (m := 239) (pc := 148) (n := 1) (by decide +kernel) rfl).trans ?_
  refine (X_call_vi (m := 239) (pc := 149) (q := 351) (y := 237) (n := 2) (as := [a_r (r0), a_i (x1)]) (rest := []) (by decide +kernel) (by decide +kernel) (by decide +kernel) (by decide +kernel) rfl rfl (Nat.le_of_ble_eq_true rfl) (Nat.le_of_ble_eq_true rfl) rfl (by rw [show m_maxL 237 = 4 from by decide +kernel]; exact Nat.le_of_ble_eq_true rfl)).trans ?_
  exact ite_congr (by simp [a_rcv, show m_recv 237 = 11 from by decide +kernel]) (fun _ => rfl) (fun _ => rfl)
theorem B_X11_listener_153 {k : Nat → Nat × Nat} {u : Nat → Nat → Int} {g : Nat → Nat → Nat} {t : Nat × Nat × Nat} {r0 : Nat} {x1 : Int} {x2 : Int} : a_X 239 153 [a_r (r0), a_i (x1), a_i (x2)] [] (k, u, g, t) = if (k r0).1 = 11 then (a_m 166 [a_r (r0), a_i (x1), a_i (12)] (k, u, g, t)).bind (a_back 239 157 3 [a_r (r0), a_i (x1), a_i (x2)] []) else none := by
  refine (X_aload_n (m := 239) (pc := 153) (n := 0) (by decide +kernel) rfl).trans ?_
  refine (X_iload_n (m := 239) (pc := 154) (n := 1) (by decide +kernel) rfl).trans ?_
  refine (X_bipush (m := 239) (pc := 155) (n := 12) (by decide +kernel) ).trans ?_
  refine (X_call_vi (m := 239) (pc := 157) (q := 79) (y := 166) (n := 3) (as := [a_r (r0), a_i (x1), a_i (12)]) (rest := []) (by decide +kernel) (by decide +kernel) (by decide +kernel) (by decide +kernel) rfl rfl (Nat.le_of_ble_eq_true rfl) (Nat.le_of_ble_eq_true rfl) rfl (by rw [show m_maxL 166 = 3 from by decide +kernel]; exact Nat.le_of_ble_eq_true rfl)).trans ?_
  exact ite_congr (by simp [a_rcv, show m_recv 166 = 11 from by decide +kernel]) (fun _ => rfl) (fun _ => rfl)
theorem B_X11_listener_161 {k : Nat → Nat × Nat} {u : Nat → Nat → Int} {g : Nat → Nat → Nat} {t : Nat × Nat × Nat} {r0 : Nat} {x1 : Int} {x2 : Int} : a_X 239 161 [a_r (r0), a_i (x1), a_i (x2)] [] (k, u, g, t) = if (k r0).1 = 11 then (a_m 166 [a_r (r0), a_i (x1), a_i (13)] (k, u, g, t)).bind (a_back 239 165 3 [a_r (r0), a_i (x1), a_i (x2)] []) else none := by
  refine (X_aload_n (m := 239) (pc := 161) (n := 0) (by decide +kernel) rfl).trans ?_
  refine (X_iload_n (m := 239) (pc := 162) (n := 1) (by decide +kernel) rfl).trans ?_
  refine (X_bipush (m := 239) (pc := 163) (n := 13) (by decide +kernel) ).trans ?_
  refine (X_call_vi (m := 239) (pc := 165) (q := 79) (y := 166) (n := 3) (as := [a_r (r0), a_i (x1), a_i (13)]) (rest := []) (by decide +kernel) (by decide +kernel) (by decide +kernel) (by decide +kernel) rfl rfl (Nat.le_of_ble_eq_true rfl) (Nat.le_of_ble_eq_true rfl) rfl (by rw [show m_maxL 166 = 3 from by decide +kernel]; exact Nat.le_of_ble_eq_true rfl)).trans ?_
  exact ite_congr (by simp [a_rcv, show m_recv 166 = 11 from by decide +kernel]) (fun _ => rfl) (fun _ => rfl)
theorem B_X11_listener_169 {k : Nat → Nat × Nat} {u : Nat → Nat → Int} {g : Nat → Nat → Nat} {t : Nat × Nat × Nat} {r0 : Nat} {x1 : Int} {x2 : Int} : a_X 239 169 [a_r (r0), a_i (x1), a_i (x2)] [] (k, u, g, t) = if (k r0).1 = 11 then (a_m 210 [a_r (r0), a_i (x1), a_i (-1)] (k, u, g, t)).bind (a_back 239 172 3 [a_r (r0), a_i (x1), a_i (x2)] []) else none := by
  refine (X_aload_n (m := 239) (pc := 169) (n := 0) (by decide +kernel) rfl).trans ?_
  refine (X_iload_n (m := 239) (pc := 170) (n := 1) (by decide +kernel) rfl).trans ?_
  refine (X_iconst (m := 239) (pc := 171) (n := -1) (by decide +kernel) ).trans ?_
  refine (X_call_vi (m := 239) (pc := 172) (q := 262) (y := 210) (n := 3) (as := [a_r (r0), a_i (x1), a_i (-1)]) (rest := []) (by decide +kernel) (by decide +kernel) (by decide +kernel) (by decide +kernel) rfl rfl (Nat.le_of_ble_eq_true rfl) (Nat.le_of_ble_eq_true rfl) rfl (by rw [show m_maxL 210 = 5 from by decide +kernel]; exact Nat.le_of_ble_eq_true rfl)).trans ?_
  exact ite_congr (by simp [a_rcv, show m_recv 210 = 11 from by decide +kernel]) (fun _ => rfl) (fun _ => rfl)
theorem B_X11_listener_176 {k : Nat → Nat × Nat} {u : Nat → Nat → Int} {g : Nat → Nat → Nat} {t : Nat × Nat × Nat} {r0 : Nat} {x1 : Int} {x2 : Int} : a_X 239 176 [a_r (r0), a_i (x1), a_i (x2)] [] (k, u, g, t) = if (k r0).1 = 11 then (a_m 210 [a_r (r0), a_i (x1), a_i (-1)] (k, u, g, t)).bind (a_back 239 179 3 [a_r (r0), a_i (x1), a_i (x2)] []) else none := by
  refine (X_aload_n (m := 239) (pc := 176) (n := 0) (by decide +kernel) rfl).trans ?_
  refine (X_iload_n (m := 239) (pc := 177) (n := 1) (by decide +kernel) rfl).trans ?_
  refine (X_iconst (m := 239) (pc := 178) (n := -1) (by decide +kernel) ).trans ?_
  refine (X_call_vi (m := 239) (pc := 179) (q := 262) (y := 210) (n := 3) (as := [a_r (r0), a_i (x1), a_i (-1)]) (rest := []) (by decide +kernel) (by decide +kernel) (by decide +kernel) (by decide +kernel) rfl rfl (Nat.le_of_ble_eq_true rfl) (Nat.le_of_ble_eq_true rfl) rfl (by rw [show m_maxL 210 = 5 from by decide +kernel]; exact Nat.le_of_ble_eq_true rfl)).trans ?_
  exact ite_congr (by simp [a_rcv, show m_recv 210 = 11 from by decide +kernel]) (fun _ => rfl) (fun _ => rfl)
theorem B_X11_listener_194 {k : Nat → Nat × Nat} {u : Nat → Nat → Int} {g : Nat → Nat → Nat} {t : Nat × Nat × Nat} {r0 : Nat} {x1 : Int} {x2 : Int} : a_X 239 194 [a_r (r0), a_i (x1), a_i (x2)] [] (k, u, g, t) = if (k r0).1 = 11 then (a_m 166 [a_r (r0), a_i (x1), a_i (14)] (k, u, g, t)).bind (a_back 239 198 3 [a_r (r0), a_i (x1), a_i (x2)] []) else none := by
  refine (X_aload_n (m := 239) (pc := 194) (n := 0) (by decide +kernel) rfl).trans ?_
  refine (X_iload_n (m := 239) (pc := 195) (n := 1) (by decide +kernel) rfl).trans ?_
  refine (X_bipush (m := 239) (pc := 196) (n := 14) (by decide +kernel) ).trans ?_
  refine (X_call_vi (m := 239) (pc := 198) (q := 79) (y := 166) (n := 3) (as := [a_r (r0), a_i (x1), a_i (14)]) (rest := []) (by decide +kernel) (by decide +kernel) (by decide +kernel) (by decide +kernel) rfl rfl (Nat.le_of_ble_eq_true rfl) (Nat.le_of_ble_eq_true rfl) rfl (by rw [show m_maxL 166 = 3 from by decide +kernel]; exact Nat.le_of_ble_eq_true rfl)).trans ?_
  exact ite_congr (by simp [a_rcv, show m_recv 166 = 11 from by decide +kernel]) (fun _ => rfl) (fun _ => rfl)
theorem B_X11_listener_102 {k : Nat → Nat × Nat} {u : Nat → Nat → Int} {g : Nat → Nat → Nat} {t : Nat × Nat × Nat} {r0 : Nat} {x1 : Int} {x2 : Int} {y0 : Int} : a_X 239 102 [a_r (r0), a_i (x1), a_i (x2)] [a_i (y0)] (k, u, g, t) = some (.inl (some (a_i (y0))), (k, u, g, t)) := by
  exact X_ireturn (m := 239) (pc := 102) (f := 1) (by decide +kernel) (by decide +kernel) rfl
theorem B_X11_listener_109 {k : Nat → Nat × Nat} {u : Nat → Nat → Int} {g : Nat → Nat → Nat} {t : Nat × Nat × Nat} {r0 : Nat} {x1 : Int} {x2 : Int} {y0 : Int} : a_X 239 109 [a_r (r0), a_i (x1), a_i (x2)] [a_i (y0)] (k, u, g, t) = some (.inl (some (a_i (y0))), (k, u, g, t)) := by
  exact X_ireturn (m := 239) (pc := 109) (f := 1) (by decide +kernel) (by decide +kernel) rfl
theorem B_X11_listener_121 {k : Nat → Nat × Nat} {u : Nat → Nat → Int} {g : Nat → Nat → Nat} {t : Nat × Nat × Nat} {r0 : Nat} {x1 : Int} {x2 : Int} {y0 : Int} : a_X 239 121 [a_r (r0), a_i (x1), a_i (x2)] [a_i (y0)] (k, u, g, t) = (a_m 156 [a_i (y0)] (k, u, g, t)).bind (a_back 239 121 3 [a_r (r0), a_i (x1), a_i (x2)] []) := by
  refine (X_call_st (m := 239) (pc := 121) (q := 204) (y := 156) (n := 1) (as := [a_i (y0)]) (rest := []) (by decide +kernel) (by decide +kernel) (by decide +kernel) (by decide +kernel) rfl rfl (Nat.le_of_ble_eq_true rfl) (Nat.le_of_ble_eq_true rfl) rfl (by rw [show m_maxL 156 = 1 from by decide +kernel]; exact Nat.le_of_ble_eq_true rfl)).trans ?_
  exact if_pos rfl
theorem B_X11_listener_132 {k : Nat → Nat × Nat} {u : Nat → Nat → Int} {g : Nat → Nat → Nat} {t : Nat × Nat × Nat} {r0 : Nat} {x1 : Int} {x2 : Int} {y0 : Int} : a_X 239 132 [a_r (r0), a_i (x1), a_i (x2)] [a_i (y0)] (k, u, g, t) = some (.inl (some (a_i (y0))), (k, u, g, t)) := by
  exact X_ireturn (m := 239) (pc := 132) (f := 1) (by decide +kernel) (by decide +kernel) rfl
theorem B_X11_listener_140 {k : Nat → Nat × Nat} {u : Nat → Nat → Int} {g : Nat → Nat → Nat} {t : Nat × Nat × Nat} {r0 : Nat} {x1 : Int} {x2 : Int} {y0 : Int} : a_X 239 140 [a_r (r0), a_i (x1), a_i (x2)] [a_i (y0)] (k, u, g, t) = some (.inl (some (a_i (y0))), (k, u, g, t)) := by
  exact X_ireturn (m := 239) (pc := 140) (f := 1) (by decide +kernel) (by decide +kernel) rfl
theorem B_X11_listener_146 {k : Nat → Nat × Nat} {u : Nat → Nat → Int} {g : Nat → Nat → Nat} {t : Nat × Nat × Nat} {r0 : Nat} {x1 : Int} {x2 : Int} {y0 : Int} : a_X 239 146 [a_r (r0), a_i (x1), a_i (x2)] [a_i (y0)] (k, u, g, t) = some (.inl (some (a_i (y0))), (k, u, g, t)) := by
  exact X_ireturn (m := 239) (pc := 146) (f := 1) (by decide +kernel) (by decide +kernel) rfl
theorem B_X11_listener_152 {k : Nat → Nat × Nat} {u : Nat → Nat → Int} {g : Nat → Nat → Nat} {t : Nat × Nat × Nat} {r0 : Nat} {x1 : Int} {x2 : Int} {y0 : Int} : a_X 239 152 [a_r (r0), a_i (x1), a_i (x2)] [a_i (y0)] (k, u, g, t) = some (.inl (some (a_i (y0))), (k, u, g, t)) := by
  exact X_ireturn (m := 239) (pc := 152) (f := 1) (by decide +kernel) (by decide +kernel) rfl
theorem B_X11_listener_160 {k : Nat → Nat × Nat} {u : Nat → Nat → Int} {g : Nat → Nat → Nat} {t : Nat × Nat × Nat} {r0 : Nat} {x1 : Int} {x2 : Int} {y0 : Int} : a_X 239 160 [a_r (r0), a_i (x1), a_i (x2)] [a_i (y0)] (k, u, g, t) = some (.inl (some (a_i (y0))), (k, u, g, t)) := by
  exact X_ireturn (m := 239) (pc := 160) (f := 1) (by decide +kernel) (by decide +kernel) rfl
theorem B_X11_listener_168 {k : Nat → Nat × Nat} {u : Nat → Nat → Int} {g : Nat → Nat → Nat} {t : Nat × Nat × Nat} {r0 : Nat} {x1 : Int} {x2 : Int} {y0 : Int} : a_X 239 168 [a_r (r0), a_i (x1), a_i (x2)] [a_i (y0)] (k, u, g, t) = some (.inl (some (a_i (y0))), (k, u, g, t)) := by
  exact X_ireturn (m := 239) (pc := 168) (f := 1) (by decide +kernel) (by decide +kernel) rfl
theorem B_X11_listener_175 {k : Nat → Nat × Nat} {u : Nat → Nat → Int} {g : Nat → Nat → Nat} {t : Nat × Nat × Nat} {r0 : Nat} {x1 : Int} {x2 : Int} {y0 : Int} : a_X 239 175 [a_r (r0), a_i (x1), a_i (x2)] [a_i (y0)] (k, u, g, t) = some (.inl (some (a_i (y0))), (k, u, g, t)) := by
  exact X_ireturn (m := 239) (pc := 175) (f := 1) (by decide +kernel) (by decide +kernel) rfl
theorem B_X11_listener_182 {k : Nat → Nat × Nat} {u : Nat → Nat → Int} {g : Nat → Nat → Nat} {t : Nat × Nat × Nat} {r0 : Nat} {x1 : Int} {x2 : Int} {y0 : Int} : a_X 239 182 [a_r (r0), a_i (x1), a_i (x2)] [a_i (y0)] (k, u, g, t) = if (y0 : Int) ≠ 0 then (a_m 156 [a_i (0)] (k, u, g, t)).bind (a_back 239 190 3 [a_r (r0), a_i (x1), a_i (x2)] []) else (a_m 156 [a_i (1)] (k, u, g, t)).bind (a_back 239 190 3 [a_r (r0), a_i (x1), a_i (x2)] []) := by
  refine (X_if_ne (m := 239) (pc := 182) (off := 7) (tg := 189) (by decide +kernel) (by decide +kernel)).trans ?_
  refine ite_congr rfl (fun _ => ?_) (fun _ => ?_)
  · refine (X_iconst (m := 239) (pc := 189) (n := 0) (by decide +kernel) ).trans ?_
    refine (X_call_st (m := 239) (pc := 190) (q := 204) (y := 156) (n := 1) (as := [a_i (0)]) (rest := []) (by decide +kernel) (by decide +kernel) (by decide +kernel) (by decide +kernel) rfl rfl (Nat.le_of_ble_eq_true rfl) (Nat.le_of_ble_eq_true rfl) rfl (by rw [show m_maxL 156 = 1 from by decide +kernel]; exact Nat.le_of_ble_eq_true rfl)).trans ?_
    exact if_pos rfl
  · refine (X_iconst (m := 239) (pc := 185) (n := 1) (by decide +kernel) ).trans ?_
    refine (X_goto (m := 239) (pc := 186) (off := 4) (tg := 190) (by decide +kernel) (by decide +kernel)).trans ?_
    refine (X_call_st (m := 239) (pc := 190) (q := 204) (y := 156) (n := 1) (as := [a_i (1)]) (rest := []) (by decide +kernel) (by decide +kernel) (by decide +kernel) (by decide +kernel) rfl rfl (Nat.le_of_ble_eq_true rfl) (Nat.le_of_ble_eq_true rfl) rfl (by rw [show m_maxL 156 = 1 from by decide +kernel]; exact Nat.le_of_ble_eq_true rfl)).trans ?_
    exact if_pos rfl
theorem B_X11_listener_201 {k : Nat → Nat × Nat} {u : Nat → Nat → Int} {g : Nat → Nat → Nat} {t : Nat × Nat × Nat} {r0 : Nat} {x1 : Int} {x2 : Int} {y0 : Int} : a_X 239 201 [a_r (r0), a_i (x1), a_i (x2)] [a_i (y0)] (k, u, g, t) = some (.inl (some (a_i (y0))), (k, u, g, t)) := by
  exact X_ireturn (m := 239) (pc := 201) (f := 1) (by decide +kernel) (by decide +kernel) rfl
theorem B_X11_listener_124 {k : Nat → Nat × Nat} {u : Nat → Nat → Int} {g : Nat → Nat → Nat} {t : Nat × Nat × Nat} {r0 : Nat} {x1 : Int} {x2 : Int} {y0 : Int} : a_X 239 124 [a_r (r0), a_i (x1), a_i (x2)] [a_i (y0)] (k, u, g, t) = some (.inl (some (a_i (y0))), (k, u, g, t)) := by
  exact X_ireturn (m := 239) (pc := 124) (f := 1) (by decide +kernel) (by decide +kernel) rfl
theorem B_X11_listener_193 {k : Nat → Nat × Nat} {u : Nat → Nat → Int} {g : Nat → Nat → Nat} {t : Nat × Nat × Nat} {r0 : Nat} {x1 : Int} {x2 : Int} {y0 : Int} : a_X 239 193 [a_r (r0), a_i (x1), a_i (x2)] [a_i (y0)] (k, u, g, t) = some (.inl (some (a_i (y0))), (k, u, g, t)) := by
  exact X_ireturn (m := 239) (pc := 193) (f := 1) (by decide +kernel) (by decide +kernel) rfl
theorem E_X11_gap {σ : AS} {r0 : Nat} {x1 : Int} {x2 : Int} {x3 : Int} : a_m 240 [a_r (r0), a_i (x1), a_i (x2), a_i (x3)] σ = a_X 240 0 [a_r (r0), a_i (x1), a_i (x2), a_i (x3)] [] σ := a_m_eq (by rw [a_entry, show m_maxL 240 = 4 from by decide +kernel]; rfl)
theorem B_X11_gap_0 {k : Nat → Nat × Nat} {u : Nat → Nat → Int} {g : Nat → Nat → Nat} {t : Nat × Nat × Nat} {r0 : Nat} {x1 : Int} {x2 : Int} {x3 : Int} : a_X 240 0 [a_r (r0), a_i (x1), a_i (x2), a_i (x3)] [] (k, u, g, t) = if (k r0).1 = 11 then (a_m 159 [a_r (r0), a_i (x1)] (k, u, g, t)).bind (a_back 240 2 3 [a_r (r0), a_i (x1), a_i (x2), a_i (x3)] []) else none := by
  refine (X_aload_n (m := 240) (pc := 0) (n := 0) (by decide +kernel) rfl).trans ?_
  refine (X_iload_n (m := 240) (pc := 1) (n := 1) (by decide +kernel) rfl).trans ?_
  refine (X_call_vi (m := 240) (pc := 2) (q := 345) (y := 159) (n := 2) (as := [a_r (r0), a_i (x1)]) (rest := []) (by decide +kernel) (by decide +kernel) (by decide +kernel) (by decide +kernel) rfl rfl (Nat.le_of_ble_eq_true rfl) (Nat.le_of_ble_eq_true rfl) rfl (by rw [show m_maxL 159 = 2 from by decide +kernel]; exact Nat.le_of_ble_eq_true rfl)).trans ?_
  exact ite_congr (by simp [a_rcv, show m_recv 159 = 11 from by decide +kernel]) (fun _ => rfl) (fun _ => rfl)
theorem B_X11_gap_5 {k : Nat → Nat × Nat} {u : Nat → Nat → Int} {g : Nat → Nat → Nat} {t : Nat × Nat × Nat} {r0 : Nat} {x1 : Int} {x2 : Int} {x3 : Int} {y0 : Int} : a_X 240 5 [a_r (r0), a_i (x1), a_i (x2), a_i (x3)] [a_i (y0)] (k, u, g, t) = if (y0 : Int) ≠ 0 then some (.inl (some (a_i (0))), (k, u, g, t)) else (a_m 155 [a_l (x3), a_l (0), a_l (1)] (k, u, g, t)).bind (a_back 240 13 3 [a_r (r0), a_i (x1), a_i (x2), a_i (x3)] [a_r (r0)]) := by
  refine (X_if_ne (m := 240) (pc := 5) (off := 26) (tg := 31) (by decide +kernel) (by decide +kernel)).trans ?_
  refine ite_congr rfl (fun _ => ?_) (fun _ => ?_)
  · refine (X_iconst (m := 240) (pc := 31) (n := 0) (by decide +kernel) ).trans ?_
    exact X_ireturn (m := 240) (pc := 32) (f := 1) (by decide +kernel) (by decide +kernel) rfl
  · refine (X_aload_n (m := 240) (pc := 8) (n := 0) (by decide +kernel) rfl).trans ?_
    refine (X_iload_n (m := 240) (pc := 9) (n := 3) (by decide +kernel) rfl).trans ?_
    refine (X_i2l (m := 240) (pc := 10)  (by decide +kernel) ).trans ?_
    refine (X_lconst (m := 240) (pc := 11) (n := 0) (by decide +kernel) ).trans ?_
    refine (X_lconst (m := 240) (pc := 12) (n := 1) (by decide +kernel) ).trans ?_
    refine (X_call_st (m := 240) (pc := 13) (q := 61) (y := 155) (n := 3) (as := [a_l (x3), a_l (0), a_l (1)]) (rest := [a_r (r0)]) (by decide +kernel) (by decide +kernel) (by decide +kernel) (by decide +kernel) rfl rfl (Nat.le_of_ble_eq_true rfl) (Nat.le_of_ble_eq_true rfl) rfl (by rw [show m_maxL 155 = 6 from by decide +kernel]; exact Nat.le_of_ble_eq_true rfl)).trans ?_
    exact if_pos rfl
theorem B_X11_gap_16 {k : Nat → Nat × Nat} {u : Nat → Nat → Int} {g : Nat → Nat → Nat} {t : Nat × Nat × Nat} {r0 : Nat} {x1 : Int} {x2 : Int} {x3 : Int} {q0 : Nat} {y1 : Int} : a_X 240 16 [a_r (r0), a_i (x1), a_i (x2), a_i (x3)] [a_i (y1), a_r (q0)] (k, u, g, t) = if (y1 : Int) ≠ 0 then if (k q0).1 = 11 then (a_m 157 [a_r (q0), a_i (0), a_i (3)] (k, u, g, t)).bind (a_back 240 25 3 [a_r (r0), a_i (x1), a_i (x2), a_i (x3)] []) else none else if (k q0).1 = 11 then (a_m 157 [a_r (q0), a_i (1), a_i (3)] (k, u, g, t)).bind (a_back 240 25 3 [a_r (r0), a_i (x1), a_i (x2), a_i (x3)] []) else none := by
  refine (X_if_ne (m := 240) (pc := 16) (off := 7) (tg := 23) (by decide +kernel) (by decide +kernel)).trans ?_
  refine ite_congr rfl (fun _ => ?_) (fun _ => ?_)
  · refine (X_iconst (m := 240) (pc := 23) (n := 0) (by decide +kernel) ).trans ?_
    refine (X_iconst (m := 240) (pc := 24) (n := 3) (by decide +kernel) ).trans ?_
    refine (X_call_vi (m := 240) (pc := 25) (q := 53) (y := 157) (n := 3) (as := [a_r (q0), a_i (0), a_i (3)]) (rest := []) (by decide +kernel) (by decide +kernel) (by decide +kernel) (by decide +kernel) rfl rfl (Nat.le_of_ble_eq_true rfl) (Nat.le_of_ble_eq_true rfl) rfl (by rw [show m_maxL 157 = 3 from by decide +kernel]; exact Nat.le_of_ble_eq_true rfl)).trans ?_
    exact ite_congr (by simp [a_rcv, show m_recv 157 = 11 from by decide +kernel]) (fun _ => rfl) (fun _ => rfl)
  · refine (X_iconst (m := 240) (pc := 19) (n := 1) (by decide +kernel) ).trans ?_
    refine (X_goto (m := 240) (pc := 20) (off := 4) (tg := 24) (by decide +kernel) (by decide +kernel)).trans ?_
    refine (X_iconst (m := 240) (pc := 24) (n := 3) (by decide +kernel) ).trans ?_
    refine (X_call_vi (m := 240) (pc := 25) (q := 53) (y := 157) (n := 3) (as := [a_r (q0), a_i (1), a_i (3)]) (rest := []) (by decide +kernel) (by decide +kernel) (by decide +kernel) (by decide +kernel) rfl rfl (Nat.le_of_ble_eq_true rfl) (Nat.le_of_ble_eq_true rfl) rfl (by rw [show m_maxL 157 = 3 from by decide +kernel]; exact Nat.le_of_ble_eq_true rfl)).trans ?_
    exact ite_congr (by simp [a_rcv, show m_recv 157 = 11 from by decide +kernel]) (fun _ => rfl) (fun _ => rfl)
theorem B_X11_gap_28 {k : Nat → Nat × Nat} {u : Nat → Nat → Int} {g : Nat → Nat → Nat} {t : Nat × Nat × Nat} {r0 : Nat} {x1 : Int} {x2 : Int} {x3 : Int} {y0 : Int} : a_X 240 28 [a_r (r0), a_i (x1), a_i (x2), a_i (x3)] [a_i (y0)] (k, u, g, t) = if (y0 : Int) = 0 then if (k r0).1 = 11 then (a_m 166 [a_r (r0), a_i (x1), a_i (1)] (k, u, g, t)).bind (a_back 240 39 3 [a_r (r0), a_i (x1), a_i (x2), a_i (x3)] [a_l (0), a_l (x2)]) else none else some (.inl (some (a_i (0))), (k, u, g, t)) := by
  refine (X_if_eq (m := 240) (pc := 28) (off := 5) (tg := 33) (by decide +kernel) (by decide +kernel)).trans ?_
  refine ite_congr rfl (fun _ => ?_) (fun _ => ?_)
  · refine (X_iload_n (m := 240) (pc := 33) (n := 2) (by decide +kernel) rfl).trans ?_
    refine (X_i2l (m := 240) (pc := 34)  (by decide +kernel) ).trans ?_
    refine (X_lconst (m := 240) (pc := 35) (n := 0) (by decide +kernel) ).trans ?_
    refine (X_aload_n (m := 240) (pc := 36) (n := 0) (by decide +kernel) rfl).trans ?_
    refine (X_iload_n (m := 240) (pc := 37) (n := 1) (by decide +kernel) rfl).trans ?_
    refine (X_iconst (m := 240) (pc := 38) (n := 1) (by decide +kernel) ).trans ?_
    refine (X_call_vi (m := 240) (pc := 39) (q := 79) (y := 166) (n := 3) (as := [a_r (r0), a_i (x1), a_i (1)]) (rest := [a_l (0), a_l (x2)]) (by decide +kernel) (by decide +kernel) (by decide +kernel) (by decide +kernel) rfl rfl (Nat.le_of_ble_eq_true rfl) (Nat.le_of_ble_eq_true rfl) rfl (by rw [show m_maxL 166 = 3 from by decide +kernel]; exact Nat.le_of_ble_eq_true rfl)).trans ?_
    exact ite_congr (by simp [a_rcv, show m_recv 166 = 11 from by decide +kernel]) (fun _ => rfl) (fun _ => rfl)
  · refine (X_iconst (m := 240) (pc := 31) (n := 0) (by decide +kernel) ).trans ?_
    exact X_ireturn (m := 240) (pc := 32) (f := 1) (by decide +kernel) (by decide +kernel) rfl
theorem B_X11_gap_42 {k : Nat → Nat × Nat} {u : Nat → Nat → Int} {g : Nat → Nat → Nat} {t : Nat × Nat × Nat} {r0 : Nat} {x1 : Int} {x2 : Int} {x3 : Int} {w0 : Int} {w1 : Int} {y2 : Int} : a_X 240 42 [a_r (r0), a_i (x1), a_i (x2), a_i (x3)] [a_i (y2), a_l (w1), a_l (w0)] (k, u, g, t) = (a_m 155 [a_l (w0), a_l (w1), a_l (wr (y2 - 1))] (k, u, g, t)).bind (a_back 240 45 3 [a_r (r0), a_i (x1), a_i (x2), a_i (x3)] []) := by
  refine (X_iconst (m := 240) (pc := 42) (n := 1) (by decide +kernel) ).trans ?_
  refine (X_isub (m := 240) (pc := 43)  (by decide +kernel) ).trans ?_
  refine (X_i2l (m := 240) (pc := 44)  (by decide +kernel) ).trans ?_
  refine (X_call_st (m := 240) (pc := 45) (q := 61) (y := 155) (n := 3) (as := [a_l (w0), a_l (w1), a_l (wr (y2 - 1))]) (rest := []) (by decide +kernel) (by decide +kernel) (by decide +kernel) (by decide +kernel) rfl rfl (Nat.le_of_ble_eq_true rfl) (Nat.le_of_ble_eq_true rfl) rfl (by rw [show m_maxL 155 = 6 from by decide +kernel]; exact Nat.le_of_ble_eq_true rfl)).trans ?_
  exact if_pos rfl
theorem B_X11_gap_48 {k : Nat → Nat × Nat} {u : Nat → Nat → Int} {g : Nat → Nat → Nat} {t : Nat × Nat × Nat} {r0 : Nat} {x1 : Int} {x2 : Int} {x3 : Int} {y0 : Int} : a_X 240 48 [a_r (r0), a_i (x1), a_i (x2), a_i (x3)] [a_i (y0)] (k, u, g, t) = if (y0 : Int) = 0 then some (.inl (some (a_i (-1))), (k, u, g, t)) else if (k r0).1 = 11 then (a_m 166 [a_r (r0), a_i (x1), a_i (wr ((wr (2 + (wr (2 * x2)))) + x3))] (k, u, g, t)).bind (a_back 240 60 3 [a_r (r0), a_i (x1), a_i (x2), a_i (x3)] []) else none := by
  refine (X_if_eq (m := 240) (pc := 48) (off := 18) (tg := 66) (by decide +kernel) (by decide +kernel)).trans ?_
  refine ite_congr rfl (fun _ => ?_) (fun _ => ?_)
  · refine (X_iconst (m := 240) (pc := 66) (n := -1) (by decide +kernel) ).trans ?_
    exact X_ireturn (m := 240) (pc := 67) (f := 1) (by decide +kernel) (by decide +kernel) rfl
  · refine (X_aload_n (m := 240) (pc := 51) (n := 0) (by decide +kernel) rfl).trans ?_
    refine (X_iload_n (m := 240) (pc := 52) (n := 1) (by decide +kernel) rfl).trans ?_
    refine (X_iconst (m := 240) (pc := 53) (n := 2) (by decide +kernel) ).trans ?_
    refine (X_iconst (m := 240) (pc := 54) (n := 2) (by decide +kernel) ).trans ?_
    refine (X_iload_n (m := 240) (pc := 55) (n := 2) (by decide +kernel) rfl).trans ?_
    refine (X_imul (m := 240) (pc := 56)  (by decide +kernel) ).trans ?_
    refine (X_iadd (m := 240) (pc := 57)  (by decide +kernel) ).trans ?_
    refine (X_iload_n (m := 240) (pc := 58) (n := 3) (by decide +kernel) rfl).trans ?_
    refine (X_iadd (m := 240) (pc := 59)  (by decide +kernel) ).trans ?_
    refine (X_call_vi (m := 240) (pc := 60) (q := 79) (y := 166) (n := 3) (as := [a_r (r0), a_i (x1), a_i (wr ((wr (2 + (wr (2 * x2)))) + x3))]) (rest := []) (by decide +kernel) (by decide +kernel) (by decide +kernel) (by decide +kernel) rfl rfl (Nat.le_of_ble_eq_true rfl) (Nat.le_of_ble_eq_true rfl) rfl (by rw [show m_maxL 166 = 3 from by decide +kernel]; exact Nat.le_of_ble_eq_true rfl)).trans ?_
    exact ite_congr (by simp [a_rcv, show m_recv 166 = 11 from by decide +kernel]) (fun _ => rfl) (fun _ => rfl)
theorem B_X11_gap_63 {k : Nat → Nat × Nat} {u : Nat → Nat → Int} {g : Nat → Nat → Nat} {t : Nat × Nat × Nat} {r0 : Nat} {x1 : Int} {x2 : Int} {x3 : Int} {y0 : Int} : a_X 240 63 [a_r (r0), a_i (x1), a_i (x2), a_i (x3)] [a_i (y0)] (k, u, g, t) = some (.inl (some (a_i (y0))), (k, u, g, t)) := by
  refine (X_goto (m := 240) (pc := 63) (off := 4) (tg := 67) (by decide +kernel) (by decide +kernel)).trans ?_
  exact X_ireturn (m := 240) (pc := 67) (f := 1) (by decide +kernel) (by decide +kernel) rfl
theorem E_X11_hasHeard {σ : AS} {r0 : Nat} {x1 : Int} {x2 : Int} : a_m 241 [a_r (r0), a_i (x1), a_i (x2)] σ = a_X 241 0 [a_r (r0), a_i (x1), a_i (x2)] [] σ := a_m_eq (by rw [a_entry, show m_maxL 241 = 3 from by decide +kernel]; rfl)
theorem B_X11_hasHeard_0 {k : Nat → Nat × Nat} {u : Nat → Nat → Int} {g : Nat → Nat → Nat} {t : Nat × Nat × Nat} {r0 : Nat} {x1 : Int} {x2 : Int} : a_X 241 0 [a_r (r0), a_i (x1), a_i (x2)] [] (k, u, g, t) = if (k r0).1 = 11 then (a_m 159 [a_r (r0), a_i (x1)] (k, u, g, t)).bind (a_back 241 2 3 [a_r (r0), a_i (x1), a_i (x2)] []) else none := by
  refine (X_aload_n (m := 241) (pc := 0) (n := 0) (by decide +kernel) rfl).trans ?_
  refine (X_iload_n (m := 241) (pc := 1) (n := 1) (by decide +kernel) rfl).trans ?_
  refine (X_call_vi (m := 241) (pc := 2) (q := 345) (y := 159) (n := 2) (as := [a_r (r0), a_i (x1)]) (rest := []) (by decide +kernel) (by decide +kernel) (by decide +kernel) (by decide +kernel) rfl rfl (Nat.le_of_ble_eq_true rfl) (Nat.le_of_ble_eq_true rfl) rfl (by rw [show m_maxL 159 = 2 from by decide +kernel]; exact Nat.le_of_ble_eq_true rfl)).trans ?_
  exact ite_congr (by simp [a_rcv, show m_recv 159 = 11 from by decide +kernel]) (fun _ => rfl) (fun _ => rfl)
theorem B_X11_hasHeard_5 {k : Nat → Nat × Nat} {u : Nat → Nat → Int} {g : Nat → Nat → Nat} {t : Nat × Nat × Nat} {r0 : Nat} {x1 : Int} {x2 : Int} {y0 : Int} : a_X 241 5 [a_r (r0), a_i (x1), a_i (x2)] [a_i (y0)] (k, u, g, t) = if (y0 : Int) ≠ 0 then some (.inl (some (a_i (0))), (k, u, g, t)) else if (k r0).1 = 11 then (a_m 172 [a_r (r0), a_i (x1), a_i (x2)] (k, u, g, t)).bind (a_back 241 11 3 [a_r (r0), a_i (x1), a_i (x2)] []) else none := by
  refine (X_if_ne (m := 241) (pc := 5) (off := 16) (tg := 21) (by decide +kernel) (by decide +kernel)).trans ?_
  refine ite_congr rfl (fun _ => ?_) (fun _ => ?_)
  · refine (X_iconst (m := 241) (pc := 21) (n := 0) (by decide +kernel) ).trans ?_
    exact X_ireturn (m := 241) (pc := 22) (f := 2) (by decide +kernel) (by decide +kernel) rfl
  · refine (X_aload_n (m := 241) (pc := 8) (n := 0) (by decide +kernel) rfl).trans ?_
    refine (X_iload_n (m := 241) (pc := 9) (n := 1) (by decide +kernel) rfl).trans ?_
    refine (X_iload_n (m := 241) (pc := 10) (n := 2) (by decide +kernel) rfl).trans ?_
    refine (X_call_vi (m := 241) (pc := 11) (q := 293) (y := 172) (n := 3) (as := [a_r (r0), a_i (x1), a_i (x2)]) (rest := []) (by decide +kernel) (by decide +kernel) (by decide +kernel) (by decide +kernel) rfl rfl (Nat.le_of_ble_eq_true rfl) (Nat.le_of_ble_eq_true rfl) rfl (by rw [show m_maxL 172 = 3 from by decide +kernel]; exact Nat.le_of_ble_eq_true rfl)).trans ?_
    exact ite_congr (by simp [a_rcv, show m_recv 172 = 11 from by decide +kernel]) (fun _ => rfl) (fun _ => rfl)
theorem B_X11_hasHeard_14 {k : Nat → Nat × Nat} {u : Nat → Nat → Int} {g : Nat → Nat → Nat} {t : Nat × Nat × Nat} {r0 : Nat} {x1 : Int} {x2 : Int} {y0 : Int} : a_X 241 14 [a_r (r0), a_i (x1), a_i (x2)] [a_i (y0)] (k, u, g, t) = if (y0 : Int) = 0 then some (.inl (some (a_i (0))), (k, u, g, t)) else some (.inl (some (a_i (1))), (k, u, g, t)) := by
  refine (X_if_eq (m := 241) (pc := 14) (off := 7) (tg := 21) (by decide +kernel) (by decide +kernel)).trans ?_
  refine ite_congr rfl (fun _ => ?_) (fun _ => ?_)
  · refine (X_iconst (m := 241) (pc := 21) (n := 0) (by decide +kernel) ).trans ?_
    exact X_ireturn (m := 241) (pc := 22) (f := 2) (by decide +kernel) (by decide +kernel) rfl
  · refine (X_iconst (m := 241) (pc := 17) (n := 1) (by decide +kernel) ).trans ?_
    refine (X_goto (m := 241) (pc := 18) (off := 4) (tg := 22) (by decide +kernel) (by decide +kernel)).trans ?_
    exact X_ireturn (m := 241) (pc := 22) (f := 2) (by decide +kernel) (by decide +kernel) rfl
theorem E_X11_missing {σ : AS} {r0 : Nat} {x1 : Int} {x2 : Int} : a_m 242 [a_r (r0), a_i (x1), a_i (x2)] σ = a_X 242 0 [a_r (r0), a_i (x1), a_i (x2), a_x false, a_x false] [] σ := a_m_eq (by rw [a_entry, show m_maxL 242 = 5 from by decide +kernel]; rfl)
theorem B_X11_missing_0 {k : Nat → Nat × Nat} {u : Nat → Nat → Int} {g : Nat → Nat → Nat} {t : Nat × Nat × Nat} {r0 : Nat} {x1 : Int} {x2 : Int} {v3 : AV} {v4 : AV} : a_X 242 0 [a_r (r0), a_i (x1), a_i (x2), v3, v4] [] (k, u, g, t) = if (k r0).1 = 11 then (a_m 159 [a_r (r0), a_i (x1)] (k, u, g, t)).bind (a_back 242 2 3 [a_r (r0), a_i (x1), a_i (x2), v3, v4] []) else none := by
  refine (X_aload_n (m := 242) (pc := 0) (n := 0) (by decide +kernel) rfl).trans ?_
  refine (X_iload_n (m := 242) (pc := 1) (n := 1) (by decide +kernel) rfl).trans ?_
  refine (X_call_vi (m := 242) (pc := 2) (q := 345) (y := 159) (n := 2) (as := [a_r (r0), a_i (x1)]) (rest := []) (by decide +kernel) (by decide +kernel) (by decide +kernel) (by decide +kernel) rfl rfl (Nat.le_of_ble_eq_true rfl) (Nat.le_of_ble_eq_true rfl) rfl (by rw [show m_maxL 159 = 2 from by decide +kernel]; exact Nat.le_of_ble_eq_true rfl)).trans ?_
  exact ite_congr (by simp [a_rcv, show m_recv 159 = 11 from by decide +kernel]) (fun _ => rfl) (fun _ => rfl)
theorem B_X11_missing_5 {k : Nat → Nat × Nat} {u : Nat → Nat → Int} {g : Nat → Nat → Nat} {t : Nat × Nat × Nat} {r0 : Nat} {x1 : Int} {x2 : Int} {v3 : AV} {v4 : AV} {y0 : Int} : a_X 242 5 [a_r (r0), a_i (x1), a_i (x2), v3, v4] [a_i (y0)] (k, u, g, t) = if (y0 : Int) = 0 then a_X 242 15 [a_r (r0), a_i (x1), a_i (x2), a_i (x2), a_i (1)] [] (k, u, g, t) else some (.inl (some (a_i (0))), (k, u, g, t)) := by
  refine (X_if_eq (m := 242) (pc := 5) (off := 5) (tg := 10) (by decide +kernel) (by decide +kernel)).trans ?_
  refine ite_congr rfl (fun _ => ?_) (fun _ => ?_)
  · refine (X_iload_n (m := 242) (pc := 10) (n := 2) (by decide +kernel) rfl).trans ?_
    refine (X_istore_n (m := 242) (pc := 11) (n := 3) (by decide +kernel) rfl (Nat.le_of_ble_eq_true rfl) rfl).trans ?_
    refine (X_iconst (m := 242) (pc := 12) (n := 1) (by decide +kernel) ).trans ?_
    refine (X_istore (m := 242) (pc := 13) (n := 4) (by decide +kernel) rfl (Nat.le_of_ble_eq_true rfl) rfl).trans ?_
    rfl
  · refine (X_iconst (m := 242) (pc := 8) (n := 0) (by decide +kernel) ).trans ?_
    exact X_ireturn (m := 242) (pc := 9) (f := 1) (by decide +kernel) (by decide +kernel) rfl
theorem B_X11_missing_15 {k : Nat → Nat × Nat} {u : Nat → Nat → Int} {g : Nat → Nat → Nat} {t : Nat × Nat × Nat} {r0 : Nat} {x1 : Int} {x2 : Int} {x3 : Int} {x4 : Int} : a_X 242 15 [a_r (r0), a_i (x1), a_i (x2), a_i (x3), a_i (x4)] [] (k, u, g, t) = if (k r0).1 = 11 then if ((k (g r0 2)).1 = 20 ∨ (k (g r0 2)).1 = 24) ∧ 0 ≤ (2 : Int) ∧ (2 : Int) < ((k (g r0 2)).2 : Int) then if (x4 : Int) > (u (g r0 2) (2 : Int).toNat : Int) then some (.inl (some (a_i (-1))), (k, u, g, t)) else if (x3 : Int) < 0 then some (.inl (some (a_i (-1))), (k, u, g, t)) else if (k r0).1 = 11 then (a_m 236 [a_r (r0), a_i (x1), a_i (x4)] (k, u, g, t)).bind (a_back 242 35 3 [a_r (r0), a_i (x1), a_i (x2), a_i (x3), a_i (x4)] [a_i (x3)]) else none else none else none := by
  refine (X_iload (m := 242) (pc := 15) (n := 4) (by decide +kernel) rfl).trans ?_
  refine (X_aload_n (m := 242) (pc := 17) (n := 0) (by decide +kernel) rfl).trans ?_
  refine (X_getR (m := 242) (pc := 18) (n := 7) (c := 11) (q := 2) (fi := true) (by decide +kernel) (by decide +kernel)).trans ?_
  refine ite_congr rfl (fun _ => ?_) (fun _ => rfl)
  refine (X_iconst (m := 242) (pc := 21) (n := 2) (by decide +kernel) ).trans ?_
  refine (X_iaload (m := 242) (pc := 22)  (by decide +kernel) ).trans ?_
  refine ite_congr rfl (fun _ => ?_) (fun _ => rfl)
  refine (X_ic_gt (m := 242) (pc := 23) (off := 33) (tg := 56) (by decide +kernel) (by decide +kernel)).trans ?_
  refine ite_congr rfl (fun _ => ?_) (fun _ => ?_)
  · refine (X_iconst (m := 242) (pc := 56) (n := -1) (by decide +kernel) ).trans ?_
    exact X_ireturn (m := 242) (pc := 57) (f := 1) (by decide +kernel) (by decide +kernel) rfl
  · refine (X_iload_n (m := 242) (pc := 26) (n := 3) (by decide +kernel) rfl).trans ?_
    refine (X_if_lt (m := 242) (pc := 27) (off := 29) (tg := 56) (by decide +kernel) (by decide +kernel)).trans ?_
    refine ite_congr rfl (fun _ => ?_) (fun _ => ?_)
    · refine (X_iconst (m := 242) (pc := 56) (n := -1) (by decide +kernel) ).trans ?_
      exact X_ireturn (m := 242) (pc := 57) (f := 1) (by decide +kernel) (by decide +kernel) rfl
    · refine (X_iload_n (m := 242) (pc := 30) (n := 3) (by decide +kernel) rfl).trans ?_
      refine (X_aload_n (m := 242) (pc := 31) (n := 0) (by decide +kernel) rfl).trans ?_
      refine (X_iload_n (m := 242) (pc := 32) (n := 1) (by decide +kernel) rfl).trans ?_
      refine (X_iload (m := 242) (pc := 33) (n := 4) (by decide +kernel) rfl).trans ?_
      refine (X_call_vi (m := 242) (pc := 35) (q := 342) (y := 236) (n := 3) (as := [a_r (r0), a_i (x1), a_i (x4)]) (rest := [a_i (x3)]) (by decide +kernel) (by decide +kernel) (by decide +kernel) (by decide +kernel) rfl rfl (Nat.le_of_ble_eq_true rfl) (Nat.le_of_ble_eq_true rfl) rfl (by rw [show m_maxL 236 = 3 from by decide +kernel]; exact Nat.le_of_ble_eq_true rfl)).trans ?_
      exact ite_congr (by simp [a_rcv, show m_recv 236 = 11 from by decide +kernel]) (fun _ => rfl) (fun _ => rfl)
theorem B_X11_missing_38 {k : Nat → Nat × Nat} {u : Nat → Nat → Int} {g : Nat → Nat → Nat} {t : Nat × Nat × Nat} {r0 : Nat} {x1 : Int} {x2 : Int} {x3 : Int} {x4 : Int} {y0 : Int} {y1 : Int} : a_X 242 38 [a_r (r0), a_i (x1), a_i (x2), a_i (x3), a_i (x4)] [a_i (y1), a_i (y0)] (k, u, g, t) = (a_m 156 [a_i (y1)] (k, u, g, t)).bind (a_back 242 38 3 [a_r (r0), a_i (x1), a_i (x2), a_i (x3), a_i (x4)] [a_i (y0)]) := by
  refine (X_call_st (m := 242) (pc := 38) (q := 204) (y := 156) (n := 1) (as := [a_i (y1)]) (rest := [a_i (y0)]) (by decide +kernel) (by decide +kernel) (by decide +kernel) (by decide +kernel) rfl rfl (Nat.le_of_ble_eq_true rfl) (Nat.le_of_ble_eq_true rfl) rfl (by rw [show m_maxL 156 = 1 from by decide +kernel]; exact Nat.le_of_ble_eq_true rfl)).trans ?_
  exact if_pos rfl
theorem B_X11_missing_41 {k : Nat → Nat × Nat} {u : Nat → Nat → Int} {g : Nat → Nat → Nat} {t : Nat × Nat × Nat} {r0 : Nat} {x1 : Int} {x2 : Int} {x3 : Int} {x4 : Int} {y0 : Int} {y1 : Int} : a_X 242 41 [a_r (r0), a_i (x1), a_i (x2), a_i (x3), a_i (x4)] [a_i (y1), a_i (y0)] (k, u, g, t) = if (wr (y0 - y1) : Int) ≥ 0 then a_X 242 15 [a_r (r0), a_i (x1), a_i (x2), a_i (wr (y0 - y1)), a_i (wr (x4 + 1))] [] (k, u, g, t) else some (.inl (some (a_i (x4))), (k, u, g, t)) := by
  refine (X_isub (m := 242) (pc := 41)  (by decide +kernel) ).trans ?_
  refine (X_istore_n (m := 242) (pc := 42) (n := 3) (by decide +kernel) rfl (Nat.le_of_ble_eq_true rfl) rfl).trans ?_
  refine (X_iload_n (m := 242) (pc := 43) (n := 3) (by decide +kernel) rfl).trans ?_
  refine (X_if_ge (m := 242) (pc := 44) (off := 6) (tg := 50) (by decide +kernel) (by decide +kernel)).trans ?_
  refine ite_congr rfl (fun _ => ?_) (fun _ => ?_)
  · refine (X_iinc (m := 242) (pc := 50) (n := 4) (c := 1) (by decide +kernel) rfl rfl (Nat.le_of_ble_eq_true rfl) rfl).trans ?_
    refine (X_goto (m := 242) (pc := 53) (off := -38) (tg := 15) (by decide +kernel) (by decide +kernel)).trans ?_
    rfl
  · refine (X_iload (m := 242) (pc := 47) (n := 4) (by decide +kernel) rfl).trans ?_
    exact X_ireturn (m := 242) (pc := 49) (f := 1) (by decide +kernel) (by decide +kernel) rfl
theorem E_X11_isSame {σ : AS} {r0 : Nat} {x1 : Int} {x2 : Int} : a_m 243 [a_r (r0), a_i (x1), a_i (x2)] σ = a_X 243 0 [a_r (r0), a_i (x1), a_i (x2)] [] σ := a_m_eq (by rw [a_entry, show m_maxL 243 = 3 from by decide +kernel]; rfl)
theorem B_X11_isSame_0 {k : Nat → Nat × Nat} {u : Nat → Nat → Int} {g : Nat → Nat → Nat} {t : Nat × Nat × Nat} {r0 : Nat} {x1 : Int} {x2 : Int} : a_X 243 0 [a_r (r0), a_i (x1), a_i (x2)] [] (k, u, g, t) = if (k r0).1 = 11 then (a_m 160 [a_r (r0), a_i (x1)] (k, u, g, t)).bind (a_back 243 2 3 [a_r (r0), a_i (x1), a_i (x2)] []) else none := by
  refine (X_aload_n (m := 243) (pc := 0) (n := 0) (by decide +kernel) rfl).trans ?_
  refine (X_iload_n (m := 243) (pc := 1) (n := 1) (by decide +kernel) rfl).trans ?_
  refine (X_call_vi (m := 243) (pc := 2) (q := 280) (y := 160) (n := 2) (as := [a_r (r0), a_i (x1)]) (rest := []) (by decide +kernel) (by decide +kernel) (by decide +kernel) (by decide +kernel) rfl rfl (Nat.le_of_ble_eq_true rfl) (Nat.le_of_ble_eq_true rfl) rfl (by rw [show m_maxL 160 = 2 from by decide +kernel]; exact Nat.le_of_ble_eq_true rfl)).trans ?_
  exact ite_congr (by simp [a_rcv, show m_recv 160 = 11 from by decide +kernel]) (fun _ => rfl) (fun _ => rfl)
theorem B_X11_isSame_5 {k : Nat → Nat × Nat} {u : Nat → Nat → Int} {g : Nat → Nat → Nat} {t : Nat × Nat × Nat} {r0 : Nat} {x1 : Int} {x2 : Int} {y0 : Int} : a_X 243 5 [a_r (r0), a_i (x1), a_i (x2)] [a_i (y0)] (k, u, g, t) = if (y0 : Int) ≠ 0 then some (.inl (some (a_i (0))), (k, u, g, t)) else if (k r0).1 = 11 then if ((k (g r0 2)).1 = 20 ∨ (k (g r0 2)).1 = 24) ∧ 0 ≤ (3 : Int) ∧ (3 : Int) < ((k (g r0 2)).2 : Int) then (a_m 155 [a_l (x2), a_l (-1), a_l (wr ((u (g r0 2) (3 : Int).toNat) - 1))] (k, u, g, t)).bind (a_back 243 23 3 [a_r (r0), a_i (x1), a_i (x2)] [a_r (r0)]) else none else none := by
  refine (X_if_ne (m := 243) (pc := 5) (off := 49) (tg := 54) (by decide +kernel) (by decide +kernel)).trans ?_
  refine ite_congr rfl (fun _ => ?_) (fun _ => ?_)
  · refine (X_iconst (m := 243) (pc := 54) (n := 0) (by decide +kernel) ).trans ?_
    exact X_ireturn (m := 243) (pc := 55) (f := 2) (by decide +kernel) (by decide +kernel) rfl
  · refine (X_aload_n (m := 243) (pc := 8) (n := 0) (by decide +kernel) rfl).trans ?_
    refine (X_iload_n (m := 243) (pc := 9) (n := 2) (by decide +kernel) rfl).trans ?_
    refine (X_i2l (m := 243) (pc := 10)  (by decide +kernel) ).trans ?_
    refine (X_ldc2 (m := 243) (pc := 11) (n := 65) (z := -1) (by decide +kernel) (by decide +kernel)).trans ?_
    refine (X_aload_n (m := 243) (pc := 14) (n := 0) (by decide +kernel) rfl).trans ?_
    refine (X_getR (m := 243) (pc := 15) (n := 7) (c := 11) (q := 2) (fi := true) (by decide +kernel) (by decide +kernel)).trans ?_
    refine ite_congr rfl (fun _ => ?_) (fun _ => rfl)
    refine (X_iconst (m := 243) (pc := 18) (n := 3) (by decide +kernel) ).trans ?_
    refine (X_iaload (m := 243) (pc := 19)  (by decide +kernel) ).trans ?_
    refine ite_congr rfl (fun _ => ?_) (fun _ => rfl)
    refine (X_iconst (m := 243) (pc := 20) (n := 1) (by decide +kernel) ).trans ?_
    refine (X_isub (m := 243) (pc := 21)  (by decide +kernel) ).trans ?_
    refine (X_i2l (m := 243) (pc := 22)  (by decide +kernel) ).trans ?_
    refine (X_call_st (m := 243) (pc := 23) (q := 61) (y := 155) (n := 3) (as := [a_l (x2), a_l (-1), a_l (wr ((u (g r0 2) (3 : Int).toNat) - 1))]) (rest := [a_r (r0)]) (by decide +kernel) (by decide +kernel) (by decide +kernel) (by decide +kernel) rfl rfl (Nat.le_of_ble_eq_true rfl) (Nat.le_of_ble_eq_true rfl) rfl (by rw [show m_maxL 155 = 6 from by decide +kernel]; exact Nat.le_of_ble_eq_true rfl)).trans ?_
    exact if_pos rfl
theorem B_X11_isSame_26 {k : Nat → Nat × Nat} {u : Nat → Nat → Int} {g : Nat → Nat → Nat} {t : Nat × Nat × Nat} {r0 : Nat} {x1 : Int} {x2 : Int} {q0 : Nat} {y1 : Int} : a_X 243 26 [a_r (r0), a_i (x1), a_i (x2)] [a_i (y1), a_r (q0)] (k, u, g, t) = if (y1 : Int) ≠ 0 then if (k q0).1 = 11 then (a_m 157 [a_r (q0), a_i (0), a_i (2)] (k, u, g, t)).bind (a_back 243 35 3 [a_r (r0), a_i (x1), a_i (x2)] []) else none else if (k q0).1 = 11 then (a_m 157 [a_r (q0), a_i (1), a_i (2)] (k, u, g, t)).bind (a_back 243 35 3 [a_r (r0), a_i (x1), a_i (x2)] []) else none := by
  refine (X_if_ne (m := 243) (pc := 26) (off := 7) (tg := 33) (by decide +kernel) (by decide +kernel)).trans ?_
  refine ite_congr rfl (fun _ => ?_) (fun _ => ?_)
  · refine (X_iconst (m := 243) (pc := 33) (n := 0) (by decide +kernel) ).trans ?_
    refine (X_iconst (m := 243) (pc := 34) (n := 2) (by decide +kernel) ).trans ?_
    refine (X_call_vi (m := 243) (pc := 35) (q := 53) (y := 157) (n := 3) (as := [a_r (q0), a_i (0), a_i (2)]) (rest := []) (by decide +kernel) (by decide +kernel) (by decide +kernel) (by decide +kernel) rfl rfl (Nat.le_of_ble_eq_true rfl) (Nat.le_of_ble_eq_true rfl) rfl (by rw [show m_maxL 157 = 3 from by decide +kernel]; exact Nat.le_of_ble_eq_true rfl)).trans ?_
    exact ite_congr (by simp [a_rcv, show m_recv 157 = 11 from by decide +kernel]) (fun _ => rfl) (fun _ => rfl)
  · refine (X_iconst (m := 243) (pc := 29) (n := 1) (by decide +kernel) ).trans ?_
    refine (X_goto (m := 243) (pc := 30) (off := 4) (tg := 34) (by decide +kernel) (by decide +kernel)).trans ?_
    refine (X_iconst (m := 243) (pc := 34) (n := 2) (by decide +kernel) ).trans ?_
    refine (X_call_vi (m := 243) (pc := 35) (q := 53) (y := 157) (n := 3) (as := [a_r (q0), a_i (1), a_i (2)]) (rest := []) (by decide +kernel) (by decide +kernel) (by decide +kernel) (by decide +kernel) rfl rfl (Nat.le_of_ble_eq_true rfl) (Nat.le_of_ble_eq_true rfl) rfl (by rw [show m_maxL 157 = 3 from by decide +kernel]; exact Nat.le_of_ble_eq_true rfl)).trans ?_
    exact ite_congr (by simp [a_rcv, show m_recv 157 = 11 from by decide +kernel]) (fun _ => rfl) (fun _ => rfl)
theorem B_X11_isSame_38 {k : Nat → Nat × Nat} {u : Nat → Nat → Int} {g : Nat → Nat → Nat} {t : Nat × Nat × Nat} {r0 : Nat} {x1 : Int} {x2 : Int} {y0 : Int} : a_X 243 38 [a_r (r0), a_i (x1), a_i (x2)] [a_i (y0)] (k, u, g, t) = if (y0 : Int) ≠ 0 then some (.inl (some (a_i (0))), (k, u, g, t)) else if (k r0).1 = 11 then (a_m 210 [a_r (r0), a_i (x1), a_i (x2)] (k, u, g, t)).bind (a_back 243 44 3 [a_r (r0), a_i (x1), a_i (x2)] []) else none := by
  refine (X_if_ne (m := 243) (pc := 38) (off := 16) (tg := 54) (by decide +kernel) (by decide +kernel)).trans ?_
  refine ite_congr rfl (fun _ => ?_) (fun _ => ?_)
  · refine (X_iconst (m := 243) (pc := 54) (n := 0) (by decide +kernel) ).trans ?_
    exact X_ireturn (m := 243) (pc := 55) (f := 2) (by decide +kernel) (by decide +kernel) rfl
  · refine (X_aload_n (m := 243) (pc := 41) (n := 0) (by decide +kernel) rfl).trans ?_
    refine (X_iload_n (m := 243) (pc := 42) (n := 1) (by decide +kernel) rfl).trans ?_
    refine (X_iload_n (m := 243) (pc := 43) (n := 2) (by decide +kernel) rfl).trans ?_
    refine (X_call_vi (m := 243) (pc := 44) (q := 262) (y := 210) (n := 3) (as := [a_r (r0), a_i (x1), a_i (x2)]) (rest := []) (by decide +kernel) (by decide +kernel) (by decide +kernel) (by decide +kernel) rfl rfl (Nat.le_of_ble_eq_true rfl) (Nat.le_of_ble_eq_true rfl) rfl (by rw [show m_maxL 210 = 5 from by decide +kernel]; exact Nat.le_of_ble_eq_true rfl)).trans ?_
    exact ite_congr (by simp [a_rcv, show m_recv 210 = 11 from by decide +kernel]) (fun _ => rfl) (fun _ => rfl)
theorem B_X11_isSame_47 {k : Nat → Nat × Nat} {u : Nat → Nat → Int} {g : Nat → Nat → Nat} {t : Nat × Nat × Nat} {r0 : Nat} {x1 : Int} {x2 : Int} {y0 : Int} : a_X 243 47 [a_r (r0), a_i (x1), a_i (x2)] [a_i (y0)] (k, u, g, t) = if (y0 : Int) ≠ 0 then some (.inl (some (a_i (0))), (k, u, g, t)) else some (.inl (some (a_i (1))), (k, u, g, t)) := by
  refine (X_if_ne (m := 243) (pc := 47) (off := 7) (tg := 54) (by decide +kernel) (by decide +kernel)).trans ?_
  refine ite_congr rfl (fun _ => ?_) (fun _ => ?_)
  · refine (X_iconst (m := 243) (pc := 54) (n := 0) (by decide +kernel) ).trans ?_
    exact X_ireturn (m := 243) (pc := 55) (f := 2) (by decide +kernel) (by decide +kernel) rfl
  · refine (X_iconst (m := 243) (pc := 50) (n := 1) (by decide +kernel) ).trans ?_
    refine (X_goto (m := 243) (pc := 51) (off := 4) (tg := 55) (by decide +kernel) (by decide +kernel)).trans ?_
    exact X_ireturn (m := 243) (pc := 55) (f := 2) (by decide +kernel) (by decide +kernel) rfl
