/-! block equations, by wip/whole/gen_blocks.py -/
theorem E_X11_wrongOnes {σ : AS} {r0 : Nat} {x1 : Int} : a_m 244 [a_r (r0), a_i (x1)] σ = a_X 244 0 [a_r (r0), a_i (x1), a_x false, a_x false, a_x false] [] σ := a_m_eq (by rw [a_entry, show m_maxL 244 = 5 from by decide +kernel]; rfl)
theorem B_X11_wrongOnes_0 {k : Nat → Nat × Nat} {u : Nat → Nat → Int} {g : Nat → Nat → Nat} {t : Nat × Nat × Nat} {r0 : Nat} {x1 : Int} {v2 : AV} {v3 : AV} {v4 : AV} : a_X 244 0 [a_r (r0), a_i (x1), v2, v3, v4] [] (k, u, g, t) = if (k r0).1 = 11 then (a_m 210 [a_r (r0), a_i (x1), a_i (-1)] (k, u, g, t)).bind (a_back 244 5 3 [a_r (r0), a_i (x1), a_i (0), v3, v4] []) else none := by
  refine (X_iconst (m := 244) (pc := 0) (n := 0) (by decide +kernel) ).trans ?_
  refine (X_istore_n (m := 244) (pc := 1) (n := 2) (by decide +kernel) rfl (Nat.le_of_ble_eq_true rfl) rfl).trans ?_
  refine (X_aload_n (m := 244) (pc := 2) (n := 0) (by decide +kernel) rfl).trans ?_
  refine (X_iload_n (m := 244) (pc := 3) (n := 1) (by decide +kernel) rfl).trans ?_
  refine (X_iconst (m := 244) (pc := 4) (n := -1) (by decide +kernel) ).trans ?_
  refine (X_call_vi (m := 244) (pc := 5) (q := 262) (y := 210) (n := 3) (as := [a_r (r0), a_i (x1), a_i (-1)]) (rest := []) (by decide +kernel) (by decide +kernel) (by decide +kernel) (by decide +kernel) rfl rfl (Nat.le_of_ble_eq_true rfl) (Nat.le_of_ble_eq_true rfl) rfl (by rw [show m_maxL 210 = 5 from by decide +kernel]; exact Nat.le_of_ble_eq_true rfl)).trans ?_
  exact ite_congr (by simp [a_rcv, show m_recv 210 = 11 from by decide +kernel]) (fun _ => rfl) (fun _ => rfl)
theorem B_X11_wrongOnes_8 {k : Nat → Nat × Nat} {u : Nat → Nat → Int} {g : Nat → Nat → Nat} {t : Nat × Nat × Nat} {r0 : Nat} {x1 : Int} {x2 : Int} {v3 : AV} {v4 : AV} {y0 : Int} : a_X 244 8 [a_r (r0), a_i (x1), a_i (x2), v3, v4] [a_i (y0)] (k, u, g, t) = if (y0 : Int) ≠ 0 then a_X 244 15 [a_r (r0), a_i (x1), a_i (x2), a_i (0), v4] [] (k, u, g, t) else some (.inl (some (a_i (0))), (k, u, g, t)) := by
  refine (X_if_ne (m := 244) (pc := 8) (off := 5) (tg := 13) (by decide +kernel) (by decide +kernel)).trans ?_
  refine ite_congr rfl (fun _ => ?_) (fun _ => ?_)
  · refine (X_iconst (m := 244) (pc := 13) (n := 0) (by decide +kernel) ).trans ?_
    refine (X_istore_n (m := 244) (pc := 14) (n := 3) (by decide +kernel) rfl (Nat.le_of_ble_eq_true rfl) rfl).trans ?_
    rfl
  · refine (X_iconst (m := 244) (pc := 11) (n := 0) (by decide +kernel) ).trans ?_
    exact X_ireturn (m := 244) (pc := 12) (f := 1) (by decide +kernel) (by decide +kernel) rfl
theorem B_X11_wrongOnes_15 {k : Nat → Nat × Nat} {u : Nat → Nat → Int} {g : Nat → Nat → Nat} {t : Nat × Nat × Nat} {r0 : Nat} {x1 : Int} {x2 : Int} {x3 : Int} {v4 : AV} : a_X 244 15 [a_r (r0), a_i (x1), a_i (x2), a_i (x3), v4] [] (k, u, g, t) = if (x3 : Int) ≥ (7 : Int) then some (.inl (some (a_i (x2))), (k, u, g, t)) else a_X 244 24 [a_r (r0), a_i (x1), a_i (x2), a_i (x3), a_i (0)] [] (k, u, g, t) := by
  refine (X_iload_n (m := 244) (pc := 15) (n := 3) (by decide +kernel) rfl).trans ?_
  refine (X_bipush (m := 244) (pc := 16) (n := 7) (by decide +kernel) ).trans ?_
  refine (X_ic_ge (m := 244) (pc := 18) (off := 56) (tg := 74) (by decide +kernel) (by decide +kernel)).trans ?_
  refine ite_congr rfl (fun _ => ?_) (fun _ => ?_)
  · refine (X_iload_n (m := 244) (pc := 74) (n := 2) (by decide +kernel) rfl).trans ?_
    exact X_ireturn (m := 244) (pc := 75) (f := 1) (by decide +kernel) (by decide +kernel) rfl
  · refine (X_iconst (m := 244) (pc := 21) (n := 0) (by decide +kernel) ).trans ?_
    refine (X_istore (m := 244) (pc := 22) (n := 4) (by decide +kernel) rfl (Nat.le_of_ble_eq_true rfl) rfl).trans ?_
    rfl
theorem B_X11_wrongOnes_24 {k : Nat → Nat × Nat} {u : Nat → Nat → Int} {g : Nat → Nat → Nat} {t : Nat × Nat × Nat} {r0 : Nat} {x1 : Int} {x2 : Int} {x3 : Int} {x4 : Int} : a_X 244 24 [a_r (r0), a_i (x1), a_i (x2), a_i (x3), a_i (x4)] [] (k, u, g, t) = if (x4 : Int) ≥ (1440 : Int) then a_X 244 15 [a_r (r0), a_i (x1), a_i (x2), a_i (wr (x3 + 1)), a_i (x4)] [] (k, u, g, t) else if (k r0).1 = 11 then (a_m 222 [a_r (r0), a_i (x1), a_i (x3), a_i (x4)] (k, u, g, t)).bind (a_back 244 38 3 [a_r (r0), a_i (x1), a_i (x2), a_i (x3), a_i (x4)] [a_i (x2)]) else none := by
  refine (X_iload (m := 244) (pc := 24) (n := 4) (by decide +kernel) rfl).trans ?_
  refine (X_sipush (m := 244) (pc := 26) (n := 1440) (by decide +kernel) ).trans ?_
  refine (X_ic_ge (m := 244) (pc := 29) (off := 39) (tg := 68) (by decide +kernel) (by decide +kernel)).trans ?_
  refine ite_congr rfl (fun _ => ?_) (fun _ => ?_)
  · refine (X_iinc (m := 244) (pc := 68) (n := 3) (c := 1) (by decide +kernel) rfl rfl (Nat.le_of_ble_eq_true rfl) rfl).trans ?_
    refine (X_goto (m := 244) (pc := 71) (off := -56) (tg := 15) (by decide +kernel) (by decide +kernel)).trans ?_
    rfl
  · refine (X_iload_n (m := 244) (pc := 32) (n := 2) (by decide +kernel) rfl).trans ?_
    refine (X_aload_n (m := 244) (pc := 33) (n := 0) (by decide +kernel) rfl).trans ?_
    refine (X_iload_n (m := 244) (pc := 34) (n := 1) (by decide +kernel) rfl).trans ?_
    refine (X_iload_n (m := 244) (pc := 35) (n := 3) (by decide +kernel) rfl).trans ?_
    refine (X_iload (m := 244) (pc := 36) (n := 4) (by decide +kernel) rfl).trans ?_
    refine (X_call_vi (m := 244) (pc := 38) (q := 308) (y := 222) (n := 4) (as := [a_r (r0), a_i (x1), a_i (x3), a_i (x4)]) (rest := [a_i (x2)]) (by decide +kernel) (by decide +kernel) (by decide +kernel) (by decide +kernel) rfl rfl (Nat.le_of_ble_eq_true rfl) (Nat.le_of_ble_eq_true rfl) rfl (by rw [show m_maxL 222 = 5 from by decide +kernel]; exact Nat.le_of_ble_eq_true rfl)).trans ?_
    exact ite_congr (by simp [a_rcv, show m_recv 222 = 11 from by decide +kernel]) (fun _ => rfl) (fun _ => rfl)
theorem B_X11_wrongOnes_41 {k : Nat → Nat × Nat} {u : Nat → Nat → Int} {g : Nat → Nat → Nat} {t : Nat × Nat × Nat} {r0 : Nat} {x1 : Int} {x2 : Int} {x3 : Int} {x4 : Int} {y0 : Int} {y1 : Int} : a_X 244 41 [a_r (r0), a_i (x1), a_i (x2), a_i (x3), a_i (x4)] [a_i (y1), a_i (y0)] (k, u, g, t) = if (k r0).1 = 11 then (a_m 222 [a_r (r0), a_i (-1), a_i (x3), a_i (x4)] (k, u, g, t)).bind (a_back 244 46 3 [a_r (r0), a_i (x1), a_i (x2), a_i (x3), a_i (x4)] [a_i (y1), a_i (y0)]) else none := by
  refine (X_aload_n (m := 244) (pc := 41) (n := 0) (by decide +kernel) rfl).trans ?_
  refine (X_iconst (m := 244) (pc := 42) (n := -1) (by decide +kernel) ).trans ?_
  refine (X_iload_n (m := 244) (pc := 43) (n := 3) (by decide +kernel) rfl).trans ?_
  refine (X_iload (m := 244) (pc := 44) (n := 4) (by decide +kernel) rfl).trans ?_
  refine (X_call_vi (m := 244) (pc := 46) (q := 308) (y := 222) (n := 4) (as := [a_r (r0), a_i (-1), a_i (x3), a_i (x4)]) (rest := [a_i (y1), a_i (y0)]) (by decide +kernel) (by decide +kernel) (by decide +kernel) (by decide +kernel) rfl rfl (Nat.le_of_ble_eq_true rfl) (Nat.le_of_ble_eq_true rfl) rfl (by rw [show m_maxL 222 = 5 from by decide +kernel]; exact Nat.le_of_ble_eq_true rfl)).trans ?_
  exact ite_congr (by simp [a_rcv, show m_recv 222 = 11 from by decide +kernel]) (fun _ => rfl) (fun _ => rfl)
theorem B_X11_wrongOnes_49 {k : Nat → Nat × Nat} {u : Nat → Nat → Int} {g : Nat → Nat → Nat} {t : Nat × Nat × Nat} {r0 : Nat} {x1 : Int} {x2 : Int} {x3 : Int} {x4 : Int} {y0 : Int} {y1 : Int} {y2 : Int} : a_X 244 49 [a_r (r0), a_i (x1), a_i (x2), a_i (x3), a_i (x4)] [a_i (y2), a_i (y1), a_i (y0)] (k, u, g, t) = if (y1 : Int) = (y2 : Int) then (a_m 156 [a_i (0)] (k, u, g, t)).bind (a_back 244 57 3 [a_r (r0), a_i (x1), a_i (x2), a_i (x3), a_i (x4)] [a_i (y0)]) else (a_m 156 [a_i (1)] (k, u, g, t)).bind (a_back 244 57 3 [a_r (r0), a_i (x1), a_i (x2), a_i (x3), a_i (x4)] [a_i (y0)]) := by
  refine (X_ic_eq (m := 244) (pc := 49) (off := 7) (tg := 56) (by decide +kernel) (by decide +kernel)).trans ?_
  refine ite_congr rfl (fun _ => ?_) (fun _ => ?_)
  · refine (X_iconst (m := 244) (pc := 56) (n := 0) (by decide +kernel) ).trans ?_
    refine (X_call_st (m := 244) (pc := 57) (q := 204) (y := 156) (n := 1) (as := [a_i (0)]) (rest := [a_i (y0)]) (by decide +kernel) (by decide +kernel) (by decide +kernel) (by decide +kernel) rfl rfl (Nat.le_of_ble_eq_true rfl) (Nat.le_of_ble_eq_true rfl) rfl (by rw [show m_maxL 156 = 1 from by decide +kernel]; exact Nat.le_of_ble_eq_true rfl)).trans ?_
    exact if_pos rfl
  · refine (X_iconst (m := 244) (pc := 52) (n := 1) (by decide +kernel) ).trans ?_
    refine (X_goto (m := 244) (pc := 53) (off := 4) (tg := 57) (by decide +kernel) (by decide +kernel)).trans ?_
    refine (X_call_st (m := 244) (pc := 57) (q := 204) (y := 156) (n := 1) (as := [a_i (1)]) (rest := [a_i (y0)]) (by decide +kernel) (by decide +kernel) (by decide +kernel) (by decide +kernel) rfl rfl (Nat.le_of_ble_eq_true rfl) (Nat.le_of_ble_eq_true rfl) rfl (by rw [show m_maxL 156 = 1 from by decide +kernel]; exact Nat.le_of_ble_eq_true rfl)).trans ?_
    exact if_pos rfl
theorem B_X11_wrongOnes_60 {k : Nat → Nat × Nat} {u : Nat → Nat → Int} {g : Nat → Nat → Nat} {t : Nat × Nat × Nat} {r0 : Nat} {x1 : Int} {x2 : Int} {x3 : Int} {x4 : Int} {y0 : Int} {y1 : Int} : a_X 244 60 [a_r (r0), a_i (x1), a_i (x2), a_i (x3), a_i (x4)] [a_i (y1), a_i (y0)] (k, u, g, t) = a_X 244 24 [a_r (r0), a_i (x1), a_i (wr (y0 + y1)), a_i (x3), a_i (wr (x4 + 1))] [] (k, u, g, t) := by
  refine (X_iadd (m := 244) (pc := 60)  (by decide +kernel) ).trans ?_
  refine (X_istore_n (m := 244) (pc := 61) (n := 2) (by decide +kernel) rfl (Nat.le_of_ble_eq_true rfl) rfl).trans ?_
  refine (X_iinc (m := 244) (pc := 62) (n := 4) (c := 1) (by decide +kernel) rfl rfl (Nat.le_of_ble_eq_true rfl) rfl).trans ?_
  refine (X_goto (m := 244) (pc := 65) (off := -41) (tg := 24) (by decide +kernel) (by decide +kernel)).trans ?_
  rfl
theorem E_X11_wrongMinutes {σ : AS} {r0 : Nat} {x1 : Int} : a_m 245 [a_r (r0), a_i (x1)] σ = a_X 245 0 [a_r (r0), a_i (x1)] [] σ := a_m_eq (by rw [a_entry, show m_maxL 245 = 2 from by decide +kernel]; rfl)
theorem B_X11_wrongMinutes_0 {k : Nat → Nat × Nat} {u : Nat → Nat → Int} {g : Nat → Nat → Nat} {t : Nat × Nat × Nat} {r0 : Nat} {x1 : Int} : a_X 245 0 [a_r (r0), a_i (x1)] [] (k, u, g, t) = if (k r0).1 = 11 then (a_m 159 [a_r (r0), a_i (x1)] (k, u, g, t)).bind (a_back 245 2 3 [a_r (r0), a_i (x1)] []) else none := by
  refine (X_aload_n (m := 245) (pc := 0) (n := 0) (by decide +kernel) rfl).trans ?_
  refine (X_iload_n (m := 245) (pc := 1) (n := 1) (by decide +kernel) rfl).trans ?_
  refine (X_call_vi (m := 245) (pc := 2) (q := 345) (y := 159) (n := 2) (as := [a_r (r0), a_i (x1)]) (rest := []) (by decide +kernel) (by decide +kernel) (by decide +kernel) (by decide +kernel) rfl rfl (Nat.le_of_ble_eq_true rfl) (Nat.le_of_ble_eq_true rfl) rfl (by rw [show m_maxL 159 = 2 from by decide +kernel]; exact Nat.le_of_ble_eq_true rfl)).trans ?_
  exact ite_congr (by simp [a_rcv, show m_recv 159 = 11 from by decide +kernel]) (fun _ => rfl) (fun _ => rfl)
theorem B_X11_wrongMinutes_5 {k : Nat → Nat × Nat} {u : Nat → Nat → Int} {g : Nat → Nat → Nat} {t : Nat × Nat × Nat} {r0 : Nat} {x1 : Int} {y0 : Int} : a_X 245 5 [a_r (r0), a_i (x1)] [a_i (y0)] (k, u, g, t) = if (y0 : Int) = 0 then if (k r0).1 = 11 then (a_m 244 [a_r (r0), a_i (x1)] (k, u, g, t)).bind (a_back 245 14 3 [a_r (r0), a_i (x1)] []) else none else some (.inl (some (a_i (0))), (k, u, g, t)) := by
  refine (X_if_eq (m := 245) (pc := 5) (off := 7) (tg := 12) (by decide +kernel) (by decide +kernel)).trans ?_
  refine ite_congr rfl (fun _ => ?_) (fun _ => ?_)
  · refine (X_aload_n (m := 245) (pc := 12) (n := 0) (by decide +kernel) rfl).trans ?_
    refine (X_iload_n (m := 245) (pc := 13) (n := 1) (by decide +kernel) rfl).trans ?_
    refine (X_call_vi (m := 245) (pc := 14) (q := 354) (y := 244) (n := 2) (as := [a_r (r0), a_i (x1)]) (rest := []) (by decide +kernel) (by decide +kernel) (by decide +kernel) (by decide +kernel) rfl rfl (Nat.le_of_ble_eq_true rfl) (Nat.le_of_ble_eq_true rfl) rfl (by rw [show m_maxL 244 = 5 from by decide +kernel]; exact Nat.le_of_ble_eq_true rfl)).trans ?_
    exact ite_congr (by simp [a_rcv, show m_recv 244 = 11 from by decide +kernel]) (fun _ => rfl) (fun _ => rfl)
  · refine (X_iconst (m := 245) (pc := 8) (n := 0) (by decide +kernel) ).trans ?_
    refine (X_goto (m := 245) (pc := 9) (off := 8) (tg := 17) (by decide +kernel) (by decide +kernel)).trans ?_
    exact X_ireturn (m := 245) (pc := 17) (f := 1) (by decide +kernel) (by decide +kernel) rfl
theorem B_X11_wrongMinutes_17 {k : Nat → Nat × Nat} {u : Nat → Nat → Int} {g : Nat → Nat → Nat} {t : Nat × Nat × Nat} {r0 : Nat} {x1 : Int} {y0 : Int} : a_X 245 17 [a_r (r0), a_i (x1)] [a_i (y0)] (k, u, g, t) = some (.inl (some (a_i (y0))), (k, u, g, t)) := by
  exact X_ireturn (m := 245) (pc := 17) (f := 1) (by decide +kernel) (by decide +kernel) rfl
theorem E_X11_worst {σ : AS} {r0 : Nat} : a_m 246 [a_r (r0)] σ = a_X 246 0 [a_r (r0), a_x false, a_x false, a_x false, a_x false] [] σ := a_m_eq (by rw [a_entry, show m_maxL 246 = 5 from by decide +kernel]; rfl)
theorem B_X11_worst_0 {k : Nat → Nat × Nat} {u : Nat → Nat → Int} {g : Nat → Nat → Nat} {t : Nat × Nat × Nat} {r0 : Nat} {v1 : AV} {v2 : AV} {v3 : AV} {v4 : AV} : a_X 246 0 [a_r (r0), v1, v2, v3, v4] [] (k, u, g, t) = if (k r0).1 = 11 then (a_m 158 [a_r (r0)] (k, u, g, t)).bind (a_back 246 1 3 [a_r (r0), v1, v2, v3, v4] []) else none := by
  refine (X_aload_n (m := 246) (pc := 0) (n := 0) (by decide +kernel) rfl).trans ?_
  refine (X_call_vi (m := 246) (pc := 1) (q := 57) (y := 158) (n := 1) (as := [a_r (r0)]) (rest := []) (by decide +kernel) (by decide +kernel) (by decide +kernel) (by decide +kernel) rfl rfl (Nat.le_of_ble_eq_true rfl) (Nat.le_of_ble_eq_true rfl) rfl (by rw [show m_maxL 158 = 1 from by decide +kernel]; exact Nat.le_of_ble_eq_true rfl)).trans ?_
  exact ite_congr (by simp [a_rcv, show m_recv 158 = 11 from by decide +kernel]) (fun _ => rfl) (fun _ => rfl)
theorem B_X11_worst_4 {k : Nat → Nat × Nat} {u : Nat → Nat → Int} {g : Nat → Nat → Nat} {t : Nat × Nat × Nat} {r0 : Nat} {v1 : AV} {v2 : AV} {v3 : AV} {v4 : AV} {y0 : Int} : a_X 246 4 [a_r (r0), v1, v2, v3, v4] [a_i (y0)] (k, u, g, t) = if (y0 : Int) = 0 then if (k r0).1 = 11 then (a_m 244 [a_r (r0), a_i (0)] (k, u, g, t)).bind (a_back 246 13 3 [a_r (r0), a_i (0), v2, v3, v4] []) else none else some (.inl (some (a_i (0))), (k, u, g, t)) := by
  refine (X_if_eq (m := 246) (pc := 4) (off := 5) (tg := 9) (by decide +kernel) (by decide +kernel)).trans ?_
  refine ite_congr rfl (fun _ => ?_) (fun _ => ?_)
  · refine (X_iconst (m := 246) (pc := 9) (n := 0) (by decide +kernel) ).trans ?_
    refine (X_istore_n (m := 246) (pc := 10) (n := 1) (by decide +kernel) rfl (Nat.le_of_ble_eq_true rfl) rfl).trans ?_
    refine (X_aload_n (m := 246) (pc := 11) (n := 0) (by decide +kernel) rfl).trans ?_
    refine (X_iconst (m := 246) (pc := 12) (n := 0) (by decide +kernel) ).trans ?_
    refine (X_call_vi (m := 246) (pc := 13) (q := 354) (y := 244) (n := 2) (as := [a_r (r0), a_i (0)]) (rest := []) (by decide +kernel) (by decide +kernel) (by decide +kernel) (by decide +kernel) rfl rfl (Nat.le_of_ble_eq_true rfl) (Nat.le_of_ble_eq_true rfl) rfl (by rw [show m_maxL 244 = 5 from by decide +kernel]; exact Nat.le_of_ble_eq_true rfl)).trans ?_
    exact ite_congr (by simp [a_rcv, show m_recv 244 = 11 from by decide +kernel]) (fun _ => rfl) (fun _ => rfl)
  · refine (X_iconst (m := 246) (pc := 7) (n := 0) (by decide +kernel) ).trans ?_
    exact X_ireturn (m := 246) (pc := 8) (f := 1) (by decide +kernel) (by decide +kernel) rfl
theorem B_X11_worst_16 {k : Nat → Nat × Nat} {u : Nat → Nat → Int} {g : Nat → Nat → Nat} {t : Nat × Nat × Nat} {r0 : Nat} {x1 : Int} {v2 : AV} {v3 : AV} {v4 : AV} {y0 : Int} : a_X 246 16 [a_r (r0), a_i (x1), v2, v3, v4] [a_i (y0)] (k, u, g, t) = a_X 246 19 [a_r (r0), a_i (x1), a_i (y0), a_i (1), v4] [] (k, u, g, t) := by
  refine (X_istore_n (m := 246) (pc := 16) (n := 2) (by decide +kernel) rfl (Nat.le_of_ble_eq_true rfl) rfl).trans ?_
  refine (X_iconst (m := 246) (pc := 17) (n := 1) (by decide +kernel) ).trans ?_
  refine (X_istore_n (m := 246) (pc := 18) (n := 3) (by decide +kernel) rfl (Nat.le_of_ble_eq_true rfl) rfl).trans ?_
  rfl
theorem B_X11_worst_19 {k : Nat → Nat × Nat} {u : Nat → Nat → Int} {g : Nat → Nat → Nat} {t : Nat × Nat × Nat} {r0 : Nat} {x1 : Int} {x2 : Int} {x3 : Int} {v4 : AV} : a_X 246 19 [a_r (r0), a_i (x1), a_i (x2), a_i (x3), v4] [] (k, u, g, t) = if (k r0).1 = 11 then if ((k (g r0 2)).1 = 20 ∨ (k (g r0 2)).1 = 24) ∧ 0 ≤ (3 : Int) ∧ (3 : Int) < ((k (g r0 2)).2 : Int) then if (x3 : Int) ≥ (u (g r0 2) (3 : Int).toNat : Int) then some (.inl (some (a_i (x1))), (k, u, g, t)) else if (k r0).1 = 11 then (a_m 244 [a_r (r0), a_i (x3)] (k, u, g, t)).bind (a_back 246 31 3 [a_r (r0), a_i (x1), a_i (x2), a_i (x3), v4] []) else none else none else none := by
  refine (X_iload_n (m := 246) (pc := 19) (n := 3) (by decide +kernel) rfl).trans ?_
  refine (X_aload_n (m := 246) (pc := 20) (n := 0) (by decide +kernel) rfl).trans ?_
  refine (X_getR (m := 246) (pc := 21) (n := 7) (c := 11) (q := 2) (fi := true) (by decide +kernel) (by decide +kernel)).trans ?_
  refine ite_congr rfl (fun _ => ?_) (fun _ => rfl)
  refine (X_iconst (m := 246) (pc := 24) (n := 3) (by decide +kernel) ).trans ?_
  refine (X_iaload (m := 246) (pc := 25)  (by decide +kernel) ).trans ?_
  refine ite_congr rfl (fun _ => ?_) (fun _ => rfl)
  refine (X_ic_ge (m := 246) (pc := 26) (off := 35) (tg := 61) (by decide +kernel) (by decide +kernel)).trans ?_
  refine ite_congr rfl (fun _ => ?_) (fun _ => ?_)
  · refine (X_iload_n (m := 246) (pc := 61) (n := 1) (by decide +kernel) rfl).trans ?_
    exact X_ireturn (m := 246) (pc := 62) (f := 1) (by decide +kernel) (by decide +kernel) rfl
  · refine (X_aload_n (m := 246) (pc := 29) (n := 0) (by decide +kernel) rfl).trans ?_
    refine (X_iload_n (m := 246) (pc := 30) (n := 3) (by decide +kernel) rfl).trans ?_
    refine (X_call_vi (m := 246) (pc := 31) (q := 354) (y := 244) (n := 2) (as := [a_r (r0), a_i (x3)]) (rest := []) (by decide +kernel) (by decide +kernel) (by decide +kernel) (by decide +kernel) rfl rfl (Nat.le_of_ble_eq_true rfl) (Nat.le_of_ble_eq_true rfl) rfl (by rw [show m_maxL 244 = 5 from by decide +kernel]; exact Nat.le_of_ble_eq_true rfl)).trans ?_
    exact ite_congr (by simp [a_rcv, show m_recv 244 = 11 from by decide +kernel]) (fun _ => rfl) (fun _ => rfl)
theorem B_X11_worst_34 {k : Nat → Nat × Nat} {u : Nat → Nat → Int} {g : Nat → Nat → Nat} {t : Nat × Nat × Nat} {r0 : Nat} {x1 : Int} {x2 : Int} {x3 : Int} {v4 : AV} {y0 : Int} : a_X 246 34 [a_r (r0), a_i (x1), a_i (x2), a_i (x3), v4] [a_i (y0)] (k, u, g, t) = if (y0 : Int) ≤ (x2 : Int) then a_X 246 19 [a_r (r0), a_i (x1), a_i (max (x2) (y0)), a_i (wr (x3 + 1)), a_i (y0)] [] (k, u, g, t) else a_X 246 19 [a_r (r0), a_i (x3), a_i (max (x2) (y0)), a_i (wr (x3 + 1)), a_i (y0)] [] (k, u, g, t) := by
  refine (X_istore (m := 246) (pc := 34) (n := 4) (by decide +kernel) rfl (Nat.le_of_ble_eq_true rfl) rfl).trans ?_
  refine (X_iload (m := 246) (pc := 36) (n := 4) (by decide +kernel) rfl).trans ?_
  refine (X_iload_n (m := 246) (pc := 38) (n := 2) (by decide +kernel) rfl).trans ?_
  refine (X_ic_le (m := 246) (pc := 39) (off := 7) (tg := 46) (by decide +kernel) (by decide +kernel)).trans ?_
  refine ite_congr rfl (fun _ => ?_) (fun _ => ?_)
  · refine (X_iload_n (m := 246) (pc := 46) (n := 1) (by decide +kernel) rfl).trans ?_
    refine (X_istore_n (m := 246) (pc := 47) (n := 1) (by decide +kernel) rfl (Nat.le_of_ble_eq_true rfl) rfl).trans ?_
    refine (X_iload_n (m := 246) (pc := 48) (n := 2) (by decide +kernel) rfl).trans ?_
    refine (X_iload (m := 246) (pc := 49) (n := 4) (by decide +kernel) rfl).trans ?_
    refine (X_max (m := 246) (pc := 51) (q := 211) (by decide +kernel) (by decide +kernel) (Nat.le_of_ble_eq_true rfl)).trans ?_
    refine (X_istore_n (m := 246) (pc := 54) (n := 2) (by decide +kernel) rfl (Nat.le_of_ble_eq_true rfl) rfl).trans ?_
    refine (X_iinc (m := 246) (pc := 55) (n := 3) (c := 1) (by decide +kernel) rfl rfl (Nat.le_of_ble_eq_true rfl) rfl).trans ?_
    refine (X_goto (m := 246) (pc := 58) (off := -39) (tg := 19) (by decide +kernel) (by decide +kernel)).trans ?_
    rfl
  · refine (X_iload_n (m := 246) (pc := 42) (n := 3) (by decide +kernel) rfl).trans ?_
    refine (X_goto (m := 246) (pc := 43) (off := 4) (tg := 47) (by decide +kernel) (by decide +kernel)).trans ?_
    refine (X_istore_n (m := 246) (pc := 47) (n := 1) (by decide +kernel) rfl (Nat.le_of_ble_eq_true rfl) rfl).trans ?_
    refine (X_iload_n (m := 246) (pc := 48) (n := 2) (by decide +kernel) rfl).trans ?_
    refine (X_iload (m := 246) (pc := 49) (n := 4) (by decide +kernel) rfl).trans ?_
    refine (X_max (m := 246) (pc := 51) (q := 211) (by decide +kernel) (by decide +kernel) (Nat.le_of_ble_eq_true rfl)).trans ?_
    refine (X_istore_n (m := 246) (pc := 54) (n := 2) (by decide +kernel) rfl (Nat.le_of_ble_eq_true rfl) rfl).trans ?_
    refine (X_iinc (m := 246) (pc := 55) (n := 3) (c := 1) (by decide +kernel) rfl rfl (Nat.le_of_ble_eq_true rfl) rfl).trans ?_
    refine (X_goto (m := 246) (pc := 58) (off := -39) (tg := 19) (by decide +kernel) (by decide +kernel)).trans ?_
    rfl
theorem E_X11_behindOf {σ : AS} {r0 : Nat} {x1 : Int} : a_m 247 [a_r (r0), a_i (x1)] σ = a_X 247 0 [a_r (r0), a_i (x1)] [] σ := a_m_eq (by rw [a_entry, show m_maxL 247 = 2 from by decide +kernel]; rfl)
theorem B_X11_behindOf_0 {k : Nat → Nat × Nat} {u : Nat → Nat → Int} {g : Nat → Nat → Nat} {t : Nat × Nat × Nat} {r0 : Nat} {x1 : Int} : a_X 247 0 [a_r (r0), a_i (x1)] [] (k, u, g, t) = if (k r0).1 = 11 then if ((k (g r0 2)).1 = 20 ∨ (k (g r0 2)).1 = 24) ∧ 0 ≤ (2 : Int) ∧ (2 : Int) < ((k (g r0 2)).2 : Int) then if (k r0).1 = 11 then (a_m 166 [a_r (r0), a_i (x1), a_i (11)] (k, u, g, t)).bind (a_back 247 10 3 [a_r (r0), a_i (x1)] [a_i (u (g r0 2) (2 : Int).toNat)]) else none else none else none := by
  refine (X_aload_n (m := 247) (pc := 0) (n := 0) (by decide +kernel) rfl).trans ?_
  refine (X_getR (m := 247) (pc := 1) (n := 7) (c := 11) (q := 2) (fi := true) (by decide +kernel) (by decide +kernel)).trans ?_
  refine ite_congr rfl (fun _ => ?_) (fun _ => rfl)
  refine (X_iconst (m := 247) (pc := 4) (n := 2) (by decide +kernel) ).trans ?_
  refine (X_iaload (m := 247) (pc := 5)  (by decide +kernel) ).trans ?_
  refine ite_congr rfl (fun _ => ?_) (fun _ => rfl)
  refine (X_aload_n (m := 247) (pc := 6) (n := 0) (by decide +kernel) rfl).trans ?_
  refine (X_iload_n (m := 247) (pc := 7) (n := 1) (by decide +kernel) rfl).trans ?_
  refine (X_bipush (m := 247) (pc := 8) (n := 11) (by decide +kernel) ).trans ?_
  refine (X_call_vi (m := 247) (pc := 10) (q := 79) (y := 166) (n := 3) (as := [a_r (r0), a_i (x1), a_i (11)]) (rest := [a_i (u (g r0 2) (2 : Int).toNat)]) (by decide +kernel) (by decide +kernel) (by decide +kernel) (by decide +kernel) rfl rfl (Nat.le_of_ble_eq_true rfl) (Nat.le_of_ble_eq_true rfl) rfl (by rw [show m_maxL 166 = 3 from by decide +kernel]; exact Nat.le_of_ble_eq_true rfl)).trans ?_
  exact ite_congr (by simp [a_rcv, show m_recv 166 = 11 from by decide +kernel]) (fun _ => rfl) (fun _ => rfl)
theorem B_X11_behindOf_13 {k : Nat → Nat × Nat} {u : Nat → Nat → Int} {g : Nat → Nat → Nat} {t : Nat × Nat × Nat} {r0 : Nat} {x1 : Int} {y0 : Int} {y1 : Int} : a_X 247 13 [a_r (r0), a_i (x1)] [a_i (y1), a_i (y0)] (k, u, g, t) = some (.inl (some (a_i (wr (y0 - y1)))), (k, u, g, t)) := by
  refine (X_isub (m := 247) (pc := 13)  (by decide +kernel) ).trans ?_
  exact X_ireturn (m := 247) (pc := 14) (f := 1) (by decide +kernel) (by decide +kernel) rfl
theorem E_X11_behind {σ : AS} {r0 : Nat} {x1 : Int} : a_m 248 [a_r (r0), a_i (x1)] σ = a_X 248 0 [a_r (r0), a_i (x1)] [] σ := a_m_eq (by rw [a_entry, show m_maxL 248 = 2 from by decide +kernel]; rfl)
theorem B_X11_behind_0 {k : Nat → Nat × Nat} {u : Nat → Nat → Int} {g : Nat → Nat → Nat} {t : Nat × Nat × Nat} {r0 : Nat} {x1 : Int} : a_X 248 0 [a_r (r0), a_i (x1)] [] (k, u, g, t) = if (k r0).1 = 11 then (a_m 159 [a_r (r0), a_i (x1)] (k, u, g, t)).bind (a_back 248 2 3 [a_r (r0), a_i (x1)] []) else none := by
  refine (X_aload_n (m := 248) (pc := 0) (n := 0) (by decide +kernel) rfl).trans ?_
  refine (X_iload_n (m := 248) (pc := 1) (n := 1) (by decide +kernel) rfl).trans ?_
  refine (X_call_vi (m := 248) (pc := 2) (q := 345) (y := 159) (n := 2) (as := [a_r (r0), a_i (x1)]) (rest := []) (by decide +kernel) (by decide +kernel) (by decide +kernel) (by decide +kernel) rfl rfl (Nat.le_of_ble_eq_true rfl) (Nat.le_of_ble_eq_true rfl) rfl (by rw [show m_maxL 159 = 2 from by decide +kernel]; exact Nat.le_of_ble_eq_true rfl)).trans ?_
  exact ite_congr (by simp [a_rcv, show m_recv 159 = 11 from by decide +kernel]) (fun _ => rfl) (fun _ => rfl)
theorem B_X11_behind_5 {k : Nat → Nat × Nat} {u : Nat → Nat → Int} {g : Nat → Nat → Nat} {t : Nat × Nat × Nat} {r0 : Nat} {x1 : Int} {y0 : Int} : a_X 248 5 [a_r (r0), a_i (x1)] [a_i (y0)] (k, u, g, t) = if (y0 : Int) = 0 then if (k r0).1 = 11 then (a_m 247 [a_r (r0), a_i (x1)] (k, u, g, t)).bind (a_back 248 14 3 [a_r (r0), a_i (x1)] []) else none else some (.inl (some (a_i (0))), (k, u, g, t)) := by
  refine (X_if_eq (m := 248) (pc := 5) (off := 7) (tg := 12) (by decide +kernel) (by decide +kernel)).trans ?_
  refine ite_congr rfl (fun _ => ?_) (fun _ => ?_)
  · refine (X_aload_n (m := 248) (pc := 12) (n := 0) (by decide +kernel) rfl).trans ?_
    refine (X_iload_n (m := 248) (pc := 13) (n := 1) (by decide +kernel) rfl).trans ?_
    refine (X_call_vi (m := 248) (pc := 14) (q := 357) (y := 247) (n := 2) (as := [a_r (r0), a_i (x1)]) (rest := []) (by decide +kernel) (by decide +kernel) (by decide +kernel) (by decide +kernel) rfl rfl (Nat.le_of_ble_eq_true rfl) (Nat.le_of_ble_eq_true rfl) rfl (by rw [show m_maxL 247 = 2 from by decide +kernel]; exact Nat.le_of_ble_eq_true rfl)).trans ?_
    exact ite_congr (by simp [a_rcv, show m_recv 247 = 11 from by decide +kernel]) (fun _ => rfl) (fun _ => rfl)
  · refine (X_iconst (m := 248) (pc := 8) (n := 0) (by decide +kernel) ).trans ?_
    refine (X_goto (m := 248) (pc := 9) (off := 8) (tg := 17) (by decide +kernel) (by decide +kernel)).trans ?_
    exact X_ireturn (m := 248) (pc := 17) (f := 1) (by decide +kernel) (by decide +kernel) rfl
theorem B_X11_behind_17 {k : Nat → Nat × Nat} {u : Nat → Nat → Int} {g : Nat → Nat → Nat} {t : Nat × Nat × Nat} {r0 : Nat} {x1 : Int} {y0 : Int} : a_X 248 17 [a_r (r0), a_i (x1)] [a_i (y0)] (k, u, g, t) = some (.inl (some (a_i (y0))), (k, u, g, t)) := by
  exact X_ireturn (m := 248) (pc := 17) (f := 1) (by decide +kernel) (by decide +kernel) rfl
theorem E_X11_lastDue {σ : AS} {r0 : Nat} {x1 : Int} : a_m 249 [a_r (r0), a_i (x1)] σ = a_X 249 0 [a_r (r0), a_i (x1), a_x false, a_x false] [] σ := a_m_eq (by rw [a_entry, show m_maxL 249 = 4 from by decide +kernel]; rfl)
theorem B_X11_lastDue_0 {k : Nat → Nat × Nat} {u : Nat → Nat → Int} {g : Nat → Nat → Nat} {t : Nat × Nat × Nat} {r0 : Nat} {x1 : Int} {v2 : AV} {v3 : AV} : a_X 249 0 [a_r (r0), a_i (x1), v2, v3] [] (k, u, g, t) = if (k r0).1 = 11 then if ((k (g r0 2)).1 = 20 ∨ (k (g r0 2)).1 = 24) ∧ 0 ≤ (1 : Int) ∧ (1 : Int) < ((k (g r0 2)).2 : Int) then a_X 249 9 [a_r (r0), a_i (x1), a_i (u (g r0 2) (1 : Int).toNat), a_i (0)] [] (k, u, g, t) else none else none := by
  refine (X_aload_n (m := 249) (pc := 0) (n := 0) (by decide +kernel) rfl).trans ?_
  refine (X_getR (m := 249) (pc := 1) (n := 7) (c := 11) (q := 2) (fi := true) (by decide +kernel) (by decide +kernel)).trans ?_
  refine ite_congr rfl (fun _ => ?_) (fun _ => rfl)
  refine (X_iconst (m := 249) (pc := 4) (n := 1) (by decide +kernel) ).trans ?_
  refine (X_iaload (m := 249) (pc := 5)  (by decide +kernel) ).trans ?_
  refine ite_congr rfl (fun _ => ?_) (fun _ => rfl)
  refine (X_istore_n (m := 249) (pc := 6) (n := 2) (by decide +kernel) rfl (Nat.le_of_ble_eq_true rfl) rfl).trans ?_
  refine (X_iconst (m := 249) (pc := 7) (n := 0) (by decide +kernel) ).trans ?_
  refine (X_istore_n (m := 249) (pc := 8) (n := 3) (by decide +kernel) rfl (Nat.le_of_ble_eq_true rfl) rfl).trans ?_
  rfl
theorem B_X11_lastDue_9 {k : Nat → Nat × Nat} {u : Nat → Nat → Int} {g : Nat → Nat → Nat} {t : Nat × Nat × Nat} {r0 : Nat} {x1 : Int} {x2 : Int} {x3 : Int} : a_X 249 9 [a_r (r0), a_i (x1), a_i (x2), a_i (x3)] [] (k, u, g, t) = if (k r0).1 = 11 then if ((k (g r0 2)).1 = 20 ∨ (k (g r0 2)).1 = 24) ∧ 0 ≤ (4 : Int) ∧ (4 : Int) < ((k (g r0 2)).2 : Int) then if (x3 : Int) ≥ (u (g r0 2) (4 : Int).toNat : Int) then some (.inl (some (a_i (x2))), (k, u, g, t)) else if (k r0).1 = 11 then (a_m 169 [a_r (r0), a_i (x3), a_i (wr (5 + x1))] (k, u, g, t)).bind (a_back 249 25 3 [a_r (r0), a_i (x1), a_i (x2), a_i (x3)] [a_i (x2)]) else none else none else none := by
  refine (X_iload_n (m := 249) (pc := 9) (n := 3) (by decide +kernel) rfl).trans ?_
  refine (X_aload_n (m := 249) (pc := 10) (n := 0) (by decide +kernel) rfl).trans ?_
  refine (X_getR (m := 249) (pc := 11) (n := 7) (c := 11) (q := 2) (fi := true) (by decide +kernel) (by decide +kernel)).trans ?_
  refine ite_congr rfl (fun _ => ?_) (fun _ => rfl)
  refine (X_iconst (m := 249) (pc := 14) (n := 4) (by decide +kernel) ).trans ?_
  refine (X_iaload (m := 249) (pc := 15)  (by decide +kernel) ).trans ?_
  refine ite_congr rfl (fun _ => ?_) (fun _ => rfl)
  refine (X_ic_ge (m := 249) (pc := 16) (off := 22) (tg := 38) (by decide +kernel) (by decide +kernel)).trans ?_
  refine ite_congr rfl (fun _ => ?_) (fun _ => ?_)
  · refine (X_iload_n (m := 249) (pc := 38) (n := 2) (by decide +kernel) rfl).trans ?_
    exact X_ireturn (m := 249) (pc := 39) (f := 1) (by decide +kernel) (by decide +kernel) rfl
  · refine (X_iload_n (m := 249) (pc := 19) (n := 2) (by decide +kernel) rfl).trans ?_
    refine (X_aload_n (m := 249) (pc := 20) (n := 0) (by decide +kernel) rfl).trans ?_
    refine (X_iload_n (m := 249) (pc := 21) (n := 3) (by decide +kernel) rfl).trans ?_
    refine (X_iconst (m := 249) (pc := 22) (n := 5) (by decide +kernel) ).trans ?_
    refine (X_iload_n (m := 249) (pc := 23) (n := 1) (by decide +kernel) rfl).trans ?_
    refine (X_iadd (m := 249) (pc := 24)  (by decide +kernel) ).trans ?_
    refine (X_call_vi (m := 249) (pc := 25) (q := 181) (y := 169) (n := 3) (as := [a_r (r0), a_i (x3), a_i (wr (5 + x1))]) (rest := [a_i (x2)]) (by decide +kernel) (by decide +kernel) (by decide +kernel) (by decide +kernel) rfl rfl (Nat.le_of_ble_eq_true rfl) (Nat.le_of_ble_eq_true rfl) rfl (by rw [show m_maxL 169 = 3 from by decide +kernel]; exact Nat.le_of_ble_eq_true rfl)).trans ?_
    exact ite_congr (by simp [a_rcv, show m_recv 169 = 11 from by decide +kernel]) (fun _ => rfl) (fun _ => rfl)
theorem B_X11_lastDue_28 {k : Nat → Nat × Nat} {u : Nat → Nat → Int} {g : Nat → Nat → Nat} {t : Nat × Nat × Nat} {r0 : Nat} {x1 : Int} {x2 : Int} {x3 : Int} {y0 : Int} {y1 : Int} : a_X 249 28 [a_r (r0), a_i (x1), a_i (x2), a_i (x3)] [a_i (y1), a_i (y0)] (k, u, g, t) = a_X 249 9 [a_r (r0), a_i (x1), a_i (max (y0) (y1)), a_i (wr (x3 + 1))] [] (k, u, g, t) := by
  refine (X_max (m := 249) (pc := 28) (q := 211) (by decide +kernel) (by decide +kernel) (Nat.le_of_ble_eq_true rfl)).trans ?_
  refine (X_istore_n (m := 249) (pc := 31) (n := 2) (by decide +kernel) rfl (Nat.le_of_ble_eq_true rfl) rfl).trans ?_
  refine (X_iinc (m := 249) (pc := 32) (n := 3) (c := 1) (by decide +kernel) rfl rfl (Nat.le_of_ble_eq_true rfl) rfl).trans ?_
  refine (X_goto (m := 249) (pc := 35) (off := -26) (tg := 9) (by decide +kernel) (by decide +kernel)).trans ?_
  rfl
theorem E_X11_overtakes {σ : AS} {r0 : Nat} {x1 : Int} : a_m 250 [a_r (r0), a_i (x1)] σ = a_X 250 0 [a_r (r0), a_i (x1), a_x false, a_x false, a_x false] [] σ := a_m_eq (by rw [a_entry, show m_maxL 250 = 5 from by decide +kernel]; rfl)
theorem B_X11_overtakes_0 {k : Nat → Nat × Nat} {u : Nat → Nat → Int} {g : Nat → Nat → Nat} {t : Nat × Nat × Nat} {r0 : Nat} {x1 : Int} {v2 : AV} {v3 : AV} {v4 : AV} : a_X 250 0 [a_r (r0), a_i (x1), v2, v3, v4] [] (k, u, g, t) = if (k r0).1 = 11 then (a_m 159 [a_r (r0), a_i (x1)] (k, u, g, t)).bind (a_back 250 2 3 [a_r (r0), a_i (x1), v2, v3, v4] []) else none := by
  refine (X_aload_n (m := 250) (pc := 0) (n := 0) (by decide +kernel) rfl).trans ?_
  refine (X_iload_n (m := 250) (pc := 1) (n := 1) (by decide +kernel) rfl).trans ?_
  refine (X_call_vi (m := 250) (pc := 2) (q := 345) (y := 159) (n := 2) (as := [a_r (r0), a_i (x1)]) (rest := []) (by decide +kernel) (by decide +kernel) (by decide +kernel) (by decide +kernel) rfl rfl (Nat.le_of_ble_eq_true rfl) (Nat.le_of_ble_eq_true rfl) rfl (by rw [show m_maxL 159 = 2 from by decide +kernel]; exact Nat.le_of_ble_eq_true rfl)).trans ?_
  exact ite_congr (by simp [a_rcv, show m_recv 159 = 11 from by decide +kernel]) (fun _ => rfl) (fun _ => rfl)
theorem B_X11_overtakes_5 {k : Nat → Nat × Nat} {u : Nat → Nat → Int} {g : Nat → Nat → Nat} {t : Nat × Nat × Nat} {r0 : Nat} {x1 : Int} {v2 : AV} {v3 : AV} {v4 : AV} {y0 : Int} : a_X 250 5 [a_r (r0), a_i (x1), v2, v3, v4] [a_i (y0)] (k, u, g, t) = if (y0 : Int) = 0 then if (k r0).1 = 11 then (a_m 251 [a_r (r0)] (k, u, g, t)).bind (a_back 250 11 3 [a_r (r0), a_i (x1), v2, v3, v4] []) else none else some (.inl (some (a_i (0))), (k, u, g, t)) := by
  refine (X_if_eq (m := 250) (pc := 5) (off := 5) (tg := 10) (by decide +kernel) (by decide +kernel)).trans ?_
  refine ite_congr rfl (fun _ => ?_) (fun _ => ?_)
  · refine (X_aload_n (m := 250) (pc := 10) (n := 0) (by decide +kernel) rfl).trans ?_
    refine (X_call_vi (m := 250) (pc := 11) (q := 360) (y := 251) (n := 1) (as := [a_r (r0)]) (rest := []) (by decide +kernel) (by decide +kernel) (by decide +kernel) (by decide +kernel) rfl rfl (Nat.le_of_ble_eq_true rfl) (Nat.le_of_ble_eq_true rfl) rfl (by rw [show m_maxL 251 = 1 from by decide +kernel]; exact Nat.le_of_ble_eq_true rfl)).trans ?_
    exact ite_congr (by simp [a_rcv, show m_recv 251 = 11 from by decide +kernel]) (fun _ => rfl) (fun _ => rfl)
  · refine (X_iconst (m := 250) (pc := 8) (n := 0) (by decide +kernel) ).trans ?_
    exact X_ireturn (m := 250) (pc := 9) (f := 1) (by decide +kernel) (by decide +kernel) rfl
theorem B_X11_overtakes_14 {k : Nat → Nat × Nat} {u : Nat → Nat → Int} {g : Nat → Nat → Nat} {t : Nat × Nat × Nat} {r0 : Nat} {x1 : Int} {v2 : AV} {v3 : AV} {v4 : AV} : a_X 250 14 [a_r (r0), a_i (x1), v2, v3, v4] [] (k, u, g, t) = if (k r0).1 = 11 then (a_m 166 [a_r (r0), a_i (x1), a_i (12)] (k, u, g, t)).bind (a_back 250 18 3 [a_r (r0), a_i (x1), v2, v3, v4] []) else none := by
  refine (X_aload_n (m := 250) (pc := 14) (n := 0) (by decide +kernel) rfl).trans ?_
  refine (X_iload_n (m := 250) (pc := 15) (n := 1) (by decide +kernel) rfl).trans ?_
  refine (X_bipush (m := 250) (pc := 16) (n := 12) (by decide +kernel) ).trans ?_
  refine (X_call_vi (m := 250) (pc := 18) (q := 79) (y := 166) (n := 3) (as := [a_r (r0), a_i (x1), a_i (12)]) (rest := []) (by decide +kernel) (by decide +kernel) (by decide +kernel) (by decide +kernel) rfl rfl (Nat.le_of_ble_eq_true rfl) (Nat.le_of_ble_eq_true rfl) rfl (by rw [show m_maxL 166 = 3 from by decide +kernel]; exact Nat.le_of_ble_eq_true rfl)).trans ?_
  exact ite_congr (by simp [a_rcv, show m_recv 166 = 11 from by decide +kernel]) (fun _ => rfl) (fun _ => rfl)
theorem B_X11_overtakes_21 {k : Nat → Nat × Nat} {u : Nat → Nat → Int} {g : Nat → Nat → Nat} {t : Nat × Nat × Nat} {r0 : Nat} {x1 : Int} {v2 : AV} {v3 : AV} {v4 : AV} {y0 : Int} : a_X 250 21 [a_r (r0), a_i (x1), v2, v3, v4] [a_i (y0)] (k, u, g, t) = if (k r0).1 = 11 then (a_m 249 [a_r (r0), a_i (x1)] (k, u, g, t)).bind (a_back 250 24 3 [a_r (r0), a_i (x1), a_i (y0), v3, v4] []) else none := by
  refine (X_istore_n (m := 250) (pc := 21) (n := 2) (by decide +kernel) rfl (Nat.le_of_ble_eq_true rfl) rfl).trans ?_
  refine (X_aload_n (m := 250) (pc := 22) (n := 0) (by decide +kernel) rfl).trans ?_
  refine (X_iload_n (m := 250) (pc := 23) (n := 1) (by decide +kernel) rfl).trans ?_
  refine (X_call_vi (m := 250) (pc := 24) (q := 363) (y := 249) (n := 2) (as := [a_r (r0), a_i (x1)]) (rest := []) (by decide +kernel) (by decide +kernel) (by decide +kernel) (by decide +kernel) rfl rfl (Nat.le_of_ble_eq_true rfl) (Nat.le_of_ble_eq_true rfl) rfl (by rw [show m_maxL 249 = 4 from by decide +kernel]; exact Nat.le_of_ble_eq_true rfl)).trans ?_
  exact ite_congr (by simp [a_rcv, show m_recv 249 = 11 from by decide +kernel]) (fun _ => rfl) (fun _ => rfl)
theorem B_X11_overtakes_27 {k : Nat → Nat × Nat} {u : Nat → Nat → Int} {g : Nat → Nat → Nat} {t : Nat × Nat × Nat} {r0 : Nat} {x1 : Int} {x2 : Int} {v3 : AV} {v4 : AV} {y0 : Int} : a_X 250 27 [a_r (r0), a_i (x1), a_i (x2), v3, v4] [a_i (y0)] (k, u, g, t) = if (k r0).1 = 11 then if ((k (g r0 2)).1 = 20 ∨ (k (g r0 2)).1 = 24) ∧ 0 ≤ (1 : Int) ∧ (1 : Int) < ((k (g r0 2)).2 : Int) then a_X 250 38 [a_r (r0), a_i (x1), a_i (x2), a_i (y0), a_i (wr ((u (g r0 2) (1 : Int).toNat) + 1))] [] (k, u, g, t) else none else none := by
  refine (X_istore_n (m := 250) (pc := 27) (n := 3) (by decide +kernel) rfl (Nat.le_of_ble_eq_true rfl) rfl).trans ?_
  refine (X_aload_n (m := 250) (pc := 28) (n := 0) (by decide +kernel) rfl).trans ?_
  refine (X_getR (m := 250) (pc := 29) (n := 7) (c := 11) (q := 2) (fi := true) (by decide +kernel) (by decide +kernel)).trans ?_
  refine ite_congr rfl (fun _ => ?_) (fun _ => rfl)
  refine (X_iconst (m := 250) (pc := 32) (n := 1) (by decide +kernel) ).trans ?_
  refine (X_iaload (m := 250) (pc := 33)  (by decide +kernel) ).trans ?_
  refine ite_congr rfl (fun _ => ?_) (fun _ => rfl)
  refine (X_iconst (m := 250) (pc := 34) (n := 1) (by decide +kernel) ).trans ?_
  refine (X_iadd (m := 250) (pc := 35)  (by decide +kernel) ).trans ?_
  refine (X_istore (m := 250) (pc := 36) (n := 4) (by decide +kernel) rfl (Nat.le_of_ble_eq_true rfl) rfl).trans ?_
  rfl
theorem B_X11_overtakes_38 {k : Nat → Nat × Nat} {u : Nat → Nat → Int} {g : Nat → Nat → Nat} {t : Nat × Nat × Nat} {r0 : Nat} {x1 : Int} {x2 : Int} {x3 : Int} {x4 : Int} : a_X 250 38 [a_r (r0), a_i (x1), a_i (x2), a_i (x3), a_i (x4)] [] (k, u, g, t) = if (x4 : Int) > (x3 : Int) then if (k r0).1 = 11 then (a_m 166 [a_r (r0), a_i (x1), a_i (12)] (k, u, g, t)).bind (a_back 250 63 3 [a_r (r0), a_i (x1), a_i (x2), a_i (x3), a_i (x4)] [a_r (r0)]) else none else if (k r0).1 = 11 then (a_m 206 [a_r (r0), a_i (x1), a_i (x4), a_i (0)] (k, u, g, t)).bind (a_back 250 49 3 [a_r (r0), a_i (x1), a_i (x2), a_i (x3), a_i (x4)] []) else none := by
  refine (X_iload (m := 250) (pc := 38) (n := 4) (by decide +kernel) rfl).trans ?_
  refine (X_iload_n (m := 250) (pc := 40) (n := 3) (by decide +kernel) rfl).trans ?_
  refine (X_ic_gt (m := 250) (pc := 41) (off := 17) (tg := 58) (by decide +kernel) (by decide +kernel)).trans ?_
  refine ite_congr rfl (fun _ => ?_) (fun _ => ?_)
  · refine (X_aload_n (m := 250) (pc := 58) (n := 0) (by decide +kernel) rfl).trans ?_
    refine (X_aload_n (m := 250) (pc := 59) (n := 0) (by decide +kernel) rfl).trans ?_
    refine (X_iload_n (m := 250) (pc := 60) (n := 1) (by decide +kernel) rfl).trans ?_
    refine (X_bipush (m := 250) (pc := 61) (n := 12) (by decide +kernel) ).trans ?_
    refine (X_call_vi (m := 250) (pc := 63) (q := 79) (y := 166) (n := 3) (as := [a_r (r0), a_i (x1), a_i (12)]) (rest := [a_r (r0)]) (by decide +kernel) (by decide +kernel) (by decide +kernel) (by decide +kernel) rfl rfl (Nat.le_of_ble_eq_true rfl) (Nat.le_of_ble_eq_true rfl) rfl (by rw [show m_maxL 166 = 3 from by decide +kernel]; exact Nat.le_of_ble_eq_true rfl)).trans ?_
    exact ite_congr (by simp [a_rcv, show m_recv 166 = 11 from by decide +kernel]) (fun _ => rfl) (fun _ => rfl)
  · refine (X_aload_n (m := 250) (pc := 44) (n := 0) (by decide +kernel) rfl).trans ?_
    refine (X_iload_n (m := 250) (pc := 45) (n := 1) (by decide +kernel) rfl).trans ?_
    refine (X_iload (m := 250) (pc := 46) (n := 4) (by decide +kernel) rfl).trans ?_
    refine (X_iconst (m := 250) (pc := 48) (n := 0) (by decide +kernel) ).trans ?_
    refine (X_call_vi (m := 250) (pc := 49) (q := 248) (y := 206) (n := 4) (as := [a_r (r0), a_i (x1), a_i (x4), a_i (0)]) (rest := []) (by decide +kernel) (by decide +kernel) (by decide +kernel) (by decide +kernel) rfl rfl (Nat.le_of_ble_eq_true rfl) (Nat.le_of_ble_eq_true rfl) rfl (by rw [show m_maxL 206 = 5 from by decide +kernel]; exact Nat.le_of_ble_eq_true rfl)).trans ?_
    exact ite_congr (by simp [a_rcv, show m_recv 206 = 11 from by decide +kernel]) (fun _ => rfl) (fun _ => rfl)
theorem B_X11_overtakes_66 {k : Nat → Nat × Nat} {u : Nat → Nat → Int} {g : Nat → Nat → Nat} {t : Nat × Nat × Nat} {r0 : Nat} {x1 : Int} {x2 : Int} {x3 : Int} {x4 : Int} {q0 : Nat} {y1 : Int} : a_X 250 66 [a_r (r0), a_i (x1), a_i (x2), a_i (x3), a_i (x4)] [a_i (y1), a_r (q0)] (k, u, g, t) = if (k q0).1 = 11 then (a_m 252 [a_r (q0), a_i (wr (y1 - x2))] (k, u, g, t)).bind (a_back 250 68 3 [a_r (r0), a_i (x1), a_i (x2), a_i (x3), a_i (x4)] []) else none := by
  refine (X_iload_n (m := 250) (pc := 66) (n := 2) (by decide +kernel) rfl).trans ?_
  refine (X_isub (m := 250) (pc := 67)  (by decide +kernel) ).trans ?_
  refine (X_call_vi (m := 250) (pc := 68) (q := 366) (y := 252) (n := 2) (as := [a_r (q0), a_i (wr (y1 - x2))]) (rest := []) (by decide +kernel) (by decide +kernel) (by decide +kernel) (by decide +kernel) rfl rfl (Nat.le_of_ble_eq_true rfl) (Nat.le_of_ble_eq_true rfl) rfl (by rw [show m_maxL 252 = 2 from by decide +kernel]; exact Nat.le_of_ble_eq_true rfl)).trans ?_
  exact ite_congr (by simp [a_rcv, show m_recv 252 = 11 from by decide +kernel]) (fun _ => rfl) (fun _ => rfl)
theorem B_X11_overtakes_52 {k : Nat → Nat × Nat} {u : Nat → Nat → Int} {g : Nat → Nat → Nat} {t : Nat × Nat × Nat} {r0 : Nat} {x1 : Int} {x2 : Int} {x3 : Int} {x4 : Int} : a_X 250 52 [a_r (r0), a_i (x1), a_i (x2), a_i (x3), a_i (x4)] [] (k, u, g, t) = a_X 250 38 [a_r (r0), a_i (x1), a_i (x2), a_i (x3), a_i (wr (x4 + 1))] [] (k, u, g, t) := by
  refine (X_iinc (m := 250) (pc := 52) (n := 4) (c := 1) (by decide +kernel) rfl rfl (Nat.le_of_ble_eq_true rfl) rfl).trans ?_
  refine (X_goto (m := 250) (pc := 55) (off := -17) (tg := 38) (by decide +kernel) (by decide +kernel)).trans ?_
  rfl
theorem B_X11_overtakes_71 {k : Nat → Nat × Nat} {u : Nat → Nat → Int} {g : Nat → Nat → Nat} {t : Nat × Nat × Nat} {r0 : Nat} {x1 : Int} {x2 : Int} {x3 : Int} {x4 : Int} {y0 : Int} : a_X 250 71 [a_r (r0), a_i (x1), a_i (x2), a_i (x3), a_i (x4)] [a_i (y0)] (k, u, g, t) = some (.inl (some (a_i (y0))), (k, u, g, t)) := by
  exact X_ireturn (m := 250) (pc := 71) (f := 1) (by decide +kernel) (by decide +kernel) rfl
theorem E_X11_tries {σ : AS} {r0 : Nat} : a_m 251 [a_r (r0)] σ = a_X 251 0 [a_r (r0)] [] σ := a_m_eq (by rw [a_entry, show m_maxL 251 = 1 from by decide +kernel]; rfl)
theorem B_X11_tries_0 {k : Nat → Nat × Nat} {u : Nat → Nat → Int} {g : Nat → Nat → Nat} {t : Nat × Nat × Nat} {r0 : Nat} : a_X 251 0 [a_r (r0)] [] (k, u, g, t) = if (k r0).1 = 11 then if (k r0).1 = 11 then (a_m 163 [a_r (g r0 2), a_i (0), a_r (g r0 3), a_i (32800)] (k, u, g, t)).bind (a_back 251 12 3 [a_r (r0)] []) else none else none := by
  refine (X_aload_n (m := 251) (pc := 0) (n := 0) (by decide +kernel) rfl).trans ?_
  refine (X_getR (m := 251) (pc := 1) (n := 7) (c := 11) (q := 2) (fi := true) (by decide +kernel) (by decide +kernel)).trans ?_
  refine ite_congr rfl (fun _ => ?_) (fun _ => rfl)
  refine (X_iconst (m := 251) (pc := 4) (n := 0) (by decide +kernel) ).trans ?_
  refine (X_aload_n (m := 251) (pc := 5) (n := 0) (by decide +kernel) rfl).trans ?_
  refine (X_getR (m := 251) (pc := 6) (n := 14) (c := 11) (q := 3) (fi := true) (by decide +kernel) (by decide +kernel)).trans ?_
  refine ite_congr rfl (fun _ => ?_) (fun _ => rfl)
  refine (X_ldcw (m := 251) (pc := 9) (n := 369) (z := 32800) (by decide +kernel) (by decide +kernel)).trans ?_
  refine (X_call_st (m := 251) (pc := 12) (q := 171) (y := 163) (n := 4) (as := [a_r (g r0 2), a_i (0), a_r (g r0 3), a_i (32800)]) (rest := []) (by decide +kernel) (by decide +kernel) (by decide +kernel) (by decide +kernel) rfl rfl (Nat.le_of_ble_eq_true rfl) (Nat.le_of_ble_eq_true rfl) rfl (by rw [show m_maxL 163 = 5 from by decide +kernel]; exact Nat.le_of_ble_eq_true rfl)).trans ?_
  exact if_pos rfl
theorem B_X11_tries_15 {k : Nat → Nat × Nat} {u : Nat → Nat → Int} {g : Nat → Nat → Nat} {t : Nat × Nat × Nat} {r0 : Nat} : a_X 251 15 [a_r (r0)] [] (k, u, g, t) = some (.inl none, (k, u, g, t)) := by
  exact X_return (m := 251) (pc := 15) (by decide +kernel) (by decide +kernel)
theorem E_X11_back {σ : AS} {r0 : Nat} {x1 : Int} : a_m 252 [a_r (r0), a_i (x1)] σ = a_X 252 0 [a_r (r0), a_i (x1)] [] σ := a_m_eq (by rw [a_entry, show m_maxL 252 = 2 from by decide +kernel]; rfl)
theorem B_X11_back_0 {k : Nat → Nat × Nat} {u : Nat → Nat → Int} {g : Nat → Nat → Nat} {t : Nat × Nat × Nat} {r0 : Nat} {x1 : Int} : a_X 252 0 [a_r (r0), a_i (x1)] [] (k, u, g, t) = if (k r0).1 = 11 then if (k r0).1 = 11 then (a_m 163 [a_r (g r0 3), a_i (32800), a_r (g r0 2), a_i (0)] (k, u, g, t)).bind (a_back 252 12 3 [a_r (r0), a_i (x1)] []) else none else none := by
  refine (X_aload_n (m := 252) (pc := 0) (n := 0) (by decide +kernel) rfl).trans ?_
  refine (X_getR (m := 252) (pc := 1) (n := 14) (c := 11) (q := 3) (fi := true) (by decide +kernel) (by decide +kernel)).trans ?_
  refine ite_congr rfl (fun _ => ?_) (fun _ => rfl)
  refine (X_ldcw (m := 252) (pc := 4) (n := 369) (z := 32800) (by decide +kernel) (by decide +kernel)).trans ?_
  refine (X_aload_n (m := 252) (pc := 7) (n := 0) (by decide +kernel) rfl).trans ?_
  refine (X_getR (m := 252) (pc := 8) (n := 7) (c := 11) (q := 2) (fi := true) (by decide +kernel) (by decide +kernel)).trans ?_
  refine ite_congr rfl (fun _ => ?_) (fun _ => rfl)
  refine (X_iconst (m := 252) (pc := 11) (n := 0) (by decide +kernel) ).trans ?_
  refine (X_call_st (m := 252) (pc := 12) (q := 171) (y := 163) (n := 4) (as := [a_r (g r0 3), a_i (32800), a_r (g r0 2), a_i (0)]) (rest := []) (by decide +kernel) (by decide +kernel) (by decide +kernel) (by decide +kernel) rfl rfl (Nat.le_of_ble_eq_true rfl) (Nat.le_of_ble_eq_true rfl) rfl (by rw [show m_maxL 163 = 5 from by decide +kernel]; exact Nat.le_of_ble_eq_true rfl)).trans ?_
  exact if_pos rfl
theorem B_X11_back_15 {k : Nat → Nat × Nat} {u : Nat → Nat → Int} {g : Nat → Nat → Nat} {t : Nat × Nat × Nat} {r0 : Nat} {x1 : Int} : a_X 252 15 [a_r (r0), a_i (x1)] [] (k, u, g, t) = some (.inl (some (a_i (x1))), (k, u, g, t)) := by
  refine (X_iload_n (m := 252) (pc := 15) (n := 1) (by decide +kernel) rfl).trans ?_
  exact X_ireturn (m := 252) (pc := 16) (f := 1) (by decide +kernel) (by decide +kernel) rfl
theorem E_X11_sameNow {σ : AS} {r0 : Nat} {x1 : Int} : a_m 253 [a_r (r0), a_i (x1)] σ = a_X 253 0 [a_r (r0), a_i (x1), a_x false] [] σ := a_m_eq (by rw [a_entry, show m_maxL 253 = 3 from by decide +kernel]; rfl)
theorem B_X11_sameNow_0 {k : Nat → Nat × Nat} {u : Nat → Nat → Int} {g : Nat → Nat → Nat} {t : Nat × Nat × Nat} {r0 : Nat} {x1 : Int} {v2 : AV} : a_X 253 0 [a_r (r0), a_i (x1), v2] [] (k, u, g, t) = a_X 253 2 [a_r (r0), a_i (x1), a_i (0)] [] (k, u, g, t) := by
  refine (X_iconst (m := 253) (pc := 0) (n := 0) (by decide +kernel) ).trans ?_
  refine (X_istore_n (m := 253) (pc := 1) (n := 2) (by decide +kernel) rfl (Nat.le_of_ble_eq_true rfl) rfl).trans ?_
  rfl
theorem B_X11_sameNow_2 {k : Nat → Nat × Nat} {u : Nat → Nat → Int} {g : Nat → Nat → Nat} {t : Nat × Nat × Nat} {r0 : Nat} {x1 : Int} {x2 : Int} : a_X 253 2 [a_r (r0), a_i (x1), a_i (x2)] [] (k, u, g, t) = if (x2 : Int) > (200 : Int) then some (.inl (some (a_i (-1))), (k, u, g, t)) else if (k r0).1 = 11 then (a_m 210 [a_r (r0), a_i (x1), a_i (-1)] (k, u, g, t)).bind (a_back 253 12 3 [a_r (r0), a_i (x1), a_i (x2)] []) else none := by
  refine (X_iload_n (m := 253) (pc := 2) (n := 2) (by decide +kernel) rfl).trans ?_
  refine (X_sipush (m := 253) (pc := 3) (n := 200) (by decide +kernel) ).trans ?_
  refine (X_ic_gt (m := 253) (pc := 6) (off := 24) (tg := 30) (by decide +kernel) (by decide +kernel)).trans ?_
  refine ite_congr rfl (fun _ => ?_) (fun _ => ?_)
  · refine (X_iconst (m := 253) (pc := 30) (n := -1) (by decide +kernel) ).trans ?_
    exact X_ireturn (m := 253) (pc := 31) (f := 1) (by decide +kernel) (by decide +kernel) rfl
  · refine (X_aload_n (m := 253) (pc := 9) (n := 0) (by decide +kernel) rfl).trans ?_
    refine (X_iload_n (m := 253) (pc := 10) (n := 1) (by decide +kernel) rfl).trans ?_
    refine (X_iconst (m := 253) (pc := 11) (n := -1) (by decide +kernel) ).trans ?_
    refine (X_call_vi (m := 253) (pc := 12) (q := 262) (y := 210) (n := 3) (as := [a_r (r0), a_i (x1), a_i (-1)]) (rest := []) (by decide +kernel) (by decide +kernel) (by decide +kernel) (by decide +kernel) rfl rfl (Nat.le_of_ble_eq_true rfl) (Nat.le_of_ble_eq_true rfl) rfl (by rw [show m_maxL 210 = 5 from by decide +kernel]; exact Nat.le_of_ble_eq_true rfl)).trans ?_
    exact ite_congr (by simp [a_rcv, show m_recv 210 = 11 from by decide +kernel]) (fun _ => rfl) (fun _ => rfl)
theorem B_X11_sameNow_15 {k : Nat → Nat × Nat} {u : Nat → Nat → Int} {g : Nat → Nat → Nat} {t : Nat × Nat × Nat} {r0 : Nat} {x1 : Int} {x2 : Int} {y0 : Int} : a_X 253 15 [a_r (r0), a_i (x1), a_i (x2)] [a_i (y0)] (k, u, g, t) = if (y0 : Int) ≠ 0 then if (k r0).1 = 11 then (a_m 207 [a_r (r0)] (k, u, g, t)).bind (a_back 253 21 3 [a_r (r0), a_i (x1), a_i (x2)] []) else none else some (.inl (some (a_i (x2))), (k, u, g, t)) := by
  refine (X_if_ne (m := 253) (pc := 15) (off := 5) (tg := 20) (by decide +kernel) (by decide +kernel)).trans ?_
  refine ite_congr rfl (fun _ => ?_) (fun _ => ?_)
  · refine (X_aload_n (m := 253) (pc := 20) (n := 0) (by decide +kernel) rfl).trans ?_
    refine (X_call_vi (m := 253) (pc := 21) (q := 255) (y := 207) (n := 1) (as := [a_r (r0)]) (rest := []) (by decide +kernel) (by decide +kernel) (by decide +kernel) (by decide +kernel) rfl rfl (Nat.le_of_ble_eq_true rfl) (Nat.le_of_ble_eq_true rfl) rfl (by rw [show m_maxL 207 = 2 from by decide +kernel]; exact Nat.le_of_ble_eq_true rfl)).trans ?_
    exact ite_congr (by simp [a_rcv, show m_recv 207 = 11 from by decide +kernel]) (fun _ => rfl) (fun _ => rfl)
  · refine (X_iload_n (m := 253) (pc := 18) (n := 2) (by decide +kernel) rfl).trans ?_
    exact X_ireturn (m := 253) (pc := 19) (f := 1) (by decide +kernel) (by decide +kernel) rfl
theorem B_X11_sameNow_24 {k : Nat → Nat × Nat} {u : Nat → Nat → Int} {g : Nat → Nat → Nat} {t : Nat × Nat × Nat} {r0 : Nat} {x1 : Int} {x2 : Int} : a_X 253 24 [a_r (r0), a_i (x1), a_i (x2)] [] (k, u, g, t) = a_X 253 2 [a_r (r0), a_i (x1), a_i (wr (x2 + 1))] [] (k, u, g, t) := by
  refine (X_iinc (m := 253) (pc := 24) (n := 2) (c := 1) (by decide +kernel) rfl rfl (Nat.le_of_ble_eq_true rfl) rfl).trans ?_
  refine (X_goto (m := 253) (pc := 27) (off := -25) (tg := 2) (by decide +kernel) (by decide +kernel)).trans ?_
  rfl
theorem E_X11_sameIn {σ : AS} {r0 : Nat} {x1 : Int} : a_m 254 [a_r (r0), a_i (x1)] σ = a_X 254 0 [a_r (r0), a_i (x1)] [] σ := a_m_eq (by rw [a_entry, show m_maxL 254 = 2 from by decide +kernel]; rfl)
theorem B_X11_sameIn_0 {k : Nat → Nat × Nat} {u : Nat → Nat → Int} {g : Nat → Nat → Nat} {t : Nat × Nat × Nat} {r0 : Nat} {x1 : Int} : a_X 254 0 [a_r (r0), a_i (x1)] [] (k, u, g, t) = if (k r0).1 = 11 then (a_m 159 [a_r (r0), a_i (x1)] (k, u, g, t)).bind (a_back 254 2 3 [a_r (r0), a_i (x1)] []) else none := by
  refine (X_aload_n (m := 254) (pc := 0) (n := 0) (by decide +kernel) rfl).trans ?_
  refine (X_iload_n (m := 254) (pc := 1) (n := 1) (by decide +kernel) rfl).trans ?_
  refine (X_call_vi (m := 254) (pc := 2) (q := 345) (y := 159) (n := 2) (as := [a_r (r0), a_i (x1)]) (rest := []) (by decide +kernel) (by decide +kernel) (by decide +kernel) (by decide +kernel) rfl rfl (Nat.le_of_ble_eq_true rfl) (Nat.le_of_ble_eq_true rfl) rfl (by rw [show m_maxL 159 = 2 from by decide +kernel]; exact Nat.le_of_ble_eq_true rfl)).trans ?_
  exact ite_congr (by simp [a_rcv, show m_recv 159 = 11 from by decide +kernel]) (fun _ => rfl) (fun _ => rfl)
theorem B_X11_sameIn_5 {k : Nat → Nat × Nat} {u : Nat → Nat → Int} {g : Nat → Nat → Nat} {t : Nat × Nat × Nat} {r0 : Nat} {x1 : Int} {y0 : Int} : a_X 254 5 [a_r (r0), a_i (x1)] [a_i (y0)] (k, u, g, t) = if (y0 : Int) = 0 then if (k r0).1 = 11 then (a_m 251 [a_r (r0)] (k, u, g, t)).bind (a_back 254 11 3 [a_r (r0), a_i (x1)] []) else none else some (.inl (some (a_i (0))), (k, u, g, t)) := by
  refine (X_if_eq (m := 254) (pc := 5) (off := 5) (tg := 10) (by decide +kernel) (by decide +kernel)).trans ?_
  refine ite_congr rfl (fun _ => ?_) (fun _ => ?_)
  · refine (X_aload_n (m := 254) (pc := 10) (n := 0) (by decide +kernel) rfl).trans ?_
    refine (X_call_vi (m := 254) (pc := 11) (q := 360) (y := 251) (n := 1) (as := [a_r (r0)]) (rest := []) (by decide +kernel) (by decide +kernel) (by decide +kernel) (by decide +kernel) rfl rfl (Nat.le_of_ble_eq_true rfl) (Nat.le_of_ble_eq_true rfl) rfl (by rw [show m_maxL 251 = 1 from by decide +kernel]; exact Nat.le_of_ble_eq_true rfl)).trans ?_
    exact ite_congr (by simp [a_rcv, show m_recv 251 = 11 from by decide +kernel]) (fun _ => rfl) (fun _ => rfl)
  · refine (X_iconst (m := 254) (pc := 8) (n := 0) (by decide +kernel) ).trans ?_
    exact X_ireturn (m := 254) (pc := 9) (f := 1) (by decide +kernel) (by decide +kernel) rfl
theorem B_X11_sameIn_14 {k : Nat → Nat × Nat} {u : Nat → Nat → Int} {g : Nat → Nat → Nat} {t : Nat × Nat × Nat} {r0 : Nat} {x1 : Int} : a_X 254 14 [a_r (r0), a_i (x1)] [] (k, u, g, t) = if (k r0).1 = 11 then (a_m 253 [a_r (r0), a_i (x1)] (k, u, g, t)).bind (a_back 254 17 3 [a_r (r0), a_i (x1)] [a_r (r0)]) else none := by
  refine (X_aload_n (m := 254) (pc := 14) (n := 0) (by decide +kernel) rfl).trans ?_
  refine (X_aload_n (m := 254) (pc := 15) (n := 0) (by decide +kernel) rfl).trans ?_
  refine (X_iload_n (m := 254) (pc := 16) (n := 1) (by decide +kernel) rfl).trans ?_
  refine (X_call_vi (m := 254) (pc := 17) (q := 370) (y := 253) (n := 2) (as := [a_r (r0), a_i (x1)]) (rest := [a_r (r0)]) (by decide +kernel) (by decide +kernel) (by decide +kernel) (by decide +kernel) rfl rfl (Nat.le_of_ble_eq_true rfl) (Nat.le_of_ble_eq_true rfl) rfl (by rw [show m_maxL 253 = 3 from by decide +kernel]; exact Nat.le_of_ble_eq_true rfl)).trans ?_
  exact ite_congr (by simp [a_rcv, show m_recv 253 = 11 from by decide +kernel]) (fun _ => rfl) (fun _ => rfl)
theorem B_X11_sameIn_20 {k : Nat → Nat × Nat} {u : Nat → Nat → Int} {g : Nat → Nat → Nat} {t : Nat × Nat × Nat} {r0 : Nat} {x1 : Int} {q0 : Nat} {y1 : Int} : a_X 254 20 [a_r (r0), a_i (x1)] [a_i (y1), a_r (q0)] (k, u, g, t) = if (k q0).1 = 11 then (a_m 252 [a_r (q0), a_i (y1)] (k, u, g, t)).bind (a_back 254 20 3 [a_r (r0), a_i (x1)] []) else none := by
  refine (X_call_vi (m := 254) (pc := 20) (q := 366) (y := 252) (n := 2) (as := [a_r (q0), a_i (y1)]) (rest := []) (by decide +kernel) (by decide +kernel) (by decide +kernel) (by decide +kernel) rfl rfl (Nat.le_of_ble_eq_true rfl) (Nat.le_of_ble_eq_true rfl) rfl (by rw [show m_maxL 252 = 2 from by decide +kernel]; exact Nat.le_of_ble_eq_true rfl)).trans ?_
  exact ite_congr (by simp [a_rcv, show m_recv 252 = 11 from by decide +kernel]) (fun _ => rfl) (fun _ => rfl)
theorem B_X11_sameIn_23 {k : Nat → Nat × Nat} {u : Nat → Nat → Int} {g : Nat → Nat → Nat} {t : Nat × Nat × Nat} {r0 : Nat} {x1 : Int} {y0 : Int} : a_X 254 23 [a_r (r0), a_i (x1)] [a_i (y0)] (k, u, g, t) = some (.inl (some (a_i (y0))), (k, u, g, t)) := by
  exact X_ireturn (m := 254) (pc := 23) (f := 1) (by decide +kernel) (by decide +kernel) rfl
theorem E_X11_allSameNow {σ : AS} {r0 : Nat} : a_m 255 [a_r (r0)] σ = a_X 255 0 [a_r (r0), a_x false] [] σ := a_m_eq (by rw [a_entry, show m_maxL 255 = 2 from by decide +kernel]; rfl)
theorem B_X11_allSameNow_0 {k : Nat → Nat × Nat} {u : Nat → Nat → Int} {g : Nat → Nat → Nat} {t : Nat × Nat × Nat} {r0 : Nat} {v1 : AV} : a_X 255 0 [a_r (r0), v1] [] (k, u, g, t) = a_X 255 2 [a_r (r0), a_i (0)] [] (k, u, g, t) := by
  refine (X_iconst (m := 255) (pc := 0) (n := 0) (by decide +kernel) ).trans ?_
  refine (X_istore_n (m := 255) (pc := 1) (n := 1) (by decide +kernel) rfl (Nat.le_of_ble_eq_true rfl) rfl).trans ?_
  rfl
theorem B_X11_allSameNow_2 {k : Nat → Nat × Nat} {u : Nat → Nat → Int} {g : Nat → Nat → Nat} {t : Nat × Nat × Nat} {r0 : Nat} {x1 : Int} : a_X 255 2 [a_r (r0), a_i (x1)] [] (k, u, g, t) = if (x1 : Int) > (200 : Int) then some (.inl (some (a_i (-1))), (k, u, g, t)) else if (k r0).1 = 11 then (a_m 211 [a_r (r0)] (k, u, g, t)).bind (a_back 255 10 3 [a_r (r0), a_i (x1)] []) else none := by
  refine (X_iload_n (m := 255) (pc := 2) (n := 1) (by decide +kernel) rfl).trans ?_
  refine (X_sipush (m := 255) (pc := 3) (n := 200) (by decide +kernel) ).trans ?_
  refine (X_ic_gt (m := 255) (pc := 6) (off := 28) (tg := 34) (by decide +kernel) (by decide +kernel)).trans ?_
  refine ite_congr rfl (fun _ => ?_) (fun _ => ?_)
  · refine (X_iconst (m := 255) (pc := 34) (n := -1) (by decide +kernel) ).trans ?_
    exact X_ireturn (m := 255) (pc := 35) (f := 1) (by decide +kernel) (by decide +kernel) rfl
  · refine (X_aload_n (m := 255) (pc := 9) (n := 0) (by decide +kernel) rfl).trans ?_
    refine (X_call_vi (m := 255) (pc := 10) (q := 274) (y := 211) (n := 1) (as := [a_r (r0)]) (rest := []) (by decide +kernel) (by decide +kernel) (by decide +kernel) (by decide +kernel) rfl rfl (Nat.le_of_ble_eq_true rfl) (Nat.le_of_ble_eq_true rfl) rfl (by rw [show m_maxL 211 = 3 from by decide +kernel]; exact Nat.le_of_ble_eq_true rfl)).trans ?_
    exact ite_congr (by simp [a_rcv, show m_recv 211 = 11 from by decide +kernel]) (fun _ => rfl) (fun _ => rfl)
theorem B_X11_allSameNow_13 {k : Nat → Nat × Nat} {u : Nat → Nat → Int} {g : Nat → Nat → Nat} {t : Nat × Nat × Nat} {r0 : Nat} {x1 : Int} {y0 : Int} : a_X 255 13 [a_r (r0), a_i (x1)] [a_i (y0)] (k, u, g, t) = if (k r0).1 = 11 then if ((k (g r0 2)).1 = 20 ∨ (k (g r0 2)).1 = 24) ∧ 0 ≤ (3 : Int) ∧ (3 : Int) < ((k (g r0 2)).2 : Int) then if (y0 : Int) ≠ (u (g r0 2) (3 : Int).toNat : Int) then if (k r0).1 = 11 then (a_m 207 [a_r (r0)] (k, u, g, t)).bind (a_back 255 25 3 [a_r (r0), a_i (x1)] []) else none else some (.inl (some (a_i (x1))), (k, u, g, t)) else none else none := by
  refine (X_aload_n (m := 255) (pc := 13) (n := 0) (by decide +kernel) rfl).trans ?_
  refine (X_getR (m := 255) (pc := 14) (n := 7) (c := 11) (q := 2) (fi := true) (by decide +kernel) (by decide +kernel)).trans ?_
  refine ite_congr rfl (fun _ => ?_) (fun _ => rfl)
  refine (X_iconst (m := 255) (pc := 17) (n := 3) (by decide +kernel) ).trans ?_
  refine (X_iaload (m := 255) (pc := 18)  (by decide +kernel) ).trans ?_
  refine ite_congr rfl (fun _ => ?_) (fun _ => rfl)
  refine (X_ic_ne (m := 255) (pc := 19) (off := 5) (tg := 24) (by decide +kernel) (by decide +kernel)).trans ?_
  refine ite_congr rfl (fun _ => ?_) (fun _ => ?_)
  · refine (X_aload_n (m := 255) (pc := 24) (n := 0) (by decide +kernel) rfl).trans ?_
    refine (X_call_vi (m := 255) (pc := 25) (q := 255) (y := 207) (n := 1) (as := [a_r (r0)]) (rest := []) (by decide +kernel) (by decide +kernel) (by decide +kernel) (by decide +kernel) rfl rfl (Nat.le_of_ble_eq_true rfl) (Nat.le_of_ble_eq_true rfl) rfl (by rw [show m_maxL 207 = 2 from by decide +kernel]; exact Nat.le_of_ble_eq_true rfl)).trans ?_
    exact ite_congr (by simp [a_rcv, show m_recv 207 = 11 from by decide +kernel]) (fun _ => rfl) (fun _ => rfl)
  · refine (X_iload_n (m := 255) (pc := 22) (n := 1) (by decide +kernel) rfl).trans ?_
    exact X_ireturn (m := 255) (pc := 23) (f := 1) (by decide +kernel) (by decide +kernel) rfl
theorem B_X11_allSameNow_28 {k : Nat → Nat × Nat} {u : Nat → Nat → Int} {g : Nat → Nat → Nat} {t : Nat × Nat × Nat} {r0 : Nat} {x1 : Int} : a_X 255 28 [a_r (r0), a_i (x1)] [] (k, u, g, t) = a_X 255 2 [a_r (r0), a_i (wr (x1 + 1))] [] (k, u, g, t) := by
  refine (X_iinc (m := 255) (pc := 28) (n := 1) (c := 1) (by decide +kernel) rfl rfl (Nat.le_of_ble_eq_true rfl) rfl).trans ?_
  refine (X_goto (m := 255) (pc := 31) (off := -29) (tg := 2) (by decide +kernel) (by decide +kernel)).trans ?_
  rfl
theorem E_X11_allSameIn {σ : AS} {r0 : Nat} : a_m 256 [a_r (r0)] σ = a_X 256 0 [a_r (r0)] [] σ := a_m_eq (by rw [a_entry, show m_maxL 256 = 1 from by decide +kernel]; rfl)
theorem B_X11_allSameIn_0 {k : Nat → Nat × Nat} {u : Nat → Nat → Int} {g : Nat → Nat → Nat} {t : Nat × Nat × Nat} {r0 : Nat} : a_X 256 0 [a_r (r0)] [] (k, u, g, t) = if (k r0).1 = 11 then (a_m 158 [a_r (r0)] (k, u, g, t)).bind (a_back 256 1 3 [a_r (r0)] []) else none := by
  refine (X_aload_n (m := 256) (pc := 0) (n := 0) (by decide +kernel) rfl).trans ?_
  refine (X_call_vi (m := 256) (pc := 1) (q := 57) (y := 158) (n := 1) (as := [a_r (r0)]) (rest := []) (by decide +kernel) (by decide +kernel) (by decide +kernel) (by decide +kernel) rfl rfl (Nat.le_of_ble_eq_true rfl) (Nat.le_of_ble_eq_true rfl) rfl (by rw [show m_maxL 158 = 1 from by decide +kernel]; exact Nat.le_of_ble_eq_true rfl)).trans ?_
  exact ite_congr (by simp [a_rcv, show m_recv 158 = 11 from by decide +kernel]) (fun _ => rfl) (fun _ => rfl)
theorem B_X11_allSameIn_4 {k : Nat → Nat × Nat} {u : Nat → Nat → Int} {g : Nat → Nat → Nat} {t : Nat × Nat × Nat} {r0 : Nat} {y0 : Int} : a_X 256 4 [a_r (r0)] [a_i (y0)] (k, u, g, t) = if (y0 : Int) = 0 then if (k r0).1 = 11 then (a_m 251 [a_r (r0)] (k, u, g, t)).bind (a_back 256 10 3 [a_r (r0)] []) else none else some (.inl (some (a_i (0))), (k, u, g, t)) := by
  refine (X_if_eq (m := 256) (pc := 4) (off := 5) (tg := 9) (by decide +kernel) (by decide +kernel)).trans ?_
  refine ite_congr rfl (fun _ => ?_) (fun _ => ?_)
  · refine (X_aload_n (m := 256) (pc := 9) (n := 0) (by decide +kernel) rfl).trans ?_
    refine (X_call_vi (m := 256) (pc := 10) (q := 360) (y := 251) (n := 1) (as := [a_r (r0)]) (rest := []) (by decide +kernel) (by decide +kernel) (by decide +kernel) (by decide +kernel) rfl rfl (Nat.le_of_ble_eq_true rfl) (Nat.le_of_ble_eq_true rfl) rfl (by rw [show m_maxL 251 = 1 from by decide +kernel]; exact Nat.le_of_ble_eq_true rfl)).trans ?_
    exact ite_congr (by simp [a_rcv, show m_recv 251 = 11 from by decide +kernel]) (fun _ => rfl) (fun _ => rfl)
  · refine (X_iconst (m := 256) (pc := 7) (n := 0) (by decide +kernel) ).trans ?_
    exact X_ireturn (m := 256) (pc := 8) (f := 1) (by decide +kernel) (by decide +kernel) rfl
theorem B_X11_allSameIn_13 {k : Nat → Nat × Nat} {u : Nat → Nat → Int} {g : Nat → Nat → Nat} {t : Nat × Nat × Nat} {r0 : Nat} : a_X 256 13 [a_r (r0)] [] (k, u, g, t) = if (k r0).1 = 11 then (a_m 255 [a_r (r0)] (k, u, g, t)).bind (a_back 256 15 3 [a_r (r0)] [a_r (r0)]) else none := by
  refine (X_aload_n (m := 256) (pc := 13) (n := 0) (by decide +kernel) rfl).trans ?_
  refine (X_aload_n (m := 256) (pc := 14) (n := 0) (by decide +kernel) rfl).trans ?_
  refine (X_call_vi (m := 256) (pc := 15) (q := 373) (y := 255) (n := 1) (as := [a_r (r0)]) (rest := [a_r (r0)]) (by decide +kernel) (by decide +kernel) (by decide +kernel) (by decide +kernel) rfl rfl (Nat.le_of_ble_eq_true rfl) (Nat.le_of_ble_eq_true rfl) rfl (by rw [show m_maxL 255 = 2 from by decide +kernel]; exact Nat.le_of_ble_eq_true rfl)).trans ?_
  exact ite_congr (by simp [a_rcv, show m_recv 255 = 11 from by decide +kernel]) (fun _ => rfl) (fun _ => rfl)
theorem B_X11_allSameIn_18 {k : Nat → Nat × Nat} {u : Nat → Nat → Int} {g : Nat → Nat → Nat} {t : Nat × Nat × Nat} {r0 : Nat} {q0 : Nat} {y1 : Int} : a_X 256 18 [a_r (r0)] [a_i (y1), a_r (q0)] (k, u, g, t) = if (k q0).1 = 11 then (a_m 252 [a_r (q0), a_i (y1)] (k, u, g, t)).bind (a_back 256 18 3 [a_r (r0)] []) else none := by
  refine (X_call_vi (m := 256) (pc := 18) (q := 366) (y := 252) (n := 2) (as := [a_r (q0), a_i (y1)]) (rest := []) (by decide +kernel) (by decide +kernel) (by decide +kernel) (by decide +kernel) rfl rfl (Nat.le_of_ble_eq_true rfl) (Nat.le_of_ble_eq_true rfl) rfl (by rw [show m_maxL 252 = 2 from by decide +kernel]; exact Nat.le_of_ble_eq_true rfl)).trans ?_
  exact ite_congr (by simp [a_rcv, show m_recv 252 = 11 from by decide +kernel]) (fun _ => rfl) (fun _ => rfl)
theorem B_X11_allSameIn_21 {k : Nat → Nat × Nat} {u : Nat → Nat → Int} {g : Nat → Nat → Nat} {t : Nat × Nat × Nat} {r0 : Nat} {y0 : Int} : a_X 256 21 [a_r (r0)] [a_i (y0)] (k, u, g, t) = some (.inl (some (a_i (y0))), (k, u, g, t)) := by
  exact X_ireturn (m := 256) (pc := 21) (f := 1) (by decide +kernel) (by decide +kernel) rfl
theorem E_X11_heardNow {σ : AS} {r0 : Nat} {x1 : Int} {x2 : Int} : a_m 257 [a_r (r0), a_i (x1), a_i (x2)] σ = a_X 257 0 [a_r (r0), a_i (x1), a_i (x2), a_x false] [] σ := a_m_eq (by rw [a_entry, show m_maxL 257 = 4 from by decide +kernel]; rfl)
theorem B_X11_heardNow_0 {k : Nat → Nat × Nat} {u : Nat → Nat → Int} {g : Nat → Nat → Nat} {t : Nat × Nat × Nat} {r0 : Nat} {x1 : Int} {x2 : Int} {v3 : AV} : a_X 257 0 [a_r (r0), a_i (x1), a_i (x2), v3] [] (k, u, g, t) = a_X 257 2 [a_r (r0), a_i (x1), a_i (x2), a_i (0)] [] (k, u, g, t) := by
  refine (X_iconst (m := 257) (pc := 0) (n := 0) (by decide +kernel) ).trans ?_
  refine (X_istore_n (m := 257) (pc := 1) (n := 3) (by decide +kernel) rfl (Nat.le_of_ble_eq_true rfl) rfl).trans ?_
  rfl
theorem B_X11_heardNow_2 {k : Nat → Nat × Nat} {u : Nat → Nat → Int} {g : Nat → Nat → Nat} {t : Nat × Nat × Nat} {r0 : Nat} {x1 : Int} {x2 : Int} {x3 : Int} : a_X 257 2 [a_r (r0), a_i (x1), a_i (x2), a_i (x3)] [] (k, u, g, t) = if (x3 : Int) > (200 : Int) then some (.inl (some (a_i (-1))), (k, u, g, t)) else if (k r0).1 = 11 then (a_m 172 [a_r (r0), a_i (x1), a_i (x2)] (k, u, g, t)).bind (a_back 257 12 3 [a_r (r0), a_i (x1), a_i (x2), a_i (x3)] []) else none := by
  refine (X_iload_n (m := 257) (pc := 2) (n := 3) (by decide +kernel) rfl).trans ?_
  refine (X_sipush (m := 257) (pc := 3) (n := 200) (by decide +kernel) ).trans ?_
  refine (X_ic_gt (m := 257) (pc := 6) (off := 24) (tg := 30) (by decide +kernel) (by decide +kernel)).trans ?_
  refine ite_congr rfl (fun _ => ?_) (fun _ => ?_)
  · refine (X_iconst (m := 257) (pc := 30) (n := -1) (by decide +kernel) ).trans ?_
    exact X_ireturn (m := 257) (pc := 31) (f := 1) (by decide +kernel) (by decide +kernel) rfl
  · refine (X_aload_n (m := 257) (pc := 9) (n := 0) (by decide +kernel) rfl).trans ?_
    refine (X_iload_n (m := 257) (pc := 10) (n := 1) (by decide +kernel) rfl).trans ?_
    refine (X_iload_n (m := 257) (pc := 11) (n := 2) (by decide +kernel) rfl).trans ?_
    refine (X_call_vi (m := 257) (pc := 12) (q := 293) (y := 172) (n := 3) (as := [a_r (r0), a_i (x1), a_i (x2)]) (rest := []) (by decide +kernel) (by decide +kernel) (by decide +kernel) (by decide +kernel) rfl rfl (Nat.le_of_ble_eq_true rfl) (Nat.le_of_ble_eq_true rfl) rfl (by rw [show m_maxL 172 = 3 from by decide +kernel]; exact Nat.le_of_ble_eq_true rfl)).trans ?_
    exact ite_congr (by simp [a_rcv, show m_recv 172 = 11 from by decide +kernel]) (fun _ => rfl) (fun _ => rfl)
theorem B_X11_heardNow_15 {k : Nat → Nat × Nat} {u : Nat → Nat → Int} {g : Nat → Nat → Nat} {t : Nat × Nat × Nat} {r0 : Nat} {x1 : Int} {x2 : Int} {x3 : Int} {y0 : Int} : a_X 257 15 [a_r (r0), a_i (x1), a_i (x2), a_i (x3)] [a_i (y0)] (k, u, g, t) = if (y0 : Int) = 0 then if (k r0).1 = 11 then (a_m 207 [a_r (r0)] (k, u, g, t)).bind (a_back 257 21 3 [a_r (r0), a_i (x1), a_i (x2), a_i (x3)] []) else none else some (.inl (some (a_i (x3))), (k, u, g, t)) := by
  refine (X_if_eq (m := 257) (pc := 15) (off := 5) (tg := 20) (by decide +kernel) (by decide +kernel)).trans ?_
  refine ite_congr rfl (fun _ => ?_) (fun _ => ?_)
  · refine (X_aload_n (m := 257) (pc := 20) (n := 0) (by decide +kernel) rfl).trans ?_
    refine (X_call_vi (m := 257) (pc := 21) (q := 255) (y := 207) (n := 1) (as := [a_r (r0)]) (rest := []) (by decide +kernel) (by decide +kernel) (by decide +kernel) (by decide +kernel) rfl rfl (Nat.le_of_ble_eq_true rfl) (Nat.le_of_ble_eq_true rfl) rfl (by rw [show m_maxL 207 = 2 from by decide +kernel]; exact Nat.le_of_ble_eq_true rfl)).trans ?_
    exact ite_congr (by simp [a_rcv, show m_recv 207 = 11 from by decide +kernel]) (fun _ => rfl) (fun _ => rfl)
  · refine (X_iload_n (m := 257) (pc := 18) (n := 3) (by decide +kernel) rfl).trans ?_
    exact X_ireturn (m := 257) (pc := 19) (f := 1) (by decide +kernel) (by decide +kernel) rfl
theorem B_X11_heardNow_24 {k : Nat → Nat × Nat} {u : Nat → Nat → Int} {g : Nat → Nat → Nat} {t : Nat × Nat × Nat} {r0 : Nat} {x1 : Int} {x2 : Int} {x3 : Int} : a_X 257 24 [a_r (r0), a_i (x1), a_i (x2), a_i (x3)] [] (k, u, g, t) = a_X 257 2 [a_r (r0), a_i (x1), a_i (x2), a_i (wr (x3 + 1))] [] (k, u, g, t) := by
  refine (X_iinc (m := 257) (pc := 24) (n := 3) (c := 1) (by decide +kernel) rfl rfl (Nat.le_of_ble_eq_true rfl) rfl).trans ?_
  refine (X_goto (m := 257) (pc := 27) (off := -25) (tg := 2) (by decide +kernel) (by decide +kernel)).trans ?_
  rfl
theorem E_X11_heardIn {σ : AS} {r0 : Nat} {x1 : Int} {x2 : Int} : a_m 258 [a_r (r0), a_i (x1), a_i (x2)] σ = a_X 258 0 [a_r (r0), a_i (x1), a_i (x2)] [] σ := a_m_eq (by rw [a_entry, show m_maxL 258 = 3 from by decide +kernel]; rfl)
theorem B_X11_heardIn_0 {k : Nat → Nat × Nat} {u : Nat → Nat → Int} {g : Nat → Nat → Nat} {t : Nat × Nat × Nat} {r0 : Nat} {x1 : Int} {x2 : Int} : a_X 258 0 [a_r (r0), a_i (x1), a_i (x2)] [] (k, u, g, t) = if (k r0).1 = 11 then (a_m 159 [a_r (r0), a_i (x1)] (k, u, g, t)).bind (a_back 258 2 3 [a_r (r0), a_i (x1), a_i (x2)] []) else none := by
  refine (X_aload_n (m := 258) (pc := 0) (n := 0) (by decide +kernel) rfl).trans ?_
  refine (X_iload_n (m := 258) (pc := 1) (n := 1) (by decide +kernel) rfl).trans ?_
  refine (X_call_vi (m := 258) (pc := 2) (q := 345) (y := 159) (n := 2) (as := [a_r (r0), a_i (x1)]) (rest := []) (by decide +kernel) (by decide +kernel) (by decide +kernel) (by decide +kernel) rfl rfl (Nat.le_of_ble_eq_true rfl) (Nat.le_of_ble_eq_true rfl) rfl (by rw [show m_maxL 159 = 2 from by decide +kernel]; exact Nat.le_of_ble_eq_true rfl)).trans ?_
  exact ite_congr (by simp [a_rcv, show m_recv 159 = 11 from by decide +kernel]) (fun _ => rfl) (fun _ => rfl)
theorem B_X11_heardIn_5 {k : Nat → Nat × Nat} {u : Nat → Nat → Int} {g : Nat → Nat → Nat} {t : Nat × Nat × Nat} {r0 : Nat} {x1 : Int} {x2 : Int} {y0 : Int} : a_X 258 5 [a_r (r0), a_i (x1), a_i (x2)] [a_i (y0)] (k, u, g, t) = if (y0 : Int) = 0 then if (k r0).1 = 11 then (a_m 251 [a_r (r0)] (k, u, g, t)).bind (a_back 258 11 3 [a_r (r0), a_i (x1), a_i (x2)] []) else none else some (.inl (some (a_i (0))), (k, u, g, t)) := by
  refine (X_if_eq (m := 258) (pc := 5) (off := 5) (tg := 10) (by decide +kernel) (by decide +kernel)).trans ?_
  refine ite_congr rfl (fun _ => ?_) (fun _ => ?_)
  · refine (X_aload_n (m := 258) (pc := 10) (n := 0) (by decide +kernel) rfl).trans ?_
    refine (X_call_vi (m := 258) (pc := 11) (q := 360) (y := 251) (n := 1) (as := [a_r (r0)]) (rest := []) (by decide +kernel) (by decide +kernel) (by decide +kernel) (by decide +kernel) rfl rfl (Nat.le_of_ble_eq_true rfl) (Nat.le_of_ble_eq_true rfl) rfl (by rw [show m_maxL 251 = 1 from by decide +kernel]; exact Nat.le_of_ble_eq_true rfl)).trans ?_
    exact ite_congr (by simp [a_rcv, show m_recv 251 = 11 from by decide +kernel]) (fun _ => rfl) (fun _ => rfl)
  · refine (X_iconst (m := 258) (pc := 8) (n := 0) (by decide +kernel) ).trans ?_
    exact X_ireturn (m := 258) (pc := 9) (f := 1) (by decide +kernel) (by decide +kernel) rfl
theorem B_X11_heardIn_14 {k : Nat → Nat × Nat} {u : Nat → Nat → Int} {g : Nat → Nat → Nat} {t : Nat × Nat × Nat} {r0 : Nat} {x1 : Int} {x2 : Int} : a_X 258 14 [a_r (r0), a_i (x1), a_i (x2)] [] (k, u, g, t) = if (k r0).1 = 11 then (a_m 257 [a_r (r0), a_i (x1), a_i (x2)] (k, u, g, t)).bind (a_back 258 18 3 [a_r (r0), a_i (x1), a_i (x2)] [a_r (r0)]) else none := by
  refine (X_aload_n (m := 258) (pc := 14) (n := 0) (by decide +kernel) rfl).trans ?_
  refine (X_aload_n (m := 258) (pc := 15) (n := 0) (by decide +kernel) rfl).trans ?_
  refine (X_iload_n (m := 258) (pc := 16) (n := 1) (by decide +kernel) rfl).trans ?_
  refine (X_iload_n (m := 258) (pc := 17) (n := 2) (by decide +kernel) rfl).trans ?_
  refine (X_call_vi (m := 258) (pc := 18) (q := 376) (y := 257) (n := 3) (as := [a_r (r0), a_i (x1), a_i (x2)]) (rest := [a_r (r0)]) (by decide +kernel) (by decide +kernel) (by decide +kernel) (by decide +kernel) rfl rfl (Nat.le_of_ble_eq_true rfl) (Nat.le_of_ble_eq_true rfl) rfl (by rw [show m_maxL 257 = 4 from by decide +kernel]; exact Nat.le_of_ble_eq_true rfl)).trans ?_
  exact ite_congr (by simp [a_rcv, show m_recv 257 = 11 from by decide +kernel]) (fun _ => rfl) (fun _ => rfl)
theorem B_X11_heardIn_21 {k : Nat → Nat × Nat} {u : Nat → Nat → Int} {g : Nat → Nat → Nat} {t : Nat × Nat × Nat} {r0 : Nat} {x1 : Int} {x2 : Int} {q0 : Nat} {y1 : Int} : a_X 258 21 [a_r (r0), a_i (x1), a_i (x2)] [a_i (y1), a_r (q0)] (k, u, g, t) = if (k q0).1 = 11 then (a_m 252 [a_r (q0), a_i (y1)] (k, u, g, t)).bind (a_back 258 21 3 [a_r (r0), a_i (x1), a_i (x2)] []) else none := by
  refine (X_call_vi (m := 258) (pc := 21) (q := 366) (y := 252) (n := 2) (as := [a_r (q0), a_i (y1)]) (rest := []) (by decide +kernel) (by decide +kernel) (by decide +kernel) (by decide +kernel) rfl rfl (Nat.le_of_ble_eq_true rfl) (Nat.le_of_ble_eq_true rfl) rfl (by rw [show m_maxL 252 = 2 from by decide +kernel]; exact Nat.le_of_ble_eq_true rfl)).trans ?_
  exact ite_congr (by simp [a_rcv, show m_recv 252 = 11 from by decide +kernel]) (fun _ => rfl) (fun _ => rfl)
theorem B_X11_heardIn_24 {k : Nat → Nat × Nat} {u : Nat → Nat → Int} {g : Nat → Nat → Nat} {t : Nat × Nat × Nat} {r0 : Nat} {x1 : Int} {x2 : Int} {y0 : Int} : a_X 258 24 [a_r (r0), a_i (x1), a_i (x2)] [a_i (y0)] (k, u, g, t) = some (.inl (some (a_i (y0))), (k, u, g, t)) := by
  exact X_ireturn (m := 258) (pc := 24) (f := 1) (by decide +kernel) (by decide +kernel) rfl
theorem E_X11_noTicks {σ : AS} {r0 : Nat} {x1 : Int} {x2 : Int} : a_m 259 [a_r (r0), a_i (x1), a_i (x2)] σ = a_X 259 0 [a_r (r0), a_i (x1), a_i (x2)] [] σ := a_m_eq (by rw [a_entry, show m_maxL 259 = 3 from by decide +kernel]; rfl)
theorem B_X11_noTicks_0 {k : Nat → Nat × Nat} {u : Nat → Nat → Int} {g : Nat → Nat → Nat} {t : Nat × Nat × Nat} {r0 : Nat} {x1 : Int} {x2 : Int} : a_X 259 0 [a_r (r0), a_i (x1), a_i (x2)] [] (k, u, g, t) = if (k r0).1 = 11 then (a_m 159 [a_r (r0), a_i (x1)] (k, u, g, t)).bind (a_back 259 2 3 [a_r (r0), a_i (x1), a_i (x2)] []) else none := by
  refine (X_aload_n (m := 259) (pc := 0) (n := 0) (by decide +kernel) rfl).trans ?_
  refine (X_iload_n (m := 259) (pc := 1) (n := 1) (by decide +kernel) rfl).trans ?_
  refine (X_call_vi (m := 259) (pc := 2) (q := 345) (y := 159) (n := 2) (as := [a_r (r0), a_i (x1)]) (rest := []) (by decide +kernel) (by decide +kernel) (by decide +kernel) (by decide +kernel) rfl rfl (Nat.le_of_ble_eq_true rfl) (Nat.le_of_ble_eq_true rfl) rfl (by rw [show m_maxL 159 = 2 from by decide +kernel]; exact Nat.le_of_ble_eq_true rfl)).trans ?_
  exact ite_congr (by simp [a_rcv, show m_recv 159 = 11 from by decide +kernel]) (fun _ => rfl) (fun _ => rfl)
theorem B_X11_noTicks_5 {k : Nat → Nat × Nat} {u : Nat → Nat → Int} {g : Nat → Nat → Nat} {t : Nat × Nat × Nat} {r0 : Nat} {x1 : Int} {x2 : Int} {y0 : Int} : a_X 259 5 [a_r (r0), a_i (x1), a_i (x2)] [a_i (y0)] (k, u, g, t) = if (y0 : Int) ≠ 0 then some (.inl (some (a_i (1))), (k, u, g, t)) else (a_m 155 [a_l (x2), a_l (0), a_l (200)] (k, u, g, t)).bind (a_back 259 15 3 [a_r (r0), a_i (x1), a_i (x2)] [a_r (r0)]) := by
  refine (X_if_ne (m := 259) (pc := 5) (off := 28) (tg := 33) (by decide +kernel) (by decide +kernel)).trans ?_
  refine ite_congr rfl (fun _ => ?_) (fun _ => ?_)
  · refine (X_iconst (m := 259) (pc := 33) (n := 1) (by decide +kernel) ).trans ?_
    refine (X_goto (m := 259) (pc := 34) (off := 4) (tg := 38) (by decide +kernel) (by decide +kernel)).trans ?_
    exact X_ireturn (m := 259) (pc := 38) (f := 2) (by decide +kernel) (by decide +kernel) rfl
  · refine (X_aload_n (m := 259) (pc := 8) (n := 0) (by decide +kernel) rfl).trans ?_
    refine (X_iload_n (m := 259) (pc := 9) (n := 2) (by decide +kernel) rfl).trans ?_
    refine (X_i2l (m := 259) (pc := 10)  (by decide +kernel) ).trans ?_
    refine (X_lconst (m := 259) (pc := 11) (n := 0) (by decide +kernel) ).trans ?_
    refine (X_ldc2 (m := 259) (pc := 12) (n := 379) (z := 200) (by decide +kernel) (by decide +kernel)).trans ?_
    refine (X_call_st (m := 259) (pc := 15) (q := 61) (y := 155) (n := 3) (as := [a_l (x2), a_l (0), a_l (200)]) (rest := [a_r (r0)]) (by decide +kernel) (by decide +kernel) (by decide +kernel) (by decide +kernel) rfl rfl (Nat.le_of_ble_eq_true rfl) (Nat.le_of_ble_eq_true rfl) rfl (by rw [show m_maxL 155 = 6 from by decide +kernel]; exact Nat.le_of_ble_eq_true rfl)).trans ?_
    exact if_pos rfl
theorem B_X11_noTicks_18 {k : Nat → Nat × Nat} {u : Nat → Nat → Int} {g : Nat → Nat → Nat} {t : Nat × Nat × Nat} {r0 : Nat} {x1 : Int} {x2 : Int} {q0 : Nat} {y1 : Int} : a_X 259 18 [a_r (r0), a_i (x1), a_i (x2)] [a_i (y1), a_r (q0)] (k, u, g, t) = if (y1 : Int) ≠ 0 then if (k q0).1 = 11 then (a_m 157 [a_r (q0), a_i (0), a_i (3)] (k, u, g, t)).bind (a_back 259 27 3 [a_r (r0), a_i (x1), a_i (x2)] []) else none else if (k q0).1 = 11 then (a_m 157 [a_r (q0), a_i (1), a_i (3)] (k, u, g, t)).bind (a_back 259 27 3 [a_r (r0), a_i (x1), a_i (x2)] []) else none := by
  refine (X_if_ne (m := 259) (pc := 18) (off := 7) (tg := 25) (by decide +kernel) (by decide +kernel)).trans ?_
  refine ite_congr rfl (fun _ => ?_) (fun _ => ?_)
  · refine (X_iconst (m := 259) (pc := 25) (n := 0) (by decide +kernel) ).trans ?_
    refine (X_iconst (m := 259) (pc := 26) (n := 3) (by decide +kernel) ).trans ?_
    refine (X_call_vi (m := 259) (pc := 27) (q := 53) (y := 157) (n := 3) (as := [a_r (q0), a_i (0), a_i (3)]) (rest := []) (by decide +kernel) (by decide +kernel) (by decide +kernel) (by decide +kernel) rfl rfl (Nat.le_of_ble_eq_true rfl) (Nat.le_of_ble_eq_true rfl) rfl (by rw [show m_maxL 157 = 3 from by decide +kernel]; exact Nat.le_of_ble_eq_true rfl)).trans ?_
    exact ite_congr (by simp [a_rcv, show m_recv 157 = 11 from by decide +kernel]) (fun _ => rfl) (fun _ => rfl)
  · refine (X_iconst (m := 259) (pc := 21) (n := 1) (by decide +kernel) ).trans ?_
    refine (X_goto (m := 259) (pc := 22) (off := 4) (tg := 26) (by decide +kernel) (by decide +kernel)).trans ?_
    refine (X_iconst (m := 259) (pc := 26) (n := 3) (by decide +kernel) ).trans ?_
    refine (X_call_vi (m := 259) (pc := 27) (q := 53) (y := 157) (n := 3) (as := [a_r (q0), a_i (1), a_i (3)]) (rest := []) (by decide +kernel) (by decide +kernel) (by decide +kernel) (by decide +kernel) rfl rfl (Nat.le_of_ble_eq_true rfl) (Nat.le_of_ble_eq_true rfl) rfl (by rw [show m_maxL 157 = 3 from by decide +kernel]; exact Nat.le_of_ble_eq_true rfl)).trans ?_
    exact ite_congr (by simp [a_rcv, show m_recv 157 = 11 from by decide +kernel]) (fun _ => rfl) (fun _ => rfl)
theorem B_X11_noTicks_30 {k : Nat → Nat × Nat} {u : Nat → Nat → Int} {g : Nat → Nat → Nat} {t : Nat × Nat × Nat} {r0 : Nat} {x1 : Int} {x2 : Int} {y0 : Int} : a_X 259 30 [a_r (r0), a_i (x1), a_i (x2)] [a_i (y0)] (k, u, g, t) = if (y0 : Int) = 0 then some (.inl (some (a_i (0))), (k, u, g, t)) else some (.inl (some (a_i (1))), (k, u, g, t)) := by
  refine (X_if_eq (m := 259) (pc := 30) (off := 7) (tg := 37) (by decide +kernel) (by decide +kernel)).trans ?_
  refine ite_congr rfl (fun _ => ?_) (fun _ => ?_)
  · refine (X_iconst (m := 259) (pc := 37) (n := 0) (by decide +kernel) ).trans ?_
    exact X_ireturn (m := 259) (pc := 38) (f := 2) (by decide +kernel) (by decide +kernel) rfl
  · refine (X_iconst (m := 259) (pc := 33) (n := 1) (by decide +kernel) ).trans ?_
    refine (X_goto (m := 259) (pc := 34) (off := 4) (tg := 38) (by decide +kernel) (by decide +kernel)).trans ?_
    exact X_ireturn (m := 259) (pc := 38) (f := 2) (by decide +kernel) (by decide +kernel) rfl
theorem E_X11_missingIn {σ : AS} {r0 : Nat} {x1 : Int} {x2 : Int} : a_m 260 [a_r (r0), a_i (x1), a_i (x2)] σ = a_X 260 0 [a_r (r0), a_i (x1), a_i (x2)] [] σ := a_m_eq (by rw [a_entry, show m_maxL 260 = 3 from by decide +kernel]; rfl)
theorem B_X11_missingIn_0 {k : Nat → Nat × Nat} {u : Nat → Nat → Int} {g : Nat → Nat → Nat} {t : Nat × Nat × Nat} {r0 : Nat} {x1 : Int} {x2 : Int} : a_X 260 0 [a_r (r0), a_i (x1), a_i (x2)] [] (k, u, g, t) = if (k r0).1 = 11 then (a_m 259 [a_r (r0), a_i (x1), a_i (x2)] (k, u, g, t)).bind (a_back 260 3 3 [a_r (r0), a_i (x1), a_i (x2)] []) else none := by
  refine (X_aload_n (m := 260) (pc := 0) (n := 0) (by decide +kernel) rfl).trans ?_
  refine (X_iload_n (m := 260) (pc := 1) (n := 1) (by decide +kernel) rfl).trans ?_
  refine (X_iload_n (m := 260) (pc := 2) (n := 2) (by decide +kernel) rfl).trans ?_
  refine (X_call_vi (m := 260) (pc := 3) (q := 381) (y := 259) (n := 3) (as := [a_r (r0), a_i (x1), a_i (x2)]) (rest := []) (by decide +kernel) (by decide +kernel) (by decide +kernel) (by decide +kernel) rfl rfl (Nat.le_of_ble_eq_true rfl) (Nat.le_of_ble_eq_true rfl) rfl (by rw [show m_maxL 259 = 3 from by decide +kernel]; exact Nat.le_of_ble_eq_true rfl)).trans ?_
  exact ite_congr (by simp [a_rcv, show m_recv 259 = 11 from by decide +kernel]) (fun _ => rfl) (fun _ => rfl)
theorem B_X11_missingIn_6 {k : Nat → Nat × Nat} {u : Nat → Nat → Int} {g : Nat → Nat → Nat} {t : Nat × Nat × Nat} {r0 : Nat} {x1 : Int} {x2 : Int} {y0 : Int} : a_X 260 6 [a_r (r0), a_i (x1), a_i (x2)] [a_i (y0)] (k, u, g, t) = if (y0 : Int) = 0 then if (k r0).1 = 11 then (a_m 251 [a_r (r0)] (k, u, g, t)).bind (a_back 260 12 3 [a_r (r0), a_i (x1), a_i (x2)] []) else none else some (.inl (some (a_i (0))), (k, u, g, t)) := by
  refine (X_if_eq (m := 260) (pc := 6) (off := 5) (tg := 11) (by decide +kernel) (by decide +kernel)).trans ?_
  refine ite_congr rfl (fun _ => ?_) (fun _ => ?_)
  · refine (X_aload_n (m := 260) (pc := 11) (n := 0) (by decide +kernel) rfl).trans ?_
    refine (X_call_vi (m := 260) (pc := 12) (q := 360) (y := 251) (n := 1) (as := [a_r (r0)]) (rest := []) (by decide +kernel) (by decide +kernel) (by decide +kernel) (by decide +kernel) rfl rfl (Nat.le_of_ble_eq_true rfl) (Nat.le_of_ble_eq_true rfl) rfl (by rw [show m_maxL 251 = 1 from by decide +kernel]; exact Nat.le_of_ble_eq_true rfl)).trans ?_
    exact ite_congr (by simp [a_rcv, show m_recv 251 = 11 from by decide +kernel]) (fun _ => rfl) (fun _ => rfl)
  · refine (X_iconst (m := 260) (pc := 9) (n := 0) (by decide +kernel) ).trans ?_
    exact X_ireturn (m := 260) (pc := 10) (f := 1) (by decide +kernel) (by decide +kernel) rfl
theorem B_X11_missingIn_15 {k : Nat → Nat × Nat} {u : Nat → Nat → Int} {g : Nat → Nat → Nat} {t : Nat × Nat × Nat} {r0 : Nat} {x1 : Int} {x2 : Int} : a_X 260 15 [a_r (r0), a_i (x1), a_i (x2)] [] (k, u, g, t) = if (k r0).1 = 11 then (a_m 208 [a_r (r0), a_i (x2)] (k, u, g, t)).bind (a_back 260 17 3 [a_r (r0), a_i (x1), a_i (x2)] []) else none := by
  refine (X_aload_n (m := 260) (pc := 15) (n := 0) (by decide +kernel) rfl).trans ?_
  refine (X_iload_n (m := 260) (pc := 16) (n := 2) (by decide +kernel) rfl).trans ?_
  refine (X_call_vi (m := 260) (pc := 17) (q := 384) (y := 208) (n := 2) (as := [a_r (r0), a_i (x2)]) (rest := []) (by decide +kernel) (by decide +kernel) (by decide +kernel) (by decide +kernel) rfl rfl (Nat.le_of_ble_eq_true rfl) (Nat.le_of_ble_eq_true rfl) rfl (by rw [show m_maxL 208 = 3 from by decide +kernel]; exact Nat.le_of_ble_eq_true rfl)).trans ?_
  exact ite_congr (by simp [a_rcv, show m_recv 208 = 11 from by decide +kernel]) (fun _ => rfl) (fun _ => rfl)
theorem B_X11_missingIn_20 {k : Nat → Nat × Nat} {u : Nat → Nat → Int} {g : Nat → Nat → Nat} {t : Nat × Nat × Nat} {r0 : Nat} {x1 : Int} {x2 : Int} : a_X 260 20 [a_r (r0), a_i (x1), a_i (x2)] [] (k, u, g, t) = if (k r0).1 = 11 then (a_m 237 [a_r (r0), a_i (x1)] (k, u, g, t)).bind (a_back 260 23 3 [a_r (r0), a_i (x1), a_i (x2)] [a_r (r0)]) else none := by
  refine (X_aload_n (m := 260) (pc := 20) (n := 0) (by decide +kernel) rfl).trans ?_
  refine (X_aload_n (m := 260) (pc := 21) (n := 0) (by decide +kernel) rfl).trans ?_
  refine (X_iload_n (m := 260) (pc := 22) (n := 1) (by decide +kernel) rfl).trans ?_
  refine (X_call_vi (m := 260) (pc := 23) (q := 351) (y := 237) (n := 2) (as := [a_r (r0), a_i (x1)]) (rest := [a_r (r0)]) (by decide +kernel) (by decide +kernel) (by decide +kernel) (by decide +kernel) rfl rfl (Nat.le_of_ble_eq_true rfl) (Nat.le_of_ble_eq_true rfl) rfl (by rw [show m_maxL 237 = 4 from by decide +kernel]; exact Nat.le_of_ble_eq_true rfl)).trans ?_
  exact ite_congr (by simp [a_rcv, show m_recv 237 = 11 from by decide +kernel]) (fun _ => rfl) (fun _ => rfl)
theorem B_X11_missingIn_26 {k : Nat → Nat × Nat} {u : Nat → Nat → Int} {g : Nat → Nat → Nat} {t : Nat × Nat × Nat} {r0 : Nat} {x1 : Int} {x2 : Int} {q0 : Nat} {y1 : Int} : a_X 260 26 [a_r (r0), a_i (x1), a_i (x2)] [a_i (y1), a_r (q0)] (k, u, g, t) = if (k q0).1 = 11 then (a_m 252 [a_r (q0), a_i (y1)] (k, u, g, t)).bind (a_back 260 26 3 [a_r (r0), a_i (x1), a_i (x2)] []) else none := by
  refine (X_call_vi (m := 260) (pc := 26) (q := 366) (y := 252) (n := 2) (as := [a_r (q0), a_i (y1)]) (rest := []) (by decide +kernel) (by decide +kernel) (by decide +kernel) (by decide +kernel) rfl rfl (Nat.le_of_ble_eq_true rfl) (Nat.le_of_ble_eq_true rfl) rfl (by rw [show m_maxL 252 = 2 from by decide +kernel]; exact Nat.le_of_ble_eq_true rfl)).trans ?_
  exact ite_congr (by simp [a_rcv, show m_recv 252 = 11 from by decide +kernel]) (fun _ => rfl) (fun _ => rfl)
theorem B_X11_missingIn_29 {k : Nat → Nat × Nat} {u : Nat → Nat → Int} {g : Nat → Nat → Nat} {t : Nat × Nat × Nat} {r0 : Nat} {x1 : Int} {x2 : Int} {y0 : Int} : a_X 260 29 [a_r (r0), a_i (x1), a_i (x2)] [a_i (y0)] (k, u, g, t) = some (.inl (some (a_i (y0))), (k, u, g, t)) := by
  exact X_ireturn (m := 260) (pc := 29) (f := 1) (by decide +kernel) (by decide +kernel) rfl
theorem E_X11_wrongIn {σ : AS} {r0 : Nat} {x1 : Int} {x2 : Int} : a_m 261 [a_r (r0), a_i (x1), a_i (x2)] σ = a_X 261 0 [a_r (r0), a_i (x1), a_i (x2)] [] σ := a_m_eq (by rw [a_entry, show m_maxL 261 = 3 from by decide +kernel]; rfl)
theorem B_X11_wrongIn_0 {k : Nat → Nat × Nat} {u : Nat → Nat → Int} {g : Nat → Nat → Nat} {t : Nat × Nat × Nat} {r0 : Nat} {x1 : Int} {x2 : Int} : a_X 261 0 [a_r (r0), a_i (x1), a_i (x2)] [] (k, u, g, t) = if (k r0).1 = 11 then (a_m 259 [a_r (r0), a_i (x1), a_i (x2)] (k, u, g, t)).bind (a_back 261 3 3 [a_r (r0), a_i (x1), a_i (x2)] []) else none := by
  refine (X_aload_n (m := 261) (pc := 0) (n := 0) (by decide +kernel) rfl).trans ?_
  refine (X_iload_n (m := 261) (pc := 1) (n := 1) (by decide +kernel) rfl).trans ?_
  refine (X_iload_n (m := 261) (pc := 2) (n := 2) (by decide +kernel) rfl).trans ?_
  refine (X_call_vi (m := 261) (pc := 3) (q := 381) (y := 259) (n := 3) (as := [a_r (r0), a_i (x1), a_i (x2)]) (rest := []) (by decide +kernel) (by decide +kernel) (by decide +kernel) (by decide +kernel) rfl rfl (Nat.le_of_ble_eq_true rfl) (Nat.le_of_ble_eq_true rfl) rfl (by rw [show m_maxL 259 = 3 from by decide +kernel]; exact Nat.le_of_ble_eq_true rfl)).trans ?_
  exact ite_congr (by simp [a_rcv, show m_recv 259 = 11 from by decide +kernel]) (fun _ => rfl) (fun _ => rfl)
theorem B_X11_wrongIn_6 {k : Nat → Nat × Nat} {u : Nat → Nat → Int} {g : Nat → Nat → Nat} {t : Nat × Nat × Nat} {r0 : Nat} {x1 : Int} {x2 : Int} {y0 : Int} : a_X 261 6 [a_r (r0), a_i (x1), a_i (x2)] [a_i (y0)] (k, u, g, t) = if (y0 : Int) = 0 then if (k r0).1 = 11 then (a_m 251 [a_r (r0)] (k, u, g, t)).bind (a_back 261 12 3 [a_r (r0), a_i (x1), a_i (x2)] []) else none else some (.inl (some (a_i (0))), (k, u, g, t)) := by
  refine (X_if_eq (m := 261) (pc := 6) (off := 5) (tg := 11) (by decide +kernel) (by decide +kernel)).trans ?_
  refine ite_congr rfl (fun _ => ?_) (fun _ => ?_)
  · refine (X_aload_n (m := 261) (pc := 11) (n := 0) (by decide +kernel) rfl).trans ?_
    refine (X_call_vi (m := 261) (pc := 12) (q := 360) (y := 251) (n := 1) (as := [a_r (r0)]) (rest := []) (by decide +kernel) (by decide +kernel) (by decide +kernel) (by decide +kernel) rfl rfl (Nat.le_of_ble_eq_true rfl) (Nat.le_of_ble_eq_true rfl) rfl (by rw [show m_maxL 251 = 1 from by decide +kernel]; exact Nat.le_of_ble_eq_true rfl)).trans ?_
    exact ite_congr (by simp [a_rcv, show m_recv 251 = 11 from by decide +kernel]) (fun _ => rfl) (fun _ => rfl)
  · refine (X_iconst (m := 261) (pc := 9) (n := 0) (by decide +kernel) ).trans ?_
    exact X_ireturn (m := 261) (pc := 10) (f := 1) (by decide +kernel) (by decide +kernel) rfl
theorem B_X11_wrongIn_15 {k : Nat → Nat × Nat} {u : Nat → Nat → Int} {g : Nat → Nat → Nat} {t : Nat × Nat × Nat} {r0 : Nat} {x1 : Int} {x2 : Int} : a_X 261 15 [a_r (r0), a_i (x1), a_i (x2)] [] (k, u, g, t) = if (k r0).1 = 11 then (a_m 208 [a_r (r0), a_i (x2)] (k, u, g, t)).bind (a_back 261 17 3 [a_r (r0), a_i (x1), a_i (x2)] []) else none := by
  refine (X_aload_n (m := 261) (pc := 15) (n := 0) (by decide +kernel) rfl).trans ?_
  refine (X_iload_n (m := 261) (pc := 16) (n := 2) (by decide +kernel) rfl).trans ?_
  refine (X_call_vi (m := 261) (pc := 17) (q := 384) (y := 208) (n := 2) (as := [a_r (r0), a_i (x2)]) (rest := []) (by decide +kernel) (by decide +kernel) (by decide +kernel) (by decide +kernel) rfl rfl (Nat.le_of_ble_eq_true rfl) (Nat.le_of_ble_eq_true rfl) rfl (by rw [show m_maxL 208 = 3 from by decide +kernel]; exact Nat.le_of_ble_eq_true rfl)).trans ?_
  exact ite_congr (by simp [a_rcv, show m_recv 208 = 11 from by decide +kernel]) (fun _ => rfl) (fun _ => rfl)
theorem B_X11_wrongIn_20 {k : Nat → Nat × Nat} {u : Nat → Nat → Int} {g : Nat → Nat → Nat} {t : Nat × Nat × Nat} {r0 : Nat} {x1 : Int} {x2 : Int} : a_X 261 20 [a_r (r0), a_i (x1), a_i (x2)] [] (k, u, g, t) = if (k r0).1 = 11 then (a_m 244 [a_r (r0), a_i (x1)] (k, u, g, t)).bind (a_back 261 23 3 [a_r (r0), a_i (x1), a_i (x2)] [a_r (r0)]) else none := by
  refine (X_aload_n (m := 261) (pc := 20) (n := 0) (by decide +kernel) rfl).trans ?_
  refine (X_aload_n (m := 261) (pc := 21) (n := 0) (by decide +kernel) rfl).trans ?_
  refine (X_iload_n (m := 261) (pc := 22) (n := 1) (by decide +kernel) rfl).trans ?_
  refine (X_call_vi (m := 261) (pc := 23) (q := 354) (y := 244) (n := 2) (as := [a_r (r0), a_i (x1)]) (rest := [a_r (r0)]) (by decide +kernel) (by decide +kernel) (by decide +kernel) (by decide +kernel) rfl rfl (Nat.le_of_ble_eq_true rfl) (Nat.le_of_ble_eq_true rfl) rfl (by rw [show m_maxL 244 = 5 from by decide +kernel]; exact Nat.le_of_ble_eq_true rfl)).trans ?_
  exact ite_congr (by simp [a_rcv, show m_recv 244 = 11 from by decide +kernel]) (fun _ => rfl) (fun _ => rfl)
theorem B_X11_wrongIn_26 {k : Nat → Nat × Nat} {u : Nat → Nat → Int} {g : Nat → Nat → Nat} {t : Nat × Nat × Nat} {r0 : Nat} {x1 : Int} {x2 : Int} {q0 : Nat} {y1 : Int} : a_X 261 26 [a_r (r0), a_i (x1), a_i (x2)] [a_i (y1), a_r (q0)] (k, u, g, t) = if (k q0).1 = 11 then (a_m 252 [a_r (q0), a_i (y1)] (k, u, g, t)).bind (a_back 261 26 3 [a_r (r0), a_i (x1), a_i (x2)] []) else none := by
  refine (X_call_vi (m := 261) (pc := 26) (q := 366) (y := 252) (n := 2) (as := [a_r (q0), a_i (y1)]) (rest := []) (by decide +kernel) (by decide +kernel) (by decide +kernel) (by decide +kernel) rfl rfl (Nat.le_of_ble_eq_true rfl) (Nat.le_of_ble_eq_true rfl) rfl (by rw [show m_maxL 252 = 2 from by decide +kernel]; exact Nat.le_of_ble_eq_true rfl)).trans ?_
  exact ite_congr (by simp [a_rcv, show m_recv 252 = 11 from by decide +kernel]) (fun _ => rfl) (fun _ => rfl)
theorem B_X11_wrongIn_29 {k : Nat → Nat × Nat} {u : Nat → Nat → Int} {g : Nat → Nat → Nat} {t : Nat × Nat × Nat} {r0 : Nat} {x1 : Int} {x2 : Int} {y0 : Int} : a_X 261 29 [a_r (r0), a_i (x1), a_i (x2)] [a_i (y0)] (k, u, g, t) = some (.inl (some (a_i (y0))), (k, u, g, t)) := by
  exact X_ireturn (m := 261) (pc := 29) (f := 1) (by decide +kernel) (by decide +kernel) rfl
theorem E_X11_quietNow {σ : AS} {r0 : Nat} : a_m 262 [a_r (r0)] σ = a_X 262 0 [a_r (r0), a_x false] [] σ := a_m_eq (by rw [a_entry, show m_maxL 262 = 2 from by decide +kernel]; rfl)
theorem B_X11_quietNow_0 {k : Nat → Nat × Nat} {u : Nat → Nat → Int} {g : Nat → Nat → Nat} {t : Nat × Nat × Nat} {r0 : Nat} {v1 : AV} : a_X 262 0 [a_r (r0), v1] [] (k, u, g, t) = a_X 262 2 [a_r (r0), a_i (0)] [] (k, u, g, t) := by
  refine (X_iconst (m := 262) (pc := 0) (n := 0) (by decide +kernel) ).trans ?_
  refine (X_istore_n (m := 262) (pc := 1) (n := 1) (by decide +kernel) rfl (Nat.le_of_ble_eq_true rfl) rfl).trans ?_
  rfl
theorem B_X11_quietNow_2 {k : Nat → Nat × Nat} {u : Nat → Nat → Int} {g : Nat → Nat → Nat} {t : Nat × Nat × Nat} {r0 : Nat} {x1 : Int} : a_X 262 2 [a_r (r0), a_i (x1)] [] (k, u, g, t) = if (x1 : Int) > (200 : Int) then some (.inl (some (a_i (-1))), (k, u, g, t)) else if (k r0).1 = 11 then if ((k (g r0 2)).1 = 20 ∨ (k (g r0 2)).1 = 24) ∧ 0 ≤ (4 : Int) ∧ (4 : Int) < ((k (g r0 2)).2 : Int) then if (u (g r0 2) (4 : Int).toNat : Int) ≠ 0 then if (k r0).1 = 11 then (a_m 207 [a_r (r0)] (k, u, g, t)).bind (a_back 262 21 3 [a_r (r0), a_i (x1)] []) else none else some (.inl (some (a_i (x1))), (k, u, g, t)) else none else none := by
  refine (X_iload_n (m := 262) (pc := 2) (n := 1) (by decide +kernel) rfl).trans ?_
  refine (X_sipush (m := 262) (pc := 3) (n := 200) (by decide +kernel) ).trans ?_
  refine (X_ic_gt (m := 262) (pc := 6) (off := 24) (tg := 30) (by decide +kernel) (by decide +kernel)).trans ?_
  refine ite_congr rfl (fun _ => ?_) (fun _ => ?_)
  · refine (X_iconst (m := 262) (pc := 30) (n := -1) (by decide +kernel) ).trans ?_
    exact X_ireturn (m := 262) (pc := 31) (f := 1) (by decide +kernel) (by decide +kernel) rfl
  · refine (X_aload_n (m := 262) (pc := 9) (n := 0) (by decide +kernel) rfl).trans ?_
    refine (X_getR (m := 262) (pc := 10) (n := 7) (c := 11) (q := 2) (fi := true) (by decide +kernel) (by decide +kernel)).trans ?_
    refine ite_congr rfl (fun _ => ?_) (fun _ => rfl)
    refine (X_iconst (m := 262) (pc := 13) (n := 4) (by decide +kernel) ).trans ?_
    refine (X_iaload (m := 262) (pc := 14)  (by decide +kernel) ).trans ?_
    refine ite_congr rfl (fun _ => ?_) (fun _ => rfl)
    refine (X_if_ne (m := 262) (pc := 15) (off := 5) (tg := 20) (by decide +kernel) (by decide +kernel)).trans ?_
    refine ite_congr rfl (fun _ => ?_) (fun _ => ?_)
    · refine (X_aload_n (m := 262) (pc := 20) (n := 0) (by decide +kernel) rfl).trans ?_
      refine (X_call_vi (m := 262) (pc := 21) (q := 255) (y := 207) (n := 1) (as := [a_r (r0)]) (rest := []) (by decide +kernel) (by decide +kernel) (by decide +kernel) (by decide +kernel) rfl rfl (Nat.le_of_ble_eq_true rfl) (Nat.le_of_ble_eq_true rfl) rfl (by rw [show m_maxL 207 = 2 from by decide +kernel]; exact Nat.le_of_ble_eq_true rfl)).trans ?_
      exact ite_congr (by simp [a_rcv, show m_recv 207 = 11 from by decide +kernel]) (fun _ => rfl) (fun _ => rfl)
    · refine (X_iload_n (m := 262) (pc := 18) (n := 1) (by decide +kernel) rfl).trans ?_
      exact X_ireturn (m := 262) (pc := 19) (f := 1) (by decide +kernel) (by decide +kernel) rfl
theorem B_X11_quietNow_24 {k : Nat → Nat × Nat} {u : Nat → Nat → Int} {g : Nat → Nat → Nat} {t : Nat × Nat × Nat} {r0 : Nat} {x1 : Int} : a_X 262 24 [a_r (r0), a_i (x1)] [] (k, u, g, t) = a_X 262 2 [a_r (r0), a_i (wr (x1 + 1))] [] (k, u, g, t) := by
  refine (X_iinc (m := 262) (pc := 24) (n := 1) (c := 1) (by decide +kernel) rfl rfl (Nat.le_of_ble_eq_true rfl) rfl).trans ?_
  refine (X_goto (m := 262) (pc := 27) (off := -25) (tg := 2) (by decide +kernel) (by decide +kernel)).trans ?_
  rfl
theorem E_X11_quietIn {σ : AS} {r0 : Nat} : a_m 263 [a_r (r0)] σ = a_X 263 0 [a_r (r0)] [] σ := a_m_eq (by rw [a_entry, show m_maxL 263 = 1 from by decide +kernel]; rfl)
theorem B_X11_quietIn_0 {k : Nat → Nat × Nat} {u : Nat → Nat → Int} {g : Nat → Nat → Nat} {t : Nat × Nat × Nat} {r0 : Nat} : a_X 263 0 [a_r (r0)] [] (k, u, g, t) = if (k r0).1 = 11 then (a_m 158 [a_r (r0)] (k, u, g, t)).bind (a_back 263 1 3 [a_r (r0)] []) else none := by
  refine (X_aload_n (m := 263) (pc := 0) (n := 0) (by decide +kernel) rfl).trans ?_
  refine (X_call_vi (m := 263) (pc := 1) (q := 57) (y := 158) (n := 1) (as := [a_r (r0)]) (rest := []) (by decide +kernel) (by decide +kernel) (by decide +kernel) (by decide +kernel) rfl rfl (Nat.le_of_ble_eq_true rfl) (Nat.le_of_ble_eq_true rfl) rfl (by rw [show m_maxL 158 = 1 from by decide +kernel]; exact Nat.le_of_ble_eq_true rfl)).trans ?_
  exact ite_congr (by simp [a_rcv, show m_recv 158 = 11 from by decide +kernel]) (fun _ => rfl) (fun _ => rfl)
theorem B_X11_quietIn_4 {k : Nat → Nat × Nat} {u : Nat → Nat → Int} {g : Nat → Nat → Nat} {t : Nat × Nat × Nat} {r0 : Nat} {y0 : Int} : a_X 263 4 [a_r (r0)] [a_i (y0)] (k, u, g, t) = if (y0 : Int) = 0 then if (k r0).1 = 11 then (a_m 251 [a_r (r0)] (k, u, g, t)).bind (a_back 263 10 3 [a_r (r0)] []) else none else some (.inl (some (a_i (0))), (k, u, g, t)) := by
  refine (X_if_eq (m := 263) (pc := 4) (off := 5) (tg := 9) (by decide +kernel) (by decide +kernel)).trans ?_
  refine ite_congr rfl (fun _ => ?_) (fun _ => ?_)
  · refine (X_aload_n (m := 263) (pc := 9) (n := 0) (by decide +kernel) rfl).trans ?_
    refine (X_call_vi (m := 263) (pc := 10) (q := 360) (y := 251) (n := 1) (as := [a_r (r0)]) (rest := []) (by decide +kernel) (by decide +kernel) (by decide +kernel) (by decide +kernel) rfl rfl (Nat.le_of_ble_eq_true rfl) (Nat.le_of_ble_eq_true rfl) rfl (by rw [show m_maxL 251 = 1 from by decide +kernel]; exact Nat.le_of_ble_eq_true rfl)).trans ?_
    exact ite_congr (by simp [a_rcv, show m_recv 251 = 11 from by decide +kernel]) (fun _ => rfl) (fun _ => rfl)
  · refine (X_iconst (m := 263) (pc := 7) (n := 0) (by decide +kernel) ).trans ?_
    exact X_ireturn (m := 263) (pc := 8) (f := 1) (by decide +kernel) (by decide +kernel) rfl
theorem B_X11_quietIn_13 {k : Nat → Nat × Nat} {u : Nat → Nat → Int} {g : Nat → Nat → Nat} {t : Nat × Nat × Nat} {r0 : Nat} : a_X 263 13 [a_r (r0)] [] (k, u, g, t) = if (k r0).1 = 11 then (a_m 262 [a_r (r0)] (k, u, g, t)).bind (a_back 263 15 3 [a_r (r0)] [a_r (r0)]) else none := by
  refine (X_aload_n (m := 263) (pc := 13) (n := 0) (by decide +kernel) rfl).trans ?_
  refine (X_aload_n (m := 263) (pc := 14) (n := 0) (by decide +kernel) rfl).trans ?_
  refine (X_call_vi (m := 263) (pc := 15) (q := 387) (y := 262) (n := 1) (as := [a_r (r0)]) (rest := [a_r (r0)]) (by decide +kernel) (by decide +kernel) (by decide +kernel) (by decide +kernel) rfl rfl (Nat.le_of_ble_eq_true rfl) (Nat.le_of_ble_eq_true rfl) rfl (by rw [show m_maxL 262 = 2 from by decide +kernel]; exact Nat.le_of_ble_eq_true rfl)).trans ?_
  exact ite_congr (by simp [a_rcv, show m_recv 262 = 11 from by decide +kernel]) (fun _ => rfl) (fun _ => rfl)
theorem B_X11_quietIn_18 {k : Nat → Nat × Nat} {u : Nat → Nat → Int} {g : Nat → Nat → Nat} {t : Nat × Nat × Nat} {r0 : Nat} {q0 : Nat} {y1 : Int} : a_X 263 18 [a_r (r0)] [a_i (y1), a_r (q0)] (k, u, g, t) = if (k q0).1 = 11 then (a_m 252 [a_r (q0), a_i (y1)] (k, u, g, t)).bind (a_back 263 18 3 [a_r (r0)] []) else none := by
  refine (X_call_vi (m := 263) (pc := 18) (q := 366) (y := 252) (n := 2) (as := [a_r (q0), a_i (y1)]) (rest := []) (by decide +kernel) (by decide +kernel) (by decide +kernel) (by decide +kernel) rfl rfl (Nat.le_of_ble_eq_true rfl) (Nat.le_of_ble_eq_true rfl) rfl (by rw [show m_maxL 252 = 2 from by decide +kernel]; exact Nat.le_of_ble_eq_true rfl)).trans ?_
  exact ite_congr (by simp [a_rcv, show m_recv 252 = 11 from by decide +kernel]) (fun _ => rfl) (fun _ => rfl)
theorem B_X11_quietIn_21 {k : Nat → Nat × Nat} {u : Nat → Nat → Int} {g : Nat → Nat → Nat} {t : Nat × Nat × Nat} {r0 : Nat} {y0 : Int} : a_X 263 21 [a_r (r0)] [a_i (y0)] (k, u, g, t) = some (.inl (some (a_i (y0))), (k, u, g, t)) := by
  exact X_ireturn (m := 263) (pc := 21) (f := 1) (by decide +kernel) (by decide +kernel) rfl
theorem E_X11_wholeIn {σ : AS} {r0 : Nat} : a_m 264 [a_r (r0)] σ = a_X 264 0 [a_r (r0)] [] σ := a_m_eq (by rw [a_entry, show m_maxL 264 = 1 from by decide +kernel]; rfl)
theorem B_X11_wholeIn_0 {k : Nat → Nat × Nat} {u : Nat → Nat → Int} {g : Nat → Nat → Nat} {t : Nat × Nat × Nat} {r0 : Nat} : a_X 264 0 [a_r (r0)] [] (k, u, g, t) = if (k r0).1 = 11 then (a_m 158 [a_r (r0)] (k, u, g, t)).bind (a_back 264 1 3 [a_r (r0)] []) else none := by
  refine (X_aload_n (m := 264) (pc := 0) (n := 0) (by decide +kernel) rfl).trans ?_
  refine (X_call_vi (m := 264) (pc := 1) (q := 57) (y := 158) (n := 1) (as := [a_r (r0)]) (rest := []) (by decide +kernel) (by decide +kernel) (by decide +kernel) (by decide +kernel) rfl rfl (Nat.le_of_ble_eq_true rfl) (Nat.le_of_ble_eq_true rfl) rfl (by rw [show m_maxL 158 = 1 from by decide +kernel]; exact Nat.le_of_ble_eq_true rfl)).trans ?_
  exact ite_congr (by simp [a_rcv, show m_recv 158 = 11 from by decide +kernel]) (fun _ => rfl) (fun _ => rfl)
theorem B_X11_wholeIn_4 {k : Nat → Nat × Nat} {u : Nat → Nat → Int} {g : Nat → Nat → Nat} {t : Nat × Nat × Nat} {r0 : Nat} {y0 : Int} : a_X 264 4 [a_r (r0)] [a_i (y0)] (k, u, g, t) = if (y0 : Int) = 0 then if (k r0).1 = 11 then if ((k (g r0 2)).1 = 20 ∨ (k (g r0 2)).1 = 24) ∧ 0 ≤ (0 : Int) ∧ (0 : Int) < ((k (g r0 2)).2 : Int) then if (u (g r0 2) (0 : Int).toNat : Int) ≠ 0 then if (k r0).1 = 11 then if ((k (g r0 2)).1 = 20 ∨ (k (g r0 2)).1 = 24) ∧ 0 ≤ (0 : Int) ∧ (0 : Int) < ((k (g r0 2)).2 : Int) then if (k r0).1 = 11 then if ((k (g r0 2)).1 = 20 ∨ (k (g r0 2)).1 = 24) ∧ 0 ≤ (1 : Int) ∧ (1 : Int) < ((k (g r0 2)).2 : Int) then if (k r0).1 = 11 then if ((k (g r0 2)).1 = 20 ∨ (k (g r0 2)).1 = 24) ∧ 0 ≤ (0 : Int) ∧ (0 : Int) < ((k (g r0 2)).2 : Int) then if (u (g r0 2) (0 : Int).toNat : Int) ≠ 0 then some (.inl (some (a_i (wr ((u (g r0 2) (0 : Int).toNat) - (Int.tmod (u (g r0 2) (1 : Int).toNat) (u (g r0 2) (0 : Int).toNat)))))), (k, u, g, t)) else none else none else none else none else none else none else none else some (.inl (some (a_i (-1))), (k, u, g, t)) else none else none else some (.inl (some (a_i (0))), (k, u, g, t)) := by
  refine (X_if_eq (m := 264) (pc := 4) (off := 5) (tg := 9) (by decide +kernel) (by decide +kernel)).trans ?_
  refine ite_congr rfl (fun _ => ?_) (fun _ => ?_)
  · refine (X_aload_n (m := 264) (pc := 9) (n := 0) (by decide +kernel) rfl).trans ?_
    refine (X_getR (m := 264) (pc := 10) (n := 7) (c := 11) (q := 2) (fi := true) (by decide +kernel) (by decide +kernel)).trans ?_
    refine ite_congr rfl (fun _ => ?_) (fun _ => rfl)
    refine (X_iconst (m := 264) (pc := 13) (n := 0) (by decide +kernel) ).trans ?_
    refine (X_iaload (m := 264) (pc := 14)  (by decide +kernel) ).trans ?_
    refine ite_congr rfl (fun _ => ?_) (fun _ => rfl)
    refine (X_if_ne (m := 264) (pc := 15) (off := 7) (tg := 22) (by decide +kernel) (by decide +kernel)).trans ?_
    refine ite_congr rfl (fun _ => ?_) (fun _ => ?_)
    · refine (X_aload_n (m := 264) (pc := 22) (n := 0) (by decide +kernel) rfl).trans ?_
      refine (X_getR (m := 264) (pc := 23) (n := 7) (c := 11) (q := 2) (fi := true) (by decide +kernel) (by decide +kernel)).trans ?_
      refine ite_congr rfl (fun _ => ?_) (fun _ => rfl)
      refine (X_iconst (m := 264) (pc := 26) (n := 0) (by decide +kernel) ).trans ?_
      refine (X_iaload (m := 264) (pc := 27)  (by decide +kernel) ).trans ?_
      refine ite_congr rfl (fun _ => ?_) (fun _ => rfl)
      refine (X_aload_n (m := 264) (pc := 28) (n := 0) (by decide +kernel) rfl).trans ?_
      refine (X_getR (m := 264) (pc := 29) (n := 7) (c := 11) (q := 2) (fi := true) (by decide +kernel) (by decide +kernel)).trans ?_
      refine ite_congr rfl (fun _ => ?_) (fun _ => rfl)
      refine (X_iconst (m := 264) (pc := 32) (n := 1) (by decide +kernel) ).trans ?_
      refine (X_iaload (m := 264) (pc := 33)  (by decide +kernel) ).trans ?_
      refine ite_congr rfl (fun _ => ?_) (fun _ => rfl)
      refine (X_aload_n (m := 264) (pc := 34) (n := 0) (by decide +kernel) rfl).trans ?_
      refine (X_getR (m := 264) (pc := 35) (n := 7) (c := 11) (q := 2) (fi := true) (by decide +kernel) (by decide +kernel)).trans ?_
      refine ite_congr rfl (fun _ => ?_) (fun _ => rfl)
      refine (X_iconst (m := 264) (pc := 38) (n := 0) (by decide +kernel) ).trans ?_
      refine (X_iaload (m := 264) (pc := 39)  (by decide +kernel) ).trans ?_
      refine ite_congr rfl (fun _ => ?_) (fun _ => rfl)
      refine (X_irem (m := 264) (pc := 40)  (by decide +kernel) ).trans ?_
      refine ite_congr rfl (fun _ => ?_) (fun _ => rfl)
      refine (X_isub (m := 264) (pc := 41)  (by decide +kernel) ).trans ?_
      exact X_ireturn (m := 264) (pc := 42) (f := 1) (by decide +kernel) (by decide +kernel) rfl
    · refine (X_iconst (m := 264) (pc := 18) (n := -1) (by decide +kernel) ).trans ?_
      refine (X_goto (m := 264) (pc := 19) (off := 23) (tg := 42) (by decide +kernel) (by decide +kernel)).trans ?_
      exact X_ireturn (m := 264) (pc := 42) (f := 1) (by decide +kernel) (by decide +kernel) rfl
  · refine (X_iconst (m := 264) (pc := 7) (n := 0) (by decide +kernel) ).trans ?_
    exact X_ireturn (m := 264) (pc := 8) (f := 1) (by decide +kernel) (by decide +kernel) rfl
theorem E_X11_sameWithout {σ : AS} {r0 : Nat} {x1 : Int} : a_m 265 [a_r (r0), a_i (x1)] σ = a_X 265 0 [a_r (r0), a_i (x1)] [] σ := a_m_eq (by rw [a_entry, show m_maxL 265 = 2 from by decide +kernel]; rfl)
theorem B_X11_sameWithout_0 {k : Nat → Nat × Nat} {u : Nat → Nat → Int} {g : Nat → Nat → Nat} {t : Nat × Nat × Nat} {r0 : Nat} {x1 : Int} : a_X 265 0 [a_r (r0), a_i (x1)] [] (k, u, g, t) = if (k r0).1 = 11 then (a_m 159 [a_r (r0), a_i (x1)] (k, u, g, t)).bind (a_back 265 2 3 [a_r (r0), a_i (x1)] []) else none := by
  refine (X_aload_n (m := 265) (pc := 0) (n := 0) (by decide +kernel) rfl).trans ?_
  refine (X_iload_n (m := 265) (pc := 1) (n := 1) (by decide +kernel) rfl).trans ?_
  refine (X_call_vi (m := 265) (pc := 2) (q := 345) (y := 159) (n := 2) (as := [a_r (r0), a_i (x1)]) (rest := []) (by decide +kernel) (by decide +kernel) (by decide +kernel) (by decide +kernel) rfl rfl (Nat.le_of_ble_eq_true rfl) (Nat.le_of_ble_eq_true rfl) rfl (by rw [show m_maxL 159 = 2 from by decide +kernel]; exact Nat.le_of_ble_eq_true rfl)).trans ?_
  exact ite_congr (by simp [a_rcv, show m_recv 159 = 11 from by decide +kernel]) (fun _ => rfl) (fun _ => rfl)
theorem B_X11_sameWithout_5 {k : Nat → Nat × Nat} {u : Nat → Nat → Int} {g : Nat → Nat → Nat} {t : Nat × Nat × Nat} {r0 : Nat} {x1 : Int} {y0 : Int} : a_X 265 5 [a_r (r0), a_i (x1)] [a_i (y0)] (k, u, g, t) = if (y0 : Int) = 0 then if (k r0).1 = 11 then (a_m 251 [a_r (r0)] (k, u, g, t)).bind (a_back 265 11 3 [a_r (r0), a_i (x1)] []) else none else some (.inl (some (a_i (0))), (k, u, g, t)) := by
  refine (X_if_eq (m := 265) (pc := 5) (off := 5) (tg := 10) (by decide +kernel) (by decide +kernel)).trans ?_
  refine ite_congr rfl (fun _ => ?_) (fun _ => ?_)
  · refine (X_aload_n (m := 265) (pc := 10) (n := 0) (by decide +kernel) rfl).trans ?_
    refine (X_call_vi (m := 265) (pc := 11) (q := 360) (y := 251) (n := 1) (as := [a_r (r0)]) (rest := []) (by decide +kernel) (by decide +kernel) (by decide +kernel) (by decide +kernel) rfl rfl (Nat.le_of_ble_eq_true rfl) (Nat.le_of_ble_eq_true rfl) rfl (by rw [show m_maxL 251 = 1 from by decide +kernel]; exact Nat.le_of_ble_eq_true rfl)).trans ?_
    exact ite_congr (by simp [a_rcv, show m_recv 251 = 11 from by decide +kernel]) (fun _ => rfl) (fun _ => rfl)
  · refine (X_iconst (m := 265) (pc := 8) (n := 0) (by decide +kernel) ).trans ?_
    exact X_ireturn (m := 265) (pc := 9) (f := 1) (by decide +kernel) (by decide +kernel) rfl
theorem B_X11_sameWithout_14 {k : Nat → Nat × Nat} {u : Nat → Nat → Int} {g : Nat → Nat → Nat} {t : Nat × Nat × Nat} {r0 : Nat} {x1 : Int} : a_X 265 14 [a_r (r0), a_i (x1)] [] (k, u, g, t) = if (k r0).1 = 11 then (a_m 167 [a_r (r0), a_i (x1), a_i (1), a_i (0)] (k, u, g, t)).bind (a_back 265 18 3 [a_r (r0), a_i (x1)] []) else none := by
  refine (X_aload_n (m := 265) (pc := 14) (n := 0) (by decide +kernel) rfl).trans ?_
  refine (X_iload_n (m := 265) (pc := 15) (n := 1) (by decide +kernel) rfl).trans ?_
  refine (X_iconst (m := 265) (pc := 16) (n := 1) (by decide +kernel) ).trans ?_
  refine (X_iconst (m := 265) (pc := 17) (n := 0) (by decide +kernel) ).trans ?_
  refine (X_call_vi (m := 265) (pc := 18) (q := 149) (y := 167) (n := 4) (as := [a_r (r0), a_i (x1), a_i (1), a_i (0)]) (rest := []) (by decide +kernel) (by decide +kernel) (by decide +kernel) (by decide +kernel) rfl rfl (Nat.le_of_ble_eq_true rfl) (Nat.le_of_ble_eq_true rfl) rfl (by rw [show m_maxL 167 = 4 from by decide +kernel]; exact Nat.le_of_ble_eq_true rfl)).trans ?_
  exact ite_congr (by simp [a_rcv, show m_recv 167 = 11 from by decide +kernel]) (fun _ => rfl) (fun _ => rfl)
theorem B_X11_sameWithout_21 {k : Nat → Nat × Nat} {u : Nat → Nat → Int} {g : Nat → Nat → Nat} {t : Nat × Nat × Nat} {r0 : Nat} {x1 : Int} : a_X 265 21 [a_r (r0), a_i (x1)] [] (k, u, g, t) = if (k r0).1 = 11 then (a_m 253 [a_r (r0), a_i (x1)] (k, u, g, t)).bind (a_back 265 24 3 [a_r (r0), a_i (x1)] [a_r (r0)]) else none := by
  refine (X_aload_n (m := 265) (pc := 21) (n := 0) (by decide +kernel) rfl).trans ?_
  refine (X_aload_n (m := 265) (pc := 22) (n := 0) (by decide +kernel) rfl).trans ?_
  refine (X_iload_n (m := 265) (pc := 23) (n := 1) (by decide +kernel) rfl).trans ?_
  refine (X_call_vi (m := 265) (pc := 24) (q := 370) (y := 253) (n := 2) (as := [a_r (r0), a_i (x1)]) (rest := [a_r (r0)]) (by decide +kernel) (by decide +kernel) (by decide +kernel) (by decide +kernel) rfl rfl (Nat.le_of_ble_eq_true rfl) (Nat.le_of_ble_eq_true rfl) rfl (by rw [show m_maxL 253 = 3 from by decide +kernel]; exact Nat.le_of_ble_eq_true rfl)).trans ?_
  exact ite_congr (by simp [a_rcv, show m_recv 253 = 11 from by decide +kernel]) (fun _ => rfl) (fun _ => rfl)
theorem B_X11_sameWithout_27 {k : Nat → Nat × Nat} {u : Nat → Nat → Int} {g : Nat → Nat → Nat} {t : Nat × Nat × Nat} {r0 : Nat} {x1 : Int} {q0 : Nat} {y1 : Int} : a_X 265 27 [a_r (r0), a_i (x1)] [a_i (y1), a_r (q0)] (k, u, g, t) = if (k q0).1 = 11 then (a_m 252 [a_r (q0), a_i (y1)] (k, u, g, t)).bind (a_back 265 27 3 [a_r (r0), a_i (x1)] []) else none := by
  refine (X_call_vi (m := 265) (pc := 27) (q := 366) (y := 252) (n := 2) (as := [a_r (q0), a_i (y1)]) (rest := []) (by decide +kernel) (by decide +kernel) (by decide +kernel) (by decide +kernel) rfl rfl (Nat.le_of_ble_eq_true rfl) (Nat.le_of_ble_eq_true rfl) rfl (by rw [show m_maxL 252 = 2 from by decide +kernel]; exact Nat.le_of_ble_eq_true rfl)).trans ?_
  exact ite_congr (by simp [a_rcv, show m_recv 252 = 11 from by decide +kernel]) (fun _ => rfl) (fun _ => rfl)
theorem B_X11_sameWithout_30 {k : Nat → Nat × Nat} {u : Nat → Nat → Int} {g : Nat → Nat → Nat} {t : Nat × Nat × Nat} {r0 : Nat} {x1 : Int} {y0 : Int} : a_X 265 30 [a_r (r0), a_i (x1)] [a_i (y0)] (k, u, g, t) = some (.inl (some (a_i (y0))), (k, u, g, t)) := by
  exact X_ireturn (m := 265) (pc := 30) (f := 1) (by decide +kernel) (by decide +kernel) rfl
theorem E_X11_sameBy {σ : AS} {r0 : Nat} {x1 : Int} {x2 : Int} : a_m 266 [a_r (r0), a_i (x1), a_i (x2)] σ = a_X 266 0 [a_r (r0), a_i (x1), a_i (x2)] [] σ := a_m_eq (by rw [a_entry, show m_maxL 266 = 3 from by decide +kernel]; rfl)
theorem B_X11_sameBy_0 {k : Nat → Nat × Nat} {u : Nat → Nat → Int} {g : Nat → Nat → Nat} {t : Nat × Nat × Nat} {r0 : Nat} {x1 : Int} {x2 : Int} : a_X 266 0 [a_r (r0), a_i (x1), a_i (x2)] [] (k, u, g, t) = if (k r0).1 = 11 then (a_m 251 [a_r (r0)] (k, u, g, t)).bind (a_back 266 1 3 [a_r (r0), a_i (x1), a_i (x2)] []) else none := by
  refine (X_aload_n (m := 266) (pc := 0) (n := 0) (by decide +kernel) rfl).trans ?_
  refine (X_call_vi (m := 266) (pc := 1) (q := 360) (y := 251) (n := 1) (as := [a_r (r0)]) (rest := []) (by decide +kernel) (by decide +kernel) (by decide +kernel) (by decide +kernel) rfl rfl (Nat.le_of_ble_eq_true rfl) (Nat.le_of_ble_eq_true rfl) rfl (by rw [show m_maxL 251 = 1 from by decide +kernel]; exact Nat.le_of_ble_eq_true rfl)).trans ?_
  exact ite_congr (by simp [a_rcv, show m_recv 251 = 11 from by decide +kernel]) (fun _ => rfl) (fun _ => rfl)
theorem B_X11_sameBy_4 {k : Nat → Nat × Nat} {u : Nat → Nat → Int} {g : Nat → Nat → Nat} {t : Nat × Nat × Nat} {r0 : Nat} {x1 : Int} {x2 : Int} : a_X 266 4 [a_r (r0), a_i (x1), a_i (x2)] [] (k, u, g, t) = if (k r0).1 = 11 then if (k (g r0 2)).1 = 20 ∧ 0 ≤ (0 : Int) ∧ (0 : Int) < ((k (g r0 2)).2 : Int) then if (k r0).1 = 11 then (a_m 253 [a_r (r0), a_i (x1)] (k, (upm u (g r0 2) (0 : Int).toNat x2), g, t)).bind (a_back 266 14 3 [a_r (r0), a_i (x1), a_i (x2)] [a_r (r0)]) else none else none else none := by
  refine (X_aload_n (m := 266) (pc := 4) (n := 0) (by decide +kernel) rfl).trans ?_
  refine (X_getR (m := 266) (pc := 5) (n := 7) (c := 11) (q := 2) (fi := true) (by decide +kernel) (by decide +kernel)).trans ?_
  refine ite_congr rfl (fun _ => ?_) (fun _ => rfl)
  refine (X_iconst (m := 266) (pc := 8) (n := 0) (by decide +kernel) ).trans ?_
  refine (X_iload_n (m := 266) (pc := 9) (n := 2) (by decide +kernel) rfl).trans ?_
  refine (X_iastore (m := 266) (pc := 10)  (by decide +kernel) ).trans ?_
  refine ite_congr rfl (fun _ => ?_) (fun _ => rfl)
  refine (X_aload_n (m := 266) (pc := 11) (n := 0) (by decide +kernel) rfl).trans ?_
  refine (X_aload_n (m := 266) (pc := 12) (n := 0) (by decide +kernel) rfl).trans ?_
  refine (X_iload_n (m := 266) (pc := 13) (n := 1) (by decide +kernel) rfl).trans ?_
  refine (X_call_vi (m := 266) (pc := 14) (q := 370) (y := 253) (n := 2) (as := [a_r (r0), a_i (x1)]) (rest := [a_r (r0)]) (by decide +kernel) (by decide +kernel) (by decide +kernel) (by decide +kernel) rfl rfl (Nat.le_of_ble_eq_true rfl) (Nat.le_of_ble_eq_true rfl) rfl (by rw [show m_maxL 253 = 3 from by decide +kernel]; exact Nat.le_of_ble_eq_true rfl)).trans ?_
  exact ite_congr (by simp [a_rcv, show m_recv 253 = 11 from by decide +kernel]) (fun _ => rfl) (fun _ => rfl)
theorem B_X11_sameBy_17 {k : Nat → Nat × Nat} {u : Nat → Nat → Int} {g : Nat → Nat → Nat} {t : Nat × Nat × Nat} {r0 : Nat} {x1 : Int} {x2 : Int} {q0 : Nat} {y1 : Int} : a_X 266 17 [a_r (r0), a_i (x1), a_i (x2)] [a_i (y1), a_r (q0)] (k, u, g, t) = if (k q0).1 = 11 then (a_m 252 [a_r (q0), a_i (y1)] (k, u, g, t)).bind (a_back 266 17 3 [a_r (r0), a_i (x1), a_i (x2)] []) else none := by
  refine (X_call_vi (m := 266) (pc := 17) (q := 366) (y := 252) (n := 2) (as := [a_r (q0), a_i (y1)]) (rest := []) (by decide +kernel) (by decide +kernel) (by decide +kernel) (by decide +kernel) rfl rfl (Nat.le_of_ble_eq_true rfl) (Nat.le_of_ble_eq_true rfl) rfl (by rw [show m_maxL 252 = 2 from by decide +kernel]; exact Nat.le_of_ble_eq_true rfl)).trans ?_
  exact ite_congr (by simp [a_rcv, show m_recv 252 = 11 from by decide +kernel]) (fun _ => rfl) (fun _ => rfl)
theorem B_X11_sameBy_20 {k : Nat → Nat × Nat} {u : Nat → Nat → Int} {g : Nat → Nat → Nat} {t : Nat × Nat × Nat} {r0 : Nat} {x1 : Int} {x2 : Int} {y0 : Int} : a_X 266 20 [a_r (r0), a_i (x1), a_i (x2)] [a_i (y0)] (k, u, g, t) = some (.inl (some (a_i (y0))), (k, u, g, t)) := by
  exact X_ireturn (m := 266) (pc := 20) (f := 1) (by decide +kernel) (by decide +kernel) rfl
theorem E_X11_sameWith {σ : AS} {r0 : Nat} {x1 : Int} {x2 : Int} : a_m 267 [a_r (r0), a_i (x1), a_i (x2)] σ = a_X 267 0 [a_r (r0), a_i (x1), a_i (x2)] [] σ := a_m_eq (by rw [a_entry, show m_maxL 267 = 3 from by decide +kernel]; rfl)
theorem B_X11_sameWith_0 {k : Nat → Nat × Nat} {u : Nat → Nat → Int} {g : Nat → Nat → Nat} {t : Nat × Nat × Nat} {r0 : Nat} {x1 : Int} {x2 : Int} : a_X 267 0 [a_r (r0), a_i (x1), a_i (x2)] [] (k, u, g, t) = if (k r0).1 = 11 then (a_m 159 [a_r (r0), a_i (x1)] (k, u, g, t)).bind (a_back 267 2 3 [a_r (r0), a_i (x1), a_i (x2)] []) else none := by
  refine (X_aload_n (m := 267) (pc := 0) (n := 0) (by decide +kernel) rfl).trans ?_
  refine (X_iload_n (m := 267) (pc := 1) (n := 1) (by decide +kernel) rfl).trans ?_
  refine (X_call_vi (m := 267) (pc := 2) (q := 345) (y := 159) (n := 2) (as := [a_r (r0), a_i (x1)]) (rest := []) (by decide +kernel) (by decide +kernel) (by decide +kernel) (by decide +kernel) rfl rfl (Nat.le_of_ble_eq_true rfl) (Nat.le_of_ble_eq_true rfl) rfl (by rw [show m_maxL 159 = 2 from by decide +kernel]; exact Nat.le_of_ble_eq_true rfl)).trans ?_
  exact ite_congr (by simp [a_rcv, show m_recv 159 = 11 from by decide +kernel]) (fun _ => rfl) (fun _ => rfl)
theorem B_X11_sameWith_5 {k : Nat → Nat × Nat} {u : Nat → Nat → Int} {g : Nat → Nat → Nat} {t : Nat × Nat × Nat} {r0 : Nat} {x1 : Int} {x2 : Int} {y0 : Int} : a_X 267 5 [a_r (r0), a_i (x1), a_i (x2)] [a_i (y0)] (k, u, g, t) = if (y0 : Int) ≠ 0 then some (.inl (some (a_i (0))), (k, u, g, t)) else (a_m 155 [a_l (x2), a_l (0), a_l (99)] (k, u, g, t)).bind (a_back 267 15 3 [a_r (r0), a_i (x1), a_i (x2)] [a_r (r0)]) := by
  refine (X_if_ne (m := 267) (pc := 5) (off := 28) (tg := 33) (by decide +kernel) (by decide +kernel)).trans ?_
  refine ite_congr rfl (fun _ => ?_) (fun _ => ?_)
  · refine (X_iconst (m := 267) (pc := 33) (n := 0) (by decide +kernel) ).trans ?_
    refine (X_goto (m := 267) (pc := 34) (off := 9) (tg := 43) (by decide +kernel) (by decide +kernel)).trans ?_
    exact X_ireturn (m := 267) (pc := 43) (f := 1) (by decide +kernel) (by decide +kernel) rfl
  · refine (X_aload_n (m := 267) (pc := 8) (n := 0) (by decide +kernel) rfl).trans ?_
    refine (X_iload_n (m := 267) (pc := 9) (n := 2) (by decide +kernel) rfl).trans ?_
    refine (X_i2l (m := 267) (pc := 10)  (by decide +kernel) ).trans ?_
    refine (X_lconst (m := 267) (pc := 11) (n := 0) (by decide +kernel) ).trans ?_
    refine (X_ldc2 (m := 267) (pc := 12) (n := 390) (z := 99) (by decide +kernel) (by decide +kernel)).trans ?_
    refine (X_call_st (m := 267) (pc := 15) (q := 61) (y := 155) (n := 3) (as := [a_l (x2), a_l (0), a_l (99)]) (rest := [a_r (r0)]) (by decide +kernel) (by decide +kernel) (by decide +kernel) (by decide +kernel) rfl rfl (Nat.le_of_ble_eq_true rfl) (Nat.le_of_ble_eq_true rfl) rfl (by rw [show m_maxL 155 = 6 from by decide +kernel]; exact Nat.le_of_ble_eq_true rfl)).trans ?_
    exact if_pos rfl
theorem B_X11_sameWith_18 {k : Nat → Nat × Nat} {u : Nat → Nat → Int} {g : Nat → Nat → Nat} {t : Nat × Nat × Nat} {r0 : Nat} {x1 : Int} {x2 : Int} {q0 : Nat} {y1 : Int} : a_X 267 18 [a_r (r0), a_i (x1), a_i (x2)] [a_i (y1), a_r (q0)] (k, u, g, t) = if (y1 : Int) ≠ 0 then if (k q0).1 = 11 then (a_m 157 [a_r (q0), a_i (0), a_i (3)] (k, u, g, t)).bind (a_back 267 27 3 [a_r (r0), a_i (x1), a_i (x2)] []) else none else if (k q0).1 = 11 then (a_m 157 [a_r (q0), a_i (1), a_i (3)] (k, u, g, t)).bind (a_back 267 27 3 [a_r (r0), a_i (x1), a_i (x2)] []) else none := by
  refine (X_if_ne (m := 267) (pc := 18) (off := 7) (tg := 25) (by decide +kernel) (by decide +kernel)).trans ?_
  refine ite_congr rfl (fun _ => ?_) (fun _ => ?_)
  · refine (X_iconst (m := 267) (pc := 25) (n := 0) (by decide +kernel) ).trans ?_
    refine (X_iconst (m := 267) (pc := 26) (n := 3) (by decide +kernel) ).trans ?_
    refine (X_call_vi (m := 267) (pc := 27) (q := 53) (y := 157) (n := 3) (as := [a_r (q0), a_i (0), a_i (3)]) (rest := []) (by decide +kernel) (by decide +kernel) (by decide +kernel) (by decide +kernel) rfl rfl (Nat.le_of_ble_eq_true rfl) (Nat.le_of_ble_eq_true rfl) rfl (by rw [show m_maxL 157 = 3 from by decide +kernel]; exact Nat.le_of_ble_eq_true rfl)).trans ?_
    exact ite_congr (by simp [a_rcv, show m_recv 157 = 11 from by decide +kernel]) (fun _ => rfl) (fun _ => rfl)
  · refine (X_iconst (m := 267) (pc := 21) (n := 1) (by decide +kernel) ).trans ?_
    refine (X_goto (m := 267) (pc := 22) (off := 4) (tg := 26) (by decide +kernel) (by decide +kernel)).trans ?_
    refine (X_iconst (m := 267) (pc := 26) (n := 3) (by decide +kernel) ).trans ?_
    refine (X_call_vi (m := 267) (pc := 27) (q := 53) (y := 157) (n := 3) (as := [a_r (q0), a_i (1), a_i (3)]) (rest := []) (by decide +kernel) (by decide +kernel) (by decide +kernel) (by decide +kernel) rfl rfl (Nat.le_of_ble_eq_true rfl) (Nat.le_of_ble_eq_true rfl) rfl (by rw [show m_maxL 157 = 3 from by decide +kernel]; exact Nat.le_of_ble_eq_true rfl)).trans ?_
    exact ite_congr (by simp [a_rcv, show m_recv 157 = 11 from by decide +kernel]) (fun _ => rfl) (fun _ => rfl)
theorem B_X11_sameWith_30 {k : Nat → Nat × Nat} {u : Nat → Nat → Int} {g : Nat → Nat → Nat} {t : Nat × Nat × Nat} {r0 : Nat} {x1 : Int} {x2 : Int} {y0 : Int} : a_X 267 30 [a_r (r0), a_i (x1), a_i (x2)] [a_i (y0)] (k, u, g, t) = if (y0 : Int) = 0 then if (k r0).1 = 11 then (a_m 266 [a_r (r0), a_i (x1), a_i (x2)] (k, u, g, t)).bind (a_back 267 40 3 [a_r (r0), a_i (x1), a_i (x2)] []) else none else some (.inl (some (a_i (0))), (k, u, g, t)) := by
  refine (X_if_eq (m := 267) (pc := 30) (off := 7) (tg := 37) (by decide +kernel) (by decide +kernel)).trans ?_
  refine ite_congr rfl (fun _ => ?_) (fun _ => ?_)
  · refine (X_aload_n (m := 267) (pc := 37) (n := 0) (by decide +kernel) rfl).trans ?_
    refine (X_iload_n (m := 267) (pc := 38) (n := 1) (by decide +kernel) rfl).trans ?_
    refine (X_iload_n (m := 267) (pc := 39) (n := 2) (by decide +kernel) rfl).trans ?_
    refine (X_call_vi (m := 267) (pc := 40) (q := 392) (y := 266) (n := 3) (as := [a_r (r0), a_i (x1), a_i (x2)]) (rest := []) (by decide +kernel) (by decide +kernel) (by decide +kernel) (by decide +kernel) rfl rfl (Nat.le_of_ble_eq_true rfl) (Nat.le_of_ble_eq_true rfl) rfl (by rw [show m_maxL 266 = 3 from by decide +kernel]; exact Nat.le_of_ble_eq_true rfl)).trans ?_
    exact ite_congr (by simp [a_rcv, show m_recv 266 = 11 from by decide +kernel]) (fun _ => rfl) (fun _ => rfl)
  · refine (X_iconst (m := 267) (pc := 33) (n := 0) (by decide +kernel) ).trans ?_
    refine (X_goto (m := 267) (pc := 34) (off := 9) (tg := 43) (by decide +kernel) (by decide +kernel)).trans ?_
    exact X_ireturn (m := 267) (pc := 43) (f := 1) (by decide +kernel) (by decide +kernel) rfl
theorem B_X11_sameWith_43 {k : Nat → Nat × Nat} {u : Nat → Nat → Int} {g : Nat → Nat → Nat} {t : Nat × Nat × Nat} {r0 : Nat} {x1 : Int} {x2 : Int} {y0 : Int} : a_X 267 43 [a_r (r0), a_i (x1), a_i (x2)] [a_i (y0)] (k, u, g, t) = some (.inl (some (a_i (y0))), (k, u, g, t)) := by
  exact X_ireturn (m := 267) (pc := 43) (f := 1) (by decide +kernel) (by decide +kernel) rfl
theorem E_X11_bestPeriod {σ : AS} {r0 : Nat} {x1 : Int} : a_m 268 [a_r (r0), a_i (x1)] σ = a_X 268 0 [a_r (r0), a_i (x1), a_x false, a_x false, a_x false, a_x false, a_x false] [] σ := a_m_eq (by rw [a_entry, show m_maxL 268 = 7 from by decide +kernel]; rfl)
theorem B_X11_bestPeriod_0 {k : Nat → Nat × Nat} {u : Nat → Nat → Int} {g : Nat → Nat → Nat} {t : Nat × Nat × Nat} {r0 : Nat} {x1 : Int} {v2 : AV} {v3 : AV} {v4 : AV} {v5 : AV} {v6 : AV} : a_X 268 0 [a_r (r0), a_i (x1), v2, v3, v4, v5, v6] [] (k, u, g, t) = if (k r0).1 = 11 then (a_m 159 [a_r (r0), a_i (x1)] (k, u, g, t)).bind (a_back 268 2 3 [a_r (r0), a_i (x1), v2, v3, v4, v5, v6] []) else none := by
  refine (X_aload_n (m := 268) (pc := 0) (n := 0) (by decide +kernel) rfl).trans ?_
  refine (X_iload_n (m := 268) (pc := 1) (n := 1) (by decide +kernel) rfl).trans ?_
  refine (X_call_vi (m := 268) (pc := 2) (q := 345) (y := 159) (n := 2) (as := [a_r (r0), a_i (x1)]) (rest := []) (by decide +kernel) (by decide +kernel) (by decide +kernel) (by decide +kernel) rfl rfl (Nat.le_of_ble_eq_true rfl) (Nat.le_of_ble_eq_true rfl) rfl (by rw [show m_maxL 159 = 2 from by decide +kernel]; exact Nat.le_of_ble_eq_true rfl)).trans ?_
  exact ite_congr (by simp [a_rcv, show m_recv 159 = 11 from by decide +kernel]) (fun _ => rfl) (fun _ => rfl)
theorem B_X11_bestPeriod_5 {k : Nat → Nat × Nat} {u : Nat → Nat → Int} {g : Nat → Nat → Nat} {t : Nat × Nat × Nat} {r0 : Nat} {x1 : Int} {v2 : AV} {v3 : AV} {v4 : AV} {v5 : AV} {v6 : AV} {y0 : Int} : a_X 268 5 [a_r (r0), a_i (x1), v2, v3, v4, v5, v6] [a_i (y0)] (k, u, g, t) = if (y0 : Int) = 0 then if (k r0).1 = 11 then (a_m 266 [a_r (r0), a_i (x1), a_i (99)] (k, u, g, t)).bind (a_back 268 17 3 [a_r (r0), a_i (x1), a_i (99), v3, v4, v5, v6] []) else none else some (.inl (some (a_i (0))), (k, u, g, t)) := by
  refine (X_if_eq (m := 268) (pc := 5) (off := 5) (tg := 10) (by decide +kernel) (by decide +kernel)).trans ?_
  refine ite_congr rfl (fun _ => ?_) (fun _ => ?_)
  · refine (X_bipush (m := 268) (pc := 10) (n := 99) (by decide +kernel) ).trans ?_
    refine (X_istore_n (m := 268) (pc := 12) (n := 2) (by decide +kernel) rfl (Nat.le_of_ble_eq_true rfl) rfl).trans ?_
    refine (X_aload_n (m := 268) (pc := 13) (n := 0) (by decide +kernel) rfl).trans ?_
    refine (X_iload_n (m := 268) (pc := 14) (n := 1) (by decide +kernel) rfl).trans ?_
    refine (X_bipush (m := 268) (pc := 15) (n := 99) (by decide +kernel) ).trans ?_
    refine (X_call_vi (m := 268) (pc := 17) (q := 392) (y := 266) (n := 3) (as := [a_r (r0), a_i (x1), a_i (99)]) (rest := []) (by decide +kernel) (by decide +kernel) (by decide +kernel) (by decide +kernel) rfl rfl (Nat.le_of_ble_eq_true rfl) (Nat.le_of_ble_eq_true rfl) rfl (by rw [show m_maxL 266 = 3 from by decide +kernel]; exact Nat.le_of_ble_eq_true rfl)).trans ?_
    exact ite_congr (by simp [a_rcv, show m_recv 266 = 11 from by decide +kernel]) (fun _ => rfl) (fun _ => rfl)
  · refine (X_iconst (m := 268) (pc := 8) (n := 0) (by decide +kernel) ).trans ?_
    exact X_ireturn (m := 268) (pc := 9) (f := 1) (by decide +kernel) (by decide +kernel) rfl
theorem B_X11_bestPeriod_20 {k : Nat → Nat × Nat} {u : Nat → Nat → Int} {g : Nat → Nat → Nat} {t : Nat × Nat × Nat} {r0 : Nat} {x1 : Int} {x2 : Int} {v3 : AV} {v4 : AV} {v5 : AV} {v6 : AV} {y0 : Int} : a_X 268 20 [a_r (r0), a_i (x1), a_i (x2), v3, v4, v5, v6] [a_i (y0)] (k, u, g, t) = a_X 268 25 [a_r (r0), a_i (x1), a_i (x2), a_i (y0), a_i (98), v5, v6] [] (k, u, g, t) := by
  refine (X_istore_n (m := 268) (pc := 20) (n := 3) (by decide +kernel) rfl (Nat.le_of_ble_eq_true rfl) rfl).trans ?_
  refine (X_bipush (m := 268) (pc := 21) (n := 98) (by decide +kernel) ).trans ?_
  refine (X_istore (m := 268) (pc := 23) (n := 4) (by decide +kernel) rfl (Nat.le_of_ble_eq_true rfl) rfl).trans ?_
  rfl
theorem B_X11_bestPeriod_25 {k : Nat → Nat × Nat} {u : Nat → Nat → Int} {g : Nat → Nat → Nat} {t : Nat × Nat × Nat} {r0 : Nat} {x1 : Int} {x2 : Int} {x3 : Int} {x4 : Int} {v5 : AV} {v6 : AV} : a_X 268 25 [a_r (r0), a_i (x1), a_i (x2), a_i (x3), a_i (x4), v5, v6] [] (k, u, g, t) = if (x4 : Int) ≤ 0 then some (.inl (some (a_i (x2))), (k, u, g, t)) else if (k r0).1 = 11 then (a_m 266 [a_r (r0), a_i (x1), a_i (x4)] (k, u, g, t)).bind (a_back 268 34 3 [a_r (r0), a_i (x1), a_i (x2), a_i (x3), a_i (x4), v5, v6] []) else none := by
  refine (X_iload (m := 268) (pc := 25) (n := 4) (by decide +kernel) rfl).trans ?_
  refine (X_if_le (m := 268) (pc := 27) (off := 66) (tg := 93) (by decide +kernel) (by decide +kernel)).trans ?_
  refine ite_congr rfl (fun _ => ?_) (fun _ => ?_)
  · refine (X_iload_n (m := 268) (pc := 93) (n := 2) (by decide +kernel) rfl).trans ?_
    exact X_ireturn (m := 268) (pc := 94) (f := 1) (by decide +kernel) (by decide +kernel) rfl
  · refine (X_aload_n (m := 268) (pc := 30) (n := 0) (by decide +kernel) rfl).trans ?_
    refine (X_iload_n (m := 268) (pc := 31) (n := 1) (by decide +kernel) rfl).trans ?_
    refine (X_iload (m := 268) (pc := 32) (n := 4) (by decide +kernel) rfl).trans ?_
    refine (X_call_vi (m := 268) (pc := 34) (q := 392) (y := 266) (n := 3) (as := [a_r (r0), a_i (x1), a_i (x4)]) (rest := []) (by decide +kernel) (by decide +kernel) (by decide +kernel) (by decide +kernel) rfl rfl (Nat.le_of_ble_eq_true rfl) (Nat.le_of_ble_eq_true rfl) rfl (by rw [show m_maxL 266 = 3 from by decide +kernel]; exact Nat.le_of_ble_eq_true rfl)).trans ?_
    exact ite_congr (by simp [a_rcv, show m_recv 266 = 11 from by decide +kernel]) (fun _ => rfl) (fun _ => rfl)
theorem B_X11_bestPeriod_37 {k : Nat → Nat × Nat} {u : Nat → Nat → Int} {g : Nat → Nat → Nat} {t : Nat × Nat × Nat} {r0 : Nat} {x1 : Int} {x2 : Int} {x3 : Int} {x4 : Int} {v5 : AV} {v6 : AV} {y0 : Int} : a_X 268 37 [a_r (r0), a_i (x1), a_i (x2), a_i (x3), a_i (x4), v5, v6] [a_i (y0)] (k, u, g, t) = if (y0 : Int) = (-1 : Int) then if (0 : Int) = 0 then if (0 : Int) = 0 then a_X 268 25 [a_r (r0), a_i (x1), a_i (x2), a_i (x3), a_i (wr (x4 + (-1))), a_i (y0), a_i (0)] [] (k, u, g, t) else a_X 268 25 [a_r (r0), a_i (x1), a_i (x2), a_i (y0), a_i (wr (x4 + (-1))), a_i (y0), a_i (0)] [] (k, u, g, t) else if (0 : Int) = 0 then a_X 268 25 [a_r (r0), a_i (x1), a_i (x4), a_i (x3), a_i (wr (x4 + (-1))), a_i (y0), a_i (0)] [] (k, u, g, t) else a_X 268 25 [a_r (r0), a_i (x1), a_i (x4), a_i (y0), a_i (wr (x4 + (-1))), a_i (y0), a_i (0)] [] (k, u, g, t) else if (x3 : Int) = (-1 : Int) then if (1 : Int) = 0 then if (1 : Int) = 0 then a_X 268 25 [a_r (r0), a_i (x1), a_i (x2), a_i (x3), a_i (wr (x4 + (-1))), a_i (y0), a_i (1)] [] (k, u, g, t) else a_X 268 25 [a_r (r0), a_i (x1), a_i (x2), a_i (y0), a_i (wr (x4 + (-1))), a_i (y0), a_i (1)] [] (k, u, g, t) else if (1 : Int) = 0 then a_X 268 85 [a_r (r0), a_i (x1), a_i (x4), a_i (x3), a_i (x4), a_i (y0), a_i (1)] [] (k, u, g, t) else a_X 268 80 [a_r (r0), a_i (x1), a_i (x4), a_i (x3), a_i (x4), a_i (y0), a_i (1)] [] (k, u, g, t) else a_X 268 50 [a_r (r0), a_i (x1), a_i (x2), a_i (x3), a_i (x4), a_i (y0), v6] [] (k, u, g, t) := by
  refine (X_istore (m := 268) (pc := 37) (n := 5) (by decide +kernel) rfl (Nat.le_of_ble_eq_true rfl) rfl).trans ?_
  refine (X_iload (m := 268) (pc := 39) (n := 5) (by decide +kernel) rfl).trans ?_
  refine (X_iconst (m := 268) (pc := 41) (n := -1) (by decide +kernel) ).trans ?_
  refine (X_ic_eq (m := 268) (pc := 42) (off := 18) (tg := 60) (by decide +kernel) (by decide +kernel)).trans ?_
  refine ite_congr rfl (fun _ => ?_) (fun _ => ?_)
  · refine (X_iconst (m := 268) (pc := 60) (n := 0) (by decide +kernel) ).trans ?_
    refine (X_istore (m := 268) (pc := 61) (n := 6) (by decide +kernel) rfl (Nat.le_of_ble_eq_true rfl) rfl).trans ?_
    refine (X_iload (m := 268) (pc := 63) (n := 6) (by decide +kernel) rfl).trans ?_
    refine (X_if_eq (m := 268) (pc := 65) (off := 8) (tg := 73) (by decide +kernel) (by decide +kernel)).trans ?_
    refine ite_congr rfl (fun _ => ?_) (fun _ => ?_)
    · refine (X_iload_n (m := 268) (pc := 73) (n := 2) (by decide +kernel) rfl).trans ?_
      refine (X_istore_n (m := 268) (pc := 74) (n := 2) (by decide +kernel) rfl (Nat.le_of_ble_eq_true rfl) rfl).trans ?_
      refine (X_iload (m := 268) (pc := 75) (n := 6) (by decide +kernel) rfl).trans ?_
      refine (X_if_eq (m := 268) (pc := 77) (off := 8) (tg := 85) (by decide +kernel) (by decide +kernel)).trans ?_
      refine ite_congr rfl (fun _ => ?_) (fun _ => ?_)
      · refine (X_iload_n (m := 268) (pc := 85) (n := 3) (by decide +kernel) rfl).trans ?_
        refine (X_istore_n (m := 268) (pc := 86) (n := 3) (by decide +kernel) rfl (Nat.le_of_ble_eq_true rfl) rfl).trans ?_
        refine (X_iinc (m := 268) (pc := 87) (n := 4) (c := -1) (by decide +kernel) rfl rfl (Nat.le_of_ble_eq_true rfl) rfl).trans ?_
        refine (X_goto (m := 268) (pc := 90) (off := -65) (tg := 25) (by decide +kernel) (by decide +kernel)).trans ?_
        rfl
      · refine (X_iload (m := 268) (pc := 80) (n := 5) (by decide +kernel) rfl).trans ?_
        refine (X_goto (m := 268) (pc := 82) (off := 4) (tg := 86) (by decide +kernel) (by decide +kernel)).trans ?_
        refine (X_istore_n (m := 268) (pc := 86) (n := 3) (by decide +kernel) rfl (Nat.le_of_ble_eq_true rfl) rfl).trans ?_
        refine (X_iinc (m := 268) (pc := 87) (n := 4) (c := -1) (by decide +kernel) rfl rfl (Nat.le_of_ble_eq_true rfl) rfl).trans ?_
        refine (X_goto (m := 268) (pc := 90) (off := -65) (tg := 25) (by decide +kernel) (by decide +kernel)).trans ?_
        rfl
    · refine (X_iload (m := 268) (pc := 68) (n := 4) (by decide +kernel) rfl).trans ?_
      refine (X_goto (m := 268) (pc := 70) (off := 4) (tg := 74) (by decide +kernel) (by decide +kernel)).trans ?_
      refine (X_istore_n (m := 268) (pc := 74) (n := 2) (by decide +kernel) rfl (Nat.le_of_ble_eq_true rfl) rfl).trans ?_
      refine (X_iload (m := 268) (pc := 75) (n := 6) (by decide +kernel) rfl).trans ?_
      refine (X_if_eq (m := 268) (pc := 77) (off := 8) (tg := 85) (by decide +kernel) (by decide +kernel)).trans ?_
      refine ite_congr rfl (fun _ => ?_) (fun _ => ?_)
      · refine (X_iload_n (m := 268) (pc := 85) (n := 3) (by decide +kernel) rfl).trans ?_
        refine (X_istore_n (m := 268) (pc := 86) (n := 3) (by decide +kernel) rfl (Nat.le_of_ble_eq_true rfl) rfl).trans ?_
        refine (X_iinc (m := 268) (pc := 87) (n := 4) (c := -1) (by decide +kernel) rfl rfl (Nat.le_of_ble_eq_true rfl) rfl).trans ?_
        refine (X_goto (m := 268) (pc := 90) (off := -65) (tg := 25) (by decide +kernel) (by decide +kernel)).trans ?_
        rfl
      · refine (X_iload (m := 268) (pc := 80) (n := 5) (by decide +kernel) rfl).trans ?_
        refine (X_goto (m := 268) (pc := 82) (off := 4) (tg := 86) (by decide +kernel) (by decide +kernel)).trans ?_
        refine (X_istore_n (m := 268) (pc := 86) (n := 3) (by decide +kernel) rfl (Nat.le_of_ble_eq_true rfl) rfl).trans ?_
        refine (X_iinc (m := 268) (pc := 87) (n := 4) (c := -1) (by decide +kernel) rfl rfl (Nat.le_of_ble_eq_true rfl) rfl).trans ?_
        refine (X_goto (m := 268) (pc := 90) (off := -65) (tg := 25) (by decide +kernel) (by decide +kernel)).trans ?_
        rfl
  · refine (X_iload_n (m := 268) (pc := 45) (n := 3) (by decide +kernel) rfl).trans ?_
    refine (X_iconst (m := 268) (pc := 46) (n := -1) (by decide +kernel) ).trans ?_
    refine (X_ic_eq (m := 268) (pc := 47) (off := 9) (tg := 56) (by decide +kernel) (by decide +kernel)).trans ?_
    refine ite_congr rfl (fun _ => ?_) (fun _ => ?_)
    · refine (X_iconst (m := 268) (pc := 56) (n := 1) (by decide +kernel) ).trans ?_
      refine (X_goto (m := 268) (pc := 57) (off := 4) (tg := 61) (by decide +kernel) (by decide +kernel)).trans ?_
      refine (X_istore (m := 268) (pc := 61) (n := 6) (by decide +kernel) rfl (Nat.le_of_ble_eq_true rfl) rfl).trans ?_
      refine (X_iload (m := 268) (pc := 63) (n := 6) (by decide +kernel) rfl).trans ?_
      refine (X_if_eq (m := 268) (pc := 65) (off := 8) (tg := 73) (by decide +kernel) (by decide +kernel)).trans ?_
      refine ite_congr rfl (fun _ => ?_) (fun _ => ?_)
      · refine (X_iload_n (m := 268) (pc := 73) (n := 2) (by decide +kernel) rfl).trans ?_
        refine (X_istore_n (m := 268) (pc := 74) (n := 2) (by decide +kernel) rfl (Nat.le_of_ble_eq_true rfl) rfl).trans ?_
        refine (X_iload (m := 268) (pc := 75) (n := 6) (by decide +kernel) rfl).trans ?_
        refine (X_if_eq (m := 268) (pc := 77) (off := 8) (tg := 85) (by decide +kernel) (by decide +kernel)).trans ?_
        refine ite_congr rfl (fun _ => ?_) (fun _ => ?_)
        · refine (X_iload_n (m := 268) (pc := 85) (n := 3) (by decide +kernel) rfl).trans ?_
          refine (X_istore_n (m := 268) (pc := 86) (n := 3) (by decide +kernel) rfl (Nat.le_of_ble_eq_true rfl) rfl).trans ?_
          refine (X_iinc (m := 268) (pc := 87) (n := 4) (c := -1) (by decide +kernel) rfl rfl (Nat.le_of_ble_eq_true rfl) rfl).trans ?_
          refine (X_goto (m := 268) (pc := 90) (off := -65) (tg := 25) (by decide +kernel) (by decide +kernel)).trans ?_
          rfl
        · refine (X_iload (m := 268) (pc := 80) (n := 5) (by decide +kernel) rfl).trans ?_
          refine (X_goto (m := 268) (pc := 82) (off := 4) (tg := 86) (by decide +kernel) (by decide +kernel)).trans ?_
          refine (X_istore_n (m := 268) (pc := 86) (n := 3) (by decide +kernel) rfl (Nat.le_of_ble_eq_true rfl) rfl).trans ?_
          refine (X_iinc (m := 268) (pc := 87) (n := 4) (c := -1) (by decide +kernel) rfl rfl (Nat.le_of_ble_eq_true rfl) rfl).trans ?_
          refine (X_goto (m := 268) (pc := 90) (off := -65) (tg := 25) (by decide +kernel) (by decide +kernel)).trans ?_
          rfl
      · refine (X_iload (m := 268) (pc := 68) (n := 4) (by decide +kernel) rfl).trans ?_
        refine (X_goto (m := 268) (pc := 70) (off := 4) (tg := 74) (by decide +kernel) (by decide +kernel)).trans ?_
        refine (X_istore_n (m := 268) (pc := 74) (n := 2) (by decide +kernel) rfl (Nat.le_of_ble_eq_true rfl) rfl).trans ?_
        refine (X_iload (m := 268) (pc := 75) (n := 6) (by decide +kernel) rfl).trans ?_
        refine (X_if_eq (m := 268) (pc := 77) (off := 8) (tg := 85) (by decide +kernel) (by decide +kernel)).trans ?_
        refine ite_congr rfl (fun _ => ?_) (fun _ => ?_)
        · rfl
        · rfl
    · rfl
theorem B_X11_bestPeriod_85 {k : Nat → Nat × Nat} {u : Nat → Nat → Int} {g : Nat → Nat → Nat} {t : Nat × Nat × Nat} {r0 : Nat} {x1 : Int} {x2 : Int} {x3 : Int} {x4 : Int} {x5 : Int} {x6 : Int} : a_X 268 85 [a_r (r0), a_i (x1), a_i (x2), a_i (x3), a_i (x4), a_i (x5), a_i (x6)] [] (k, u, g, t) = a_X 268 25 [a_r (r0), a_i (x1), a_i (x2), a_i (x3), a_i (wr (x4 + (-1))), a_i (x5), a_i (x6)] [] (k, u, g, t) := by
  refine (X_iload_n (m := 268) (pc := 85) (n := 3) (by decide +kernel) rfl).trans ?_
  refine (X_istore_n (m := 268) (pc := 86) (n := 3) (by decide +kernel) rfl (Nat.le_of_ble_eq_true rfl) rfl).trans ?_
  refine (X_iinc (m := 268) (pc := 87) (n := 4) (c := -1) (by decide +kernel) rfl rfl (Nat.le_of_ble_eq_true rfl) rfl).trans ?_
  refine (X_goto (m := 268) (pc := 90) (off := -65) (tg := 25) (by decide +kernel) (by decide +kernel)).trans ?_
  rfl
theorem B_X11_bestPeriod_80 {k : Nat → Nat × Nat} {u : Nat → Nat → Int} {g : Nat → Nat → Nat} {t : Nat × Nat × Nat} {r0 : Nat} {x1 : Int} {x2 : Int} {x3 : Int} {x4 : Int} {x5 : Int} {x6 : Int} : a_X 268 80 [a_r (r0), a_i (x1), a_i (x2), a_i (x3), a_i (x4), a_i (x5), a_i (x6)] [] (k, u, g, t) = a_X 268 25 [a_r (r0), a_i (x1), a_i (x2), a_i (x5), a_i (wr (x4 + (-1))), a_i (x5), a_i (x6)] [] (k, u, g, t) := by
  refine (X_iload (m := 268) (pc := 80) (n := 5) (by decide +kernel) rfl).trans ?_
  refine (X_goto (m := 268) (pc := 82) (off := 4) (tg := 86) (by decide +kernel) (by decide +kernel)).trans ?_
  refine (X_istore_n (m := 268) (pc := 86) (n := 3) (by decide +kernel) rfl (Nat.le_of_ble_eq_true rfl) rfl).trans ?_
  refine (X_iinc (m := 268) (pc := 87) (n := 4) (c := -1) (by decide +kernel) rfl rfl (Nat.le_of_ble_eq_true rfl) rfl).trans ?_
  refine (X_goto (m := 268) (pc := 90) (off := -65) (tg := 25) (by decide +kernel) (by decide +kernel)).trans ?_
  rfl
theorem B_X11_bestPeriod_50 {k : Nat → Nat × Nat} {u : Nat → Nat → Int} {g : Nat → Nat → Nat} {t : Nat × Nat × Nat} {r0 : Nat} {x1 : Int} {x2 : Int} {x3 : Int} {x4 : Int} {x5 : Int} {v6 : AV} : a_X 268 50 [a_r (r0), a_i (x1), a_i (x2), a_i (x3), a_i (x4), a_i (x5), v6] [] (k, u, g, t) = if (x5 : Int) ≥ (x3 : Int) then if (0 : Int) = 0 then if (0 : Int) = 0 then a_X 268 25 [a_r (r0), a_i (x1), a_i (x2), a_i (x3), a_i (wr (x4 + (-1))), a_i (x5), a_i (0)] [] (k, u, g, t) else a_X 268 25 [a_r (r0), a_i (x1), a_i (x2), a_i (x5), a_i (wr (x4 + (-1))), a_i (x5), a_i (0)] [] (k, u, g, t) else if (0 : Int) = 0 then a_X 268 25 [a_r (r0), a_i (x1), a_i (x4), a_i (x3), a_i (wr (x4 + (-1))), a_i (x5), a_i (0)] [] (k, u, g, t) else a_X 268 25 [a_r (r0), a_i (x1), a_i (x4), a_i (x5), a_i (wr (x4 + (-1))), a_i (x5), a_i (0)] [] (k, u, g, t) else if (1 : Int) = 0 then if (1 : Int) = 0 then a_X 268 25 [a_r (r0), a_i (x1), a_i (x2), a_i (x3), a_i (wr (x4 + (-1))), a_i (x5), a_i (1)] [] (k, u, g, t) else a_X 268 25 [a_r (r0), a_i (x1), a_i (x2), a_i (x5), a_i (wr (x4 + (-1))), a_i (x5), a_i (1)] [] (k, u, g, t) else if (1 : Int) = 0 then a_X 268 25 [a_r (r0), a_i (x1), a_i (x4), a_i (x3), a_i (wr (x4 + (-1))), a_i (x5), a_i (1)] [] (k, u, g, t) else a_X 268 80 [a_r (r0), a_i (x1), a_i (x4), a_i (x3), a_i (x4), a_i (x5), a_i (1)] [] (k, u, g, t) := by
  refine (X_iload (m := 268) (pc := 50) (n := 5) (by decide +kernel) rfl).trans ?_
  refine (X_iload_n (m := 268) (pc := 52) (n := 3) (by decide +kernel) rfl).trans ?_
  refine (X_ic_ge (m := 268) (pc := 53) (off := 7) (tg := 60) (by decide +kernel) (by decide +kernel)).trans ?_
  refine ite_congr rfl (fun _ => ?_) (fun _ => ?_)
  · refine (X_iconst (m := 268) (pc := 60) (n := 0) (by decide +kernel) ).trans ?_
    refine (X_istore (m := 268) (pc := 61) (n := 6) (by decide +kernel) rfl (Nat.le_of_ble_eq_true rfl) rfl).trans ?_
    refine (X_iload (m := 268) (pc := 63) (n := 6) (by decide +kernel) rfl).trans ?_
    refine (X_if_eq (m := 268) (pc := 65) (off := 8) (tg := 73) (by decide +kernel) (by decide +kernel)).trans ?_
    refine ite_congr rfl (fun _ => ?_) (fun _ => ?_)
    · refine (X_iload_n (m := 268) (pc := 73) (n := 2) (by decide +kernel) rfl).trans ?_
      refine (X_istore_n (m := 268) (pc := 74) (n := 2) (by decide +kernel) rfl (Nat.le_of_ble_eq_true rfl) rfl).trans ?_
      refine (X_iload (m := 268) (pc := 75) (n := 6) (by decide +kernel) rfl).trans ?_
      refine (X_if_eq (m := 268) (pc := 77) (off := 8) (tg := 85) (by decide +kernel) (by decide +kernel)).trans ?_
      refine ite_congr rfl (fun _ => ?_) (fun _ => ?_)
      · refine (X_iload_n (m := 268) (pc := 85) (n := 3) (by decide +kernel) rfl).trans ?_
        refine (X_istore_n (m := 268) (pc := 86) (n := 3) (by decide +kernel) rfl (Nat.le_of_ble_eq_true rfl) rfl).trans ?_
        refine (X_iinc (m := 268) (pc := 87) (n := 4) (c := -1) (by decide +kernel) rfl rfl (Nat.le_of_ble_eq_true rfl) rfl).trans ?_
        refine (X_goto (m := 268) (pc := 90) (off := -65) (tg := 25) (by decide +kernel) (by decide +kernel)).trans ?_
        rfl
      · refine (X_iload (m := 268) (pc := 80) (n := 5) (by decide +kernel) rfl).trans ?_
        refine (X_goto (m := 268) (pc := 82) (off := 4) (tg := 86) (by decide +kernel) (by decide +kernel)).trans ?_
        refine (X_istore_n (m := 268) (pc := 86) (n := 3) (by decide +kernel) rfl (Nat.le_of_ble_eq_true rfl) rfl).trans ?_
        refine (X_iinc (m := 268) (pc := 87) (n := 4) (c := -1) (by decide +kernel) rfl rfl (Nat.le_of_ble_eq_true rfl) rfl).trans ?_
        refine (X_goto (m := 268) (pc := 90) (off := -65) (tg := 25) (by decide +kernel) (by decide +kernel)).trans ?_
        rfl
    · refine (X_iload (m := 268) (pc := 68) (n := 4) (by decide +kernel) rfl).trans ?_
      refine (X_goto (m := 268) (pc := 70) (off := 4) (tg := 74) (by decide +kernel) (by decide +kernel)).trans ?_
      refine (X_istore_n (m := 268) (pc := 74) (n := 2) (by decide +kernel) rfl (Nat.le_of_ble_eq_true rfl) rfl).trans ?_
      refine (X_iload (m := 268) (pc := 75) (n := 6) (by decide +kernel) rfl).trans ?_
      refine (X_if_eq (m := 268) (pc := 77) (off := 8) (tg := 85) (by decide +kernel) (by decide +kernel)).trans ?_
      refine ite_congr rfl (fun _ => ?_) (fun _ => ?_)
      · refine (X_iload_n (m := 268) (pc := 85) (n := 3) (by decide +kernel) rfl).trans ?_
        refine (X_istore_n (m := 268) (pc := 86) (n := 3) (by decide +kernel) rfl (Nat.le_of_ble_eq_true rfl) rfl).trans ?_
        refine (X_iinc (m := 268) (pc := 87) (n := 4) (c := -1) (by decide +kernel) rfl rfl (Nat.le_of_ble_eq_true rfl) rfl).trans ?_
        refine (X_goto (m := 268) (pc := 90) (off := -65) (tg := 25) (by decide +kernel) (by decide +kernel)).trans ?_
        rfl
      · refine (X_iload (m := 268) (pc := 80) (n := 5) (by decide +kernel) rfl).trans ?_
        refine (X_goto (m := 268) (pc := 82) (off := 4) (tg := 86) (by decide +kernel) (by decide +kernel)).trans ?_
        refine (X_istore_n (m := 268) (pc := 86) (n := 3) (by decide +kernel) rfl (Nat.le_of_ble_eq_true rfl) rfl).trans ?_
        refine (X_iinc (m := 268) (pc := 87) (n := 4) (c := -1) (by decide +kernel) rfl rfl (Nat.le_of_ble_eq_true rfl) rfl).trans ?_
        refine (X_goto (m := 268) (pc := 90) (off := -65) (tg := 25) (by decide +kernel) (by decide +kernel)).trans ?_
        rfl
  · refine (X_iconst (m := 268) (pc := 56) (n := 1) (by decide +kernel) ).trans ?_
    refine (X_goto (m := 268) (pc := 57) (off := 4) (tg := 61) (by decide +kernel) (by decide +kernel)).trans ?_
    refine (X_istore (m := 268) (pc := 61) (n := 6) (by decide +kernel) rfl (Nat.le_of_ble_eq_true rfl) rfl).trans ?_
    refine (X_iload (m := 268) (pc := 63) (n := 6) (by decide +kernel) rfl).trans ?_
    refine (X_if_eq (m := 268) (pc := 65) (off := 8) (tg := 73) (by decide +kernel) (by decide +kernel)).trans ?_
    refine ite_congr rfl (fun _ => ?_) (fun _ => ?_)
    · refine (X_iload_n (m := 268) (pc := 73) (n := 2) (by decide +kernel) rfl).trans ?_
      refine (X_istore_n (m := 268) (pc := 74) (n := 2) (by decide +kernel) rfl (Nat.le_of_ble_eq_true rfl) rfl).trans ?_
      refine (X_iload (m := 268) (pc := 75) (n := 6) (by decide +kernel) rfl).trans ?_
      refine (X_if_eq (m := 268) (pc := 77) (off := 8) (tg := 85) (by decide +kernel) (by decide +kernel)).trans ?_
      refine ite_congr rfl (fun _ => ?_) (fun _ => ?_)
      · refine (X_iload_n (m := 268) (pc := 85) (n := 3) (by decide +kernel) rfl).trans ?_
        refine (X_istore_n (m := 268) (pc := 86) (n := 3) (by decide +kernel) rfl (Nat.le_of_ble_eq_true rfl) rfl).trans ?_
        refine (X_iinc (m := 268) (pc := 87) (n := 4) (c := -1) (by decide +kernel) rfl rfl (Nat.le_of_ble_eq_true rfl) rfl).trans ?_
        refine (X_goto (m := 268) (pc := 90) (off := -65) (tg := 25) (by decide +kernel) (by decide +kernel)).trans ?_
        rfl
      · refine (X_iload (m := 268) (pc := 80) (n := 5) (by decide +kernel) rfl).trans ?_
        refine (X_goto (m := 268) (pc := 82) (off := 4) (tg := 86) (by decide +kernel) (by decide +kernel)).trans ?_
        refine (X_istore_n (m := 268) (pc := 86) (n := 3) (by decide +kernel) rfl (Nat.le_of_ble_eq_true rfl) rfl).trans ?_
        refine (X_iinc (m := 268) (pc := 87) (n := 4) (c := -1) (by decide +kernel) rfl rfl (Nat.le_of_ble_eq_true rfl) rfl).trans ?_
        refine (X_goto (m := 268) (pc := 90) (off := -65) (tg := 25) (by decide +kernel) (by decide +kernel)).trans ?_
        rfl
    · refine (X_iload (m := 268) (pc := 68) (n := 4) (by decide +kernel) rfl).trans ?_
      refine (X_goto (m := 268) (pc := 70) (off := 4) (tg := 74) (by decide +kernel) (by decide +kernel)).trans ?_
      refine (X_istore_n (m := 268) (pc := 74) (n := 2) (by decide +kernel) rfl (Nat.le_of_ble_eq_true rfl) rfl).trans ?_
      refine (X_iload (m := 268) (pc := 75) (n := 6) (by decide +kernel) rfl).trans ?_
      refine (X_if_eq (m := 268) (pc := 77) (off := 8) (tg := 85) (by decide +kernel) (by decide +kernel)).trans ?_
      refine ite_congr rfl (fun _ => ?_) (fun _ => ?_)
      · refine (X_iload_n (m := 268) (pc := 85) (n := 3) (by decide +kernel) rfl).trans ?_
        refine (X_istore_n (m := 268) (pc := 86) (n := 3) (by decide +kernel) rfl (Nat.le_of_ble_eq_true rfl) rfl).trans ?_
        refine (X_iinc (m := 268) (pc := 87) (n := 4) (c := -1) (by decide +kernel) rfl rfl (Nat.le_of_ble_eq_true rfl) rfl).trans ?_
        refine (X_goto (m := 268) (pc := 90) (off := -65) (tg := 25) (by decide +kernel) (by decide +kernel)).trans ?_
        rfl
      · rfl
theorem E_X11_sameShare {σ : AS} {r0 : Nat} : a_m 269 [a_r (r0)] σ = a_X 269 0 [a_r (r0), a_x false, a_x false, a_x false] [] σ := a_m_eq (by rw [a_entry, show m_maxL 269 = 4 from by decide +kernel]; rfl)
theorem B_X11_sameShare_0 {k : Nat → Nat × Nat} {u : Nat → Nat → Int} {g : Nat → Nat → Nat} {t : Nat × Nat × Nat} {r0 : Nat} {v1 : AV} {v2 : AV} {v3 : AV} : a_X 269 0 [a_r (r0), v1, v2, v3] [] (k, u, g, t) = if (k r0).1 = 11 then (a_m 158 [a_r (r0)] (k, u, g, t)).bind (a_back 269 1 3 [a_r (r0), v1, v2, v3] []) else none := by
  refine (X_aload_n (m := 269) (pc := 0) (n := 0) (by decide +kernel) rfl).trans ?_
  refine (X_call_vi (m := 269) (pc := 1) (q := 57) (y := 158) (n := 1) (as := [a_r (r0)]) (rest := []) (by decide +kernel) (by decide +kernel) (by decide +kernel) (by decide +kernel) rfl rfl (Nat.le_of_ble_eq_true rfl) (Nat.le_of_ble_eq_true rfl) rfl (by rw [show m_maxL 158 = 1 from by decide +kernel]; exact Nat.le_of_ble_eq_true rfl)).trans ?_
  exact ite_congr (by simp [a_rcv, show m_recv 158 = 11 from by decide +kernel]) (fun _ => rfl) (fun _ => rfl)
theorem B_X11_sameShare_4 {k : Nat → Nat × Nat} {u : Nat → Nat → Int} {g : Nat → Nat → Nat} {t : Nat × Nat × Nat} {r0 : Nat} {v1 : AV} {v2 : AV} {v3 : AV} {y0 : Int} : a_X 269 4 [a_r (r0), v1, v2, v3] [a_i (y0)] (k, u, g, t) = if (y0 : Int) = 0 then a_X 269 13 [a_r (r0), a_i (0), a_i (0), v3] [] (k, u, g, t) else some (.inl (some (a_f (0))), (k, u, g, t)) := by
  refine (X_if_eq (m := 269) (pc := 4) (off := 5) (tg := 9) (by decide +kernel) (by decide +kernel)).trans ?_
  refine ite_congr rfl (fun _ => ?_) (fun _ => ?_)
  · refine (X_iconst (m := 269) (pc := 9) (n := 0) (by decide +kernel) ).trans ?_
    refine (X_istore_n (m := 269) (pc := 10) (n := 1) (by decide +kernel) rfl (Nat.le_of_ble_eq_true rfl) rfl).trans ?_
    refine (X_iconst (m := 269) (pc := 11) (n := 0) (by decide +kernel) ).trans ?_
    refine (X_istore_n (m := 269) (pc := 12) (n := 2) (by decide +kernel) rfl (Nat.le_of_ble_eq_true rfl) rfl).trans ?_
    rfl
  · refine (X_fconst0 (m := 269) (pc := 7)  (by decide +kernel) ).trans ?_
    exact X_freturn (m := 269) (pc := 8) (by decide +kernel) (by decide +kernel)
theorem B_X11_sameShare_13 {k : Nat → Nat × Nat} {u : Nat → Nat → Int} {g : Nat → Nat → Nat} {t : Nat × Nat × Nat} {r0 : Nat} {x1 : Int} {x2 : Int} {v3 : AV} : a_X 269 13 [a_r (r0), a_i (x1), a_i (x2), v3] [] (k, u, g, t) = if (k r0).1 = 11 then if ((k (g r0 2)).1 = 20 ∨ (k (g r0 2)).1 = 24) ∧ 0 ≤ (3 : Int) ∧ (3 : Int) < ((k (g r0 2)).2 : Int) then if (x2 : Int) ≥ (u (g r0 2) (3 : Int).toNat : Int) then if (k r0).1 = 11 then if ((k (g r0 2)).1 = 20 ∨ (k (g r0 2)).1 = 24) ∧ 0 ≤ (3 : Int) ∧ (3 : Int) < ((k (g r0 2)).2 : Int) then if FP.fdiv (FP.i2f (Int32.ofInt (x1))) (FP.i2f (Int32.ofInt (wr (12 * (u (g r0 2) (3 : Int).toNat))))) &&& 0x7fffffff ≤ 0x7f800000 then some (.inl (some (a_f (FP.fdiv (FP.i2f (Int32.ofInt (x1))) (FP.i2f (Int32.ofInt (wr (12 * (u (g r0 2) (3 : Int).toNat)))))))), (k, u, g, t)) else none else none else none else a_X 269 25 [a_r (r0), a_i (x1), a_i (x2), a_i (0)] [] (k, u, g, t) else none else none := by
  refine (X_iload_n (m := 269) (pc := 13) (n := 2) (by decide +kernel) rfl).trans ?_
  refine (X_aload_n (m := 269) (pc := 14) (n := 0) (by decide +kernel) rfl).trans ?_
  refine (X_getR (m := 269) (pc := 15) (n := 7) (c := 11) (q := 2) (fi := true) (by decide +kernel) (by decide +kernel)).trans ?_
  refine ite_congr rfl (fun _ => ?_) (fun _ => rfl)
  refine (X_iconst (m := 269) (pc := 18) (n := 3) (by decide +kernel) ).trans ?_
  refine (X_iaload (m := 269) (pc := 19)  (by decide +kernel) ).trans ?_
  refine ite_congr rfl (fun _ => ?_) (fun _ => rfl)
  refine (X_ic_ge (m := 269) (pc := 20) (off := 36) (tg := 56) (by decide +kernel) (by decide +kernel)).trans ?_
  refine ite_congr rfl (fun _ => ?_) (fun _ => ?_)
  · refine (X_iload_n (m := 269) (pc := 56) (n := 1) (by decide +kernel) rfl).trans ?_
    refine (X_i2f (m := 269) (pc := 57)  (by decide +kernel) ).trans ?_
    refine (X_bipush (m := 269) (pc := 58) (n := 12) (by decide +kernel) ).trans ?_
    refine (X_aload_n (m := 269) (pc := 60) (n := 0) (by decide +kernel) rfl).trans ?_
    refine (X_getR (m := 269) (pc := 61) (n := 7) (c := 11) (q := 2) (fi := true) (by decide +kernel) (by decide +kernel)).trans ?_
    refine ite_congr rfl (fun _ => ?_) (fun _ => rfl)
    refine (X_iconst (m := 269) (pc := 64) (n := 3) (by decide +kernel) ).trans ?_
    refine (X_iaload (m := 269) (pc := 65)  (by decide +kernel) ).trans ?_
    refine ite_congr rfl (fun _ => ?_) (fun _ => rfl)
    refine (X_imul (m := 269) (pc := 66)  (by decide +kernel) ).trans ?_
    refine (X_i2f (m := 269) (pc := 67)  (by decide +kernel) ).trans ?_
    refine (X_fdiv (m := 269) (pc := 68)  (by decide +kernel) ).trans ?_
    refine ite_congr rfl (fun _ => ?_) (fun _ => rfl)
    exact X_freturn (m := 269) (pc := 69) (by decide +kernel) (by decide +kernel)
  · refine (X_iconst (m := 269) (pc := 23) (n := 0) (by decide +kernel) ).trans ?_
    refine (X_istore_n (m := 269) (pc := 24) (n := 3) (by decide +kernel) rfl (Nat.le_of_ble_eq_true rfl) rfl).trans ?_
    rfl
theorem B_X11_sameShare_25 {k : Nat → Nat × Nat} {u : Nat → Nat → Int} {g : Nat → Nat → Nat} {t : Nat × Nat × Nat} {r0 : Nat} {x1 : Int} {x2 : Int} {x3 : Int} : a_X 269 25 [a_r (r0), a_i (x1), a_i (x2), a_i (x3)] [] (k, u, g, t) = if (x3 : Int) ≥ (12 : Int) then a_X 269 13 [a_r (r0), a_i (x1), a_i (wr (x2 + 1)), a_i (x3)] [] (k, u, g, t) else if (k r0).1 = 11 then (a_m 209 [a_r (r0), a_i (x2), a_i (-1), a_i (x3)] (k, u, g, t)).bind (a_back 269 36 3 [a_r (r0), a_i (x1), a_i (x2), a_i (x3)] [a_i (x1)]) else none := by
  refine (X_iload_n (m := 269) (pc := 25) (n := 3) (by decide +kernel) rfl).trans ?_
  refine (X_bipush (m := 269) (pc := 26) (n := 12) (by decide +kernel) ).trans ?_
  refine (X_ic_ge (m := 269) (pc := 28) (off := 22) (tg := 50) (by decide +kernel) (by decide +kernel)).trans ?_
  refine ite_congr rfl (fun _ => ?_) (fun _ => ?_)
  · refine (X_iinc (m := 269) (pc := 50) (n := 2) (c := 1) (by decide +kernel) rfl rfl (Nat.le_of_ble_eq_true rfl) rfl).trans ?_
    refine (X_goto (m := 269) (pc := 53) (off := -40) (tg := 13) (by decide +kernel) (by decide +kernel)).trans ?_
    rfl
  · refine (X_iload_n (m := 269) (pc := 31) (n := 1) (by decide +kernel) rfl).trans ?_
    refine (X_aload_n (m := 269) (pc := 32) (n := 0) (by decide +kernel) rfl).trans ?_
    refine (X_iload_n (m := 269) (pc := 33) (n := 2) (by decide +kernel) rfl).trans ?_
    refine (X_iconst (m := 269) (pc := 34) (n := -1) (by decide +kernel) ).trans ?_
    refine (X_iload_n (m := 269) (pc := 35) (n := 3) (by decide +kernel) rfl).trans ?_
    refine (X_call_vi (m := 269) (pc := 36) (q := 258) (y := 209) (n := 4) (as := [a_r (r0), a_i (x2), a_i (-1), a_i (x3)]) (rest := [a_i (x1)]) (by decide +kernel) (by decide +kernel) (by decide +kernel) (by decide +kernel) rfl rfl (Nat.le_of_ble_eq_true rfl) (Nat.le_of_ble_eq_true rfl) rfl (by rw [show m_maxL 209 = 6 from by decide +kernel]; exact Nat.le_of_ble_eq_true rfl)).trans ?_
    exact ite_congr (by simp [a_rcv, show m_recv 209 = 11 from by decide +kernel]) (fun _ => rfl) (fun _ => rfl)
theorem B_X11_sameShare_39 {k : Nat → Nat × Nat} {u : Nat → Nat → Int} {g : Nat → Nat → Nat} {t : Nat × Nat × Nat} {r0 : Nat} {x1 : Int} {x2 : Int} {x3 : Int} {y0 : Int} {y1 : Int} : a_X 269 39 [a_r (r0), a_i (x1), a_i (x2), a_i (x3)] [a_i (y1), a_i (y0)] (k, u, g, t) = (a_m 156 [a_i (y1)] (k, u, g, t)).bind (a_back 269 39 3 [a_r (r0), a_i (x1), a_i (x2), a_i (x3)] [a_i (y0)]) := by
  refine (X_call_st (m := 269) (pc := 39) (q := 204) (y := 156) (n := 1) (as := [a_i (y1)]) (rest := [a_i (y0)]) (by decide +kernel) (by decide +kernel) (by decide +kernel) (by decide +kernel) rfl rfl (Nat.le_of_ble_eq_true rfl) (Nat.le_of_ble_eq_true rfl) rfl (by rw [show m_maxL 156 = 1 from by decide +kernel]; exact Nat.le_of_ble_eq_true rfl)).trans ?_
  exact if_pos rfl
theorem B_X11_sameShare_42 {k : Nat → Nat × Nat} {u : Nat → Nat → Int} {g : Nat → Nat → Nat} {t : Nat × Nat × Nat} {r0 : Nat} {x1 : Int} {x2 : Int} {x3 : Int} {y0 : Int} {y1 : Int} : a_X 269 42 [a_r (r0), a_i (x1), a_i (x2), a_i (x3)] [a_i (y1), a_i (y0)] (k, u, g, t) = a_X 269 25 [a_r (r0), a_i (wr (y0 + y1)), a_i (x2), a_i (wr (x3 + 1))] [] (k, u, g, t) := by
  refine (X_iadd (m := 269) (pc := 42)  (by decide +kernel) ).trans ?_
  refine (X_istore_n (m := 269) (pc := 43) (n := 1) (by decide +kernel) rfl (Nat.le_of_ble_eq_true rfl) rfl).trans ?_
  refine (X_iinc (m := 269) (pc := 44) (n := 3) (c := 1) (by decide +kernel) rfl rfl (Nat.le_of_ble_eq_true rfl) rfl).trans ?_
  refine (X_goto (m := 269) (pc := 47) (off := -22) (tg := 25) (by decide +kernel) (by decide +kernel)).trans ?_
  rfl
theorem E_X11_meanBehind {σ : AS} {r0 : Nat} : a_m 270 [a_r (r0)] σ = a_X 270 0 [a_r (r0), a_x false, a_x false] [] σ := a_m_eq (by rw [a_entry, show m_maxL 270 = 3 from by decide +kernel]; rfl)
theorem B_X11_meanBehind_0 {k : Nat → Nat × Nat} {u : Nat → Nat → Int} {g : Nat → Nat → Nat} {t : Nat × Nat × Nat} {r0 : Nat} {v1 : AV} {v2 : AV} : a_X 270 0 [a_r (r0), v1, v2] [] (k, u, g, t) = if (k r0).1 = 11 then (a_m 158 [a_r (r0)] (k, u, g, t)).bind (a_back 270 1 3 [a_r (r0), v1, v2] []) else none := by
  refine (X_aload_n (m := 270) (pc := 0) (n := 0) (by decide +kernel) rfl).trans ?_
  refine (X_call_vi (m := 270) (pc := 1) (q := 57) (y := 158) (n := 1) (as := [a_r (r0)]) (rest := []) (by decide +kernel) (by decide +kernel) (by decide +kernel) (by decide +kernel) rfl rfl (Nat.le_of_ble_eq_true rfl) (Nat.le_of_ble_eq_true rfl) rfl (by rw [show m_maxL 158 = 1 from by decide +kernel]; exact Nat.le_of_ble_eq_true rfl)).trans ?_
  exact ite_congr (by simp [a_rcv, show m_recv 158 = 11 from by decide +kernel]) (fun _ => rfl) (fun _ => rfl)
theorem B_X11_meanBehind_4 {k : Nat → Nat × Nat} {u : Nat → Nat → Int} {g : Nat → Nat → Nat} {t : Nat × Nat × Nat} {r0 : Nat} {v1 : AV} {v2 : AV} {y0 : Int} : a_X 270 4 [a_r (r0), v1, v2] [a_i (y0)] (k, u, g, t) = if (y0 : Int) = 0 then a_X 270 13 [a_r (r0), a_i (0), a_i (0)] [] (k, u, g, t) else some (.inl (some (a_d (0))), (k, u, g, t)) := by
  refine (X_if_eq (m := 270) (pc := 4) (off := 5) (tg := 9) (by decide +kernel) (by decide +kernel)).trans ?_
  refine ite_congr rfl (fun _ => ?_) (fun _ => ?_)
  · refine (X_iconst (m := 270) (pc := 9) (n := 0) (by decide +kernel) ).trans ?_
    refine (X_istore_n (m := 270) (pc := 10) (n := 1) (by decide +kernel) rfl (Nat.le_of_ble_eq_true rfl) rfl).trans ?_
    refine (X_iconst (m := 270) (pc := 11) (n := 0) (by decide +kernel) ).trans ?_
    refine (X_istore_n (m := 270) (pc := 12) (n := 2) (by decide +kernel) rfl (Nat.le_of_ble_eq_true rfl) rfl).trans ?_
    rfl
  · refine (X_dconst0 (m := 270) (pc := 7)  (by decide +kernel) ).trans ?_
    exact X_dreturn (m := 270) (pc := 8) (by decide +kernel) (by decide +kernel)
theorem B_X11_meanBehind_13 {k : Nat → Nat × Nat} {u : Nat → Nat → Int} {g : Nat → Nat → Nat} {t : Nat × Nat × Nat} {r0 : Nat} {x1 : Int} {x2 : Int} : a_X 270 13 [a_r (r0), a_i (x1), a_i (x2)] [] (k, u, g, t) = if (k r0).1 = 11 then if ((k (g r0 2)).1 = 20 ∨ (k (g r0 2)).1 = 24) ∧ 0 ≤ (3 : Int) ∧ (3 : Int) < ((k (g r0 2)).2 : Int) then if (x2 : Int) ≥ (u (g r0 2) (3 : Int).toNat : Int) then if (k r0).1 = 11 then if ((k (g r0 2)).1 = 20 ∨ (k (g r0 2)).1 = 24) ∧ 0 ≤ (3 : Int) ∧ (3 : Int) < ((k (g r0 2)).2 : Int) then if FP.ddiv (FP.i2d (Int32.ofInt (x1))) (FP.i2d (Int32.ofInt (u (g r0 2) (3 : Int).toNat))) &&& 0x7fffffffffffffff ≤ 0x7ff0000000000000 then some (.inl (some (a_d (FP.ddiv (FP.i2d (Int32.ofInt (x1))) (FP.i2d (Int32.ofInt (u (g r0 2) (3 : Int).toNat)))))), (k, u, g, t)) else none else none else none else if (k r0).1 = 11 then (a_m 247 [a_r (r0), a_i (x2)] (k, u, g, t)).bind (a_back 270 26 3 [a_r (r0), a_i (x1), a_i (x2)] [a_i (x1)]) else none else none else none := by
  refine (X_iload_n (m := 270) (pc := 13) (n := 2) (by decide +kernel) rfl).trans ?_
  refine (X_aload_n (m := 270) (pc := 14) (n := 0) (by decide +kernel) rfl).trans ?_
  refine (X_getR (m := 270) (pc := 15) (n := 7) (c := 11) (q := 2) (fi := true) (by decide +kernel) (by decide +kernel)).trans ?_
  refine ite_congr rfl (fun _ => ?_) (fun _ => rfl)
  refine (X_iconst (m := 270) (pc := 18) (n := 3) (by decide +kernel) ).trans ?_
  refine (X_iaload (m := 270) (pc := 19)  (by decide +kernel) ).trans ?_
  refine ite_congr rfl (fun _ => ?_) (fun _ => rfl)
  refine (X_ic_ge (m := 270) (pc := 20) (off := 17) (tg := 37) (by decide +kernel) (by decide +kernel)).trans ?_
  refine ite_congr rfl (fun _ => ?_) (fun _ => ?_)
  · refine (X_iload_n (m := 270) (pc := 37) (n := 1) (by decide +kernel) rfl).trans ?_
    refine (X_i2d (m := 270) (pc := 38)  (by decide +kernel) ).trans ?_
    refine (X_aload_n (m := 270) (pc := 39) (n := 0) (by decide +kernel) rfl).trans ?_
    refine (X_getR (m := 270) (pc := 40) (n := 7) (c := 11) (q := 2) (fi := true) (by decide +kernel) (by decide +kernel)).trans ?_
    refine ite_congr rfl (fun _ => ?_) (fun _ => rfl)
    refine (X_iconst (m := 270) (pc := 43) (n := 3) (by decide +kernel) ).trans ?_
    refine (X_iaload (m := 270) (pc := 44)  (by decide +kernel) ).trans ?_
    refine ite_congr rfl (fun _ => ?_) (fun _ => rfl)
    refine (X_i2d (m := 270) (pc := 45)  (by decide +kernel) ).trans ?_
    refine (X_ddiv (m := 270) (pc := 46)  (by decide +kernel) ).trans ?_
    refine ite_congr rfl (fun _ => ?_) (fun _ => rfl)
    exact X_dreturn (m := 270) (pc := 47) (by decide +kernel) (by decide +kernel)
  · refine (X_iload_n (m := 270) (pc := 23) (n := 1) (by decide +kernel) rfl).trans ?_
    refine (X_aload_n (m := 270) (pc := 24) (n := 0) (by decide +kernel) rfl).trans ?_
    refine (X_iload_n (m := 270) (pc := 25) (n := 2) (by decide +kernel) rfl).trans ?_
    refine (X_call_vi (m := 270) (pc := 26) (q := 357) (y := 247) (n := 2) (as := [a_r (r0), a_i (x2)]) (rest := [a_i (x1)]) (by decide +kernel) (by decide +kernel) (by decide +kernel) (by decide +kernel) rfl rfl (Nat.le_of_ble_eq_true rfl) (Nat.le_of_ble_eq_true rfl) rfl (by rw [show m_maxL 247 = 2 from by decide +kernel]; exact Nat.le_of_ble_eq_true rfl)).trans ?_
    exact ite_congr (by simp [a_rcv, show m_recv 247 = 11 from by decide +kernel]) (fun _ => rfl) (fun _ => rfl)
theorem B_X11_meanBehind_29 {k : Nat → Nat × Nat} {u : Nat → Nat → Int} {g : Nat → Nat → Nat} {t : Nat × Nat × Nat} {r0 : Nat} {x1 : Int} {x2 : Int} {y0 : Int} {y1 : Int} : a_X 270 29 [a_r (r0), a_i (x1), a_i (x2)] [a_i (y1), a_i (y0)] (k, u, g, t) = a_X 270 13 [a_r (r0), a_i (wr (y0 + y1)), a_i (wr (x2 + 1))] [] (k, u, g, t) := by
  refine (X_iadd (m := 270) (pc := 29)  (by decide +kernel) ).trans ?_
  refine (X_istore_n (m := 270) (pc := 30) (n := 1) (by decide +kernel) rfl (Nat.le_of_ble_eq_true rfl) rfl).trans ?_
  refine (X_iinc (m := 270) (pc := 31) (n := 2) (c := 1) (by decide +kernel) rfl rfl (Nat.le_of_ble_eq_true rfl) rfl).trans ?_
  refine (X_goto (m := 270) (pc := 34) (off := -21) (tg := 13) (by decide +kernel) (by decide +kernel)).trans ?_
  rfl
theorem E_X11_says {σ : AS} {r0 : Nat} {x1 : Int} : a_m 271 [a_r (r0), a_i (x1)] σ = a_X 271 0 [a_r (r0), a_i (x1)] [] σ := a_m_eq (by rw [a_entry, show m_maxL 271 = 2 from by decide +kernel]; rfl)
theorem B_X11_says_0 {k : Nat → Nat × Nat} {u : Nat → Nat → Int} {g : Nat → Nat → Nat} {t : Nat × Nat × Nat} {r0 : Nat} {x1 : Int} : a_X 271 0 [a_r (r0), a_i (x1)] [] (k, u, g, t) = if (k r0).1 = 11 then if (k r0).1 = 11 then if (k (g r0 23)).1 = 20 ∧ 0 ≤ (u r0 24 : Int) ∧ (u r0 24 : Int) < ((k (g r0 23)).2 : Int) then if (k r0).1 = 11 then if (k r0).1 = 11 then some (.inl none, (k, (upm (upm u (g r0 23) (u r0 24 : Int).toNat x1) r0 24 (wr (((upm u (g r0 23) (u r0 24 : Int).toNat x1) r0 24) + 1))), g, t)) else none else none else none else none else none := by
  refine (X_aload_n (m := 271) (pc := 0) (n := 0) (by decide +kernel) rfl).trans ?_
  refine (X_getR (m := 271) (pc := 1) (n := 43) (c := 11) (q := 23) (fi := true) (by decide +kernel) (by decide +kernel)).trans ?_
  refine ite_congr rfl (fun _ => ?_) (fun _ => rfl)
  refine (X_aload_n (m := 271) (pc := 4) (n := 0) (by decide +kernel) rfl).trans ?_
  refine (X_getI (m := 271) (pc := 5) (n := 395) (c := 11) (q := 24) (ty := 1) (fi := false) (by decide +kernel) (by decide +kernel) (by decide +kernel)).trans ?_
  refine ite_congr rfl (fun _ => ?_) (fun _ => rfl)
  refine (X_iload_n (m := 271) (pc := 8) (n := 1) (by decide +kernel) rfl).trans ?_
  refine (X_iastore (m := 271) (pc := 9)  (by decide +kernel) ).trans ?_
  refine ite_congr rfl (fun _ => ?_) (fun _ => rfl)
  refine (X_aload_n (m := 271) (pc := 10) (n := 0) (by decide +kernel) rfl).trans ?_
  refine (X_dup (m := 271) (pc := 11)  (by decide +kernel) rfl rfl).trans ?_
  refine (X_getI (m := 271) (pc := 12) (n := 395) (c := 11) (q := 24) (ty := 1) (fi := false) (by decide +kernel) (by decide +kernel) (by decide +kernel)).trans ?_
  refine ite_congr rfl (fun _ => ?_) (fun _ => rfl)
  refine (X_iconst (m := 271) (pc := 15) (n := 1) (by decide +kernel) ).trans ?_
  refine (X_iadd (m := 271) (pc := 16)  (by decide +kernel) ).trans ?_
  refine (X_putI (m := 271) (pc := 17) (n := 395) (c := 11) (q := 24) (fi := false) (by decide +kernel) (by decide +kernel) (fun h => by cases h) (by decide +kernel)).trans ?_
  refine ite_congr rfl (fun _ => ?_) (fun _ => rfl)
  exact X_return (m := 271) (pc := 20) (by decide +kernel) (by decide +kernel)
theorem E_X11_saysNumber {σ : AS} {r0 : Nat} {x1 : Int} : a_m 272 [a_r (r0), a_i (x1)] σ = a_X 272 0 [a_r (r0), a_i (x1), a_x false] [] σ := a_m_eq (by rw [a_entry, show m_maxL 272 = 3 from by decide +kernel]; rfl)
theorem B_X11_saysNumber_0 {k : Nat → Nat × Nat} {u : Nat → Nat → Int} {g : Nat → Nat → Nat} {t : Nat × Nat × Nat} {r0 : Nat} {x1 : Int} {v2 : AV} : a_X 272 0 [a_r (r0), a_i (x1), v2] [] (k, u, g, t) = a_X 272 2 [a_r (r0), a_i (x1), a_i (1)] [] (k, u, g, t) := by
  refine (X_iconst (m := 272) (pc := 0) (n := 1) (by decide +kernel) ).trans ?_
  refine (X_istore_n (m := 272) (pc := 1) (n := 2) (by decide +kernel) rfl (Nat.le_of_ble_eq_true rfl) rfl).trans ?_
  rfl
theorem B_X11_saysNumber_2 {k : Nat → Nat × Nat} {u : Nat → Nat → Int} {g : Nat → Nat → Nat} {t : Nat × Nat × Nat} {r0 : Nat} {x1 : Int} {x2 : Int} : a_X 272 2 [a_r (r0), a_i (x1), a_i (x2)] [] (k, u, g, t) = if (x2 : Int) ≠ 0 then if (wr (Int.tdiv (x1) (x2)) : Int) ≤ (9 : Int) then a_X 272 18 [a_r (r0), a_i (x1), a_i (x2)] [] (k, u, g, t) else a_X 272 2 [a_r (r0), a_i (x1), a_i (wr (x2 * 10))] [] (k, u, g, t) else none := by
  refine (X_iload_n (m := 272) (pc := 2) (n := 1) (by decide +kernel) rfl).trans ?_
  refine (X_iload_n (m := 272) (pc := 3) (n := 2) (by decide +kernel) rfl).trans ?_
  refine (X_idiv (m := 272) (pc := 4)  (by decide +kernel) ).trans ?_
  refine ite_congr rfl (fun _ => ?_) (fun _ => rfl)
  refine (X_bipush (m := 272) (pc := 5) (n := 9) (by decide +kernel) ).trans ?_
  refine (X_ic_le (m := 272) (pc := 7) (off := 11) (tg := 18) (by decide +kernel) (by decide +kernel)).trans ?_
  refine ite_congr rfl (fun _ => ?_) (fun _ => ?_)
  · rfl
  · refine (X_iload_n (m := 272) (pc := 10) (n := 2) (by decide +kernel) rfl).trans ?_
    refine (X_bipush (m := 272) (pc := 11) (n := 10) (by decide +kernel) ).trans ?_
    refine (X_imul (m := 272) (pc := 13)  (by decide +kernel) ).trans ?_
    refine (X_istore_n (m := 272) (pc := 14) (n := 2) (by decide +kernel) rfl (Nat.le_of_ble_eq_true rfl) rfl).trans ?_
    refine (X_goto (m := 272) (pc := 15) (off := -13) (tg := 2) (by decide +kernel) (by decide +kernel)).trans ?_
    rfl
theorem B_X11_saysNumber_18 {k : Nat → Nat × Nat} {u : Nat → Nat → Int} {g : Nat → Nat → Nat} {t : Nat × Nat × Nat} {r0 : Nat} {x1 : Int} {x2 : Int} : a_X 272 18 [a_r (r0), a_i (x1), a_i (x2)] [] (k, u, g, t) = if (x2 : Int) ≤ 0 then some (.inl none, (k, u, g, t)) else if (x2 : Int) ≠ 0 then if (10 : Int) ≠ 0 then if (k r0).1 = 11 then (a_m 271 [a_r (r0), a_i (wr (48 + (Int.tmod (wr (Int.tdiv (x1) (x2))) (10))))] (k, u, g, t)).bind (a_back 272 32 3 [a_r (r0), a_i (x1), a_i (x2)] []) else none else none else none := by
  refine (X_iload_n (m := 272) (pc := 18) (n := 2) (by decide +kernel) rfl).trans ?_
  refine (X_if_le (m := 272) (pc := 19) (off := 24) (tg := 43) (by decide +kernel) (by decide +kernel)).trans ?_
  refine ite_congr rfl (fun _ => ?_) (fun _ => ?_)
  · exact X_return (m := 272) (pc := 43) (by decide +kernel) (by decide +kernel)
  · refine (X_aload_n (m := 272) (pc := 22) (n := 0) (by decide +kernel) rfl).trans ?_
    refine (X_bipush (m := 272) (pc := 23) (n := 48) (by decide +kernel) ).trans ?_
    refine (X_iload_n (m := 272) (pc := 25) (n := 1) (by decide +kernel) rfl).trans ?_
    refine (X_iload_n (m := 272) (pc := 26) (n := 2) (by decide +kernel) rfl).trans ?_
    refine (X_idiv (m := 272) (pc := 27)  (by decide +kernel) ).trans ?_
    refine ite_congr rfl (fun _ => ?_) (fun _ => rfl)
    refine (X_bipush (m := 272) (pc := 28) (n := 10) (by decide +kernel) ).trans ?_
    refine (X_irem (m := 272) (pc := 30)  (by decide +kernel) ).trans ?_
    refine ite_congr rfl (fun _ => ?_) (fun _ => rfl)
    refine (X_iadd (m := 272) (pc := 31)  (by decide +kernel) ).trans ?_
    refine (X_call_vi (m := 272) (pc := 32) (q := 398) (y := 271) (n := 2) (as := [a_r (r0), a_i (wr (48 + (Int.tmod (wr (Int.tdiv (x1) (x2))) (10))))]) (rest := []) (by decide +kernel) (by decide +kernel) (by decide +kernel) (by decide +kernel) rfl rfl (Nat.le_of_ble_eq_true rfl) (Nat.le_of_ble_eq_true rfl) rfl (by rw [show m_maxL 271 = 2 from by decide +kernel]; exact Nat.le_of_ble_eq_true rfl)).trans ?_
    exact ite_congr (by simp [a_rcv, show m_recv 271 = 11 from by decide +kernel]) (fun _ => rfl) (fun _ => rfl)
theorem B_X11_saysNumber_35 {k : Nat → Nat × Nat} {u : Nat → Nat → Int} {g : Nat → Nat → Nat} {t : Nat × Nat × Nat} {r0 : Nat} {x1 : Int} {x2 : Int} : a_X 272 35 [a_r (r0), a_i (x1), a_i (x2)] [] (k, u, g, t) = if (10 : Int) ≠ 0 then a_X 272 18 [a_r (r0), a_i (x1), a_i (wr (Int.tdiv (x2) (10)))] [] (k, u, g, t) else none := by
  refine (X_iload_n (m := 272) (pc := 35) (n := 2) (by decide +kernel) rfl).trans ?_
  refine (X_bipush (m := 272) (pc := 36) (n := 10) (by decide +kernel) ).trans ?_
  refine (X_idiv (m := 272) (pc := 38)  (by decide +kernel) ).trans ?_
  refine ite_congr rfl (fun _ => ?_) (fun _ => rfl)
  refine (X_istore_n (m := 272) (pc := 39) (n := 2) (by decide +kernel) rfl (Nat.le_of_ble_eq_true rfl) rfl).trans ?_
  refine (X_goto (m := 272) (pc := 40) (off := -22) (tg := 18) (by decide +kernel) (by decide +kernel)).trans ?_
  rfl
theorem E_X11_writeDay {σ : AS} {r0 : Nat} {x1 : Int} {x2 : Int} : a_m 273 [a_r (r0), a_i (x1), a_i (x2)] σ = a_X 273 0 [a_r (r0), a_i (x1), a_i (x2), a_x false] [] σ := a_m_eq (by rw [a_entry, show m_maxL 273 = 4 from by decide +kernel]; rfl)
theorem B_X11_writeDay_0 {k : Nat → Nat × Nat} {u : Nat → Nat → Int} {g : Nat → Nat → Nat} {t : Nat × Nat × Nat} {r0 : Nat} {x1 : Int} {x2 : Int} {v3 : AV} : a_X 273 0 [a_r (r0), a_i (x1), a_i (x2), v3] [] (k, u, g, t) = if (k r0).1 = 11 then (a_m 233 [a_r (r0), a_i (x1), a_i (x2)] (k, u, g, t)).bind (a_back 273 3 3 [a_r (r0), a_i (x1), a_i (x2), v3] []) else none := by
  refine (X_aload_n (m := 273) (pc := 0) (n := 0) (by decide +kernel) rfl).trans ?_
  refine (X_iload_n (m := 273) (pc := 1) (n := 1) (by decide +kernel) rfl).trans ?_
  refine (X_iload_n (m := 273) (pc := 2) (n := 2) (by decide +kernel) rfl).trans ?_
  refine (X_call_vi (m := 273) (pc := 3) (q := 334) (y := 233) (n := 3) (as := [a_r (r0), a_i (x1), a_i (x2)]) (rest := []) (by decide +kernel) (by decide +kernel) (by decide +kernel) (by decide +kernel) rfl rfl (Nat.le_of_ble_eq_true rfl) (Nat.le_of_ble_eq_true rfl) rfl (by rw [show m_maxL 233 = 3 from by decide +kernel]; exact Nat.le_of_ble_eq_true rfl)).trans ?_
  exact ite_congr (by simp [a_rcv, show m_recv 233 = 11 from by decide +kernel]) (fun _ => rfl) (fun _ => rfl)
theorem B_X11_writeDay_6 {k : Nat → Nat × Nat} {u : Nat → Nat → Int} {g : Nat → Nat → Nat} {t : Nat × Nat × Nat} {r0 : Nat} {x1 : Int} {x2 : Int} {v3 : AV} {y0 : Int} : a_X 273 6 [a_r (r0), a_i (x1), a_i (x2), v3] [a_i (y0)] (k, u, g, t) = if (y0 : Int) = 0 then if (k r0).1 = 11 then (a_m 232 [a_r (r0), a_i (x1), a_i (x2)] (k, u, g, t)).bind (a_back 273 14 3 [a_r (r0), a_i (x1), a_i (x2), v3] []) else none else some (.inl (some (a_i (0))), (k, u, g, t)) := by
  refine (X_if_eq (m := 273) (pc := 6) (off := 5) (tg := 11) (by decide +kernel) (by decide +kernel)).trans ?_
  refine ite_congr rfl (fun _ => ?_) (fun _ => ?_)
  · refine (X_aload_n (m := 273) (pc := 11) (n := 0) (by decide +kernel) rfl).trans ?_
    refine (X_iload_n (m := 273) (pc := 12) (n := 1) (by decide +kernel) rfl).trans ?_
    refine (X_iload_n (m := 273) (pc := 13) (n := 2) (by decide +kernel) rfl).trans ?_
    refine (X_call_vi (m := 273) (pc := 14) (q := 337) (y := 232) (n := 3) (as := [a_r (r0), a_i (x1), a_i (x2)]) (rest := []) (by decide +kernel) (by decide +kernel) (by decide +kernel) (by decide +kernel) rfl rfl (Nat.le_of_ble_eq_true rfl) (Nat.le_of_ble_eq_true rfl) rfl (by rw [show m_maxL 232 = 4 from by decide +kernel]; exact Nat.le_of_ble_eq_true rfl)).trans ?_
    exact ite_congr (by simp [a_rcv, show m_recv 232 = 11 from by decide +kernel]) (fun _ => rfl) (fun _ => rfl)
  · refine (X_iconst (m := 273) (pc := 9) (n := 0) (by decide +kernel) ).trans ?_
    exact X_ireturn (m := 273) (pc := 10) (f := 1) (by decide +kernel) (by decide +kernel) rfl
theorem B_X11_writeDay_17 {k : Nat → Nat × Nat} {u : Nat → Nat → Int} {g : Nat → Nat → Nat} {t : Nat × Nat × Nat} {r0 : Nat} {x1 : Int} {x2 : Int} {v3 : AV} : a_X 273 17 [a_r (r0), a_i (x1), a_i (x2), v3] [] (k, u, g, t) = if (k r0).1 = 11 then if (k r0).1 = 11 then if ((upm u r0 24 0) r0 22 : Int) ≠ 0 then a_X 273 37 [a_r (r0), a_i (x1), a_i (x2), a_i (0)] [] (k, (upm u r0 24 0), g, t) else if (k r0).1 = 11 then (a_m 271 [a_r (r0), a_i (45)] (k, (upm u r0 24 0), g, t)).bind (a_back 273 32 3 [a_r (r0), a_i (x1), a_i (x2), v3] []) else none else none else none := by
  refine (X_aload_n (m := 273) (pc := 17) (n := 0) (by decide +kernel) rfl).trans ?_
  refine (X_iconst (m := 273) (pc := 18) (n := 0) (by decide +kernel) ).trans ?_
  refine (X_putI (m := 273) (pc := 19) (n := 395) (c := 11) (q := 24) (fi := false) (by decide +kernel) (by decide +kernel) (fun h => by cases h) (by decide +kernel)).trans ?_
  refine ite_congr rfl (fun _ => ?_) (fun _ => rfl)
  refine (X_aload_n (m := 273) (pc := 22) (n := 0) (by decide +kernel) rfl).trans ?_
  refine (X_getI (m := 273) (pc := 23) (n := 322) (c := 11) (q := 22) (ty := 1) (fi := false) (by decide +kernel) (by decide +kernel) (by decide +kernel)).trans ?_
  refine ite_congr rfl (fun _ => ?_) (fun _ => rfl)
  refine (X_if_ne (m := 273) (pc := 26) (off := 9) (tg := 35) (by decide +kernel) (by decide +kernel)).trans ?_
  refine ite_congr rfl (fun _ => ?_) (fun _ => ?_)
  · refine (X_iconst (m := 273) (pc := 35) (n := 0) (by decide +kernel) ).trans ?_
    refine (X_istore_n (m := 273) (pc := 36) (n := 3) (by decide +kernel) rfl (Nat.le_of_ble_eq_true rfl) rfl).trans ?_
    rfl
  · refine (X_aload_n (m := 273) (pc := 29) (n := 0) (by decide +kernel) rfl).trans ?_
    refine (X_bipush (m := 273) (pc := 30) (n := 45) (by decide +kernel) ).trans ?_
    refine (X_call_vi (m := 273) (pc := 32) (q := 398) (y := 271) (n := 2) (as := [a_r (r0), a_i (45)]) (rest := []) (by decide +kernel) (by decide +kernel) (by decide +kernel) (by decide +kernel) rfl rfl (Nat.le_of_ble_eq_true rfl) (Nat.le_of_ble_eq_true rfl) rfl (by rw [show m_maxL 271 = 2 from by decide +kernel]; exact Nat.le_of_ble_eq_true rfl)).trans ?_
    exact ite_congr (by simp [a_rcv, show m_recv 271 = 11 from by decide +kernel]) (fun _ => rfl) (fun _ => rfl)
theorem B_X11_writeDay_37 {k : Nat → Nat × Nat} {u : Nat → Nat → Int} {g : Nat → Nat → Nat} {t : Nat × Nat × Nat} {r0 : Nat} {x1 : Int} {x2 : Int} {x3 : Int} : a_X 273 37 [a_r (r0), a_i (x1), a_i (x2), a_i (x3)] [] (k, u, g, t) = if (k r0).1 = 11 then if (x3 : Int) ≥ (u r0 22 : Int) then if (k r0).1 = 11 then some (.inl (some (a_i (u r0 24))), (k, u, g, t)) else none else if (x3 : Int) ≤ 0 then if (k r0).1 = 11 then if ((k (g r0 18)).1 = 20 ∨ (k (g r0 18)).1 = 24) ∧ 0 ≤ (x3 : Int) ∧ (x3 : Int) < ((k (g r0 18)).2 : Int) then if (k r0).1 = 11 then (a_m 272 [a_r (r0), a_i (u (g r0 18) (x3 : Int).toNat)] (k, u, g, t)).bind (a_back 273 62 3 [a_r (r0), a_i (x1), a_i (x2), a_i (x3)] []) else none else none else none else if (k r0).1 = 11 then (a_m 271 [a_r (r0), a_i (32)] (k, u, g, t)).bind (a_back 273 52 3 [a_r (r0), a_i (x1), a_i (x2), a_i (x3)] []) else none else none := by
  refine (X_iload_n (m := 273) (pc := 37) (n := 3) (by decide +kernel) rfl).trans ?_
  refine (X_aload_n (m := 273) (pc := 38) (n := 0) (by decide +kernel) rfl).trans ?_
  refine (X_getI (m := 273) (pc := 39) (n := 322) (c := 11) (q := 22) (ty := 1) (fi := false) (by decide +kernel) (by decide +kernel) (by decide +kernel)).trans ?_
  refine ite_congr rfl (fun _ => ?_) (fun _ => rfl)
  refine (X_ic_ge (m := 273) (pc := 42) (off := 61) (tg := 103) (by decide +kernel) (by decide +kernel)).trans ?_
  refine ite_congr rfl (fun _ => ?_) (fun _ => ?_)
  · refine (X_aload_n (m := 273) (pc := 103) (n := 0) (by decide +kernel) rfl).trans ?_
    refine (X_getI (m := 273) (pc := 104) (n := 395) (c := 11) (q := 24) (ty := 1) (fi := false) (by decide +kernel) (by decide +kernel) (by decide +kernel)).trans ?_
    refine ite_congr rfl (fun _ => ?_) (fun _ => rfl)
    exact X_ireturn (m := 273) (pc := 107) (f := 1) (by decide +kernel) (by decide +kernel) rfl
  · refine (X_iload_n (m := 273) (pc := 45) (n := 3) (by decide +kernel) rfl).trans ?_
    refine (X_if_le (m := 273) (pc := 46) (off := 9) (tg := 55) (by decide +kernel) (by decide +kernel)).trans ?_
    refine ite_congr rfl (fun _ => ?_) (fun _ => ?_)
    · refine (X_aload_n (m := 273) (pc := 55) (n := 0) (by decide +kernel) rfl).trans ?_
      refine (X_aload_n (m := 273) (pc := 56) (n := 0) (by decide +kernel) rfl).trans ?_
      refine (X_getR (m := 273) (pc := 57) (n := 31) (c := 11) (q := 18) (fi := true) (by decide +kernel) (by decide +kernel)).trans ?_
      refine ite_congr rfl (fun _ => ?_) (fun _ => rfl)
      refine (X_iload_n (m := 273) (pc := 60) (n := 3) (by decide +kernel) rfl).trans ?_
      refine (X_iaload (m := 273) (pc := 61)  (by decide +kernel) ).trans ?_
      refine ite_congr rfl (fun _ => ?_) (fun _ => rfl)
      refine (X_call_vi (m := 273) (pc := 62) (q := 401) (y := 272) (n := 2) (as := [a_r (r0), a_i (u (g r0 18) (x3 : Int).toNat)]) (rest := []) (by decide +kernel) (by decide +kernel) (by decide +kernel) (by decide +kernel) rfl rfl (Nat.le_of_ble_eq_true rfl) (Nat.le_of_ble_eq_true rfl) rfl (by rw [show m_maxL 272 = 3 from by decide +kernel]; exact Nat.le_of_ble_eq_true rfl)).trans ?_
      exact ite_congr (by simp [a_rcv, show m_recv 272 = 11 from by decide +kernel]) (fun _ => rfl) (fun _ => rfl)
    · refine (X_aload_n (m := 273) (pc := 49) (n := 0) (by decide +kernel) rfl).trans ?_
      refine (X_bipush (m := 273) (pc := 50) (n := 32) (by decide +kernel) ).trans ?_
      refine (X_call_vi (m := 273) (pc := 52) (q := 398) (y := 271) (n := 2) (as := [a_r (r0), a_i (32)]) (rest := []) (by decide +kernel) (by decide +kernel) (by decide +kernel) (by decide +kernel) rfl rfl (Nat.le_of_ble_eq_true rfl) (Nat.le_of_ble_eq_true rfl) rfl (by rw [show m_maxL 271 = 2 from by decide +kernel]; exact Nat.le_of_ble_eq_true rfl)).trans ?_
      exact ite_congr (by simp [a_rcv, show m_recv 271 = 11 from by decide +kernel]) (fun _ => rfl) (fun _ => rfl)
theorem B_X11_writeDay_35 {k : Nat → Nat × Nat} {u : Nat → Nat → Int} {g : Nat → Nat → Nat} {t : Nat × Nat × Nat} {r0 : Nat} {x1 : Int} {x2 : Int} {v3 : AV} : a_X 273 35 [a_r (r0), a_i (x1), a_i (x2), v3] [] (k, u, g, t) = a_X 273 37 [a_r (r0), a_i (x1), a_i (x2), a_i (0)] [] (k, u, g, t) := by
  refine (X_iconst (m := 273) (pc := 35) (n := 0) (by decide +kernel) ).trans ?_
  refine (X_istore_n (m := 273) (pc := 36) (n := 3) (by decide +kernel) rfl (Nat.le_of_ble_eq_true rfl) rfl).trans ?_
  rfl
theorem B_X11_writeDay_65 {k : Nat → Nat × Nat} {u : Nat → Nat → Int} {g : Nat → Nat → Nat} {t : Nat × Nat × Nat} {r0 : Nat} {x1 : Int} {x2 : Int} {x3 : Int} : a_X 273 65 [a_r (r0), a_i (x1), a_i (x2), a_i (x3)] [] (k, u, g, t) = if (k r0).1 = 11 then (a_m 271 [a_r (r0), a_i (64)] (k, u, g, t)).bind (a_back 273 68 3 [a_r (r0), a_i (x1), a_i (x2), a_i (x3)] []) else none := by
  refine (X_aload_n (m := 273) (pc := 65) (n := 0) (by decide +kernel) rfl).trans ?_
  refine (X_bipush (m := 273) (pc := 66) (n := 64) (by decide +kernel) ).trans ?_
  refine (X_call_vi (m := 273) (pc := 68) (q := 398) (y := 271) (n := 2) (as := [a_r (r0), a_i (64)]) (rest := []) (by decide +kernel) (by decide +kernel) (by decide +kernel) (by decide +kernel) rfl rfl (Nat.le_of_ble_eq_true rfl) (Nat.le_of_ble_eq_true rfl) rfl (by rw [show m_maxL 271 = 2 from by decide +kernel]; exact Nat.le_of_ble_eq_true rfl)).trans ?_
  exact ite_congr (by simp [a_rcv, show m_recv 271 = 11 from by decide +kernel]) (fun _ => rfl) (fun _ => rfl)
theorem B_X11_writeDay_55 {k : Nat → Nat × Nat} {u : Nat → Nat → Int} {g : Nat → Nat → Nat} {t : Nat × Nat × Nat} {r0 : Nat} {x1 : Int} {x2 : Int} {x3 : Int} : a_X 273 55 [a_r (r0), a_i (x1), a_i (x2), a_i (x3)] [] (k, u, g, t) = if (k r0).1 = 11 then if ((k (g r0 18)).1 = 20 ∨ (k (g r0 18)).1 = 24) ∧ 0 ≤ (x3 : Int) ∧ (x3 : Int) < ((k (g r0 18)).2 : Int) then if (k r0).1 = 11 then (a_m 272 [a_r (r0), a_i (u (g r0 18) (x3 : Int).toNat)] (k, u, g, t)).bind (a_back 273 62 3 [a_r (r0), a_i (x1), a_i (x2), a_i (x3)] []) else none else none else none := by
  refine (X_aload_n (m := 273) (pc := 55) (n := 0) (by decide +kernel) rfl).trans ?_
  refine (X_aload_n (m := 273) (pc := 56) (n := 0) (by decide +kernel) rfl).trans ?_
  refine (X_getR (m := 273) (pc := 57) (n := 31) (c := 11) (q := 18) (fi := true) (by decide +kernel) (by decide +kernel)).trans ?_
  refine ite_congr rfl (fun _ => ?_) (fun _ => rfl)
  refine (X_iload_n (m := 273) (pc := 60) (n := 3) (by decide +kernel) rfl).trans ?_
  refine (X_iaload (m := 273) (pc := 61)  (by decide +kernel) ).trans ?_
  refine ite_congr rfl (fun _ => ?_) (fun _ => rfl)
  refine (X_call_vi (m := 273) (pc := 62) (q := 401) (y := 272) (n := 2) (as := [a_r (r0), a_i (u (g r0 18) (x3 : Int).toNat)]) (rest := []) (by decide +kernel) (by decide +kernel) (by decide +kernel) (by decide +kernel) rfl rfl (Nat.le_of_ble_eq_true rfl) (Nat.le_of_ble_eq_true rfl) rfl (by rw [show m_maxL 272 = 3 from by decide +kernel]; exact Nat.le_of_ble_eq_true rfl)).trans ?_
  exact ite_congr (by simp [a_rcv, show m_recv 272 = 11 from by decide +kernel]) (fun _ => rfl) (fun _ => rfl)
theorem B_X11_writeDay_71 {k : Nat → Nat × Nat} {u : Nat → Nat → Int} {g : Nat → Nat → Nat} {t : Nat × Nat × Nat} {r0 : Nat} {x1 : Int} {x2 : Int} {x3 : Int} : a_X 273 71 [a_r (r0), a_i (x1), a_i (x2), a_i (x3)] [] (k, u, g, t) = if (k r0).1 = 11 then if ((k (g r0 19)).1 = 20 ∨ (k (g r0 19)).1 = 24) ∧ 0 ≤ (x3 : Int) ∧ (x3 : Int) < ((k (g r0 19)).2 : Int) then if (k r0).1 = 11 then (a_m 272 [a_r (r0), a_i (u (g r0 19) (x3 : Int).toNat)] (k, u, g, t)).bind (a_back 273 78 3 [a_r (r0), a_i (x1), a_i (x2), a_i (x3)] []) else none else none else none := by
  refine (X_aload_n (m := 273) (pc := 71) (n := 0) (by decide +kernel) rfl).trans ?_
  refine (X_aload_n (m := 273) (pc := 72) (n := 0) (by decide +kernel) rfl).trans ?_
  refine (X_getR (m := 273) (pc := 73) (n := 34) (c := 11) (q := 19) (fi := true) (by decide +kernel) (by decide +kernel)).trans ?_
  refine ite_congr rfl (fun _ => ?_) (fun _ => rfl)
  refine (X_iload_n (m := 273) (pc := 76) (n := 3) (by decide +kernel) rfl).trans ?_
  refine (X_iaload (m := 273) (pc := 77)  (by decide +kernel) ).trans ?_
  refine ite_congr rfl (fun _ => ?_) (fun _ => rfl)
  refine (X_call_vi (m := 273) (pc := 78) (q := 401) (y := 272) (n := 2) (as := [a_r (r0), a_i (u (g r0 19) (x3 : Int).toNat)]) (rest := []) (by decide +kernel) (by decide +kernel) (by decide +kernel) (by decide +kernel) rfl rfl (Nat.le_of_ble_eq_true rfl) (Nat.le_of_ble_eq_true rfl) rfl (by rw [show m_maxL 272 = 3 from by decide +kernel]; exact Nat.le_of_ble_eq_true rfl)).trans ?_
  exact ite_congr (by simp [a_rcv, show m_recv 272 = 11 from by decide +kernel]) (fun _ => rfl) (fun _ => rfl)
theorem B_X11_writeDay_81 {k : Nat → Nat × Nat} {u : Nat → Nat → Int} {g : Nat → Nat → Nat} {t : Nat × Nat × Nat} {r0 : Nat} {x1 : Int} {x2 : Int} {x3 : Int} : a_X 273 81 [a_r (r0), a_i (x1), a_i (x2), a_i (x3)] [] (k, u, g, t) = if (k r0).1 = 11 then (a_m 271 [a_r (r0), a_i (45)] (k, u, g, t)).bind (a_back 273 84 3 [a_r (r0), a_i (x1), a_i (x2), a_i (x3)] []) else none := by
  refine (X_aload_n (m := 273) (pc := 81) (n := 0) (by decide +kernel) rfl).trans ?_
  refine (X_bipush (m := 273) (pc := 82) (n := 45) (by decide +kernel) ).trans ?_
  refine (X_call_vi (m := 273) (pc := 84) (q := 398) (y := 271) (n := 2) (as := [a_r (r0), a_i (45)]) (rest := []) (by decide +kernel) (by decide +kernel) (by decide +kernel) (by decide +kernel) rfl rfl (Nat.le_of_ble_eq_true rfl) (Nat.le_of_ble_eq_true rfl) rfl (by rw [show m_maxL 271 = 2 from by decide +kernel]; exact Nat.le_of_ble_eq_true rfl)).trans ?_
  exact ite_congr (by simp [a_rcv, show m_recv 271 = 11 from by decide +kernel]) (fun _ => rfl) (fun _ => rfl)
theorem B_X11_writeDay_87 {k : Nat → Nat × Nat} {u : Nat → Nat → Int} {g : Nat → Nat → Nat} {t : Nat × Nat × Nat} {r0 : Nat} {x1 : Int} {x2 : Int} {x3 : Int} : a_X 273 87 [a_r (r0), a_i (x1), a_i (x2), a_i (x3)] [] (k, u, g, t) = if (k r0).1 = 11 then if ((k (g r0 20)).1 = 20 ∨ (k (g r0 20)).1 = 24) ∧ 0 ≤ (x3 : Int) ∧ (x3 : Int) < ((k (g r0 20)).2 : Int) then if (k r0).1 = 11 then (a_m 272 [a_r (r0), a_i (u (g r0 20) (x3 : Int).toNat)] (k, u, g, t)).bind (a_back 273 94 3 [a_r (r0), a_i (x1), a_i (x2), a_i (x3)] []) else none else none else none := by
  refine (X_aload_n (m := 273) (pc := 87) (n := 0) (by decide +kernel) rfl).trans ?_
  refine (X_aload_n (m := 273) (pc := 88) (n := 0) (by decide +kernel) rfl).trans ?_
  refine (X_getR (m := 273) (pc := 89) (n := 37) (c := 11) (q := 20) (fi := true) (by decide +kernel) (by decide +kernel)).trans ?_
  refine ite_congr rfl (fun _ => ?_) (fun _ => rfl)
  refine (X_iload_n (m := 273) (pc := 92) (n := 3) (by decide +kernel) rfl).trans ?_
  refine (X_iaload (m := 273) (pc := 93)  (by decide +kernel) ).trans ?_
  refine ite_congr rfl (fun _ => ?_) (fun _ => rfl)
  refine (X_call_vi (m := 273) (pc := 94) (q := 401) (y := 272) (n := 2) (as := [a_r (r0), a_i (u (g r0 20) (x3 : Int).toNat)]) (rest := []) (by decide +kernel) (by decide +kernel) (by decide +kernel) (by decide +kernel) rfl rfl (Nat.le_of_ble_eq_true rfl) (Nat.le_of_ble_eq_true rfl) rfl (by rw [show m_maxL 272 = 3 from by decide +kernel]; exact Nat.le_of_ble_eq_true rfl)).trans ?_
  exact ite_congr (by simp [a_rcv, show m_recv 272 = 11 from by decide +kernel]) (fun _ => rfl) (fun _ => rfl)
theorem B_X11_writeDay_97 {k : Nat → Nat × Nat} {u : Nat → Nat → Int} {g : Nat → Nat → Nat} {t : Nat × Nat × Nat} {r0 : Nat} {x1 : Int} {x2 : Int} {x3 : Int} : a_X 273 97 [a_r (r0), a_i (x1), a_i (x2), a_i (x3)] [] (k, u, g, t) = a_X 273 37 [a_r (r0), a_i (x1), a_i (x2), a_i (wr (x3 + 1))] [] (k, u, g, t) := by
  refine (X_iinc (m := 273) (pc := 97) (n := 3) (c := 1) (by decide +kernel) rfl rfl (Nat.le_of_ble_eq_true rfl) rfl).trans ?_
  refine (X_goto (m := 273) (pc := 100) (off := -63) (tg := 37) (by decide +kernel) (by decide +kernel)).trans ?_
  rfl
theorem E_X11_writeMissing {σ : AS} {r0 : Nat} {x1 : Int} : a_m 274 [a_r (r0), a_i (x1)] σ = a_X 274 0 [a_r (r0), a_i (x1), a_x false, a_x false] [] σ := a_m_eq (by rw [a_entry, show m_maxL 274 = 4 from by decide +kernel]; rfl)
theorem B_X11_writeMissing_0 {k : Nat → Nat × Nat} {u : Nat → Nat → Int} {g : Nat → Nat → Nat} {t : Nat × Nat × Nat} {r0 : Nat} {x1 : Int} {v2 : AV} {v3 : AV} : a_X 274 0 [a_r (r0), a_i (x1), v2, v3] [] (k, u, g, t) = if (k r0).1 = 11 then (a_m 159 [a_r (r0), a_i (x1)] (k, u, g, t)).bind (a_back 274 2 3 [a_r (r0), a_i (x1), v2, v3] []) else none := by
  refine (X_aload_n (m := 274) (pc := 0) (n := 0) (by decide +kernel) rfl).trans ?_
  refine (X_iload_n (m := 274) (pc := 1) (n := 1) (by decide +kernel) rfl).trans ?_
  refine (X_call_vi (m := 274) (pc := 2) (q := 345) (y := 159) (n := 2) (as := [a_r (r0), a_i (x1)]) (rest := []) (by decide +kernel) (by decide +kernel) (by decide +kernel) (by decide +kernel) rfl rfl (Nat.le_of_ble_eq_true rfl) (Nat.le_of_ble_eq_true rfl) rfl (by rw [show m_maxL 159 = 2 from by decide +kernel]; exact Nat.le_of_ble_eq_true rfl)).trans ?_
  exact ite_congr (by simp [a_rcv, show m_recv 159 = 11 from by decide +kernel]) (fun _ => rfl) (fun _ => rfl)
theorem B_X11_writeMissing_5 {k : Nat → Nat × Nat} {u : Nat → Nat → Int} {g : Nat → Nat → Nat} {t : Nat × Nat × Nat} {r0 : Nat} {x1 : Int} {v2 : AV} {v3 : AV} {y0 : Int} : a_X 274 5 [a_r (r0), a_i (x1), v2, v3] [a_i (y0)] (k, u, g, t) = if (y0 : Int) = 0 then if (k r0).1 = 11 then a_X 274 17 [a_r (r0), a_i (x1), a_i (1), v3] [] (k, (upm u r0 24 0), g, t) else none else some (.inl (some (a_i (0))), (k, u, g, t)) := by
  refine (X_if_eq (m := 274) (pc := 5) (off := 5) (tg := 10) (by decide +kernel) (by decide +kernel)).trans ?_
  refine ite_congr rfl (fun _ => ?_) (fun _ => ?_)
  · refine (X_aload_n (m := 274) (pc := 10) (n := 0) (by decide +kernel) rfl).trans ?_
    refine (X_iconst (m := 274) (pc := 11) (n := 0) (by decide +kernel) ).trans ?_
    refine (X_putI (m := 274) (pc := 12) (n := 395) (c := 11) (q := 24) (fi := false) (by decide +kernel) (by decide +kernel) (fun h => by cases h) (by decide +kernel)).trans ?_
    refine ite_congr rfl (fun _ => ?_) (fun _ => rfl)
    refine (X_iconst (m := 274) (pc := 15) (n := 1) (by decide +kernel) ).trans ?_
    refine (X_istore_n (m := 274) (pc := 16) (n := 2) (by decide +kernel) rfl (Nat.le_of_ble_eq_true rfl) rfl).trans ?_
    rfl
  · refine (X_iconst (m := 274) (pc := 8) (n := 0) (by decide +kernel) ).trans ?_
    exact X_ireturn (m := 274) (pc := 9) (f := 1) (by decide +kernel) (by decide +kernel) rfl
theorem B_X11_writeMissing_17 {k : Nat → Nat × Nat} {u : Nat → Nat → Int} {g : Nat → Nat → Nat} {t : Nat × Nat × Nat} {r0 : Nat} {x1 : Int} {x2 : Int} {v3 : AV} : a_X 274 17 [a_r (r0), a_i (x1), a_i (x2), v3] [] (k, u, g, t) = if (k r0).1 = 11 then if ((k (g r0 2)).1 = 20 ∨ (k (g r0 2)).1 = 24) ∧ 0 ≤ (2 : Int) ∧ (2 : Int) < ((k (g r0 2)).2 : Int) then if (x2 : Int) > (u (g r0 2) (2 : Int).toNat : Int) then if (k r0).1 = 11 then if (u r0 24 : Int) ≠ 0 then if (k r0).1 = 11 then some (.inl (some (a_i (u r0 24))), (k, u, g, t)) else none else if (k r0).1 = 11 then (a_m 271 [a_r (r0), a_i (42)] (k, u, g, t)).bind (a_back 274 110 3 [a_r (r0), a_i (x1), a_i (x2), v3] []) else none else none else if (k r0).1 = 11 then (a_m 236 [a_r (r0), a_i (x1), a_i (x2)] (k, u, g, t)).bind (a_back 274 30 3 [a_r (r0), a_i (x1), a_i (x2), v3] []) else none else none else none := by
  refine (X_iload_n (m := 274) (pc := 17) (n := 2) (by decide +kernel) rfl).trans ?_
  refine (X_aload_n (m := 274) (pc := 18) (n := 0) (by decide +kernel) rfl).trans ?_
  refine (X_getR (m := 274) (pc := 19) (n := 7) (c := 11) (q := 2) (fi := true) (by decide +kernel) (by decide +kernel)).trans ?_
  refine ite_congr rfl (fun _ => ?_) (fun _ => rfl)
  refine (X_iconst (m := 274) (pc := 22) (n := 2) (by decide +kernel) ).trans ?_
  refine (X_iaload (m := 274) (pc := 23)  (by decide +kernel) ).trans ?_
  refine ite_congr rfl (fun _ => ?_) (fun _ => rfl)
  refine (X_ic_gt (m := 274) (pc := 24) (off := 76) (tg := 100) (by decide +kernel) (by decide +kernel)).trans ?_
  refine ite_congr rfl (fun _ => ?_) (fun _ => ?_)
  · refine (X_aload_n (m := 274) (pc := 100) (n := 0) (by decide +kernel) rfl).trans ?_
    refine (X_getI (m := 274) (pc := 101) (n := 395) (c := 11) (q := 24) (ty := 1) (fi := false) (by decide +kernel) (by decide +kernel) (by decide +kernel)).trans ?_
    refine ite_congr rfl (fun _ => ?_) (fun _ => rfl)
    refine (X_if_ne (m := 274) (pc := 104) (off := 9) (tg := 113) (by decide +kernel) (by decide +kernel)).trans ?_
    refine ite_congr rfl (fun _ => ?_) (fun _ => ?_)
    · refine (X_aload_n (m := 274) (pc := 113) (n := 0) (by decide +kernel) rfl).trans ?_
      refine (X_getI (m := 274) (pc := 114) (n := 395) (c := 11) (q := 24) (ty := 1) (fi := false) (by decide +kernel) (by decide +kernel) (by decide +kernel)).trans ?_
      refine ite_congr rfl (fun _ => ?_) (fun _ => rfl)
      exact X_ireturn (m := 274) (pc := 117) (f := 1) (by decide +kernel) (by decide +kernel) rfl
    · refine (X_aload_n (m := 274) (pc := 107) (n := 0) (by decide +kernel) rfl).trans ?_
      refine (X_bipush (m := 274) (pc := 108) (n := 42) (by decide +kernel) ).trans ?_
      refine (X_call_vi (m := 274) (pc := 110) (q := 398) (y := 271) (n := 2) (as := [a_r (r0), a_i (42)]) (rest := []) (by decide +kernel) (by decide +kernel) (by decide +kernel) (by decide +kernel) rfl rfl (Nat.le_of_ble_eq_true rfl) (Nat.le_of_ble_eq_true rfl) rfl (by rw [show m_maxL 271 = 2 from by decide +kernel]; exact Nat.le_of_ble_eq_true rfl)).trans ?_
      exact ite_congr (by simp [a_rcv, show m_recv 271 = 11 from by decide +kernel]) (fun _ => rfl) (fun _ => rfl)
  · refine (X_aload_n (m := 274) (pc := 27) (n := 0) (by decide +kernel) rfl).trans ?_
    refine (X_iload_n (m := 274) (pc := 28) (n := 1) (by decide +kernel) rfl).trans ?_
    refine (X_iload_n (m := 274) (pc := 29) (n := 2) (by decide +kernel) rfl).trans ?_
    refine (X_call_vi (m := 274) (pc := 30) (q := 342) (y := 236) (n := 3) (as := [a_r (r0), a_i (x1), a_i (x2)]) (rest := []) (by decide +kernel) (by decide +kernel) (by decide +kernel) (by decide +kernel) rfl rfl (Nat.le_of_ble_eq_true rfl) (Nat.le_of_ble_eq_true rfl) rfl (by rw [show m_maxL 236 = 3 from by decide +kernel]; exact Nat.le_of_ble_eq_true rfl)).trans ?_
    exact ite_congr (by simp [a_rcv, show m_recv 236 = 11 from by decide +kernel]) (fun _ => rfl) (fun _ => rfl)
theorem B_X11_writeMissing_113 {k : Nat → Nat × Nat} {u : Nat → Nat → Int} {g : Nat → Nat → Nat} {t : Nat × Nat × Nat} {r0 : Nat} {x1 : Int} {x2 : Int} {v3 : AV} : a_X 274 113 [a_r (r0), a_i (x1), a_i (x2), v3] [] (k, u, g, t) = if (k r0).1 = 11 then some (.inl (some (a_i (u r0 24))), (k, u, g, t)) else none := by
  refine (X_aload_n (m := 274) (pc := 113) (n := 0) (by decide +kernel) rfl).trans ?_
  refine (X_getI (m := 274) (pc := 114) (n := 395) (c := 11) (q := 24) (ty := 1) (fi := false) (by decide +kernel) (by decide +kernel) (by decide +kernel)).trans ?_
  refine ite_congr rfl (fun _ => ?_) (fun _ => rfl)
  exact X_ireturn (m := 274) (pc := 117) (f := 1) (by decide +kernel) (by decide +kernel) rfl
theorem B_X11_writeMissing_33 {k : Nat → Nat × Nat} {u : Nat → Nat → Int} {g : Nat → Nat → Nat} {t : Nat × Nat × Nat} {r0 : Nat} {x1 : Int} {x2 : Int} {v3 : AV} {y0 : Int} : a_X 274 33 [a_r (r0), a_i (x1), a_i (x2), v3] [a_i (y0)] (k, u, g, t) = if (y0 : Int) ≠ 0 then if (k r0).1 = 11 then if (u r0 24 : Int) ≤ 0 then if (k r0).1 = 11 then (a_m 272 [a_r (r0), a_i (x2)] (k, u, g, t)).bind (a_back 274 54 3 [a_r (r0), a_i (x1), a_i (x2), v3] []) else none else if (k r0).1 = 11 then (a_m 271 [a_r (r0), a_i (44)] (k, u, g, t)).bind (a_back 274 49 3 [a_r (r0), a_i (x1), a_i (x2), v3] []) else none else none else a_X 274 17 [a_r (r0), a_i (x1), a_i (wr (x2 + 1)), v3] [] (k, u, g, t) := by
  refine (X_if_ne (m := 274) (pc := 33) (off := 6) (tg := 39) (by decide +kernel) (by decide +kernel)).trans ?_
  refine ite_congr rfl (fun _ => ?_) (fun _ => ?_)
  · refine (X_aload_n (m := 274) (pc := 39) (n := 0) (by decide +kernel) rfl).trans ?_
    refine (X_getI (m := 274) (pc := 40) (n := 395) (c := 11) (q := 24) (ty := 1) (fi := false) (by decide +kernel) (by decide +kernel) (by decide +kernel)).trans ?_
    refine ite_congr rfl (fun _ => ?_) (fun _ => rfl)
    refine (X_if_le (m := 274) (pc := 43) (off := 9) (tg := 52) (by decide +kernel) (by decide +kernel)).trans ?_
    refine ite_congr rfl (fun _ => ?_) (fun _ => ?_)
    · refine (X_aload_n (m := 274) (pc := 52) (n := 0) (by decide +kernel) rfl).trans ?_
      refine (X_iload_n (m := 274) (pc := 53) (n := 2) (by decide +kernel) rfl).trans ?_
      refine (X_call_vi (m := 274) (pc := 54) (q := 401) (y := 272) (n := 2) (as := [a_r (r0), a_i (x2)]) (rest := []) (by decide +kernel) (by decide +kernel) (by decide +kernel) (by decide +kernel) rfl rfl (Nat.le_of_ble_eq_true rfl) (Nat.le_of_ble_eq_true rfl) rfl (by rw [show m_maxL 272 = 3 from by decide +kernel]; exact Nat.le_of_ble_eq_true rfl)).trans ?_
      exact ite_congr (by simp [a_rcv, show m_recv 272 = 11 from by decide +kernel]) (fun _ => rfl) (fun _ => rfl)
    · refine (X_aload_n (m := 274) (pc := 46) (n := 0) (by decide +kernel) rfl).trans ?_
      refine (X_bipush (m := 274) (pc := 47) (n := 44) (by decide +kernel) ).trans ?_
      refine (X_call_vi (m := 274) (pc := 49) (q := 398) (y := 271) (n := 2) (as := [a_r (r0), a_i (44)]) (rest := []) (by decide +kernel) (by decide +kernel) (by decide +kernel) (by decide +kernel) rfl rfl (Nat.le_of_ble_eq_true rfl) (Nat.le_of_ble_eq_true rfl) rfl (by rw [show m_maxL 271 = 2 from by decide +kernel]; exact Nat.le_of_ble_eq_true rfl)).trans ?_
      exact ite_congr (by simp [a_rcv, show m_recv 271 = 11 from by decide +kernel]) (fun _ => rfl) (fun _ => rfl)
  · refine (X_goto (m := 274) (pc := 36) (off := 58) (tg := 94) (by decide +kernel) (by decide +kernel)).trans ?_
    refine (X_iinc (m := 274) (pc := 94) (n := 2) (c := 1) (by decide +kernel) rfl rfl (Nat.le_of_ble_eq_true rfl) rfl).trans ?_
    refine (X_goto (m := 274) (pc := 97) (off := -80) (tg := 17) (by decide +kernel) (by decide +kernel)).trans ?_
    rfl
theorem B_X11_writeMissing_57 {k : Nat → Nat × Nat} {u : Nat → Nat → Int} {g : Nat → Nat → Nat} {t : Nat × Nat × Nat} {r0 : Nat} {x1 : Int} {x2 : Int} {v3 : AV} : a_X 274 57 [a_r (r0), a_i (x1), a_i (x2), v3] [] (k, u, g, t) = a_X 274 59 [a_r (r0), a_i (x1), a_i (x2), a_i (x2)] [] (k, u, g, t) := by
  refine (X_iload_n (m := 274) (pc := 57) (n := 2) (by decide +kernel) rfl).trans ?_
  refine (X_istore_n (m := 274) (pc := 58) (n := 3) (by decide +kernel) rfl (Nat.le_of_ble_eq_true rfl) rfl).trans ?_
  rfl
theorem B_X11_writeMissing_52 {k : Nat → Nat × Nat} {u : Nat → Nat → Int} {g : Nat → Nat → Nat} {t : Nat × Nat × Nat} {r0 : Nat} {x1 : Int} {x2 : Int} {v3 : AV} : a_X 274 52 [a_r (r0), a_i (x1), a_i (x2), v3] [] (k, u, g, t) = if (k r0).1 = 11 then (a_m 272 [a_r (r0), a_i (x2)] (k, u, g, t)).bind (a_back 274 54 3 [a_r (r0), a_i (x1), a_i (x2), v3] []) else none := by
  refine (X_aload_n (m := 274) (pc := 52) (n := 0) (by decide +kernel) rfl).trans ?_
  refine (X_iload_n (m := 274) (pc := 53) (n := 2) (by decide +kernel) rfl).trans ?_
  refine (X_call_vi (m := 274) (pc := 54) (q := 401) (y := 272) (n := 2) (as := [a_r (r0), a_i (x2)]) (rest := []) (by decide +kernel) (by decide +kernel) (by decide +kernel) (by decide +kernel) rfl rfl (Nat.le_of_ble_eq_true rfl) (Nat.le_of_ble_eq_true rfl) rfl (by rw [show m_maxL 272 = 3 from by decide +kernel]; exact Nat.le_of_ble_eq_true rfl)).trans ?_
  exact ite_congr (by simp [a_rcv, show m_recv 272 = 11 from by decide +kernel]) (fun _ => rfl) (fun _ => rfl)
theorem B_X11_writeMissing_59 {k : Nat → Nat × Nat} {u : Nat → Nat → Int} {g : Nat → Nat → Nat} {t : Nat × Nat × Nat} {r0 : Nat} {x1 : Int} {x2 : Int} {x3 : Int} : a_X 274 59 [a_r (r0), a_i (x1), a_i (x2), a_i (x3)] [] (k, u, g, t) = if (k r0).1 = 11 then (a_m 236 [a_r (r0), a_i (x1), a_i (wr (x3 + 1))] (k, u, g, t)).bind (a_back 274 64 3 [a_r (r0), a_i (x1), a_i (x2), a_i (x3)] []) else none := by
  refine (X_aload_n (m := 274) (pc := 59) (n := 0) (by decide +kernel) rfl).trans ?_
  refine (X_iload_n (m := 274) (pc := 60) (n := 1) (by decide +kernel) rfl).trans ?_
  refine (X_iload_n (m := 274) (pc := 61) (n := 3) (by decide +kernel) rfl).trans ?_
  refine (X_iconst (m := 274) (pc := 62) (n := 1) (by decide +kernel) ).trans ?_
  refine (X_iadd (m := 274) (pc := 63)  (by decide +kernel) ).trans ?_
  refine (X_call_vi (m := 274) (pc := 64) (q := 342) (y := 236) (n := 3) (as := [a_r (r0), a_i (x1), a_i (wr (x3 + 1))]) (rest := []) (by decide +kernel) (by decide +kernel) (by decide +kernel) (by decide +kernel) rfl rfl (Nat.le_of_ble_eq_true rfl) (Nat.le_of_ble_eq_true rfl) rfl (by rw [show m_maxL 236 = 3 from by decide +kernel]; exact Nat.le_of_ble_eq_true rfl)).trans ?_
  exact ite_congr (by simp [a_rcv, show m_recv 236 = 11 from by decide +kernel]) (fun _ => rfl) (fun _ => rfl)
theorem B_X11_writeMissing_67 {k : Nat → Nat × Nat} {u : Nat → Nat → Int} {g : Nat → Nat → Nat} {t : Nat × Nat × Nat} {r0 : Nat} {x1 : Int} {x2 : Int} {x3 : Int} {y0 : Int} : a_X 274 67 [a_r (r0), a_i (x1), a_i (x2), a_i (x3)] [a_i (y0)] (k, u, g, t) = if (y0 : Int) = 0 then if (x3 : Int) ≤ (x2 : Int) then a_X 274 17 [a_r (r0), a_i (x1), a_i (wr (x3 + 1)), a_i (x3)] [] (k, u, g, t) else if (k r0).1 = 11 then (a_m 271 [a_r (r0), a_i (45)] (k, u, g, t)).bind (a_back 274 84 3 [a_r (r0), a_i (x1), a_i (x2), a_i (x3)] []) else none else a_X 274 59 [a_r (r0), a_i (x1), a_i (x2), a_i (wr (x3 + 1))] [] (k, u, g, t) := by
  refine (X_if_eq (m := 274) (pc := 67) (off := 9) (tg := 76) (by decide +kernel) (by decide +kernel)).trans ?_
  refine ite_congr rfl (fun _ => ?_) (fun _ => ?_)
  · refine (X_iload_n (m := 274) (pc := 76) (n := 3) (by decide +kernel) rfl).trans ?_
    refine (X_iload_n (m := 274) (pc := 77) (n := 2) (by decide +kernel) rfl).trans ?_
    refine (X_ic_le (m := 274) (pc := 78) (off := 14) (tg := 92) (by decide +kernel) (by decide +kernel)).trans ?_
    refine ite_congr rfl (fun _ => ?_) (fun _ => ?_)
    · refine (X_iload_n (m := 274) (pc := 92) (n := 3) (by decide +kernel) rfl).trans ?_
      refine (X_istore_n (m := 274) (pc := 93) (n := 2) (by decide +kernel) rfl (Nat.le_of_ble_eq_true rfl) rfl).trans ?_
      refine (X_iinc (m := 274) (pc := 94) (n := 2) (c := 1) (by decide +kernel) rfl rfl (Nat.le_of_ble_eq_true rfl) rfl).trans ?_
      refine (X_goto (m := 274) (pc := 97) (off := -80) (tg := 17) (by decide +kernel) (by decide +kernel)).trans ?_
      rfl
    · refine (X_aload_n (m := 274) (pc := 81) (n := 0) (by decide +kernel) rfl).trans ?_
      refine (X_bipush (m := 274) (pc := 82) (n := 45) (by decide +kernel) ).trans ?_
      refine (X_call_vi (m := 274) (pc := 84) (q := 398) (y := 271) (n := 2) (as := [a_r (r0), a_i (45)]) (rest := []) (by decide +kernel) (by decide +kernel) (by decide +kernel) (by decide +kernel) rfl rfl (Nat.le_of_ble_eq_true rfl) (Nat.le_of_ble_eq_true rfl) rfl (by rw [show m_maxL 271 = 2 from by decide +kernel]; exact Nat.le_of_ble_eq_true rfl)).trans ?_
      exact ite_congr (by simp [a_rcv, show m_recv 271 = 11 from by decide +kernel]) (fun _ => rfl) (fun _ => rfl)
  · refine (X_iinc (m := 274) (pc := 70) (n := 3) (c := 1) (by decide +kernel) rfl rfl (Nat.le_of_ble_eq_true rfl) rfl).trans ?_
    refine (X_goto (m := 274) (pc := 73) (off := -14) (tg := 59) (by decide +kernel) (by decide +kernel)).trans ?_
    rfl
theorem B_X11_writeMissing_87 {k : Nat → Nat × Nat} {u : Nat → Nat → Int} {g : Nat → Nat → Nat} {t : Nat × Nat × Nat} {r0 : Nat} {x1 : Int} {x2 : Int} {x3 : Int} : a_X 274 87 [a_r (r0), a_i (x1), a_i (x2), a_i (x3)] [] (k, u, g, t) = if (k r0).1 = 11 then (a_m 272 [a_r (r0), a_i (x3)] (k, u, g, t)).bind (a_back 274 89 3 [a_r (r0), a_i (x1), a_i (x2), a_i (x3)] []) else none := by
  refine (X_aload_n (m := 274) (pc := 87) (n := 0) (by decide +kernel) rfl).trans ?_
  refine (X_iload_n (m := 274) (pc := 88) (n := 3) (by decide +kernel) rfl).trans ?_
  refine (X_call_vi (m := 274) (pc := 89) (q := 401) (y := 272) (n := 2) (as := [a_r (r0), a_i (x3)]) (rest := []) (by decide +kernel) (by decide +kernel) (by decide +kernel) (by decide +kernel) rfl rfl (Nat.le_of_ble_eq_true rfl) (Nat.le_of_ble_eq_true rfl) rfl (by rw [show m_maxL 272 = 3 from by decide +kernel]; exact Nat.le_of_ble_eq_true rfl)).trans ?_
  exact ite_congr (by simp [a_rcv, show m_recv 272 = 11 from by decide +kernel]) (fun _ => rfl) (fun _ => rfl)
theorem B_X11_writeMissing_92 {k : Nat → Nat × Nat} {u : Nat → Nat → Int} {g : Nat → Nat → Nat} {t : Nat × Nat × Nat} {r0 : Nat} {x1 : Int} {x2 : Int} {x3 : Int} : a_X 274 92 [a_r (r0), a_i (x1), a_i (x2), a_i (x3)] [] (k, u, g, t) = a_X 274 17 [a_r (r0), a_i (x1), a_i (wr (x3 + 1)), a_i (x3)] [] (k, u, g, t) := by
  refine (X_iload_n (m := 274) (pc := 92) (n := 3) (by decide +kernel) rfl).trans ?_
  refine (X_istore_n (m := 274) (pc := 93) (n := 2) (by decide +kernel) rfl (Nat.le_of_ble_eq_true rfl) rfl).trans ?_
  refine (X_iinc (m := 274) (pc := 94) (n := 2) (c := 1) (by decide +kernel) rfl rfl (Nat.le_of_ble_eq_true rfl) rfl).trans ?_
  refine (X_goto (m := 274) (pc := 97) (off := -80) (tg := 17) (by decide +kernel) (by decide +kernel)).trans ?_
  rfl
theorem E_X11_textByte {σ : AS} {r0 : Nat} {x1 : Int} : a_m 275 [a_r (r0), a_i (x1)] σ = a_X 275 0 [a_r (r0), a_i (x1)] [] σ := a_m_eq (by rw [a_entry, show m_maxL 275 = 2 from by decide +kernel]; rfl)
theorem B_X11_textByte_0 {k : Nat → Nat × Nat} {u : Nat → Nat → Int} {g : Nat → Nat → Nat} {t : Nat × Nat × Nat} {r0 : Nat} {x1 : Int} : a_X 275 0 [a_r (r0), a_i (x1)] [] (k, u, g, t) = if (k r0).1 = 11 then if (k r0).1 = 11 then (a_m 155 [a_l (x1), a_l (0), a_l (wr (((upm u r0 0 0) r0 24) - 1))] (k, (upm u r0 0 0), g, t)).bind (a_back 275 16 3 [a_r (r0), a_i (x1)] [a_r (r0)]) else none else none := by
  refine (X_aload_n (m := 275) (pc := 0) (n := 0) (by decide +kernel) rfl).trans ?_
  refine (X_iconst (m := 275) (pc := 1) (n := 0) (by decide +kernel) ).trans ?_
  refine (X_putI (m := 275) (pc := 2) (n := 46) (c := 11) (q := 0) (fi := false) (by decide +kernel) (by decide +kernel) (fun h => by cases h) (by decide +kernel)).trans ?_
  refine ite_congr rfl (fun _ => ?_) (fun _ => rfl)
  refine (X_aload_n (m := 275) (pc := 5) (n := 0) (by decide +kernel) rfl).trans ?_
  refine (X_iload_n (m := 275) (pc := 6) (n := 1) (by decide +kernel) rfl).trans ?_
  refine (X_i2l (m := 275) (pc := 7)  (by decide +kernel) ).trans ?_
  refine (X_lconst (m := 275) (pc := 8) (n := 0) (by decide +kernel) ).trans ?_
  refine (X_aload_n (m := 275) (pc := 9) (n := 0) (by decide +kernel) rfl).trans ?_
  refine (X_getI (m := 275) (pc := 10) (n := 395) (c := 11) (q := 24) (ty := 1) (fi := false) (by decide +kernel) (by decide +kernel) (by decide +kernel)).trans ?_
  refine ite_congr rfl (fun _ => ?_) (fun _ => rfl)
  refine (X_iconst (m := 275) (pc := 13) (n := 1) (by decide +kernel) ).trans ?_
  refine (X_isub (m := 275) (pc := 14)  (by decide +kernel) ).trans ?_
  refine (X_i2l (m := 275) (pc := 15)  (by decide +kernel) ).trans ?_
  refine (X_call_st (m := 275) (pc := 16) (q := 61) (y := 155) (n := 3) (as := [a_l (x1), a_l (0), a_l (wr (((upm u r0 0 0) r0 24) - 1))]) (rest := [a_r (r0)]) (by decide +kernel) (by decide +kernel) (by decide +kernel) (by decide +kernel) rfl rfl (Nat.le_of_ble_eq_true rfl) (Nat.le_of_ble_eq_true rfl) rfl (by rw [show m_maxL 155 = 6 from by decide +kernel]; exact Nat.le_of_ble_eq_true rfl)).trans ?_
  exact if_pos rfl
theorem B_X11_textByte_19 {k : Nat → Nat × Nat} {u : Nat → Nat → Int} {g : Nat → Nat → Nat} {t : Nat × Nat × Nat} {r0 : Nat} {x1 : Int} {q0 : Nat} {y1 : Int} : a_X 275 19 [a_r (r0), a_i (x1)] [a_i (y1), a_r (q0)] (k, u, g, t) = if (y1 : Int) ≠ 0 then if (k q0).1 = 11 then (a_m 157 [a_r (q0), a_i (0), a_i (1)] (k, u, g, t)).bind (a_back 275 28 3 [a_r (r0), a_i (x1)] []) else none else if (k q0).1 = 11 then (a_m 157 [a_r (q0), a_i (1), a_i (1)] (k, u, g, t)).bind (a_back 275 28 3 [a_r (r0), a_i (x1)] []) else none := by
  refine (X_if_ne (m := 275) (pc := 19) (off := 7) (tg := 26) (by decide +kernel) (by decide +kernel)).trans ?_
  refine ite_congr rfl (fun _ => ?_) (fun _ => ?_)
  · refine (X_iconst (m := 275) (pc := 26) (n := 0) (by decide +kernel) ).trans ?_
    refine (X_iconst (m := 275) (pc := 27) (n := 1) (by decide +kernel) ).trans ?_
    refine (X_call_vi (m := 275) (pc := 28) (q := 53) (y := 157) (n := 3) (as := [a_r (q0), a_i (0), a_i (1)]) (rest := []) (by decide +kernel) (by decide +kernel) (by decide +kernel) (by decide +kernel) rfl rfl (Nat.le_of_ble_eq_true rfl) (Nat.le_of_ble_eq_true rfl) rfl (by rw [show m_maxL 157 = 3 from by decide +kernel]; exact Nat.le_of_ble_eq_true rfl)).trans ?_
    exact ite_congr (by simp [a_rcv, show m_recv 157 = 11 from by decide +kernel]) (fun _ => rfl) (fun _ => rfl)
  · refine (X_iconst (m := 275) (pc := 22) (n := 1) (by decide +kernel) ).trans ?_
    refine (X_goto (m := 275) (pc := 23) (off := 4) (tg := 27) (by decide +kernel) (by decide +kernel)).trans ?_
    refine (X_iconst (m := 275) (pc := 27) (n := 1) (by decide +kernel) ).trans ?_
    refine (X_call_vi (m := 275) (pc := 28) (q := 53) (y := 157) (n := 3) (as := [a_r (q0), a_i (1), a_i (1)]) (rest := []) (by decide +kernel) (by decide +kernel) (by decide +kernel) (by decide +kernel) rfl rfl (Nat.le_of_ble_eq_true rfl) (Nat.le_of_ble_eq_true rfl) rfl (by rw [show m_maxL 157 = 3 from by decide +kernel]; exact Nat.le_of_ble_eq_true rfl)).trans ?_
    exact ite_congr (by simp [a_rcv, show m_recv 157 = 11 from by decide +kernel]) (fun _ => rfl) (fun _ => rfl)
theorem B_X11_textByte_31 {k : Nat → Nat × Nat} {u : Nat → Nat → Int} {g : Nat → Nat → Nat} {t : Nat × Nat × Nat} {r0 : Nat} {x1 : Int} {y0 : Int} : a_X 275 31 [a_r (r0), a_i (x1)] [a_i (y0)] (k, u, g, t) = if (y0 : Int) = 0 then if (k r0).1 = 11 then if ((k (g r0 23)).1 = 20 ∨ (k (g r0 23)).1 = 24) ∧ 0 ≤ (x1 : Int) ∧ (x1 : Int) < ((k (g r0 23)).2 : Int) then some (.inl (some (a_i (u (g r0 23) (x1 : Int).toNat))), (k, u, g, t)) else none else none else some (.inl (some (a_i (0))), (k, u, g, t)) := by
  refine (X_if_eq (m := 275) (pc := 31) (off := 7) (tg := 38) (by decide +kernel) (by decide +kernel)).trans ?_
  refine ite_congr rfl (fun _ => ?_) (fun _ => ?_)
  · refine (X_aload_n (m := 275) (pc := 38) (n := 0) (by decide +kernel) rfl).trans ?_
    refine (X_getR (m := 275) (pc := 39) (n := 43) (c := 11) (q := 23) (fi := true) (by decide +kernel) (by decide +kernel)).trans ?_
    refine ite_congr rfl (fun _ => ?_) (fun _ => rfl)
    refine (X_iload_n (m := 275) (pc := 42) (n := 1) (by decide +kernel) rfl).trans ?_
    refine (X_iaload (m := 275) (pc := 43)  (by decide +kernel) ).trans ?_
    refine ite_congr rfl (fun _ => ?_) (fun _ => rfl)
    exact X_ireturn (m := 275) (pc := 44) (f := 1) (by decide +kernel) (by decide +kernel) rfl
  · refine (X_iconst (m := 275) (pc := 34) (n := 0) (by decide +kernel) ).trans ?_
    refine (X_goto (m := 275) (pc := 35) (off := 9) (tg := 44) (by decide +kernel) (by decide +kernel)).trans ?_
    exact X_ireturn (m := 275) (pc := 44) (f := 1) (by decide +kernel) (by decide +kernel) rfl
theorem E_X11_keepsAll {σ : AS} {r0 : Nat} : a_m 276 [a_r (r0)] σ = a_X 276 0 [a_r (r0), a_x false] [] σ := a_m_eq (by rw [a_entry, show m_maxL 276 = 2 from by decide +kernel]; rfl)
theorem B_X11_keepsAll_0 {k : Nat → Nat × Nat} {u : Nat → Nat → Int} {g : Nat → Nat → Nat} {t : Nat × Nat × Nat} {r0 : Nat} {v1 : AV} : a_X 276 0 [a_r (r0), v1] [] (k, u, g, t) = if (k r0).1 = 11 then if (u r0 4 : Int) ≠ (8 : Int) then if (k r0).1 = 11 then if (k r0).1 = 11 then if (k r0).1 = 11 then (a_m 163 [a_r (g r0 2), a_i (0), a_r (g r0 3), a_i (wr (3280 * (wr (0 + (u r0 4)))))] (k, u, g, t)).bind (a_back 276 69 3 [a_r (r0), v1] []) else none else none else none else a_X 276 11 [a_r (r0), a_i (0)] [] (k, u, g, t) else none := by
  refine (X_aload_n (m := 276) (pc := 0) (n := 0) (by decide +kernel) rfl).trans ?_
  refine (X_getI (m := 276) (pc := 1) (n := 178) (c := 11) (q := 4) (ty := 1) (fi := false) (by decide +kernel) (by decide +kernel) (by decide +kernel)).trans ?_
  refine ite_congr rfl (fun _ => ?_) (fun _ => rfl)
  refine (X_bipush (m := 276) (pc := 4) (n := 8) (by decide +kernel) ).trans ?_
  refine (X_ic_ne (m := 276) (pc := 6) (off := 44) (tg := 50) (by decide +kernel) (by decide +kernel)).trans ?_
  refine ite_congr rfl (fun _ => ?_) (fun _ => ?_)
  · refine (X_aload_n (m := 276) (pc := 50) (n := 0) (by decide +kernel) rfl).trans ?_
    refine (X_getR (m := 276) (pc := 51) (n := 7) (c := 11) (q := 2) (fi := true) (by decide +kernel) (by decide +kernel)).trans ?_
    refine ite_congr rfl (fun _ => ?_) (fun _ => rfl)
    refine (X_iconst (m := 276) (pc := 54) (n := 0) (by decide +kernel) ).trans ?_
    refine (X_aload_n (m := 276) (pc := 55) (n := 0) (by decide +kernel) rfl).trans ?_
    refine (X_getR (m := 276) (pc := 56) (n := 14) (c := 11) (q := 3) (fi := true) (by decide +kernel) (by decide +kernel)).trans ?_
    refine ite_congr rfl (fun _ => ?_) (fun _ => rfl)
    refine (X_sipush (m := 276) (pc := 59) (n := 3280) (by decide +kernel) ).trans ?_
    refine (X_iconst (m := 276) (pc := 62) (n := 0) (by decide +kernel) ).trans ?_
    refine (X_aload_n (m := 276) (pc := 63) (n := 0) (by decide +kernel) rfl).trans ?_
    refine (X_getI (m := 276) (pc := 64) (n := 178) (c := 11) (q := 4) (ty := 1) (fi := false) (by decide +kernel) (by decide +kernel) (by decide +kernel)).trans ?_
    refine ite_congr rfl (fun _ => ?_) (fun _ => rfl)
    refine (X_iadd (m := 276) (pc := 67)  (by decide +kernel) ).trans ?_
    refine (X_imul (m := 276) (pc := 68)  (by decide +kernel) ).trans ?_
    refine (X_call_st (m := 276) (pc := 69) (q := 171) (y := 163) (n := 4) (as := [a_r (g r0 2), a_i (0), a_r (g r0 3), a_i (wr (3280 * (wr (0 + (u r0 4)))))]) (rest := []) (by decide +kernel) (by decide +kernel) (by decide +kernel) (by decide +kernel) rfl rfl (Nat.le_of_ble_eq_true rfl) (Nat.le_of_ble_eq_true rfl) rfl (by rw [show m_maxL 163 = 5 from by decide +kernel]; exact Nat.le_of_ble_eq_true rfl)).trans ?_
    exact if_pos rfl
  · refine (X_iconst (m := 276) (pc := 9) (n := 0) (by decide +kernel) ).trans ?_
    refine (X_istore_n (m := 276) (pc := 10) (n := 1) (by decide +kernel) rfl (Nat.le_of_ble_eq_true rfl) rfl).trans ?_
    rfl
theorem B_X11_keepsAll_72 {k : Nat → Nat × Nat} {u : Nat → Nat → Int} {g : Nat → Nat → Nat} {t : Nat × Nat × Nat} {r0 : Nat} {v1 : AV} : a_X 276 72 [a_r (r0), v1] [] (k, u, g, t) = if (k r0).1 = 11 then if (k r0).1 = 11 then some (.inl none, (k, (upm u r0 4 (wr ((u r0 4) + 1))), g, t)) else none else none := by
  refine (X_aload_n (m := 276) (pc := 72) (n := 0) (by decide +kernel) rfl).trans ?_
  refine (X_dup (m := 276) (pc := 73)  (by decide +kernel) rfl rfl).trans ?_
  refine (X_getI (m := 276) (pc := 74) (n := 178) (c := 11) (q := 4) (ty := 1) (fi := false) (by decide +kernel) (by decide +kernel) (by decide +kernel)).trans ?_
  refine ite_congr rfl (fun _ => ?_) (fun _ => rfl)
  refine (X_iconst (m := 276) (pc := 77) (n := 1) (by decide +kernel) ).trans ?_
  refine (X_iadd (m := 276) (pc := 78)  (by decide +kernel) ).trans ?_
  refine (X_putI (m := 276) (pc := 79) (n := 178) (c := 11) (q := 4) (fi := false) (by decide +kernel) (by decide +kernel) (fun h => by cases h) (by decide +kernel)).trans ?_
  refine ite_congr rfl (fun _ => ?_) (fun _ => rfl)
  exact X_return (m := 276) (pc := 82) (by decide +kernel) (by decide +kernel)
theorem B_X11_keepsAll_11 {k : Nat → Nat × Nat} {u : Nat → Nat → Int} {g : Nat → Nat → Nat} {t : Nat × Nat × Nat} {r0 : Nat} {x1 : Int} : a_X 276 11 [a_r (r0), a_i (x1)] [] (k, u, g, t) = if (x1 : Int) ≥ (22960 : Int) then if (k r0).1 = 11 then if (k r0).1 = 11 then if (k r0).1 = 11 then if (k r0).1 = 11 then if (k r0).1 = 11 then (a_m 163 [a_r (g r0 2), a_i (0), a_r (g r0 3), a_i (wr (3280 * (wr (0 + ((upm u r0 4 (wr ((u r0 4) - 1))) r0 4)))))] (k, (upm u r0 4 (wr ((u r0 4) - 1))), g, t)).bind (a_back 276 69 3 [a_r (r0), a_i (x1)] []) else none else none else none else none else none else if (k r0).1 = 11 then if (k r0).1 = 11 then if ((k (g r0 3)).1 = 20 ∨ (k (g r0 3)).1 = 24) ∧ 0 ≤ (wr (x1 + 3280) : Int) ∧ (wr (x1 + 3280) : Int) < ((k (g r0 3)).2 : Int) then if (k (g r0 3)).1 = 20 ∧ 0 ≤ (x1 : Int) ∧ (x1 : Int) < ((k (g r0 3)).2 : Int) then a_X 276 11 [a_r (r0), a_i (wr (x1 + 1))] [] (k, (upm u (g r0 3) (x1 : Int).toNat (u (g r0 3) (wr (x1 + 3280) : Int).toNat)), g, t) else none else none else none else none := by
  refine (X_iload_n (m := 276) (pc := 11) (n := 1) (by decide +kernel) rfl).trans ?_
  refine (X_sipush (m := 276) (pc := 12) (n := 22960) (by decide +kernel) ).trans ?_
  refine (X_ic_ge (m := 276) (pc := 15) (off := 25) (tg := 40) (by decide +kernel) (by decide +kernel)).trans ?_
  refine ite_congr rfl (fun _ => ?_) (fun _ => ?_)
  · refine (X_aload_n (m := 276) (pc := 40) (n := 0) (by decide +kernel) rfl).trans ?_
    refine (X_dup (m := 276) (pc := 41)  (by decide +kernel) rfl rfl).trans ?_
    refine (X_getI (m := 276) (pc := 42) (n := 178) (c := 11) (q := 4) (ty := 1) (fi := false) (by decide +kernel) (by decide +kernel) (by decide +kernel)).trans ?_
    refine ite_congr rfl (fun _ => ?_) (fun _ => rfl)
    refine (X_iconst (m := 276) (pc := 45) (n := 1) (by decide +kernel) ).trans ?_
    refine (X_isub (m := 276) (pc := 46)  (by decide +kernel) ).trans ?_
    refine (X_putI (m := 276) (pc := 47) (n := 178) (c := 11) (q := 4) (fi := false) (by decide +kernel) (by decide +kernel) (fun h => by cases h) (by decide +kernel)).trans ?_
    refine ite_congr rfl (fun _ => ?_) (fun _ => rfl)
    refine (X_aload_n (m := 276) (pc := 50) (n := 0) (by decide +kernel) rfl).trans ?_
    refine (X_getR (m := 276) (pc := 51) (n := 7) (c := 11) (q := 2) (fi := true) (by decide +kernel) (by decide +kernel)).trans ?_
    refine ite_congr rfl (fun _ => ?_) (fun _ => rfl)
    refine (X_iconst (m := 276) (pc := 54) (n := 0) (by decide +kernel) ).trans ?_
    refine (X_aload_n (m := 276) (pc := 55) (n := 0) (by decide +kernel) rfl).trans ?_
    refine (X_getR (m := 276) (pc := 56) (n := 14) (c := 11) (q := 3) (fi := true) (by decide +kernel) (by decide +kernel)).trans ?_
    refine ite_congr rfl (fun _ => ?_) (fun _ => rfl)
    refine (X_sipush (m := 276) (pc := 59) (n := 3280) (by decide +kernel) ).trans ?_
    refine (X_iconst (m := 276) (pc := 62) (n := 0) (by decide +kernel) ).trans ?_
    refine (X_aload_n (m := 276) (pc := 63) (n := 0) (by decide +kernel) rfl).trans ?_
    refine (X_getI (m := 276) (pc := 64) (n := 178) (c := 11) (q := 4) (ty := 1) (fi := false) (by decide +kernel) (by decide +kernel) (by decide +kernel)).trans ?_
    refine ite_congr rfl (fun _ => ?_) (fun _ => rfl)
    refine (X_iadd (m := 276) (pc := 67)  (by decide +kernel) ).trans ?_
    refine (X_imul (m := 276) (pc := 68)  (by decide +kernel) ).trans ?_
    refine (X_call_st (m := 276) (pc := 69) (q := 171) (y := 163) (n := 4) (as := [a_r (g r0 2), a_i (0), a_r (g r0 3), a_i (wr (3280 * (wr (0 + ((upm u r0 4 (wr ((u r0 4) - 1))) r0 4)))))]) (rest := []) (by decide +kernel) (by decide +kernel) (by decide +kernel) (by decide +kernel) rfl rfl (Nat.le_of_ble_eq_true rfl) (Nat.le_of_ble_eq_true rfl) rfl (by rw [show m_maxL 163 = 5 from by decide +kernel]; exact Nat.le_of_ble_eq_true rfl)).trans ?_
    exact if_pos rfl
  · refine (X_aload_n (m := 276) (pc := 18) (n := 0) (by decide +kernel) rfl).trans ?_
    refine (X_getR (m := 276) (pc := 19) (n := 14) (c := 11) (q := 3) (fi := true) (by decide +kernel) (by decide +kernel)).trans ?_
    refine ite_congr rfl (fun _ => ?_) (fun _ => rfl)
    refine (X_iload_n (m := 276) (pc := 22) (n := 1) (by decide +kernel) rfl).trans ?_
    refine (X_aload_n (m := 276) (pc := 23) (n := 0) (by decide +kernel) rfl).trans ?_
    refine (X_getR (m := 276) (pc := 24) (n := 14) (c := 11) (q := 3) (fi := true) (by decide +kernel) (by decide +kernel)).trans ?_
    refine ite_congr rfl (fun _ => ?_) (fun _ => rfl)
    refine (X_iload_n (m := 276) (pc := 27) (n := 1) (by decide +kernel) rfl).trans ?_
    refine (X_sipush (m := 276) (pc := 28) (n := 3280) (by decide +kernel) ).trans ?_
    refine (X_iadd (m := 276) (pc := 31)  (by decide +kernel) ).trans ?_
    refine (X_iaload (m := 276) (pc := 32)  (by decide +kernel) ).trans ?_
    refine ite_congr rfl (fun _ => ?_) (fun _ => rfl)
    refine (X_iastore (m := 276) (pc := 33)  (by decide +kernel) ).trans ?_
    refine ite_congr rfl (fun _ => ?_) (fun _ => rfl)
    refine (X_iinc (m := 276) (pc := 34) (n := 1) (c := 1) (by decide +kernel) rfl rfl (Nat.le_of_ble_eq_true rfl) rfl).trans ?_
    refine (X_goto (m := 276) (pc := 37) (off := -26) (tg := 11) (by decide +kernel) (by decide +kernel)).trans ?_
    rfl
theorem E_X11_isLength {σ : AS} {x0 : Int} : a_m 277 [a_i (x0)] σ = a_X 277 0 [a_i (x0)] [] σ := a_m_eq (by rw [a_entry, show m_maxL 277 = 1 from by decide +kernel]; rfl)
theorem B_X11_isLength_0 {k : Nat → Nat × Nat} {u : Nat → Nat → Int} {g : Nat → Nat → Nat} {t : Nat × Nat × Nat} {x0 : Int} : a_X 277 0 [a_i (x0)] [] (k, u, g, t) = (a_m 155 [a_l (x0), a_l (1), a_l (20)] (k, u, g, t)).bind (a_back 277 6 3 [a_i (x0)] []) := by
  refine (X_iload_n (m := 277) (pc := 0) (n := 0) (by decide +kernel) rfl).trans ?_
  refine (X_i2l (m := 277) (pc := 1)  (by decide +kernel) ).trans ?_
  refine (X_lconst (m := 277) (pc := 2) (n := 1) (by decide +kernel) ).trans ?_
  refine (X_ldc2 (m := 277) (pc := 3) (n := 404) (z := 20) (by decide +kernel) (by decide +kernel)).trans ?_
  refine (X_call_st (m := 277) (pc := 6) (q := 61) (y := 155) (n := 3) (as := [a_l (x0), a_l (1), a_l (20)]) (rest := []) (by decide +kernel) (by decide +kernel) (by decide +kernel) (by decide +kernel) rfl rfl (Nat.le_of_ble_eq_true rfl) (Nat.le_of_ble_eq_true rfl) rfl (by rw [show m_maxL 155 = 6 from by decide +kernel]; exact Nat.le_of_ble_eq_true rfl)).trans ?_
  exact if_pos rfl
theorem B_X11_isLength_9 {k : Nat → Nat × Nat} {u : Nat → Nat → Int} {g : Nat → Nat → Nat} {t : Nat × Nat × Nat} {x0 : Int} {y0 : Int} : a_X 277 9 [a_i (x0)] [a_i (y0)] (k, u, g, t) = if a_fit 2 (y0) = true then some (.inl (some (a_i (y0))), (k, u, g, t)) else none := by
  exact X_ireturnF (m := 277) (pc := 9) (f := 2) (by decide +kernel) (by decide +kernel)
theorem E_X11_canPublish {σ : AS} {r0 : Nat} {x1 : Int} : a_m 278 [a_r (r0), a_i (x1)] σ = a_X 278 0 [a_r (r0), a_i (x1)] [] σ := a_m_eq (by rw [a_entry, show m_maxL 278 = 2 from by decide +kernel]; rfl)
theorem B_X11_canPublish_0 {k : Nat → Nat × Nat} {u : Nat → Nat → Int} {g : Nat → Nat → Nat} {t : Nat × Nat × Nat} {r0 : Nat} {x1 : Int} : a_X 278 0 [a_r (r0), a_i (x1)] [] (k, u, g, t) = (a_m 277 [a_i (x1)] (k, u, g, t)).bind (a_back 278 1 3 [a_r (r0), a_i (x1)] []) := by
  refine (X_iload_n (m := 278) (pc := 0) (n := 1) (by decide +kernel) rfl).trans ?_
  refine (X_call_st (m := 278) (pc := 1) (q := 406) (y := 277) (n := 1) (as := [a_i (x1)]) (rest := []) (by decide +kernel) (by decide +kernel) (by decide +kernel) (by decide +kernel) rfl rfl (Nat.le_of_ble_eq_true rfl) (Nat.le_of_ble_eq_true rfl) rfl (by rw [show m_maxL 277 = 1 from by decide +kernel]; exact Nat.le_of_ble_eq_true rfl)).trans ?_
  exact if_pos rfl
theorem B_X11_canPublish_4 {k : Nat → Nat × Nat} {u : Nat → Nat → Int} {g : Nat → Nat → Nat} {t : Nat × Nat × Nat} {r0 : Nat} {x1 : Int} {y0 : Int} : a_X 278 4 [a_r (r0), a_i (x1)] [a_i (y0)] (k, u, g, t) = if (y0 : Int) = 0 then some (.inl (some (a_i (0))), (k, u, g, t)) else if (k r0).1 = 11 then if ((k (g r0 2)).1 = 20 ∨ (k (g r0 2)).1 = 24) ∧ 0 ≤ (2 : Int) ∧ (2 : Int) < ((k (g r0 2)).2 : Int) then if (u (g r0 2) (2 : Int).toNat : Int) ≥ (99 : Int) then some (.inl (some (a_i (0))), (k, u, g, t)) else if (k r0).1 = 11 then (a_m 192 [a_r (r0)] (k, u, g, t)).bind (a_back 278 19 3 [a_r (r0), a_i (x1)] []) else none else none else none := by
  refine (X_if_eq (m := 278) (pc := 4) (off := 25) (tg := 29) (by decide +kernel) (by decide +kernel)).trans ?_
  refine ite_congr rfl (fun _ => ?_) (fun _ => ?_)
  · refine (X_iconst (m := 278) (pc := 29) (n := 0) (by decide +kernel) ).trans ?_
    exact X_ireturn (m := 278) (pc := 30) (f := 2) (by decide +kernel) (by decide +kernel) rfl
  · refine (X_aload_n (m := 278) (pc := 7) (n := 0) (by decide +kernel) rfl).trans ?_
    refine (X_getR (m := 278) (pc := 8) (n := 7) (c := 11) (q := 2) (fi := true) (by decide +kernel) (by decide +kernel)).trans ?_
    refine ite_congr rfl (fun _ => ?_) (fun _ => rfl)
    refine (X_iconst (m := 278) (pc := 11) (n := 2) (by decide +kernel) ).trans ?_
    refine (X_iaload (m := 278) (pc := 12)  (by decide +kernel) ).trans ?_
    refine ite_congr rfl (fun _ => ?_) (fun _ => rfl)
    refine (X_bipush (m := 278) (pc := 13) (n := 99) (by decide +kernel) ).trans ?_
    refine (X_ic_ge (m := 278) (pc := 15) (off := 14) (tg := 29) (by decide +kernel) (by decide +kernel)).trans ?_
    refine ite_congr rfl (fun _ => ?_) (fun _ => ?_)
    · refine (X_iconst (m := 278) (pc := 29) (n := 0) (by decide +kernel) ).trans ?_
      exact X_ireturn (m := 278) (pc := 30) (f := 2) (by decide +kernel) (by decide +kernel) rfl
    · refine (X_aload_n (m := 278) (pc := 18) (n := 0) (by decide +kernel) rfl).trans ?_
      refine (X_call_vi (m := 278) (pc := 19) (q := 239) (y := 192) (n := 1) (as := [a_r (r0)]) (rest := []) (by decide +kernel) (by decide +kernel) (by decide +kernel) (by decide +kernel) rfl rfl (Nat.le_of_ble_eq_true rfl) (Nat.le_of_ble_eq_true rfl) rfl (by rw [show m_maxL 192 = 1 from by decide +kernel]; exact Nat.le_of_ble_eq_true rfl)).trans ?_
      exact ite_congr (by simp [a_rcv, show m_recv 192 = 11 from by decide +kernel]) (fun _ => rfl) (fun _ => rfl)
theorem B_X11_canPublish_22 {k : Nat → Nat × Nat} {u : Nat → Nat → Int} {g : Nat → Nat → Nat} {t : Nat × Nat × Nat} {r0 : Nat} {x1 : Int} {y0 : Int} : a_X 278 22 [a_r (r0), a_i (x1)] [a_i (y0)] (k, u, g, t) = if (y0 : Int) = 0 then some (.inl (some (a_i (0))), (k, u, g, t)) else some (.inl (some (a_i (1))), (k, u, g, t)) := by
  refine (X_if_eq (m := 278) (pc := 22) (off := 7) (tg := 29) (by decide +kernel) (by decide +kernel)).trans ?_
  refine ite_congr rfl (fun _ => ?_) (fun _ => ?_)
  · refine (X_iconst (m := 278) (pc := 29) (n := 0) (by decide +kernel) ).trans ?_
    exact X_ireturn (m := 278) (pc := 30) (f := 2) (by decide +kernel) (by decide +kernel) rfl
  · refine (X_iconst (m := 278) (pc := 25) (n := 1) (by decide +kernel) ).trans ?_
    refine (X_goto (m := 278) (pc := 26) (off := 4) (tg := 30) (by decide +kernel) (by decide +kernel)).trans ?_
    exact X_ireturn (m := 278) (pc := 30) (f := 2) (by decide +kernel) (by decide +kernel) rfl
theorem E_X11_publishes {σ : AS} {r0 : Nat} {x1 : Int} {x2 : Int} : a_m 279 [a_r (r0), a_i (x1), a_i (x2)] σ = a_X 279 0 [a_r (r0), a_i (x1), a_i (x2), a_x false, a_x false, a_x false, a_x false] [] σ := a_m_eq (by rw [a_entry, show m_maxL 279 = 7 from by decide +kernel]; rfl)
theorem B_X11_publishes_0 {k : Nat → Nat × Nat} {u : Nat → Nat → Int} {g : Nat → Nat → Nat} {t : Nat × Nat × Nat} {r0 : Nat} {x1 : Int} {x2 : Int} {v3 : AV} {v4 : AV} {v5 : AV} {v6 : AV} : a_X 279 0 [a_r (r0), a_i (x1), a_i (x2), v3, v4, v5, v6] [] (k, u, g, t) = if (k r0).1 = 11 then if ((k (g r0 2)).1 = 20 ∨ (k (g r0 2)).1 = 24) ∧ 0 ≤ (2 : Int) ∧ (2 : Int) < ((k (g r0 2)).2 : Int) then if (k (g r0 2)).1 = 20 ∧ 0 ≤ (2 : Int) ∧ (2 : Int) < ((k (g r0 2)).2 : Int) then if (k r0).1 = 11 then if ((k (g r0 2)).1 = 20 ∨ (k (g r0 2)).1 = 24) ∧ 0 ≤ (2 : Int) ∧ (2 : Int) < ((k (g r0 2)).2 : Int) then (a_m 164 [a_i (-1), a_i (x1)] (k, (upm u (g r0 2) (2 : Int).toNat (wr ((u (g r0 2) (2 : Int).toNat) + 1))), g, t)).bind (a_back 279 31 3 [a_r (r0), a_i (x1), a_i (x2), a_i ((upm u (g r0 2) (2 : Int).toNat (wr ((u (g r0 2) (2 : Int).toNat) + 1))) (g r0 2) (2 : Int).toNat), a_i (wr (550 + (wr (6 * (wr (((upm u (g r0 2) (2 : Int).toNat (wr ((u (g r0 2) (2 : Int).toNat) + 1))) (g r0 2) (2 : Int).toNat) - 1)))))), v5, v6] []) else none else none else none else none else none := by
  refine (X_aload_n (m := 279) (pc := 0) (n := 0) (by decide +kernel) rfl).trans ?_
  refine (X_getR (m := 279) (pc := 1) (n := 7) (c := 11) (q := 2) (fi := true) (by decide +kernel) (by decide +kernel)).trans ?_
  refine ite_congr rfl (fun _ => ?_) (fun _ => rfl)
  refine (X_iconst (m := 279) (pc := 4) (n := 2) (by decide +kernel) ).trans ?_
  refine (X_dup2 (m := 279) (pc := 5)  (by decide +kernel) rfl rfl rfl rfl).trans ?_
  refine (X_iaload (m := 279) (pc := 6)  (by decide +kernel) ).trans ?_
  refine ite_congr rfl (fun _ => ?_) (fun _ => rfl)
  refine (X_iconst (m := 279) (pc := 7) (n := 1) (by decide +kernel) ).trans ?_
  refine (X_iadd (m := 279) (pc := 8)  (by decide +kernel) ).trans ?_
  refine (X_iastore (m := 279) (pc := 9)  (by decide +kernel) ).trans ?_
  refine ite_congr rfl (fun _ => ?_) (fun _ => rfl)
  refine (X_aload_n (m := 279) (pc := 10) (n := 0) (by decide +kernel) rfl).trans ?_
  refine (X_getR (m := 279) (pc := 11) (n := 7) (c := 11) (q := 2) (fi := true) (by decide +kernel) (by decide +kernel)).trans ?_
  refine ite_congr rfl (fun _ => ?_) (fun _ => rfl)
  refine (X_iconst (m := 279) (pc := 14) (n := 2) (by decide +kernel) ).trans ?_
  refine (X_iaload (m := 279) (pc := 15)  (by decide +kernel) ).trans ?_
  refine ite_congr rfl (fun _ => ?_) (fun _ => rfl)
  refine (X_istore_n (m := 279) (pc := 16) (n := 3) (by decide +kernel) rfl (Nat.le_of_ble_eq_true rfl) rfl).trans ?_
  refine (X_sipush (m := 279) (pc := 17) (n := 550) (by decide +kernel) ).trans ?_
  refine (X_bipush (m := 279) (pc := 20) (n := 6) (by decide +kernel) ).trans ?_
  refine (X_iload_n (m := 279) (pc := 22) (n := 3) (by decide +kernel) rfl).trans ?_
  refine (X_iconst (m := 279) (pc := 23) (n := 1) (by decide +kernel) ).trans ?_
  refine (X_isub (m := 279) (pc := 24)  (by decide +kernel) ).trans ?_
  refine (X_imul (m := 279) (pc := 25)  (by decide +kernel) ).trans ?_
  refine (X_iadd (m := 279) (pc := 26)  (by decide +kernel) ).trans ?_
  refine (X_istore (m := 279) (pc := 27) (n := 4) (by decide +kernel) rfl (Nat.le_of_ble_eq_true rfl) rfl).trans ?_
  refine (X_iconst (m := 279) (pc := 29) (n := -1) (by decide +kernel) ).trans ?_
  refine (X_iload_n (m := 279) (pc := 30) (n := 1) (by decide +kernel) rfl).trans ?_
  refine (X_call_st (m := 279) (pc := 31) (q := 71) (y := 164) (n := 2) (as := [a_i (-1), a_i (x1)]) (rest := []) (by decide +kernel) (by decide +kernel) (by decide +kernel) (by decide +kernel) rfl rfl (Nat.le_of_ble_eq_true rfl) (Nat.le_of_ble_eq_true rfl) rfl (by rw [show m_maxL 164 = 2 from by decide +kernel]; exact Nat.le_of_ble_eq_true rfl)).trans ?_
  exact if_pos rfl
theorem B_X11_publishes_34 {k : Nat → Nat × Nat} {u : Nat → Nat → Int} {g : Nat → Nat → Nat} {t : Nat × Nat × Nat} {r0 : Nat} {x1 : Int} {x2 : Int} {x3 : Int} {x4 : Int} {v5 : AV} {v6 : AV} {y0 : Int} : a_X 279 34 [a_r (r0), a_i (x1), a_i (x2), a_i (x3), a_i (x4), v5, v6] [a_i (y0)] (k, u, g, t) = if (k r0).1 = 11 then if (k (g r0 2)).1 = 20 ∧ 0 ≤ (wr (x4 + 0) : Int) ∧ (wr (x4 + 0) : Int) < ((k (g r0 2)).2 : Int) then a_X 279 49 [a_r (r0), a_i (x1), a_i (x2), a_i (x3), a_i (x4), a_i (y0), a_i (0)] [] (k, (upm u (g r0 2) (wr (x4 + 0) : Int).toNat x1), g, t) else none else none := by
  refine (X_istore (m := 279) (pc := 34) (n := 5) (by decide +kernel) rfl (Nat.le_of_ble_eq_true rfl) rfl).trans ?_
  refine (X_aload_n (m := 279) (pc := 36) (n := 0) (by decide +kernel) rfl).trans ?_
  refine (X_getR (m := 279) (pc := 37) (n := 7) (c := 11) (q := 2) (fi := true) (by decide +kernel) (by decide +kernel)).trans ?_
  refine ite_congr rfl (fun _ => ?_) (fun _ => rfl)
  refine (X_iload (m := 279) (pc := 40) (n := 4) (by decide +kernel) rfl).trans ?_
  refine (X_iconst (m := 279) (pc := 42) (n := 0) (by decide +kernel) ).trans ?_
  refine (X_iadd (m := 279) (pc := 43)  (by decide +kernel) ).trans ?_
  refine (X_iload_n (m := 279) (pc := 44) (n := 1) (by decide +kernel) rfl).trans ?_
  refine (X_iastore (m := 279) (pc := 45)  (by decide +kernel) ).trans ?_
  refine ite_congr rfl (fun _ => ?_) (fun _ => rfl)
  refine (X_iconst (m := 279) (pc := 46) (n := 0) (by decide +kernel) ).trans ?_
  refine (X_istore (m := 279) (pc := 47) (n := 6) (by decide +kernel) rfl (Nat.le_of_ble_eq_true rfl) rfl).trans ?_
  rfl
theorem B_X11_publishes_49 {k : Nat → Nat × Nat} {u : Nat → Nat → Int} {g : Nat → Nat → Nat} {t : Nat × Nat × Nat} {r0 : Nat} {x1 : Int} {x2 : Int} {x3 : Int} {x4 : Int} {x5 : Int} {x6 : Int} : a_X 279 49 [a_r (r0), a_i (x1), a_i (x2), a_i (x3), a_i (x4), a_i (x5), a_i (x6)] [] (k, u, g, t) = if (x6 : Int) > (3 : Int) then if (k r0).1 = 11 then if (k r0).1 = 11 then if ((k (g r0 2)).1 = 20 ∨ (k (g r0 2)).1 = 24) ∧ 0 ≤ (1 : Int) ∧ (1 : Int) < ((k (g r0 2)).2 : Int) then if (k (g r0 2)).1 = 20 ∧ 0 ≤ (wr (x4 + 5) : Int) ∧ (wr (x4 + 5) : Int) < ((k (g r0 2)).2 : Int) then if (k r0).1 = 11 then if (k (g r0 2)).1 = 20 ∧ 0 ≤ (wr (x5 + 4) : Int) ∧ (wr (x5 + 4) : Int) < ((k (g r0 2)).2 : Int) then if (k r0).1 = 11 then (a_m 193 [a_r (r0), a_i (0), a_i (x3), a_i (x2)] (k, (upm (upm u (g r0 2) (wr (x4 + 5) : Int).toNat (u (g r0 2) (1 : Int).toNat)) (g r0 2) (wr (x5 + 4) : Int).toNat x3), g, t)).bind (a_back 279 112 3 [a_r (r0), a_i (x1), a_i (x2), a_i (x3), a_i (x4), a_i (x5), a_i (x6)] []) else none else none else none else none else none else none else none else if (k r0).1 = 11 then if (k r0).1 = 11 then if ((k (g r0 2)).1 = 20 ∨ (k (g r0 2)).1 = 24) ∧ 0 ≤ (wr (x5 + x6) : Int) ∧ (wr (x5 + x6) : Int) < ((k (g r0 2)).2 : Int) then if (k (g r0 2)).1 = 20 ∧ 0 ≤ (wr ((wr (x4 + 1)) + x6) : Int) ∧ (wr ((wr (x4 + 1)) + x6) : Int) < ((k (g r0 2)).2 : Int) then a_X 279 49 [a_r (r0), a_i (x1), a_i (x2), a_i (x3), a_i (x4), a_i (x5), a_i (wr (x6 + 1))] [] (k, (upm u (g r0 2) (wr ((wr (x4 + 1)) + x6) : Int).toNat (u (g r0 2) (wr (x5 + x6) : Int).toNat)), g, t) else none else none else none else none := by
  refine (X_iload (m := 279) (pc := 49) (n := 6) (by decide +kernel) rfl).trans ?_
  refine (X_iconst (m := 279) (pc := 51) (n := 3) (by decide +kernel) ).trans ?_
  refine (X_ic_gt (m := 279) (pc := 52) (off := 31) (tg := 83) (by decide +kernel) (by decide +kernel)).trans ?_
  refine ite_congr rfl (fun _ => ?_) (fun _ => ?_)
  · refine (X_aload_n (m := 279) (pc := 83) (n := 0) (by decide +kernel) rfl).trans ?_
    refine (X_getR (m := 279) (pc := 84) (n := 7) (c := 11) (q := 2) (fi := true) (by decide +kernel) (by decide +kernel)).trans ?_
    refine ite_congr rfl (fun _ => ?_) (fun _ => rfl)
    refine (X_iload (m := 279) (pc := 87) (n := 4) (by decide +kernel) rfl).trans ?_
    refine (X_iconst (m := 279) (pc := 89) (n := 5) (by decide +kernel) ).trans ?_
    refine (X_iadd (m := 279) (pc := 90)  (by decide +kernel) ).trans ?_
    refine (X_aload_n (m := 279) (pc := 91) (n := 0) (by decide +kernel) rfl).trans ?_
    refine (X_getR (m := 279) (pc := 92) (n := 7) (c := 11) (q := 2) (fi := true) (by decide +kernel) (by decide +kernel)).trans ?_
    refine ite_congr rfl (fun _ => ?_) (fun _ => rfl)
    refine (X_iconst (m := 279) (pc := 95) (n := 1) (by decide +kernel) ).trans ?_
    refine (X_iaload (m := 279) (pc := 96)  (by decide +kernel) ).trans ?_
    refine ite_congr rfl (fun _ => ?_) (fun _ => rfl)
    refine (X_iastore (m := 279) (pc := 97)  (by decide +kernel) ).trans ?_
    refine ite_congr rfl (fun _ => ?_) (fun _ => rfl)
    refine (X_aload_n (m := 279) (pc := 98) (n := 0) (by decide +kernel) rfl).trans ?_
    refine (X_getR (m := 279) (pc := 99) (n := 7) (c := 11) (q := 2) (fi := true) (by decide +kernel) (by decide +kernel)).trans ?_
    refine ite_congr rfl (fun _ => ?_) (fun _ => rfl)
    refine (X_iload (m := 279) (pc := 102) (n := 5) (by decide +kernel) rfl).trans ?_
    refine (X_iconst (m := 279) (pc := 104) (n := 4) (by decide +kernel) ).trans ?_
    refine (X_iadd (m := 279) (pc := 105)  (by decide +kernel) ).trans ?_
    refine (X_iload_n (m := 279) (pc := 106) (n := 3) (by decide +kernel) rfl).trans ?_
    refine (X_iastore (m := 279) (pc := 107)  (by decide +kernel) ).trans ?_
    refine ite_congr rfl (fun _ => ?_) (fun _ => rfl)
    refine (X_aload_n (m := 279) (pc := 108) (n := 0) (by decide +kernel) rfl).trans ?_
    refine (X_iconst (m := 279) (pc := 109) (n := 0) (by decide +kernel) ).trans ?_
    refine (X_iload_n (m := 279) (pc := 110) (n := 3) (by decide +kernel) rfl).trans ?_
    refine (X_iload_n (m := 279) (pc := 111) (n := 2) (by decide +kernel) rfl).trans ?_
    refine (X_call_vi (m := 279) (pc := 112) (q := 242) (y := 193) (n := 4) (as := [a_r (r0), a_i (0), a_i (x3), a_i (x2)]) (rest := []) (by decide +kernel) (by decide +kernel) (by decide +kernel) (by decide +kernel) rfl rfl (Nat.le_of_ble_eq_true rfl) (Nat.le_of_ble_eq_true rfl) rfl (by rw [show m_maxL 193 = 6 from by decide +kernel]; exact Nat.le_of_ble_eq_true rfl)).trans ?_
    exact ite_congr (by simp [a_rcv, show m_recv 193 = 11 from by decide +kernel]) (fun _ => rfl) (fun _ => rfl)
  · refine (X_aload_n (m := 279) (pc := 55) (n := 0) (by decide +kernel) rfl).trans ?_
    refine (X_getR (m := 279) (pc := 56) (n := 7) (c := 11) (q := 2) (fi := true) (by decide +kernel) (by decide +kernel)).trans ?_
    refine ite_congr rfl (fun _ => ?_) (fun _ => rfl)
    refine (X_iload (m := 279) (pc := 59) (n := 4) (by decide +kernel) rfl).trans ?_
    refine (X_iconst (m := 279) (pc := 61) (n := 1) (by decide +kernel) ).trans ?_
    refine (X_iadd (m := 279) (pc := 62)  (by decide +kernel) ).trans ?_
    refine (X_iload (m := 279) (pc := 63) (n := 6) (by decide +kernel) rfl).trans ?_
    refine (X_iadd (m := 279) (pc := 65)  (by decide +kernel) ).trans ?_
    refine (X_aload_n (m := 279) (pc := 66) (n := 0) (by decide +kernel) rfl).trans ?_
    refine (X_getR (m := 279) (pc := 67) (n := 7) (c := 11) (q := 2) (fi := true) (by decide +kernel) (by decide +kernel)).trans ?_
    refine ite_congr rfl (fun _ => ?_) (fun _ => rfl)
    refine (X_iload (m := 279) (pc := 70) (n := 5) (by decide +kernel) rfl).trans ?_
    refine (X_iload (m := 279) (pc := 72) (n := 6) (by decide +kernel) rfl).trans ?_
    refine (X_iadd (m := 279) (pc := 74)  (by decide +kernel) ).trans ?_
    refine (X_iaload (m := 279) (pc := 75)  (by decide +kernel) ).trans ?_
    refine ite_congr rfl (fun _ => ?_) (fun _ => rfl)
    refine (X_iastore (m := 279) (pc := 76)  (by decide +kernel) ).trans ?_
    refine ite_congr rfl (fun _ => ?_) (fun _ => rfl)
    refine (X_iinc (m := 279) (pc := 77) (n := 6) (c := 1) (by decide +kernel) rfl rfl (Nat.le_of_ble_eq_true rfl) rfl).trans ?_
    refine (X_goto (m := 279) (pc := 80) (off := -31) (tg := 49) (by decide +kernel) (by decide +kernel)).trans ?_
    rfl
theorem B_X11_publishes_115 {k : Nat → Nat × Nat} {u : Nat → Nat → Int} {g : Nat → Nat → Nat} {t : Nat × Nat × Nat} {r0 : Nat} {x1 : Int} {x2 : Int} {x3 : Int} {x4 : Int} {x5 : Int} {x6 : Int} : a_X 279 115 [a_r (r0), a_i (x1), a_i (x2), a_i (x3), a_i (x4), a_i (x5), a_i (x6)] [] (k, u, g, t) = some (.inl (some (a_i (x3))), (k, u, g, t)) := by
  refine (X_iload_n (m := 279) (pc := 115) (n := 3) (by decide +kernel) rfl).trans ?_
  exact X_ireturn (m := 279) (pc := 116) (f := 1) (by decide +kernel) (by decide +kernel) rfl
theorem E_X11_isStop {σ : AS} {x0 : Int} {x1 : Int} {x2 : Int} {x3 : Int} : a_m 280 [a_i (x0), a_i (x1), a_i (x2), a_i (x3)] σ = a_X 280 0 [a_i (x0), a_i (x1), a_i (x2), a_i (x3)] [] σ := a_m_eq (by rw [a_entry, show m_maxL 280 = 4 from by decide +kernel]; rfl)
theorem B_X11_isStop_0 {k : Nat → Nat × Nat} {u : Nat → Nat → Int} {g : Nat → Nat → Nat} {t : Nat × Nat × Nat} {x0 : Int} {x1 : Int} {x2 : Int} {x3 : Int} : a_X 280 0 [a_i (x0), a_i (x1), a_i (x2), a_i (x3)] [] (k, u, g, t) = (a_m 155 [a_l (x0), a_l (0), a_l (29)] (k, u, g, t)).bind (a_back 280 6 3 [a_i (x0), a_i (x1), a_i (x2), a_i (x3)] []) := by
  refine (X_iload_n (m := 280) (pc := 0) (n := 0) (by decide +kernel) rfl).trans ?_
  refine (X_i2l (m := 280) (pc := 1)  (by decide +kernel) ).trans ?_
  refine (X_lconst (m := 280) (pc := 2) (n := 0) (by decide +kernel) ).trans ?_
  refine (X_ldc2 (m := 280) (pc := 3) (n := 306) (z := 29) (by decide +kernel) (by decide +kernel)).trans ?_
  refine (X_call_st (m := 280) (pc := 6) (q := 61) (y := 155) (n := 3) (as := [a_l (x0), a_l (0), a_l (29)]) (rest := []) (by decide +kernel) (by decide +kernel) (by decide +kernel) (by decide +kernel) rfl rfl (Nat.le_of_ble_eq_true rfl) (Nat.le_of_ble_eq_true rfl) rfl (by rw [show m_maxL 155 = 6 from by decide +kernel]; exact Nat.le_of_ble_eq_true rfl)).trans ?_
  exact if_pos rfl
theorem B_X11_isStop_9 {k : Nat → Nat × Nat} {u : Nat → Nat → Int} {g : Nat → Nat → Nat} {t : Nat × Nat × Nat} {x0 : Int} {x1 : Int} {x2 : Int} {x3 : Int} {y0 : Int} : a_X 280 9 [a_i (x0), a_i (x1), a_i (x2), a_i (x3)] [a_i (y0)] (k, u, g, t) = if (y0 : Int) = 0 then some (.inl (some (a_i (0))), (k, u, g, t)) else (a_m 162 [a_i (x1)] (k, u, g, t)).bind (a_back 280 13 3 [a_i (x0), a_i (x1), a_i (x2), a_i (x3)] []) := by
  refine (X_if_eq (m := 280) (pc := 9) (off := 41) (tg := 50) (by decide +kernel) (by decide +kernel)).trans ?_
  refine ite_congr rfl (fun _ => ?_) (fun _ => ?_)
  · refine (X_iconst (m := 280) (pc := 50) (n := 0) (by decide +kernel) ).trans ?_
    exact X_ireturn (m := 280) (pc := 51) (f := 2) (by decide +kernel) (by decide +kernel) rfl
  · refine (X_iload_n (m := 280) (pc := 12) (n := 1) (by decide +kernel) rfl).trans ?_
    refine (X_call_st (m := 280) (pc := 13) (q := 311) (y := 162) (n := 1) (as := [a_i (x1)]) (rest := []) (by decide +kernel) (by decide +kernel) (by decide +kernel) (by decide +kernel) rfl rfl (Nat.le_of_ble_eq_true rfl) (Nat.le_of_ble_eq_true rfl) rfl (by rw [show m_maxL 162 = 1 from by decide +kernel]; exact Nat.le_of_ble_eq_true rfl)).trans ?_
    exact if_pos rfl
theorem B_X11_isStop_16 {k : Nat → Nat × Nat} {u : Nat → Nat → Int} {g : Nat → Nat → Nat} {t : Nat × Nat × Nat} {x0 : Int} {x1 : Int} {x2 : Int} {x3 : Int} {y0 : Int} : a_X 280 16 [a_i (x0), a_i (x1), a_i (x2), a_i (x3)] [a_i (y0)] (k, u, g, t) = if (y0 : Int) = 0 then some (.inl (some (a_i (0))), (k, u, g, t)) else (a_m 155 [a_l (x2), a_l (0), a_l (1438)] (k, u, g, t)).bind (a_back 280 25 3 [a_i (x0), a_i (x1), a_i (x2), a_i (x3)] []) := by
  refine (X_if_eq (m := 280) (pc := 16) (off := 34) (tg := 50) (by decide +kernel) (by decide +kernel)).trans ?_
  refine ite_congr rfl (fun _ => ?_) (fun _ => ?_)
  · refine (X_iconst (m := 280) (pc := 50) (n := 0) (by decide +kernel) ).trans ?_
    exact X_ireturn (m := 280) (pc := 51) (f := 2) (by decide +kernel) (by decide +kernel) rfl
  · refine (X_iload_n (m := 280) (pc := 19) (n := 2) (by decide +kernel) rfl).trans ?_
    refine (X_i2l (m := 280) (pc := 20)  (by decide +kernel) ).trans ?_
    refine (X_lconst (m := 280) (pc := 21) (n := 0) (by decide +kernel) ).trans ?_
    refine (X_ldc2 (m := 280) (pc := 22) (n := 409) (z := 1438) (by decide +kernel) (by decide +kernel)).trans ?_
    refine (X_call_st (m := 280) (pc := 25) (q := 61) (y := 155) (n := 3) (as := [a_l (x2), a_l (0), a_l (1438)]) (rest := []) (by decide +kernel) (by decide +kernel) (by decide +kernel) (by decide +kernel) rfl rfl (Nat.le_of_ble_eq_true rfl) (Nat.le_of_ble_eq_true rfl) rfl (by rw [show m_maxL 155 = 6 from by decide +kernel]; exact Nat.le_of_ble_eq_true rfl)).trans ?_
    exact if_pos rfl
theorem B_X11_isStop_28 {k : Nat → Nat × Nat} {u : Nat → Nat → Int} {g : Nat → Nat → Nat} {t : Nat × Nat × Nat} {x0 : Int} {x1 : Int} {x2 : Int} {x3 : Int} {y0 : Int} : a_X 280 28 [a_i (x0), a_i (x1), a_i (x2), a_i (x3)] [a_i (y0)] (k, u, g, t) = if (y0 : Int) = 0 then some (.inl (some (a_i (0))), (k, u, g, t)) else (a_m 155 [a_l (x3), a_l (wr (x2 + 1)), a_l (1439)] (k, u, g, t)).bind (a_back 280 40 3 [a_i (x0), a_i (x1), a_i (x2), a_i (x3)] []) := by
  refine (X_if_eq (m := 280) (pc := 28) (off := 22) (tg := 50) (by decide +kernel) (by decide +kernel)).trans ?_
  refine ite_congr rfl (fun _ => ?_) (fun _ => ?_)
  · refine (X_iconst (m := 280) (pc := 50) (n := 0) (by decide +kernel) ).trans ?_
    exact X_ireturn (m := 280) (pc := 51) (f := 2) (by decide +kernel) (by decide +kernel) rfl
  · refine (X_iload_n (m := 280) (pc := 31) (n := 3) (by decide +kernel) rfl).trans ?_
    refine (X_i2l (m := 280) (pc := 32)  (by decide +kernel) ).trans ?_
    refine (X_iload_n (m := 280) (pc := 33) (n := 2) (by decide +kernel) rfl).trans ?_
    refine (X_iconst (m := 280) (pc := 34) (n := 1) (by decide +kernel) ).trans ?_
    refine (X_iadd (m := 280) (pc := 35)  (by decide +kernel) ).trans ?_
    refine (X_i2l (m := 280) (pc := 36)  (by decide +kernel) ).trans ?_
    refine (X_ldc2 (m := 280) (pc := 37) (n := 314) (z := 1439) (by decide +kernel) (by decide +kernel)).trans ?_
    refine (X_call_st (m := 280) (pc := 40) (q := 61) (y := 155) (n := 3) (as := [a_l (x3), a_l (wr (x2 + 1)), a_l (1439)]) (rest := []) (by decide +kernel) (by decide +kernel) (by decide +kernel) (by decide +kernel) rfl rfl (Nat.le_of_ble_eq_true rfl) (Nat.le_of_ble_eq_true rfl) rfl (by rw [show m_maxL 155 = 6 from by decide +kernel]; exact Nat.le_of_ble_eq_true rfl)).trans ?_
    exact if_pos rfl
theorem B_X11_isStop_43 {k : Nat → Nat × Nat} {u : Nat → Nat → Int} {g : Nat → Nat → Nat} {t : Nat × Nat × Nat} {x0 : Int} {x1 : Int} {x2 : Int} {x3 : Int} {y0 : Int} : a_X 280 43 [a_i (x0), a_i (x1), a_i (x2), a_i (x3)] [a_i (y0)] (k, u, g, t) = if (y0 : Int) = 0 then some (.inl (some (a_i (0))), (k, u, g, t)) else some (.inl (some (a_i (1))), (k, u, g, t)) := by
  refine (X_if_eq (m := 280) (pc := 43) (off := 7) (tg := 50) (by decide +kernel) (by decide +kernel)).trans ?_
  refine ite_congr rfl (fun _ => ?_) (fun _ => ?_)
  · refine (X_iconst (m := 280) (pc := 50) (n := 0) (by decide +kernel) ).trans ?_
    exact X_ireturn (m := 280) (pc := 51) (f := 2) (by decide +kernel) (by decide +kernel) rfl
  · refine (X_iconst (m := 280) (pc := 46) (n := 1) (by decide +kernel) ).trans ?_
    refine (X_goto (m := 280) (pc := 47) (off := 4) (tg := 51) (by decide +kernel) (by decide +kernel)).trans ?_
    exact X_ireturn (m := 280) (pc := 51) (f := 2) (by decide +kernel) (by decide +kernel) rfl
theorem E_X11_correct {σ : AS} {r0 : Nat} {x1 : Int} {x2 : Int} {x3 : Int} {x4 : Int} {x5 : Int} {x6 : Int} : a_m 281 [a_r (r0), a_i (x1), a_i (x2), a_i (x3), a_i (x4), a_i (x5), a_i (x6)] σ = a_X 281 0 [a_r (r0), a_i (x1), a_i (x2), a_i (x3), a_i (x4), a_i (x5), a_i (x6), a_x false] [] σ := a_m_eq (by rw [a_entry, show m_maxL 281 = 8 from by decide +kernel]; rfl)
theorem B_X11_correct_0 {k : Nat → Nat × Nat} {u : Nat → Nat → Int} {g : Nat → Nat → Nat} {t : Nat × Nat × Nat} {r0 : Nat} {x1 : Int} {x2 : Int} {x3 : Int} {x4 : Int} {x5 : Int} {x6 : Int} {v7 : AV} : a_X 281 0 [a_r (r0), a_i (x1), a_i (x2), a_i (x3), a_i (x4), a_i (x5), a_i (x6), v7] [] (k, u, g, t) = if (k r0).1 = 11 then (a_m 158 [a_r (r0)] (k, u, g, t)).bind (a_back 281 1 3 [a_r (r0), a_i (x1), a_i (x2), a_i (x3), a_i (x4), a_i (x5), a_i (x6), v7] []) else none := by
  refine (X_aload_n (m := 281) (pc := 0) (n := 0) (by decide +kernel) rfl).trans ?_
  refine (X_call_vi (m := 281) (pc := 1) (q := 57) (y := 158) (n := 1) (as := [a_r (r0)]) (rest := []) (by decide +kernel) (by decide +kernel) (by decide +kernel) (by decide +kernel) rfl rfl (Nat.le_of_ble_eq_true rfl) (Nat.le_of_ble_eq_true rfl) rfl (by rw [show m_maxL 158 = 1 from by decide +kernel]; exact Nat.le_of_ble_eq_true rfl)).trans ?_
  exact ite_congr (by simp [a_rcv, show m_recv 158 = 11 from by decide +kernel]) (fun _ => rfl) (fun _ => rfl)
theorem B_X11_correct_4 {k : Nat → Nat × Nat} {u : Nat → Nat → Int} {g : Nat → Nat → Nat} {t : Nat × Nat × Nat} {r0 : Nat} {x1 : Int} {x2 : Int} {x3 : Int} {x4 : Int} {x5 : Int} {x6 : Int} {v7 : AV} {y0 : Int} : a_X 281 4 [a_r (r0), a_i (x1), a_i (x2), a_i (x3), a_i (x4), a_i (x5), a_i (x6), v7] [a_i (y0)] (k, u, g, t) = if (y0 : Int) ≠ 0 then some (.inl (some (a_i (0))), (k, u, g, t)) else (a_m 161 [a_i (x1)] (k, u, g, t)).bind (a_back 281 9 3 [a_r (r0), a_i (x1), a_i (x2), a_i (x3), a_i (x4), a_i (x5), a_i (x6), v7] [a_r (r0)]) := by
  refine (X_if_ne (m := 281) (pc := 4) (off := 57) (tg := 61) (by decide +kernel) (by decide +kernel)).trans ?_
  refine ite_congr rfl (fun _ => ?_) (fun _ => ?_)
  · refine (X_iconst (m := 281) (pc := 61) (n := 0) (by decide +kernel) ).trans ?_
    exact X_ireturn (m := 281) (pc := 62) (f := 1) (by decide +kernel) (by decide +kernel) rfl
  · refine (X_aload_n (m := 281) (pc := 7) (n := 0) (by decide +kernel) rfl).trans ?_
    refine (X_iload_n (m := 281) (pc := 8) (n := 1) (by decide +kernel) rfl).trans ?_
    refine (X_call_st (m := 281) (pc := 9) (q := 283) (y := 161) (n := 1) (as := [a_i (x1)]) (rest := [a_r (r0)]) (by decide +kernel) (by decide +kernel) (by decide +kernel) (by decide +kernel) rfl rfl (Nat.le_of_ble_eq_true rfl) (Nat.le_of_ble_eq_true rfl) rfl (by rw [show m_maxL 161 = 1 from by decide +kernel]; exact Nat.le_of_ble_eq_true rfl)).trans ?_
    exact if_pos rfl
theorem B_X11_correct_12 {k : Nat → Nat × Nat} {u : Nat → Nat → Int} {g : Nat → Nat → Nat} {t : Nat × Nat × Nat} {r0 : Nat} {x1 : Int} {x2 : Int} {x3 : Int} {x4 : Int} {x5 : Int} {x6 : Int} {v7 : AV} {q0 : Nat} {y1 : Int} : a_X 281 12 [a_r (r0), a_i (x1), a_i (x2), a_i (x3), a_i (x4), a_i (x5), a_i (x6), v7] [a_i (y1), a_r (q0)] (k, u, g, t) = if (y1 : Int) ≠ 0 then if (k q0).1 = 11 then (a_m 157 [a_r (q0), a_i (0), a_i (2)] (k, u, g, t)).bind (a_back 281 21 3 [a_r (r0), a_i (x1), a_i (x2), a_i (x3), a_i (x4), a_i (x5), a_i (x6), v7] []) else none else if (k q0).1 = 11 then (a_m 157 [a_r (q0), a_i (1), a_i (2)] (k, u, g, t)).bind (a_back 281 21 3 [a_r (r0), a_i (x1), a_i (x2), a_i (x3), a_i (x4), a_i (x5), a_i (x6), v7] []) else none := by
  refine (X_if_ne (m := 281) (pc := 12) (off := 7) (tg := 19) (by decide +kernel) (by decide +kernel)).trans ?_
  refine ite_congr rfl (fun _ => ?_) (fun _ => ?_)
  · refine (X_iconst (m := 281) (pc := 19) (n := 0) (by decide +kernel) ).trans ?_
    refine (X_iconst (m := 281) (pc := 20) (n := 2) (by decide +kernel) ).trans ?_
    refine (X_call_vi (m := 281) (pc := 21) (q := 53) (y := 157) (n := 3) (as := [a_r (q0), a_i (0), a_i (2)]) (rest := []) (by decide +kernel) (by decide +kernel) (by decide +kernel) (by decide +kernel) rfl rfl (Nat.le_of_ble_eq_true rfl) (Nat.le_of_ble_eq_true rfl) rfl (by rw [show m_maxL 157 = 3 from by decide +kernel]; exact Nat.le_of_ble_eq_true rfl)).trans ?_
    exact ite_congr (by simp [a_rcv, show m_recv 157 = 11 from by decide +kernel]) (fun _ => rfl) (fun _ => rfl)
  · refine (X_iconst (m := 281) (pc := 15) (n := 1) (by decide +kernel) ).trans ?_
    refine (X_goto (m := 281) (pc := 16) (off := 4) (tg := 20) (by decide +kernel) (by decide +kernel)).trans ?_
    refine (X_iconst (m := 281) (pc := 20) (n := 2) (by decide +kernel) ).trans ?_
    refine (X_call_vi (m := 281) (pc := 21) (q := 53) (y := 157) (n := 3) (as := [a_r (q0), a_i (1), a_i (2)]) (rest := []) (by decide +kernel) (by decide +kernel) (by decide +kernel) (by decide +kernel) rfl rfl (Nat.le_of_ble_eq_true rfl) (Nat.le_of_ble_eq_true rfl) rfl (by rw [show m_maxL 157 = 3 from by decide +kernel]; exact Nat.le_of_ble_eq_true rfl)).trans ?_
    exact ite_congr (by simp [a_rcv, show m_recv 157 = 11 from by decide +kernel]) (fun _ => rfl) (fun _ => rfl)
theorem B_X11_correct_24 {k : Nat → Nat × Nat} {u : Nat → Nat → Int} {g : Nat → Nat → Nat} {t : Nat × Nat × Nat} {r0 : Nat} {x1 : Int} {x2 : Int} {x3 : Int} {x4 : Int} {x5 : Int} {x6 : Int} {v7 : AV} {y0 : Int} : a_X 281 24 [a_r (r0), a_i (x1), a_i (x2), a_i (x3), a_i (x4), a_i (x5), a_i (x6), v7] [a_i (y0)] (k, u, g, t) = if (y0 : Int) ≠ 0 then some (.inl (some (a_i (0))), (k, u, g, t)) else (a_m 280 [a_i (x2), a_i (x3), a_i (x4), a_i (x5)] (k, u, g, t)).bind (a_back 281 34 3 [a_r (r0), a_i (x1), a_i (x2), a_i (x3), a_i (x4), a_i (x5), a_i (x6), v7] [a_r (r0)]) := by
  refine (X_if_ne (m := 281) (pc := 24) (off := 37) (tg := 61) (by decide +kernel) (by decide +kernel)).trans ?_
  refine ite_congr rfl (fun _ => ?_) (fun _ => ?_)
  · refine (X_iconst (m := 281) (pc := 61) (n := 0) (by decide +kernel) ).trans ?_
    exact X_ireturn (m := 281) (pc := 62) (f := 1) (by decide +kernel) (by decide +kernel) rfl
  · refine (X_aload_n (m := 281) (pc := 27) (n := 0) (by decide +kernel) rfl).trans ?_
    refine (X_iload_n (m := 281) (pc := 28) (n := 2) (by decide +kernel) rfl).trans ?_
    refine (X_iload_n (m := 281) (pc := 29) (n := 3) (by decide +kernel) rfl).trans ?_
    refine (X_iload (m := 281) (pc := 30) (n := 4) (by decide +kernel) rfl).trans ?_
    refine (X_iload (m := 281) (pc := 32) (n := 5) (by decide +kernel) rfl).trans ?_
    refine (X_call_st (m := 281) (pc := 34) (q := 411) (y := 280) (n := 4) (as := [a_i (x2), a_i (x3), a_i (x4), a_i (x5)]) (rest := [a_r (r0)]) (by decide +kernel) (by decide +kernel) (by decide +kernel) (by decide +kernel) rfl rfl (Nat.le_of_ble_eq_true rfl) (Nat.le_of_ble_eq_true rfl) rfl (by rw [show m_maxL 280 = 4 from by decide +kernel]; exact Nat.le_of_ble_eq_true rfl)).trans ?_
    exact if_pos rfl
theorem B_X11_correct_37 {k : Nat → Nat × Nat} {u : Nat → Nat → Int} {g : Nat → Nat → Nat} {t : Nat × Nat × Nat} {r0 : Nat} {x1 : Int} {x2 : Int} {x3 : Int} {x4 : Int} {x5 : Int} {x6 : Int} {v7 : AV} {q0 : Nat} {y1 : Int} : a_X 281 37 [a_r (r0), a_i (x1), a_i (x2), a_i (x3), a_i (x4), a_i (x5), a_i (x6), v7] [a_i (y1), a_r (q0)] (k, u, g, t) = if (y1 : Int) = 0 then if (k q0).1 = 11 then (a_m 157 [a_r (q0), a_i (1), a_i (3)] (k, u, g, t)).bind (a_back 281 55 3 [a_r (r0), a_i (x1), a_i (x2), a_i (x3), a_i (x4), a_i (x5), a_i (x6), v7] []) else none else if (k r0).1 = 11 then (a_m 278 [a_r (r0), a_i (x6)] (k, u, g, t)).bind (a_back 281 43 3 [a_r (r0), a_i (x1), a_i (x2), a_i (x3), a_i (x4), a_i (x5), a_i (x6), v7] [a_r (q0)]) else none := by
  refine (X_if_eq (m := 281) (pc := 37) (off := 12) (tg := 49) (by decide +kernel) (by decide +kernel)).trans ?_
  refine ite_congr rfl (fun _ => ?_) (fun _ => ?_)
  · refine (X_iconst (m := 281) (pc := 49) (n := 1) (by decide +kernel) ).trans ?_
    refine (X_goto (m := 281) (pc := 50) (off := 4) (tg := 54) (by decide +kernel) (by decide +kernel)).trans ?_
    refine (X_iconst (m := 281) (pc := 54) (n := 3) (by decide +kernel) ).trans ?_
    refine (X_call_vi (m := 281) (pc := 55) (q := 53) (y := 157) (n := 3) (as := [a_r (q0), a_i (1), a_i (3)]) (rest := []) (by decide +kernel) (by decide +kernel) (by decide +kernel) (by decide +kernel) rfl rfl (Nat.le_of_ble_eq_true rfl) (Nat.le_of_ble_eq_true rfl) rfl (by rw [show m_maxL 157 = 3 from by decide +kernel]; exact Nat.le_of_ble_eq_true rfl)).trans ?_
    exact ite_congr (by simp [a_rcv, show m_recv 157 = 11 from by decide +kernel]) (fun _ => rfl) (fun _ => rfl)
  · refine (X_aload_n (m := 281) (pc := 40) (n := 0) (by decide +kernel) rfl).trans ?_
    refine (X_iload (m := 281) (pc := 41) (n := 6) (by decide +kernel) rfl).trans ?_
    refine (X_call_vi (m := 281) (pc := 43) (q := 414) (y := 278) (n := 2) (as := [a_r (r0), a_i (x6)]) (rest := [a_r (q0)]) (by decide +kernel) (by decide +kernel) (by decide +kernel) (by decide +kernel) rfl rfl (Nat.le_of_ble_eq_true rfl) (Nat.le_of_ble_eq_true rfl) rfl (by rw [show m_maxL 278 = 2 from by decide +kernel]; exact Nat.le_of_ble_eq_true rfl)).trans ?_
    exact ite_congr (by simp [a_rcv, show m_recv 278 = 11 from by decide +kernel]) (fun _ => rfl) (fun _ => rfl)
theorem B_X11_correct_58 {k : Nat → Nat × Nat} {u : Nat → Nat → Int} {g : Nat → Nat → Nat} {t : Nat × Nat × Nat} {r0 : Nat} {x1 : Int} {x2 : Int} {x3 : Int} {x4 : Int} {x5 : Int} {x6 : Int} {v7 : AV} {y0 : Int} : a_X 281 58 [a_r (r0), a_i (x1), a_i (x2), a_i (x3), a_i (x4), a_i (x5), a_i (x6), v7] [a_i (y0)] (k, u, g, t) = if (y0 : Int) = 0 then if (k r0).1 = 11 then (a_m 276 [a_r (r0)] (k, u, g, t)).bind (a_back 281 64 3 [a_r (r0), a_i (x1), a_i (x2), a_i (x3), a_i (x4), a_i (x5), a_i (x6), v7] []) else none else some (.inl (some (a_i (0))), (k, u, g, t)) := by
  refine (X_if_eq (m := 281) (pc := 58) (off := 5) (tg := 63) (by decide +kernel) (by decide +kernel)).trans ?_
  refine ite_congr rfl (fun _ => ?_) (fun _ => ?_)
  · refine (X_aload_n (m := 281) (pc := 63) (n := 0) (by decide +kernel) rfl).trans ?_
    refine (X_call_vi (m := 281) (pc := 64) (q := 417) (y := 276) (n := 1) (as := [a_r (r0)]) (rest := []) (by decide +kernel) (by decide +kernel) (by decide +kernel) (by decide +kernel) rfl rfl (Nat.le_of_ble_eq_true rfl) (Nat.le_of_ble_eq_true rfl) rfl (by rw [show m_maxL 276 = 2 from by decide +kernel]; exact Nat.le_of_ble_eq_true rfl)).trans ?_
    exact ite_congr (by simp [a_rcv, show m_recv 276 = 11 from by decide +kernel]) (fun _ => rfl) (fun _ => rfl)
  · refine (X_iconst (m := 281) (pc := 61) (n := 0) (by decide +kernel) ).trans ?_
    exact X_ireturn (m := 281) (pc := 62) (f := 1) (by decide +kernel) (by decide +kernel) rfl
theorem B_X11_correct_46 {k : Nat → Nat × Nat} {u : Nat → Nat → Int} {g : Nat → Nat → Nat} {t : Nat × Nat × Nat} {r0 : Nat} {x1 : Int} {x2 : Int} {x3 : Int} {x4 : Int} {x5 : Int} {x6 : Int} {v7 : AV} {q0 : Nat} {y1 : Int} : a_X 281 46 [a_r (r0), a_i (x1), a_i (x2), a_i (x3), a_i (x4), a_i (x5), a_i (x6), v7] [a_i (y1), a_r (q0)] (k, u, g, t) = if (y1 : Int) ≠ 0 then if (k q0).1 = 11 then (a_m 157 [a_r (q0), a_i (0), a_i (3)] (k, u, g, t)).bind (a_back 281 55 3 [a_r (r0), a_i (x1), a_i (x2), a_i (x3), a_i (x4), a_i (x5), a_i (x6), v7] []) else none else if (k q0).1 = 11 then (a_m 157 [a_r (q0), a_i (1), a_i (3)] (k, u, g, t)).bind (a_back 281 55 3 [a_r (r0), a_i (x1), a_i (x2), a_i (x3), a_i (x4), a_i (x5), a_i (x6), v7] []) else none := by
  refine (X_if_ne (m := 281) (pc := 46) (off := 7) (tg := 53) (by decide +kernel) (by decide +kernel)).trans ?_
  refine ite_congr rfl (fun _ => ?_) (fun _ => ?_)
  · refine (X_iconst (m := 281) (pc := 53) (n := 0) (by decide +kernel) ).trans ?_
    refine (X_iconst (m := 281) (pc := 54) (n := 3) (by decide +kernel) ).trans ?_
    refine (X_call_vi (m := 281) (pc := 55) (q := 53) (y := 157) (n := 3) (as := [a_r (q0), a_i (0), a_i (3)]) (rest := []) (by decide +kernel) (by decide +kernel) (by decide +kernel) (by decide +kernel) rfl rfl (Nat.le_of_ble_eq_true rfl) (Nat.le_of_ble_eq_true rfl) rfl (by rw [show m_maxL 157 = 3 from by decide +kernel]; exact Nat.le_of_ble_eq_true rfl)).trans ?_
    exact ite_congr (by simp [a_rcv, show m_recv 157 = 11 from by decide +kernel]) (fun _ => rfl) (fun _ => rfl)
  · refine (X_iconst (m := 281) (pc := 49) (n := 1) (by decide +kernel) ).trans ?_
    refine (X_goto (m := 281) (pc := 50) (off := 4) (tg := 54) (by decide +kernel) (by decide +kernel)).trans ?_
    refine (X_iconst (m := 281) (pc := 54) (n := 3) (by decide +kernel) ).trans ?_
    refine (X_call_vi (m := 281) (pc := 55) (q := 53) (y := 157) (n := 3) (as := [a_r (q0), a_i (1), a_i (3)]) (rest := []) (by decide +kernel) (by decide +kernel) (by decide +kernel) (by decide +kernel) rfl rfl (Nat.le_of_ble_eq_true rfl) (Nat.le_of_ble_eq_true rfl) rfl (by rw [show m_maxL 157 = 3 from by decide +kernel]; exact Nat.le_of_ble_eq_true rfl)).trans ?_
    exact ite_congr (by simp [a_rcv, show m_recv 157 = 11 from by decide +kernel]) (fun _ => rfl) (fun _ => rfl)
theorem B_X11_correct_67 {k : Nat → Nat × Nat} {u : Nat → Nat → Int} {g : Nat → Nat → Nat} {t : Nat × Nat × Nat} {r0 : Nat} {x1 : Int} {x2 : Int} {x3 : Int} {x4 : Int} {x5 : Int} {x6 : Int} {v7 : AV} : a_X 281 67 [a_r (r0), a_i (x1), a_i (x2), a_i (x3), a_i (x4), a_i (x5), a_i (x6), v7] [] (k, u, g, t) = (a_m 164 [a_i (-1), a_i (x1)] (k, u, g, t)).bind (a_back 281 69 3 [a_r (r0), a_i (x1), a_i (x2), a_i (x3), a_i (x4), a_i (x5), a_i (x6), v7] []) := by
  refine (X_iconst (m := 281) (pc := 67) (n := -1) (by decide +kernel) ).trans ?_
  refine (X_iload_n (m := 281) (pc := 68) (n := 1) (by decide +kernel) rfl).trans ?_
  refine (X_call_st (m := 281) (pc := 69) (q := 71) (y := 164) (n := 2) (as := [a_i (-1), a_i (x1)]) (rest := []) (by decide +kernel) (by decide +kernel) (by decide +kernel) (by decide +kernel) rfl rfl (Nat.le_of_ble_eq_true rfl) (Nat.le_of_ble_eq_true rfl) rfl (by rw [show m_maxL 164 = 2 from by decide +kernel]; exact Nat.le_of_ble_eq_true rfl)).trans ?_
  exact if_pos rfl
theorem B_X11_correct_72 {k : Nat → Nat × Nat} {u : Nat → Nat → Int} {g : Nat → Nat → Nat} {t : Nat × Nat × Nat} {r0 : Nat} {x1 : Int} {x2 : Int} {x3 : Int} {x4 : Int} {x5 : Int} {x6 : Int} {v7 : AV} {y0 : Int} : a_X 281 72 [a_r (r0), a_i (x1), a_i (x2), a_i (x3), a_i (x4), a_i (x5), a_i (x6), v7] [a_i (y0)] (k, u, g, t) = if (k r0).1 = 11 then if (k (g r0 2)).1 = 20 ∧ 0 ≤ (wr (y0 + 0) : Int) ∧ (wr (y0 + 0) : Int) < ((k (g r0 2)).2 : Int) then if (k r0).1 = 11 then if (k (g r0 2)).1 = 20 ∧ 0 ≤ (wr (y0 + 1) : Int) ∧ (wr (y0 + 1) : Int) < ((k (g r0 2)).2 : Int) then if (k r0).1 = 11 then if (k (g r0 2)).1 = 20 ∧ 0 ≤ (wr (y0 + 2) : Int) ∧ (wr (y0 + 2) : Int) < ((k (g r0 2)).2 : Int) then if (k r0).1 = 11 then if (k (g r0 2)).1 = 20 ∧ 0 ≤ (wr (y0 + 3) : Int) ∧ (wr (y0 + 3) : Int) < ((k (g r0 2)).2 : Int) then if (k r0).1 = 11 then (a_m 279 [a_r (r0), a_i (x1), a_i (x6)] (k, (upm (upm (upm (upm u (g r0 2) (wr (y0 + 0) : Int).toNat x2) (g r0 2) (wr (y0 + 1) : Int).toNat x3) (g r0 2) (wr (y0 + 2) : Int).toNat x4) (g r0 2) (wr (y0 + 3) : Int).toNat x5), g, t)).bind (a_back 281 120 3 [a_r (r0), a_i (x1), a_i (x2), a_i (x3), a_i (x4), a_i (x5), a_i (x6), a_i (y0)] []) else none else none else none else none else none else none else none else none else none := by
  refine (X_istore (m := 281) (pc := 72) (n := 7) (by decide +kernel) rfl (Nat.le_of_ble_eq_true rfl) rfl).trans ?_
  refine (X_aload_n (m := 281) (pc := 74) (n := 0) (by decide +kernel) rfl).trans ?_
  refine (X_getR (m := 281) (pc := 75) (n := 7) (c := 11) (q := 2) (fi := true) (by decide +kernel) (by decide +kernel)).trans ?_
  refine ite_congr rfl (fun _ => ?_) (fun _ => rfl)
  refine (X_iload (m := 281) (pc := 78) (n := 7) (by decide +kernel) rfl).trans ?_
  refine (X_iconst (m := 281) (pc := 80) (n := 0) (by decide +kernel) ).trans ?_
  refine (X_iadd (m := 281) (pc := 81)  (by decide +kernel) ).trans ?_
  refine (X_iload_n (m := 281) (pc := 82) (n := 2) (by decide +kernel) rfl).trans ?_
  refine (X_iastore (m := 281) (pc := 83)  (by decide +kernel) ).trans ?_
  refine ite_congr rfl (fun _ => ?_) (fun _ => rfl)
  refine (X_aload_n (m := 281) (pc := 84) (n := 0) (by decide +kernel) rfl).trans ?_
  refine (X_getR (m := 281) (pc := 85) (n := 7) (c := 11) (q := 2) (fi := true) (by decide +kernel) (by decide +kernel)).trans ?_
  refine ite_congr rfl (fun _ => ?_) (fun _ => rfl)
  refine (X_iload (m := 281) (pc := 88) (n := 7) (by decide +kernel) rfl).trans ?_
  refine (X_iconst (m := 281) (pc := 90) (n := 1) (by decide +kernel) ).trans ?_
  refine (X_iadd (m := 281) (pc := 91)  (by decide +kernel) ).trans ?_
  refine (X_iload_n (m := 281) (pc := 92) (n := 3) (by decide +kernel) rfl).trans ?_
  refine (X_iastore (m := 281) (pc := 93)  (by decide +kernel) ).trans ?_
  refine ite_congr rfl (fun _ => ?_) (fun _ => rfl)
  refine (X_aload_n (m := 281) (pc := 94) (n := 0) (by decide +kernel) rfl).trans ?_
  refine (X_getR (m := 281) (pc := 95) (n := 7) (c := 11) (q := 2) (fi := true) (by decide +kernel) (by decide +kernel)).trans ?_
  refine ite_congr rfl (fun _ => ?_) (fun _ => rfl)
  refine (X_iload (m := 281) (pc := 98) (n := 7) (by decide +kernel) rfl).trans ?_
  refine (X_iconst (m := 281) (pc := 100) (n := 2) (by decide +kernel) ).trans ?_
  refine (X_iadd (m := 281) (pc := 101)  (by decide +kernel) ).trans ?_
  refine (X_iload (m := 281) (pc := 102) (n := 4) (by decide +kernel) rfl).trans ?_
  refine (X_iastore (m := 281) (pc := 104)  (by decide +kernel) ).trans ?_
  refine ite_congr rfl (fun _ => ?_) (fun _ => rfl)
  refine (X_aload_n (m := 281) (pc := 105) (n := 0) (by decide +kernel) rfl).trans ?_
  refine (X_getR (m := 281) (pc := 106) (n := 7) (c := 11) (q := 2) (fi := true) (by decide +kernel) (by decide +kernel)).trans ?_
  refine ite_congr rfl (fun _ => ?_) (fun _ => rfl)
  refine (X_iload (m := 281) (pc := 109) (n := 7) (by decide +kernel) rfl).trans ?_
  refine (X_iconst (m := 281) (pc := 111) (n := 3) (by decide +kernel) ).trans ?_
  refine (X_iadd (m := 281) (pc := 112)  (by decide +kernel) ).trans ?_
  refine (X_iload (m := 281) (pc := 113) (n := 5) (by decide +kernel) rfl).trans ?_
  refine (X_iastore (m := 281) (pc := 115)  (by decide +kernel) ).trans ?_
  refine ite_congr rfl (fun _ => ?_) (fun _ => rfl)
  refine (X_aload_n (m := 281) (pc := 116) (n := 0) (by decide +kernel) rfl).trans ?_
  refine (X_iload_n (m := 281) (pc := 117) (n := 1) (by decide +kernel) rfl).trans ?_
  refine (X_iload (m := 281) (pc := 118) (n := 6) (by decide +kernel) rfl).trans ?_
  refine (X_call_vi (m := 281) (pc := 120) (q := 420) (y := 279) (n := 3) (as := [a_r (r0), a_i (x1), a_i (x6)]) (rest := []) (by decide +kernel) (by decide +kernel) (by decide +kernel) (by decide +kernel) rfl rfl (Nat.le_of_ble_eq_true rfl) (Nat.le_of_ble_eq_true rfl) rfl (by rw [show m_maxL 279 = 7 from by decide +kernel]; exact Nat.le_of_ble_eq_true rfl)).trans ?_
  exact ite_congr (by simp [a_rcv, show m_recv 279 = 11 from by decide +kernel]) (fun _ => rfl) (fun _ => rfl)
theorem B_X11_correct_123 {k : Nat → Nat × Nat} {u : Nat → Nat → Int} {g : Nat → Nat → Nat} {t : Nat × Nat × Nat} {r0 : Nat} {x1 : Int} {x2 : Int} {x3 : Int} {x4 : Int} {x5 : Int} {x6 : Int} {x7 : Int} {y0 : Int} : a_X 281 123 [a_r (r0), a_i (x1), a_i (x2), a_i (x3), a_i (x4), a_i (x5), a_i (x6), a_i (x7)] [a_i (y0)] (k, u, g, t) = some (.inl (some (a_i (y0))), (k, u, g, t)) := by
  exact X_ireturn (m := 281) (pc := 123) (f := 1) (by decide +kernel) (by decide +kernel) rfl
theorem E_X11_cancel {σ : AS} {r0 : Nat} {x1 : Int} {x2 : Int} : a_m 282 [a_r (r0), a_i (x1), a_i (x2)] σ = a_X 282 0 [a_r (r0), a_i (x1), a_i (x2), a_x false] [] σ := a_m_eq (by rw [a_entry, show m_maxL 282 = 4 from by decide +kernel]; rfl)
theorem B_X11_cancel_0 {k : Nat → Nat × Nat} {u : Nat → Nat → Int} {g : Nat → Nat → Nat} {t : Nat × Nat × Nat} {r0 : Nat} {x1 : Int} {x2 : Int} {v3 : AV} : a_X 282 0 [a_r (r0), a_i (x1), a_i (x2), v3] [] (k, u, g, t) = if (k r0).1 = 11 then (a_m 158 [a_r (r0)] (k, u, g, t)).bind (a_back 282 1 3 [a_r (r0), a_i (x1), a_i (x2), v3] []) else none := by
  refine (X_aload_n (m := 282) (pc := 0) (n := 0) (by decide +kernel) rfl).trans ?_
  refine (X_call_vi (m := 282) (pc := 1) (q := 57) (y := 158) (n := 1) (as := [a_r (r0)]) (rest := []) (by decide +kernel) (by decide +kernel) (by decide +kernel) (by decide +kernel) rfl rfl (Nat.le_of_ble_eq_true rfl) (Nat.le_of_ble_eq_true rfl) rfl (by rw [show m_maxL 158 = 1 from by decide +kernel]; exact Nat.le_of_ble_eq_true rfl)).trans ?_
  exact ite_congr (by simp [a_rcv, show m_recv 158 = 11 from by decide +kernel]) (fun _ => rfl) (fun _ => rfl)
theorem B_X11_cancel_4 {k : Nat → Nat × Nat} {u : Nat → Nat → Int} {g : Nat → Nat → Nat} {t : Nat × Nat × Nat} {r0 : Nat} {x1 : Int} {x2 : Int} {v3 : AV} {y0 : Int} : a_X 282 4 [a_r (r0), a_i (x1), a_i (x2), v3] [a_i (y0)] (k, u, g, t) = if (y0 : Int) ≠ 0 then some (.inl (some (a_i (0))), (k, u, g, t)) else (a_m 161 [a_i (x1)] (k, u, g, t)).bind (a_back 282 9 3 [a_r (r0), a_i (x1), a_i (x2), v3] [a_r (r0)]) := by
  refine (X_if_ne (m := 282) (pc := 4) (off := 44) (tg := 48) (by decide +kernel) (by decide +kernel)).trans ?_
  refine ite_congr rfl (fun _ => ?_) (fun _ => ?_)
  · refine (X_iconst (m := 282) (pc := 48) (n := 0) (by decide +kernel) ).trans ?_
    exact X_ireturn (m := 282) (pc := 49) (f := 1) (by decide +kernel) (by decide +kernel) rfl
  · refine (X_aload_n (m := 282) (pc := 7) (n := 0) (by decide +kernel) rfl).trans ?_
    refine (X_iload_n (m := 282) (pc := 8) (n := 1) (by decide +kernel) rfl).trans ?_
    refine (X_call_st (m := 282) (pc := 9) (q := 283) (y := 161) (n := 1) (as := [a_i (x1)]) (rest := [a_r (r0)]) (by decide +kernel) (by decide +kernel) (by decide +kernel) (by decide +kernel) rfl rfl (Nat.le_of_ble_eq_true rfl) (Nat.le_of_ble_eq_true rfl) rfl (by rw [show m_maxL 161 = 1 from by decide +kernel]; exact Nat.le_of_ble_eq_true rfl)).trans ?_
    exact if_pos rfl
theorem B_X11_cancel_12 {k : Nat → Nat × Nat} {u : Nat → Nat → Int} {g : Nat → Nat → Nat} {t : Nat × Nat × Nat} {r0 : Nat} {x1 : Int} {x2 : Int} {v3 : AV} {q0 : Nat} {y1 : Int} : a_X 282 12 [a_r (r0), a_i (x1), a_i (x2), v3] [a_i (y1), a_r (q0)] (k, u, g, t) = if (y1 : Int) ≠ 0 then if (k q0).1 = 11 then (a_m 157 [a_r (q0), a_i (0), a_i (2)] (k, u, g, t)).bind (a_back 282 21 3 [a_r (r0), a_i (x1), a_i (x2), v3] []) else none else if (k q0).1 = 11 then (a_m 157 [a_r (q0), a_i (1), a_i (2)] (k, u, g, t)).bind (a_back 282 21 3 [a_r (r0), a_i (x1), a_i (x2), v3] []) else none := by
  refine (X_if_ne (m := 282) (pc := 12) (off := 7) (tg := 19) (by decide +kernel) (by decide +kernel)).trans ?_
  refine ite_congr rfl (fun _ => ?_) (fun _ => ?_)
  · refine (X_iconst (m := 282) (pc := 19) (n := 0) (by decide +kernel) ).trans ?_
    refine (X_iconst (m := 282) (pc := 20) (n := 2) (by decide +kernel) ).trans ?_
    refine (X_call_vi (m := 282) (pc := 21) (q := 53) (y := 157) (n := 3) (as := [a_r (q0), a_i (0), a_i (2)]) (rest := []) (by decide +kernel) (by decide +kernel) (by decide +kernel) (by decide +kernel) rfl rfl (Nat.le_of_ble_eq_true rfl) (Nat.le_of_ble_eq_true rfl) rfl (by rw [show m_maxL 157 = 3 from by decide +kernel]; exact Nat.le_of_ble_eq_true rfl)).trans ?_
    exact ite_congr (by simp [a_rcv, show m_recv 157 = 11 from by decide +kernel]) (fun _ => rfl) (fun _ => rfl)
  · refine (X_iconst (m := 282) (pc := 15) (n := 1) (by decide +kernel) ).trans ?_
    refine (X_goto (m := 282) (pc := 16) (off := 4) (tg := 20) (by decide +kernel) (by decide +kernel)).trans ?_
    refine (X_iconst (m := 282) (pc := 20) (n := 2) (by decide +kernel) ).trans ?_
    refine (X_call_vi (m := 282) (pc := 21) (q := 53) (y := 157) (n := 3) (as := [a_r (q0), a_i (1), a_i (2)]) (rest := []) (by decide +kernel) (by decide +kernel) (by decide +kernel) (by decide +kernel) rfl rfl (Nat.le_of_ble_eq_true rfl) (Nat.le_of_ble_eq_true rfl) rfl (by rw [show m_maxL 157 = 3 from by decide +kernel]; exact Nat.le_of_ble_eq_true rfl)).trans ?_
    exact ite_congr (by simp [a_rcv, show m_recv 157 = 11 from by decide +kernel]) (fun _ => rfl) (fun _ => rfl)
theorem B_X11_cancel_24 {k : Nat → Nat × Nat} {u : Nat → Nat → Int} {g : Nat → Nat → Nat} {t : Nat × Nat × Nat} {r0 : Nat} {x1 : Int} {x2 : Int} {v3 : AV} {y0 : Int} : a_X 282 24 [a_r (r0), a_i (x1), a_i (x2), v3] [a_i (y0)] (k, u, g, t) = if (y0 : Int) ≠ 0 then some (.inl (some (a_i (0))), (k, u, g, t)) else if (k r0).1 = 11 then (a_m 278 [a_r (r0), a_i (x2)] (k, u, g, t)).bind (a_back 282 30 3 [a_r (r0), a_i (x1), a_i (x2), v3] [a_r (r0)]) else none := by
  refine (X_if_ne (m := 282) (pc := 24) (off := 24) (tg := 48) (by decide +kernel) (by decide +kernel)).trans ?_
  refine ite_congr rfl (fun _ => ?_) (fun _ => ?_)
  · refine (X_iconst (m := 282) (pc := 48) (n := 0) (by decide +kernel) ).trans ?_
    exact X_ireturn (m := 282) (pc := 49) (f := 1) (by decide +kernel) (by decide +kernel) rfl
  · refine (X_aload_n (m := 282) (pc := 27) (n := 0) (by decide +kernel) rfl).trans ?_
    refine (X_aload_n (m := 282) (pc := 28) (n := 0) (by decide +kernel) rfl).trans ?_
    refine (X_iload_n (m := 282) (pc := 29) (n := 2) (by decide +kernel) rfl).trans ?_
    refine (X_call_vi (m := 282) (pc := 30) (q := 414) (y := 278) (n := 2) (as := [a_r (r0), a_i (x2)]) (rest := [a_r (r0)]) (by decide +kernel) (by decide +kernel) (by decide +kernel) (by decide +kernel) rfl rfl (Nat.le_of_ble_eq_true rfl) (Nat.le_of_ble_eq_true rfl) rfl (by rw [show m_maxL 278 = 2 from by decide +kernel]; exact Nat.le_of_ble_eq_true rfl)).trans ?_
    exact ite_congr (by simp [a_rcv, show m_recv 278 = 11 from by decide +kernel]) (fun _ => rfl) (fun _ => rfl)
theorem B_X11_cancel_33 {k : Nat → Nat × Nat} {u : Nat → Nat → Int} {g : Nat → Nat → Nat} {t : Nat × Nat × Nat} {r0 : Nat} {x1 : Int} {x2 : Int} {v3 : AV} {q0 : Nat} {y1 : Int} : a_X 282 33 [a_r (r0), a_i (x1), a_i (x2), v3] [a_i (y1), a_r (q0)] (k, u, g, t) = if (y1 : Int) ≠ 0 then if (k q0).1 = 11 then (a_m 157 [a_r (q0), a_i (0), a_i (3)] (k, u, g, t)).bind (a_back 282 42 3 [a_r (r0), a_i (x1), a_i (x2), v3] []) else none else if (k q0).1 = 11 then (a_m 157 [a_r (q0), a_i (1), a_i (3)] (k, u, g, t)).bind (a_back 282 42 3 [a_r (r0), a_i (x1), a_i (x2), v3] []) else none := by
  refine (X_if_ne (m := 282) (pc := 33) (off := 7) (tg := 40) (by decide +kernel) (by decide +kernel)).trans ?_
  refine ite_congr rfl (fun _ => ?_) (fun _ => ?_)
  · refine (X_iconst (m := 282) (pc := 40) (n := 0) (by decide +kernel) ).trans ?_
    refine (X_iconst (m := 282) (pc := 41) (n := 3) (by decide +kernel) ).trans ?_
    refine (X_call_vi (m := 282) (pc := 42) (q := 53) (y := 157) (n := 3) (as := [a_r (q0), a_i (0), a_i (3)]) (rest := []) (by decide +kernel) (by decide +kernel) (by decide +kernel) (by decide +kernel) rfl rfl (Nat.le_of_ble_eq_true rfl) (Nat.le_of_ble_eq_true rfl) rfl (by rw [show m_maxL 157 = 3 from by decide +kernel]; exact Nat.le_of_ble_eq_true rfl)).trans ?_
    exact ite_congr (by simp [a_rcv, show m_recv 157 = 11 from by decide +kernel]) (fun _ => rfl) (fun _ => rfl)
  · refine (X_iconst (m := 282) (pc := 36) (n := 1) (by decide +kernel) ).trans ?_
    refine (X_goto (m := 282) (pc := 37) (off := 4) (tg := 41) (by decide +kernel) (by decide +kernel)).trans ?_
    refine (X_iconst (m := 282) (pc := 41) (n := 3) (by decide +kernel) ).trans ?_
    refine (X_call_vi (m := 282) (pc := 42) (q := 53) (y := 157) (n := 3) (as := [a_r (q0), a_i (1), a_i (3)]) (rest := []) (by decide +kernel) (by decide +kernel) (by decide +kernel) (by decide +kernel) rfl rfl (Nat.le_of_ble_eq_true rfl) (Nat.le_of_ble_eq_true rfl) rfl (by rw [show m_maxL 157 = 3 from by decide +kernel]; exact Nat.le_of_ble_eq_true rfl)).trans ?_
    exact ite_congr (by simp [a_rcv, show m_recv 157 = 11 from by decide +kernel]) (fun _ => rfl) (fun _ => rfl)
theorem B_X11_cancel_45 {k : Nat → Nat × Nat} {u : Nat → Nat → Int} {g : Nat → Nat → Nat} {t : Nat × Nat × Nat} {r0 : Nat} {x1 : Int} {x2 : Int} {v3 : AV} {y0 : Int} : a_X 282 45 [a_r (r0), a_i (x1), a_i (x2), v3] [a_i (y0)] (k, u, g, t) = if (y0 : Int) = 0 then if (k r0).1 = 11 then (a_m 276 [a_r (r0)] (k, u, g, t)).bind (a_back 282 51 3 [a_r (r0), a_i (x1), a_i (x2), v3] []) else none else some (.inl (some (a_i (0))), (k, u, g, t)) := by
  refine (X_if_eq (m := 282) (pc := 45) (off := 5) (tg := 50) (by decide +kernel) (by decide +kernel)).trans ?_
  refine ite_congr rfl (fun _ => ?_) (fun _ => ?_)
  · refine (X_aload_n (m := 282) (pc := 50) (n := 0) (by decide +kernel) rfl).trans ?_
    refine (X_call_vi (m := 282) (pc := 51) (q := 417) (y := 276) (n := 1) (as := [a_r (r0)]) (rest := []) (by decide +kernel) (by decide +kernel) (by decide +kernel) (by decide +kernel) rfl rfl (Nat.le_of_ble_eq_true rfl) (Nat.le_of_ble_eq_true rfl) rfl (by rw [show m_maxL 276 = 2 from by decide +kernel]; exact Nat.le_of_ble_eq_true rfl)).trans ?_
    exact ite_congr (by simp [a_rcv, show m_recv 276 = 11 from by decide +kernel]) (fun _ => rfl) (fun _ => rfl)
  · refine (X_iconst (m := 282) (pc := 48) (n := 0) (by decide +kernel) ).trans ?_
    exact X_ireturn (m := 282) (pc := 49) (f := 1) (by decide +kernel) (by decide +kernel) rfl
theorem B_X11_cancel_54 {k : Nat → Nat × Nat} {u : Nat → Nat → Int} {g : Nat → Nat → Nat} {t : Nat × Nat × Nat} {r0 : Nat} {x1 : Int} {x2 : Int} {v3 : AV} : a_X 282 54 [a_r (r0), a_i (x1), a_i (x2), v3] [] (k, u, g, t) = a_X 282 56 [a_r (r0), a_i (x1), a_i (x2), a_i (0)] [] (k, u, g, t) := by
  refine (X_iconst (m := 282) (pc := 54) (n := 0) (by decide +kernel) ).trans ?_
  refine (X_istore_n (m := 282) (pc := 55) (n := 3) (by decide +kernel) rfl (Nat.le_of_ble_eq_true rfl) rfl).trans ?_
  rfl
theorem B_X11_cancel_56 {k : Nat → Nat × Nat} {u : Nat → Nat → Int} {g : Nat → Nat → Nat} {t : Nat × Nat × Nat} {r0 : Nat} {x1 : Int} {x2 : Int} {x3 : Int} : a_X 282 56 [a_r (r0), a_i (x1), a_i (x2), a_i (x3)] [] (k, u, g, t) = if (x3 : Int) > (3 : Int) then if (k r0).1 = 11 then (a_m 279 [a_r (r0), a_i (x1), a_i (x2)] (k, u, g, t)).bind (a_back 282 83 3 [a_r (r0), a_i (x1), a_i (x2), a_i (x3)] []) else none else if (k r0).1 = 11 then (a_m 164 [a_i (-1), a_i (x1)] (k, u, g, t)).bind (a_back 282 67 3 [a_r (r0), a_i (x1), a_i (x2), a_i (x3)] [a_r (g r0 2)]) else none := by
  refine (X_iload_n (m := 282) (pc := 56) (n := 3) (by decide +kernel) rfl).trans ?_
  refine (X_iconst (m := 282) (pc := 57) (n := 3) (by decide +kernel) ).trans ?_
  refine (X_ic_gt (m := 282) (pc := 58) (off := 22) (tg := 80) (by decide +kernel) (by decide +kernel)).trans ?_
  refine ite_congr rfl (fun _ => ?_) (fun _ => ?_)
  · refine (X_aload_n (m := 282) (pc := 80) (n := 0) (by decide +kernel) rfl).trans ?_
    refine (X_iload_n (m := 282) (pc := 81) (n := 1) (by decide +kernel) rfl).trans ?_
    refine (X_iload_n (m := 282) (pc := 82) (n := 2) (by decide +kernel) rfl).trans ?_
    refine (X_call_vi (m := 282) (pc := 83) (q := 420) (y := 279) (n := 3) (as := [a_r (r0), a_i (x1), a_i (x2)]) (rest := []) (by decide +kernel) (by decide +kernel) (by decide +kernel) (by decide +kernel) rfl rfl (Nat.le_of_ble_eq_true rfl) (Nat.le_of_ble_eq_true rfl) rfl (by rw [show m_maxL 279 = 7 from by decide +kernel]; exact Nat.le_of_ble_eq_true rfl)).trans ?_
    exact ite_congr (by simp [a_rcv, show m_recv 279 = 11 from by decide +kernel]) (fun _ => rfl) (fun _ => rfl)
  · refine (X_aload_n (m := 282) (pc := 61) (n := 0) (by decide +kernel) rfl).trans ?_
    refine (X_getR (m := 282) (pc := 62) (n := 7) (c := 11) (q := 2) (fi := true) (by decide +kernel) (by decide +kernel)).trans ?_
    refine ite_congr rfl (fun _ => ?_) (fun _ => rfl)
    refine (X_iconst (m := 282) (pc := 65) (n := -1) (by decide +kernel) ).trans ?_
    refine (X_iload_n (m := 282) (pc := 66) (n := 1) (by decide +kernel) rfl).trans ?_
    refine (X_call_st (m := 282) (pc := 67) (q := 71) (y := 164) (n := 2) (as := [a_i (-1), a_i (x1)]) (rest := [a_r (g r0 2)]) (by decide +kernel) (by decide +kernel) (by decide +kernel) (by decide +kernel) rfl rfl (Nat.le_of_ble_eq_true rfl) (Nat.le_of_ble_eq_true rfl) rfl (by rw [show m_maxL 164 = 2 from by decide +kernel]; exact Nat.le_of_ble_eq_true rfl)).trans ?_
    exact if_pos rfl
theorem B_X11_cancel_86 {k : Nat → Nat × Nat} {u : Nat → Nat → Int} {g : Nat → Nat → Nat} {t : Nat × Nat × Nat} {r0 : Nat} {x1 : Int} {x2 : Int} {x3 : Int} {y0 : Int} : a_X 282 86 [a_r (r0), a_i (x1), a_i (x2), a_i (x3)] [a_i (y0)] (k, u, g, t) = some (.inl (some (a_i (y0))), (k, u, g, t)) := by
  exact X_ireturn (m := 282) (pc := 86) (f := 1) (by decide +kernel) (by decide +kernel) rfl
theorem B_X11_cancel_70 {k : Nat → Nat × Nat} {u : Nat → Nat → Int} {g : Nat → Nat → Nat} {t : Nat × Nat × Nat} {r0 : Nat} {x1 : Int} {x2 : Int} {x3 : Int} {q0 : Nat} {y1 : Int} : a_X 282 70 [a_r (r0), a_i (x1), a_i (x2), a_i (x3)] [a_i (y1), a_r (q0)] (k, u, g, t) = if (k q0).1 = 20 ∧ 0 ≤ (wr (y1 + x3) : Int) ∧ (wr (y1 + x3) : Int) < ((k q0).2 : Int) then a_X 282 56 [a_r (r0), a_i (x1), a_i (x2), a_i (wr (x3 + 1))] [] (k, (upm u q0 (wr (y1 + x3) : Int).toNat (-1)), g, t) else none := by
  refine (X_iload_n (m := 282) (pc := 70) (n := 3) (by decide +kernel) rfl).trans ?_
  refine (X_iadd (m := 282) (pc := 71)  (by decide +kernel) ).trans ?_
  refine (X_iconst (m := 282) (pc := 72) (n := -1) (by decide +kernel) ).trans ?_
  refine (X_iastore (m := 282) (pc := 73)  (by decide +kernel) ).trans ?_
  refine ite_congr rfl (fun _ => ?_) (fun _ => rfl)
  refine (X_iinc (m := 282) (pc := 74) (n := 3) (c := 1) (by decide +kernel) rfl rfl (Nat.le_of_ble_eq_true rfl) rfl).trans ?_
  refine (X_goto (m := 282) (pc := 77) (off := -21) (tg := 56) (by decide +kernel) (by decide +kernel)).trans ?_
  rfl
theorem E_X11_repeat {σ : AS} {r0 : Nat} {x1 : Int} {x2 : Int} : a_m 283 [a_r (r0), a_i (x1), a_i (x2)] σ = a_X 283 0 [a_r (r0), a_i (x1), a_i (x2)] [] σ := a_m_eq (by rw [a_entry, show m_maxL 283 = 3 from by decide +kernel]; rfl)
theorem B_X11_repeat_0 {k : Nat → Nat × Nat} {u : Nat → Nat → Int} {g : Nat → Nat → Nat} {t : Nat × Nat × Nat} {r0 : Nat} {x1 : Int} {x2 : Int} : a_X 283 0 [a_r (r0), a_i (x1), a_i (x2)] [] (k, u, g, t) = if (k r0).1 = 11 then (a_m 158 [a_r (r0)] (k, u, g, t)).bind (a_back 283 1 3 [a_r (r0), a_i (x1), a_i (x2)] []) else none := by
  refine (X_aload_n (m := 283) (pc := 0) (n := 0) (by decide +kernel) rfl).trans ?_
  refine (X_call_vi (m := 283) (pc := 1) (q := 57) (y := 158) (n := 1) (as := [a_r (r0)]) (rest := []) (by decide +kernel) (by decide +kernel) (by decide +kernel) (by decide +kernel) rfl rfl (Nat.le_of_ble_eq_true rfl) (Nat.le_of_ble_eq_true rfl) rfl (by rw [show m_maxL 158 = 1 from by decide +kernel]; exact Nat.le_of_ble_eq_true rfl)).trans ?_
  exact ite_congr (by simp [a_rcv, show m_recv 158 = 11 from by decide +kernel]) (fun _ => rfl) (fun _ => rfl)
theorem B_X11_repeat_4 {k : Nat → Nat × Nat} {u : Nat → Nat → Int} {g : Nat → Nat → Nat} {t : Nat × Nat × Nat} {r0 : Nat} {x1 : Int} {x2 : Int} {y0 : Int} : a_X 283 4 [a_r (r0), a_i (x1), a_i (x2)] [a_i (y0)] (k, u, g, t) = if (y0 : Int) ≠ 0 then some (.inl (some (a_i (0))), (k, u, g, t)) else if (k r0).1 = 11 then (a_m 171 [a_r (r0), a_i (x1)] (k, u, g, t)).bind (a_back 283 10 3 [a_r (r0), a_i (x1), a_i (x2)] [a_r (r0)]) else none := by
  refine (X_if_ne (m := 283) (pc := 4) (off := 38) (tg := 42) (by decide +kernel) (by decide +kernel)).trans ?_
  refine ite_congr rfl (fun _ => ?_) (fun _ => ?_)
  · refine (X_iconst (m := 283) (pc := 42) (n := 0) (by decide +kernel) ).trans ?_
    exact X_ireturn (m := 283) (pc := 43) (f := 1) (by decide +kernel) (by decide +kernel) rfl
  · refine (X_aload_n (m := 283) (pc := 7) (n := 0) (by decide +kernel) rfl).trans ?_
    refine (X_aload_n (m := 283) (pc := 8) (n := 0) (by decide +kernel) rfl).trans ?_
    refine (X_iload_n (m := 283) (pc := 9) (n := 1) (by decide +kernel) rfl).trans ?_
    refine (X_call_vi (m := 283) (pc := 10) (q := 75) (y := 171) (n := 2) (as := [a_r (r0), a_i (x1)]) (rest := [a_r (r0)]) (by decide +kernel) (by decide +kernel) (by decide +kernel) (by decide +kernel) rfl rfl (Nat.le_of_ble_eq_true rfl) (Nat.le_of_ble_eq_true rfl) rfl (by rw [show m_maxL 171 = 2 from by decide +kernel]; exact Nat.le_of_ble_eq_true rfl)).trans ?_
    exact ite_congr (by simp [a_rcv, show m_recv 171 = 11 from by decide +kernel]) (fun _ => rfl) (fun _ => rfl)
theorem B_X11_repeat_13 {k : Nat → Nat × Nat} {u : Nat → Nat → Int} {g : Nat → Nat → Nat} {t : Nat × Nat × Nat} {r0 : Nat} {x1 : Int} {x2 : Int} {q0 : Nat} {y1 : Int} : a_X 283 13 [a_r (r0), a_i (x1), a_i (x2)] [a_i (y1), a_r (q0)] (k, u, g, t) = if (y1 : Int) = 0 then if (k q0).1 = 11 then (a_m 157 [a_r (q0), a_i (1), a_i (2)] (k, u, g, t)).bind (a_back 283 36 3 [a_r (r0), a_i (x1), a_i (x2)] []) else none else (a_m 277 [a_i (x2)] (k, u, g, t)).bind (a_back 283 17 3 [a_r (r0), a_i (x1), a_i (x2)] [a_r (q0)]) := by
  refine (X_if_eq (m := 283) (pc := 13) (off := 17) (tg := 30) (by decide +kernel) (by decide +kernel)).trans ?_
  refine ite_congr rfl (fun _ => ?_) (fun _ => ?_)
  · refine (X_iconst (m := 283) (pc := 30) (n := 1) (by decide +kernel) ).trans ?_
    refine (X_goto (m := 283) (pc := 31) (off := 4) (tg := 35) (by decide +kernel) (by decide +kernel)).trans ?_
    refine (X_iconst (m := 283) (pc := 35) (n := 2) (by decide +kernel) ).trans ?_
    refine (X_call_vi (m := 283) (pc := 36) (q := 53) (y := 157) (n := 3) (as := [a_r (q0), a_i (1), a_i (2)]) (rest := []) (by decide +kernel) (by decide +kernel) (by decide +kernel) (by decide +kernel) rfl rfl (Nat.le_of_ble_eq_true rfl) (Nat.le_of_ble_eq_true rfl) rfl (by rw [show m_maxL 157 = 3 from by decide +kernel]; exact Nat.le_of_ble_eq_true rfl)).trans ?_
    exact ite_congr (by simp [a_rcv, show m_recv 157 = 11 from by decide +kernel]) (fun _ => rfl) (fun _ => rfl)
  · refine (X_iload_n (m := 283) (pc := 16) (n := 2) (by decide +kernel) rfl).trans ?_
    refine (X_call_st (m := 283) (pc := 17) (q := 406) (y := 277) (n := 1) (as := [a_i (x2)]) (rest := [a_r (q0)]) (by decide +kernel) (by decide +kernel) (by decide +kernel) (by decide +kernel) rfl rfl (Nat.le_of_ble_eq_true rfl) (Nat.le_of_ble_eq_true rfl) rfl (by rw [show m_maxL 277 = 1 from by decide +kernel]; exact Nat.le_of_ble_eq_true rfl)).trans ?_
    exact if_pos rfl
theorem B_X11_repeat_39 {k : Nat → Nat × Nat} {u : Nat → Nat → Int} {g : Nat → Nat → Nat} {t : Nat × Nat × Nat} {r0 : Nat} {x1 : Int} {x2 : Int} {y0 : Int} : a_X 283 39 [a_r (r0), a_i (x1), a_i (x2)] [a_i (y0)] (k, u, g, t) = if (y0 : Int) = 0 then if (k r0).1 = 11 then (a_m 276 [a_r (r0)] (k, u, g, t)).bind (a_back 283 45 3 [a_r (r0), a_i (x1), a_i (x2)] []) else none else some (.inl (some (a_i (0))), (k, u, g, t)) := by
  refine (X_if_eq (m := 283) (pc := 39) (off := 5) (tg := 44) (by decide +kernel) (by decide +kernel)).trans ?_
  refine ite_congr rfl (fun _ => ?_) (fun _ => ?_)
  · refine (X_aload_n (m := 283) (pc := 44) (n := 0) (by decide +kernel) rfl).trans ?_
    refine (X_call_vi (m := 283) (pc := 45) (q := 417) (y := 276) (n := 1) (as := [a_r (r0)]) (rest := []) (by decide +kernel) (by decide +kernel) (by decide +kernel) (by decide +kernel) rfl rfl (Nat.le_of_ble_eq_true rfl) (Nat.le_of_ble_eq_true rfl) rfl (by rw [show m_maxL 276 = 2 from by decide +kernel]; exact Nat.le_of_ble_eq_true rfl)).trans ?_
    exact ite_congr (by simp [a_rcv, show m_recv 276 = 11 from by decide +kernel]) (fun _ => rfl) (fun _ => rfl)
  · refine (X_iconst (m := 283) (pc := 42) (n := 0) (by decide +kernel) ).trans ?_
    exact X_ireturn (m := 283) (pc := 43) (f := 1) (by decide +kernel) (by decide +kernel) rfl
theorem B_X11_repeat_20 {k : Nat → Nat × Nat} {u : Nat → Nat → Int} {g : Nat → Nat → Nat} {t : Nat × Nat × Nat} {r0 : Nat} {x1 : Int} {x2 : Int} {q0 : Nat} {y1 : Int} : a_X 283 20 [a_r (r0), a_i (x1), a_i (x2)] [a_i (y1), a_r (q0)] (k, u, g, t) = if (y1 : Int) = 0 then if (k q0).1 = 11 then (a_m 157 [a_r (q0), a_i (1), a_i (2)] (k, u, g, t)).bind (a_back 283 36 3 [a_r (r0), a_i (x1), a_i (x2)] []) else none else if (k r0).1 = 11 then (a_m 192 [a_r (r0)] (k, u, g, t)).bind (a_back 283 24 3 [a_r (r0), a_i (x1), a_i (x2)] [a_r (q0)]) else none := by
  refine (X_if_eq (m := 283) (pc := 20) (off := 10) (tg := 30) (by decide +kernel) (by decide +kernel)).trans ?_
  refine ite_congr rfl (fun _ => ?_) (fun _ => ?_)
  · refine (X_iconst (m := 283) (pc := 30) (n := 1) (by decide +kernel) ).trans ?_
    refine (X_goto (m := 283) (pc := 31) (off := 4) (tg := 35) (by decide +kernel) (by decide +kernel)).trans ?_
    refine (X_iconst (m := 283) (pc := 35) (n := 2) (by decide +kernel) ).trans ?_
    refine (X_call_vi (m := 283) (pc := 36) (q := 53) (y := 157) (n := 3) (as := [a_r (q0), a_i (1), a_i (2)]) (rest := []) (by decide +kernel) (by decide +kernel) (by decide +kernel) (by decide +kernel) rfl rfl (Nat.le_of_ble_eq_true rfl) (Nat.le_of_ble_eq_true rfl) rfl (by rw [show m_maxL 157 = 3 from by decide +kernel]; exact Nat.le_of_ble_eq_true rfl)).trans ?_
    exact ite_congr (by simp [a_rcv, show m_recv 157 = 11 from by decide +kernel]) (fun _ => rfl) (fun _ => rfl)
  · refine (X_aload_n (m := 283) (pc := 23) (n := 0) (by decide +kernel) rfl).trans ?_
    refine (X_call_vi (m := 283) (pc := 24) (q := 239) (y := 192) (n := 1) (as := [a_r (r0)]) (rest := [a_r (q0)]) (by decide +kernel) (by decide +kernel) (by decide +kernel) (by decide +kernel) rfl rfl (Nat.le_of_ble_eq_true rfl) (Nat.le_of_ble_eq_true rfl) rfl (by rw [show m_maxL 192 = 1 from by decide +kernel]; exact Nat.le_of_ble_eq_true rfl)).trans ?_
    exact ite_congr (by simp [a_rcv, show m_recv 192 = 11 from by decide +kernel]) (fun _ => rfl) (fun _ => rfl)
theorem B_X11_repeat_48 {k : Nat → Nat × Nat} {u : Nat → Nat → Int} {g : Nat → Nat → Nat} {t : Nat × Nat × Nat} {r0 : Nat} {x1 : Int} {x2 : Int} : a_X 283 48 [a_r (r0), a_i (x1), a_i (x2)] [] (k, u, g, t) = if (k r0).1 = 11 then (a_m 193 [a_r (r0), a_i (0), a_i (x1), a_i (x2)] (k, u, g, t)).bind (a_back 283 52 3 [a_r (r0), a_i (x1), a_i (x2)] []) else none := by
  refine (X_aload_n (m := 283) (pc := 48) (n := 0) (by decide +kernel) rfl).trans ?_
  refine (X_iconst (m := 283) (pc := 49) (n := 0) (by decide +kernel) ).trans ?_
  refine (X_iload_n (m := 283) (pc := 50) (n := 1) (by decide +kernel) rfl).trans ?_
  refine (X_iload_n (m := 283) (pc := 51) (n := 2) (by decide +kernel) rfl).trans ?_
  refine (X_call_vi (m := 283) (pc := 52) (q := 242) (y := 193) (n := 4) (as := [a_r (r0), a_i (0), a_i (x1), a_i (x2)]) (rest := []) (by decide +kernel) (by decide +kernel) (by decide +kernel) (by decide +kernel) rfl rfl (Nat.le_of_ble_eq_true rfl) (Nat.le_of_ble_eq_true rfl) rfl (by rw [show m_maxL 193 = 6 from by decide +kernel]; exact Nat.le_of_ble_eq_true rfl)).trans ?_
  exact ite_congr (by simp [a_rcv, show m_recv 193 = 11 from by decide +kernel]) (fun _ => rfl) (fun _ => rfl)
theorem B_X11_repeat_27 {k : Nat → Nat × Nat} {u : Nat → Nat → Int} {g : Nat → Nat → Nat} {t : Nat × Nat × Nat} {r0 : Nat} {x1 : Int} {x2 : Int} {q0 : Nat} {y1 : Int} : a_X 283 27 [a_r (r0), a_i (x1), a_i (x2)] [a_i (y1), a_r (q0)] (k, u, g, t) = if (y1 : Int) ≠ 0 then if (k q0).1 = 11 then (a_m 157 [a_r (q0), a_i (0), a_i (2)] (k, u, g, t)).bind (a_back 283 36 3 [a_r (r0), a_i (x1), a_i (x2)] []) else none else if (k q0).1 = 11 then (a_m 157 [a_r (q0), a_i (1), a_i (2)] (k, u, g, t)).bind (a_back 283 36 3 [a_r (r0), a_i (x1), a_i (x2)] []) else none := by
  refine (X_if_ne (m := 283) (pc := 27) (off := 7) (tg := 34) (by decide +kernel) (by decide +kernel)).trans ?_
  refine ite_congr rfl (fun _ => ?_) (fun _ => ?_)
  · refine (X_iconst (m := 283) (pc := 34) (n := 0) (by decide +kernel) ).trans ?_
    refine (X_iconst (m := 283) (pc := 35) (n := 2) (by decide +kernel) ).trans ?_
    refine (X_call_vi (m := 283) (pc := 36) (q := 53) (y := 157) (n := 3) (as := [a_r (q0), a_i (0), a_i (2)]) (rest := []) (by decide +kernel) (by decide +kernel) (by decide +kernel) (by decide +kernel) rfl rfl (Nat.le_of_ble_eq_true rfl) (Nat.le_of_ble_eq_true rfl) rfl (by rw [show m_maxL 157 = 3 from by decide +kernel]; exact Nat.le_of_ble_eq_true rfl)).trans ?_
    exact ite_congr (by simp [a_rcv, show m_recv 157 = 11 from by decide +kernel]) (fun _ => rfl) (fun _ => rfl)
  · refine (X_iconst (m := 283) (pc := 30) (n := 1) (by decide +kernel) ).trans ?_
    refine (X_goto (m := 283) (pc := 31) (off := 4) (tg := 35) (by decide +kernel) (by decide +kernel)).trans ?_
    refine (X_iconst (m := 283) (pc := 35) (n := 2) (by decide +kernel) ).trans ?_
    refine (X_call_vi (m := 283) (pc := 36) (q := 53) (y := 157) (n := 3) (as := [a_r (q0), a_i (1), a_i (2)]) (rest := []) (by decide +kernel) (by decide +kernel) (by decide +kernel) (by decide +kernel) rfl rfl (Nat.le_of_ble_eq_true rfl) (Nat.le_of_ble_eq_true rfl) rfl (by rw [show m_maxL 157 = 3 from by decide +kernel]; exact Nat.le_of_ble_eq_true rfl)).trans ?_
    exact ite_congr (by simp [a_rcv, show m_recv 157 = 11 from by decide +kernel]) (fun _ => rfl) (fun _ => rfl)
theorem B_X11_repeat_55 {k : Nat → Nat × Nat} {u : Nat → Nat → Int} {g : Nat → Nat → Nat} {t : Nat × Nat × Nat} {r0 : Nat} {x1 : Int} {x2 : Int} : a_X 283 55 [a_r (r0), a_i (x1), a_i (x2)] [] (k, u, g, t) = if (k r0).1 = 11 then (a_m 170 [a_r (r0), a_i (x1), a_i (0)] (k, u, g, t)).bind (a_back 283 58 3 [a_r (r0), a_i (x1), a_i (x2)] []) else none := by
  refine (X_aload_n (m := 283) (pc := 55) (n := 0) (by decide +kernel) rfl).trans ?_
  refine (X_iload_n (m := 283) (pc := 56) (n := 1) (by decide +kernel) rfl).trans ?_
  refine (X_iconst (m := 283) (pc := 57) (n := 0) (by decide +kernel) ).trans ?_
  refine (X_call_vi (m := 283) (pc := 58) (q := 218) (y := 170) (n := 3) (as := [a_r (r0), a_i (x1), a_i (0)]) (rest := []) (by decide +kernel) (by decide +kernel) (by decide +kernel) (by decide +kernel) rfl rfl (Nat.le_of_ble_eq_true rfl) (Nat.le_of_ble_eq_true rfl) rfl (by rw [show m_maxL 170 = 3 from by decide +kernel]; exact Nat.le_of_ble_eq_true rfl)).trans ?_
  exact ite_congr (by simp [a_rcv, show m_recv 170 = 11 from by decide +kernel]) (fun _ => rfl) (fun _ => rfl)
theorem B_X11_repeat_61 {k : Nat → Nat × Nat} {u : Nat → Nat → Int} {g : Nat → Nat → Nat} {t : Nat × Nat × Nat} {r0 : Nat} {x1 : Int} {x2 : Int} {y0 : Int} : a_X 283 61 [a_r (r0), a_i (x1), a_i (x2)] [a_i (y0)] (k, u, g, t) = some (.inl (some (a_i (y0))), (k, u, g, t)) := by
  exact X_ireturn (m := 283) (pc := 61) (f := 1) (by decide +kernel) (by decide +kernel) rfl
theorem E_X11_whole {σ : AS} {r0 : Nat} {x1 : Int} : a_m 284 [a_r (r0), a_i (x1)] σ = a_X 284 0 [a_r (r0), a_i (x1)] [] σ := a_m_eq (by rw [a_entry, show m_maxL 284 = 2 from by decide +kernel]; rfl)
theorem B_X11_whole_0 {k : Nat → Nat × Nat} {u : Nat → Nat → Int} {g : Nat → Nat → Nat} {t : Nat × Nat × Nat} {r0 : Nat} {x1 : Int} : a_X 284 0 [a_r (r0), a_i (x1)] [] (k, u, g, t) = if (k r0).1 = 11 then (a_m 158 [a_r (r0)] (k, u, g, t)).bind (a_back 284 1 3 [a_r (r0), a_i (x1)] []) else none := by
  refine (X_aload_n (m := 284) (pc := 0) (n := 0) (by decide +kernel) rfl).trans ?_
  refine (X_call_vi (m := 284) (pc := 1) (q := 57) (y := 158) (n := 1) (as := [a_r (r0)]) (rest := []) (by decide +kernel) (by decide +kernel) (by decide +kernel) (by decide +kernel) rfl rfl (Nat.le_of_ble_eq_true rfl) (Nat.le_of_ble_eq_true rfl) rfl (by rw [show m_maxL 158 = 1 from by decide +kernel]; exact Nat.le_of_ble_eq_true rfl)).trans ?_
  exact ite_congr (by simp [a_rcv, show m_recv 158 = 11 from by decide +kernel]) (fun _ => rfl) (fun _ => rfl)
theorem B_X11_whole_4 {k : Nat → Nat × Nat} {u : Nat → Nat → Int} {g : Nat → Nat → Nat} {t : Nat × Nat × Nat} {r0 : Nat} {x1 : Int} {y0 : Int} : a_X 284 4 [a_r (r0), a_i (x1)] [a_i (y0)] (k, u, g, t) = if (y0 : Int) ≠ 0 then some (.inl (some (a_i (0))), (k, u, g, t)) else (a_m 277 [a_i (x1)] (k, u, g, t)).bind (a_back 284 9 3 [a_r (r0), a_i (x1)] [a_r (r0)]) := by
  refine (X_if_ne (m := 284) (pc := 4) (off := 30) (tg := 34) (by decide +kernel) (by decide +kernel)).trans ?_
  refine ite_congr rfl (fun _ => ?_) (fun _ => ?_)
  · refine (X_iconst (m := 284) (pc := 34) (n := 0) (by decide +kernel) ).trans ?_
    exact X_ireturn (m := 284) (pc := 35) (f := 1) (by decide +kernel) (by decide +kernel) rfl
  · refine (X_aload_n (m := 284) (pc := 7) (n := 0) (by decide +kernel) rfl).trans ?_
    refine (X_iload_n (m := 284) (pc := 8) (n := 1) (by decide +kernel) rfl).trans ?_
    refine (X_call_st (m := 284) (pc := 9) (q := 406) (y := 277) (n := 1) (as := [a_i (x1)]) (rest := [a_r (r0)]) (by decide +kernel) (by decide +kernel) (by decide +kernel) (by decide +kernel) rfl rfl (Nat.le_of_ble_eq_true rfl) (Nat.le_of_ble_eq_true rfl) rfl (by rw [show m_maxL 277 = 1 from by decide +kernel]; exact Nat.le_of_ble_eq_true rfl)).trans ?_
    exact if_pos rfl
theorem B_X11_whole_12 {k : Nat → Nat × Nat} {u : Nat → Nat → Int} {g : Nat → Nat → Nat} {t : Nat × Nat × Nat} {r0 : Nat} {x1 : Int} {q0 : Nat} {y1 : Int} : a_X 284 12 [a_r (r0), a_i (x1)] [a_i (y1), a_r (q0)] (k, u, g, t) = if (y1 : Int) = 0 then if (k q0).1 = 11 then (a_m 157 [a_r (q0), a_i (1), a_i (2)] (k, u, g, t)).bind (a_back 284 28 3 [a_r (r0), a_i (x1)] []) else none else if (k r0).1 = 11 then (a_m 192 [a_r (r0)] (k, u, g, t)).bind (a_back 284 16 3 [a_r (r0), a_i (x1)] [a_r (q0)]) else none := by
  refine (X_if_eq (m := 284) (pc := 12) (off := 10) (tg := 22) (by decide +kernel) (by decide +kernel)).trans ?_
  refine ite_congr rfl (fun _ => ?_) (fun _ => ?_)
  · refine (X_iconst (m := 284) (pc := 22) (n := 1) (by decide +kernel) ).trans ?_
    refine (X_goto (m := 284) (pc := 23) (off := 4) (tg := 27) (by decide +kernel) (by decide +kernel)).trans ?_
    refine (X_iconst (m := 284) (pc := 27) (n := 2) (by decide +kernel) ).trans ?_
    refine (X_call_vi (m := 284) (pc := 28) (q := 53) (y := 157) (n := 3) (as := [a_r (q0), a_i (1), a_i (2)]) (rest := []) (by decide +kernel) (by decide +kernel) (by decide +kernel) (by decide +kernel) rfl rfl (Nat.le_of_ble_eq_true rfl) (Nat.le_of_ble_eq_true rfl) rfl (by rw [show m_maxL 157 = 3 from by decide +kernel]; exact Nat.le_of_ble_eq_true rfl)).trans ?_
    exact ite_congr (by simp [a_rcv, show m_recv 157 = 11 from by decide +kernel]) (fun _ => rfl) (fun _ => rfl)
  · refine (X_aload_n (m := 284) (pc := 15) (n := 0) (by decide +kernel) rfl).trans ?_
    refine (X_call_vi (m := 284) (pc := 16) (q := 239) (y := 192) (n := 1) (as := [a_r (r0)]) (rest := [a_r (q0)]) (by decide +kernel) (by decide +kernel) (by decide +kernel) (by decide +kernel) rfl rfl (Nat.le_of_ble_eq_true rfl) (Nat.le_of_ble_eq_true rfl) rfl (by rw [show m_maxL 192 = 1 from by decide +kernel]; exact Nat.le_of_ble_eq_true rfl)).trans ?_
    exact ite_congr (by simp [a_rcv, show m_recv 192 = 11 from by decide +kernel]) (fun _ => rfl) (fun _ => rfl)
theorem B_X11_whole_31 {k : Nat → Nat × Nat} {u : Nat → Nat → Int} {g : Nat → Nat → Nat} {t : Nat × Nat × Nat} {r0 : Nat} {x1 : Int} {y0 : Int} : a_X 284 31 [a_r (r0), a_i (x1)] [a_i (y0)] (k, u, g, t) = if (y0 : Int) = 0 then if (k r0).1 = 11 then (a_m 276 [a_r (r0)] (k, u, g, t)).bind (a_back 284 37 3 [a_r (r0), a_i (x1)] []) else none else some (.inl (some (a_i (0))), (k, u, g, t)) := by
  refine (X_if_eq (m := 284) (pc := 31) (off := 5) (tg := 36) (by decide +kernel) (by decide +kernel)).trans ?_
  refine ite_congr rfl (fun _ => ?_) (fun _ => ?_)
  · refine (X_aload_n (m := 284) (pc := 36) (n := 0) (by decide +kernel) rfl).trans ?_
    refine (X_call_vi (m := 284) (pc := 37) (q := 417) (y := 276) (n := 1) (as := [a_r (r0)]) (rest := []) (by decide +kernel) (by decide +kernel) (by decide +kernel) (by decide +kernel) rfl rfl (Nat.le_of_ble_eq_true rfl) (Nat.le_of_ble_eq_true rfl) rfl (by rw [show m_maxL 276 = 2 from by decide +kernel]; exact Nat.le_of_ble_eq_true rfl)).trans ?_
    exact ite_congr (by simp [a_rcv, show m_recv 276 = 11 from by decide +kernel]) (fun _ => rfl) (fun _ => rfl)
  · refine (X_iconst (m := 284) (pc := 34) (n := 0) (by decide +kernel) ).trans ?_
    exact X_ireturn (m := 284) (pc := 35) (f := 1) (by decide +kernel) (by decide +kernel) rfl
theorem B_X11_whole_19 {k : Nat → Nat × Nat} {u : Nat → Nat → Int} {g : Nat → Nat → Nat} {t : Nat × Nat × Nat} {r0 : Nat} {x1 : Int} {q0 : Nat} {y1 : Int} : a_X 284 19 [a_r (r0), a_i (x1)] [a_i (y1), a_r (q0)] (k, u, g, t) = if (y1 : Int) ≠ 0 then if (k q0).1 = 11 then (a_m 157 [a_r (q0), a_i (0), a_i (2)] (k, u, g, t)).bind (a_back 284 28 3 [a_r (r0), a_i (x1)] []) else none else if (k q0).1 = 11 then (a_m 157 [a_r (q0), a_i (1), a_i (2)] (k, u, g, t)).bind (a_back 284 28 3 [a_r (r0), a_i (x1)] []) else none := by
  refine (X_if_ne (m := 284) (pc := 19) (off := 7) (tg := 26) (by decide +kernel) (by decide +kernel)).trans ?_
  refine ite_congr rfl (fun _ => ?_) (fun _ => ?_)
  · refine (X_iconst (m := 284) (pc := 26) (n := 0) (by decide +kernel) ).trans ?_
    refine (X_iconst (m := 284) (pc := 27) (n := 2) (by decide +kernel) ).trans ?_
    refine (X_call_vi (m := 284) (pc := 28) (q := 53) (y := 157) (n := 3) (as := [a_r (q0), a_i (0), a_i (2)]) (rest := []) (by decide +kernel) (by decide +kernel) (by decide +kernel) (by decide +kernel) rfl rfl (Nat.le_of_ble_eq_true rfl) (Nat.le_of_ble_eq_true rfl) rfl (by rw [show m_maxL 157 = 3 from by decide +kernel]; exact Nat.le_of_ble_eq_true rfl)).trans ?_
    exact ite_congr (by simp [a_rcv, show m_recv 157 = 11 from by decide +kernel]) (fun _ => rfl) (fun _ => rfl)
  · refine (X_iconst (m := 284) (pc := 22) (n := 1) (by decide +kernel) ).trans ?_
    refine (X_goto (m := 284) (pc := 23) (off := 4) (tg := 27) (by decide +kernel) (by decide +kernel)).trans ?_
    refine (X_iconst (m := 284) (pc := 27) (n := 2) (by decide +kernel) ).trans ?_
    refine (X_call_vi (m := 284) (pc := 28) (q := 53) (y := 157) (n := 3) (as := [a_r (q0), a_i (1), a_i (2)]) (rest := []) (by decide +kernel) (by decide +kernel) (by decide +kernel) (by decide +kernel) rfl rfl (Nat.le_of_ble_eq_true rfl) (Nat.le_of_ble_eq_true rfl) rfl (by rw [show m_maxL 157 = 3 from by decide +kernel]; exact Nat.le_of_ble_eq_true rfl)).trans ?_
    exact ite_congr (by simp [a_rcv, show m_recv 157 = 11 from by decide +kernel]) (fun _ => rfl) (fun _ => rfl)
theorem B_X11_whole_40 {k : Nat → Nat × Nat} {u : Nat → Nat → Int} {g : Nat → Nat → Nat} {t : Nat × Nat × Nat} {r0 : Nat} {x1 : Int} : a_X 284 40 [a_r (r0), a_i (x1)] [] (k, u, g, t) = if (k r0).1 = 11 then if ((k (g r0 2)).1 = 20 ∨ (k (g r0 2)).1 = 24) ∧ 0 ≤ (2 : Int) ∧ (2 : Int) < ((k (g r0 2)).2 : Int) then if (k r0).1 = 11 then (a_m 193 [a_r (r0), a_i (1), a_i (u (g r0 2) (2 : Int).toNat), a_i (x1)] (k, u, g, t)).bind (a_back 284 49 3 [a_r (r0), a_i (x1)] []) else none else none else none := by
  refine (X_aload_n (m := 284) (pc := 40) (n := 0) (by decide +kernel) rfl).trans ?_
  refine (X_iconst (m := 284) (pc := 41) (n := 1) (by decide +kernel) ).trans ?_
  refine (X_aload_n (m := 284) (pc := 42) (n := 0) (by decide +kernel) rfl).trans ?_
  refine (X_getR (m := 284) (pc := 43) (n := 7) (c := 11) (q := 2) (fi := true) (by decide +kernel) (by decide +kernel)).trans ?_
  refine ite_congr rfl (fun _ => ?_) (fun _ => rfl)
  refine (X_iconst (m := 284) (pc := 46) (n := 2) (by decide +kernel) ).trans ?_
  refine (X_iaload (m := 284) (pc := 47)  (by decide +kernel) ).trans ?_
  refine ite_congr rfl (fun _ => ?_) (fun _ => rfl)
  refine (X_iload_n (m := 284) (pc := 48) (n := 1) (by decide +kernel) rfl).trans ?_
  refine (X_call_vi (m := 284) (pc := 49) (q := 242) (y := 193) (n := 4) (as := [a_r (r0), a_i (1), a_i (u (g r0 2) (2 : Int).toNat), a_i (x1)]) (rest := []) (by decide +kernel) (by decide +kernel) (by decide +kernel) (by decide +kernel) rfl rfl (Nat.le_of_ble_eq_true rfl) (Nat.le_of_ble_eq_true rfl) rfl (by rw [show m_maxL 193 = 6 from by decide +kernel]; exact Nat.le_of_ble_eq_true rfl)).trans ?_
  exact ite_congr (by simp [a_rcv, show m_recv 193 = 11 from by decide +kernel]) (fun _ => rfl) (fun _ => rfl)
theorem B_X11_whole_52 {k : Nat → Nat × Nat} {u : Nat → Nat → Int} {g : Nat → Nat → Nat} {t : Nat × Nat × Nat} {r0 : Nat} {x1 : Int} : a_X 284 52 [a_r (r0), a_i (x1)] [] (k, u, g, t) = if (k r0).1 = 11 then if ((k (g r0 2)).1 = 20 ∨ (k (g r0 2)).1 = 24) ∧ 0 ≤ (2 : Int) ∧ (2 : Int) < ((k (g r0 2)).2 : Int) then some (.inl (some (a_i (u (g r0 2) (2 : Int).toNat))), (k, u, g, t)) else none else none := by
  refine (X_aload_n (m := 284) (pc := 52) (n := 0) (by decide +kernel) rfl).trans ?_
  refine (X_getR (m := 284) (pc := 53) (n := 7) (c := 11) (q := 2) (fi := true) (by decide +kernel) (by decide +kernel)).trans ?_
  refine ite_congr rfl (fun _ => ?_) (fun _ => rfl)
  refine (X_iconst (m := 284) (pc := 56) (n := 2) (by decide +kernel) ).trans ?_
  refine (X_iaload (m := 284) (pc := 57)  (by decide +kernel) ).trans ?_
  refine ite_congr rfl (fun _ => ?_) (fun _ => rfl)
  exact X_ireturn (m := 284) (pc := 58) (f := 1) (by decide +kernel) (by decide +kernel) rfl
theorem E_X11_tick {σ : AS} {r0 : Nat} {x1 : Int} : a_m 285 [a_r (r0), a_i (x1)] σ = a_X 285 0 [a_r (r0), a_i (x1)] [] σ := a_m_eq (by rw [a_entry, show m_maxL 285 = 2 from by decide +kernel]; rfl)
theorem B_X11_tick_0 {k : Nat → Nat × Nat} {u : Nat → Nat → Int} {g : Nat → Nat → Nat} {t : Nat × Nat × Nat} {r0 : Nat} {x1 : Int} : a_X 285 0 [a_r (r0), a_i (x1)] [] (k, u, g, t) = if (k r0).1 = 11 then (a_m 158 [a_r (r0)] (k, u, g, t)).bind (a_back 285 1 3 [a_r (r0), a_i (x1)] []) else none := by
  refine (X_aload_n (m := 285) (pc := 0) (n := 0) (by decide +kernel) rfl).trans ?_
  refine (X_call_vi (m := 285) (pc := 1) (q := 57) (y := 158) (n := 1) (as := [a_r (r0)]) (rest := []) (by decide +kernel) (by decide +kernel) (by decide +kernel) (by decide +kernel) rfl rfl (Nat.le_of_ble_eq_true rfl) (Nat.le_of_ble_eq_true rfl) rfl (by rw [show m_maxL 158 = 1 from by decide +kernel]; exact Nat.le_of_ble_eq_true rfl)).trans ?_
  exact ite_congr (by simp [a_rcv, show m_recv 158 = 11 from by decide +kernel]) (fun _ => rfl) (fun _ => rfl)
theorem B_X11_tick_4 {k : Nat → Nat × Nat} {u : Nat → Nat → Int} {g : Nat → Nat → Nat} {t : Nat × Nat × Nat} {r0 : Nat} {x1 : Int} {y0 : Int} : a_X 285 4 [a_r (r0), a_i (x1)] [a_i (y0)] (k, u, g, t) = if (y0 : Int) ≠ 0 then some (.inl (some (a_i (0))), (k, u, g, t)) else (a_m 155 [a_l (x1), a_l (1), a_l (60)] (k, u, g, t)).bind (a_back 285 14 3 [a_r (r0), a_i (x1)] [a_r (r0)]) := by
  refine (X_if_ne (m := 285) (pc := 4) (off := 42) (tg := 46) (by decide +kernel) (by decide +kernel)).trans ?_
  refine ite_congr rfl (fun _ => ?_) (fun _ => ?_)
  · refine (X_iconst (m := 285) (pc := 46) (n := 0) (by decide +kernel) ).trans ?_
    exact X_ireturn (m := 285) (pc := 47) (f := 1) (by decide +kernel) (by decide +kernel) rfl
  · refine (X_aload_n (m := 285) (pc := 7) (n := 0) (by decide +kernel) rfl).trans ?_
    refine (X_iload_n (m := 285) (pc := 8) (n := 1) (by decide +kernel) rfl).trans ?_
    refine (X_i2l (m := 285) (pc := 9)  (by decide +kernel) ).trans ?_
    refine (X_lconst (m := 285) (pc := 10) (n := 1) (by decide +kernel) ).trans ?_
    refine (X_ldc2 (m := 285) (pc := 11) (n := 423) (z := 60) (by decide +kernel) (by decide +kernel)).trans ?_
    refine (X_call_st (m := 285) (pc := 14) (q := 61) (y := 155) (n := 3) (as := [a_l (x1), a_l (1), a_l (60)]) (rest := [a_r (r0)]) (by decide +kernel) (by decide +kernel) (by decide +kernel) (by decide +kernel) rfl rfl (Nat.le_of_ble_eq_true rfl) (Nat.le_of_ble_eq_true rfl) rfl (by rw [show m_maxL 155 = 6 from by decide +kernel]; exact Nat.le_of_ble_eq_true rfl)).trans ?_
    exact if_pos rfl
theorem B_X11_tick_17 {k : Nat → Nat × Nat} {u : Nat → Nat → Int} {g : Nat → Nat → Nat} {t : Nat × Nat × Nat} {r0 : Nat} {x1 : Int} {q0 : Nat} {y1 : Int} : a_X 285 17 [a_r (r0), a_i (x1)] [a_i (y1), a_r (q0)] (k, u, g, t) = if (y1 : Int) = 0 then if (k q0).1 = 11 then (a_m 157 [a_r (q0), a_i (1), a_i (2)] (k, u, g, t)).bind (a_back 285 40 3 [a_r (r0), a_i (x1)] []) else none else if (k r0).1 = 11 then if ((k (g r0 2)).1 = 20 ∨ (k (g r0 2)).1 = 24) ∧ 0 ≤ (1 : Int) ∧ (1 : Int) < ((k (g r0 2)).2 : Int) then if (wr ((u (g r0 2) (1 : Int).toNat) + x1) : Int) ≤ (9999 : Int) then if (k q0).1 = 11 then (a_m 157 [a_r (q0), a_i (0), a_i (2)] (k, u, g, t)).bind (a_back 285 40 3 [a_r (r0), a_i (x1)] []) else none else if (k q0).1 = 11 then (a_m 157 [a_r (q0), a_i (1), a_i (2)] (k, u, g, t)).bind (a_back 285 40 3 [a_r (r0), a_i (x1)] []) else none else none else none := by
  refine (X_if_eq (m := 285) (pc := 17) (off := 17) (tg := 34) (by decide +kernel) (by decide +kernel)).trans ?_
  refine ite_congr rfl (fun _ => ?_) (fun _ => ?_)
  · refine (X_iconst (m := 285) (pc := 34) (n := 1) (by decide +kernel) ).trans ?_
    refine (X_goto (m := 285) (pc := 35) (off := 4) (tg := 39) (by decide +kernel) (by decide +kernel)).trans ?_
    refine (X_iconst (m := 285) (pc := 39) (n := 2) (by decide +kernel) ).trans ?_
    refine (X_call_vi (m := 285) (pc := 40) (q := 53) (y := 157) (n := 3) (as := [a_r (q0), a_i (1), a_i (2)]) (rest := []) (by decide +kernel) (by decide +kernel) (by decide +kernel) (by decide +kernel) rfl rfl (Nat.le_of_ble_eq_true rfl) (Nat.le_of_ble_eq_true rfl) rfl (by rw [show m_maxL 157 = 3 from by decide +kernel]; exact Nat.le_of_ble_eq_true rfl)).trans ?_
    exact ite_congr (by simp [a_rcv, show m_recv 157 = 11 from by decide +kernel]) (fun _ => rfl) (fun _ => rfl)
  · refine (X_aload_n (m := 285) (pc := 20) (n := 0) (by decide +kernel) rfl).trans ?_
    refine (X_getR (m := 285) (pc := 21) (n := 7) (c := 11) (q := 2) (fi := true) (by decide +kernel) (by decide +kernel)).trans ?_
    refine ite_congr rfl (fun _ => ?_) (fun _ => rfl)
    refine (X_iconst (m := 285) (pc := 24) (n := 1) (by decide +kernel) ).trans ?_
    refine (X_iaload (m := 285) (pc := 25)  (by decide +kernel) ).trans ?_
    refine ite_congr rfl (fun _ => ?_) (fun _ => rfl)
    refine (X_iload_n (m := 285) (pc := 26) (n := 1) (by decide +kernel) rfl).trans ?_
    refine (X_iadd (m := 285) (pc := 27)  (by decide +kernel) ).trans ?_
    refine (X_sipush (m := 285) (pc := 28) (n := 9999) (by decide +kernel) ).trans ?_
    refine (X_ic_le (m := 285) (pc := 31) (off := 7) (tg := 38) (by decide +kernel) (by decide +kernel)).trans ?_
    refine ite_congr rfl (fun _ => ?_) (fun _ => ?_)
    · refine (X_iconst (m := 285) (pc := 38) (n := 0) (by decide +kernel) ).trans ?_
      refine (X_iconst (m := 285) (pc := 39) (n := 2) (by decide +kernel) ).trans ?_
      refine (X_call_vi (m := 285) (pc := 40) (q := 53) (y := 157) (n := 3) (as := [a_r (q0), a_i (0), a_i (2)]) (rest := []) (by decide +kernel) (by decide +kernel) (by decide +kernel) (by decide +kernel) rfl rfl (Nat.le_of_ble_eq_true rfl) (Nat.le_of_ble_eq_true rfl) rfl (by rw [show m_maxL 157 = 3 from by decide +kernel]; exact Nat.le_of_ble_eq_true rfl)).trans ?_
      exact ite_congr (by simp [a_rcv, show m_recv 157 = 11 from by decide +kernel]) (fun _ => rfl) (fun _ => rfl)
    · refine (X_iconst (m := 285) (pc := 34) (n := 1) (by decide +kernel) ).trans ?_
      refine (X_goto (m := 285) (pc := 35) (off := 4) (tg := 39) (by decide +kernel) (by decide +kernel)).trans ?_
      refine (X_iconst (m := 285) (pc := 39) (n := 2) (by decide +kernel) ).trans ?_
      refine (X_call_vi (m := 285) (pc := 40) (q := 53) (y := 157) (n := 3) (as := [a_r (q0), a_i (1), a_i (2)]) (rest := []) (by decide +kernel) (by decide +kernel) (by decide +kernel) (by decide +kernel) rfl rfl (Nat.le_of_ble_eq_true rfl) (Nat.le_of_ble_eq_true rfl) rfl (by rw [show m_maxL 157 = 3 from by decide +kernel]; exact Nat.le_of_ble_eq_true rfl)).trans ?_
      exact ite_congr (by simp [a_rcv, show m_recv 157 = 11 from by decide +kernel]) (fun _ => rfl) (fun _ => rfl)
theorem B_X11_tick_43 {k : Nat → Nat × Nat} {u : Nat → Nat → Int} {g : Nat → Nat → Nat} {t : Nat × Nat × Nat} {r0 : Nat} {x1 : Int} {y0 : Int} : a_X 285 43 [a_r (r0), a_i (x1)] [a_i (y0)] (k, u, g, t) = if (y0 : Int) = 0 then if (k r0).1 = 11 then (a_m 276 [a_r (r0)] (k, u, g, t)).bind (a_back 285 49 3 [a_r (r0), a_i (x1)] []) else none else some (.inl (some (a_i (0))), (k, u, g, t)) := by
  refine (X_if_eq (m := 285) (pc := 43) (off := 5) (tg := 48) (by decide +kernel) (by decide +kernel)).trans ?_
  refine ite_congr rfl (fun _ => ?_) (fun _ => ?_)
  · refine (X_aload_n (m := 285) (pc := 48) (n := 0) (by decide +kernel) rfl).trans ?_
    refine (X_call_vi (m := 285) (pc := 49) (q := 417) (y := 276) (n := 1) (as := [a_r (r0)]) (rest := []) (by decide +kernel) (by decide +kernel) (by decide +kernel) (by decide +kernel) rfl rfl (Nat.le_of_ble_eq_true rfl) (Nat.le_of_ble_eq_true rfl) rfl (by rw [show m_maxL 276 = 2 from by decide +kernel]; exact Nat.le_of_ble_eq_true rfl)).trans ?_
    exact ite_congr (by simp [a_rcv, show m_recv 276 = 11 from by decide +kernel]) (fun _ => rfl) (fun _ => rfl)
  · refine (X_iconst (m := 285) (pc := 46) (n := 0) (by decide +kernel) ).trans ?_
    exact X_ireturn (m := 285) (pc := 47) (f := 1) (by decide +kernel) (by decide +kernel) rfl
theorem B_X11_tick_52 {k : Nat → Nat × Nat} {u : Nat → Nat → Int} {g : Nat → Nat → Nat} {t : Nat × Nat × Nat} {r0 : Nat} {x1 : Int} : a_X 285 52 [a_r (r0), a_i (x1)] [] (k, u, g, t) = if (k r0).1 = 11 then (a_m 208 [a_r (r0), a_i (x1)] (k, u, g, t)).bind (a_back 285 54 3 [a_r (r0), a_i (x1)] []) else none := by
  refine (X_aload_n (m := 285) (pc := 52) (n := 0) (by decide +kernel) rfl).trans ?_
  refine (X_iload_n (m := 285) (pc := 53) (n := 1) (by decide +kernel) rfl).trans ?_
  refine (X_call_vi (m := 285) (pc := 54) (q := 384) (y := 208) (n := 2) (as := [a_r (r0), a_i (x1)]) (rest := []) (by decide +kernel) (by decide +kernel) (by decide +kernel) (by decide +kernel) rfl rfl (Nat.le_of_ble_eq_true rfl) (Nat.le_of_ble_eq_true rfl) rfl (by rw [show m_maxL 208 = 3 from by decide +kernel]; exact Nat.le_of_ble_eq_true rfl)).trans ?_
  exact ite_congr (by simp [a_rcv, show m_recv 208 = 11 from by decide +kernel]) (fun _ => rfl) (fun _ => rfl)
theorem B_X11_tick_57 {k : Nat → Nat × Nat} {u : Nat → Nat → Int} {g : Nat → Nat → Nat} {t : Nat × Nat × Nat} {r0 : Nat} {x1 : Int} : a_X 285 57 [a_r (r0), a_i (x1)] [] (k, u, g, t) = if (k r0).1 = 11 then (a_m 211 [a_r (r0)] (k, u, g, t)).bind (a_back 285 58 3 [a_r (r0), a_i (x1)] []) else none := by
  refine (X_aload_n (m := 285) (pc := 57) (n := 0) (by decide +kernel) rfl).trans ?_
  refine (X_call_vi (m := 285) (pc := 58) (q := 274) (y := 211) (n := 1) (as := [a_r (r0)]) (rest := []) (by decide +kernel) (by decide +kernel) (by decide +kernel) (by decide +kernel) rfl rfl (Nat.le_of_ble_eq_true rfl) (Nat.le_of_ble_eq_true rfl) rfl (by rw [show m_maxL 211 = 3 from by decide +kernel]; exact Nat.le_of_ble_eq_true rfl)).trans ?_
  exact ite_congr (by simp [a_rcv, show m_recv 211 = 11 from by decide +kernel]) (fun _ => rfl) (fun _ => rfl)
theorem B_X11_tick_61 {k : Nat → Nat × Nat} {u : Nat → Nat → Int} {g : Nat → Nat → Nat} {t : Nat × Nat × Nat} {r0 : Nat} {x1 : Int} {y0 : Int} : a_X 285 61 [a_r (r0), a_i (x1)] [a_i (y0)] (k, u, g, t) = some (.inl (some (a_i (y0))), (k, u, g, t)) := by
  exact X_ireturn (m := 285) (pc := 61) (f := 1) (by decide +kernel) (by decide +kernel) rfl
theorem E_X11_addGap {σ : AS} {r0 : Nat} {x1 : Int} {x2 : Int} {x3 : Int} : a_m 286 [a_r (r0), a_i (x1), a_i (x2), a_i (x3)] σ = a_X 286 0 [a_r (r0), a_i (x1), a_i (x2), a_i (x3), a_x false] [] σ := a_m_eq (by rw [a_entry, show m_maxL 286 = 5 from by decide +kernel]; rfl)
theorem B_X11_addGap_0 {k : Nat → Nat × Nat} {u : Nat → Nat → Int} {g : Nat → Nat → Nat} {t : Nat × Nat × Nat} {r0 : Nat} {x1 : Int} {x2 : Int} {x3 : Int} {v4 : AV} : a_X 286 0 [a_r (r0), a_i (x1), a_i (x2), a_i (x3), v4] [] (k, u, g, t) = if (k r0).1 = 11 then (a_m 159 [a_r (r0), a_i (x1)] (k, u, g, t)).bind (a_back 286 2 3 [a_r (r0), a_i (x1), a_i (x2), a_i (x3), v4] []) else none := by
  refine (X_aload_n (m := 286) (pc := 0) (n := 0) (by decide +kernel) rfl).trans ?_
  refine (X_iload_n (m := 286) (pc := 1) (n := 1) (by decide +kernel) rfl).trans ?_
  refine (X_call_vi (m := 286) (pc := 2) (q := 345) (y := 159) (n := 2) (as := [a_r (r0), a_i (x1)]) (rest := []) (by decide +kernel) (by decide +kernel) (by decide +kernel) (by decide +kernel) rfl rfl (Nat.le_of_ble_eq_true rfl) (Nat.le_of_ble_eq_true rfl) rfl (by rw [show m_maxL 159 = 2 from by decide +kernel]; exact Nat.le_of_ble_eq_true rfl)).trans ?_
  exact ite_congr (by simp [a_rcv, show m_recv 159 = 11 from by decide +kernel]) (fun _ => rfl) (fun _ => rfl)
theorem B_X11_addGap_5 {k : Nat → Nat × Nat} {u : Nat → Nat → Int} {g : Nat → Nat → Nat} {t : Nat × Nat × Nat} {r0 : Nat} {x1 : Int} {x2 : Int} {x3 : Int} {v4 : AV} {y0 : Int} : a_X 286 5 [a_r (r0), a_i (x1), a_i (x2), a_i (x3), v4] [a_i (y0)] (k, u, g, t) = if (y0 : Int) ≠ 0 then some (.inl (some (a_i (0))), (k, u, g, t)) else (a_m 155 [a_l (x2), a_l (0), a_l (9999)] (k, u, g, t)).bind (a_back 286 15 3 [a_r (r0), a_i (x1), a_i (x2), a_i (x3), v4] [a_r (r0)]) := by
  refine (X_if_ne (m := 286) (pc := 5) (off := 51) (tg := 56) (by decide +kernel) (by decide +kernel)).trans ?_
  refine ite_congr rfl (fun _ => ?_) (fun _ => ?_)
  · refine (X_iconst (m := 286) (pc := 56) (n := 0) (by decide +kernel) ).trans ?_
    exact X_ireturn (m := 286) (pc := 57) (f := 1) (by decide +kernel) (by decide +kernel) rfl
  · refine (X_aload_n (m := 286) (pc := 8) (n := 0) (by decide +kernel) rfl).trans ?_
    refine (X_iload_n (m := 286) (pc := 9) (n := 2) (by decide +kernel) rfl).trans ?_
    refine (X_i2l (m := 286) (pc := 10)  (by decide +kernel) ).trans ?_
    refine (X_lconst (m := 286) (pc := 11) (n := 0) (by decide +kernel) ).trans ?_
    refine (X_ldc2 (m := 286) (pc := 12) (n := 425) (z := 9999) (by decide +kernel) (by decide +kernel)).trans ?_
    refine (X_call_st (m := 286) (pc := 15) (q := 61) (y := 155) (n := 3) (as := [a_l (x2), a_l (0), a_l (9999)]) (rest := [a_r (r0)]) (by decide +kernel) (by decide +kernel) (by decide +kernel) (by decide +kernel) rfl rfl (Nat.le_of_ble_eq_true rfl) (Nat.le_of_ble_eq_true rfl) rfl (by rw [show m_maxL 155 = 6 from by decide +kernel]; exact Nat.le_of_ble_eq_true rfl)).trans ?_
    exact if_pos rfl
theorem B_X11_addGap_18 {k : Nat → Nat × Nat} {u : Nat → Nat → Int} {g : Nat → Nat → Nat} {t : Nat × Nat × Nat} {r0 : Nat} {x1 : Int} {x2 : Int} {x3 : Int} {v4 : AV} {q0 : Nat} {y1 : Int} : a_X 286 18 [a_r (r0), a_i (x1), a_i (x2), a_i (x3), v4] [a_i (y1), a_r (q0)] (k, u, g, t) = if (y1 : Int) = 0 then if (k q0).1 = 11 then (a_m 157 [a_r (q0), a_i (1), a_i (3)] (k, u, g, t)).bind (a_back 286 50 3 [a_r (r0), a_i (x1), a_i (x2), a_i (x3), v4] []) else none else (a_m 155 [a_l (x3), a_l (x2), a_l (9999)] (k, u, g, t)).bind (a_back 286 28 3 [a_r (r0), a_i (x1), a_i (x2), a_i (x3), v4] [a_r (q0)]) := by
  refine (X_if_eq (m := 286) (pc := 18) (off := 26) (tg := 44) (by decide +kernel) (by decide +kernel)).trans ?_
  refine ite_congr rfl (fun _ => ?_) (fun _ => ?_)
  · refine (X_iconst (m := 286) (pc := 44) (n := 1) (by decide +kernel) ).trans ?_
    refine (X_goto (m := 286) (pc := 45) (off := 4) (tg := 49) (by decide +kernel) (by decide +kernel)).trans ?_
    refine (X_iconst (m := 286) (pc := 49) (n := 3) (by decide +kernel) ).trans ?_
    refine (X_call_vi (m := 286) (pc := 50) (q := 53) (y := 157) (n := 3) (as := [a_r (q0), a_i (1), a_i (3)]) (rest := []) (by decide +kernel) (by decide +kernel) (by decide +kernel) (by decide +kernel) rfl rfl (Nat.le_of_ble_eq_true rfl) (Nat.le_of_ble_eq_true rfl) rfl (by rw [show m_maxL 157 = 3 from by decide +kernel]; exact Nat.le_of_ble_eq_true rfl)).trans ?_
    exact ite_congr (by simp [a_rcv, show m_recv 157 = 11 from by decide +kernel]) (fun _ => rfl) (fun _ => rfl)
  · refine (X_iload_n (m := 286) (pc := 21) (n := 3) (by decide +kernel) rfl).trans ?_
    refine (X_i2l (m := 286) (pc := 22)  (by decide +kernel) ).trans ?_
    refine (X_iload_n (m := 286) (pc := 23) (n := 2) (by decide +kernel) rfl).trans ?_
    refine (X_i2l (m := 286) (pc := 24)  (by decide +kernel) ).trans ?_
    refine (X_ldc2 (m := 286) (pc := 25) (n := 425) (z := 9999) (by decide +kernel) (by decide +kernel)).trans ?_
    refine (X_call_st (m := 286) (pc := 28) (q := 61) (y := 155) (n := 3) (as := [a_l (x3), a_l (x2), a_l (9999)]) (rest := [a_r (q0)]) (by decide +kernel) (by decide +kernel) (by decide +kernel) (by decide +kernel) rfl rfl (Nat.le_of_ble_eq_true rfl) (Nat.le_of_ble_eq_true rfl) rfl (by rw [show m_maxL 155 = 6 from by decide +kernel]; exact Nat.le_of_ble_eq_true rfl)).trans ?_
    exact if_pos rfl
theorem B_X11_addGap_53 {k : Nat → Nat × Nat} {u : Nat → Nat → Int} {g : Nat → Nat → Nat} {t : Nat × Nat × Nat} {r0 : Nat} {x1 : Int} {x2 : Int} {x3 : Int} {v4 : AV} {y0 : Int} : a_X 286 53 [a_r (r0), a_i (x1), a_i (x2), a_i (x3), v4] [a_i (y0)] (k, u, g, t) = if (y0 : Int) = 0 then if (k r0).1 = 11 then (a_m 276 [a_r (r0)] (k, u, g, t)).bind (a_back 286 59 3 [a_r (r0), a_i (x1), a_i (x2), a_i (x3), v4] []) else none else some (.inl (some (a_i (0))), (k, u, g, t)) := by
  refine (X_if_eq (m := 286) (pc := 53) (off := 5) (tg := 58) (by decide +kernel) (by decide +kernel)).trans ?_
  refine ite_congr rfl (fun _ => ?_) (fun _ => ?_)
  · refine (X_aload_n (m := 286) (pc := 58) (n := 0) (by decide +kernel) rfl).trans ?_
    refine (X_call_vi (m := 286) (pc := 59) (q := 417) (y := 276) (n := 1) (as := [a_r (r0)]) (rest := []) (by decide +kernel) (by decide +kernel) (by decide +kernel) (by decide +kernel) rfl rfl (Nat.le_of_ble_eq_true rfl) (Nat.le_of_ble_eq_true rfl) rfl (by rw [show m_maxL 276 = 2 from by decide +kernel]; exact Nat.le_of_ble_eq_true rfl)).trans ?_
    exact ite_congr (by simp [a_rcv, show m_recv 276 = 11 from by decide +kernel]) (fun _ => rfl) (fun _ => rfl)
  · refine (X_iconst (m := 286) (pc := 56) (n := 0) (by decide +kernel) ).trans ?_
    exact X_ireturn (m := 286) (pc := 57) (f := 1) (by decide +kernel) (by decide +kernel) rfl
theorem B_X11_addGap_31 {k : Nat → Nat × Nat} {u : Nat → Nat → Int} {g : Nat → Nat → Nat} {t : Nat × Nat × Nat} {r0 : Nat} {x1 : Int} {x2 : Int} {x3 : Int} {v4 : AV} {q0 : Nat} {y1 : Int} : a_X 286 31 [a_r (r0), a_i (x1), a_i (x2), a_i (x3), v4] [a_i (y1), a_r (q0)] (k, u, g, t) = if (y1 : Int) = 0 then if (k q0).1 = 11 then (a_m 157 [a_r (q0), a_i (1), a_i (3)] (k, u, g, t)).bind (a_back 286 50 3 [a_r (r0), a_i (x1), a_i (x2), a_i (x3), v4] []) else none else if (k r0).1 = 11 then (a_m 166 [a_r (r0), a_i (x1), a_i (1)] (k, u, g, t)).bind (a_back 286 37 3 [a_r (r0), a_i (x1), a_i (x2), a_i (x3), v4] [a_r (q0)]) else none := by
  refine (X_if_eq (m := 286) (pc := 31) (off := 13) (tg := 44) (by decide +kernel) (by decide +kernel)).trans ?_
  refine ite_congr rfl (fun _ => ?_) (fun _ => ?_)
  · refine (X_iconst (m := 286) (pc := 44) (n := 1) (by decide +kernel) ).trans ?_
    refine (X_goto (m := 286) (pc := 45) (off := 4) (tg := 49) (by decide +kernel) (by decide +kernel)).trans ?_
    refine (X_iconst (m := 286) (pc := 49) (n := 3) (by decide +kernel) ).trans ?_
    refine (X_call_vi (m := 286) (pc := 50) (q := 53) (y := 157) (n := 3) (as := [a_r (q0), a_i (1), a_i (3)]) (rest := []) (by decide +kernel) (by decide +kernel) (by decide +kernel) (by decide +kernel) rfl rfl (Nat.le_of_ble_eq_true rfl) (Nat.le_of_ble_eq_true rfl) rfl (by rw [show m_maxL 157 = 3 from by decide +kernel]; exact Nat.le_of_ble_eq_true rfl)).trans ?_
    exact ite_congr (by simp [a_rcv, show m_recv 157 = 11 from by decide +kernel]) (fun _ => rfl) (fun _ => rfl)
  · refine (X_aload_n (m := 286) (pc := 34) (n := 0) (by decide +kernel) rfl).trans ?_
    refine (X_iload_n (m := 286) (pc := 35) (n := 1) (by decide +kernel) rfl).trans ?_
    refine (X_iconst (m := 286) (pc := 36) (n := 1) (by decide +kernel) ).trans ?_
    refine (X_call_vi (m := 286) (pc := 37) (q := 79) (y := 166) (n := 3) (as := [a_r (r0), a_i (x1), a_i (1)]) (rest := [a_r (q0)]) (by decide +kernel) (by decide +kernel) (by decide +kernel) (by decide +kernel) rfl rfl (Nat.le_of_ble_eq_true rfl) (Nat.le_of_ble_eq_true rfl) rfl (by rw [show m_maxL 166 = 3 from by decide +kernel]; exact Nat.le_of_ble_eq_true rfl)).trans ?_
    exact ite_congr (by simp [a_rcv, show m_recv 166 = 11 from by decide +kernel]) (fun _ => rfl) (fun _ => rfl)
theorem B_X11_addGap_62 {k : Nat → Nat × Nat} {u : Nat → Nat → Int} {g : Nat → Nat → Nat} {t : Nat × Nat × Nat} {r0 : Nat} {x1 : Int} {x2 : Int} {x3 : Int} {v4 : AV} : a_X 286 62 [a_r (r0), a_i (x1), a_i (x2), a_i (x3), v4] [] (k, u, g, t) = if (k r0).1 = 11 then (a_m 166 [a_r (r0), a_i (x1), a_i (1)] (k, u, g, t)).bind (a_back 286 65 3 [a_r (r0), a_i (x1), a_i (x2), a_i (x3), v4] []) else none := by
  refine (X_aload_n (m := 286) (pc := 62) (n := 0) (by decide +kernel) rfl).trans ?_
  refine (X_iload_n (m := 286) (pc := 63) (n := 1) (by decide +kernel) rfl).trans ?_
  refine (X_iconst (m := 286) (pc := 64) (n := 1) (by decide +kernel) ).trans ?_
  refine (X_call_vi (m := 286) (pc := 65) (q := 79) (y := 166) (n := 3) (as := [a_r (r0), a_i (x1), a_i (1)]) (rest := []) (by decide +kernel) (by decide +kernel) (by decide +kernel) (by decide +kernel) rfl rfl (Nat.le_of_ble_eq_true rfl) (Nat.le_of_ble_eq_true rfl) rfl (by rw [show m_maxL 166 = 3 from by decide +kernel]; exact Nat.le_of_ble_eq_true rfl)).trans ?_
  exact ite_congr (by simp [a_rcv, show m_recv 166 = 11 from by decide +kernel]) (fun _ => rfl) (fun _ => rfl)
theorem B_X11_addGap_40 {k : Nat → Nat × Nat} {u : Nat → Nat → Int} {g : Nat → Nat → Nat} {t : Nat × Nat × Nat} {r0 : Nat} {x1 : Int} {x2 : Int} {x3 : Int} {v4 : AV} {q0 : Nat} {y1 : Int} : a_X 286 40 [a_r (r0), a_i (x1), a_i (x2), a_i (x3), v4] [a_i (y1), a_r (q0)] (k, u, g, t) = if (y1 : Int) ≠ (4 : Int) then if (k q0).1 = 11 then (a_m 157 [a_r (q0), a_i (0), a_i (3)] (k, u, g, t)).bind (a_back 286 50 3 [a_r (r0), a_i (x1), a_i (x2), a_i (x3), v4] []) else none else if (k q0).1 = 11 then (a_m 157 [a_r (q0), a_i (1), a_i (3)] (k, u, g, t)).bind (a_back 286 50 3 [a_r (r0), a_i (x1), a_i (x2), a_i (x3), v4] []) else none := by
  refine (X_iconst (m := 286) (pc := 40) (n := 4) (by decide +kernel) ).trans ?_
  refine (X_ic_ne (m := 286) (pc := 41) (off := 7) (tg := 48) (by decide +kernel) (by decide +kernel)).trans ?_
  refine ite_congr rfl (fun _ => ?_) (fun _ => ?_)
  · refine (X_iconst (m := 286) (pc := 48) (n := 0) (by decide +kernel) ).trans ?_
    refine (X_iconst (m := 286) (pc := 49) (n := 3) (by decide +kernel) ).trans ?_
    refine (X_call_vi (m := 286) (pc := 50) (q := 53) (y := 157) (n := 3) (as := [a_r (q0), a_i (0), a_i (3)]) (rest := []) (by decide +kernel) (by decide +kernel) (by decide +kernel) (by decide +kernel) rfl rfl (Nat.le_of_ble_eq_true rfl) (Nat.le_of_ble_eq_true rfl) rfl (by rw [show m_maxL 157 = 3 from by decide +kernel]; exact Nat.le_of_ble_eq_true rfl)).trans ?_
    exact ite_congr (by simp [a_rcv, show m_recv 157 = 11 from by decide +kernel]) (fun _ => rfl) (fun _ => rfl)
  · refine (X_iconst (m := 286) (pc := 44) (n := 1) (by decide +kernel) ).trans ?_
    refine (X_goto (m := 286) (pc := 45) (off := 4) (tg := 49) (by decide +kernel) (by decide +kernel)).trans ?_
    refine (X_iconst (m := 286) (pc := 49) (n := 3) (by decide +kernel) ).trans ?_
    refine (X_call_vi (m := 286) (pc := 50) (q := 53) (y := 157) (n := 3) (as := [a_r (q0), a_i (1), a_i (3)]) (rest := []) (by decide +kernel) (by decide +kernel) (by decide +kernel) (by decide +kernel) rfl rfl (Nat.le_of_ble_eq_true rfl) (Nat.le_of_ble_eq_true rfl) rfl (by rw [show m_maxL 157 = 3 from by decide +kernel]; exact Nat.le_of_ble_eq_true rfl)).trans ?_
    exact ite_congr (by simp [a_rcv, show m_recv 157 = 11 from by decide +kernel]) (fun _ => rfl) (fun _ => rfl)
theorem B_X11_addGap_68 {k : Nat → Nat × Nat} {u : Nat → Nat → Int} {g : Nat → Nat → Nat} {t : Nat × Nat × Nat} {r0 : Nat} {x1 : Int} {x2 : Int} {x3 : Int} {v4 : AV} {y0 : Int} : a_X 286 68 [a_r (r0), a_i (x1), a_i (x2), a_i (x3), v4] [a_i (y0)] (k, u, g, t) = if (k r0).1 = 11 then (a_m 167 [a_r (r0), a_i (x1), a_i (wr (2 + (wr (2 * y0)))), a_i (x2)] (k, u, g, t)).bind (a_back 286 79 3 [a_r (r0), a_i (x1), a_i (x2), a_i (x3), a_i (y0)] []) else none := by
  refine (X_istore (m := 286) (pc := 68) (n := 4) (by decide +kernel) rfl (Nat.le_of_ble_eq_true rfl) rfl).trans ?_
  refine (X_aload_n (m := 286) (pc := 70) (n := 0) (by decide +kernel) rfl).trans ?_
  refine (X_iload_n (m := 286) (pc := 71) (n := 1) (by decide +kernel) rfl).trans ?_
  refine (X_iconst (m := 286) (pc := 72) (n := 2) (by decide +kernel) ).trans ?_
  refine (X_iconst (m := 286) (pc := 73) (n := 2) (by decide +kernel) ).trans ?_
  refine (X_iload (m := 286) (pc := 74) (n := 4) (by decide +kernel) rfl).trans ?_
  refine (X_imul (m := 286) (pc := 76)  (by decide +kernel) ).trans ?_
  refine (X_iadd (m := 286) (pc := 77)  (by decide +kernel) ).trans ?_
  refine (X_iload_n (m := 286) (pc := 78) (n := 2) (by decide +kernel) rfl).trans ?_
  refine (X_call_vi (m := 286) (pc := 79) (q := 149) (y := 167) (n := 4) (as := [a_r (r0), a_i (x1), a_i (wr (2 + (wr (2 * y0)))), a_i (x2)]) (rest := []) (by decide +kernel) (by decide +kernel) (by decide +kernel) (by decide +kernel) rfl rfl (Nat.le_of_ble_eq_true rfl) (Nat.le_of_ble_eq_true rfl) rfl (by rw [show m_maxL 167 = 4 from by decide +kernel]; exact Nat.le_of_ble_eq_true rfl)).trans ?_
  exact ite_congr (by simp [a_rcv, show m_recv 167 = 11 from by decide +kernel]) (fun _ => rfl) (fun _ => rfl)
theorem B_X11_addGap_82 {k : Nat → Nat × Nat} {u : Nat → Nat → Int} {g : Nat → Nat → Nat} {t : Nat × Nat × Nat} {r0 : Nat} {x1 : Int} {x2 : Int} {x3 : Int} {x4 : Int} : a_X 286 82 [a_r (r0), a_i (x1), a_i (x2), a_i (x3), a_i (x4)] [] (k, u, g, t) = if (k r0).1 = 11 then (a_m 167 [a_r (r0), a_i (x1), a_i (wr ((wr (2 + (wr (2 * x4)))) + 1)), a_i (x3)] (k, u, g, t)).bind (a_back 286 93 3 [a_r (r0), a_i (x1), a_i (x2), a_i (x3), a_i (x4)] []) else none := by
  refine (X_aload_n (m := 286) (pc := 82) (n := 0) (by decide +kernel) rfl).trans ?_
  refine (X_iload_n (m := 286) (pc := 83) (n := 1) (by decide +kernel) rfl).trans ?_
  refine (X_iconst (m := 286) (pc := 84) (n := 2) (by decide +kernel) ).trans ?_
  refine (X_iconst (m := 286) (pc := 85) (n := 2) (by decide +kernel) ).trans ?_
  refine (X_iload (m := 286) (pc := 86) (n := 4) (by decide +kernel) rfl).trans ?_
  refine (X_imul (m := 286) (pc := 88)  (by decide +kernel) ).trans ?_
  refine (X_iadd (m := 286) (pc := 89)  (by decide +kernel) ).trans ?_
  refine (X_iconst (m := 286) (pc := 90) (n := 1) (by decide +kernel) ).trans ?_
  refine (X_iadd (m := 286) (pc := 91)  (by decide +kernel) ).trans ?_
  refine (X_iload_n (m := 286) (pc := 92) (n := 3) (by decide +kernel) rfl).trans ?_
  refine (X_call_vi (m := 286) (pc := 93) (q := 149) (y := 167) (n := 4) (as := [a_r (r0), a_i (x1), a_i (wr ((wr (2 + (wr (2 * x4)))) + 1)), a_i (x3)]) (rest := []) (by decide +kernel) (by decide +kernel) (by decide +kernel) (by decide +kernel) rfl rfl (Nat.le_of_ble_eq_true rfl) (Nat.le_of_ble_eq_true rfl) rfl (by rw [show m_maxL 167 = 4 from by decide +kernel]; exact Nat.le_of_ble_eq_true rfl)).trans ?_
  exact ite_congr (by simp [a_rcv, show m_recv 167 = 11 from by decide +kernel]) (fun _ => rfl) (fun _ => rfl)
theorem B_X11_addGap_96 {k : Nat → Nat × Nat} {u : Nat → Nat → Int} {g : Nat → Nat → Nat} {t : Nat × Nat × Nat} {r0 : Nat} {x1 : Int} {x2 : Int} {x3 : Int} {x4 : Int} : a_X 286 96 [a_r (r0), a_i (x1), a_i (x2), a_i (x3), a_i (x4)] [] (k, u, g, t) = if (k r0).1 = 11 then (a_m 167 [a_r (r0), a_i (x1), a_i (1), a_i (wr (x4 + 1))] (k, u, g, t)).bind (a_back 286 103 3 [a_r (r0), a_i (x1), a_i (x2), a_i (x3), a_i (x4)] []) else none := by
  refine (X_aload_n (m := 286) (pc := 96) (n := 0) (by decide +kernel) rfl).trans ?_
  refine (X_iload_n (m := 286) (pc := 97) (n := 1) (by decide +kernel) rfl).trans ?_
  refine (X_iconst (m := 286) (pc := 98) (n := 1) (by decide +kernel) ).trans ?_
  refine (X_iload (m := 286) (pc := 99) (n := 4) (by decide +kernel) rfl).trans ?_
  refine (X_iconst (m := 286) (pc := 101) (n := 1) (by decide +kernel) ).trans ?_
  refine (X_iadd (m := 286) (pc := 102)  (by decide +kernel) ).trans ?_
  refine (X_call_vi (m := 286) (pc := 103) (q := 149) (y := 167) (n := 4) (as := [a_r (r0), a_i (x1), a_i (1), a_i (wr (x4 + 1))]) (rest := []) (by decide +kernel) (by decide +kernel) (by decide +kernel) (by decide +kernel) rfl rfl (Nat.le_of_ble_eq_true rfl) (Nat.le_of_ble_eq_true rfl) rfl (by rw [show m_maxL 167 = 4 from by decide +kernel]; exact Nat.le_of_ble_eq_true rfl)).trans ?_
  exact ite_congr (by simp [a_rcv, show m_recv 167 = 11 from by decide +kernel]) (fun _ => rfl) (fun _ => rfl)
theorem B_X11_addGap_106 {k : Nat → Nat × Nat} {u : Nat → Nat → Int} {g : Nat → Nat → Nat} {t : Nat × Nat × Nat} {r0 : Nat} {x1 : Int} {x2 : Int} {x3 : Int} {x4 : Int} : a_X 286 106 [a_r (r0), a_i (x1), a_i (x2), a_i (x3), a_i (x4)] [] (k, u, g, t) = some (.inl (some (a_i (wr (x4 + 1)))), (k, u, g, t)) := by
  refine (X_iload (m := 286) (pc := 106) (n := 4) (by decide +kernel) rfl).trans ?_
  refine (X_iconst (m := 286) (pc := 108) (n := 1) (by decide +kernel) ).trans ?_
  refine (X_iadd (m := 286) (pc := 109)  (by decide +kernel) ).trans ?_
  exact X_ireturn (m := 286) (pc := 110) (f := 1) (by decide +kernel) (by decide +kernel) rfl
theorem E_X11_dropGap {σ : AS} {r0 : Nat} {x1 : Int} {x2 : Int} : a_m 287 [a_r (r0), a_i (x1), a_i (x2)] σ = a_X 287 0 [a_r (r0), a_i (x1), a_i (x2), a_x false] [] σ := a_m_eq (by rw [a_entry, show m_maxL 287 = 4 from by decide +kernel]; rfl)
theorem B_X11_dropGap_0 {k : Nat → Nat × Nat} {u : Nat → Nat → Int} {g : Nat → Nat → Nat} {t : Nat × Nat × Nat} {r0 : Nat} {x1 : Int} {x2 : Int} {v3 : AV} : a_X 287 0 [a_r (r0), a_i (x1), a_i (x2), v3] [] (k, u, g, t) = if (k r0).1 = 11 then (a_m 159 [a_r (r0), a_i (x1)] (k, u, g, t)).bind (a_back 287 2 3 [a_r (r0), a_i (x1), a_i (x2), v3] []) else none := by
  refine (X_aload_n (m := 287) (pc := 0) (n := 0) (by decide +kernel) rfl).trans ?_
  refine (X_iload_n (m := 287) (pc := 1) (n := 1) (by decide +kernel) rfl).trans ?_
  refine (X_call_vi (m := 287) (pc := 2) (q := 345) (y := 159) (n := 2) (as := [a_r (r0), a_i (x1)]) (rest := []) (by decide +kernel) (by decide +kernel) (by decide +kernel) (by decide +kernel) rfl rfl (Nat.le_of_ble_eq_true rfl) (Nat.le_of_ble_eq_true rfl) rfl (by rw [show m_maxL 159 = 2 from by decide +kernel]; exact Nat.le_of_ble_eq_true rfl)).trans ?_
  exact ite_congr (by simp [a_rcv, show m_recv 159 = 11 from by decide +kernel]) (fun _ => rfl) (fun _ => rfl)
theorem B_X11_dropGap_5 {k : Nat → Nat × Nat} {u : Nat → Nat → Int} {g : Nat → Nat → Nat} {t : Nat × Nat × Nat} {r0 : Nat} {x1 : Int} {x2 : Int} {v3 : AV} {y0 : Int} : a_X 287 5 [a_r (r0), a_i (x1), a_i (x2), v3] [a_i (y0)] (k, u, g, t) = if (y0 : Int) ≠ 0 then some (.inl (some (a_i (0))), (k, u, g, t)) else if (k r0).1 = 11 then (a_m 166 [a_r (r0), a_i (x1), a_i (1)] (k, u, g, t)).bind (a_back 287 15 3 [a_r (r0), a_i (x1), a_i (x2), v3] [a_l (0), a_l (x2), a_r (r0)]) else none := by
  refine (X_if_ne (m := 287) (pc := 5) (off := 34) (tg := 39) (by decide +kernel) (by decide +kernel)).trans ?_
  refine ite_congr rfl (fun _ => ?_) (fun _ => ?_)
  · refine (X_iconst (m := 287) (pc := 39) (n := 0) (by decide +kernel) ).trans ?_
    exact X_ireturn (m := 287) (pc := 40) (f := 1) (by decide +kernel) (by decide +kernel) rfl
  · refine (X_aload_n (m := 287) (pc := 8) (n := 0) (by decide +kernel) rfl).trans ?_
    refine (X_iload_n (m := 287) (pc := 9) (n := 2) (by decide +kernel) rfl).trans ?_
    refine (X_i2l (m := 287) (pc := 10)  (by decide +kernel) ).trans ?_
    refine (X_lconst (m := 287) (pc := 11) (n := 0) (by decide +kernel) ).trans ?_
    refine (X_aload_n (m := 287) (pc := 12) (n := 0) (by decide +kernel) rfl).trans ?_
    refine (X_iload_n (m := 287) (pc := 13) (n := 1) (by decide +kernel) rfl).trans ?_
    refine (X_iconst (m := 287) (pc := 14) (n := 1) (by decide +kernel) ).trans ?_
    refine (X_call_vi (m := 287) (pc := 15) (q := 79) (y := 166) (n := 3) (as := [a_r (r0), a_i (x1), a_i (1)]) (rest := [a_l (0), a_l (x2), a_r (r0)]) (by decide +kernel) (by decide +kernel) (by decide +kernel) (by decide +kernel) rfl rfl (Nat.le_of_ble_eq_true rfl) (Nat.le_of_ble_eq_true rfl) rfl (by rw [show m_maxL 166 = 3 from by decide +kernel]; exact Nat.le_of_ble_eq_true rfl)).trans ?_
    exact ite_congr (by simp [a_rcv, show m_recv 166 = 11 from by decide +kernel]) (fun _ => rfl) (fun _ => rfl)
theorem B_X11_dropGap_18 {k : Nat → Nat × Nat} {u : Nat → Nat → Int} {g : Nat → Nat → Nat} {t : Nat × Nat × Nat} {r0 : Nat} {x1 : Int} {x2 : Int} {v3 : AV} {q0 : Nat} {w1 : Int} {w2 : Int} {y3 : Int} : a_X 287 18 [a_r (r0), a_i (x1), a_i (x2), v3] [a_i (y3), a_l (w2), a_l (w1), a_r (q0)] (k, u, g, t) = (a_m 155 [a_l (w1), a_l (w2), a_l (wr (y3 - 1))] (k, u, g, t)).bind (a_back 287 21 3 [a_r (r0), a_i (x1), a_i (x2), v3] [a_r (q0)]) := by
  refine (X_iconst (m := 287) (pc := 18) (n := 1) (by decide +kernel) ).trans ?_
  refine (X_isub (m := 287) (pc := 19)  (by decide +kernel) ).trans ?_
  refine (X_i2l (m := 287) (pc := 20)  (by decide +kernel) ).trans ?_
  refine (X_call_st (m := 287) (pc := 21) (q := 61) (y := 155) (n := 3) (as := [a_l (w1), a_l (w2), a_l (wr (y3 - 1))]) (rest := [a_r (q0)]) (by decide +kernel) (by decide +kernel) (by decide +kernel) (by decide +kernel) rfl rfl (Nat.le_of_ble_eq_true rfl) (Nat.le_of_ble_eq_true rfl) rfl (by rw [show m_maxL 155 = 6 from by decide +kernel]; exact Nat.le_of_ble_eq_true rfl)).trans ?_
  exact if_pos rfl
theorem B_X11_dropGap_24 {k : Nat → Nat × Nat} {u : Nat → Nat → Int} {g : Nat → Nat → Nat} {t : Nat × Nat × Nat} {r0 : Nat} {x1 : Int} {x2 : Int} {v3 : AV} {q0 : Nat} {y1 : Int} : a_X 287 24 [a_r (r0), a_i (x1), a_i (x2), v3] [a_i (y1), a_r (q0)] (k, u, g, t) = if (y1 : Int) ≠ 0 then if (k q0).1 = 11 then (a_m 157 [a_r (q0), a_i (0), a_i (2)] (k, u, g, t)).bind (a_back 287 33 3 [a_r (r0), a_i (x1), a_i (x2), v3] []) else none else if (k q0).1 = 11 then (a_m 157 [a_r (q0), a_i (1), a_i (2)] (k, u, g, t)).bind (a_back 287 33 3 [a_r (r0), a_i (x1), a_i (x2), v3] []) else none := by
  refine (X_if_ne (m := 287) (pc := 24) (off := 7) (tg := 31) (by decide +kernel) (by decide +kernel)).trans ?_
  refine ite_congr rfl (fun _ => ?_) (fun _ => ?_)
  · refine (X_iconst (m := 287) (pc := 31) (n := 0) (by decide +kernel) ).trans ?_
    refine (X_iconst (m := 287) (pc := 32) (n := 2) (by decide +kernel) ).trans ?_
    refine (X_call_vi (m := 287) (pc := 33) (q := 53) (y := 157) (n := 3) (as := [a_r (q0), a_i (0), a_i (2)]) (rest := []) (by decide +kernel) (by decide +kernel) (by decide +kernel) (by decide +kernel) rfl rfl (Nat.le_of_ble_eq_true rfl) (Nat.le_of_ble_eq_true rfl) rfl (by rw [show m_maxL 157 = 3 from by decide +kernel]; exact Nat.le_of_ble_eq_true rfl)).trans ?_
    exact ite_congr (by simp [a_rcv, show m_recv 157 = 11 from by decide +kernel]) (fun _ => rfl) (fun _ => rfl)
  · refine (X_iconst (m := 287) (pc := 27) (n := 1) (by decide +kernel) ).trans ?_
    refine (X_goto (m := 287) (pc := 28) (off := 4) (tg := 32) (by decide +kernel) (by decide +kernel)).trans ?_
    refine (X_iconst (m := 287) (pc := 32) (n := 2) (by decide +kernel) ).trans ?_
    refine (X_call_vi (m := 287) (pc := 33) (q := 53) (y := 157) (n := 3) (as := [a_r (q0), a_i (1), a_i (2)]) (rest := []) (by decide +kernel) (by decide +kernel) (by decide +kernel) (by decide +kernel) rfl rfl (Nat.le_of_ble_eq_true rfl) (Nat.le_of_ble_eq_true rfl) rfl (by rw [show m_maxL 157 = 3 from by decide +kernel]; exact Nat.le_of_ble_eq_true rfl)).trans ?_
    exact ite_congr (by simp [a_rcv, show m_recv 157 = 11 from by decide +kernel]) (fun _ => rfl) (fun _ => rfl)
theorem B_X11_dropGap_36 {k : Nat → Nat × Nat} {u : Nat → Nat → Int} {g : Nat → Nat → Nat} {t : Nat × Nat × Nat} {r0 : Nat} {x1 : Int} {x2 : Int} {v3 : AV} {y0 : Int} : a_X 287 36 [a_r (r0), a_i (x1), a_i (x2), v3] [a_i (y0)] (k, u, g, t) = if (y0 : Int) = 0 then if (k r0).1 = 11 then (a_m 276 [a_r (r0)] (k, u, g, t)).bind (a_back 287 42 3 [a_r (r0), a_i (x1), a_i (x2), v3] []) else none else some (.inl (some (a_i (0))), (k, u, g, t)) := by
  refine (X_if_eq (m := 287) (pc := 36) (off := 5) (tg := 41) (by decide +kernel) (by decide +kernel)).trans ?_
  refine ite_congr rfl (fun _ => ?_) (fun _ => ?_)
  · refine (X_aload_n (m := 287) (pc := 41) (n := 0) (by decide +kernel) rfl).trans ?_
    refine (X_call_vi (m := 287) (pc := 42) (q := 417) (y := 276) (n := 1) (as := [a_r (r0)]) (rest := []) (by decide +kernel) (by decide +kernel) (by decide +kernel) (by decide +kernel) rfl rfl (Nat.le_of_ble_eq_true rfl) (Nat.le_of_ble_eq_true rfl) rfl (by rw [show m_maxL 276 = 2 from by decide +kernel]; exact Nat.le_of_ble_eq_true rfl)).trans ?_
    exact ite_congr (by simp [a_rcv, show m_recv 276 = 11 from by decide +kernel]) (fun _ => rfl) (fun _ => rfl)
  · refine (X_iconst (m := 287) (pc := 39) (n := 0) (by decide +kernel) ).trans ?_
    exact X_ireturn (m := 287) (pc := 40) (f := 1) (by decide +kernel) (by decide +kernel) rfl
theorem B_X11_dropGap_45 {k : Nat → Nat × Nat} {u : Nat → Nat → Int} {g : Nat → Nat → Nat} {t : Nat × Nat × Nat} {r0 : Nat} {x1 : Int} {x2 : Int} {v3 : AV} : a_X 287 45 [a_r (r0), a_i (x1), a_i (x2), v3] [] (k, u, g, t) = a_X 287 51 [a_r (r0), a_i (x1), a_i (x2), a_i (wr (2 + (wr (2 * x2))))] [] (k, u, g, t) := by
  refine (X_iconst (m := 287) (pc := 45) (n := 2) (by decide +kernel) ).trans ?_
  refine (X_iconst (m := 287) (pc := 46) (n := 2) (by decide +kernel) ).trans ?_
  refine (X_iload_n (m := 287) (pc := 47) (n := 2) (by decide +kernel) rfl).trans ?_
  refine (X_imul (m := 287) (pc := 48)  (by decide +kernel) ).trans ?_
  refine (X_iadd (m := 287) (pc := 49)  (by decide +kernel) ).trans ?_
  refine (X_istore_n (m := 287) (pc := 50) (n := 3) (by decide +kernel) rfl (Nat.le_of_ble_eq_true rfl) rfl).trans ?_
  rfl
theorem B_X11_dropGap_51 {k : Nat → Nat × Nat} {u : Nat → Nat → Int} {g : Nat → Nat → Nat} {t : Nat × Nat × Nat} {r0 : Nat} {x1 : Int} {x2 : Int} {x3 : Int} : a_X 287 51 [a_r (r0), a_i (x1), a_i (x2), a_i (x3)] [] (k, u, g, t) = if (wr (x3 + 2) : Int) ≥ (10 : Int) then if (k r0).1 = 11 then (a_m 166 [a_r (r0), a_i (x1), a_i (1)] (k, u, g, t)).bind (a_back 287 85 3 [a_r (r0), a_i (x1), a_i (x2), a_i (x3)] [a_i (1), a_i (x1), a_r (r0)]) else none else if (k r0).1 = 11 then (a_m 166 [a_r (r0), a_i (x1), a_i (wr (x3 + 2))] (k, u, g, t)).bind (a_back 287 67 3 [a_r (r0), a_i (x1), a_i (x2), a_i (x3)] [a_i (x3), a_i (x1), a_r (r0)]) else none := by
  refine (X_iload_n (m := 287) (pc := 51) (n := 3) (by decide +kernel) rfl).trans ?_
  refine (X_iconst (m := 287) (pc := 52) (n := 2) (by decide +kernel) ).trans ?_
  refine (X_iadd (m := 287) (pc := 53)  (by decide +kernel) ).trans ?_
  refine (X_bipush (m := 287) (pc := 54) (n := 10) (by decide +kernel) ).trans ?_
  refine (X_ic_ge (m := 287) (pc := 56) (off := 23) (tg := 79) (by decide +kernel) (by decide +kernel)).trans ?_
  refine ite_congr rfl (fun _ => ?_) (fun _ => ?_)
  · refine (X_aload_n (m := 287) (pc := 79) (n := 0) (by decide +kernel) rfl).trans ?_
    refine (X_iload_n (m := 287) (pc := 80) (n := 1) (by decide +kernel) rfl).trans ?_
    refine (X_iconst (m := 287) (pc := 81) (n := 1) (by decide +kernel) ).trans ?_
    refine (X_aload_n (m := 287) (pc := 82) (n := 0) (by decide +kernel) rfl).trans ?_
    refine (X_iload_n (m := 287) (pc := 83) (n := 1) (by decide +kernel) rfl).trans ?_
    refine (X_iconst (m := 287) (pc := 84) (n := 1) (by decide +kernel) ).trans ?_
    refine (X_call_vi (m := 287) (pc := 85) (q := 79) (y := 166) (n := 3) (as := [a_r (r0), a_i (x1), a_i (1)]) (rest := [a_i (1), a_i (x1), a_r (r0)]) (by decide +kernel) (by decide +kernel) (by decide +kernel) (by decide +kernel) rfl rfl (Nat.le_of_ble_eq_true rfl) (Nat.le_of_ble_eq_true rfl) rfl (by rw [show m_maxL 166 = 3 from by decide +kernel]; exact Nat.le_of_ble_eq_true rfl)).trans ?_
    exact ite_congr (by simp [a_rcv, show m_recv 166 = 11 from by decide +kernel]) (fun _ => rfl) (fun _ => rfl)
  · refine (X_aload_n (m := 287) (pc := 59) (n := 0) (by decide +kernel) rfl).trans ?_
    refine (X_iload_n (m := 287) (pc := 60) (n := 1) (by decide +kernel) rfl).trans ?_
    refine (X_iload_n (m := 287) (pc := 61) (n := 3) (by decide +kernel) rfl).trans ?_
    refine (X_aload_n (m := 287) (pc := 62) (n := 0) (by decide +kernel) rfl).trans ?_
    refine (X_iload_n (m := 287) (pc := 63) (n := 1) (by decide +kernel) rfl).trans ?_
    refine (X_iload_n (m := 287) (pc := 64) (n := 3) (by decide +kernel) rfl).trans ?_
    refine (X_iconst (m := 287) (pc := 65) (n := 2) (by decide +kernel) ).trans ?_
    refine (X_iadd (m := 287) (pc := 66)  (by decide +kernel) ).trans ?_
    refine (X_call_vi (m := 287) (pc := 67) (q := 79) (y := 166) (n := 3) (as := [a_r (r0), a_i (x1), a_i (wr (x3 + 2))]) (rest := [a_i (x3), a_i (x1), a_r (r0)]) (by decide +kernel) (by decide +kernel) (by decide +kernel) (by decide +kernel) rfl rfl (Nat.le_of_ble_eq_true rfl) (Nat.le_of_ble_eq_true rfl) rfl (by rw [show m_maxL 166 = 3 from by decide +kernel]; exact Nat.le_of_ble_eq_true rfl)).trans ?_
    exact ite_congr (by simp [a_rcv, show m_recv 166 = 11 from by decide +kernel]) (fun _ => rfl) (fun _ => rfl)
theorem B_X11_dropGap_88 {k : Nat → Nat × Nat} {u : Nat → Nat → Int} {g : Nat → Nat → Nat} {t : Nat × Nat × Nat} {r0 : Nat} {x1 : Int} {x2 : Int} {x3 : Int} {q0 : Nat} {y1 : Int} {y2 : Int} {y3 : Int} : a_X 287 88 [a_r (r0), a_i (x1), a_i (x2), a_i (x3)] [a_i (y3), a_i (y2), a_i (y1), a_r (q0)] (k, u, g, t) = if (k q0).1 = 11 then (a_m 167 [a_r (q0), a_i (y1), a_i (y2), a_i (wr (y3 - 1))] (k, u, g, t)).bind (a_back 287 90 3 [a_r (r0), a_i (x1), a_i (x2), a_i (x3)] []) else none := by
  refine (X_iconst (m := 287) (pc := 88) (n := 1) (by decide +kernel) ).trans ?_
  refine (X_isub (m := 287) (pc := 89)  (by decide +kernel) ).trans ?_
  refine (X_call_vi (m := 287) (pc := 90) (q := 149) (y := 167) (n := 4) (as := [a_r (q0), a_i (y1), a_i (y2), a_i (wr (y3 - 1))]) (rest := []) (by decide +kernel) (by decide +kernel) (by decide +kernel) (by decide +kernel) rfl rfl (Nat.le_of_ble_eq_true rfl) (Nat.le_of_ble_eq_true rfl) rfl (by rw [show m_maxL 167 = 4 from by decide +kernel]; exact Nat.le_of_ble_eq_true rfl)).trans ?_
  exact ite_congr (by simp [a_rcv, show m_recv 167 = 11 from by decide +kernel]) (fun _ => rfl) (fun _ => rfl)
theorem B_X11_dropGap_70 {k : Nat → Nat × Nat} {u : Nat → Nat → Int} {g : Nat → Nat → Nat} {t : Nat × Nat × Nat} {r0 : Nat} {x1 : Int} {x2 : Int} {x3 : Int} {q0 : Nat} {y1 : Int} {y2 : Int} {y3 : Int} : a_X 287 70 [a_r (r0), a_i (x1), a_i (x2), a_i (x3)] [a_i (y3), a_i (y2), a_i (y1), a_r (q0)] (k, u, g, t) = if (k q0).1 = 11 then (a_m 167 [a_r (q0), a_i (y1), a_i (y2), a_i (y3)] (k, u, g, t)).bind (a_back 287 70 3 [a_r (r0), a_i (x1), a_i (x2), a_i (x3)] []) else none := by
  refine (X_call_vi (m := 287) (pc := 70) (q := 149) (y := 167) (n := 4) (as := [a_r (q0), a_i (y1), a_i (y2), a_i (y3)]) (rest := []) (by decide +kernel) (by decide +kernel) (by decide +kernel) (by decide +kernel) rfl rfl (Nat.le_of_ble_eq_true rfl) (Nat.le_of_ble_eq_true rfl) rfl (by rw [show m_maxL 167 = 4 from by decide +kernel]; exact Nat.le_of_ble_eq_true rfl)).trans ?_
  exact ite_congr (by simp [a_rcv, show m_recv 167 = 11 from by decide +kernel]) (fun _ => rfl) (fun _ => rfl)
theorem B_X11_dropGap_93 {k : Nat → Nat × Nat} {u : Nat → Nat → Int} {g : Nat → Nat → Nat} {t : Nat × Nat × Nat} {r0 : Nat} {x1 : Int} {x2 : Int} {x3 : Int} : a_X 287 93 [a_r (r0), a_i (x1), a_i (x2), a_i (x3)] [] (k, u, g, t) = if (k r0).1 = 11 then (a_m 166 [a_r (r0), a_i (x1), a_i (1)] (k, u, g, t)).bind (a_back 287 96 3 [a_r (r0), a_i (x1), a_i (x2), a_i (x3)] []) else none := by
  refine (X_aload_n (m := 287) (pc := 93) (n := 0) (by decide +kernel) rfl).trans ?_
  refine (X_iload_n (m := 287) (pc := 94) (n := 1) (by decide +kernel) rfl).trans ?_
  refine (X_iconst (m := 287) (pc := 95) (n := 1) (by decide +kernel) ).trans ?_
  refine (X_call_vi (m := 287) (pc := 96) (q := 79) (y := 166) (n := 3) (as := [a_r (r0), a_i (x1), a_i (1)]) (rest := []) (by decide +kernel) (by decide +kernel) (by decide +kernel) (by decide +kernel) rfl rfl (Nat.le_of_ble_eq_true rfl) (Nat.le_of_ble_eq_true rfl) rfl (by rw [show m_maxL 166 = 3 from by decide +kernel]; exact Nat.le_of_ble_eq_true rfl)).trans ?_
  exact ite_congr (by simp [a_rcv, show m_recv 166 = 11 from by decide +kernel]) (fun _ => rfl) (fun _ => rfl)
theorem B_X11_dropGap_73 {k : Nat → Nat × Nat} {u : Nat → Nat → Int} {g : Nat → Nat → Nat} {t : Nat × Nat × Nat} {r0 : Nat} {x1 : Int} {x2 : Int} {x3 : Int} : a_X 287 73 [a_r (r0), a_i (x1), a_i (x2), a_i (x3)] [] (k, u, g, t) = a_X 287 51 [a_r (r0), a_i (x1), a_i (x2), a_i (wr (x3 + 1))] [] (k, u, g, t) := by
  refine (X_iinc (m := 287) (pc := 73) (n := 3) (c := 1) (by decide +kernel) rfl rfl (Nat.le_of_ble_eq_true rfl) rfl).trans ?_
  refine (X_goto (m := 287) (pc := 76) (off := -25) (tg := 51) (by decide +kernel) (by decide +kernel)).trans ?_
  rfl
theorem B_X11_dropGap_99 {k : Nat → Nat × Nat} {u : Nat → Nat → Int} {g : Nat → Nat → Nat} {t : Nat × Nat × Nat} {r0 : Nat} {x1 : Int} {x2 : Int} {x3 : Int} {y0 : Int} : a_X 287 99 [a_r (r0), a_i (x1), a_i (x2), a_i (x3)] [a_i (y0)] (k, u, g, t) = some (.inl (some (a_i (y0))), (k, u, g, t)) := by
  exact X_ireturn (m := 287) (pc := 99) (f := 1) (by decide +kernel) (by decide +kernel) rfl
theorem E_X11_setDelay {σ : AS} {r0 : Nat} {x1 : Int} {x2 : Int} : a_m 288 [a_r (r0), a_i (x1), a_i (x2)] σ = a_X 288 0 [a_r (r0), a_i (x1), a_i (x2), a_x false] [] σ := a_m_eq (by rw [a_entry, show m_maxL 288 = 4 from by decide +kernel]; rfl)
theorem B_X11_setDelay_0 {k : Nat → Nat × Nat} {u : Nat → Nat → Int} {g : Nat → Nat → Nat} {t : Nat × Nat × Nat} {r0 : Nat} {x1 : Int} {x2 : Int} {v3 : AV} : a_X 288 0 [a_r (r0), a_i (x1), a_i (x2), v3] [] (k, u, g, t) = if (k r0).1 = 11 then (a_m 159 [a_r (r0), a_i (x1)] (k, u, g, t)).bind (a_back 288 2 3 [a_r (r0), a_i (x1), a_i (x2), v3] []) else none := by
  refine (X_aload_n (m := 288) (pc := 0) (n := 0) (by decide +kernel) rfl).trans ?_
  refine (X_iload_n (m := 288) (pc := 1) (n := 1) (by decide +kernel) rfl).trans ?_
  refine (X_call_vi (m := 288) (pc := 2) (q := 345) (y := 159) (n := 2) (as := [a_r (r0), a_i (x1)]) (rest := []) (by decide +kernel) (by decide +kernel) (by decide +kernel) (by decide +kernel) rfl rfl (Nat.le_of_ble_eq_true rfl) (Nat.le_of_ble_eq_true rfl) rfl (by rw [show m_maxL 159 = 2 from by decide +kernel]; exact Nat.le_of_ble_eq_true rfl)).trans ?_
  exact ite_congr (by simp [a_rcv, show m_recv 159 = 11 from by decide +kernel]) (fun _ => rfl) (fun _ => rfl)
theorem B_X11_setDelay_5 {k : Nat → Nat × Nat} {u : Nat → Nat → Int} {g : Nat → Nat → Nat} {t : Nat × Nat × Nat} {r0 : Nat} {x1 : Int} {x2 : Int} {v3 : AV} {y0 : Int} : a_X 288 5 [a_r (r0), a_i (x1), a_i (x2), v3] [a_i (y0)] (k, u, g, t) = if (y0 : Int) ≠ 0 then some (.inl (some (a_i (0))), (k, u, g, t)) else (a_m 155 [a_l (x2), a_l (0), a_l (9)] (k, u, g, t)).bind (a_back 288 15 3 [a_r (r0), a_i (x1), a_i (x2), v3] [a_r (r0)]) := by
  refine (X_if_ne (m := 288) (pc := 5) (off := 28) (tg := 33) (by decide +kernel) (by decide +kernel)).trans ?_
  refine ite_congr rfl (fun _ => ?_) (fun _ => ?_)
  · refine (X_iconst (m := 288) (pc := 33) (n := 0) (by decide +kernel) ).trans ?_
    exact X_ireturn (m := 288) (pc := 34) (f := 1) (by decide +kernel) (by decide +kernel) rfl
  · refine (X_aload_n (m := 288) (pc := 8) (n := 0) (by decide +kernel) rfl).trans ?_
    refine (X_iload_n (m := 288) (pc := 9) (n := 2) (by decide +kernel) rfl).trans ?_
    refine (X_i2l (m := 288) (pc := 10)  (by decide +kernel) ).trans ?_
    refine (X_lconst (m := 288) (pc := 11) (n := 0) (by decide +kernel) ).trans ?_
    refine (X_ldc2 (m := 288) (pc := 12) (n := 427) (z := 9) (by decide +kernel) (by decide +kernel)).trans ?_
    refine (X_call_st (m := 288) (pc := 15) (q := 61) (y := 155) (n := 3) (as := [a_l (x2), a_l (0), a_l (9)]) (rest := [a_r (r0)]) (by decide +kernel) (by decide +kernel) (by decide +kernel) (by decide +kernel) rfl rfl (Nat.le_of_ble_eq_true rfl) (Nat.le_of_ble_eq_true rfl) rfl (by rw [show m_maxL 155 = 6 from by decide +kernel]; exact Nat.le_of_ble_eq_true rfl)).trans ?_
    exact if_pos rfl
theorem B_X11_setDelay_18 {k : Nat → Nat × Nat} {u : Nat → Nat → Int} {g : Nat → Nat → Nat} {t : Nat × Nat × Nat} {r0 : Nat} {x1 : Int} {x2 : Int} {v3 : AV} {q0 : Nat} {y1 : Int} : a_X 288 18 [a_r (r0), a_i (x1), a_i (x2), v3] [a_i (y1), a_r (q0)] (k, u, g, t) = if (y1 : Int) ≠ 0 then if (k q0).1 = 11 then (a_m 157 [a_r (q0), a_i (0), a_i (3)] (k, u, g, t)).bind (a_back 288 27 3 [a_r (r0), a_i (x1), a_i (x2), v3] []) else none else if (k q0).1 = 11 then (a_m 157 [a_r (q0), a_i (1), a_i (3)] (k, u, g, t)).bind (a_back 288 27 3 [a_r (r0), a_i (x1), a_i (x2), v3] []) else none := by
  refine (X_if_ne (m := 288) (pc := 18) (off := 7) (tg := 25) (by decide +kernel) (by decide +kernel)).trans ?_
  refine ite_congr rfl (fun _ => ?_) (fun _ => ?_)
  · refine (X_iconst (m := 288) (pc := 25) (n := 0) (by decide +kernel) ).trans ?_
    refine (X_iconst (m := 288) (pc := 26) (n := 3) (by decide +kernel) ).trans ?_
    refine (X_call_vi (m := 288) (pc := 27) (q := 53) (y := 157) (n := 3) (as := [a_r (q0), a_i (0), a_i (3)]) (rest := []) (by decide +kernel) (by decide +kernel) (by decide +kernel) (by decide +kernel) rfl rfl (Nat.le_of_ble_eq_true rfl) (Nat.le_of_ble_eq_true rfl) rfl (by rw [show m_maxL 157 = 3 from by decide +kernel]; exact Nat.le_of_ble_eq_true rfl)).trans ?_
    exact ite_congr (by simp [a_rcv, show m_recv 157 = 11 from by decide +kernel]) (fun _ => rfl) (fun _ => rfl)
  · refine (X_iconst (m := 288) (pc := 21) (n := 1) (by decide +kernel) ).trans ?_
    refine (X_goto (m := 288) (pc := 22) (off := 4) (tg := 26) (by decide +kernel) (by decide +kernel)).trans ?_
    refine (X_iconst (m := 288) (pc := 26) (n := 3) (by decide +kernel) ).trans ?_
    refine (X_call_vi (m := 288) (pc := 27) (q := 53) (y := 157) (n := 3) (as := [a_r (q0), a_i (1), a_i (3)]) (rest := []) (by decide +kernel) (by decide +kernel) (by decide +kernel) (by decide +kernel) rfl rfl (Nat.le_of_ble_eq_true rfl) (Nat.le_of_ble_eq_true rfl) rfl (by rw [show m_maxL 157 = 3 from by decide +kernel]; exact Nat.le_of_ble_eq_true rfl)).trans ?_
    exact ite_congr (by simp [a_rcv, show m_recv 157 = 11 from by decide +kernel]) (fun _ => rfl) (fun _ => rfl)
theorem B_X11_setDelay_30 {k : Nat → Nat × Nat} {u : Nat → Nat → Int} {g : Nat → Nat → Nat} {t : Nat × Nat × Nat} {r0 : Nat} {x1 : Int} {x2 : Int} {v3 : AV} {y0 : Int} : a_X 288 30 [a_r (r0), a_i (x1), a_i (x2), v3] [a_i (y0)] (k, u, g, t) = if (y0 : Int) = 0 then if (k r0).1 = 11 then (a_m 276 [a_r (r0)] (k, u, g, t)).bind (a_back 288 36 3 [a_r (r0), a_i (x1), a_i (x2), v3] []) else none else some (.inl (some (a_i (0))), (k, u, g, t)) := by
  refine (X_if_eq (m := 288) (pc := 30) (off := 5) (tg := 35) (by decide +kernel) (by decide +kernel)).trans ?_
  refine ite_congr rfl (fun _ => ?_) (fun _ => ?_)
  · refine (X_aload_n (m := 288) (pc := 35) (n := 0) (by decide +kernel) rfl).trans ?_
    refine (X_call_vi (m := 288) (pc := 36) (q := 417) (y := 276) (n := 1) (as := [a_r (r0)]) (rest := []) (by decide +kernel) (by decide +kernel) (by decide +kernel) (by decide +kernel) rfl rfl (Nat.le_of_ble_eq_true rfl) (Nat.le_of_ble_eq_true rfl) rfl (by rw [show m_maxL 276 = 2 from by decide +kernel]; exact Nat.le_of_ble_eq_true rfl)).trans ?_
    exact ite_congr (by simp [a_rcv, show m_recv 276 = 11 from by decide +kernel]) (fun _ => rfl) (fun _ => rfl)
  · refine (X_iconst (m := 288) (pc := 33) (n := 0) (by decide +kernel) ).trans ?_
    exact X_ireturn (m := 288) (pc := 34) (f := 1) (by decide +kernel) (by decide +kernel) rfl
theorem B_X11_setDelay_39 {k : Nat → Nat × Nat} {u : Nat → Nat → Int} {g : Nat → Nat → Nat} {t : Nat × Nat × Nat} {r0 : Nat} {x1 : Int} {x2 : Int} {v3 : AV} : a_X 288 39 [a_r (r0), a_i (x1), a_i (x2), v3] [] (k, u, g, t) = if (k r0).1 = 11 then (a_m 166 [a_r (r0), a_i (x1), a_i (0)] (k, u, g, t)).bind (a_back 288 42 3 [a_r (r0), a_i (x1), a_i (x2), v3] []) else none := by
  refine (X_aload_n (m := 288) (pc := 39) (n := 0) (by decide +kernel) rfl).trans ?_
  refine (X_iload_n (m := 288) (pc := 40) (n := 1) (by decide +kernel) rfl).trans ?_
  refine (X_iconst (m := 288) (pc := 41) (n := 0) (by decide +kernel) ).trans ?_
  refine (X_call_vi (m := 288) (pc := 42) (q := 79) (y := 166) (n := 3) (as := [a_r (r0), a_i (x1), a_i (0)]) (rest := []) (by decide +kernel) (by decide +kernel) (by decide +kernel) (by decide +kernel) rfl rfl (Nat.le_of_ble_eq_true rfl) (Nat.le_of_ble_eq_true rfl) rfl (by rw [show m_maxL 166 = 3 from by decide +kernel]; exact Nat.le_of_ble_eq_true rfl)).trans ?_
  exact ite_congr (by simp [a_rcv, show m_recv 166 = 11 from by decide +kernel]) (fun _ => rfl) (fun _ => rfl)
theorem B_X11_setDelay_45 {k : Nat → Nat × Nat} {u : Nat → Nat → Int} {g : Nat → Nat → Nat} {t : Nat × Nat × Nat} {r0 : Nat} {x1 : Int} {x2 : Int} {v3 : AV} {y0 : Int} : a_X 288 45 [a_r (r0), a_i (x1), a_i (x2), v3] [a_i (y0)] (k, u, g, t) = if (k r0).1 = 11 then (a_m 167 [a_r (r0), a_i (x1), a_i (0), a_i (x2)] (k, u, g, t)).bind (a_back 288 50 3 [a_r (r0), a_i (x1), a_i (x2), a_i (y0)] []) else none := by
  refine (X_istore_n (m := 288) (pc := 45) (n := 3) (by decide +kernel) rfl (Nat.le_of_ble_eq_true rfl) rfl).trans ?_
  refine (X_aload_n (m := 288) (pc := 46) (n := 0) (by decide +kernel) rfl).trans ?_
  refine (X_iload_n (m := 288) (pc := 47) (n := 1) (by decide +kernel) rfl).trans ?_
  refine (X_iconst (m := 288) (pc := 48) (n := 0) (by decide +kernel) ).trans ?_
  refine (X_iload_n (m := 288) (pc := 49) (n := 2) (by decide +kernel) rfl).trans ?_
  refine (X_call_vi (m := 288) (pc := 50) (q := 149) (y := 167) (n := 4) (as := [a_r (r0), a_i (x1), a_i (0), a_i (x2)]) (rest := []) (by decide +kernel) (by decide +kernel) (by decide +kernel) (by decide +kernel) rfl rfl (Nat.le_of_ble_eq_true rfl) (Nat.le_of_ble_eq_true rfl) rfl (by rw [show m_maxL 167 = 4 from by decide +kernel]; exact Nat.le_of_ble_eq_true rfl)).trans ?_
  exact ite_congr (by simp [a_rcv, show m_recv 167 = 11 from by decide +kernel]) (fun _ => rfl) (fun _ => rfl)
theorem B_X11_setDelay_53 {k : Nat → Nat × Nat} {u : Nat → Nat → Int} {g : Nat → Nat → Nat} {t : Nat × Nat × Nat} {r0 : Nat} {x1 : Int} {x2 : Int} {x3 : Int} : a_X 288 53 [a_r (r0), a_i (x1), a_i (x2), a_i (x3)] [] (k, u, g, t) = some (.inl (some (a_i (x3))), (k, u, g, t)) := by
  refine (X_iload_n (m := 288) (pc := 53) (n := 3) (by decide +kernel) rfl).trans ?_
  exact X_ireturn (m := 288) (pc := 54) (f := 1) (by decide +kernel) (by decide +kernel) rfl
theorem E_X11_setPeriod {σ : AS} {r0 : Nat} {x1 : Int} : a_m 289 [a_r (r0), a_i (x1)] σ = a_X 289 0 [a_r (r0), a_i (x1), a_x false] [] σ := a_m_eq (by rw [a_entry, show m_maxL 289 = 3 from by decide +kernel]; rfl)
theorem B_X11_setPeriod_0 {k : Nat → Nat × Nat} {u : Nat → Nat → Int} {g : Nat → Nat → Nat} {t : Nat × Nat × Nat} {r0 : Nat} {x1 : Int} {v2 : AV} : a_X 289 0 [a_r (r0), a_i (x1), v2] [] (k, u, g, t) = if (k r0).1 = 11 then (a_m 158 [a_r (r0)] (k, u, g, t)).bind (a_back 289 1 3 [a_r (r0), a_i (x1), v2] []) else none := by
  refine (X_aload_n (m := 289) (pc := 0) (n := 0) (by decide +kernel) rfl).trans ?_
  refine (X_call_vi (m := 289) (pc := 1) (q := 57) (y := 158) (n := 1) (as := [a_r (r0)]) (rest := []) (by decide +kernel) (by decide +kernel) (by decide +kernel) (by decide +kernel) rfl rfl (Nat.le_of_ble_eq_true rfl) (Nat.le_of_ble_eq_true rfl) rfl (by rw [show m_maxL 158 = 1 from by decide +kernel]; exact Nat.le_of_ble_eq_true rfl)).trans ?_
  exact ite_congr (by simp [a_rcv, show m_recv 158 = 11 from by decide +kernel]) (fun _ => rfl) (fun _ => rfl)
theorem B_X11_setPeriod_4 {k : Nat → Nat × Nat} {u : Nat → Nat → Int} {g : Nat → Nat → Nat} {t : Nat × Nat × Nat} {r0 : Nat} {x1 : Int} {v2 : AV} {y0 : Int} : a_X 289 4 [a_r (r0), a_i (x1), v2] [a_i (y0)] (k, u, g, t) = if (y0 : Int) ≠ 0 then some (.inl (some (a_i (0))), (k, u, g, t)) else (a_m 155 [a_l (x1), a_l (0), a_l (99)] (k, u, g, t)).bind (a_back 289 14 3 [a_r (r0), a_i (x1), v2] [a_r (r0)]) := by
  refine (X_if_ne (m := 289) (pc := 4) (off := 28) (tg := 32) (by decide +kernel) (by decide +kernel)).trans ?_
  refine ite_congr rfl (fun _ => ?_) (fun _ => ?_)
  · refine (X_iconst (m := 289) (pc := 32) (n := 0) (by decide +kernel) ).trans ?_
    exact X_ireturn (m := 289) (pc := 33) (f := 1) (by decide +kernel) (by decide +kernel) rfl
  · refine (X_aload_n (m := 289) (pc := 7) (n := 0) (by decide +kernel) rfl).trans ?_
    refine (X_iload_n (m := 289) (pc := 8) (n := 1) (by decide +kernel) rfl).trans ?_
    refine (X_i2l (m := 289) (pc := 9)  (by decide +kernel) ).trans ?_
    refine (X_lconst (m := 289) (pc := 10) (n := 0) (by decide +kernel) ).trans ?_
    refine (X_ldc2 (m := 289) (pc := 11) (n := 390) (z := 99) (by decide +kernel) (by decide +kernel)).trans ?_
    refine (X_call_st (m := 289) (pc := 14) (q := 61) (y := 155) (n := 3) (as := [a_l (x1), a_l (0), a_l (99)]) (rest := [a_r (r0)]) (by decide +kernel) (by decide +kernel) (by decide +kernel) (by decide +kernel) rfl rfl (Nat.le_of_ble_eq_true rfl) (Nat.le_of_ble_eq_true rfl) rfl (by rw [show m_maxL 155 = 6 from by decide +kernel]; exact Nat.le_of_ble_eq_true rfl)).trans ?_
    exact if_pos rfl
theorem B_X11_setPeriod_17 {k : Nat → Nat × Nat} {u : Nat → Nat → Int} {g : Nat → Nat → Nat} {t : Nat × Nat × Nat} {r0 : Nat} {x1 : Int} {v2 : AV} {q0 : Nat} {y1 : Int} : a_X 289 17 [a_r (r0), a_i (x1), v2] [a_i (y1), a_r (q0)] (k, u, g, t) = if (y1 : Int) ≠ 0 then if (k q0).1 = 11 then (a_m 157 [a_r (q0), a_i (0), a_i (2)] (k, u, g, t)).bind (a_back 289 26 3 [a_r (r0), a_i (x1), v2] []) else none else if (k q0).1 = 11 then (a_m 157 [a_r (q0), a_i (1), a_i (2)] (k, u, g, t)).bind (a_back 289 26 3 [a_r (r0), a_i (x1), v2] []) else none := by
  refine (X_if_ne (m := 289) (pc := 17) (off := 7) (tg := 24) (by decide +kernel) (by decide +kernel)).trans ?_
  refine ite_congr rfl (fun _ => ?_) (fun _ => ?_)
  · refine (X_iconst (m := 289) (pc := 24) (n := 0) (by decide +kernel) ).trans ?_
    refine (X_iconst (m := 289) (pc := 25) (n := 2) (by decide +kernel) ).trans ?_
    refine (X_call_vi (m := 289) (pc := 26) (q := 53) (y := 157) (n := 3) (as := [a_r (q0), a_i (0), a_i (2)]) (rest := []) (by decide +kernel) (by decide +kernel) (by decide +kernel) (by decide +kernel) rfl rfl (Nat.le_of_ble_eq_true rfl) (Nat.le_of_ble_eq_true rfl) rfl (by rw [show m_maxL 157 = 3 from by decide +kernel]; exact Nat.le_of_ble_eq_true rfl)).trans ?_
    exact ite_congr (by simp [a_rcv, show m_recv 157 = 11 from by decide +kernel]) (fun _ => rfl) (fun _ => rfl)
  · refine (X_iconst (m := 289) (pc := 20) (n := 1) (by decide +kernel) ).trans ?_
    refine (X_goto (m := 289) (pc := 21) (off := 4) (tg := 25) (by decide +kernel) (by decide +kernel)).trans ?_
    refine (X_iconst (m := 289) (pc := 25) (n := 2) (by decide +kernel) ).trans ?_
    refine (X_call_vi (m := 289) (pc := 26) (q := 53) (y := 157) (n := 3) (as := [a_r (q0), a_i (1), a_i (2)]) (rest := []) (by decide +kernel) (by decide +kernel) (by decide +kernel) (by decide +kernel) rfl rfl (Nat.le_of_ble_eq_true rfl) (Nat.le_of_ble_eq_true rfl) rfl (by rw [show m_maxL 157 = 3 from by decide +kernel]; exact Nat.le_of_ble_eq_true rfl)).trans ?_
    exact ite_congr (by simp [a_rcv, show m_recv 157 = 11 from by decide +kernel]) (fun _ => rfl) (fun _ => rfl)
theorem B_X11_setPeriod_29 {k : Nat → Nat × Nat} {u : Nat → Nat → Int} {g : Nat → Nat → Nat} {t : Nat × Nat × Nat} {r0 : Nat} {x1 : Int} {v2 : AV} {y0 : Int} : a_X 289 29 [a_r (r0), a_i (x1), v2] [a_i (y0)] (k, u, g, t) = if (y0 : Int) = 0 then if (k r0).1 = 11 then (a_m 276 [a_r (r0)] (k, u, g, t)).bind (a_back 289 35 3 [a_r (r0), a_i (x1), v2] []) else none else some (.inl (some (a_i (0))), (k, u, g, t)) := by
  refine (X_if_eq (m := 289) (pc := 29) (off := 5) (tg := 34) (by decide +kernel) (by decide +kernel)).trans ?_
  refine ite_congr rfl (fun _ => ?_) (fun _ => ?_)
  · refine (X_aload_n (m := 289) (pc := 34) (n := 0) (by decide +kernel) rfl).trans ?_
    refine (X_call_vi (m := 289) (pc := 35) (q := 417) (y := 276) (n := 1) (as := [a_r (r0)]) (rest := []) (by decide +kernel) (by decide +kernel) (by decide +kernel) (by decide +kernel) rfl rfl (Nat.le_of_ble_eq_true rfl) (Nat.le_of_ble_eq_true rfl) rfl (by rw [show m_maxL 276 = 2 from by decide +kernel]; exact Nat.le_of_ble_eq_true rfl)).trans ?_
    exact ite_congr (by simp [a_rcv, show m_recv 276 = 11 from by decide +kernel]) (fun _ => rfl) (fun _ => rfl)
  · refine (X_iconst (m := 289) (pc := 32) (n := 0) (by decide +kernel) ).trans ?_
    exact X_ireturn (m := 289) (pc := 33) (f := 1) (by decide +kernel) (by decide +kernel) rfl
theorem B_X11_setPeriod_38 {k : Nat → Nat × Nat} {u : Nat → Nat → Int} {g : Nat → Nat → Nat} {t : Nat × Nat × Nat} {r0 : Nat} {x1 : Int} {v2 : AV} : a_X 289 38 [a_r (r0), a_i (x1), v2] [] (k, u, g, t) = if (k r0).1 = 11 then if ((k (g r0 2)).1 = 20 ∨ (k (g r0 2)).1 = 24) ∧ 0 ≤ (0 : Int) ∧ (0 : Int) < ((k (g r0 2)).2 : Int) then if (k r0).1 = 11 then if (k (g r0 2)).1 = 20 ∧ 0 ≤ (0 : Int) ∧ (0 : Int) < ((k (g r0 2)).2 : Int) then some (.inl (some (a_i (u (g r0 2) (0 : Int).toNat))), (k, (upm u (g r0 2) (0 : Int).toNat x1), g, t)) else none else none else none else none := by
  refine (X_aload_n (m := 289) (pc := 38) (n := 0) (by decide +kernel) rfl).trans ?_
  refine (X_getR (m := 289) (pc := 39) (n := 7) (c := 11) (q := 2) (fi := true) (by decide +kernel) (by decide +kernel)).trans ?_
  refine ite_congr rfl (fun _ => ?_) (fun _ => rfl)
  refine (X_iconst (m := 289) (pc := 42) (n := 0) (by decide +kernel) ).trans ?_
  refine (X_iaload (m := 289) (pc := 43)  (by decide +kernel) ).trans ?_
  refine ite_congr rfl (fun _ => ?_) (fun _ => rfl)
  refine (X_istore_n (m := 289) (pc := 44) (n := 2) (by decide +kernel) rfl (Nat.le_of_ble_eq_true rfl) rfl).trans ?_
  refine (X_aload_n (m := 289) (pc := 45) (n := 0) (by decide +kernel) rfl).trans ?_
  refine (X_getR (m := 289) (pc := 46) (n := 7) (c := 11) (q := 2) (fi := true) (by decide +kernel) (by decide +kernel)).trans ?_
  refine ite_congr rfl (fun _ => ?_) (fun _ => rfl)
  refine (X_iconst (m := 289) (pc := 49) (n := 0) (by decide +kernel) ).trans ?_
  refine (X_iload_n (m := 289) (pc := 50) (n := 1) (by decide +kernel) rfl).trans ?_
  refine (X_iastore (m := 289) (pc := 51)  (by decide +kernel) ).trans ?_
  refine ite_congr rfl (fun _ => ?_) (fun _ => rfl)
  refine (X_iload_n (m := 289) (pc := 52) (n := 2) (by decide +kernel) rfl).trans ?_
  exact X_ireturn (m := 289) (pc := 53) (f := 1) (by decide +kernel) (by decide +kernel) rfl
theorem E_X11_fetch {σ : AS} {r0 : Nat} {x1 : Int} : a_m 290 [a_r (r0), a_i (x1)] σ = a_X 290 0 [a_r (r0), a_i (x1), a_x false, a_x false] [] σ := a_m_eq (by rw [a_entry, show m_maxL 290 = 4 from by decide +kernel]; rfl)
theorem B_X11_fetch_0 {k : Nat → Nat × Nat} {u : Nat → Nat → Int} {g : Nat → Nat → Nat} {t : Nat × Nat × Nat} {r0 : Nat} {x1 : Int} {v2 : AV} {v3 : AV} : a_X 290 0 [a_r (r0), a_i (x1), v2, v3] [] (k, u, g, t) = if (k r0).1 = 11 then (a_m 159 [a_r (r0), a_i (x1)] (k, u, g, t)).bind (a_back 290 2 3 [a_r (r0), a_i (x1), v2, v3] []) else none := by
  refine (X_aload_n (m := 290) (pc := 0) (n := 0) (by decide +kernel) rfl).trans ?_
  refine (X_iload_n (m := 290) (pc := 1) (n := 1) (by decide +kernel) rfl).trans ?_
  refine (X_call_vi (m := 290) (pc := 2) (q := 345) (y := 159) (n := 2) (as := [a_r (r0), a_i (x1)]) (rest := []) (by decide +kernel) (by decide +kernel) (by decide +kernel) (by decide +kernel) rfl rfl (Nat.le_of_ble_eq_true rfl) (Nat.le_of_ble_eq_true rfl) rfl (by rw [show m_maxL 159 = 2 from by decide +kernel]; exact Nat.le_of_ble_eq_true rfl)).trans ?_
  exact ite_congr (by simp [a_rcv, show m_recv 159 = 11 from by decide +kernel]) (fun _ => rfl) (fun _ => rfl)
theorem B_X11_fetch_5 {k : Nat → Nat × Nat} {u : Nat → Nat → Int} {g : Nat → Nat → Nat} {t : Nat × Nat × Nat} {r0 : Nat} {x1 : Int} {v2 : AV} {v3 : AV} {y0 : Int} : a_X 290 5 [a_r (r0), a_i (x1), v2, v3] [a_i (y0)] (k, u, g, t) = if (y0 : Int) = 0 then if (k r0).1 = 11 then (a_m 276 [a_r (r0)] (k, u, g, t)).bind (a_back 290 11 3 [a_r (r0), a_i (x1), v2, v3] []) else none else some (.inl (some (a_i (0))), (k, u, g, t)) := by
  refine (X_if_eq (m := 290) (pc := 5) (off := 5) (tg := 10) (by decide +kernel) (by decide +kernel)).trans ?_
  refine ite_congr rfl (fun _ => ?_) (fun _ => ?_)
  · refine (X_aload_n (m := 290) (pc := 10) (n := 0) (by decide +kernel) rfl).trans ?_
    refine (X_call_vi (m := 290) (pc := 11) (q := 417) (y := 276) (n := 1) (as := [a_r (r0)]) (rest := []) (by decide +kernel) (by decide +kernel) (by decide +kernel) (by decide +kernel) rfl rfl (Nat.le_of_ble_eq_true rfl) (Nat.le_of_ble_eq_true rfl) rfl (by rw [show m_maxL 276 = 2 from by decide +kernel]; exact Nat.le_of_ble_eq_true rfl)).trans ?_
    exact ite_congr (by simp [a_rcv, show m_recv 276 = 11 from by decide +kernel]) (fun _ => rfl) (fun _ => rfl)
  · refine (X_iconst (m := 290) (pc := 8) (n := 0) (by decide +kernel) ).trans ?_
    exact X_ireturn (m := 290) (pc := 9) (f := 1) (by decide +kernel) (by decide +kernel) rfl
theorem B_X11_fetch_14 {k : Nat → Nat × Nat} {u : Nat → Nat → Int} {g : Nat → Nat → Nat} {t : Nat × Nat × Nat} {r0 : Nat} {x1 : Int} {v2 : AV} {v3 : AV} : a_X 290 14 [a_r (r0), a_i (x1), v2, v3] [] (k, u, g, t) = if (k r0).1 = 11 then (a_m 210 [a_r (r0), a_i (x1), a_i (-1)] (k, u, g, t)).bind (a_back 290 17 3 [a_r (r0), a_i (x1), v2, v3] []) else none := by
  refine (X_aload_n (m := 290) (pc := 14) (n := 0) (by decide +kernel) rfl).trans ?_
  refine (X_iload_n (m := 290) (pc := 15) (n := 1) (by decide +kernel) rfl).trans ?_
  refine (X_iconst (m := 290) (pc := 16) (n := -1) (by decide +kernel) ).trans ?_
  refine (X_call_vi (m := 290) (pc := 17) (q := 262) (y := 210) (n := 3) (as := [a_r (r0), a_i (x1), a_i (-1)]) (rest := []) (by decide +kernel) (by decide +kernel) (by decide +kernel) (by decide +kernel) rfl rfl (Nat.le_of_ble_eq_true rfl) (Nat.le_of_ble_eq_true rfl) rfl (by rw [show m_maxL 210 = 5 from by decide +kernel]; exact Nat.le_of_ble_eq_true rfl)).trans ?_
  exact ite_congr (by simp [a_rcv, show m_recv 210 = 11 from by decide +kernel]) (fun _ => rfl) (fun _ => rfl)
theorem B_X11_fetch_20 {k : Nat → Nat × Nat} {u : Nat → Nat → Int} {g : Nat → Nat → Nat} {t : Nat × Nat × Nat} {r0 : Nat} {x1 : Int} {v2 : AV} {v3 : AV} {y0 : Int} : a_X 290 20 [a_r (r0), a_i (x1), v2, v3] [a_i (y0)] (k, u, g, t) = a_X 290 23 [a_r (r0), a_i (x1), a_i (y0), a_i (0)] [] (k, u, g, t) := by
  refine (X_istore_n (m := 290) (pc := 20) (n := 2) (by decide +kernel) rfl (Nat.le_of_ble_eq_true rfl) rfl).trans ?_
  refine (X_iconst (m := 290) (pc := 21) (n := 0) (by decide +kernel) ).trans ?_
  refine (X_istore_n (m := 290) (pc := 22) (n := 3) (by decide +kernel) rfl (Nat.le_of_ble_eq_true rfl) rfl).trans ?_
  rfl
theorem B_X11_fetch_23 {k : Nat → Nat × Nat} {u : Nat → Nat → Int} {g : Nat → Nat → Nat} {t : Nat × Nat × Nat} {r0 : Nat} {x1 : Int} {x2 : Int} {x3 : Int} : a_X 290 23 [a_r (r0), a_i (x1), a_i (x2), a_i (x3)] [] (k, u, g, t) = if (x3 : Int) ≥ (12 : Int) then if (k r0).1 = 11 then if ((k (g r0 2)).1 = 20 ∨ (k (g r0 2)).1 = 24) ∧ 0 ≤ (2 : Int) ∧ (2 : Int) < ((k (g r0 2)).2 : Int) then if (k r0).1 = 11 then (a_m 166 [a_r (r0), a_i (x1), a_i (10)] (k, u, g, t)).bind (a_back 290 63 3 [a_r (r0), a_i (x1), a_i (x2), a_i (x3)] [a_i (u (g r0 2) (2 : Int).toNat), a_i (10), a_i (x1), a_r (r0)]) else none else none else none else (a_m 164 [a_i (-1), a_i (x3)] (k, u, g, t)).bind (a_back 290 32 3 [a_r (r0), a_i (x1), a_i (x2), a_i (x3)] [a_r (r0)]) := by
  refine (X_iload_n (m := 290) (pc := 23) (n := 3) (by decide +kernel) rfl).trans ?_
  refine (X_bipush (m := 290) (pc := 24) (n := 12) (by decide +kernel) ).trans ?_
  refine (X_ic_ge (m := 290) (pc := 26) (off := 23) (tg := 49) (by decide +kernel) (by decide +kernel)).trans ?_
  refine ite_congr rfl (fun _ => ?_) (fun _ => ?_)
  · refine (X_aload_n (m := 290) (pc := 49) (n := 0) (by decide +kernel) rfl).trans ?_
    refine (X_iload_n (m := 290) (pc := 50) (n := 1) (by decide +kernel) rfl).trans ?_
    refine (X_bipush (m := 290) (pc := 51) (n := 10) (by decide +kernel) ).trans ?_
    refine (X_aload_n (m := 290) (pc := 53) (n := 0) (by decide +kernel) rfl).trans ?_
    refine (X_getR (m := 290) (pc := 54) (n := 7) (c := 11) (q := 2) (fi := true) (by decide +kernel) (by decide +kernel)).trans ?_
    refine ite_congr rfl (fun _ => ?_) (fun _ => rfl)
    refine (X_iconst (m := 290) (pc := 57) (n := 2) (by decide +kernel) ).trans ?_
    refine (X_iaload (m := 290) (pc := 58)  (by decide +kernel) ).trans ?_
    refine ite_congr rfl (fun _ => ?_) (fun _ => rfl)
    refine (X_aload_n (m := 290) (pc := 59) (n := 0) (by decide +kernel) rfl).trans ?_
    refine (X_iload_n (m := 290) (pc := 60) (n := 1) (by decide +kernel) rfl).trans ?_
    refine (X_bipush (m := 290) (pc := 61) (n := 10) (by decide +kernel) ).trans ?_
    refine (X_call_vi (m := 290) (pc := 63) (q := 79) (y := 166) (n := 3) (as := [a_r (r0), a_i (x1), a_i (10)]) (rest := [a_i (u (g r0 2) (2 : Int).toNat), a_i (10), a_i (x1), a_r (r0)]) (by decide +kernel) (by decide +kernel) (by decide +kernel) (by decide +kernel) rfl rfl (Nat.le_of_ble_eq_true rfl) (Nat.le_of_ble_eq_true rfl) rfl (by rw [show m_maxL 166 = 3 from by decide +kernel]; exact Nat.le_of_ble_eq_true rfl)).trans ?_
    exact ite_congr (by simp [a_rcv, show m_recv 166 = 11 from by decide +kernel]) (fun _ => rfl) (fun _ => rfl)
  · refine (X_aload_n (m := 290) (pc := 29) (n := 0) (by decide +kernel) rfl).trans ?_
    refine (X_iconst (m := 290) (pc := 30) (n := -1) (by decide +kernel) ).trans ?_
    refine (X_iload_n (m := 290) (pc := 31) (n := 3) (by decide +kernel) rfl).trans ?_
    refine (X_call_st (m := 290) (pc := 32) (q := 71) (y := 164) (n := 2) (as := [a_i (-1), a_i (x3)]) (rest := [a_r (r0)]) (by decide +kernel) (by decide +kernel) (by decide +kernel) (by decide +kernel) rfl rfl (Nat.le_of_ble_eq_true rfl) (Nat.le_of_ble_eq_true rfl) rfl (by rw [show m_maxL 164 = 2 from by decide +kernel]; exact Nat.le_of_ble_eq_true rfl)).trans ?_
    exact if_pos rfl
theorem B_X11_fetch_66 {k : Nat → Nat × Nat} {u : Nat → Nat → Int} {g : Nat → Nat → Nat} {t : Nat × Nat × Nat} {r0 : Nat} {x1 : Int} {x2 : Int} {x3 : Int} {q0 : Nat} {y1 : Int} {y2 : Int} {y3 : Int} {y4 : Int} : a_X 290 66 [a_r (r0), a_i (x1), a_i (x2), a_i (x3)] [a_i (y4), a_i (y3), a_i (y2), a_i (y1), a_r (q0)] (k, u, g, t) = if (k q0).1 = 11 then (a_m 167 [a_r (q0), a_i (y1), a_i (y2), a_i (max (y3) (y4))] (k, u, g, t)).bind (a_back 290 69 3 [a_r (r0), a_i (x1), a_i (x2), a_i (x3)] []) else none := by
  refine (X_max (m := 290) (pc := 66) (q := 211) (by decide +kernel) (by decide +kernel) (Nat.le_of_ble_eq_true rfl)).trans ?_
  refine (X_call_vi (m := 290) (pc := 69) (q := 149) (y := 167) (n := 4) (as := [a_r (q0), a_i (y1), a_i (y2), a_i (max (y3) (y4))]) (rest := []) (by decide +kernel) (by decide +kernel) (by decide +kernel) (by decide +kernel) rfl rfl (Nat.le_of_ble_eq_true rfl) (Nat.le_of_ble_eq_true rfl) rfl (by rw [show m_maxL 167 = 4 from by decide +kernel]; exact Nat.le_of_ble_eq_true rfl)).trans ?_
  exact ite_congr (by simp [a_rcv, show m_recv 167 = 11 from by decide +kernel]) (fun _ => rfl) (fun _ => rfl)
theorem B_X11_fetch_35 {k : Nat → Nat × Nat} {u : Nat → Nat → Int} {g : Nat → Nat → Nat} {t : Nat × Nat × Nat} {r0 : Nat} {x1 : Int} {x2 : Int} {x3 : Int} {q0 : Nat} {y1 : Int} : a_X 290 35 [a_r (r0), a_i (x1), a_i (x2), a_i (x3)] [a_i (y1), a_r (q0)] (k, u, g, t) = (a_m 164 [a_i (x1), a_i (x3)] (k, u, g, t)).bind (a_back 290 37 3 [a_r (r0), a_i (x1), a_i (x2), a_i (x3)] [a_i (y1), a_r (q0)]) := by
  refine (X_iload_n (m := 290) (pc := 35) (n := 1) (by decide +kernel) rfl).trans ?_
  refine (X_iload_n (m := 290) (pc := 36) (n := 3) (by decide +kernel) rfl).trans ?_
  refine (X_call_st (m := 290) (pc := 37) (q := 71) (y := 164) (n := 2) (as := [a_i (x1), a_i (x3)]) (rest := [a_i (y1), a_r (q0)]) (by decide +kernel) (by decide +kernel) (by decide +kernel) (by decide +kernel) rfl rfl (Nat.le_of_ble_eq_true rfl) (Nat.le_of_ble_eq_true rfl) rfl (by rw [show m_maxL 164 = 2 from by decide +kernel]; exact Nat.le_of_ble_eq_true rfl)).trans ?_
  exact if_pos rfl
theorem B_X11_fetch_72 {k : Nat → Nat × Nat} {u : Nat → Nat → Int} {g : Nat → Nat → Nat} {t : Nat × Nat × Nat} {r0 : Nat} {x1 : Int} {x2 : Int} {x3 : Int} : a_X 290 72 [a_r (r0), a_i (x1), a_i (x2), a_i (x3)] [] (k, u, g, t) = some (.inl (some (a_i (x2))), (k, u, g, t)) := by
  refine (X_iload_n (m := 290) (pc := 72) (n := 2) (by decide +kernel) rfl).trans ?_
  exact X_ireturn (m := 290) (pc := 73) (f := 1) (by decide +kernel) (by decide +kernel) rfl
theorem B_X11_fetch_40 {k : Nat → Nat × Nat} {u : Nat → Nat → Int} {g : Nat → Nat → Nat} {t : Nat × Nat × Nat} {r0 : Nat} {x1 : Int} {x2 : Int} {x3 : Int} {q0 : Nat} {y1 : Int} {y2 : Int} : a_X 290 40 [a_r (r0), a_i (x1), a_i (x2), a_i (x3)] [a_i (y2), a_i (y1), a_r (q0)] (k, u, g, t) = if (k q0).1 = 11 then (a_m 174 [a_r (q0), a_i (y1), a_i (y2)] (k, u, g, t)).bind (a_back 290 40 3 [a_r (r0), a_i (x1), a_i (x2), a_i (x3)] []) else none := by
  refine (X_call_vi (m := 290) (pc := 40) (q := 224) (y := 174) (n := 3) (as := [a_r (q0), a_i (y1), a_i (y2)]) (rest := []) (by decide +kernel) (by decide +kernel) (by decide +kernel) (by decide +kernel) rfl rfl (Nat.le_of_ble_eq_true rfl) (Nat.le_of_ble_eq_true rfl) rfl (by rw [show m_maxL 174 = 4 from by decide +kernel]; exact Nat.le_of_ble_eq_true rfl)).trans ?_
  exact ite_congr (by simp [a_rcv, show m_recv 174 = 11 from by decide +kernel]) (fun _ => rfl) (fun _ => rfl)
theorem B_X11_fetch_43 {k : Nat → Nat × Nat} {u : Nat → Nat → Int} {g : Nat → Nat → Nat} {t : Nat × Nat × Nat} {r0 : Nat} {x1 : Int} {x2 : Int} {x3 : Int} : a_X 290 43 [a_r (r0), a_i (x1), a_i (x2), a_i (x3)] [] (k, u, g, t) = a_X 290 23 [a_r (r0), a_i (x1), a_i (x2), a_i (wr (x3 + 1))] [] (k, u, g, t) := by
  refine (X_iinc (m := 290) (pc := 43) (n := 3) (c := 1) (by decide +kernel) rfl rfl (Nat.le_of_ble_eq_true rfl) rfl).trans ?_
  refine (X_goto (m := 290) (pc := 46) (off := -23) (tg := 23) (by decide +kernel) (by decide +kernel)).trans ?_
  rfl
theorem E_X11_undo {σ : AS} {r0 : Nat} : a_m 291 [a_r (r0)] σ = a_X 291 0 [a_r (r0)] [] σ := a_m_eq (by rw [a_entry, show m_maxL 291 = 1 from by decide +kernel]; rfl)
theorem B_X11_undo_0 {k : Nat → Nat × Nat} {u : Nat → Nat → Int} {g : Nat → Nat → Nat} {t : Nat × Nat × Nat} {r0 : Nat} : a_X 291 0 [a_r (r0)] [] (k, u, g, t) = if (k r0).1 = 11 then if (k r0).1 = 11 then if ((upm u r0 0 0) r0 4 : Int) ≠ 0 then if (k r0).1 = 11 then (a_m 157 [a_r (r0), a_i (0), a_i (1)] (k, (upm u r0 0 0), g, t)).bind (a_back 291 19 3 [a_r (r0)] []) else none else if (k r0).1 = 11 then (a_m 157 [a_r (r0), a_i (1), a_i (1)] (k, (upm u r0 0 0), g, t)).bind (a_back 291 19 3 [a_r (r0)] []) else none else none else none := by
  refine (X_aload_n (m := 291) (pc := 0) (n := 0) (by decide +kernel) rfl).trans ?_
  refine (X_iconst (m := 291) (pc := 1) (n := 0) (by decide +kernel) ).trans ?_
  refine (X_putI (m := 291) (pc := 2) (n := 46) (c := 11) (q := 0) (fi := false) (by decide +kernel) (by decide +kernel) (fun h => by cases h) (by decide +kernel)).trans ?_
  refine ite_congr rfl (fun _ => ?_) (fun _ => rfl)
  refine (X_aload_n (m := 291) (pc := 5) (n := 0) (by decide +kernel) rfl).trans ?_
  refine (X_aload_n (m := 291) (pc := 6) (n := 0) (by decide +kernel) rfl).trans ?_
  refine (X_getI (m := 291) (pc := 7) (n := 178) (c := 11) (q := 4) (ty := 1) (fi := false) (by decide +kernel) (by decide +kernel) (by decide +kernel)).trans ?_
  refine ite_congr rfl (fun _ => ?_) (fun _ => rfl)
  refine (X_if_ne (m := 291) (pc := 10) (off := 7) (tg := 17) (by decide +kernel) (by decide +kernel)).trans ?_
  refine ite_congr rfl (fun _ => ?_) (fun _ => ?_)
  · refine (X_iconst (m := 291) (pc := 17) (n := 0) (by decide +kernel) ).trans ?_
    refine (X_iconst (m := 291) (pc := 18) (n := 1) (by decide +kernel) ).trans ?_
    refine (X_call_vi (m := 291) (pc := 19) (q := 53) (y := 157) (n := 3) (as := [a_r (r0), a_i (0), a_i (1)]) (rest := []) (by decide +kernel) (by decide +kernel) (by decide +kernel) (by decide +kernel) rfl rfl (Nat.le_of_ble_eq_true rfl) (Nat.le_of_ble_eq_true rfl) rfl (by rw [show m_maxL 157 = 3 from by decide +kernel]; exact Nat.le_of_ble_eq_true rfl)).trans ?_
    exact ite_congr (by simp [a_rcv, show m_recv 157 = 11 from by decide +kernel]) (fun _ => rfl) (fun _ => rfl)
  · refine (X_iconst (m := 291) (pc := 13) (n := 1) (by decide +kernel) ).trans ?_
    refine (X_goto (m := 291) (pc := 14) (off := 4) (tg := 18) (by decide +kernel) (by decide +kernel)).trans ?_
    refine (X_iconst (m := 291) (pc := 18) (n := 1) (by decide +kernel) ).trans ?_
    refine (X_call_vi (m := 291) (pc := 19) (q := 53) (y := 157) (n := 3) (as := [a_r (r0), a_i (1), a_i (1)]) (rest := []) (by decide +kernel) (by decide +kernel) (by decide +kernel) (by decide +kernel) rfl rfl (Nat.le_of_ble_eq_true rfl) (Nat.le_of_ble_eq_true rfl) rfl (by rw [show m_maxL 157 = 3 from by decide +kernel]; exact Nat.le_of_ble_eq_true rfl)).trans ?_
    exact ite_congr (by simp [a_rcv, show m_recv 157 = 11 from by decide +kernel]) (fun _ => rfl) (fun _ => rfl)
theorem B_X11_undo_22 {k : Nat → Nat × Nat} {u : Nat → Nat → Int} {g : Nat → Nat → Nat} {t : Nat × Nat × Nat} {r0 : Nat} {y0 : Int} : a_X 291 22 [a_r (r0)] [a_i (y0)] (k, u, g, t) = if (y0 : Int) = 0 then if (k r0).1 = 11 then if (k r0).1 = 11 then if (k r0).1 = 11 then if (k r0).1 = 11 then if (k r0).1 = 11 then (a_m 163 [a_r (g r0 3), a_i (wr (3280 * (wr (0 + ((upm u r0 4 (wr ((u r0 4) - 1))) r0 4))))), a_r (g r0 2), a_i (0)] (k, (upm u r0 4 (wr ((u r0 4) - 1))), g, t)).bind (a_back 291 56 3 [a_r (r0)] []) else none else none else none else none else none else some (.inl (some (a_i (0))), (k, u, g, t)) := by
  refine (X_if_eq (m := 291) (pc := 22) (off := 5) (tg := 27) (by decide +kernel) (by decide +kernel)).trans ?_
  refine ite_congr rfl (fun _ => ?_) (fun _ => ?_)
  · refine (X_aload_n (m := 291) (pc := 27) (n := 0) (by decide +kernel) rfl).trans ?_
    refine (X_dup (m := 291) (pc := 28)  (by decide +kernel) rfl rfl).trans ?_
    refine (X_getI (m := 291) (pc := 29) (n := 178) (c := 11) (q := 4) (ty := 1) (fi := false) (by decide +kernel) (by decide +kernel) (by decide +kernel)).trans ?_
    refine ite_congr rfl (fun _ => ?_) (fun _ => rfl)
    refine (X_iconst (m := 291) (pc := 32) (n := 1) (by decide +kernel) ).trans ?_
    refine (X_isub (m := 291) (pc := 33)  (by decide +kernel) ).trans ?_
    refine (X_putI (m := 291) (pc := 34) (n := 178) (c := 11) (q := 4) (fi := false) (by decide +kernel) (by decide +kernel) (fun h => by cases h) (by decide +kernel)).trans ?_
    refine ite_congr rfl (fun _ => ?_) (fun _ => rfl)
    refine (X_aload_n (m := 291) (pc := 37) (n := 0) (by decide +kernel) rfl).trans ?_
    refine (X_getR (m := 291) (pc := 38) (n := 14) (c := 11) (q := 3) (fi := true) (by decide +kernel) (by decide +kernel)).trans ?_
    refine ite_congr rfl (fun _ => ?_) (fun _ => rfl)
    refine (X_sipush (m := 291) (pc := 41) (n := 3280) (by decide +kernel) ).trans ?_
    refine (X_iconst (m := 291) (pc := 44) (n := 0) (by decide +kernel) ).trans ?_
    refine (X_aload_n (m := 291) (pc := 45) (n := 0) (by decide +kernel) rfl).trans ?_
    refine (X_getI (m := 291) (pc := 46) (n := 178) (c := 11) (q := 4) (ty := 1) (fi := false) (by decide +kernel) (by decide +kernel) (by decide +kernel)).trans ?_
    refine ite_congr rfl (fun _ => ?_) (fun _ => rfl)
    refine (X_iadd (m := 291) (pc := 49)  (by decide +kernel) ).trans ?_
    refine (X_imul (m := 291) (pc := 50)  (by decide +kernel) ).trans ?_
    refine (X_aload_n (m := 291) (pc := 51) (n := 0) (by decide +kernel) rfl).trans ?_
    refine (X_getR (m := 291) (pc := 52) (n := 7) (c := 11) (q := 2) (fi := true) (by decide +kernel) (by decide +kernel)).trans ?_
    refine ite_congr rfl (fun _ => ?_) (fun _ => rfl)
    refine (X_iconst (m := 291) (pc := 55) (n := 0) (by decide +kernel) ).trans ?_
    refine (X_call_st (m := 291) (pc := 56) (q := 171) (y := 163) (n := 4) (as := [a_r (g r0 3), a_i (wr (3280 * (wr (0 + ((upm u r0 4 (wr ((u r0 4) - 1))) r0 4))))), a_r (g r0 2), a_i (0)]) (rest := []) (by decide +kernel) (by decide +kernel) (by decide +kernel) (by decide +kernel) rfl rfl (Nat.le_of_ble_eq_true rfl) (Nat.le_of_ble_eq_true rfl) rfl (by rw [show m_maxL 163 = 5 from by decide +kernel]; exact Nat.le_of_ble_eq_true rfl)).trans ?_
    exact if_pos rfl
  · refine (X_iconst (m := 291) (pc := 25) (n := 0) (by decide +kernel) ).trans ?_
    exact X_ireturn (m := 291) (pc := 26) (f := 1) (by decide +kernel) (by decide +kernel) rfl
theorem B_X11_undo_59 {k : Nat → Nat × Nat} {u : Nat → Nat → Int} {g : Nat → Nat → Nat} {t : Nat × Nat × Nat} {r0 : Nat} : a_X 291 59 [a_r (r0)] [] (k, u, g, t) = if (k r0).1 = 11 then some (.inl (some (a_i (u r0 4))), (k, u, g, t)) else none := by
  refine (X_aload_n (m := 291) (pc := 59) (n := 0) (by decide +kernel) rfl).trans ?_
  refine (X_getI (m := 291) (pc := 60) (n := 178) (c := 11) (q := 4) (ty := 1) (fi := false) (by decide +kernel) (by decide +kernel) (by decide +kernel)).trans ?_
  refine ite_congr rfl (fun _ => ?_) (fun _ => rfl)
  exact X_ireturn (m := 291) (pc := 63) (f := 1) (by decide +kernel) (by decide +kernel) rfl
theorem E_X11_undoable {σ : AS} {r0 : Nat} : a_m 292 [a_r (r0)] σ = a_X 292 0 [a_r (r0)] [] σ := a_m_eq (by rw [a_entry, show m_maxL 292 = 1 from by decide +kernel]; rfl)
theorem B_X11_undoable_0 {k : Nat → Nat × Nat} {u : Nat → Nat → Int} {g : Nat → Nat → Nat} {t : Nat × Nat × Nat} {r0 : Nat} : a_X 292 0 [a_r (r0)] [] (k, u, g, t) = if (k r0).1 = 11 then if (k r0).1 = 11 then some (.inl (some (a_i ((upm u r0 0 0) r0 4))), (k, (upm u r0 0 0), g, t)) else none else none := by
  refine (X_aload_n (m := 292) (pc := 0) (n := 0) (by decide +kernel) rfl).trans ?_
  refine (X_iconst (m := 292) (pc := 1) (n := 0) (by decide +kernel) ).trans ?_
  refine (X_putI (m := 292) (pc := 2) (n := 46) (c := 11) (q := 0) (fi := false) (by decide +kernel) (by decide +kernel) (fun h => by cases h) (by decide +kernel)).trans ?_
  refine ite_congr rfl (fun _ => ?_) (fun _ => rfl)
  refine (X_aload_n (m := 292) (pc := 5) (n := 0) (by decide +kernel) rfl).trans ?_
  refine (X_getI (m := 292) (pc := 6) (n := 178) (c := 11) (q := 4) (ty := 1) (fi := false) (by decide +kernel) (by decide +kernel) (by decide +kernel)).trans ?_
  refine ite_congr rfl (fun _ => ?_) (fun _ => rfl)
  exact X_ireturn (m := 292) (pc := 9) (f := 1) (by decide +kernel) (by decide +kernel) rfl
theorem E_X11_save {σ : AS} {r0 : Nat} {x1 : Int} : a_m 293 [a_r (r0), a_i (x1)] σ = a_X 293 0 [a_r (r0), a_i (x1)] [] σ := a_m_eq (by rw [a_entry, show m_maxL 293 = 2 from by decide +kernel]; rfl)
theorem B_X11_save_0 {k : Nat → Nat × Nat} {u : Nat → Nat → Int} {g : Nat → Nat → Nat} {t : Nat × Nat × Nat} {r0 : Nat} {x1 : Int} : a_X 293 0 [a_r (r0), a_i (x1)] [] (k, u, g, t) = if (k r0).1 = 11 then (a_m 158 [a_r (r0)] (k, u, g, t)).bind (a_back 293 1 3 [a_r (r0), a_i (x1)] []) else none := by
  refine (X_aload_n (m := 293) (pc := 0) (n := 0) (by decide +kernel) rfl).trans ?_
  refine (X_call_vi (m := 293) (pc := 1) (q := 57) (y := 158) (n := 1) (as := [a_r (r0)]) (rest := []) (by decide +kernel) (by decide +kernel) (by decide +kernel) (by decide +kernel) rfl rfl (Nat.le_of_ble_eq_true rfl) (Nat.le_of_ble_eq_true rfl) rfl (by rw [show m_maxL 158 = 1 from by decide +kernel]; exact Nat.le_of_ble_eq_true rfl)).trans ?_
  exact ite_congr (by simp [a_rcv, show m_recv 158 = 11 from by decide +kernel]) (fun _ => rfl) (fun _ => rfl)
theorem B_X11_save_4 {k : Nat → Nat × Nat} {u : Nat → Nat → Int} {g : Nat → Nat → Nat} {t : Nat × Nat × Nat} {r0 : Nat} {x1 : Int} {y0 : Int} : a_X 293 4 [a_r (r0), a_i (x1)] [a_i (y0)] (k, u, g, t) = if (y0 : Int) ≠ 0 then some (.inl (some (a_i (0))), (k, u, g, t)) else (a_m 155 [a_l (x1), a_l (0), a_l (1)] (k, u, g, t)).bind (a_back 293 12 3 [a_r (r0), a_i (x1)] [a_r (r0)]) := by
  refine (X_if_ne (m := 293) (pc := 4) (off := 26) (tg := 30) (by decide +kernel) (by decide +kernel)).trans ?_
  refine ite_congr rfl (fun _ => ?_) (fun _ => ?_)
  · refine (X_iconst (m := 293) (pc := 30) (n := 0) (by decide +kernel) ).trans ?_
    exact X_ireturn (m := 293) (pc := 31) (f := 1) (by decide +kernel) (by decide +kernel) rfl
  · refine (X_aload_n (m := 293) (pc := 7) (n := 0) (by decide +kernel) rfl).trans ?_
    refine (X_iload_n (m := 293) (pc := 8) (n := 1) (by decide +kernel) rfl).trans ?_
    refine (X_i2l (m := 293) (pc := 9)  (by decide +kernel) ).trans ?_
    refine (X_lconst (m := 293) (pc := 10) (n := 0) (by decide +kernel) ).trans ?_
    refine (X_lconst (m := 293) (pc := 11) (n := 1) (by decide +kernel) ).trans ?_
    refine (X_call_st (m := 293) (pc := 12) (q := 61) (y := 155) (n := 3) (as := [a_l (x1), a_l (0), a_l (1)]) (rest := [a_r (r0)]) (by decide +kernel) (by decide +kernel) (by decide +kernel) (by decide +kernel) rfl rfl (Nat.le_of_ble_eq_true rfl) (Nat.le_of_ble_eq_true rfl) rfl (by rw [show m_maxL 155 = 6 from by decide +kernel]; exact Nat.le_of_ble_eq_true rfl)).trans ?_
    exact if_pos rfl
theorem B_X11_save_15 {k : Nat → Nat × Nat} {u : Nat → Nat → Int} {g : Nat → Nat → Nat} {t : Nat × Nat × Nat} {r0 : Nat} {x1 : Int} {q0 : Nat} {y1 : Int} : a_X 293 15 [a_r (r0), a_i (x1)] [a_i (y1), a_r (q0)] (k, u, g, t) = if (y1 : Int) ≠ 0 then if (k q0).1 = 11 then (a_m 157 [a_r (q0), a_i (0), a_i (2)] (k, u, g, t)).bind (a_back 293 24 3 [a_r (r0), a_i (x1)] []) else none else if (k q0).1 = 11 then (a_m 157 [a_r (q0), a_i (1), a_i (2)] (k, u, g, t)).bind (a_back 293 24 3 [a_r (r0), a_i (x1)] []) else none := by
  refine (X_if_ne (m := 293) (pc := 15) (off := 7) (tg := 22) (by decide +kernel) (by decide +kernel)).trans ?_
  refine ite_congr rfl (fun _ => ?_) (fun _ => ?_)
  · refine (X_iconst (m := 293) (pc := 22) (n := 0) (by decide +kernel) ).trans ?_
    refine (X_iconst (m := 293) (pc := 23) (n := 2) (by decide +kernel) ).trans ?_
    refine (X_call_vi (m := 293) (pc := 24) (q := 53) (y := 157) (n := 3) (as := [a_r (q0), a_i (0), a_i (2)]) (rest := []) (by decide +kernel) (by decide +kernel) (by decide +kernel) (by decide +kernel) rfl rfl (Nat.le_of_ble_eq_true rfl) (Nat.le_of_ble_eq_true rfl) rfl (by rw [show m_maxL 157 = 3 from by decide +kernel]; exact Nat.le_of_ble_eq_true rfl)).trans ?_
    exact ite_congr (by simp [a_rcv, show m_recv 157 = 11 from by decide +kernel]) (fun _ => rfl) (fun _ => rfl)
  · refine (X_iconst (m := 293) (pc := 18) (n := 1) (by decide +kernel) ).trans ?_
    refine (X_goto (m := 293) (pc := 19) (off := 4) (tg := 23) (by decide +kernel) (by decide +kernel)).trans ?_
    refine (X_iconst (m := 293) (pc := 23) (n := 2) (by decide +kernel) ).trans ?_
    refine (X_call_vi (m := 293) (pc := 24) (q := 53) (y := 157) (n := 3) (as := [a_r (q0), a_i (1), a_i (2)]) (rest := []) (by decide +kernel) (by decide +kernel) (by decide +kernel) (by decide +kernel) rfl rfl (Nat.le_of_ble_eq_true rfl) (Nat.le_of_ble_eq_true rfl) rfl (by rw [show m_maxL 157 = 3 from by decide +kernel]; exact Nat.le_of_ble_eq_true rfl)).trans ?_
    exact ite_congr (by simp [a_rcv, show m_recv 157 = 11 from by decide +kernel]) (fun _ => rfl) (fun _ => rfl)
theorem B_X11_save_27 {k : Nat → Nat × Nat} {u : Nat → Nat → Int} {g : Nat → Nat → Nat} {t : Nat × Nat × Nat} {r0 : Nat} {x1 : Int} {y0 : Int} : a_X 293 27 [a_r (r0), a_i (x1)] [a_i (y0)] (k, u, g, t) = if (y0 : Int) = 0 then if (k r0).1 = 11 then if (k r0).1 = 11 then (a_m 163 [a_r (g r0 2), a_i (0), a_r (g r0 3), a_i (wr (3280 * (wr (8 + x1))))] (k, u, g, t)).bind (a_back 293 49 3 [a_r (r0), a_i (x1)] []) else none else none else some (.inl (some (a_i (0))), (k, u, g, t)) := by
  refine (X_if_eq (m := 293) (pc := 27) (off := 5) (tg := 32) (by decide +kernel) (by decide +kernel)).trans ?_
  refine ite_congr rfl (fun _ => ?_) (fun _ => ?_)
  · refine (X_aload_n (m := 293) (pc := 32) (n := 0) (by decide +kernel) rfl).trans ?_
    refine (X_getR (m := 293) (pc := 33) (n := 7) (c := 11) (q := 2) (fi := true) (by decide +kernel) (by decide +kernel)).trans ?_
    refine ite_congr rfl (fun _ => ?_) (fun _ => rfl)
    refine (X_iconst (m := 293) (pc := 36) (n := 0) (by decide +kernel) ).trans ?_
    refine (X_aload_n (m := 293) (pc := 37) (n := 0) (by decide +kernel) rfl).trans ?_
    refine (X_getR (m := 293) (pc := 38) (n := 14) (c := 11) (q := 3) (fi := true) (by decide +kernel) (by decide +kernel)).trans ?_
    refine ite_congr rfl (fun _ => ?_) (fun _ => rfl)
    refine (X_sipush (m := 293) (pc := 41) (n := 3280) (by decide +kernel) ).trans ?_
    refine (X_bipush (m := 293) (pc := 44) (n := 8) (by decide +kernel) ).trans ?_
    refine (X_iload_n (m := 293) (pc := 46) (n := 1) (by decide +kernel) rfl).trans ?_
    refine (X_iadd (m := 293) (pc := 47)  (by decide +kernel) ).trans ?_
    refine (X_imul (m := 293) (pc := 48)  (by decide +kernel) ).trans ?_
    refine (X_call_st (m := 293) (pc := 49) (q := 171) (y := 163) (n := 4) (as := [a_r (g r0 2), a_i (0), a_r (g r0 3), a_i (wr (3280 * (wr (8 + x1))))]) (rest := []) (by decide +kernel) (by decide +kernel) (by decide +kernel) (by decide +kernel) rfl rfl (Nat.le_of_ble_eq_true rfl) (Nat.le_of_ble_eq_true rfl) rfl (by rw [show m_maxL 163 = 5 from by decide +kernel]; exact Nat.le_of_ble_eq_true rfl)).trans ?_
    exact if_pos rfl
  · refine (X_iconst (m := 293) (pc := 30) (n := 0) (by decide +kernel) ).trans ?_
    exact X_ireturn (m := 293) (pc := 31) (f := 1) (by decide +kernel) (by decide +kernel) rfl
theorem B_X11_save_52 {k : Nat → Nat × Nat} {u : Nat → Nat → Int} {g : Nat → Nat → Nat} {t : Nat × Nat × Nat} {r0 : Nat} {x1 : Int} : a_X 293 52 [a_r (r0), a_i (x1)] [] (k, u, g, t) = if (k r0).1 = 11 then if (k (g r0 5)).1 = 21 ∧ (0 ≤ (x1 : Int) ∧ (x1 : Int) < ((k (g r0 5)).2 : Int)) ∧ ((1 : Int) = 0 ∨ (1 : Int) = 1) then if (k r0).1 = 11 then if ((k (g r0 2)).1 = 20 ∨ (k (g r0 2)).1 = 24) ∧ 0 ≤ (1 : Int) ∧ (1 : Int) < ((k (g r0 2)).2 : Int) then some (.inl (some (a_i ((upm u (g r0 5) (x1 : Int).toNat 1) (g r0 2) (1 : Int).toNat))), (k, (upm u (g r0 5) (x1 : Int).toNat 1), g, t)) else none else none else none else none := by
  refine (X_aload_n (m := 293) (pc := 52) (n := 0) (by decide +kernel) rfl).trans ?_
  refine (X_getR (m := 293) (pc := 53) (n := 17) (c := 11) (q := 5) (fi := true) (by decide +kernel) (by decide +kernel)).trans ?_
  refine ite_congr rfl (fun _ => ?_) (fun _ => rfl)
  refine (X_iload_n (m := 293) (pc := 56) (n := 1) (by decide +kernel) rfl).trans ?_
  refine (X_iconst (m := 293) (pc := 57) (n := 1) (by decide +kernel) ).trans ?_
  refine (X_bastore (m := 293) (pc := 58)  (by decide +kernel) ).trans ?_
  refine ite_congr rfl (fun _ => ?_) (fun _ => rfl)
  refine (X_aload_n (m := 293) (pc := 59) (n := 0) (by decide +kernel) rfl).trans ?_
  refine (X_getR (m := 293) (pc := 60) (n := 7) (c := 11) (q := 2) (fi := true) (by decide +kernel) (by decide +kernel)).trans ?_
  refine ite_congr rfl (fun _ => ?_) (fun _ => rfl)
  refine (X_iconst (m := 293) (pc := 63) (n := 1) (by decide +kernel) ).trans ?_
  refine (X_iaload (m := 293) (pc := 64)  (by decide +kernel) ).trans ?_
  refine ite_congr rfl (fun _ => ?_) (fun _ => rfl)
  exact X_ireturn (m := 293) (pc := 65) (f := 1) (by decide +kernel) (by decide +kernel) rfl
theorem E_X11_restore {σ : AS} {r0 : Nat} {x1 : Int} : a_m 294 [a_r (r0), a_i (x1)] σ = a_X 294 0 [a_r (r0), a_i (x1)] [] σ := a_m_eq (by rw [a_entry, show m_maxL 294 = 2 from by decide +kernel]; rfl)
theorem B_X11_restore_0 {k : Nat → Nat × Nat} {u : Nat → Nat → Int} {g : Nat → Nat → Nat} {t : Nat × Nat × Nat} {r0 : Nat} {x1 : Int} : a_X 294 0 [a_r (r0), a_i (x1)] [] (k, u, g, t) = if (k r0).1 = 11 then (a_m 155 [a_l (x1), a_l (0), a_l (1)] (k, (upm u r0 0 0), g, t)).bind (a_back 294 10 3 [a_r (r0), a_i (x1)] [a_r (r0)]) else none := by
  refine (X_aload_n (m := 294) (pc := 0) (n := 0) (by decide +kernel) rfl).trans ?_
  refine (X_iconst (m := 294) (pc := 1) (n := 0) (by decide +kernel) ).trans ?_
  refine (X_putI (m := 294) (pc := 2) (n := 46) (c := 11) (q := 0) (fi := false) (by decide +kernel) (by decide +kernel) (fun h => by cases h) (by decide +kernel)).trans ?_
  refine ite_congr rfl (fun _ => ?_) (fun _ => rfl)
  refine (X_aload_n (m := 294) (pc := 5) (n := 0) (by decide +kernel) rfl).trans ?_
  refine (X_iload_n (m := 294) (pc := 6) (n := 1) (by decide +kernel) rfl).trans ?_
  refine (X_i2l (m := 294) (pc := 7)  (by decide +kernel) ).trans ?_
  refine (X_lconst (m := 294) (pc := 8) (n := 0) (by decide +kernel) ).trans ?_
  refine (X_lconst (m := 294) (pc := 9) (n := 1) (by decide +kernel) ).trans ?_
  refine (X_call_st (m := 294) (pc := 10) (q := 61) (y := 155) (n := 3) (as := [a_l (x1), a_l (0), a_l (1)]) (rest := [a_r (r0)]) (by decide +kernel) (by decide +kernel) (by decide +kernel) (by decide +kernel) rfl rfl (Nat.le_of_ble_eq_true rfl) (Nat.le_of_ble_eq_true rfl) rfl (by rw [show m_maxL 155 = 6 from by decide +kernel]; exact Nat.le_of_ble_eq_true rfl)).trans ?_
  exact if_pos rfl
theorem B_X11_restore_13 {k : Nat → Nat × Nat} {u : Nat → Nat → Int} {g : Nat → Nat → Nat} {t : Nat × Nat × Nat} {r0 : Nat} {x1 : Int} {q0 : Nat} {y1 : Int} : a_X 294 13 [a_r (r0), a_i (x1)] [a_i (y1), a_r (q0)] (k, u, g, t) = if (y1 : Int) ≠ 0 then if (k q0).1 = 11 then (a_m 157 [a_r (q0), a_i (0), a_i (1)] (k, u, g, t)).bind (a_back 294 22 3 [a_r (r0), a_i (x1)] []) else none else if (k q0).1 = 11 then (a_m 157 [a_r (q0), a_i (1), a_i (1)] (k, u, g, t)).bind (a_back 294 22 3 [a_r (r0), a_i (x1)] []) else none := by
  refine (X_if_ne (m := 294) (pc := 13) (off := 7) (tg := 20) (by decide +kernel) (by decide +kernel)).trans ?_
  refine ite_congr rfl (fun _ => ?_) (fun _ => ?_)
  · refine (X_iconst (m := 294) (pc := 20) (n := 0) (by decide +kernel) ).trans ?_
    refine (X_iconst (m := 294) (pc := 21) (n := 1) (by decide +kernel) ).trans ?_
    refine (X_call_vi (m := 294) (pc := 22) (q := 53) (y := 157) (n := 3) (as := [a_r (q0), a_i (0), a_i (1)]) (rest := []) (by decide +kernel) (by decide +kernel) (by decide +kernel) (by decide +kernel) rfl rfl (Nat.le_of_ble_eq_true rfl) (Nat.le_of_ble_eq_true rfl) rfl (by rw [show m_maxL 157 = 3 from by decide +kernel]; exact Nat.le_of_ble_eq_true rfl)).trans ?_
    exact ite_congr (by simp [a_rcv, show m_recv 157 = 11 from by decide +kernel]) (fun _ => rfl) (fun _ => rfl)
  · refine (X_iconst (m := 294) (pc := 16) (n := 1) (by decide +kernel) ).trans ?_
    refine (X_goto (m := 294) (pc := 17) (off := 4) (tg := 21) (by decide +kernel) (by decide +kernel)).trans ?_
    refine (X_iconst (m := 294) (pc := 21) (n := 1) (by decide +kernel) ).trans ?_
    refine (X_call_vi (m := 294) (pc := 22) (q := 53) (y := 157) (n := 3) (as := [a_r (q0), a_i (1), a_i (1)]) (rest := []) (by decide +kernel) (by decide +kernel) (by decide +kernel) (by decide +kernel) rfl rfl (Nat.le_of_ble_eq_true rfl) (Nat.le_of_ble_eq_true rfl) rfl (by rw [show m_maxL 157 = 3 from by decide +kernel]; exact Nat.le_of_ble_eq_true rfl)).trans ?_
    exact ite_congr (by simp [a_rcv, show m_recv 157 = 11 from by decide +kernel]) (fun _ => rfl) (fun _ => rfl)
theorem B_X11_restore_25 {k : Nat → Nat × Nat} {u : Nat → Nat → Int} {g : Nat → Nat → Nat} {t : Nat × Nat × Nat} {r0 : Nat} {x1 : Int} {y0 : Int} : a_X 294 25 [a_r (r0), a_i (x1)] [a_i (y0)] (k, u, g, t) = if (y0 : Int) ≠ 0 then some (.inl (some (a_i (0))), (k, u, g, t)) else if (k r0).1 = 11 then if ((k (g r0 5)).1 = 21 ∨ (k (g r0 5)).1 = 26) ∧ 0 ≤ (x1 : Int) ∧ (x1 : Int) < ((k (g r0 5)).2 : Int) then if (u (g r0 5) (x1 : Int).toNat : Int) ≠ 0 then if (k r0).1 = 11 then (a_m 157 [a_r (r0), a_i (0), a_i (2)] (k, u, g, t)).bind (a_back 294 44 3 [a_r (r0), a_i (x1)] []) else none else if (k r0).1 = 11 then (a_m 157 [a_r (r0), a_i (1), a_i (2)] (k, u, g, t)).bind (a_back 294 44 3 [a_r (r0), a_i (x1)] []) else none else none else none := by
  refine (X_if_ne (m := 294) (pc := 25) (off := 25) (tg := 50) (by decide +kernel) (by decide +kernel)).trans ?_
  refine ite_congr rfl (fun _ => ?_) (fun _ => ?_)
  · refine (X_iconst (m := 294) (pc := 50) (n := 0) (by decide +kernel) ).trans ?_
    exact X_ireturn (m := 294) (pc := 51) (f := 1) (by decide +kernel) (by decide +kernel) rfl
  · refine (X_aload_n (m := 294) (pc := 28) (n := 0) (by decide +kernel) rfl).trans ?_
    refine (X_aload_n (m := 294) (pc := 29) (n := 0) (by decide +kernel) rfl).trans ?_
    refine (X_getR (m := 294) (pc := 30) (n := 17) (c := 11) (q := 5) (fi := true) (by decide +kernel) (by decide +kernel)).trans ?_
    refine ite_congr rfl (fun _ => ?_) (fun _ => rfl)
    refine (X_iload_n (m := 294) (pc := 33) (n := 1) (by decide +kernel) rfl).trans ?_
    refine (X_baload (m := 294) (pc := 34)  (by decide +kernel) ).trans ?_
    refine ite_congr rfl (fun _ => ?_) (fun _ => rfl)
    refine (X_if_ne (m := 294) (pc := 35) (off := 7) (tg := 42) (by decide +kernel) (by decide +kernel)).trans ?_
    refine ite_congr rfl (fun _ => ?_) (fun _ => ?_)
    · refine (X_iconst (m := 294) (pc := 42) (n := 0) (by decide +kernel) ).trans ?_
      refine (X_iconst (m := 294) (pc := 43) (n := 2) (by decide +kernel) ).trans ?_
      refine (X_call_vi (m := 294) (pc := 44) (q := 53) (y := 157) (n := 3) (as := [a_r (r0), a_i (0), a_i (2)]) (rest := []) (by decide +kernel) (by decide +kernel) (by decide +kernel) (by decide +kernel) rfl rfl (Nat.le_of_ble_eq_true rfl) (Nat.le_of_ble_eq_true rfl) rfl (by rw [show m_maxL 157 = 3 from by decide +kernel]; exact Nat.le_of_ble_eq_true rfl)).trans ?_
      exact ite_congr (by simp [a_rcv, show m_recv 157 = 11 from by decide +kernel]) (fun _ => rfl) (fun _ => rfl)
    · refine (X_iconst (m := 294) (pc := 38) (n := 1) (by decide +kernel) ).trans ?_
      refine (X_goto (m := 294) (pc := 39) (off := 4) (tg := 43) (by decide +kernel) (by decide +kernel)).trans ?_
      refine (X_iconst (m := 294) (pc := 43) (n := 2) (by decide +kernel) ).trans ?_
      refine (X_call_vi (m := 294) (pc := 44) (q := 53) (y := 157) (n := 3) (as := [a_r (r0), a_i (1), a_i (2)]) (rest := []) (by decide +kernel) (by decide +kernel) (by decide +kernel) (by decide +kernel) rfl rfl (Nat.le_of_ble_eq_true rfl) (Nat.le_of_ble_eq_true rfl) rfl (by rw [show m_maxL 157 = 3 from by decide +kernel]; exact Nat.le_of_ble_eq_true rfl)).trans ?_
      exact ite_congr (by simp [a_rcv, show m_recv 157 = 11 from by decide +kernel]) (fun _ => rfl) (fun _ => rfl)
theorem B_X11_restore_47 {k : Nat → Nat × Nat} {u : Nat → Nat → Int} {g : Nat → Nat → Nat} {t : Nat × Nat × Nat} {r0 : Nat} {x1 : Int} {y0 : Int} : a_X 294 47 [a_r (r0), a_i (x1)] [a_i (y0)] (k, u, g, t) = if (y0 : Int) = 0 then if (k r0).1 = 11 then if (k r0).1 = 11 then (a_m 163 [a_r (g r0 3), a_i (wr (3280 * (wr (8 + x1)))), a_r (g r0 2), a_i (0)] (k, u, g, t)).bind (a_back 294 69 3 [a_r (r0), a_i (x1)] []) else none else none else some (.inl (some (a_i (0))), (k, u, g, t)) := by
  refine (X_if_eq (m := 294) (pc := 47) (off := 5) (tg := 52) (by decide +kernel) (by decide +kernel)).trans ?_
  refine ite_congr rfl (fun _ => ?_) (fun _ => ?_)
  · refine (X_aload_n (m := 294) (pc := 52) (n := 0) (by decide +kernel) rfl).trans ?_
    refine (X_getR (m := 294) (pc := 53) (n := 14) (c := 11) (q := 3) (fi := true) (by decide +kernel) (by decide +kernel)).trans ?_
    refine ite_congr rfl (fun _ => ?_) (fun _ => rfl)
    refine (X_sipush (m := 294) (pc := 56) (n := 3280) (by decide +kernel) ).trans ?_
    refine (X_bipush (m := 294) (pc := 59) (n := 8) (by decide +kernel) ).trans ?_
    refine (X_iload_n (m := 294) (pc := 61) (n := 1) (by decide +kernel) rfl).trans ?_
    refine (X_iadd (m := 294) (pc := 62)  (by decide +kernel) ).trans ?_
    refine (X_imul (m := 294) (pc := 63)  (by decide +kernel) ).trans ?_
    refine (X_aload_n (m := 294) (pc := 64) (n := 0) (by decide +kernel) rfl).trans ?_
    refine (X_getR (m := 294) (pc := 65) (n := 7) (c := 11) (q := 2) (fi := true) (by decide +kernel) (by decide +kernel)).trans ?_
    refine ite_congr rfl (fun _ => ?_) (fun _ => rfl)
    refine (X_iconst (m := 294) (pc := 68) (n := 0) (by decide +kernel) ).trans ?_
    refine (X_call_st (m := 294) (pc := 69) (q := 171) (y := 163) (n := 4) (as := [a_r (g r0 3), a_i (wr (3280 * (wr (8 + x1)))), a_r (g r0 2), a_i (0)]) (rest := []) (by decide +kernel) (by decide +kernel) (by decide +kernel) (by decide +kernel) rfl rfl (Nat.le_of_ble_eq_true rfl) (Nat.le_of_ble_eq_true rfl) rfl (by rw [show m_maxL 163 = 5 from by decide +kernel]; exact Nat.le_of_ble_eq_true rfl)).trans ?_
    exact if_pos rfl
  · refine (X_iconst (m := 294) (pc := 50) (n := 0) (by decide +kernel) ).trans ?_
    exact X_ireturn (m := 294) (pc := 51) (f := 1) (by decide +kernel) (by decide +kernel) rfl
theorem B_X11_restore_72 {k : Nat → Nat × Nat} {u : Nat → Nat → Int} {g : Nat → Nat → Nat} {t : Nat × Nat × Nat} {r0 : Nat} {x1 : Int} : a_X 294 72 [a_r (r0), a_i (x1)] [] (k, u, g, t) = if (k r0).1 = 11 then if (k r0).1 = 11 then if ((k (g r0 2)).1 = 20 ∨ (k (g r0 2)).1 = 24) ∧ 0 ≤ (1 : Int) ∧ (1 : Int) < ((k (g r0 2)).2 : Int) then some (.inl (some (a_i ((upm u r0 4 0) (g r0 2) (1 : Int).toNat))), (k, (upm u r0 4 0), g, t)) else none else none else none := by
  refine (X_aload_n (m := 294) (pc := 72) (n := 0) (by decide +kernel) rfl).trans ?_
  refine (X_iconst (m := 294) (pc := 73) (n := 0) (by decide +kernel) ).trans ?_
  refine (X_putI (m := 294) (pc := 74) (n := 178) (c := 11) (q := 4) (fi := false) (by decide +kernel) (by decide +kernel) (fun h => by cases h) (by decide +kernel)).trans ?_
  refine ite_congr rfl (fun _ => ?_) (fun _ => rfl)
  refine (X_aload_n (m := 294) (pc := 77) (n := 0) (by decide +kernel) rfl).trans ?_
  refine (X_getR (m := 294) (pc := 78) (n := 7) (c := 11) (q := 2) (fi := true) (by decide +kernel) (by decide +kernel)).trans ?_
  refine ite_congr rfl (fun _ => ?_) (fun _ => rfl)
  refine (X_iconst (m := 294) (pc := 81) (n := 1) (by decide +kernel) ).trans ?_
  refine (X_iaload (m := 294) (pc := 82)  (by decide +kernel) ).trans ?_
  refine ite_congr rfl (fun _ => ?_) (fun _ => rfl)
  exact X_ireturn (m := 294) (pc := 83) (f := 1) (by decide +kernel) (by decide +kernel) rfl
