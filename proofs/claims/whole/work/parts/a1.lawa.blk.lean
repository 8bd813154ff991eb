/-! block equations, by wip/whole/gen_blocks.py -/
theorem E_L_load {σ : AS} {r0 : Nat} {x1 : Int} {r2 : Nat} : a_m 302 [a_r (r0), a_i (x1), a_r (r2)] σ = a_X 302 0 [a_r (r0), a_i (x1), a_r (r2), a_x false] [] σ := a_m_eq (by rw [a_entry, show m_maxL 302 = 4 from by decide +kernel]; rfl)
theorem B_L_load_0 {k : Nat → Nat × Nat} {u : Nat → Nat → Int} {g : Nat → Nat → Nat} {t : Nat × Nat × Nat} {r0 : Nat} {x1 : Int} {r2 : Nat} {v3 : AV} : a_X 302 0 [a_r (r0), a_i (x1), a_r (r2), v3] [] (k, u, g, t) = if (k r0).1 = 10 then (a_m 92 [a_r (r0), a_i (x1)] (k, u, g, t)).bind (a_back 302 4 3 [a_r (r0), a_i (x1), a_r (r2), v3] [a_i (0), a_r (r2)]) else none := by
  refine (X_aload_n (m := 302) (pc := 0) (n := 2) (by decide +kernel) rfl).trans ?_
  refine (X_iconst (m := 302) (pc := 1) (n := 0) (by decide +kernel) ).trans ?_
  refine (X_aload_n (m := 302) (pc := 2) (n := 0) (by decide +kernel) rfl).trans ?_
  refine (X_iload_n (m := 302) (pc := 3) (n := 1) (by decide +kernel) rfl).trans ?_
  refine (X_call_vi (m := 302) (pc := 4) (q := 7) (y := 92) (n := 2) (as := [a_r (r0), a_i (x1)]) (rest := [a_i (0), a_r (r2)]) (by decide +kernel) (by decide +kernel) (by decide +kernel) (by decide +kernel) rfl rfl (Nat.le_of_ble_eq_true rfl) (Nat.le_of_ble_eq_true rfl) rfl (by rw [show m_maxL 92 = 3 from by decide +kernel]; exact Nat.le_of_ble_eq_true rfl)).trans ?_
  exact ite_congr (by simp [a_rcv, show m_recv 92 = 10 from by decide +kernel]) (fun _ => rfl) (fun _ => rfl)
theorem B_L_load_12 {k : Nat → Nat × Nat} {u : Nat → Nat → Int} {g : Nat → Nat → Nat} {t : Nat × Nat × Nat} {r0 : Nat} {x1 : Int} {r2 : Nat} {v3 : AV} : a_X 302 12 [a_r (r0), a_i (x1), a_r (r2), v3] [a_x true] (k, u, g, t) = some (.inl (some (a_i (1))), (k, u, g, t)) := by
  refine (X_astoreX_n (m := 302) (pc := 12) (n := 3) (by decide +kernel) rfl (Nat.le_of_ble_eq_true rfl) rfl).trans ?_
  refine (X_iconst (m := 302) (pc := 13) (n := 1) (by decide +kernel) ).trans ?_
  exact X_ireturn (m := 302) (pc := 14) (f := 1) (by decide +kernel) (by decide +kernel) rfl
theorem B_L_load_15 {k : Nat → Nat × Nat} {u : Nat → Nat → Int} {g : Nat → Nat → Nat} {t : Nat × Nat × Nat} {r0 : Nat} {x1 : Int} {r2 : Nat} {v3 : AV} : a_X 302 15 [a_r (r0), a_i (x1), a_r (r2), v3] [a_x true] (k, u, g, t) = some (.inl (some (a_i (2))), (k, u, g, t)) := by
  refine (X_astoreX_n (m := 302) (pc := 15) (n := 3) (by decide +kernel) rfl (Nat.le_of_ble_eq_true rfl) rfl).trans ?_
  refine (X_iconst (m := 302) (pc := 16) (n := 2) (by decide +kernel) ).trans ?_
  exact X_ireturn (m := 302) (pc := 17) (f := 1) (by decide +kernel) (by decide +kernel) rfl
theorem B_L_load_7 {k : Nat → Nat × Nat} {u : Nat → Nat → Int} {g : Nat → Nat → Nat} {t : Nat × Nat × Nat} {r0 : Nat} {x1 : Int} {r2 : Nat} {v3 : AV} {q0 : Nat} {y1 : Int} {y2 : Int} : a_X 302 7 [a_r (r0), a_i (x1), a_r (r2), v3] [a_i (y2), a_i (y1), a_r (q0)] (k, u, g, t) = if (k q0).1 = 22 ∧ 0 ≤ (y1 : Int) ∧ (y1 : Int) < ((k q0).2 : Int) then some (.inl (some (a_i (0))), (k, (upm u q0 (y1 : Int).toNat y2), g, t)) else none := by
  refine (X_i2l (m := 302) (pc := 7)  (by decide +kernel) ).trans ?_
  refine (X_lastore (m := 302) (pc := 8)  (by decide +kernel) ).trans ?_
  refine ite_congr rfl (fun _ => ?_) (fun _ => rfl)
  refine (X_goto (m := 302) (pc := 9) (off := 9) (tg := 18) (by decide +kernel) (by decide +kernel)).trans ?_
  refine (X_iconst (m := 302) (pc := 18) (n := 0) (by decide +kernel) ).trans ?_
  exact X_ireturn (m := 302) (pc := 19) (f := 1) (by decide +kernel) (by decide +kernel) rfl
theorem E_L_count {σ : AS} {r0 : Nat} {x1 : Int} {r2 : Nat} : a_m 303 [a_r (r0), a_i (x1), a_r (r2)] σ = a_X 303 0 [a_r (r0), a_i (x1), a_r (r2), a_x false] [] σ := a_m_eq (by rw [a_entry, show m_maxL 303 = 4 from by decide +kernel]; rfl)
theorem B_L_count_0 {k : Nat → Nat × Nat} {u : Nat → Nat → Int} {g : Nat → Nat → Nat} {t : Nat × Nat × Nat} {r0 : Nat} {x1 : Int} {r2 : Nat} {v3 : AV} : a_X 303 0 [a_r (r0), a_i (x1), a_r (r2), v3] [] (k, u, g, t) = if (k r0).1 = 10 then (a_m 96 [a_r (r0), a_i (x1)] (k, u, g, t)).bind (a_back 303 4 3 [a_r (r0), a_i (x1), a_r (r2), v3] [a_i (0), a_r (r2)]) else none := by
  refine (X_aload_n (m := 303) (pc := 0) (n := 2) (by decide +kernel) rfl).trans ?_
  refine (X_iconst (m := 303) (pc := 1) (n := 0) (by decide +kernel) ).trans ?_
  refine (X_aload_n (m := 303) (pc := 2) (n := 0) (by decide +kernel) rfl).trans ?_
  refine (X_iload_n (m := 303) (pc := 3) (n := 1) (by decide +kernel) rfl).trans ?_
  refine (X_call_vi (m := 303) (pc := 4) (q := 17) (y := 96) (n := 2) (as := [a_r (r0), a_i (x1)]) (rest := [a_i (0), a_r (r2)]) (by decide +kernel) (by decide +kernel) (by decide +kernel) (by decide +kernel) rfl rfl (Nat.le_of_ble_eq_true rfl) (Nat.le_of_ble_eq_true rfl) rfl (by rw [show m_maxL 96 = 2 from by decide +kernel]; exact Nat.le_of_ble_eq_true rfl)).trans ?_
  exact ite_congr (by simp [a_rcv, show m_recv 96 = 10 from by decide +kernel]) (fun _ => rfl) (fun _ => rfl)
theorem B_L_count_12 {k : Nat → Nat × Nat} {u : Nat → Nat → Int} {g : Nat → Nat → Nat} {t : Nat × Nat × Nat} {r0 : Nat} {x1 : Int} {r2 : Nat} {v3 : AV} : a_X 303 12 [a_r (r0), a_i (x1), a_r (r2), v3] [a_x true] (k, u, g, t) = some (.inl (some (a_i (1))), (k, u, g, t)) := by
  refine (X_astoreX_n (m := 303) (pc := 12) (n := 3) (by decide +kernel) rfl (Nat.le_of_ble_eq_true rfl) rfl).trans ?_
  refine (X_iconst (m := 303) (pc := 13) (n := 1) (by decide +kernel) ).trans ?_
  exact X_ireturn (m := 303) (pc := 14) (f := 1) (by decide +kernel) (by decide +kernel) rfl
theorem B_L_count_15 {k : Nat → Nat × Nat} {u : Nat → Nat → Int} {g : Nat → Nat → Nat} {t : Nat × Nat × Nat} {r0 : Nat} {x1 : Int} {r2 : Nat} {v3 : AV} : a_X 303 15 [a_r (r0), a_i (x1), a_r (r2), v3] [a_x true] (k, u, g, t) = some (.inl (some (a_i (2))), (k, u, g, t)) := by
  refine (X_astoreX_n (m := 303) (pc := 15) (n := 3) (by decide +kernel) rfl (Nat.le_of_ble_eq_true rfl) rfl).trans ?_
  refine (X_iconst (m := 303) (pc := 16) (n := 2) (by decide +kernel) ).trans ?_
  exact X_ireturn (m := 303) (pc := 17) (f := 1) (by decide +kernel) (by decide +kernel) rfl
theorem B_L_count_7 {k : Nat → Nat × Nat} {u : Nat → Nat → Int} {g : Nat → Nat → Nat} {t : Nat × Nat × Nat} {r0 : Nat} {x1 : Int} {r2 : Nat} {v3 : AV} {q0 : Nat} {y1 : Int} {y2 : Int} : a_X 303 7 [a_r (r0), a_i (x1), a_r (r2), v3] [a_i (y2), a_i (y1), a_r (q0)] (k, u, g, t) = if (k q0).1 = 22 ∧ 0 ≤ (y1 : Int) ∧ (y1 : Int) < ((k q0).2 : Int) then some (.inl (some (a_i (0))), (k, (upm u q0 (y1 : Int).toNat y2), g, t)) else none := by
  refine (X_i2l (m := 303) (pc := 7)  (by decide +kernel) ).trans ?_
  refine (X_lastore (m := 303) (pc := 8)  (by decide +kernel) ).trans ?_
  refine ite_congr rfl (fun _ => ?_) (fun _ => rfl)
  refine (X_goto (m := 303) (pc := 9) (off := 9) (tg := 18) (by decide +kernel) (by decide +kernel)).trans ?_
  refine (X_iconst (m := 303) (pc := 18) (n := 0) (by decide +kernel) ).trans ?_
  exact X_ireturn (m := 303) (pc := 19) (f := 1) (by decide +kernel) (by decide +kernel) rfl
theorem E_L_stop {σ : AS} {r0 : Nat} {x1 : Int} {x2 : Int} {x3 : Int} {r4 : Nat} : a_m 304 [a_r (r0), a_i (x1), a_i (x2), a_i (x3), a_r (r4)] σ = a_X 304 0 [a_r (r0), a_i (x1), a_i (x2), a_i (x3), a_r (r4), a_x false] [] σ := a_m_eq (by rw [a_entry, show m_maxL 304 = 6 from by decide +kernel]; rfl)
theorem B_L_stop_0 {k : Nat → Nat × Nat} {u : Nat → Nat → Int} {g : Nat → Nat → Nat} {t : Nat × Nat × Nat} {r0 : Nat} {x1 : Int} {x2 : Int} {x3 : Int} {r4 : Nat} {v5 : AV} : a_X 304 0 [a_r (r0), a_i (x1), a_i (x2), a_i (x3), a_r (r4), v5] [] (k, u, g, t) = if (k r0).1 = 10 then (a_m 97 [a_r (r0), a_i (x1), a_i (x2), a_i (x3)] (k, u, g, t)).bind (a_back 304 7 3 [a_r (r0), a_i (x1), a_i (x2), a_i (x3), a_r (r4), v5] [a_i (0), a_r (r4)]) else none := by
  refine (X_aload (m := 304) (pc := 0) (n := 4) (by decide +kernel) rfl).trans ?_
  refine (X_iconst (m := 304) (pc := 2) (n := 0) (by decide +kernel) ).trans ?_
  refine (X_aload_n (m := 304) (pc := 3) (n := 0) (by decide +kernel) rfl).trans ?_
  refine (X_iload_n (m := 304) (pc := 4) (n := 1) (by decide +kernel) rfl).trans ?_
  refine (X_iload_n (m := 304) (pc := 5) (n := 2) (by decide +kernel) rfl).trans ?_
  refine (X_iload_n (m := 304) (pc := 6) (n := 3) (by decide +kernel) rfl).trans ?_
  refine (X_call_vi (m := 304) (pc := 7) (q := 22) (y := 97) (n := 4) (as := [a_r (r0), a_i (x1), a_i (x2), a_i (x3)]) (rest := [a_i (0), a_r (r4)]) (by decide +kernel) (by decide +kernel) (by decide +kernel) (by decide +kernel) rfl rfl (Nat.le_of_ble_eq_true rfl) (Nat.le_of_ble_eq_true rfl) rfl (by rw [show m_maxL 97 = 5 from by decide +kernel]; exact Nat.le_of_ble_eq_true rfl)).trans ?_
  exact ite_congr (by simp [a_rcv, show m_recv 97 = 10 from by decide +kernel]) (fun _ => rfl) (fun _ => rfl)
theorem B_L_stop_15 {k : Nat → Nat × Nat} {u : Nat → Nat → Int} {g : Nat → Nat → Nat} {t : Nat × Nat × Nat} {r0 : Nat} {x1 : Int} {x2 : Int} {x3 : Int} {r4 : Nat} {v5 : AV} : a_X 304 15 [a_r (r0), a_i (x1), a_i (x2), a_i (x3), a_r (r4), v5] [a_x true] (k, u, g, t) = some (.inl (some (a_i (1))), (k, u, g, t)) := by
  refine (X_astoreX (m := 304) (pc := 15) (n := 5) (by decide +kernel) rfl (Nat.le_of_ble_eq_true rfl) rfl).trans ?_
  refine (X_iconst (m := 304) (pc := 17) (n := 1) (by decide +kernel) ).trans ?_
  exact X_ireturn (m := 304) (pc := 18) (f := 1) (by decide +kernel) (by decide +kernel) rfl
theorem B_L_stop_19 {k : Nat → Nat × Nat} {u : Nat → Nat → Int} {g : Nat → Nat → Nat} {t : Nat × Nat × Nat} {r0 : Nat} {x1 : Int} {x2 : Int} {x3 : Int} {r4 : Nat} {v5 : AV} : a_X 304 19 [a_r (r0), a_i (x1), a_i (x2), a_i (x3), a_r (r4), v5] [a_x true] (k, u, g, t) = some (.inl (some (a_i (2))), (k, u, g, t)) := by
  refine (X_astoreX (m := 304) (pc := 19) (n := 5) (by decide +kernel) rfl (Nat.le_of_ble_eq_true rfl) rfl).trans ?_
  refine (X_iconst (m := 304) (pc := 21) (n := 2) (by decide +kernel) ).trans ?_
  exact X_ireturn (m := 304) (pc := 22) (f := 1) (by decide +kernel) (by decide +kernel) rfl
theorem B_L_stop_23 {k : Nat → Nat × Nat} {u : Nat → Nat → Int} {g : Nat → Nat → Nat} {t : Nat × Nat × Nat} {r0 : Nat} {x1 : Int} {x2 : Int} {x3 : Int} {r4 : Nat} {v5 : AV} : a_X 304 23 [a_r (r0), a_i (x1), a_i (x2), a_i (x3), a_r (r4), v5] [a_x true] (k, u, g, t) = some (.inl (some (a_i (3))), (k, u, g, t)) := by
  refine (X_astoreX (m := 304) (pc := 23) (n := 5) (by decide +kernel) rfl (Nat.le_of_ble_eq_true rfl) rfl).trans ?_
  refine (X_iconst (m := 304) (pc := 25) (n := 3) (by decide +kernel) ).trans ?_
  exact X_ireturn (m := 304) (pc := 26) (f := 1) (by decide +kernel) (by decide +kernel) rfl
theorem B_L_stop_10 {k : Nat → Nat × Nat} {u : Nat → Nat → Int} {g : Nat → Nat → Nat} {t : Nat × Nat × Nat} {r0 : Nat} {x1 : Int} {x2 : Int} {x3 : Int} {r4 : Nat} {v5 : AV} {q0 : Nat} {y1 : Int} {y2 : Int} : a_X 304 10 [a_r (r0), a_i (x1), a_i (x2), a_i (x3), a_r (r4), v5] [a_i (y2), a_i (y1), a_r (q0)] (k, u, g, t) = if (k q0).1 = 22 ∧ 0 ≤ (y1 : Int) ∧ (y1 : Int) < ((k q0).2 : Int) then some (.inl (some (a_i (0))), (k, (upm u q0 (y1 : Int).toNat y2), g, t)) else none := by
  refine (X_i2l (m := 304) (pc := 10)  (by decide +kernel) ).trans ?_
  refine (X_lastore (m := 304) (pc := 11)  (by decide +kernel) ).trans ?_
  refine ite_congr rfl (fun _ => ?_) (fun _ => rfl)
  refine (X_goto (m := 304) (pc := 12) (off := 15) (tg := 27) (by decide +kernel) (by decide +kernel)).trans ?_
  refine (X_iconst (m := 304) (pc := 27) (n := 0) (by decide +kernel) ).trans ?_
  exact X_ireturn (m := 304) (pc := 28) (f := 1) (by decide +kernel) (by decide +kernel) rfl
theorem E_L_onAir {σ : AS} {r0 : Nat} {x1 : Int} {x2 : Int} {r3 : Nat} : a_m 305 [a_r (r0), a_i (x1), a_i (x2), a_r (r3)] σ = a_X 305 0 [a_r (r0), a_i (x1), a_i (x2), a_r (r3), a_x false] [] σ := a_m_eq (by rw [a_entry, show m_maxL 305 = 5 from by decide +kernel]; rfl)
theorem B_L_onAir_0 {k : Nat → Nat × Nat} {u : Nat → Nat → Int} {g : Nat → Nat → Nat} {t : Nat × Nat × Nat} {r0 : Nat} {x1 : Int} {x2 : Int} {r3 : Nat} {v4 : AV} : a_X 305 0 [a_r (r0), a_i (x1), a_i (x2), a_r (r3), v4] [] (k, u, g, t) = if (k r0).1 = 10 then (a_m 98 [a_r (r0), a_i (x1), a_i (x2)] (k, u, g, t)).bind (a_back 305 5 3 [a_r (r0), a_i (x1), a_i (x2), a_r (r3), v4] [a_i (0), a_r (r3)]) else none := by
  refine (X_aload_n (m := 305) (pc := 0) (n := 3) (by decide +kernel) rfl).trans ?_
  refine (X_iconst (m := 305) (pc := 1) (n := 0) (by decide +kernel) ).trans ?_
  refine (X_aload_n (m := 305) (pc := 2) (n := 0) (by decide +kernel) rfl).trans ?_
  refine (X_iload_n (m := 305) (pc := 3) (n := 1) (by decide +kernel) rfl).trans ?_
  refine (X_iload_n (m := 305) (pc := 4) (n := 2) (by decide +kernel) rfl).trans ?_
  refine (X_call_vi (m := 305) (pc := 5) (q := 26) (y := 98) (n := 3) (as := [a_r (r0), a_i (x1), a_i (x2)]) (rest := [a_i (0), a_r (r3)]) (by decide +kernel) (by decide +kernel) (by decide +kernel) (by decide +kernel) rfl rfl (Nat.le_of_ble_eq_true rfl) (Nat.le_of_ble_eq_true rfl) rfl (by rw [show m_maxL 98 = 4 from by decide +kernel]; exact Nat.le_of_ble_eq_true rfl)).trans ?_
  exact ite_congr (by simp [a_rcv, show m_recv 98 = 10 from by decide +kernel]) (fun _ => rfl) (fun _ => rfl)
theorem B_L_onAir_13 {k : Nat → Nat × Nat} {u : Nat → Nat → Int} {g : Nat → Nat → Nat} {t : Nat × Nat × Nat} {r0 : Nat} {x1 : Int} {x2 : Int} {r3 : Nat} {v4 : AV} : a_X 305 13 [a_r (r0), a_i (x1), a_i (x2), a_r (r3), v4] [a_x true] (k, u, g, t) = some (.inl (some (a_i (1))), (k, u, g, t)) := by
  refine (X_astoreX (m := 305) (pc := 13) (n := 4) (by decide +kernel) rfl (Nat.le_of_ble_eq_true rfl) rfl).trans ?_
  refine (X_iconst (m := 305) (pc := 15) (n := 1) (by decide +kernel) ).trans ?_
  exact X_ireturn (m := 305) (pc := 16) (f := 1) (by decide +kernel) (by decide +kernel) rfl
theorem B_L_onAir_17 {k : Nat → Nat × Nat} {u : Nat → Nat → Int} {g : Nat → Nat → Nat} {t : Nat × Nat × Nat} {r0 : Nat} {x1 : Int} {x2 : Int} {r3 : Nat} {v4 : AV} : a_X 305 17 [a_r (r0), a_i (x1), a_i (x2), a_r (r3), v4] [a_x true] (k, u, g, t) = some (.inl (some (a_i (2))), (k, u, g, t)) := by
  refine (X_astoreX (m := 305) (pc := 17) (n := 4) (by decide +kernel) rfl (Nat.le_of_ble_eq_true rfl) rfl).trans ?_
  refine (X_iconst (m := 305) (pc := 19) (n := 2) (by decide +kernel) ).trans ?_
  exact X_ireturn (m := 305) (pc := 20) (f := 1) (by decide +kernel) (by decide +kernel) rfl
theorem B_L_onAir_21 {k : Nat → Nat × Nat} {u : Nat → Nat → Int} {g : Nat → Nat → Nat} {t : Nat × Nat × Nat} {r0 : Nat} {x1 : Int} {x2 : Int} {r3 : Nat} {v4 : AV} : a_X 305 21 [a_r (r0), a_i (x1), a_i (x2), a_r (r3), v4] [a_x true] (k, u, g, t) = some (.inl (some (a_i (3))), (k, u, g, t)) := by
  refine (X_astoreX (m := 305) (pc := 21) (n := 4) (by decide +kernel) rfl (Nat.le_of_ble_eq_true rfl) rfl).trans ?_
  refine (X_iconst (m := 305) (pc := 23) (n := 3) (by decide +kernel) ).trans ?_
  exact X_ireturn (m := 305) (pc := 24) (f := 1) (by decide +kernel) (by decide +kernel) rfl
theorem B_L_onAir_8 {k : Nat → Nat × Nat} {u : Nat → Nat → Int} {g : Nat → Nat → Nat} {t : Nat × Nat × Nat} {r0 : Nat} {x1 : Int} {x2 : Int} {r3 : Nat} {v4 : AV} {q0 : Nat} {y1 : Int} {y2 : Int} : a_X 305 8 [a_r (r0), a_i (x1), a_i (x2), a_r (r3), v4] [a_i (y2), a_i (y1), a_r (q0)] (k, u, g, t) = if (k q0).1 = 22 ∧ 0 ≤ (y1 : Int) ∧ (y1 : Int) < ((k q0).2 : Int) then some (.inl (some (a_i (0))), (k, (upm u q0 (y1 : Int).toNat y2), g, t)) else none := by
  refine (X_i2l (m := 305) (pc := 8)  (by decide +kernel) ).trans ?_
  refine (X_lastore (m := 305) (pc := 9)  (by decide +kernel) ).trans ?_
  refine ite_congr rfl (fun _ => ?_) (fun _ => rfl)
  refine (X_goto (m := 305) (pc := 10) (off := 15) (tg := 25) (by decide +kernel) (by decide +kernel)).trans ?_
  refine (X_iconst (m := 305) (pc := 25) (n := 0) (by decide +kernel) ).trans ?_
  exact X_ireturn (m := 305) (pc := 26) (f := 1) (by decide +kernel) (by decide +kernel) rfl
theorem E_L_number {σ : AS} {r0 : Nat} {x1 : Int} {x2 : Int} {r3 : Nat} : a_m 306 [a_r (r0), a_i (x1), a_i (x2), a_r (r3)] σ = a_X 306 0 [a_r (r0), a_i (x1), a_i (x2), a_r (r3), a_x false] [] σ := a_m_eq (by rw [a_entry, show m_maxL 306 = 5 from by decide +kernel]; rfl)
theorem B_L_number_0 {k : Nat → Nat × Nat} {u : Nat → Nat → Int} {g : Nat → Nat → Nat} {t : Nat × Nat × Nat} {r0 : Nat} {x1 : Int} {x2 : Int} {r3 : Nat} {v4 : AV} : a_X 306 0 [a_r (r0), a_i (x1), a_i (x2), a_r (r3), v4] [] (k, u, g, t) = if (k r0).1 = 10 then (a_m 99 [a_r (r0), a_i (x1), a_i (x2)] (k, u, g, t)).bind (a_back 306 5 3 [a_r (r0), a_i (x1), a_i (x2), a_r (r3), v4] [a_i (0), a_r (r3)]) else none := by
  refine (X_aload_n (m := 306) (pc := 0) (n := 3) (by decide +kernel) rfl).trans ?_
  refine (X_iconst (m := 306) (pc := 1) (n := 0) (by decide +kernel) ).trans ?_
  refine (X_aload_n (m := 306) (pc := 2) (n := 0) (by decide +kernel) rfl).trans ?_
  refine (X_iload_n (m := 306) (pc := 3) (n := 1) (by decide +kernel) rfl).trans ?_
  refine (X_iload_n (m := 306) (pc := 4) (n := 2) (by decide +kernel) rfl).trans ?_
  refine (X_call_vi (m := 306) (pc := 5) (q := 30) (y := 99) (n := 3) (as := [a_r (r0), a_i (x1), a_i (x2)]) (rest := [a_i (0), a_r (r3)]) (by decide +kernel) (by decide +kernel) (by decide +kernel) (by decide +kernel) rfl rfl (Nat.le_of_ble_eq_true rfl) (Nat.le_of_ble_eq_true rfl) rfl (by rw [show m_maxL 99 = 3 from by decide +kernel]; exact Nat.le_of_ble_eq_true rfl)).trans ?_
  exact ite_congr (by simp [a_rcv, show m_recv 99 = 10 from by decide +kernel]) (fun _ => rfl) (fun _ => rfl)
theorem B_L_number_13 {k : Nat → Nat × Nat} {u : Nat → Nat → Int} {g : Nat → Nat → Nat} {t : Nat × Nat × Nat} {r0 : Nat} {x1 : Int} {x2 : Int} {r3 : Nat} {v4 : AV} : a_X 306 13 [a_r (r0), a_i (x1), a_i (x2), a_r (r3), v4] [a_x true] (k, u, g, t) = some (.inl (some (a_i (1))), (k, u, g, t)) := by
  refine (X_astoreX (m := 306) (pc := 13) (n := 4) (by decide +kernel) rfl (Nat.le_of_ble_eq_true rfl) rfl).trans ?_
  refine (X_iconst (m := 306) (pc := 15) (n := 1) (by decide +kernel) ).trans ?_
  exact X_ireturn (m := 306) (pc := 16) (f := 1) (by decide +kernel) (by decide +kernel) rfl
theorem B_L_number_17 {k : Nat → Nat × Nat} {u : Nat → Nat → Int} {g : Nat → Nat → Nat} {t : Nat × Nat × Nat} {r0 : Nat} {x1 : Int} {x2 : Int} {r3 : Nat} {v4 : AV} : a_X 306 17 [a_r (r0), a_i (x1), a_i (x2), a_r (r3), v4] [a_x true] (k, u, g, t) = some (.inl (some (a_i (2))), (k, u, g, t)) := by
  refine (X_astoreX (m := 306) (pc := 17) (n := 4) (by decide +kernel) rfl (Nat.le_of_ble_eq_true rfl) rfl).trans ?_
  refine (X_iconst (m := 306) (pc := 19) (n := 2) (by decide +kernel) ).trans ?_
  exact X_ireturn (m := 306) (pc := 20) (f := 1) (by decide +kernel) (by decide +kernel) rfl
theorem B_L_number_8 {k : Nat → Nat × Nat} {u : Nat → Nat → Int} {g : Nat → Nat → Nat} {t : Nat × Nat × Nat} {r0 : Nat} {x1 : Int} {x2 : Int} {r3 : Nat} {v4 : AV} {q0 : Nat} {y1 : Int} {y2 : Int} : a_X 306 8 [a_r (r0), a_i (x1), a_i (x2), a_r (r3), v4] [a_i (y2), a_i (y1), a_r (q0)] (k, u, g, t) = if (k q0).1 = 22 ∧ 0 ≤ (y1 : Int) ∧ (y1 : Int) < ((k q0).2 : Int) then some (.inl (some (a_i (0))), (k, (upm u q0 (y1 : Int).toNat y2), g, t)) else none := by
  refine (X_i2l (m := 306) (pc := 8)  (by decide +kernel) ).trans ?_
  refine (X_lastore (m := 306) (pc := 9)  (by decide +kernel) ).trans ?_
  refine ite_congr rfl (fun _ => ?_) (fun _ => rfl)
  refine (X_goto (m := 306) (pc := 10) (off := 11) (tg := 21) (by decide +kernel) (by decide +kernel)).trans ?_
  refine (X_iconst (m := 306) (pc := 21) (n := 0) (by decide +kernel) ).trans ?_
  exact X_ireturn (m := 306) (pc := 22) (f := 1) (by decide +kernel) (by decide +kernel) rfl
theorem E_L_minutes {σ : AS} {r0 : Nat} {x1 : Int} {x2 : Int} {r3 : Nat} : a_m 307 [a_r (r0), a_i (x1), a_i (x2), a_r (r3)] σ = a_X 307 0 [a_r (r0), a_i (x1), a_i (x2), a_r (r3), a_x false] [] σ := a_m_eq (by rw [a_entry, show m_maxL 307 = 5 from by decide +kernel]; rfl)
theorem B_L_minutes_0 {k : Nat → Nat × Nat} {u : Nat → Nat → Int} {g : Nat → Nat → Nat} {t : Nat × Nat × Nat} {r0 : Nat} {x1 : Int} {x2 : Int} {r3 : Nat} {v4 : AV} : a_X 307 0 [a_r (r0), a_i (x1), a_i (x2), a_r (r3), v4] [] (k, u, g, t) = if (k r0).1 = 10 then (a_m 100 [a_r (r0), a_i (x1), a_i (x2)] (k, u, g, t)).bind (a_back 307 5 3 [a_r (r0), a_i (x1), a_i (x2), a_r (r3), v4] [a_i (0), a_r (r3)]) else none := by
  refine (X_aload_n (m := 307) (pc := 0) (n := 3) (by decide +kernel) rfl).trans ?_
  refine (X_iconst (m := 307) (pc := 1) (n := 0) (by decide +kernel) ).trans ?_
  refine (X_aload_n (m := 307) (pc := 2) (n := 0) (by decide +kernel) rfl).trans ?_
  refine (X_iload_n (m := 307) (pc := 3) (n := 1) (by decide +kernel) rfl).trans ?_
  refine (X_iload_n (m := 307) (pc := 4) (n := 2) (by decide +kernel) rfl).trans ?_
  refine (X_call_vi (m := 307) (pc := 5) (q := 33) (y := 100) (n := 3) (as := [a_r (r0), a_i (x1), a_i (x2)]) (rest := [a_i (0), a_r (r3)]) (by decide +kernel) (by decide +kernel) (by decide +kernel) (by decide +kernel) rfl rfl (Nat.le_of_ble_eq_true rfl) (Nat.le_of_ble_eq_true rfl) rfl (by rw [show m_maxL 100 = 3 from by decide +kernel]; exact Nat.le_of_ble_eq_true rfl)).trans ?_
  exact ite_congr (by simp [a_rcv, show m_recv 100 = 10 from by decide +kernel]) (fun _ => rfl) (fun _ => rfl)
theorem B_L_minutes_13 {k : Nat → Nat × Nat} {u : Nat → Nat → Int} {g : Nat → Nat → Nat} {t : Nat × Nat × Nat} {r0 : Nat} {x1 : Int} {x2 : Int} {r3 : Nat} {v4 : AV} : a_X 307 13 [a_r (r0), a_i (x1), a_i (x2), a_r (r3), v4] [a_x true] (k, u, g, t) = some (.inl (some (a_i (1))), (k, u, g, t)) := by
  refine (X_astoreX (m := 307) (pc := 13) (n := 4) (by decide +kernel) rfl (Nat.le_of_ble_eq_true rfl) rfl).trans ?_
  refine (X_iconst (m := 307) (pc := 15) (n := 1) (by decide +kernel) ).trans ?_
  exact X_ireturn (m := 307) (pc := 16) (f := 1) (by decide +kernel) (by decide +kernel) rfl
theorem B_L_minutes_17 {k : Nat → Nat × Nat} {u : Nat → Nat → Int} {g : Nat → Nat → Nat} {t : Nat × Nat × Nat} {r0 : Nat} {x1 : Int} {x2 : Int} {r3 : Nat} {v4 : AV} : a_X 307 17 [a_r (r0), a_i (x1), a_i (x2), a_r (r3), v4] [a_x true] (k, u, g, t) = some (.inl (some (a_i (2))), (k, u, g, t)) := by
  refine (X_astoreX (m := 307) (pc := 17) (n := 4) (by decide +kernel) rfl (Nat.le_of_ble_eq_true rfl) rfl).trans ?_
  refine (X_iconst (m := 307) (pc := 19) (n := 2) (by decide +kernel) ).trans ?_
  exact X_ireturn (m := 307) (pc := 20) (f := 1) (by decide +kernel) (by decide +kernel) rfl
theorem B_L_minutes_21 {k : Nat → Nat × Nat} {u : Nat → Nat → Int} {g : Nat → Nat → Nat} {t : Nat × Nat × Nat} {r0 : Nat} {x1 : Int} {x2 : Int} {r3 : Nat} {v4 : AV} : a_X 307 21 [a_r (r0), a_i (x1), a_i (x2), a_r (r3), v4] [a_x true] (k, u, g, t) = some (.inl (some (a_i (3))), (k, u, g, t)) := by
  refine (X_astoreX (m := 307) (pc := 21) (n := 4) (by decide +kernel) rfl (Nat.le_of_ble_eq_true rfl) rfl).trans ?_
  refine (X_iconst (m := 307) (pc := 23) (n := 3) (by decide +kernel) ).trans ?_
  exact X_ireturn (m := 307) (pc := 24) (f := 1) (by decide +kernel) (by decide +kernel) rfl
theorem B_L_minutes_8 {k : Nat → Nat × Nat} {u : Nat → Nat → Int} {g : Nat → Nat → Nat} {t : Nat × Nat × Nat} {r0 : Nat} {x1 : Int} {x2 : Int} {r3 : Nat} {v4 : AV} {q0 : Nat} {y1 : Int} {y2 : Int} : a_X 307 8 [a_r (r0), a_i (x1), a_i (x2), a_r (r3), v4] [a_i (y2), a_i (y1), a_r (q0)] (k, u, g, t) = if (k q0).1 = 22 ∧ 0 ≤ (y1 : Int) ∧ (y1 : Int) < ((k q0).2 : Int) then some (.inl (some (a_i (0))), (k, (upm u q0 (y1 : Int).toNat y2), g, t)) else none := by
  refine (X_i2l (m := 307) (pc := 8)  (by decide +kernel) ).trans ?_
  refine (X_lastore (m := 307) (pc := 9)  (by decide +kernel) ).trans ?_
  refine ite_congr rfl (fun _ => ?_) (fun _ => rfl)
  refine (X_goto (m := 307) (pc := 10) (off := 15) (tg := 25) (by decide +kernel) (by decide +kernel)).trans ?_
  refine (X_iconst (m := 307) (pc := 25) (n := 0) (by decide +kernel) ).trans ?_
  exact X_ireturn (m := 307) (pc := 26) (f := 1) (by decide +kernel) (by decide +kernel) rfl
theorem E_L_stands {σ : AS} {r0 : Nat} {x1 : Int} {x2 : Int} {x3 : Int} {r4 : Nat} : a_m 308 [a_r (r0), a_i (x1), a_i (x2), a_i (x3), a_r (r4)] σ = a_X 308 0 [a_r (r0), a_i (x1), a_i (x2), a_i (x3), a_r (r4), a_x false] [] σ := a_m_eq (by rw [a_entry, show m_maxL 308 = 6 from by decide +kernel]; rfl)
theorem B_L_stands_0 {k : Nat → Nat × Nat} {u : Nat → Nat → Int} {g : Nat → Nat → Nat} {t : Nat × Nat × Nat} {r0 : Nat} {x1 : Int} {x2 : Int} {x3 : Int} {r4 : Nat} {v5 : AV} : a_X 308 0 [a_r (r0), a_i (x1), a_i (x2), a_i (x3), a_r (r4), v5] [] (k, u, g, t) = if (k r0).1 = 10 then (a_m 101 [a_r (r0), a_i (x1), a_i (x2), a_i (x3)] (k, u, g, t)).bind (a_back 308 7 3 [a_r (r0), a_i (x1), a_i (x2), a_i (x3), a_r (r4), v5] [a_i (0), a_r (r4)]) else none := by
  refine (X_aload (m := 308) (pc := 0) (n := 4) (by decide +kernel) rfl).trans ?_
  refine (X_iconst (m := 308) (pc := 2) (n := 0) (by decide +kernel) ).trans ?_
  refine (X_aload_n (m := 308) (pc := 3) (n := 0) (by decide +kernel) rfl).trans ?_
  refine (X_iload_n (m := 308) (pc := 4) (n := 1) (by decide +kernel) rfl).trans ?_
  refine (X_iload_n (m := 308) (pc := 5) (n := 2) (by decide +kernel) rfl).trans ?_
  refine (X_iload_n (m := 308) (pc := 6) (n := 3) (by decide +kernel) rfl).trans ?_
  refine (X_call_vi (m := 308) (pc := 7) (q := 36) (y := 101) (n := 4) (as := [a_r (r0), a_i (x1), a_i (x2), a_i (x3)]) (rest := [a_i (0), a_r (r4)]) (by decide +kernel) (by decide +kernel) (by decide +kernel) (by decide +kernel) rfl rfl (Nat.le_of_ble_eq_true rfl) (Nat.le_of_ble_eq_true rfl) rfl (by rw [show m_maxL 101 = 4 from by decide +kernel]; exact Nat.le_of_ble_eq_true rfl)).trans ?_
  exact ite_congr (by simp [a_rcv, show m_recv 101 = 10 from by decide +kernel]) (fun _ => rfl) (fun _ => rfl)
theorem B_L_stands_15 {k : Nat → Nat × Nat} {u : Nat → Nat → Int} {g : Nat → Nat → Nat} {t : Nat × Nat × Nat} {r0 : Nat} {x1 : Int} {x2 : Int} {x3 : Int} {r4 : Nat} {v5 : AV} : a_X 308 15 [a_r (r0), a_i (x1), a_i (x2), a_i (x3), a_r (r4), v5] [a_x true] (k, u, g, t) = some (.inl (some (a_i (1))), (k, u, g, t)) := by
  refine (X_astoreX (m := 308) (pc := 15) (n := 5) (by decide +kernel) rfl (Nat.le_of_ble_eq_true rfl) rfl).trans ?_
  refine (X_iconst (m := 308) (pc := 17) (n := 1) (by decide +kernel) ).trans ?_
  exact X_ireturn (m := 308) (pc := 18) (f := 1) (by decide +kernel) (by decide +kernel) rfl
theorem B_L_stands_19 {k : Nat → Nat × Nat} {u : Nat → Nat → Int} {g : Nat → Nat → Nat} {t : Nat × Nat × Nat} {r0 : Nat} {x1 : Int} {x2 : Int} {x3 : Int} {r4 : Nat} {v5 : AV} : a_X 308 19 [a_r (r0), a_i (x1), a_i (x2), a_i (x3), a_r (r4), v5] [a_x true] (k, u, g, t) = some (.inl (some (a_i (2))), (k, u, g, t)) := by
  refine (X_astoreX (m := 308) (pc := 19) (n := 5) (by decide +kernel) rfl (Nat.le_of_ble_eq_true rfl) rfl).trans ?_
  refine (X_iconst (m := 308) (pc := 21) (n := 2) (by decide +kernel) ).trans ?_
  exact X_ireturn (m := 308) (pc := 22) (f := 1) (by decide +kernel) (by decide +kernel) rfl
theorem B_L_stands_23 {k : Nat → Nat × Nat} {u : Nat → Nat → Int} {g : Nat → Nat → Nat} {t : Nat × Nat × Nat} {r0 : Nat} {x1 : Int} {x2 : Int} {x3 : Int} {r4 : Nat} {v5 : AV} : a_X 308 23 [a_r (r0), a_i (x1), a_i (x2), a_i (x3), a_r (r4), v5] [a_x true] (k, u, g, t) = some (.inl (some (a_i (3))), (k, u, g, t)) := by
  refine (X_astoreX (m := 308) (pc := 23) (n := 5) (by decide +kernel) rfl (Nat.le_of_ble_eq_true rfl) rfl).trans ?_
  refine (X_iconst (m := 308) (pc := 25) (n := 3) (by decide +kernel) ).trans ?_
  exact X_ireturn (m := 308) (pc := 26) (f := 1) (by decide +kernel) (by decide +kernel) rfl
theorem B_L_stands_10 {k : Nat → Nat × Nat} {u : Nat → Nat → Int} {g : Nat → Nat → Nat} {t : Nat × Nat × Nat} {r0 : Nat} {x1 : Int} {x2 : Int} {x3 : Int} {r4 : Nat} {v5 : AV} {q0 : Nat} {y1 : Int} {y2 : Int} : a_X 308 10 [a_r (r0), a_i (x1), a_i (x2), a_i (x3), a_r (r4), v5] [a_i (y2), a_i (y1), a_r (q0)] (k, u, g, t) = if (k q0).1 = 22 ∧ 0 ≤ (y1 : Int) ∧ (y1 : Int) < ((k q0).2 : Int) then some (.inl (some (a_i (0))), (k, (upm u q0 (y1 : Int).toNat y2), g, t)) else none := by
  refine (X_i2l (m := 308) (pc := 10)  (by decide +kernel) ).trans ?_
  refine (X_lastore (m := 308) (pc := 11)  (by decide +kernel) ).trans ?_
  refine ite_congr rfl (fun _ => ?_) (fun _ => rfl)
  refine (X_goto (m := 308) (pc := 12) (off := 15) (tg := 27) (by decide +kernel) (by decide +kernel)).trans ?_
  refine (X_iconst (m := 308) (pc := 27) (n := 0) (by decide +kernel) ).trans ?_
  exact X_ireturn (m := 308) (pc := 28) (f := 1) (by decide +kernel) (by decide +kernel) rfl
theorem E_L_nextAt {σ : AS} {r0 : Nat} {x1 : Int} {x2 : Int} {x3 : Int} {r4 : Nat} : a_m 309 [a_r (r0), a_i (x1), a_i (x2), a_i (x3), a_r (r4)] σ = a_X 309 0 [a_r (r0), a_i (x1), a_i (x2), a_i (x3), a_r (r4), a_x false] [] σ := a_m_eq (by rw [a_entry, show m_maxL 309 = 6 from by decide +kernel]; rfl)
theorem B_L_nextAt_0 {k : Nat → Nat × Nat} {u : Nat → Nat → Int} {g : Nat → Nat → Nat} {t : Nat × Nat × Nat} {r0 : Nat} {x1 : Int} {x2 : Int} {x3 : Int} {r4 : Nat} {v5 : AV} : a_X 309 0 [a_r (r0), a_i (x1), a_i (x2), a_i (x3), a_r (r4), v5] [] (k, u, g, t) = if (k r0).1 = 10 then (a_m 102 [a_r (r0), a_i (x1), a_i (x2), a_i (x3)] (k, u, g, t)).bind (a_back 309 7 3 [a_r (r0), a_i (x1), a_i (x2), a_i (x3), a_r (r4), v5] [a_i (0), a_r (r4)]) else none := by
  refine (X_aload (m := 309) (pc := 0) (n := 4) (by decide +kernel) rfl).trans ?_
  refine (X_iconst (m := 309) (pc := 2) (n := 0) (by decide +kernel) ).trans ?_
  refine (X_aload_n (m := 309) (pc := 3) (n := 0) (by decide +kernel) rfl).trans ?_
  refine (X_iload_n (m := 309) (pc := 4) (n := 1) (by decide +kernel) rfl).trans ?_
  refine (X_iload_n (m := 309) (pc := 5) (n := 2) (by decide +kernel) rfl).trans ?_
  refine (X_iload_n (m := 309) (pc := 6) (n := 3) (by decide +kernel) rfl).trans ?_
  refine (X_call_vi (m := 309) (pc := 7) (q := 39) (y := 102) (n := 4) (as := [a_r (r0), a_i (x1), a_i (x2), a_i (x3)]) (rest := [a_i (0), a_r (r4)]) (by decide +kernel) (by decide +kernel) (by decide +kernel) (by decide +kernel) rfl rfl (Nat.le_of_ble_eq_true rfl) (Nat.le_of_ble_eq_true rfl) rfl (by rw [show m_maxL 102 = 4 from by decide +kernel]; exact Nat.le_of_ble_eq_true rfl)).trans ?_
  exact ite_congr (by simp [a_rcv, show m_recv 102 = 10 from by decide +kernel]) (fun _ => rfl) (fun _ => rfl)
theorem B_L_nextAt_15 {k : Nat → Nat × Nat} {u : Nat → Nat → Int} {g : Nat → Nat → Nat} {t : Nat × Nat × Nat} {r0 : Nat} {x1 : Int} {x2 : Int} {x3 : Int} {r4 : Nat} {v5 : AV} : a_X 309 15 [a_r (r0), a_i (x1), a_i (x2), a_i (x3), a_r (r4), v5] [a_x true] (k, u, g, t) = some (.inl (some (a_i (1))), (k, u, g, t)) := by
  refine (X_astoreX (m := 309) (pc := 15) (n := 5) (by decide +kernel) rfl (Nat.le_of_ble_eq_true rfl) rfl).trans ?_
  refine (X_iconst (m := 309) (pc := 17) (n := 1) (by decide +kernel) ).trans ?_
  exact X_ireturn (m := 309) (pc := 18) (f := 1) (by decide +kernel) (by decide +kernel) rfl
theorem B_L_nextAt_19 {k : Nat → Nat × Nat} {u : Nat → Nat → Int} {g : Nat → Nat → Nat} {t : Nat × Nat × Nat} {r0 : Nat} {x1 : Int} {x2 : Int} {x3 : Int} {r4 : Nat} {v5 : AV} : a_X 309 19 [a_r (r0), a_i (x1), a_i (x2), a_i (x3), a_r (r4), v5] [a_x true] (k, u, g, t) = some (.inl (some (a_i (2))), (k, u, g, t)) := by
  refine (X_astoreX (m := 309) (pc := 19) (n := 5) (by decide +kernel) rfl (Nat.le_of_ble_eq_true rfl) rfl).trans ?_
  refine (X_iconst (m := 309) (pc := 21) (n := 2) (by decide +kernel) ).trans ?_
  exact X_ireturn (m := 309) (pc := 22) (f := 1) (by decide +kernel) (by decide +kernel) rfl
theorem B_L_nextAt_23 {k : Nat → Nat × Nat} {u : Nat → Nat → Int} {g : Nat → Nat → Nat} {t : Nat × Nat × Nat} {r0 : Nat} {x1 : Int} {x2 : Int} {x3 : Int} {r4 : Nat} {v5 : AV} : a_X 309 23 [a_r (r0), a_i (x1), a_i (x2), a_i (x3), a_r (r4), v5] [a_x true] (k, u, g, t) = some (.inl (some (a_i (3))), (k, u, g, t)) := by
  refine (X_astoreX (m := 309) (pc := 23) (n := 5) (by decide +kernel) rfl (Nat.le_of_ble_eq_true rfl) rfl).trans ?_
  refine (X_iconst (m := 309) (pc := 25) (n := 3) (by decide +kernel) ).trans ?_
  exact X_ireturn (m := 309) (pc := 26) (f := 1) (by decide +kernel) (by decide +kernel) rfl
theorem B_L_nextAt_10 {k : Nat → Nat × Nat} {u : Nat → Nat → Int} {g : Nat → Nat → Nat} {t : Nat × Nat × Nat} {r0 : Nat} {x1 : Int} {x2 : Int} {x3 : Int} {r4 : Nat} {v5 : AV} {q0 : Nat} {y1 : Int} {y2 : Int} : a_X 309 10 [a_r (r0), a_i (x1), a_i (x2), a_i (x3), a_r (r4), v5] [a_i (y2), a_i (y1), a_r (q0)] (k, u, g, t) = if (k q0).1 = 22 ∧ 0 ≤ (y1 : Int) ∧ (y1 : Int) < ((k q0).2 : Int) then some (.inl (some (a_i (0))), (k, (upm u q0 (y1 : Int).toNat y2), g, t)) else none := by
  refine (X_i2l (m := 309) (pc := 10)  (by decide +kernel) ).trans ?_
  refine (X_lastore (m := 309) (pc := 11)  (by decide +kernel) ).trans ?_
  refine ite_congr rfl (fun _ => ?_) (fun _ => rfl)
  refine (X_goto (m := 309) (pc := 12) (off := 15) (tg := 27) (by decide +kernel) (by decide +kernel)).trans ?_
  refine (X_iconst (m := 309) (pc := 27) (n := 0) (by decide +kernel) ).trans ?_
  exact X_ireturn (m := 309) (pc := 28) (f := 1) (by decide +kernel) (by decide +kernel) rfl
theorem E_L_clashes {σ : AS} {r0 : Nat} {x1 : Int} {r2 : Nat} : a_m 310 [a_r (r0), a_i (x1), a_r (r2)] σ = a_X 310 0 [a_r (r0), a_i (x1), a_r (r2), a_x false] [] σ := a_m_eq (by rw [a_entry, show m_maxL 310 = 4 from by decide +kernel]; rfl)
theorem B_L_clashes_0 {k : Nat → Nat × Nat} {u : Nat → Nat → Int} {g : Nat → Nat → Nat} {t : Nat × Nat × Nat} {r0 : Nat} {x1 : Int} {r2 : Nat} {v3 : AV} : a_X 310 0 [a_r (r0), a_i (x1), a_r (r2), v3] [] (k, u, g, t) = if (k r0).1 = 10 then (a_m 103 [a_r (r0), a_i (x1)] (k, u, g, t)).bind (a_back 310 4 3 [a_r (r0), a_i (x1), a_r (r2), v3] [a_i (0), a_r (r2)]) else none := by
  refine (X_aload_n (m := 310) (pc := 0) (n := 2) (by decide +kernel) rfl).trans ?_
  refine (X_iconst (m := 310) (pc := 1) (n := 0) (by decide +kernel) ).trans ?_
  refine (X_aload_n (m := 310) (pc := 2) (n := 0) (by decide +kernel) rfl).trans ?_
  refine (X_iload_n (m := 310) (pc := 3) (n := 1) (by decide +kernel) rfl).trans ?_
  refine (X_call_vi (m := 310) (pc := 4) (q := 42) (y := 103) (n := 2) (as := [a_r (r0), a_i (x1)]) (rest := [a_i (0), a_r (r2)]) (by decide +kernel) (by decide +kernel) (by decide +kernel) (by decide +kernel) rfl rfl (Nat.le_of_ble_eq_true rfl) (Nat.le_of_ble_eq_true rfl) rfl (by rw [show m_maxL 103 = 2 from by decide +kernel]; exact Nat.le_of_ble_eq_true rfl)).trans ?_
  exact ite_congr (by simp [a_rcv, show m_recv 103 = 10 from by decide +kernel]) (fun _ => rfl) (fun _ => rfl)
theorem B_L_clashes_12 {k : Nat → Nat × Nat} {u : Nat → Nat → Int} {g : Nat → Nat → Nat} {t : Nat × Nat × Nat} {r0 : Nat} {x1 : Int} {r2 : Nat} {v3 : AV} : a_X 310 12 [a_r (r0), a_i (x1), a_r (r2), v3] [a_x true] (k, u, g, t) = some (.inl (some (a_i (1))), (k, u, g, t)) := by
  refine (X_astoreX_n (m := 310) (pc := 12) (n := 3) (by decide +kernel) rfl (Nat.le_of_ble_eq_true rfl) rfl).trans ?_
  refine (X_iconst (m := 310) (pc := 13) (n := 1) (by decide +kernel) ).trans ?_
  exact X_ireturn (m := 310) (pc := 14) (f := 1) (by decide +kernel) (by decide +kernel) rfl
theorem B_L_clashes_15 {k : Nat → Nat × Nat} {u : Nat → Nat → Int} {g : Nat → Nat → Nat} {t : Nat × Nat × Nat} {r0 : Nat} {x1 : Int} {r2 : Nat} {v3 : AV} : a_X 310 15 [a_r (r0), a_i (x1), a_r (r2), v3] [a_x true] (k, u, g, t) = some (.inl (some (a_i (2))), (k, u, g, t)) := by
  refine (X_astoreX_n (m := 310) (pc := 15) (n := 3) (by decide +kernel) rfl (Nat.le_of_ble_eq_true rfl) rfl).trans ?_
  refine (X_iconst (m := 310) (pc := 16) (n := 2) (by decide +kernel) ).trans ?_
  exact X_ireturn (m := 310) (pc := 17) (f := 1) (by decide +kernel) (by decide +kernel) rfl
theorem B_L_clashes_7 {k : Nat → Nat × Nat} {u : Nat → Nat → Int} {g : Nat → Nat → Nat} {t : Nat × Nat × Nat} {r0 : Nat} {x1 : Int} {r2 : Nat} {v3 : AV} {q0 : Nat} {y1 : Int} {y2 : Int} : a_X 310 7 [a_r (r0), a_i (x1), a_r (r2), v3] [a_i (y2), a_i (y1), a_r (q0)] (k, u, g, t) = if (k q0).1 = 22 ∧ 0 ≤ (y1 : Int) ∧ (y1 : Int) < ((k q0).2 : Int) then some (.inl (some (a_i (0))), (k, (upm u q0 (y1 : Int).toNat y2), g, t)) else none := by
  refine (X_i2l (m := 310) (pc := 7)  (by decide +kernel) ).trans ?_
  refine (X_lastore (m := 310) (pc := 8)  (by decide +kernel) ).trans ?_
  refine ite_congr rfl (fun _ => ?_) (fun _ => rfl)
  refine (X_goto (m := 310) (pc := 9) (off := 9) (tg := 18) (by decide +kernel) (by decide +kernel)).trans ?_
  refine (X_iconst (m := 310) (pc := 18) (n := 0) (by decide +kernel) ).trans ?_
  exact X_ireturn (m := 310) (pc := 19) (f := 1) (by decide +kernel) (by decide +kernel) rfl
theorem E_L_merged {σ : AS} {r0 : Nat} {x1 : Int} {x2 : Int} {r3 : Nat} : a_m 311 [a_r (r0), a_i (x1), a_i (x2), a_r (r3)] σ = a_X 311 0 [a_r (r0), a_i (x1), a_i (x2), a_r (r3), a_x false] [] σ := a_m_eq (by rw [a_entry, show m_maxL 311 = 5 from by decide +kernel]; rfl)
theorem B_L_merged_0 {k : Nat → Nat × Nat} {u : Nat → Nat → Int} {g : Nat → Nat → Nat} {t : Nat × Nat × Nat} {r0 : Nat} {x1 : Int} {x2 : Int} {r3 : Nat} {v4 : AV} : a_X 311 0 [a_r (r0), a_i (x1), a_i (x2), a_r (r3), v4] [] (k, u, g, t) = if (k r0).1 = 10 then (a_m 104 [a_r (r0), a_i (x1), a_i (x2)] (k, u, g, t)).bind (a_back 311 5 3 [a_r (r0), a_i (x1), a_i (x2), a_r (r3), v4] [a_i (0), a_r (r3)]) else none := by
  refine (X_aload_n (m := 311) (pc := 0) (n := 3) (by decide +kernel) rfl).trans ?_
  refine (X_iconst (m := 311) (pc := 1) (n := 0) (by decide +kernel) ).trans ?_
  refine (X_aload_n (m := 311) (pc := 2) (n := 0) (by decide +kernel) rfl).trans ?_
  refine (X_iload_n (m := 311) (pc := 3) (n := 1) (by decide +kernel) rfl).trans ?_
  refine (X_iload_n (m := 311) (pc := 4) (n := 2) (by decide +kernel) rfl).trans ?_
  refine (X_call_vi (m := 311) (pc := 5) (q := 45) (y := 104) (n := 3) (as := [a_r (r0), a_i (x1), a_i (x2)]) (rest := [a_i (0), a_r (r3)]) (by decide +kernel) (by decide +kernel) (by decide +kernel) (by decide +kernel) rfl rfl (Nat.le_of_ble_eq_true rfl) (Nat.le_of_ble_eq_true rfl) rfl (by rw [show m_maxL 104 = 3 from by decide +kernel]; exact Nat.le_of_ble_eq_true rfl)).trans ?_
  exact ite_congr (by simp [a_rcv, show m_recv 104 = 10 from by decide +kernel]) (fun _ => rfl) (fun _ => rfl)
theorem B_L_merged_13 {k : Nat → Nat × Nat} {u : Nat → Nat → Int} {g : Nat → Nat → Nat} {t : Nat × Nat × Nat} {r0 : Nat} {x1 : Int} {x2 : Int} {r3 : Nat} {v4 : AV} : a_X 311 13 [a_r (r0), a_i (x1), a_i (x2), a_r (r3), v4] [a_x true] (k, u, g, t) = some (.inl (some (a_i (1))), (k, u, g, t)) := by
  refine (X_astoreX (m := 311) (pc := 13) (n := 4) (by decide +kernel) rfl (Nat.le_of_ble_eq_true rfl) rfl).trans ?_
  refine (X_iconst (m := 311) (pc := 15) (n := 1) (by decide +kernel) ).trans ?_
  exact X_ireturn (m := 311) (pc := 16) (f := 1) (by decide +kernel) (by decide +kernel) rfl
theorem B_L_merged_17 {k : Nat → Nat × Nat} {u : Nat → Nat → Int} {g : Nat → Nat → Nat} {t : Nat × Nat × Nat} {r0 : Nat} {x1 : Int} {x2 : Int} {r3 : Nat} {v4 : AV} : a_X 311 17 [a_r (r0), a_i (x1), a_i (x2), a_r (r3), v4] [a_x true] (k, u, g, t) = some (.inl (some (a_i (2))), (k, u, g, t)) := by
  refine (X_astoreX (m := 311) (pc := 17) (n := 4) (by decide +kernel) rfl (Nat.le_of_ble_eq_true rfl) rfl).trans ?_
  refine (X_iconst (m := 311) (pc := 19) (n := 2) (by decide +kernel) ).trans ?_
  exact X_ireturn (m := 311) (pc := 20) (f := 1) (by decide +kernel) (by decide +kernel) rfl
theorem B_L_merged_21 {k : Nat → Nat × Nat} {u : Nat → Nat → Int} {g : Nat → Nat → Nat} {t : Nat × Nat × Nat} {r0 : Nat} {x1 : Int} {x2 : Int} {r3 : Nat} {v4 : AV} : a_X 311 21 [a_r (r0), a_i (x1), a_i (x2), a_r (r3), v4] [a_x true] (k, u, g, t) = some (.inl (some (a_i (3))), (k, u, g, t)) := by
  refine (X_astoreX (m := 311) (pc := 21) (n := 4) (by decide +kernel) rfl (Nat.le_of_ble_eq_true rfl) rfl).trans ?_
  refine (X_iconst (m := 311) (pc := 23) (n := 3) (by decide +kernel) ).trans ?_
  exact X_ireturn (m := 311) (pc := 24) (f := 1) (by decide +kernel) (by decide +kernel) rfl
theorem B_L_merged_8 {k : Nat → Nat × Nat} {u : Nat → Nat → Int} {g : Nat → Nat → Nat} {t : Nat × Nat × Nat} {r0 : Nat} {x1 : Int} {x2 : Int} {r3 : Nat} {v4 : AV} {q0 : Nat} {y1 : Int} {y2 : Int} : a_X 311 8 [a_r (r0), a_i (x1), a_i (x2), a_r (r3), v4] [a_i (y2), a_i (y1), a_r (q0)] (k, u, g, t) = if (k q0).1 = 22 ∧ 0 ≤ (y1 : Int) ∧ (y1 : Int) < ((k q0).2 : Int) then some (.inl (some (a_i (0))), (k, (upm u q0 (y1 : Int).toNat y2), g, t)) else none := by
  refine (X_i2l (m := 311) (pc := 8)  (by decide +kernel) ).trans ?_
  refine (X_lastore (m := 311) (pc := 9)  (by decide +kernel) ).trans ?_
  refine ite_congr rfl (fun _ => ?_) (fun _ => rfl)
  refine (X_goto (m := 311) (pc := 10) (off := 15) (tg := 25) (by decide +kernel) (by decide +kernel)).trans ?_
  refine (X_iconst (m := 311) (pc := 25) (n := 0) (by decide +kernel) ).trans ?_
  exact X_ireturn (m := 311) (pc := 26) (f := 1) (by decide +kernel) (by decide +kernel) rfl
theorem E_L_mergedStop {σ : AS} {r0 : Nat} {x1 : Int} {x2 : Int} {x3 : Int} {x4 : Int} {r5 : Nat} : a_m 312 [a_r (r0), a_i (x1), a_i (x2), a_i (x3), a_i (x4), a_r (r5)] σ = a_X 312 0 [a_r (r0), a_i (x1), a_i (x2), a_i (x3), a_i (x4), a_r (r5), a_x false] [] σ := a_m_eq (by rw [a_entry, show m_maxL 312 = 7 from by decide +kernel]; rfl)
theorem B_L_mergedStop_0 {k : Nat → Nat × Nat} {u : Nat → Nat → Int} {g : Nat → Nat → Nat} {t : Nat × Nat × Nat} {r0 : Nat} {x1 : Int} {x2 : Int} {x3 : Int} {x4 : Int} {r5 : Nat} {v6 : AV} : a_X 312 0 [a_r (r0), a_i (x1), a_i (x2), a_i (x3), a_i (x4), a_r (r5), v6] [] (k, u, g, t) = if (k r0).1 = 10 then (a_m 105 [a_r (r0), a_i (x1), a_i (x2), a_i (x3), a_i (x4)] (k, u, g, t)).bind (a_back 312 9 3 [a_r (r0), a_i (x1), a_i (x2), a_i (x3), a_i (x4), a_r (r5), v6] [a_i (0), a_r (r5)]) else none := by
  refine (X_aload (m := 312) (pc := 0) (n := 5) (by decide +kernel) rfl).trans ?_
  refine (X_iconst (m := 312) (pc := 2) (n := 0) (by decide +kernel) ).trans ?_
  refine (X_aload_n (m := 312) (pc := 3) (n := 0) (by decide +kernel) rfl).trans ?_
  refine (X_iload_n (m := 312) (pc := 4) (n := 1) (by decide +kernel) rfl).trans ?_
  refine (X_iload_n (m := 312) (pc := 5) (n := 2) (by decide +kernel) rfl).trans ?_
  refine (X_iload_n (m := 312) (pc := 6) (n := 3) (by decide +kernel) rfl).trans ?_
  refine (X_iload (m := 312) (pc := 7) (n := 4) (by decide +kernel) rfl).trans ?_
  refine (X_call_vi (m := 312) (pc := 9) (q := 48) (y := 105) (n := 5) (as := [a_r (r0), a_i (x1), a_i (x2), a_i (x3), a_i (x4)]) (rest := [a_i (0), a_r (r5)]) (by decide +kernel) (by decide +kernel) (by decide +kernel) (by decide +kernel) rfl rfl (Nat.le_of_ble_eq_true rfl) (Nat.le_of_ble_eq_true rfl) rfl (by rw [show m_maxL 105 = 5 from by decide +kernel]; exact Nat.le_of_ble_eq_true rfl)).trans ?_
  exact ite_congr (by simp [a_rcv, show m_recv 105 = 10 from by decide +kernel]) (fun _ => rfl) (fun _ => rfl)
theorem B_L_mergedStop_17 {k : Nat → Nat × Nat} {u : Nat → Nat → Int} {g : Nat → Nat → Nat} {t : Nat × Nat × Nat} {r0 : Nat} {x1 : Int} {x2 : Int} {x3 : Int} {x4 : Int} {r5 : Nat} {v6 : AV} : a_X 312 17 [a_r (r0), a_i (x1), a_i (x2), a_i (x3), a_i (x4), a_r (r5), v6] [a_x true] (k, u, g, t) = some (.inl (some (a_i (1))), (k, u, g, t)) := by
  refine (X_astoreX (m := 312) (pc := 17) (n := 6) (by decide +kernel) rfl (Nat.le_of_ble_eq_true rfl) rfl).trans ?_
  refine (X_iconst (m := 312) (pc := 19) (n := 1) (by decide +kernel) ).trans ?_
  exact X_ireturn (m := 312) (pc := 20) (f := 1) (by decide +kernel) (by decide +kernel) rfl
theorem B_L_mergedStop_21 {k : Nat → Nat × Nat} {u : Nat → Nat → Int} {g : Nat → Nat → Nat} {t : Nat × Nat × Nat} {r0 : Nat} {x1 : Int} {x2 : Int} {x3 : Int} {x4 : Int} {r5 : Nat} {v6 : AV} : a_X 312 21 [a_r (r0), a_i (x1), a_i (x2), a_i (x3), a_i (x4), a_r (r5), v6] [a_x true] (k, u, g, t) = some (.inl (some (a_i (2))), (k, u, g, t)) := by
  refine (X_astoreX (m := 312) (pc := 21) (n := 6) (by decide +kernel) rfl (Nat.le_of_ble_eq_true rfl) rfl).trans ?_
  refine (X_iconst (m := 312) (pc := 23) (n := 2) (by decide +kernel) ).trans ?_
  exact X_ireturn (m := 312) (pc := 24) (f := 1) (by decide +kernel) (by decide +kernel) rfl
theorem B_L_mergedStop_25 {k : Nat → Nat × Nat} {u : Nat → Nat → Int} {g : Nat → Nat → Nat} {t : Nat × Nat × Nat} {r0 : Nat} {x1 : Int} {x2 : Int} {x3 : Int} {x4 : Int} {r5 : Nat} {v6 : AV} : a_X 312 25 [a_r (r0), a_i (x1), a_i (x2), a_i (x3), a_i (x4), a_r (r5), v6] [a_x true] (k, u, g, t) = some (.inl (some (a_i (3))), (k, u, g, t)) := by
  refine (X_astoreX (m := 312) (pc := 25) (n := 6) (by decide +kernel) rfl (Nat.le_of_ble_eq_true rfl) rfl).trans ?_
  refine (X_iconst (m := 312) (pc := 27) (n := 3) (by decide +kernel) ).trans ?_
  exact X_ireturn (m := 312) (pc := 28) (f := 1) (by decide +kernel) (by decide +kernel) rfl
theorem B_L_mergedStop_12 {k : Nat → Nat × Nat} {u : Nat → Nat → Int} {g : Nat → Nat → Nat} {t : Nat × Nat × Nat} {r0 : Nat} {x1 : Int} {x2 : Int} {x3 : Int} {x4 : Int} {r5 : Nat} {v6 : AV} {q0 : Nat} {y1 : Int} {y2 : Int} : a_X 312 12 [a_r (r0), a_i (x1), a_i (x2), a_i (x3), a_i (x4), a_r (r5), v6] [a_i (y2), a_i (y1), a_r (q0)] (k, u, g, t) = if (k q0).1 = 22 ∧ 0 ≤ (y1 : Int) ∧ (y1 : Int) < ((k q0).2 : Int) then some (.inl (some (a_i (0))), (k, (upm u q0 (y1 : Int).toNat y2), g, t)) else none := by
  refine (X_i2l (m := 312) (pc := 12)  (by decide +kernel) ).trans ?_
  refine (X_lastore (m := 312) (pc := 13)  (by decide +kernel) ).trans ?_
  refine ite_congr rfl (fun _ => ?_) (fun _ => rfl)
  refine (X_goto (m := 312) (pc := 14) (off := 15) (tg := 29) (by decide +kernel) (by decide +kernel)).trans ?_
  refine (X_iconst (m := 312) (pc := 29) (n := 0) (by decide +kernel) ).trans ?_
  exact X_ireturn (m := 312) (pc := 30) (f := 1) (by decide +kernel) (by decide +kernel) rfl
theorem E_L_listener {σ : AS} {r0 : Nat} {x1 : Int} {x2 : Int} {r3 : Nat} : a_m 313 [a_r (r0), a_i (x1), a_i (x2), a_r (r3)] σ = a_X 313 0 [a_r (r0), a_i (x1), a_i (x2), a_r (r3), a_x false] [] σ := a_m_eq (by rw [a_entry, show m_maxL 313 = 5 from by decide +kernel]; rfl)
theorem B_L_listener_0 {k : Nat → Nat × Nat} {u : Nat → Nat → Int} {g : Nat → Nat → Nat} {t : Nat × Nat × Nat} {r0 : Nat} {x1 : Int} {x2 : Int} {r3 : Nat} {v4 : AV} : a_X 313 0 [a_r (r0), a_i (x1), a_i (x2), a_r (r3), v4] [] (k, u, g, t) = if (k r0).1 = 10 then (a_m 106 [a_r (r0), a_i (x1), a_i (x2)] (k, u, g, t)).bind (a_back 313 5 3 [a_r (r0), a_i (x1), a_i (x2), a_r (r3), v4] [a_i (0), a_r (r3)]) else none := by
  refine (X_aload_n (m := 313) (pc := 0) (n := 3) (by decide +kernel) rfl).trans ?_
  refine (X_iconst (m := 313) (pc := 1) (n := 0) (by decide +kernel) ).trans ?_
  refine (X_aload_n (m := 313) (pc := 2) (n := 0) (by decide +kernel) rfl).trans ?_
  refine (X_iload_n (m := 313) (pc := 3) (n := 1) (by decide +kernel) rfl).trans ?_
  refine (X_iload_n (m := 313) (pc := 4) (n := 2) (by decide +kernel) rfl).trans ?_
  refine (X_call_vi (m := 313) (pc := 5) (q := 52) (y := 106) (n := 3) (as := [a_r (r0), a_i (x1), a_i (x2)]) (rest := [a_i (0), a_r (r3)]) (by decide +kernel) (by decide +kernel) (by decide +kernel) (by decide +kernel) rfl rfl (Nat.le_of_ble_eq_true rfl) (Nat.le_of_ble_eq_true rfl) rfl (by rw [show m_maxL 106 = 4 from by decide +kernel]; exact Nat.le_of_ble_eq_true rfl)).trans ?_
  exact ite_congr (by simp [a_rcv, show m_recv 106 = 10 from by decide +kernel]) (fun _ => rfl) (fun _ => rfl)
theorem B_L_listener_13 {k : Nat → Nat × Nat} {u : Nat → Nat → Int} {g : Nat → Nat → Nat} {t : Nat × Nat × Nat} {r0 : Nat} {x1 : Int} {x2 : Int} {r3 : Nat} {v4 : AV} : a_X 313 13 [a_r (r0), a_i (x1), a_i (x2), a_r (r3), v4] [a_x true] (k, u, g, t) = some (.inl (some (a_i (1))), (k, u, g, t)) := by
  refine (X_astoreX (m := 313) (pc := 13) (n := 4) (by decide +kernel) rfl (Nat.le_of_ble_eq_true rfl) rfl).trans ?_
  refine (X_iconst (m := 313) (pc := 15) (n := 1) (by decide +kernel) ).trans ?_
  exact X_ireturn (m := 313) (pc := 16) (f := 1) (by decide +kernel) (by decide +kernel) rfl
theorem B_L_listener_17 {k : Nat → Nat × Nat} {u : Nat → Nat → Int} {g : Nat → Nat → Nat} {t : Nat × Nat × Nat} {r0 : Nat} {x1 : Int} {x2 : Int} {r3 : Nat} {v4 : AV} : a_X 313 17 [a_r (r0), a_i (x1), a_i (x2), a_r (r3), v4] [a_x true] (k, u, g, t) = some (.inl (some (a_i (2))), (k, u, g, t)) := by
  refine (X_astoreX (m := 313) (pc := 17) (n := 4) (by decide +kernel) rfl (Nat.le_of_ble_eq_true rfl) rfl).trans ?_
  refine (X_iconst (m := 313) (pc := 19) (n := 2) (by decide +kernel) ).trans ?_
  exact X_ireturn (m := 313) (pc := 20) (f := 1) (by decide +kernel) (by decide +kernel) rfl
theorem B_L_listener_21 {k : Nat → Nat × Nat} {u : Nat → Nat → Int} {g : Nat → Nat → Nat} {t : Nat × Nat × Nat} {r0 : Nat} {x1 : Int} {x2 : Int} {r3 : Nat} {v4 : AV} : a_X 313 21 [a_r (r0), a_i (x1), a_i (x2), a_r (r3), v4] [a_x true] (k, u, g, t) = some (.inl (some (a_i (3))), (k, u, g, t)) := by
  refine (X_astoreX (m := 313) (pc := 21) (n := 4) (by decide +kernel) rfl (Nat.le_of_ble_eq_true rfl) rfl).trans ?_
  refine (X_iconst (m := 313) (pc := 23) (n := 3) (by decide +kernel) ).trans ?_
  exact X_ireturn (m := 313) (pc := 24) (f := 1) (by decide +kernel) (by decide +kernel) rfl
theorem B_L_listener_8 {k : Nat → Nat × Nat} {u : Nat → Nat → Int} {g : Nat → Nat → Nat} {t : Nat × Nat × Nat} {r0 : Nat} {x1 : Int} {x2 : Int} {r3 : Nat} {v4 : AV} {q0 : Nat} {y1 : Int} {y2 : Int} : a_X 313 8 [a_r (r0), a_i (x1), a_i (x2), a_r (r3), v4] [a_i (y2), a_i (y1), a_r (q0)] (k, u, g, t) = if (k q0).1 = 22 ∧ 0 ≤ (y1 : Int) ∧ (y1 : Int) < ((k q0).2 : Int) then some (.inl (some (a_i (0))), (k, (upm u q0 (y1 : Int).toNat y2), g, t)) else none := by
  refine (X_i2l (m := 313) (pc := 8)  (by decide +kernel) ).trans ?_
  refine (X_lastore (m := 313) (pc := 9)  (by decide +kernel) ).trans ?_
  refine ite_congr rfl (fun _ => ?_) (fun _ => rfl)
  refine (X_goto (m := 313) (pc := 10) (off := 15) (tg := 25) (by decide +kernel) (by decide +kernel)).trans ?_
  refine (X_iconst (m := 313) (pc := 25) (n := 0) (by decide +kernel) ).trans ?_
  exact X_ireturn (m := 313) (pc := 26) (f := 1) (by decide +kernel) (by decide +kernel) rfl
theorem E_L_gap {σ : AS} {r0 : Nat} {x1 : Int} {x2 : Int} {x3 : Int} {r4 : Nat} : a_m 314 [a_r (r0), a_i (x1), a_i (x2), a_i (x3), a_r (r4)] σ = a_X 314 0 [a_r (r0), a_i (x1), a_i (x2), a_i (x3), a_r (r4), a_x false] [] σ := a_m_eq (by rw [a_entry, show m_maxL 314 = 6 from by decide +kernel]; rfl)
theorem B_L_gap_0 {k : Nat → Nat × Nat} {u : Nat → Nat → Int} {g : Nat → Nat → Nat} {t : Nat × Nat × Nat} {r0 : Nat} {x1 : Int} {x2 : Int} {x3 : Int} {r4 : Nat} {v5 : AV} : a_X 314 0 [a_r (r0), a_i (x1), a_i (x2), a_i (x3), a_r (r4), v5] [] (k, u, g, t) = if (k r0).1 = 10 then (a_m 107 [a_r (r0), a_i (x1), a_i (x2), a_i (x3)] (k, u, g, t)).bind (a_back 314 7 3 [a_r (r0), a_i (x1), a_i (x2), a_i (x3), a_r (r4), v5] [a_i (0), a_r (r4)]) else none := by
  refine (X_aload (m := 314) (pc := 0) (n := 4) (by decide +kernel) rfl).trans ?_
  refine (X_iconst (m := 314) (pc := 2) (n := 0) (by decide +kernel) ).trans ?_
  refine (X_aload_n (m := 314) (pc := 3) (n := 0) (by decide +kernel) rfl).trans ?_
  refine (X_iload_n (m := 314) (pc := 4) (n := 1) (by decide +kernel) rfl).trans ?_
  refine (X_iload_n (m := 314) (pc := 5) (n := 2) (by decide +kernel) rfl).trans ?_
  refine (X_iload_n (m := 314) (pc := 6) (n := 3) (by decide +kernel) rfl).trans ?_
  refine (X_call_vi (m := 314) (pc := 7) (q := 55) (y := 107) (n := 4) (as := [a_r (r0), a_i (x1), a_i (x2), a_i (x3)]) (rest := [a_i (0), a_r (r4)]) (by decide +kernel) (by decide +kernel) (by decide +kernel) (by decide +kernel) rfl rfl (Nat.le_of_ble_eq_true rfl) (Nat.le_of_ble_eq_true rfl) rfl (by rw [show m_maxL 107 = 5 from by decide +kernel]; exact Nat.le_of_ble_eq_true rfl)).trans ?_
  exact ite_congr (by simp [a_rcv, show m_recv 107 = 10 from by decide +kernel]) (fun _ => rfl) (fun _ => rfl)
theorem B_L_gap_15 {k : Nat → Nat × Nat} {u : Nat → Nat → Int} {g : Nat → Nat → Nat} {t : Nat × Nat × Nat} {r0 : Nat} {x1 : Int} {x2 : Int} {x3 : Int} {r4 : Nat} {v5 : AV} : a_X 314 15 [a_r (r0), a_i (x1), a_i (x2), a_i (x3), a_r (r4), v5] [a_x true] (k, u, g, t) = some (.inl (some (a_i (1))), (k, u, g, t)) := by
  refine (X_astoreX (m := 314) (pc := 15) (n := 5) (by decide +kernel) rfl (Nat.le_of_ble_eq_true rfl) rfl).trans ?_
  refine (X_iconst (m := 314) (pc := 17) (n := 1) (by decide +kernel) ).trans ?_
  exact X_ireturn (m := 314) (pc := 18) (f := 1) (by decide +kernel) (by decide +kernel) rfl
theorem B_L_gap_19 {k : Nat → Nat × Nat} {u : Nat → Nat → Int} {g : Nat → Nat → Nat} {t : Nat × Nat × Nat} {r0 : Nat} {x1 : Int} {x2 : Int} {x3 : Int} {r4 : Nat} {v5 : AV} : a_X 314 19 [a_r (r0), a_i (x1), a_i (x2), a_i (x3), a_r (r4), v5] [a_x true] (k, u, g, t) = some (.inl (some (a_i (2))), (k, u, g, t)) := by
  refine (X_astoreX (m := 314) (pc := 19) (n := 5) (by decide +kernel) rfl (Nat.le_of_ble_eq_true rfl) rfl).trans ?_
  refine (X_iconst (m := 314) (pc := 21) (n := 2) (by decide +kernel) ).trans ?_
  exact X_ireturn (m := 314) (pc := 22) (f := 1) (by decide +kernel) (by decide +kernel) rfl
theorem B_L_gap_23 {k : Nat → Nat × Nat} {u : Nat → Nat → Int} {g : Nat → Nat → Nat} {t : Nat × Nat × Nat} {r0 : Nat} {x1 : Int} {x2 : Int} {x3 : Int} {r4 : Nat} {v5 : AV} : a_X 314 23 [a_r (r0), a_i (x1), a_i (x2), a_i (x3), a_r (r4), v5] [a_x true] (k, u, g, t) = some (.inl (some (a_i (3))), (k, u, g, t)) := by
  refine (X_astoreX (m := 314) (pc := 23) (n := 5) (by decide +kernel) rfl (Nat.le_of_ble_eq_true rfl) rfl).trans ?_
  refine (X_iconst (m := 314) (pc := 25) (n := 3) (by decide +kernel) ).trans ?_
  exact X_ireturn (m := 314) (pc := 26) (f := 1) (by decide +kernel) (by decide +kernel) rfl
theorem B_L_gap_10 {k : Nat → Nat × Nat} {u : Nat → Nat → Int} {g : Nat → Nat → Nat} {t : Nat × Nat × Nat} {r0 : Nat} {x1 : Int} {x2 : Int} {x3 : Int} {r4 : Nat} {v5 : AV} {q0 : Nat} {y1 : Int} {y2 : Int} : a_X 314 10 [a_r (r0), a_i (x1), a_i (x2), a_i (x3), a_r (r4), v5] [a_i (y2), a_i (y1), a_r (q0)] (k, u, g, t) = if (k q0).1 = 22 ∧ 0 ≤ (y1 : Int) ∧ (y1 : Int) < ((k q0).2 : Int) then some (.inl (some (a_i (0))), (k, (upm u q0 (y1 : Int).toNat y2), g, t)) else none := by
  refine (X_i2l (m := 314) (pc := 10)  (by decide +kernel) ).trans ?_
  refine (X_lastore (m := 314) (pc := 11)  (by decide +kernel) ).trans ?_
  refine ite_congr rfl (fun _ => ?_) (fun _ => rfl)
  refine (X_goto (m := 314) (pc := 12) (off := 15) (tg := 27) (by decide +kernel) (by decide +kernel)).trans ?_
  refine (X_iconst (m := 314) (pc := 27) (n := 0) (by decide +kernel) ).trans ?_
  exact X_ireturn (m := 314) (pc := 28) (f := 1) (by decide +kernel) (by decide +kernel) rfl
theorem E_L_hasHeard {σ : AS} {r0 : Nat} {x1 : Int} {x2 : Int} {r3 : Nat} : a_m 315 [a_r (r0), a_i (x1), a_i (x2), a_r (r3)] σ = a_X 315 0 [a_r (r0), a_i (x1), a_i (x2), a_r (r3), a_x false] [] σ := a_m_eq (by rw [a_entry, show m_maxL 315 = 5 from by decide +kernel]; rfl)
theorem B_L_hasHeard_0 {k : Nat → Nat × Nat} {u : Nat → Nat → Int} {g : Nat → Nat → Nat} {t : Nat × Nat × Nat} {r0 : Nat} {x1 : Int} {x2 : Int} {r3 : Nat} {v4 : AV} : a_X 315 0 [a_r (r0), a_i (x1), a_i (x2), a_r (r3), v4] [] (k, u, g, t) = if (k r0).1 = 10 then (a_m 108 [a_r (r0), a_i (x1), a_i (x2)] (k, u, g, t)).bind (a_back 315 5 3 [a_r (r0), a_i (x1), a_i (x2), a_r (r3), v4] [a_i (0), a_r (r3)]) else none := by
  refine (X_aload_n (m := 315) (pc := 0) (n := 3) (by decide +kernel) rfl).trans ?_
  refine (X_iconst (m := 315) (pc := 1) (n := 0) (by decide +kernel) ).trans ?_
  refine (X_aload_n (m := 315) (pc := 2) (n := 0) (by decide +kernel) rfl).trans ?_
  refine (X_iload_n (m := 315) (pc := 3) (n := 1) (by decide +kernel) rfl).trans ?_
  refine (X_iload_n (m := 315) (pc := 4) (n := 2) (by decide +kernel) rfl).trans ?_
  refine (X_call_vi (m := 315) (pc := 5) (q := 58) (y := 108) (n := 3) (as := [a_r (r0), a_i (x1), a_i (x2)]) (rest := [a_i (0), a_r (r3)]) (by decide +kernel) (by decide +kernel) (by decide +kernel) (by decide +kernel) rfl rfl (Nat.le_of_ble_eq_true rfl) (Nat.le_of_ble_eq_true rfl) rfl (by rw [show m_maxL 108 = 3 from by decide +kernel]; exact Nat.le_of_ble_eq_true rfl)).trans ?_
  exact ite_congr (by simp [a_rcv, show m_recv 108 = 10 from by decide +kernel]) (fun _ => rfl) (fun _ => rfl)
theorem B_L_hasHeard_20 {k : Nat → Nat × Nat} {u : Nat → Nat → Int} {g : Nat → Nat → Nat} {t : Nat × Nat × Nat} {r0 : Nat} {x1 : Int} {x2 : Int} {r3 : Nat} {v4 : AV} : a_X 315 20 [a_r (r0), a_i (x1), a_i (x2), a_r (r3), v4] [a_x true] (k, u, g, t) = some (.inl (some (a_i (1))), (k, u, g, t)) := by
  refine (X_astoreX (m := 315) (pc := 20) (n := 4) (by decide +kernel) rfl (Nat.le_of_ble_eq_true rfl) rfl).trans ?_
  refine (X_iconst (m := 315) (pc := 22) (n := 1) (by decide +kernel) ).trans ?_
  exact X_ireturn (m := 315) (pc := 23) (f := 1) (by decide +kernel) (by decide +kernel) rfl
theorem B_L_hasHeard_24 {k : Nat → Nat × Nat} {u : Nat → Nat → Int} {g : Nat → Nat → Nat} {t : Nat × Nat × Nat} {r0 : Nat} {x1 : Int} {x2 : Int} {r3 : Nat} {v4 : AV} : a_X 315 24 [a_r (r0), a_i (x1), a_i (x2), a_r (r3), v4] [a_x true] (k, u, g, t) = some (.inl (some (a_i (2))), (k, u, g, t)) := by
  refine (X_astoreX (m := 315) (pc := 24) (n := 4) (by decide +kernel) rfl (Nat.le_of_ble_eq_true rfl) rfl).trans ?_
  refine (X_iconst (m := 315) (pc := 26) (n := 2) (by decide +kernel) ).trans ?_
  exact X_ireturn (m := 315) (pc := 27) (f := 1) (by decide +kernel) (by decide +kernel) rfl
theorem B_L_hasHeard_8 {k : Nat → Nat × Nat} {u : Nat → Nat → Int} {g : Nat → Nat → Nat} {t : Nat × Nat × Nat} {r0 : Nat} {x1 : Int} {x2 : Int} {r3 : Nat} {v4 : AV} {q0 : Nat} {y1 : Int} {y2 : Int} : a_X 315 8 [a_r (r0), a_i (x1), a_i (x2), a_r (r3), v4] [a_i (y2), a_i (y1), a_r (q0)] (k, u, g, t) = if (y2 : Int) = 0 then if (k q0).1 = 22 ∧ 0 ≤ (y1 : Int) ∧ (y1 : Int) < ((k q0).2 : Int) then some (.inl (some (a_i (0))), (k, (upm u q0 (y1 : Int).toNat 0), g, t)) else none else if (k q0).1 = 22 ∧ 0 ≤ (y1 : Int) ∧ (y1 : Int) < ((k q0).2 : Int) then some (.inl (some (a_i (0))), (k, (upm u q0 (y1 : Int).toNat 1), g, t)) else none := by
  refine (X_if_eq (m := 315) (pc := 8) (off := 7) (tg := 15) (by decide +kernel) (by decide +kernel)).trans ?_
  refine ite_congr rfl (fun _ => ?_) (fun _ => ?_)
  · refine (X_lconst (m := 315) (pc := 15) (n := 0) (by decide +kernel) ).trans ?_
    refine (X_lastore (m := 315) (pc := 16)  (by decide +kernel) ).trans ?_
    refine ite_congr rfl (fun _ => ?_) (fun _ => rfl)
    refine (X_goto (m := 315) (pc := 17) (off := 11) (tg := 28) (by decide +kernel) (by decide +kernel)).trans ?_
    refine (X_iconst (m := 315) (pc := 28) (n := 0) (by decide +kernel) ).trans ?_
    exact X_ireturn (m := 315) (pc := 29) (f := 1) (by decide +kernel) (by decide +kernel) rfl
  · refine (X_lconst (m := 315) (pc := 11) (n := 1) (by decide +kernel) ).trans ?_
    refine (X_goto (m := 315) (pc := 12) (off := 4) (tg := 16) (by decide +kernel) (by decide +kernel)).trans ?_
    refine (X_lastore (m := 315) (pc := 16)  (by decide +kernel) ).trans ?_
    refine ite_congr rfl (fun _ => ?_) (fun _ => rfl)
    refine (X_goto (m := 315) (pc := 17) (off := 11) (tg := 28) (by decide +kernel) (by decide +kernel)).trans ?_
    refine (X_iconst (m := 315) (pc := 28) (n := 0) (by decide +kernel) ).trans ?_
    exact X_ireturn (m := 315) (pc := 29) (f := 1) (by decide +kernel) (by decide +kernel) rfl
theorem E_L_missing {σ : AS} {r0 : Nat} {x1 : Int} {x2 : Int} {r3 : Nat} : a_m 316 [a_r (r0), a_i (x1), a_i (x2), a_r (r3)] σ = a_X 316 0 [a_r (r0), a_i (x1), a_i (x2), a_r (r3), a_x false] [] σ := a_m_eq (by rw [a_entry, show m_maxL 316 = 5 from by decide +kernel]; rfl)
theorem B_L_missing_0 {k : Nat → Nat × Nat} {u : Nat → Nat → Int} {g : Nat → Nat → Nat} {t : Nat × Nat × Nat} {r0 : Nat} {x1 : Int} {x2 : Int} {r3 : Nat} {v4 : AV} : a_X 316 0 [a_r (r0), a_i (x1), a_i (x2), a_r (r3), v4] [] (k, u, g, t) = if (k r0).1 = 10 then (a_m 109 [a_r (r0), a_i (x1), a_i (x2)] (k, u, g, t)).bind (a_back 316 5 3 [a_r (r0), a_i (x1), a_i (x2), a_r (r3), v4] [a_i (0), a_r (r3)]) else none := by
  refine (X_aload_n (m := 316) (pc := 0) (n := 3) (by decide +kernel) rfl).trans ?_
  refine (X_iconst (m := 316) (pc := 1) (n := 0) (by decide +kernel) ).trans ?_
  refine (X_aload_n (m := 316) (pc := 2) (n := 0) (by decide +kernel) rfl).trans ?_
  refine (X_iload_n (m := 316) (pc := 3) (n := 1) (by decide +kernel) rfl).trans ?_
  refine (X_iload_n (m := 316) (pc := 4) (n := 2) (by decide +kernel) rfl).trans ?_
  refine (X_call_vi (m := 316) (pc := 5) (q := 62) (y := 109) (n := 3) (as := [a_r (r0), a_i (x1), a_i (x2)]) (rest := [a_i (0), a_r (r3)]) (by decide +kernel) (by decide +kernel) (by decide +kernel) (by decide +kernel) rfl rfl (Nat.le_of_ble_eq_true rfl) (Nat.le_of_ble_eq_true rfl) rfl (by rw [show m_maxL 109 = 5 from by decide +kernel]; exact Nat.le_of_ble_eq_true rfl)).trans ?_
  exact ite_congr (by simp [a_rcv, show m_recv 109 = 10 from by decide +kernel]) (fun _ => rfl) (fun _ => rfl)
theorem B_L_missing_13 {k : Nat → Nat × Nat} {u : Nat → Nat → Int} {g : Nat → Nat → Nat} {t : Nat × Nat × Nat} {r0 : Nat} {x1 : Int} {x2 : Int} {r3 : Nat} {v4 : AV} : a_X 316 13 [a_r (r0), a_i (x1), a_i (x2), a_r (r3), v4] [a_x true] (k, u, g, t) = some (.inl (some (a_i (1))), (k, u, g, t)) := by
  refine (X_astoreX (m := 316) (pc := 13) (n := 4) (by decide +kernel) rfl (Nat.le_of_ble_eq_true rfl) rfl).trans ?_
  refine (X_iconst (m := 316) (pc := 15) (n := 1) (by decide +kernel) ).trans ?_
  exact X_ireturn (m := 316) (pc := 16) (f := 1) (by decide +kernel) (by decide +kernel) rfl
theorem B_L_missing_17 {k : Nat → Nat × Nat} {u : Nat → Nat → Int} {g : Nat → Nat → Nat} {t : Nat × Nat × Nat} {r0 : Nat} {x1 : Int} {x2 : Int} {r3 : Nat} {v4 : AV} : a_X 316 17 [a_r (r0), a_i (x1), a_i (x2), a_r (r3), v4] [a_x true] (k, u, g, t) = some (.inl (some (a_i (2))), (k, u, g, t)) := by
  refine (X_astoreX (m := 316) (pc := 17) (n := 4) (by decide +kernel) rfl (Nat.le_of_ble_eq_true rfl) rfl).trans ?_
  refine (X_iconst (m := 316) (pc := 19) (n := 2) (by decide +kernel) ).trans ?_
  exact X_ireturn (m := 316) (pc := 20) (f := 1) (by decide +kernel) (by decide +kernel) rfl
theorem B_L_missing_8 {k : Nat → Nat × Nat} {u : Nat → Nat → Int} {g : Nat → Nat → Nat} {t : Nat × Nat × Nat} {r0 : Nat} {x1 : Int} {x2 : Int} {r3 : Nat} {v4 : AV} {q0 : Nat} {y1 : Int} {y2 : Int} : a_X 316 8 [a_r (r0), a_i (x1), a_i (x2), a_r (r3), v4] [a_i (y2), a_i (y1), a_r (q0)] (k, u, g, t) = if (k q0).1 = 22 ∧ 0 ≤ (y1 : Int) ∧ (y1 : Int) < ((k q0).2 : Int) then some (.inl (some (a_i (0))), (k, (upm u q0 (y1 : Int).toNat y2), g, t)) else none := by
  refine (X_i2l (m := 316) (pc := 8)  (by decide +kernel) ).trans ?_
  refine (X_lastore (m := 316) (pc := 9)  (by decide +kernel) ).trans ?_
  refine ite_congr rfl (fun _ => ?_) (fun _ => rfl)
  refine (X_goto (m := 316) (pc := 10) (off := 11) (tg := 21) (by decide +kernel) (by decide +kernel)).trans ?_
  refine (X_iconst (m := 316) (pc := 21) (n := 0) (by decide +kernel) ).trans ?_
  exact X_ireturn (m := 316) (pc := 22) (f := 1) (by decide +kernel) (by decide +kernel) rfl
theorem E_L_isSame {σ : AS} {r0 : Nat} {x1 : Int} {x2 : Int} {r3 : Nat} : a_m 317 [a_r (r0), a_i (x1), a_i (x2), a_r (r3)] σ = a_X 317 0 [a_r (r0), a_i (x1), a_i (x2), a_r (r3), a_x false] [] σ := a_m_eq (by rw [a_entry, show m_maxL 317 = 5 from by decide +kernel]; rfl)
theorem B_L_isSame_0 {k : Nat → Nat × Nat} {u : Nat → Nat → Int} {g : Nat → Nat → Nat} {t : Nat × Nat × Nat} {r0 : Nat} {x1 : Int} {x2 : Int} {r3 : Nat} {v4 : AV} : a_X 317 0 [a_r (r0), a_i (x1), a_i (x2), a_r (r3), v4] [] (k, u, g, t) = if (k r0).1 = 10 then (a_m 110 [a_r (r0), a_i (x1), a_i (x2)] (k, u, g, t)).bind (a_back 317 5 3 [a_r (r0), a_i (x1), a_i (x2), a_r (r3), v4] [a_i (0), a_r (r3)]) else none := by
  refine (X_aload_n (m := 317) (pc := 0) (n := 3) (by decide +kernel) rfl).trans ?_
  refine (X_iconst (m := 317) (pc := 1) (n := 0) (by decide +kernel) ).trans ?_
  refine (X_aload_n (m := 317) (pc := 2) (n := 0) (by decide +kernel) rfl).trans ?_
  refine (X_iload_n (m := 317) (pc := 3) (n := 1) (by decide +kernel) rfl).trans ?_
  refine (X_iload_n (m := 317) (pc := 4) (n := 2) (by decide +kernel) rfl).trans ?_
  refine (X_call_vi (m := 317) (pc := 5) (q := 65) (y := 110) (n := 3) (as := [a_r (r0), a_i (x1), a_i (x2)]) (rest := [a_i (0), a_r (r3)]) (by decide +kernel) (by decide +kernel) (by decide +kernel) (by decide +kernel) rfl rfl (Nat.le_of_ble_eq_true rfl) (Nat.le_of_ble_eq_true rfl) rfl (by rw [show m_maxL 110 = 3 from by decide +kernel]; exact Nat.le_of_ble_eq_true rfl)).trans ?_
  exact ite_congr (by simp [a_rcv, show m_recv 110 = 10 from by decide +kernel]) (fun _ => rfl) (fun _ => rfl)
theorem B_L_isSame_20 {k : Nat → Nat × Nat} {u : Nat → Nat → Int} {g : Nat → Nat → Nat} {t : Nat × Nat × Nat} {r0 : Nat} {x1 : Int} {x2 : Int} {r3 : Nat} {v4 : AV} : a_X 317 20 [a_r (r0), a_i (x1), a_i (x2), a_r (r3), v4] [a_x true] (k, u, g, t) = some (.inl (some (a_i (1))), (k, u, g, t)) := by
  refine (X_astoreX (m := 317) (pc := 20) (n := 4) (by decide +kernel) rfl (Nat.le_of_ble_eq_true rfl) rfl).trans ?_
  refine (X_iconst (m := 317) (pc := 22) (n := 1) (by decide +kernel) ).trans ?_
  exact X_ireturn (m := 317) (pc := 23) (f := 1) (by decide +kernel) (by decide +kernel) rfl
theorem B_L_isSame_24 {k : Nat → Nat × Nat} {u : Nat → Nat → Int} {g : Nat → Nat → Nat} {t : Nat × Nat × Nat} {r0 : Nat} {x1 : Int} {x2 : Int} {r3 : Nat} {v4 : AV} : a_X 317 24 [a_r (r0), a_i (x1), a_i (x2), a_r (r3), v4] [a_x true] (k, u, g, t) = some (.inl (some (a_i (2))), (k, u, g, t)) := by
  refine (X_astoreX (m := 317) (pc := 24) (n := 4) (by decide +kernel) rfl (Nat.le_of_ble_eq_true rfl) rfl).trans ?_
  refine (X_iconst (m := 317) (pc := 26) (n := 2) (by decide +kernel) ).trans ?_
  exact X_ireturn (m := 317) (pc := 27) (f := 1) (by decide +kernel) (by decide +kernel) rfl
theorem B_L_isSame_8 {k : Nat → Nat × Nat} {u : Nat → Nat → Int} {g : Nat → Nat → Nat} {t : Nat × Nat × Nat} {r0 : Nat} {x1 : Int} {x2 : Int} {r3 : Nat} {v4 : AV} {q0 : Nat} {y1 : Int} {y2 : Int} : a_X 317 8 [a_r (r0), a_i (x1), a_i (x2), a_r (r3), v4] [a_i (y2), a_i (y1), a_r (q0)] (k, u, g, t) = if (y2 : Int) = 0 then if (k q0).1 = 22 ∧ 0 ≤ (y1 : Int) ∧ (y1 : Int) < ((k q0).2 : Int) then some (.inl (some (a_i (0))), (k, (upm u q0 (y1 : Int).toNat 0), g, t)) else none else if (k q0).1 = 22 ∧ 0 ≤ (y1 : Int) ∧ (y1 : Int) < ((k q0).2 : Int) then some (.inl (some (a_i (0))), (k, (upm u q0 (y1 : Int).toNat 1), g, t)) else none := by
  refine (X_if_eq (m := 317) (pc := 8) (off := 7) (tg := 15) (by decide +kernel) (by decide +kernel)).trans ?_
  refine ite_congr rfl (fun _ => ?_) (fun _ => ?_)
  · refine (X_lconst (m := 317) (pc := 15) (n := 0) (by decide +kernel) ).trans ?_
    refine (X_lastore (m := 317) (pc := 16)  (by decide +kernel) ).trans ?_
    refine ite_congr rfl (fun _ => ?_) (fun _ => rfl)
    refine (X_goto (m := 317) (pc := 17) (off := 11) (tg := 28) (by decide +kernel) (by decide +kernel)).trans ?_
    refine (X_iconst (m := 317) (pc := 28) (n := 0) (by decide +kernel) ).trans ?_
    exact X_ireturn (m := 317) (pc := 29) (f := 1) (by decide +kernel) (by decide +kernel) rfl
  · refine (X_lconst (m := 317) (pc := 11) (n := 1) (by decide +kernel) ).trans ?_
    refine (X_goto (m := 317) (pc := 12) (off := 4) (tg := 16) (by decide +kernel) (by decide +kernel)).trans ?_
    refine (X_lastore (m := 317) (pc := 16)  (by decide +kernel) ).trans ?_
    refine ite_congr rfl (fun _ => ?_) (fun _ => rfl)
    refine (X_goto (m := 317) (pc := 17) (off := 11) (tg := 28) (by decide +kernel) (by decide +kernel)).trans ?_
    refine (X_iconst (m := 317) (pc := 28) (n := 0) (by decide +kernel) ).trans ?_
    exact X_ireturn (m := 317) (pc := 29) (f := 1) (by decide +kernel) (by decide +kernel) rfl
theorem E_L_wrongMinutes {σ : AS} {r0 : Nat} {x1 : Int} {r2 : Nat} : a_m 318 [a_r (r0), a_i (x1), a_r (r2)] σ = a_X 318 0 [a_r (r0), a_i (x1), a_r (r2), a_x false] [] σ := a_m_eq (by rw [a_entry, show m_maxL 318 = 4 from by decide +kernel]; rfl)
theorem B_L_wrongMinutes_0 {k : Nat → Nat × Nat} {u : Nat → Nat → Int} {g : Nat → Nat → Nat} {t : Nat × Nat × Nat} {r0 : Nat} {x1 : Int} {r2 : Nat} {v3 : AV} : a_X 318 0 [a_r (r0), a_i (x1), a_r (r2), v3] [] (k, u, g, t) = if (k r0).1 = 10 then (a_m 111 [a_r (r0), a_i (x1)] (k, u, g, t)).bind (a_back 318 4 3 [a_r (r0), a_i (x1), a_r (r2), v3] [a_i (0), a_r (r2)]) else none := by
  refine (X_aload_n (m := 318) (pc := 0) (n := 2) (by decide +kernel) rfl).trans ?_
  refine (X_iconst (m := 318) (pc := 1) (n := 0) (by decide +kernel) ).trans ?_
  refine (X_aload_n (m := 318) (pc := 2) (n := 0) (by decide +kernel) rfl).trans ?_
  refine (X_iload_n (m := 318) (pc := 3) (n := 1) (by decide +kernel) rfl).trans ?_
  refine (X_call_vi (m := 318) (pc := 4) (q := 68) (y := 111) (n := 2) (as := [a_r (r0), a_i (x1)]) (rest := [a_i (0), a_r (r2)]) (by decide +kernel) (by decide +kernel) (by decide +kernel) (by decide +kernel) rfl rfl (Nat.le_of_ble_eq_true rfl) (Nat.le_of_ble_eq_true rfl) rfl (by rw [show m_maxL 111 = 2 from by decide +kernel]; exact Nat.le_of_ble_eq_true rfl)).trans ?_
  exact ite_congr (by simp [a_rcv, show m_recv 111 = 10 from by decide +kernel]) (fun _ => rfl) (fun _ => rfl)
theorem B_L_wrongMinutes_12 {k : Nat → Nat × Nat} {u : Nat → Nat → Int} {g : Nat → Nat → Nat} {t : Nat × Nat × Nat} {r0 : Nat} {x1 : Int} {r2 : Nat} {v3 : AV} : a_X 318 12 [a_r (r0), a_i (x1), a_r (r2), v3] [a_x true] (k, u, g, t) = some (.inl (some (a_i (1))), (k, u, g, t)) := by
  refine (X_astoreX_n (m := 318) (pc := 12) (n := 3) (by decide +kernel) rfl (Nat.le_of_ble_eq_true rfl) rfl).trans ?_
  refine (X_iconst (m := 318) (pc := 13) (n := 1) (by decide +kernel) ).trans ?_
  exact X_ireturn (m := 318) (pc := 14) (f := 1) (by decide +kernel) (by decide +kernel) rfl
theorem B_L_wrongMinutes_15 {k : Nat → Nat × Nat} {u : Nat → Nat → Int} {g : Nat → Nat → Nat} {t : Nat × Nat × Nat} {r0 : Nat} {x1 : Int} {r2 : Nat} {v3 : AV} : a_X 318 15 [a_r (r0), a_i (x1), a_r (r2), v3] [a_x true] (k, u, g, t) = some (.inl (some (a_i (2))), (k, u, g, t)) := by
  refine (X_astoreX_n (m := 318) (pc := 15) (n := 3) (by decide +kernel) rfl (Nat.le_of_ble_eq_true rfl) rfl).trans ?_
  refine (X_iconst (m := 318) (pc := 16) (n := 2) (by decide +kernel) ).trans ?_
  exact X_ireturn (m := 318) (pc := 17) (f := 1) (by decide +kernel) (by decide +kernel) rfl
theorem B_L_wrongMinutes_7 {k : Nat → Nat × Nat} {u : Nat → Nat → Int} {g : Nat → Nat → Nat} {t : Nat × Nat × Nat} {r0 : Nat} {x1 : Int} {r2 : Nat} {v3 : AV} {q0 : Nat} {y1 : Int} {y2 : Int} : a_X 318 7 [a_r (r0), a_i (x1), a_r (r2), v3] [a_i (y2), a_i (y1), a_r (q0)] (k, u, g, t) = if (k q0).1 = 22 ∧ 0 ≤ (y1 : Int) ∧ (y1 : Int) < ((k q0).2 : Int) then some (.inl (some (a_i (0))), (k, (upm u q0 (y1 : Int).toNat y2), g, t)) else none := by
  refine (X_i2l (m := 318) (pc := 7)  (by decide +kernel) ).trans ?_
  refine (X_lastore (m := 318) (pc := 8)  (by decide +kernel) ).trans ?_
  refine ite_congr rfl (fun _ => ?_) (fun _ => rfl)
  refine (X_goto (m := 318) (pc := 9) (off := 9) (tg := 18) (by decide +kernel) (by decide +kernel)).trans ?_
  refine (X_iconst (m := 318) (pc := 18) (n := 0) (by decide +kernel) ).trans ?_
  exact X_ireturn (m := 318) (pc := 19) (f := 1) (by decide +kernel) (by decide +kernel) rfl
theorem E_L_worst {σ : AS} {r0 : Nat} {r1 : Nat} : a_m 319 [a_r (r0), a_r (r1)] σ = a_X 319 0 [a_r (r0), a_r (r1), a_x false] [] σ := a_m_eq (by rw [a_entry, show m_maxL 319 = 3 from by decide +kernel]; rfl)
theorem B_L_worst_0 {k : Nat → Nat × Nat} {u : Nat → Nat → Int} {g : Nat → Nat → Nat} {t : Nat × Nat × Nat} {r0 : Nat} {r1 : Nat} {v2 : AV} : a_X 319 0 [a_r (r0), a_r (r1), v2] [] (k, u, g, t) = if (k r0).1 = 10 then (a_m 112 [a_r (r0)] (k, u, g, t)).bind (a_back 319 3 3 [a_r (r0), a_r (r1), v2] [a_i (0), a_r (r1)]) else none := by
  refine (X_aload_n (m := 319) (pc := 0) (n := 1) (by decide +kernel) rfl).trans ?_
  refine (X_iconst (m := 319) (pc := 1) (n := 0) (by decide +kernel) ).trans ?_
  refine (X_aload_n (m := 319) (pc := 2) (n := 0) (by decide +kernel) rfl).trans ?_
  refine (X_call_vi (m := 319) (pc := 3) (q := 71) (y := 112) (n := 1) (as := [a_r (r0)]) (rest := [a_i (0), a_r (r1)]) (by decide +kernel) (by decide +kernel) (by decide +kernel) (by decide +kernel) rfl rfl (Nat.le_of_ble_eq_true rfl) (Nat.le_of_ble_eq_true rfl) rfl (by rw [show m_maxL 112 = 5 from by decide +kernel]; exact Nat.le_of_ble_eq_true rfl)).trans ?_
  exact ite_congr (by simp [a_rcv, show m_recv 112 = 10 from by decide +kernel]) (fun _ => rfl) (fun _ => rfl)
theorem B_L_worst_11 {k : Nat → Nat × Nat} {u : Nat → Nat → Int} {g : Nat → Nat → Nat} {t : Nat × Nat × Nat} {r0 : Nat} {r1 : Nat} {v2 : AV} : a_X 319 11 [a_r (r0), a_r (r1), v2] [a_x true] (k, u, g, t) = some (.inl (some (a_i (1))), (k, u, g, t)) := by
  refine (X_astoreX_n (m := 319) (pc := 11) (n := 2) (by decide +kernel) rfl (Nat.le_of_ble_eq_true rfl) rfl).trans ?_
  refine (X_iconst (m := 319) (pc := 12) (n := 1) (by decide +kernel) ).trans ?_
  exact X_ireturn (m := 319) (pc := 13) (f := 1) (by decide +kernel) (by decide +kernel) rfl
theorem B_L_worst_6 {k : Nat → Nat × Nat} {u : Nat → Nat → Int} {g : Nat → Nat → Nat} {t : Nat × Nat × Nat} {r0 : Nat} {r1 : Nat} {v2 : AV} {q0 : Nat} {y1 : Int} {y2 : Int} : a_X 319 6 [a_r (r0), a_r (r1), v2] [a_i (y2), a_i (y1), a_r (q0)] (k, u, g, t) = if (k q0).1 = 22 ∧ 0 ≤ (y1 : Int) ∧ (y1 : Int) < ((k q0).2 : Int) then some (.inl (some (a_i (0))), (k, (upm u q0 (y1 : Int).toNat y2), g, t)) else none := by
  refine (X_i2l (m := 319) (pc := 6)  (by decide +kernel) ).trans ?_
  refine (X_lastore (m := 319) (pc := 7)  (by decide +kernel) ).trans ?_
  refine ite_congr rfl (fun _ => ?_) (fun _ => rfl)
  refine (X_goto (m := 319) (pc := 8) (off := 6) (tg := 14) (by decide +kernel) (by decide +kernel)).trans ?_
  refine (X_iconst (m := 319) (pc := 14) (n := 0) (by decide +kernel) ).trans ?_
  exact X_ireturn (m := 319) (pc := 15) (f := 1) (by decide +kernel) (by decide +kernel) rfl
theorem E_L_behind {σ : AS} {r0 : Nat} {x1 : Int} {r2 : Nat} : a_m 320 [a_r (r0), a_i (x1), a_r (r2)] σ = a_X 320 0 [a_r (r0), a_i (x1), a_r (r2), a_x false] [] σ := a_m_eq (by rw [a_entry, show m_maxL 320 = 4 from by decide +kernel]; rfl)
theorem B_L_behind_0 {k : Nat → Nat × Nat} {u : Nat → Nat → Int} {g : Nat → Nat → Nat} {t : Nat × Nat × Nat} {r0 : Nat} {x1 : Int} {r2 : Nat} {v3 : AV} : a_X 320 0 [a_r (r0), a_i (x1), a_r (r2), v3] [] (k, u, g, t) = if (k r0).1 = 10 then (a_m 113 [a_r (r0), a_i (x1)] (k, u, g, t)).bind (a_back 320 4 3 [a_r (r0), a_i (x1), a_r (r2), v3] [a_i (0), a_r (r2)]) else none := by
  refine (X_aload_n (m := 320) (pc := 0) (n := 2) (by decide +kernel) rfl).trans ?_
  refine (X_iconst (m := 320) (pc := 1) (n := 0) (by decide +kernel) ).trans ?_
  refine (X_aload_n (m := 320) (pc := 2) (n := 0) (by decide +kernel) rfl).trans ?_
  refine (X_iload_n (m := 320) (pc := 3) (n := 1) (by decide +kernel) rfl).trans ?_
  refine (X_call_vi (m := 320) (pc := 4) (q := 75) (y := 113) (n := 2) (as := [a_r (r0), a_i (x1)]) (rest := [a_i (0), a_r (r2)]) (by decide +kernel) (by decide +kernel) (by decide +kernel) (by decide +kernel) rfl rfl (Nat.le_of_ble_eq_true rfl) (Nat.le_of_ble_eq_true rfl) rfl (by rw [show m_maxL 113 = 2 from by decide +kernel]; exact Nat.le_of_ble_eq_true rfl)).trans ?_
  exact ite_congr (by simp [a_rcv, show m_recv 113 = 10 from by decide +kernel]) (fun _ => rfl) (fun _ => rfl)
theorem B_L_behind_12 {k : Nat → Nat × Nat} {u : Nat → Nat → Int} {g : Nat → Nat → Nat} {t : Nat × Nat × Nat} {r0 : Nat} {x1 : Int} {r2 : Nat} {v3 : AV} : a_X 320 12 [a_r (r0), a_i (x1), a_r (r2), v3] [a_x true] (k, u, g, t) = some (.inl (some (a_i (1))), (k, u, g, t)) := by
  refine (X_astoreX_n (m := 320) (pc := 12) (n := 3) (by decide +kernel) rfl (Nat.le_of_ble_eq_true rfl) rfl).trans ?_
  refine (X_iconst (m := 320) (pc := 13) (n := 1) (by decide +kernel) ).trans ?_
  exact X_ireturn (m := 320) (pc := 14) (f := 1) (by decide +kernel) (by decide +kernel) rfl
theorem B_L_behind_15 {k : Nat → Nat × Nat} {u : Nat → Nat → Int} {g : Nat → Nat → Nat} {t : Nat × Nat × Nat} {r0 : Nat} {x1 : Int} {r2 : Nat} {v3 : AV} : a_X 320 15 [a_r (r0), a_i (x1), a_r (r2), v3] [a_x true] (k, u, g, t) = some (.inl (some (a_i (2))), (k, u, g, t)) := by
  refine (X_astoreX_n (m := 320) (pc := 15) (n := 3) (by decide +kernel) rfl (Nat.le_of_ble_eq_true rfl) rfl).trans ?_
  refine (X_iconst (m := 320) (pc := 16) (n := 2) (by decide +kernel) ).trans ?_
  exact X_ireturn (m := 320) (pc := 17) (f := 1) (by decide +kernel) (by decide +kernel) rfl
theorem B_L_behind_7 {k : Nat → Nat × Nat} {u : Nat → Nat → Int} {g : Nat → Nat → Nat} {t : Nat × Nat × Nat} {r0 : Nat} {x1 : Int} {r2 : Nat} {v3 : AV} {q0 : Nat} {y1 : Int} {y2 : Int} : a_X 320 7 [a_r (r0), a_i (x1), a_r (r2), v3] [a_i (y2), a_i (y1), a_r (q0)] (k, u, g, t) = if (k q0).1 = 22 ∧ 0 ≤ (y1 : Int) ∧ (y1 : Int) < ((k q0).2 : Int) then some (.inl (some (a_i (0))), (k, (upm u q0 (y1 : Int).toNat y2), g, t)) else none := by
  refine (X_i2l (m := 320) (pc := 7)  (by decide +kernel) ).trans ?_
  refine (X_lastore (m := 320) (pc := 8)  (by decide +kernel) ).trans ?_
  refine ite_congr rfl (fun _ => ?_) (fun _ => rfl)
  refine (X_goto (m := 320) (pc := 9) (off := 9) (tg := 18) (by decide +kernel) (by decide +kernel)).trans ?_
  refine (X_iconst (m := 320) (pc := 18) (n := 0) (by decide +kernel) ).trans ?_
  exact X_ireturn (m := 320) (pc := 19) (f := 1) (by decide +kernel) (by decide +kernel) rfl
theorem E_L_overtakes {σ : AS} {r0 : Nat} {x1 : Int} {r2 : Nat} : a_m 321 [a_r (r0), a_i (x1), a_r (r2)] σ = a_X 321 0 [a_r (r0), a_i (x1), a_r (r2), a_x false] [] σ := a_m_eq (by rw [a_entry, show m_maxL 321 = 4 from by decide +kernel]; rfl)
theorem B_L_overtakes_0 {k : Nat → Nat × Nat} {u : Nat → Nat → Int} {g : Nat → Nat → Nat} {t : Nat × Nat × Nat} {r0 : Nat} {x1 : Int} {r2 : Nat} {v3 : AV} : a_X 321 0 [a_r (r0), a_i (x1), a_r (r2), v3] [] (k, u, g, t) = if (k r0).1 = 10 then (a_m 114 [a_r (r0), a_i (x1)] (k, u, g, t)).bind (a_back 321 4 3 [a_r (r0), a_i (x1), a_r (r2), v3] [a_i (0), a_r (r2)]) else none := by
  refine (X_aload_n (m := 321) (pc := 0) (n := 2) (by decide +kernel) rfl).trans ?_
  refine (X_iconst (m := 321) (pc := 1) (n := 0) (by decide +kernel) ).trans ?_
  refine (X_aload_n (m := 321) (pc := 2) (n := 0) (by decide +kernel) rfl).trans ?_
  refine (X_iload_n (m := 321) (pc := 3) (n := 1) (by decide +kernel) rfl).trans ?_
  refine (X_call_vi (m := 321) (pc := 4) (q := 78) (y := 114) (n := 2) (as := [a_r (r0), a_i (x1)]) (rest := [a_i (0), a_r (r2)]) (by decide +kernel) (by decide +kernel) (by decide +kernel) (by decide +kernel) rfl rfl (Nat.le_of_ble_eq_true rfl) (Nat.le_of_ble_eq_true rfl) rfl (by rw [show m_maxL 114 = 3 from by decide +kernel]; exact Nat.le_of_ble_eq_true rfl)).trans ?_
  exact ite_congr (by simp [a_rcv, show m_recv 114 = 10 from by decide +kernel]) (fun _ => rfl) (fun _ => rfl)
theorem B_L_overtakes_12 {k : Nat → Nat × Nat} {u : Nat → Nat → Int} {g : Nat → Nat → Nat} {t : Nat × Nat × Nat} {r0 : Nat} {x1 : Int} {r2 : Nat} {v3 : AV} : a_X 321 12 [a_r (r0), a_i (x1), a_r (r2), v3] [a_x true] (k, u, g, t) = some (.inl (some (a_i (1))), (k, u, g, t)) := by
  refine (X_astoreX_n (m := 321) (pc := 12) (n := 3) (by decide +kernel) rfl (Nat.le_of_ble_eq_true rfl) rfl).trans ?_
  refine (X_iconst (m := 321) (pc := 13) (n := 1) (by decide +kernel) ).trans ?_
  exact X_ireturn (m := 321) (pc := 14) (f := 1) (by decide +kernel) (by decide +kernel) rfl
theorem B_L_overtakes_15 {k : Nat → Nat × Nat} {u : Nat → Nat → Int} {g : Nat → Nat → Nat} {t : Nat × Nat × Nat} {r0 : Nat} {x1 : Int} {r2 : Nat} {v3 : AV} : a_X 321 15 [a_r (r0), a_i (x1), a_r (r2), v3] [a_x true] (k, u, g, t) = some (.inl (some (a_i (2))), (k, u, g, t)) := by
  refine (X_astoreX_n (m := 321) (pc := 15) (n := 3) (by decide +kernel) rfl (Nat.le_of_ble_eq_true rfl) rfl).trans ?_
  refine (X_iconst (m := 321) (pc := 16) (n := 2) (by decide +kernel) ).trans ?_
  exact X_ireturn (m := 321) (pc := 17) (f := 1) (by decide +kernel) (by decide +kernel) rfl
theorem B_L_overtakes_7 {k : Nat → Nat × Nat} {u : Nat → Nat → Int} {g : Nat → Nat → Nat} {t : Nat × Nat × Nat} {r0 : Nat} {x1 : Int} {r2 : Nat} {v3 : AV} {q0 : Nat} {y1 : Int} {y2 : Int} : a_X 321 7 [a_r (r0), a_i (x1), a_r (r2), v3] [a_i (y2), a_i (y1), a_r (q0)] (k, u, g, t) = if (k q0).1 = 22 ∧ 0 ≤ (y1 : Int) ∧ (y1 : Int) < ((k q0).2 : Int) then some (.inl (some (a_i (0))), (k, (upm u q0 (y1 : Int).toNat y2), g, t)) else none := by
  refine (X_i2l (m := 321) (pc := 7)  (by decide +kernel) ).trans ?_
  refine (X_lastore (m := 321) (pc := 8)  (by decide +kernel) ).trans ?_
  refine ite_congr rfl (fun _ => ?_) (fun _ => rfl)
  refine (X_goto (m := 321) (pc := 9) (off := 9) (tg := 18) (by decide +kernel) (by decide +kernel)).trans ?_
  refine (X_iconst (m := 321) (pc := 18) (n := 0) (by decide +kernel) ).trans ?_
  exact X_ireturn (m := 321) (pc := 19) (f := 1) (by decide +kernel) (by decide +kernel) rfl
theorem E_L_sameIn {σ : AS} {r0 : Nat} {x1 : Int} {r2 : Nat} : a_m 322 [a_r (r0), a_i (x1), a_r (r2)] σ = a_X 322 0 [a_r (r0), a_i (x1), a_r (r2), a_x false] [] σ := a_m_eq (by rw [a_entry, show m_maxL 322 = 4 from by decide +kernel]; rfl)
theorem B_L_sameIn_0 {k : Nat → Nat × Nat} {u : Nat → Nat → Int} {g : Nat → Nat → Nat} {t : Nat × Nat × Nat} {r0 : Nat} {x1 : Int} {r2 : Nat} {v3 : AV} : a_X 322 0 [a_r (r0), a_i (x1), a_r (r2), v3] [] (k, u, g, t) = if (k r0).1 = 10 then (a_m 115 [a_r (r0), a_i (x1)] (k, u, g, t)).bind (a_back 322 4 3 [a_r (r0), a_i (x1), a_r (r2), v3] [a_i (0), a_r (r2)]) else none := by
  refine (X_aload_n (m := 322) (pc := 0) (n := 2) (by decide +kernel) rfl).trans ?_
  refine (X_iconst (m := 322) (pc := 1) (n := 0) (by decide +kernel) ).trans ?_
  refine (X_aload_n (m := 322) (pc := 2) (n := 0) (by decide +kernel) rfl).trans ?_
  refine (X_iload_n (m := 322) (pc := 3) (n := 1) (by decide +kernel) rfl).trans ?_
  refine (X_call_vi (m := 322) (pc := 4) (q := 81) (y := 115) (n := 2) (as := [a_r (r0), a_i (x1)]) (rest := [a_i (0), a_r (r2)]) (by decide +kernel) (by decide +kernel) (by decide +kernel) (by decide +kernel) rfl rfl (Nat.le_of_ble_eq_true rfl) (Nat.le_of_ble_eq_true rfl) rfl (by rw [show m_maxL 115 = 2 from by decide +kernel]; exact Nat.le_of_ble_eq_true rfl)).trans ?_
  exact ite_congr (by simp [a_rcv, show m_recv 115 = 10 from by decide +kernel]) (fun _ => rfl) (fun _ => rfl)
theorem B_L_sameIn_12 {k : Nat → Nat × Nat} {u : Nat → Nat → Int} {g : Nat → Nat → Nat} {t : Nat × Nat × Nat} {r0 : Nat} {x1 : Int} {r2 : Nat} {v3 : AV} : a_X 322 12 [a_r (r0), a_i (x1), a_r (r2), v3] [a_x true] (k, u, g, t) = some (.inl (some (a_i (1))), (k, u, g, t)) := by
  refine (X_astoreX_n (m := 322) (pc := 12) (n := 3) (by decide +kernel) rfl (Nat.le_of_ble_eq_true rfl) rfl).trans ?_
  refine (X_iconst (m := 322) (pc := 13) (n := 1) (by decide +kernel) ).trans ?_
  exact X_ireturn (m := 322) (pc := 14) (f := 1) (by decide +kernel) (by decide +kernel) rfl
theorem B_L_sameIn_15 {k : Nat → Nat × Nat} {u : Nat → Nat → Int} {g : Nat → Nat → Nat} {t : Nat × Nat × Nat} {r0 : Nat} {x1 : Int} {r2 : Nat} {v3 : AV} : a_X 322 15 [a_r (r0), a_i (x1), a_r (r2), v3] [a_x true] (k, u, g, t) = some (.inl (some (a_i (2))), (k, u, g, t)) := by
  refine (X_astoreX_n (m := 322) (pc := 15) (n := 3) (by decide +kernel) rfl (Nat.le_of_ble_eq_true rfl) rfl).trans ?_
  refine (X_iconst (m := 322) (pc := 16) (n := 2) (by decide +kernel) ).trans ?_
  exact X_ireturn (m := 322) (pc := 17) (f := 1) (by decide +kernel) (by decide +kernel) rfl
theorem B_L_sameIn_7 {k : Nat → Nat × Nat} {u : Nat → Nat → Int} {g : Nat → Nat → Nat} {t : Nat × Nat × Nat} {r0 : Nat} {x1 : Int} {r2 : Nat} {v3 : AV} {q0 : Nat} {y1 : Int} {y2 : Int} : a_X 322 7 [a_r (r0), a_i (x1), a_r (r2), v3] [a_i (y2), a_i (y1), a_r (q0)] (k, u, g, t) = if (k q0).1 = 22 ∧ 0 ≤ (y1 : Int) ∧ (y1 : Int) < ((k q0).2 : Int) then some (.inl (some (a_i (0))), (k, (upm u q0 (y1 : Int).toNat y2), g, t)) else none := by
  refine (X_i2l (m := 322) (pc := 7)  (by decide +kernel) ).trans ?_
  refine (X_lastore (m := 322) (pc := 8)  (by decide +kernel) ).trans ?_
  refine ite_congr rfl (fun _ => ?_) (fun _ => rfl)
  refine (X_goto (m := 322) (pc := 9) (off := 9) (tg := 18) (by decide +kernel) (by decide +kernel)).trans ?_
  refine (X_iconst (m := 322) (pc := 18) (n := 0) (by decide +kernel) ).trans ?_
  exact X_ireturn (m := 322) (pc := 19) (f := 1) (by decide +kernel) (by decide +kernel) rfl
theorem E_L_allSameIn {σ : AS} {r0 : Nat} {r1 : Nat} : a_m 323 [a_r (r0), a_r (r1)] σ = a_X 323 0 [a_r (r0), a_r (r1), a_x false] [] σ := a_m_eq (by rw [a_entry, show m_maxL 323 = 3 from by decide +kernel]; rfl)
theorem B_L_allSameIn_0 {k : Nat → Nat × Nat} {u : Nat → Nat → Int} {g : Nat → Nat → Nat} {t : Nat × Nat × Nat} {r0 : Nat} {r1 : Nat} {v2 : AV} : a_X 323 0 [a_r (r0), a_r (r1), v2] [] (k, u, g, t) = if (k r0).1 = 10 then (a_m 116 [a_r (r0)] (k, u, g, t)).bind (a_back 323 3 3 [a_r (r0), a_r (r1), v2] [a_i (0), a_r (r1)]) else none := by
  refine (X_aload_n (m := 323) (pc := 0) (n := 1) (by decide +kernel) rfl).trans ?_
  refine (X_iconst (m := 323) (pc := 1) (n := 0) (by decide +kernel) ).trans ?_
  refine (X_aload_n (m := 323) (pc := 2) (n := 0) (by decide +kernel) rfl).trans ?_
  refine (X_call_vi (m := 323) (pc := 3) (q := 84) (y := 116) (n := 1) (as := [a_r (r0)]) (rest := [a_i (0), a_r (r1)]) (by decide +kernel) (by decide +kernel) (by decide +kernel) (by decide +kernel) rfl rfl (Nat.le_of_ble_eq_true rfl) (Nat.le_of_ble_eq_true rfl) rfl (by rw [show m_maxL 116 = 2 from by decide +kernel]; exact Nat.le_of_ble_eq_true rfl)).trans ?_
  exact ite_congr (by simp [a_rcv, show m_recv 116 = 10 from by decide +kernel]) (fun _ => rfl) (fun _ => rfl)
theorem B_L_allSameIn_11 {k : Nat → Nat × Nat} {u : Nat → Nat → Int} {g : Nat → Nat → Nat} {t : Nat × Nat × Nat} {r0 : Nat} {r1 : Nat} {v2 : AV} : a_X 323 11 [a_r (r0), a_r (r1), v2] [a_x true] (k, u, g, t) = some (.inl (some (a_i (1))), (k, u, g, t)) := by
  refine (X_astoreX_n (m := 323) (pc := 11) (n := 2) (by decide +kernel) rfl (Nat.le_of_ble_eq_true rfl) rfl).trans ?_
  refine (X_iconst (m := 323) (pc := 12) (n := 1) (by decide +kernel) ).trans ?_
  exact X_ireturn (m := 323) (pc := 13) (f := 1) (by decide +kernel) (by decide +kernel) rfl
theorem B_L_allSameIn_6 {k : Nat → Nat × Nat} {u : Nat → Nat → Int} {g : Nat → Nat → Nat} {t : Nat × Nat × Nat} {r0 : Nat} {r1 : Nat} {v2 : AV} {q0 : Nat} {y1 : Int} {y2 : Int} : a_X 323 6 [a_r (r0), a_r (r1), v2] [a_i (y2), a_i (y1), a_r (q0)] (k, u, g, t) = if (k q0).1 = 22 ∧ 0 ≤ (y1 : Int) ∧ (y1 : Int) < ((k q0).2 : Int) then some (.inl (some (a_i (0))), (k, (upm u q0 (y1 : Int).toNat y2), g, t)) else none := by
  refine (X_i2l (m := 323) (pc := 6)  (by decide +kernel) ).trans ?_
  refine (X_lastore (m := 323) (pc := 7)  (by decide +kernel) ).trans ?_
  refine ite_congr rfl (fun _ => ?_) (fun _ => rfl)
  refine (X_goto (m := 323) (pc := 8) (off := 6) (tg := 14) (by decide +kernel) (by decide +kernel)).trans ?_
  refine (X_iconst (m := 323) (pc := 14) (n := 0) (by decide +kernel) ).trans ?_
  exact X_ireturn (m := 323) (pc := 15) (f := 1) (by decide +kernel) (by decide +kernel) rfl
theorem E_L_heardIn {σ : AS} {r0 : Nat} {x1 : Int} {x2 : Int} {r3 : Nat} : a_m 324 [a_r (r0), a_i (x1), a_i (x2), a_r (r3)] σ = a_X 324 0 [a_r (r0), a_i (x1), a_i (x2), a_r (r3), a_x false] [] σ := a_m_eq (by rw [a_entry, show m_maxL 324 = 5 from by decide +kernel]; rfl)
theorem B_L_heardIn_0 {k : Nat → Nat × Nat} {u : Nat → Nat → Int} {g : Nat → Nat → Nat} {t : Nat × Nat × Nat} {r0 : Nat} {x1 : Int} {x2 : Int} {r3 : Nat} {v4 : AV} : a_X 324 0 [a_r (r0), a_i (x1), a_i (x2), a_r (r3), v4] [] (k, u, g, t) = if (k r0).1 = 10 then (a_m 117 [a_r (r0), a_i (x1), a_i (x2)] (k, u, g, t)).bind (a_back 324 5 3 [a_r (r0), a_i (x1), a_i (x2), a_r (r3), v4] [a_i (0), a_r (r3)]) else none := by
  refine (X_aload_n (m := 324) (pc := 0) (n := 3) (by decide +kernel) rfl).trans ?_
  refine (X_iconst (m := 324) (pc := 1) (n := 0) (by decide +kernel) ).trans ?_
  refine (X_aload_n (m := 324) (pc := 2) (n := 0) (by decide +kernel) rfl).trans ?_
  refine (X_iload_n (m := 324) (pc := 3) (n := 1) (by decide +kernel) rfl).trans ?_
  refine (X_iload_n (m := 324) (pc := 4) (n := 2) (by decide +kernel) rfl).trans ?_
  refine (X_call_vi (m := 324) (pc := 5) (q := 87) (y := 117) (n := 3) (as := [a_r (r0), a_i (x1), a_i (x2)]) (rest := [a_i (0), a_r (r3)]) (by decide +kernel) (by decide +kernel) (by decide +kernel) (by decide +kernel) rfl rfl (Nat.le_of_ble_eq_true rfl) (Nat.le_of_ble_eq_true rfl) rfl (by rw [show m_maxL 117 = 4 from by decide +kernel]; exact Nat.le_of_ble_eq_true rfl)).trans ?_
  exact ite_congr (by simp [a_rcv, show m_recv 117 = 10 from by decide +kernel]) (fun _ => rfl) (fun _ => rfl)
theorem B_L_heardIn_13 {k : Nat → Nat × Nat} {u : Nat → Nat → Int} {g : Nat → Nat → Nat} {t : Nat × Nat × Nat} {r0 : Nat} {x1 : Int} {x2 : Int} {r3 : Nat} {v4 : AV} : a_X 324 13 [a_r (r0), a_i (x1), a_i (x2), a_r (r3), v4] [a_x true] (k, u, g, t) = some (.inl (some (a_i (1))), (k, u, g, t)) := by
  refine (X_astoreX (m := 324) (pc := 13) (n := 4) (by decide +kernel) rfl (Nat.le_of_ble_eq_true rfl) rfl).trans ?_
  refine (X_iconst (m := 324) (pc := 15) (n := 1) (by decide +kernel) ).trans ?_
  exact X_ireturn (m := 324) (pc := 16) (f := 1) (by decide +kernel) (by decide +kernel) rfl
theorem B_L_heardIn_17 {k : Nat → Nat × Nat} {u : Nat → Nat → Int} {g : Nat → Nat → Nat} {t : Nat × Nat × Nat} {r0 : Nat} {x1 : Int} {x2 : Int} {r3 : Nat} {v4 : AV} : a_X 324 17 [a_r (r0), a_i (x1), a_i (x2), a_r (r3), v4] [a_x true] (k, u, g, t) = some (.inl (some (a_i (2))), (k, u, g, t)) := by
  refine (X_astoreX (m := 324) (pc := 17) (n := 4) (by decide +kernel) rfl (Nat.le_of_ble_eq_true rfl) rfl).trans ?_
  refine (X_iconst (m := 324) (pc := 19) (n := 2) (by decide +kernel) ).trans ?_
  exact X_ireturn (m := 324) (pc := 20) (f := 1) (by decide +kernel) (by decide +kernel) rfl
theorem B_L_heardIn_8 {k : Nat → Nat × Nat} {u : Nat → Nat → Int} {g : Nat → Nat → Nat} {t : Nat × Nat × Nat} {r0 : Nat} {x1 : Int} {x2 : Int} {r3 : Nat} {v4 : AV} {q0 : Nat} {y1 : Int} {y2 : Int} : a_X 324 8 [a_r (r0), a_i (x1), a_i (x2), a_r (r3), v4] [a_i (y2), a_i (y1), a_r (q0)] (k, u, g, t) = if (k q0).1 = 22 ∧ 0 ≤ (y1 : Int) ∧ (y1 : Int) < ((k q0).2 : Int) then some (.inl (some (a_i (0))), (k, (upm u q0 (y1 : Int).toNat y2), g, t)) else none := by
  refine (X_i2l (m := 324) (pc := 8)  (by decide +kernel) ).trans ?_
  refine (X_lastore (m := 324) (pc := 9)  (by decide +kernel) ).trans ?_
  refine ite_congr rfl (fun _ => ?_) (fun _ => rfl)
  refine (X_goto (m := 324) (pc := 10) (off := 11) (tg := 21) (by decide +kernel) (by decide +kernel)).trans ?_
  refine (X_iconst (m := 324) (pc := 21) (n := 0) (by decide +kernel) ).trans ?_
  exact X_ireturn (m := 324) (pc := 22) (f := 1) (by decide +kernel) (by decide +kernel) rfl
theorem E_L_missingIn {σ : AS} {r0 : Nat} {x1 : Int} {x2 : Int} {r3 : Nat} : a_m 325 [a_r (r0), a_i (x1), a_i (x2), a_r (r3)] σ = a_X 325 0 [a_r (r0), a_i (x1), a_i (x2), a_r (r3), a_x false] [] σ := a_m_eq (by rw [a_entry, show m_maxL 325 = 5 from by decide +kernel]; rfl)
theorem B_L_missingIn_0 {k : Nat → Nat × Nat} {u : Nat → Nat → Int} {g : Nat → Nat → Nat} {t : Nat × Nat × Nat} {r0 : Nat} {x1 : Int} {x2 : Int} {r3 : Nat} {v4 : AV} : a_X 325 0 [a_r (r0), a_i (x1), a_i (x2), a_r (r3), v4] [] (k, u, g, t) = if (k r0).1 = 10 then (a_m 118 [a_r (r0), a_i (x1), a_i (x2)] (k, u, g, t)).bind (a_back 325 5 3 [a_r (r0), a_i (x1), a_i (x2), a_r (r3), v4] [a_i (0), a_r (r3)]) else none := by
  refine (X_aload_n (m := 325) (pc := 0) (n := 3) (by decide +kernel) rfl).trans ?_
  refine (X_iconst (m := 325) (pc := 1) (n := 0) (by decide +kernel) ).trans ?_
  refine (X_aload_n (m := 325) (pc := 2) (n := 0) (by decide +kernel) rfl).trans ?_
  refine (X_iload_n (m := 325) (pc := 3) (n := 1) (by decide +kernel) rfl).trans ?_
  refine (X_iload_n (m := 325) (pc := 4) (n := 2) (by decide +kernel) rfl).trans ?_
  refine (X_call_vi (m := 325) (pc := 5) (q := 90) (y := 118) (n := 3) (as := [a_r (r0), a_i (x1), a_i (x2)]) (rest := [a_i (0), a_r (r3)]) (by decide +kernel) (by decide +kernel) (by decide +kernel) (by decide +kernel) rfl rfl (Nat.le_of_ble_eq_true rfl) (Nat.le_of_ble_eq_true rfl) rfl (by rw [show m_maxL 118 = 3 from by decide +kernel]; exact Nat.le_of_ble_eq_true rfl)).trans ?_
  exact ite_congr (by simp [a_rcv, show m_recv 118 = 10 from by decide +kernel]) (fun _ => rfl) (fun _ => rfl)
theorem B_L_missingIn_13 {k : Nat → Nat × Nat} {u : Nat → Nat → Int} {g : Nat → Nat → Nat} {t : Nat × Nat × Nat} {r0 : Nat} {x1 : Int} {x2 : Int} {r3 : Nat} {v4 : AV} : a_X 325 13 [a_r (r0), a_i (x1), a_i (x2), a_r (r3), v4] [a_x true] (k, u, g, t) = some (.inl (some (a_i (1))), (k, u, g, t)) := by
  refine (X_astoreX (m := 325) (pc := 13) (n := 4) (by decide +kernel) rfl (Nat.le_of_ble_eq_true rfl) rfl).trans ?_
  refine (X_iconst (m := 325) (pc := 15) (n := 1) (by decide +kernel) ).trans ?_
  exact X_ireturn (m := 325) (pc := 16) (f := 1) (by decide +kernel) (by decide +kernel) rfl
theorem B_L_missingIn_17 {k : Nat → Nat × Nat} {u : Nat → Nat → Int} {g : Nat → Nat → Nat} {t : Nat × Nat × Nat} {r0 : Nat} {x1 : Int} {x2 : Int} {r3 : Nat} {v4 : AV} : a_X 325 17 [a_r (r0), a_i (x1), a_i (x2), a_r (r3), v4] [a_x true] (k, u, g, t) = some (.inl (some (a_i (2))), (k, u, g, t)) := by
  refine (X_astoreX (m := 325) (pc := 17) (n := 4) (by decide +kernel) rfl (Nat.le_of_ble_eq_true rfl) rfl).trans ?_
  refine (X_iconst (m := 325) (pc := 19) (n := 2) (by decide +kernel) ).trans ?_
  exact X_ireturn (m := 325) (pc := 20) (f := 1) (by decide +kernel) (by decide +kernel) rfl
theorem B_L_missingIn_21 {k : Nat → Nat × Nat} {u : Nat → Nat → Int} {g : Nat → Nat → Nat} {t : Nat × Nat × Nat} {r0 : Nat} {x1 : Int} {x2 : Int} {r3 : Nat} {v4 : AV} : a_X 325 21 [a_r (r0), a_i (x1), a_i (x2), a_r (r3), v4] [a_x true] (k, u, g, t) = some (.inl (some (a_i (3))), (k, u, g, t)) := by
  refine (X_astoreX (m := 325) (pc := 21) (n := 4) (by decide +kernel) rfl (Nat.le_of_ble_eq_true rfl) rfl).trans ?_
  refine (X_iconst (m := 325) (pc := 23) (n := 3) (by decide +kernel) ).trans ?_
  exact X_ireturn (m := 325) (pc := 24) (f := 1) (by decide +kernel) (by decide +kernel) rfl
theorem B_L_missingIn_8 {k : Nat → Nat × Nat} {u : Nat → Nat → Int} {g : Nat → Nat → Nat} {t : Nat × Nat × Nat} {r0 : Nat} {x1 : Int} {x2 : Int} {r3 : Nat} {v4 : AV} {q0 : Nat} {y1 : Int} {y2 : Int} : a_X 325 8 [a_r (r0), a_i (x1), a_i (x2), a_r (r3), v4] [a_i (y2), a_i (y1), a_r (q0)] (k, u, g, t) = if (k q0).1 = 22 ∧ 0 ≤ (y1 : Int) ∧ (y1 : Int) < ((k q0).2 : Int) then some (.inl (some (a_i (0))), (k, (upm u q0 (y1 : Int).toNat y2), g, t)) else none := by
  refine (X_i2l (m := 325) (pc := 8)  (by decide +kernel) ).trans ?_
  refine (X_lastore (m := 325) (pc := 9)  (by decide +kernel) ).trans ?_
  refine ite_congr rfl (fun _ => ?_) (fun _ => rfl)
  refine (X_goto (m := 325) (pc := 10) (off := 15) (tg := 25) (by decide +kernel) (by decide +kernel)).trans ?_
  refine (X_iconst (m := 325) (pc := 25) (n := 0) (by decide +kernel) ).trans ?_
  exact X_ireturn (m := 325) (pc := 26) (f := 1) (by decide +kernel) (by decide +kernel) rfl
theorem E_L_wrongIn {σ : AS} {r0 : Nat} {x1 : Int} {x2 : Int} {r3 : Nat} : a_m 326 [a_r (r0), a_i (x1), a_i (x2), a_r (r3)] σ = a_X 326 0 [a_r (r0), a_i (x1), a_i (x2), a_r (r3), a_x false] [] σ := a_m_eq (by rw [a_entry, show m_maxL 326 = 5 from by decide +kernel]; rfl)
theorem B_L_wrongIn_0 {k : Nat → Nat × Nat} {u : Nat → Nat → Int} {g : Nat → Nat → Nat} {t : Nat × Nat × Nat} {r0 : Nat} {x1 : Int} {x2 : Int} {r3 : Nat} {v4 : AV} : a_X 326 0 [a_r (r0), a_i (x1), a_i (x2), a_r (r3), v4] [] (k, u, g, t) = if (k r0).1 = 10 then (a_m 119 [a_r (r0), a_i (x1), a_i (x2)] (k, u, g, t)).bind (a_back 326 5 3 [a_r (r0), a_i (x1), a_i (x2), a_r (r3), v4] [a_i (0), a_r (r3)]) else none := by
  refine (X_aload_n (m := 326) (pc := 0) (n := 3) (by decide +kernel) rfl).trans ?_
  refine (X_iconst (m := 326) (pc := 1) (n := 0) (by decide +kernel) ).trans ?_
  refine (X_aload_n (m := 326) (pc := 2) (n := 0) (by decide +kernel) rfl).trans ?_
  refine (X_iload_n (m := 326) (pc := 3) (n := 1) (by decide +kernel) rfl).trans ?_
  refine (X_iload_n (m := 326) (pc := 4) (n := 2) (by decide +kernel) rfl).trans ?_
  refine (X_call_vi (m := 326) (pc := 5) (q := 93) (y := 119) (n := 3) (as := [a_r (r0), a_i (x1), a_i (x2)]) (rest := [a_i (0), a_r (r3)]) (by decide +kernel) (by decide +kernel) (by decide +kernel) (by decide +kernel) rfl rfl (Nat.le_of_ble_eq_true rfl) (Nat.le_of_ble_eq_true rfl) rfl (by rw [show m_maxL 119 = 3 from by decide +kernel]; exact Nat.le_of_ble_eq_true rfl)).trans ?_
  exact ite_congr (by simp [a_rcv, show m_recv 119 = 10 from by decide +kernel]) (fun _ => rfl) (fun _ => rfl)
theorem B_L_wrongIn_13 {k : Nat → Nat × Nat} {u : Nat → Nat → Int} {g : Nat → Nat → Nat} {t : Nat × Nat × Nat} {r0 : Nat} {x1 : Int} {x2 : Int} {r3 : Nat} {v4 : AV} : a_X 326 13 [a_r (r0), a_i (x1), a_i (x2), a_r (r3), v4] [a_x true] (k, u, g, t) = some (.inl (some (a_i (1))), (k, u, g, t)) := by
  refine (X_astoreX (m := 326) (pc := 13) (n := 4) (by decide +kernel) rfl (Nat.le_of_ble_eq_true rfl) rfl).trans ?_
  refine (X_iconst (m := 326) (pc := 15) (n := 1) (by decide +kernel) ).trans ?_
  exact X_ireturn (m := 326) (pc := 16) (f := 1) (by decide +kernel) (by decide +kernel) rfl
theorem B_L_wrongIn_17 {k : Nat → Nat × Nat} {u : Nat → Nat → Int} {g : Nat → Nat → Nat} {t : Nat × Nat × Nat} {r0 : Nat} {x1 : Int} {x2 : Int} {r3 : Nat} {v4 : AV} : a_X 326 17 [a_r (r0), a_i (x1), a_i (x2), a_r (r3), v4] [a_x true] (k, u, g, t) = some (.inl (some (a_i (2))), (k, u, g, t)) := by
  refine (X_astoreX (m := 326) (pc := 17) (n := 4) (by decide +kernel) rfl (Nat.le_of_ble_eq_true rfl) rfl).trans ?_
  refine (X_iconst (m := 326) (pc := 19) (n := 2) (by decide +kernel) ).trans ?_
  exact X_ireturn (m := 326) (pc := 20) (f := 1) (by decide +kernel) (by decide +kernel) rfl
theorem B_L_wrongIn_21 {k : Nat → Nat × Nat} {u : Nat → Nat → Int} {g : Nat → Nat → Nat} {t : Nat × Nat × Nat} {r0 : Nat} {x1 : Int} {x2 : Int} {r3 : Nat} {v4 : AV} : a_X 326 21 [a_r (r0), a_i (x1), a_i (x2), a_r (r3), v4] [a_x true] (k, u, g, t) = some (.inl (some (a_i (3))), (k, u, g, t)) := by
  refine (X_astoreX (m := 326) (pc := 21) (n := 4) (by decide +kernel) rfl (Nat.le_of_ble_eq_true rfl) rfl).trans ?_
  refine (X_iconst (m := 326) (pc := 23) (n := 3) (by decide +kernel) ).trans ?_
  exact X_ireturn (m := 326) (pc := 24) (f := 1) (by decide +kernel) (by decide +kernel) rfl
theorem B_L_wrongIn_8 {k : Nat → Nat × Nat} {u : Nat → Nat → Int} {g : Nat → Nat → Nat} {t : Nat × Nat × Nat} {r0 : Nat} {x1 : Int} {x2 : Int} {r3 : Nat} {v4 : AV} {q0 : Nat} {y1 : Int} {y2 : Int} : a_X 326 8 [a_r (r0), a_i (x1), a_i (x2), a_r (r3), v4] [a_i (y2), a_i (y1), a_r (q0)] (k, u, g, t) = if (k q0).1 = 22 ∧ 0 ≤ (y1 : Int) ∧ (y1 : Int) < ((k q0).2 : Int) then some (.inl (some (a_i (0))), (k, (upm u q0 (y1 : Int).toNat y2), g, t)) else none := by
  refine (X_i2l (m := 326) (pc := 8)  (by decide +kernel) ).trans ?_
  refine (X_lastore (m := 326) (pc := 9)  (by decide +kernel) ).trans ?_
  refine ite_congr rfl (fun _ => ?_) (fun _ => rfl)
  refine (X_goto (m := 326) (pc := 10) (off := 15) (tg := 25) (by decide +kernel) (by decide +kernel)).trans ?_
  refine (X_iconst (m := 326) (pc := 25) (n := 0) (by decide +kernel) ).trans ?_
  exact X_ireturn (m := 326) (pc := 26) (f := 1) (by decide +kernel) (by decide +kernel) rfl
theorem E_L_quietIn {σ : AS} {r0 : Nat} {r1 : Nat} : a_m 327 [a_r (r0), a_r (r1)] σ = a_X 327 0 [a_r (r0), a_r (r1), a_x false] [] σ := a_m_eq (by rw [a_entry, show m_maxL 327 = 3 from by decide +kernel]; rfl)
theorem B_L_quietIn_0 {k : Nat → Nat × Nat} {u : Nat → Nat → Int} {g : Nat → Nat → Nat} {t : Nat × Nat × Nat} {r0 : Nat} {r1 : Nat} {v2 : AV} : a_X 327 0 [a_r (r0), a_r (r1), v2] [] (k, u, g, t) = if (k r0).1 = 10 then (a_m 120 [a_r (r0)] (k, u, g, t)).bind (a_back 327 3 3 [a_r (r0), a_r (r1), v2] [a_i (0), a_r (r1)]) else none := by
  refine (X_aload_n (m := 327) (pc := 0) (n := 1) (by decide +kernel) rfl).trans ?_
  refine (X_iconst (m := 327) (pc := 1) (n := 0) (by decide +kernel) ).trans ?_
  refine (X_aload_n (m := 327) (pc := 2) (n := 0) (by decide +kernel) rfl).trans ?_
  refine (X_call_vi (m := 327) (pc := 3) (q := 96) (y := 120) (n := 1) (as := [a_r (r0)]) (rest := [a_i (0), a_r (r1)]) (by decide +kernel) (by decide +kernel) (by decide +kernel) (by decide +kernel) rfl rfl (Nat.le_of_ble_eq_true rfl) (Nat.le_of_ble_eq_true rfl) rfl (by rw [show m_maxL 120 = 2 from by decide +kernel]; exact Nat.le_of_ble_eq_true rfl)).trans ?_
  exact ite_congr (by simp [a_rcv, show m_recv 120 = 10 from by decide +kernel]) (fun _ => rfl) (fun _ => rfl)
theorem B_L_quietIn_11 {k : Nat → Nat × Nat} {u : Nat → Nat → Int} {g : Nat → Nat → Nat} {t : Nat × Nat × Nat} {r0 : Nat} {r1 : Nat} {v2 : AV} : a_X 327 11 [a_r (r0), a_r (r1), v2] [a_x true] (k, u, g, t) = some (.inl (some (a_i (1))), (k, u, g, t)) := by
  refine (X_astoreX_n (m := 327) (pc := 11) (n := 2) (by decide +kernel) rfl (Nat.le_of_ble_eq_true rfl) rfl).trans ?_
  refine (X_iconst (m := 327) (pc := 12) (n := 1) (by decide +kernel) ).trans ?_
  exact X_ireturn (m := 327) (pc := 13) (f := 1) (by decide +kernel) (by decide +kernel) rfl
theorem B_L_quietIn_6 {k : Nat → Nat × Nat} {u : Nat → Nat → Int} {g : Nat → Nat → Nat} {t : Nat × Nat × Nat} {r0 : Nat} {r1 : Nat} {v2 : AV} {q0 : Nat} {y1 : Int} {y2 : Int} : a_X 327 6 [a_r (r0), a_r (r1), v2] [a_i (y2), a_i (y1), a_r (q0)] (k, u, g, t) = if (k q0).1 = 22 ∧ 0 ≤ (y1 : Int) ∧ (y1 : Int) < ((k q0).2 : Int) then some (.inl (some (a_i (0))), (k, (upm u q0 (y1 : Int).toNat y2), g, t)) else none := by
  refine (X_i2l (m := 327) (pc := 6)  (by decide +kernel) ).trans ?_
  refine (X_lastore (m := 327) (pc := 7)  (by decide +kernel) ).trans ?_
  refine ite_congr rfl (fun _ => ?_) (fun _ => rfl)
  refine (X_goto (m := 327) (pc := 8) (off := 6) (tg := 14) (by decide +kernel) (by decide +kernel)).trans ?_
  refine (X_iconst (m := 327) (pc := 14) (n := 0) (by decide +kernel) ).trans ?_
  exact X_ireturn (m := 327) (pc := 15) (f := 1) (by decide +kernel) (by decide +kernel) rfl
theorem E_L_wholeIn {σ : AS} {r0 : Nat} {r1 : Nat} : a_m 328 [a_r (r0), a_r (r1)] σ = a_X 328 0 [a_r (r0), a_r (r1), a_x false] [] σ := a_m_eq (by rw [a_entry, show m_maxL 328 = 3 from by decide +kernel]; rfl)
theorem B_L_wholeIn_0 {k : Nat → Nat × Nat} {u : Nat → Nat → Int} {g : Nat → Nat → Nat} {t : Nat × Nat × Nat} {r0 : Nat} {r1 : Nat} {v2 : AV} : a_X 328 0 [a_r (r0), a_r (r1), v2] [] (k, u, g, t) = if (k r0).1 = 10 then (a_m 121 [a_r (r0)] (k, u, g, t)).bind (a_back 328 3 3 [a_r (r0), a_r (r1), v2] [a_i (0), a_r (r1)]) else none := by
  refine (X_aload_n (m := 328) (pc := 0) (n := 1) (by decide +kernel) rfl).trans ?_
  refine (X_iconst (m := 328) (pc := 1) (n := 0) (by decide +kernel) ).trans ?_
  refine (X_aload_n (m := 328) (pc := 2) (n := 0) (by decide +kernel) rfl).trans ?_
  refine (X_call_vi (m := 328) (pc := 3) (q := 99) (y := 121) (n := 1) (as := [a_r (r0)]) (rest := [a_i (0), a_r (r1)]) (by decide +kernel) (by decide +kernel) (by decide +kernel) (by decide +kernel) rfl rfl (Nat.le_of_ble_eq_true rfl) (Nat.le_of_ble_eq_true rfl) rfl (by rw [show m_maxL 121 = 1 from by decide +kernel]; exact Nat.le_of_ble_eq_true rfl)).trans ?_
  exact ite_congr (by simp [a_rcv, show m_recv 121 = 10 from by decide +kernel]) (fun _ => rfl) (fun _ => rfl)
theorem B_L_wholeIn_11 {k : Nat → Nat × Nat} {u : Nat → Nat → Int} {g : Nat → Nat → Nat} {t : Nat × Nat × Nat} {r0 : Nat} {r1 : Nat} {v2 : AV} : a_X 328 11 [a_r (r0), a_r (r1), v2] [a_x true] (k, u, g, t) = some (.inl (some (a_i (1))), (k, u, g, t)) := by
  refine (X_astoreX_n (m := 328) (pc := 11) (n := 2) (by decide +kernel) rfl (Nat.le_of_ble_eq_true rfl) rfl).trans ?_
  refine (X_iconst (m := 328) (pc := 12) (n := 1) (by decide +kernel) ).trans ?_
  exact X_ireturn (m := 328) (pc := 13) (f := 1) (by decide +kernel) (by decide +kernel) rfl
theorem B_L_wholeIn_6 {k : Nat → Nat × Nat} {u : Nat → Nat → Int} {g : Nat → Nat → Nat} {t : Nat × Nat × Nat} {r0 : Nat} {r1 : Nat} {v2 : AV} {q0 : Nat} {y1 : Int} {y2 : Int} : a_X 328 6 [a_r (r0), a_r (r1), v2] [a_i (y2), a_i (y1), a_r (q0)] (k, u, g, t) = if (k q0).1 = 22 ∧ 0 ≤ (y1 : Int) ∧ (y1 : Int) < ((k q0).2 : Int) then some (.inl (some (a_i (0))), (k, (upm u q0 (y1 : Int).toNat y2), g, t)) else none := by
  refine (X_i2l (m := 328) (pc := 6)  (by decide +kernel) ).trans ?_
  refine (X_lastore (m := 328) (pc := 7)  (by decide +kernel) ).trans ?_
  refine ite_congr rfl (fun _ => ?_) (fun _ => rfl)
  refine (X_goto (m := 328) (pc := 8) (off := 6) (tg := 14) (by decide +kernel) (by decide +kernel)).trans ?_
  refine (X_iconst (m := 328) (pc := 14) (n := 0) (by decide +kernel) ).trans ?_
  exact X_ireturn (m := 328) (pc := 15) (f := 1) (by decide +kernel) (by decide +kernel) rfl
theorem E_L_sameWithout {σ : AS} {r0 : Nat} {x1 : Int} {r2 : Nat} : a_m 329 [a_r (r0), a_i (x1), a_r (r2)] σ = a_X 329 0 [a_r (r0), a_i (x1), a_r (r2), a_x false] [] σ := a_m_eq (by rw [a_entry, show m_maxL 329 = 4 from by decide +kernel]; rfl)
theorem B_L_sameWithout_0 {k : Nat → Nat × Nat} {u : Nat → Nat → Int} {g : Nat → Nat → Nat} {t : Nat × Nat × Nat} {r0 : Nat} {x1 : Int} {r2 : Nat} {v3 : AV} : a_X 329 0 [a_r (r0), a_i (x1), a_r (r2), v3] [] (k, u, g, t) = if (k r0).1 = 10 then (a_m 122 [a_r (r0), a_i (x1)] (k, u, g, t)).bind (a_back 329 4 3 [a_r (r0), a_i (x1), a_r (r2), v3] [a_i (0), a_r (r2)]) else none := by
  refine (X_aload_n (m := 329) (pc := 0) (n := 2) (by decide +kernel) rfl).trans ?_
  refine (X_iconst (m := 329) (pc := 1) (n := 0) (by decide +kernel) ).trans ?_
  refine (X_aload_n (m := 329) (pc := 2) (n := 0) (by decide +kernel) rfl).trans ?_
  refine (X_iload_n (m := 329) (pc := 3) (n := 1) (by decide +kernel) rfl).trans ?_
  refine (X_call_vi (m := 329) (pc := 4) (q := 102) (y := 122) (n := 2) (as := [a_r (r0), a_i (x1)]) (rest := [a_i (0), a_r (r2)]) (by decide +kernel) (by decide +kernel) (by decide +kernel) (by decide +kernel) rfl rfl (Nat.le_of_ble_eq_true rfl) (Nat.le_of_ble_eq_true rfl) rfl (by rw [show m_maxL 122 = 2 from by decide +kernel]; exact Nat.le_of_ble_eq_true rfl)).trans ?_
  exact ite_congr (by simp [a_rcv, show m_recv 122 = 10 from by decide +kernel]) (fun _ => rfl) (fun _ => rfl)
theorem B_L_sameWithout_12 {k : Nat → Nat × Nat} {u : Nat → Nat → Int} {g : Nat → Nat → Nat} {t : Nat × Nat × Nat} {r0 : Nat} {x1 : Int} {r2 : Nat} {v3 : AV} : a_X 329 12 [a_r (r0), a_i (x1), a_r (r2), v3] [a_x true] (k, u, g, t) = some (.inl (some (a_i (1))), (k, u, g, t)) := by
  refine (X_astoreX_n (m := 329) (pc := 12) (n := 3) (by decide +kernel) rfl (Nat.le_of_ble_eq_true rfl) rfl).trans ?_
  refine (X_iconst (m := 329) (pc := 13) (n := 1) (by decide +kernel) ).trans ?_
  exact X_ireturn (m := 329) (pc := 14) (f := 1) (by decide +kernel) (by decide +kernel) rfl
theorem B_L_sameWithout_15 {k : Nat → Nat × Nat} {u : Nat → Nat → Int} {g : Nat → Nat → Nat} {t : Nat × Nat × Nat} {r0 : Nat} {x1 : Int} {r2 : Nat} {v3 : AV} : a_X 329 15 [a_r (r0), a_i (x1), a_r (r2), v3] [a_x true] (k, u, g, t) = some (.inl (some (a_i (2))), (k, u, g, t)) := by
  refine (X_astoreX_n (m := 329) (pc := 15) (n := 3) (by decide +kernel) rfl (Nat.le_of_ble_eq_true rfl) rfl).trans ?_
  refine (X_iconst (m := 329) (pc := 16) (n := 2) (by decide +kernel) ).trans ?_
  exact X_ireturn (m := 329) (pc := 17) (f := 1) (by decide +kernel) (by decide +kernel) rfl
theorem B_L_sameWithout_7 {k : Nat → Nat × Nat} {u : Nat → Nat → Int} {g : Nat → Nat → Nat} {t : Nat × Nat × Nat} {r0 : Nat} {x1 : Int} {r2 : Nat} {v3 : AV} {q0 : Nat} {y1 : Int} {y2 : Int} : a_X 329 7 [a_r (r0), a_i (x1), a_r (r2), v3] [a_i (y2), a_i (y1), a_r (q0)] (k, u, g, t) = if (k q0).1 = 22 ∧ 0 ≤ (y1 : Int) ∧ (y1 : Int) < ((k q0).2 : Int) then some (.inl (some (a_i (0))), (k, (upm u q0 (y1 : Int).toNat y2), g, t)) else none := by
  refine (X_i2l (m := 329) (pc := 7)  (by decide +kernel) ).trans ?_
  refine (X_lastore (m := 329) (pc := 8)  (by decide +kernel) ).trans ?_
  refine ite_congr rfl (fun _ => ?_) (fun _ => rfl)
  refine (X_goto (m := 329) (pc := 9) (off := 9) (tg := 18) (by decide +kernel) (by decide +kernel)).trans ?_
  refine (X_iconst (m := 329) (pc := 18) (n := 0) (by decide +kernel) ).trans ?_
  exact X_ireturn (m := 329) (pc := 19) (f := 1) (by decide +kernel) (by decide +kernel) rfl
theorem E_L_sameWith {σ : AS} {r0 : Nat} {x1 : Int} {x2 : Int} {r3 : Nat} : a_m 330 [a_r (r0), a_i (x1), a_i (x2), a_r (r3)] σ = a_X 330 0 [a_r (r0), a_i (x1), a_i (x2), a_r (r3), a_x false] [] σ := a_m_eq (by rw [a_entry, show m_maxL 330 = 5 from by decide +kernel]; rfl)
theorem B_L_sameWith_0 {k : Nat → Nat × Nat} {u : Nat → Nat → Int} {g : Nat → Nat → Nat} {t : Nat × Nat × Nat} {r0 : Nat} {x1 : Int} {x2 : Int} {r3 : Nat} {v4 : AV} : a_X 330 0 [a_r (r0), a_i (x1), a_i (x2), a_r (r3), v4] [] (k, u, g, t) = if (k r0).1 = 10 then (a_m 123 [a_r (r0), a_i (x1), a_i (x2)] (k, u, g, t)).bind (a_back 330 5 3 [a_r (r0), a_i (x1), a_i (x2), a_r (r3), v4] [a_i (0), a_r (r3)]) else none := by
  refine (X_aload_n (m := 330) (pc := 0) (n := 3) (by decide +kernel) rfl).trans ?_
  refine (X_iconst (m := 330) (pc := 1) (n := 0) (by decide +kernel) ).trans ?_
  refine (X_aload_n (m := 330) (pc := 2) (n := 0) (by decide +kernel) rfl).trans ?_
  refine (X_iload_n (m := 330) (pc := 3) (n := 1) (by decide +kernel) rfl).trans ?_
  refine (X_iload_n (m := 330) (pc := 4) (n := 2) (by decide +kernel) rfl).trans ?_
  refine (X_call_vi (m := 330) (pc := 5) (q := 105) (y := 123) (n := 3) (as := [a_r (r0), a_i (x1), a_i (x2)]) (rest := [a_i (0), a_r (r3)]) (by decide +kernel) (by decide +kernel) (by decide +kernel) (by decide +kernel) rfl rfl (Nat.le_of_ble_eq_true rfl) (Nat.le_of_ble_eq_true rfl) rfl (by rw [show m_maxL 123 = 3 from by decide +kernel]; exact Nat.le_of_ble_eq_true rfl)).trans ?_
  exact ite_congr (by simp [a_rcv, show m_recv 123 = 10 from by decide +kernel]) (fun _ => rfl) (fun _ => rfl)
theorem B_L_sameWith_13 {k : Nat → Nat × Nat} {u : Nat → Nat → Int} {g : Nat → Nat → Nat} {t : Nat × Nat × Nat} {r0 : Nat} {x1 : Int} {x2 : Int} {r3 : Nat} {v4 : AV} : a_X 330 13 [a_r (r0), a_i (x1), a_i (x2), a_r (r3), v4] [a_x true] (k, u, g, t) = some (.inl (some (a_i (1))), (k, u, g, t)) := by
  refine (X_astoreX (m := 330) (pc := 13) (n := 4) (by decide +kernel) rfl (Nat.le_of_ble_eq_true rfl) rfl).trans ?_
  refine (X_iconst (m := 330) (pc := 15) (n := 1) (by decide +kernel) ).trans ?_
  exact X_ireturn (m := 330) (pc := 16) (f := 1) (by decide +kernel) (by decide +kernel) rfl
theorem B_L_sameWith_17 {k : Nat → Nat × Nat} {u : Nat → Nat → Int} {g : Nat → Nat → Nat} {t : Nat × Nat × Nat} {r0 : Nat} {x1 : Int} {x2 : Int} {r3 : Nat} {v4 : AV} : a_X 330 17 [a_r (r0), a_i (x1), a_i (x2), a_r (r3), v4] [a_x true] (k, u, g, t) = some (.inl (some (a_i (2))), (k, u, g, t)) := by
  refine (X_astoreX (m := 330) (pc := 17) (n := 4) (by decide +kernel) rfl (Nat.le_of_ble_eq_true rfl) rfl).trans ?_
  refine (X_iconst (m := 330) (pc := 19) (n := 2) (by decide +kernel) ).trans ?_
  exact X_ireturn (m := 330) (pc := 20) (f := 1) (by decide +kernel) (by decide +kernel) rfl
theorem B_L_sameWith_21 {k : Nat → Nat × Nat} {u : Nat → Nat → Int} {g : Nat → Nat → Nat} {t : Nat × Nat × Nat} {r0 : Nat} {x1 : Int} {x2 : Int} {r3 : Nat} {v4 : AV} : a_X 330 21 [a_r (r0), a_i (x1), a_i (x2), a_r (r3), v4] [a_x true] (k, u, g, t) = some (.inl (some (a_i (3))), (k, u, g, t)) := by
  refine (X_astoreX (m := 330) (pc := 21) (n := 4) (by decide +kernel) rfl (Nat.le_of_ble_eq_true rfl) rfl).trans ?_
  refine (X_iconst (m := 330) (pc := 23) (n := 3) (by decide +kernel) ).trans ?_
  exact X_ireturn (m := 330) (pc := 24) (f := 1) (by decide +kernel) (by decide +kernel) rfl
theorem B_L_sameWith_8 {k : Nat → Nat × Nat} {u : Nat → Nat → Int} {g : Nat → Nat → Nat} {t : Nat × Nat × Nat} {r0 : Nat} {x1 : Int} {x2 : Int} {r3 : Nat} {v4 : AV} {q0 : Nat} {y1 : Int} {y2 : Int} : a_X 330 8 [a_r (r0), a_i (x1), a_i (x2), a_r (r3), v4] [a_i (y2), a_i (y1), a_r (q0)] (k, u, g, t) = if (k q0).1 = 22 ∧ 0 ≤ (y1 : Int) ∧ (y1 : Int) < ((k q0).2 : Int) then some (.inl (some (a_i (0))), (k, (upm u q0 (y1 : Int).toNat y2), g, t)) else none := by
  refine (X_i2l (m := 330) (pc := 8)  (by decide +kernel) ).trans ?_
  refine (X_lastore (m := 330) (pc := 9)  (by decide +kernel) ).trans ?_
  refine ite_congr rfl (fun _ => ?_) (fun _ => rfl)
  refine (X_goto (m := 330) (pc := 10) (off := 15) (tg := 25) (by decide +kernel) (by decide +kernel)).trans ?_
  refine (X_iconst (m := 330) (pc := 25) (n := 0) (by decide +kernel) ).trans ?_
  exact X_ireturn (m := 330) (pc := 26) (f := 1) (by decide +kernel) (by decide +kernel) rfl
theorem E_L_bestPeriod {σ : AS} {r0 : Nat} {x1 : Int} {r2 : Nat} : a_m 331 [a_r (r0), a_i (x1), a_r (r2)] σ = a_X 331 0 [a_r (r0), a_i (x1), a_r (r2), a_x false] [] σ := a_m_eq (by rw [a_entry, show m_maxL 331 = 4 from by decide +kernel]; rfl)
theorem B_L_bestPeriod_0 {k : Nat → Nat × Nat} {u : Nat → Nat → Int} {g : Nat → Nat → Nat} {t : Nat × Nat × Nat} {r0 : Nat} {x1 : Int} {r2 : Nat} {v3 : AV} : a_X 331 0 [a_r (r0), a_i (x1), a_r (r2), v3] [] (k, u, g, t) = if (k r0).1 = 10 then (a_m 124 [a_r (r0), a_i (x1)] (k, u, g, t)).bind (a_back 331 4 3 [a_r (r0), a_i (x1), a_r (r2), v3] [a_i (0), a_r (r2)]) else none := by
  refine (X_aload_n (m := 331) (pc := 0) (n := 2) (by decide +kernel) rfl).trans ?_
  refine (X_iconst (m := 331) (pc := 1) (n := 0) (by decide +kernel) ).trans ?_
  refine (X_aload_n (m := 331) (pc := 2) (n := 0) (by decide +kernel) rfl).trans ?_
  refine (X_iload_n (m := 331) (pc := 3) (n := 1) (by decide +kernel) rfl).trans ?_
  refine (X_call_vi (m := 331) (pc := 4) (q := 108) (y := 124) (n := 2) (as := [a_r (r0), a_i (x1)]) (rest := [a_i (0), a_r (r2)]) (by decide +kernel) (by decide +kernel) (by decide +kernel) (by decide +kernel) rfl rfl (Nat.le_of_ble_eq_true rfl) (Nat.le_of_ble_eq_true rfl) rfl (by rw [show m_maxL 124 = 6 from by decide +kernel]; exact Nat.le_of_ble_eq_true rfl)).trans ?_
  exact ite_congr (by simp [a_rcv, show m_recv 124 = 10 from by decide +kernel]) (fun _ => rfl) (fun _ => rfl)
theorem B_L_bestPeriod_12 {k : Nat → Nat × Nat} {u : Nat → Nat → Int} {g : Nat → Nat → Nat} {t : Nat × Nat × Nat} {r0 : Nat} {x1 : Int} {r2 : Nat} {v3 : AV} : a_X 331 12 [a_r (r0), a_i (x1), a_r (r2), v3] [a_x true] (k, u, g, t) = some (.inl (some (a_i (1))), (k, u, g, t)) := by
  refine (X_astoreX_n (m := 331) (pc := 12) (n := 3) (by decide +kernel) rfl (Nat.le_of_ble_eq_true rfl) rfl).trans ?_
  refine (X_iconst (m := 331) (pc := 13) (n := 1) (by decide +kernel) ).trans ?_
  exact X_ireturn (m := 331) (pc := 14) (f := 1) (by decide +kernel) (by decide +kernel) rfl
theorem B_L_bestPeriod_15 {k : Nat → Nat × Nat} {u : Nat → Nat → Int} {g : Nat → Nat → Nat} {t : Nat × Nat × Nat} {r0 : Nat} {x1 : Int} {r2 : Nat} {v3 : AV} : a_X 331 15 [a_r (r0), a_i (x1), a_r (r2), v3] [a_x true] (k, u, g, t) = some (.inl (some (a_i (2))), (k, u, g, t)) := by
  refine (X_astoreX_n (m := 331) (pc := 15) (n := 3) (by decide +kernel) rfl (Nat.le_of_ble_eq_true rfl) rfl).trans ?_
  refine (X_iconst (m := 331) (pc := 16) (n := 2) (by decide +kernel) ).trans ?_
  exact X_ireturn (m := 331) (pc := 17) (f := 1) (by decide +kernel) (by decide +kernel) rfl
theorem B_L_bestPeriod_7 {k : Nat → Nat × Nat} {u : Nat → Nat → Int} {g : Nat → Nat → Nat} {t : Nat × Nat × Nat} {r0 : Nat} {x1 : Int} {r2 : Nat} {v3 : AV} {q0 : Nat} {y1 : Int} {y2 : Int} : a_X 331 7 [a_r (r0), a_i (x1), a_r (r2), v3] [a_i (y2), a_i (y1), a_r (q0)] (k, u, g, t) = if (k q0).1 = 22 ∧ 0 ≤ (y1 : Int) ∧ (y1 : Int) < ((k q0).2 : Int) then some (.inl (some (a_i (0))), (k, (upm u q0 (y1 : Int).toNat y2), g, t)) else none := by
  refine (X_i2l (m := 331) (pc := 7)  (by decide +kernel) ).trans ?_
  refine (X_lastore (m := 331) (pc := 8)  (by decide +kernel) ).trans ?_
  refine ite_congr rfl (fun _ => ?_) (fun _ => rfl)
  refine (X_goto (m := 331) (pc := 9) (off := 9) (tg := 18) (by decide +kernel) (by decide +kernel)).trans ?_
  refine (X_iconst (m := 331) (pc := 18) (n := 0) (by decide +kernel) ).trans ?_
  exact X_ireturn (m := 331) (pc := 19) (f := 1) (by decide +kernel) (by decide +kernel) rfl
theorem E_L_sameShare {σ : AS} {r0 : Nat} {r1 : Nat} : a_m 332 [a_r (r0), a_r (r1)] σ = a_X 332 0 [a_r (r0), a_r (r1), a_x false] [] σ := a_m_eq (by rw [a_entry, show m_maxL 332 = 3 from by decide +kernel]; rfl)
theorem B_L_sameShare_0 {k : Nat → Nat × Nat} {u : Nat → Nat → Int} {g : Nat → Nat → Nat} {t : Nat × Nat × Nat} {r0 : Nat} {r1 : Nat} {v2 : AV} : a_X 332 0 [a_r (r0), a_r (r1), v2] [] (k, u, g, t) = if (k r0).1 = 10 then (a_m 125 [a_r (r0)] (k, u, g, t)).bind (a_back 332 3 3 [a_r (r0), a_r (r1), v2] [a_i (0), a_r (r1)]) else none := by
  refine (X_aload_n (m := 332) (pc := 0) (n := 1) (by decide +kernel) rfl).trans ?_
  refine (X_iconst (m := 332) (pc := 1) (n := 0) (by decide +kernel) ).trans ?_
  refine (X_aload_n (m := 332) (pc := 2) (n := 0) (by decide +kernel) rfl).trans ?_
  refine (X_call_vi (m := 332) (pc := 3) (q := 111) (y := 125) (n := 1) (as := [a_r (r0)]) (rest := [a_i (0), a_r (r1)]) (by decide +kernel) (by decide +kernel) (by decide +kernel) (by decide +kernel) rfl rfl (Nat.le_of_ble_eq_true rfl) (Nat.le_of_ble_eq_true rfl) rfl (by rw [show m_maxL 125 = 3 from by decide +kernel]; exact Nat.le_of_ble_eq_true rfl)).trans ?_
  exact ite_congr (by simp [a_rcv, show m_recv 125 = 10 from by decide +kernel]) (fun _ => rfl) (fun _ => rfl)
theorem B_L_sameShare_11 {k : Nat → Nat × Nat} {u : Nat → Nat → Int} {g : Nat → Nat → Nat} {t : Nat × Nat × Nat} {r0 : Nat} {r1 : Nat} {v2 : AV} : a_X 332 11 [a_r (r0), a_r (r1), v2] [a_x true] (k, u, g, t) = some (.inl (some (a_i (1))), (k, u, g, t)) := by
  refine (X_astoreX_n (m := 332) (pc := 11) (n := 2) (by decide +kernel) rfl (Nat.le_of_ble_eq_true rfl) rfl).trans ?_
  refine (X_iconst (m := 332) (pc := 12) (n := 1) (by decide +kernel) ).trans ?_
  exact X_ireturn (m := 332) (pc := 13) (f := 1) (by decide +kernel) (by decide +kernel) rfl
theorem B_L_sameShare_6 {k : Nat → Nat × Nat} {u : Nat → Nat → Int} {g : Nat → Nat → Nat} {t : Nat × Nat × Nat} {r0 : Nat} {r1 : Nat} {v2 : AV} {q0 : Nat} {y1 : Int} {e2 : UInt32} : a_X 332 6 [a_r (r0), a_r (r1), v2] [a_f (e2), a_i (y1), a_r (q0)] (k, u, g, t) = if FP.f2d (e2) &&& 0x7fffffffffffffff ≤ 0x7ff0000000000000 then if (k q0).1 = 23 ∧ 0 ≤ (y1 : Int) ∧ (y1 : Int) < ((k q0).2 : Int) then some (.inl (some (a_i (0))), (k, (upm u q0 (y1 : Int).toNat ((FP.f2d (e2)).toNat : Int)), g, t)) else none else none := by
  refine (X_f2d (m := 332) (pc := 6)  (by decide +kernel) ).trans ?_
  refine ite_congr rfl (fun _ => ?_) (fun _ => rfl)
  refine (X_dastore (m := 332) (pc := 7)  (by decide +kernel) ).trans ?_
  refine ite_congr rfl (fun _ => ?_) (fun _ => rfl)
  refine (X_goto (m := 332) (pc := 8) (off := 6) (tg := 14) (by decide +kernel) (by decide +kernel)).trans ?_
  refine (X_iconst (m := 332) (pc := 14) (n := 0) (by decide +kernel) ).trans ?_
  exact X_ireturn (m := 332) (pc := 15) (f := 1) (by decide +kernel) (by decide +kernel) rfl
theorem E_L_meanBehind {σ : AS} {r0 : Nat} {r1 : Nat} : a_m 333 [a_r (r0), a_r (r1)] σ = a_X 333 0 [a_r (r0), a_r (r1), a_x false] [] σ := a_m_eq (by rw [a_entry, show m_maxL 333 = 3 from by decide +kernel]; rfl)
theorem B_L_meanBehind_0 {k : Nat → Nat × Nat} {u : Nat → Nat → Int} {g : Nat → Nat → Nat} {t : Nat × Nat × Nat} {r0 : Nat} {r1 : Nat} {v2 : AV} : a_X 333 0 [a_r (r0), a_r (r1), v2] [] (k, u, g, t) = if (k r0).1 = 10 then (a_m 126 [a_r (r0)] (k, u, g, t)).bind (a_back 333 3 3 [a_r (r0), a_r (r1), v2] [a_i (0), a_r (r1)]) else none := by
  refine (X_aload_n (m := 333) (pc := 0) (n := 1) (by decide +kernel) rfl).trans ?_
  refine (X_iconst (m := 333) (pc := 1) (n := 0) (by decide +kernel) ).trans ?_
  refine (X_aload_n (m := 333) (pc := 2) (n := 0) (by decide +kernel) rfl).trans ?_
  refine (X_call_vi (m := 333) (pc := 3) (q := 115) (y := 126) (n := 1) (as := [a_r (r0)]) (rest := [a_i (0), a_r (r1)]) (by decide +kernel) (by decide +kernel) (by decide +kernel) (by decide +kernel) rfl rfl (Nat.le_of_ble_eq_true rfl) (Nat.le_of_ble_eq_true rfl) rfl (by rw [show m_maxL 126 = 3 from by decide +kernel]; exact Nat.le_of_ble_eq_true rfl)).trans ?_
  exact ite_congr (by simp [a_rcv, show m_recv 126 = 10 from by decide +kernel]) (fun _ => rfl) (fun _ => rfl)
theorem B_L_meanBehind_10 {k : Nat → Nat × Nat} {u : Nat → Nat → Int} {g : Nat → Nat → Nat} {t : Nat × Nat × Nat} {r0 : Nat} {r1 : Nat} {v2 : AV} : a_X 333 10 [a_r (r0), a_r (r1), v2] [a_x true] (k, u, g, t) = some (.inl (some (a_i (1))), (k, u, g, t)) := by
  refine (X_astoreX_n (m := 333) (pc := 10) (n := 2) (by decide +kernel) rfl (Nat.le_of_ble_eq_true rfl) rfl).trans ?_
  refine (X_iconst (m := 333) (pc := 11) (n := 1) (by decide +kernel) ).trans ?_
  exact X_ireturn (m := 333) (pc := 12) (f := 1) (by decide +kernel) (by decide +kernel) rfl
theorem B_L_meanBehind_6 {k : Nat → Nat × Nat} {u : Nat → Nat → Int} {g : Nat → Nat → Nat} {t : Nat × Nat × Nat} {r0 : Nat} {r1 : Nat} {v2 : AV} {q0 : Nat} {y1 : Int} {c2 : UInt64} : a_X 333 6 [a_r (r0), a_r (r1), v2] [a_d (c2), a_i (y1), a_r (q0)] (k, u, g, t) = if (k q0).1 = 23 ∧ 0 ≤ (y1 : Int) ∧ (y1 : Int) < ((k q0).2 : Int) then some (.inl (some (a_i (0))), (k, (upm u q0 (y1 : Int).toNat ((c2).toNat : Int)), g, t)) else none := by
  refine (X_dastore (m := 333) (pc := 6)  (by decide +kernel) ).trans ?_
  refine ite_congr rfl (fun _ => ?_) (fun _ => rfl)
  refine (X_goto (m := 333) (pc := 7) (off := 6) (tg := 13) (by decide +kernel) (by decide +kernel)).trans ?_
  refine (X_iconst (m := 333) (pc := 13) (n := 0) (by decide +kernel) ).trans ?_
  exact X_ireturn (m := 333) (pc := 14) (f := 1) (by decide +kernel) (by decide +kernel) rfl
theorem E_L_writeDay {σ : AS} {r0 : Nat} {x1 : Int} {x2 : Int} {r3 : Nat} : a_m 334 [a_r (r0), a_i (x1), a_i (x2), a_r (r3)] σ = a_X 334 0 [a_r (r0), a_i (x1), a_i (x2), a_r (r3), a_x false] [] σ := a_m_eq (by rw [a_entry, show m_maxL 334 = 5 from by decide +kernel]; rfl)
theorem B_L_writeDay_0 {k : Nat → Nat × Nat} {u : Nat → Nat → Int} {g : Nat → Nat → Nat} {t : Nat × Nat × Nat} {r0 : Nat} {x1 : Int} {x2 : Int} {r3 : Nat} {v4 : AV} : a_X 334 0 [a_r (r0), a_i (x1), a_i (x2), a_r (r3), v4] [] (k, u, g, t) = if (k r0).1 = 10 then (a_m 127 [a_r (r0), a_i (x1), a_i (x2)] (k, u, g, t)).bind (a_back 334 5 3 [a_r (r0), a_i (x1), a_i (x2), a_r (r3), v4] [a_i (0), a_r (r3)]) else none := by
  refine (X_aload_n (m := 334) (pc := 0) (n := 3) (by decide +kernel) rfl).trans ?_
  refine (X_iconst (m := 334) (pc := 1) (n := 0) (by decide +kernel) ).trans ?_
  refine (X_aload_n (m := 334) (pc := 2) (n := 0) (by decide +kernel) rfl).trans ?_
  refine (X_iload_n (m := 334) (pc := 3) (n := 1) (by decide +kernel) rfl).trans ?_
  refine (X_iload_n (m := 334) (pc := 4) (n := 2) (by decide +kernel) rfl).trans ?_
  refine (X_call_vi (m := 334) (pc := 5) (q := 119) (y := 127) (n := 3) (as := [a_r (r0), a_i (x1), a_i (x2)]) (rest := [a_i (0), a_r (r3)]) (by decide +kernel) (by decide +kernel) (by decide +kernel) (by decide +kernel) rfl rfl (Nat.le_of_ble_eq_true rfl) (Nat.le_of_ble_eq_true rfl) rfl (by rw [show m_maxL 127 = 4 from by decide +kernel]; exact Nat.le_of_ble_eq_true rfl)).trans ?_
  exact ite_congr (by simp [a_rcv, show m_recv 127 = 10 from by decide +kernel]) (fun _ => rfl) (fun _ => rfl)
theorem B_L_writeDay_13 {k : Nat → Nat × Nat} {u : Nat → Nat → Int} {g : Nat → Nat → Nat} {t : Nat × Nat × Nat} {r0 : Nat} {x1 : Int} {x2 : Int} {r3 : Nat} {v4 : AV} : a_X 334 13 [a_r (r0), a_i (x1), a_i (x2), a_r (r3), v4] [a_x true] (k, u, g, t) = some (.inl (some (a_i (1))), (k, u, g, t)) := by
  refine (X_astoreX (m := 334) (pc := 13) (n := 4) (by decide +kernel) rfl (Nat.le_of_ble_eq_true rfl) rfl).trans ?_
  refine (X_iconst (m := 334) (pc := 15) (n := 1) (by decide +kernel) ).trans ?_
  exact X_ireturn (m := 334) (pc := 16) (f := 1) (by decide +kernel) (by decide +kernel) rfl
theorem B_L_writeDay_17 {k : Nat → Nat × Nat} {u : Nat → Nat → Int} {g : Nat → Nat → Nat} {t : Nat × Nat × Nat} {r0 : Nat} {x1 : Int} {x2 : Int} {r3 : Nat} {v4 : AV} : a_X 334 17 [a_r (r0), a_i (x1), a_i (x2), a_r (r3), v4] [a_x true] (k, u, g, t) = some (.inl (some (a_i (2))), (k, u, g, t)) := by
  refine (X_astoreX (m := 334) (pc := 17) (n := 4) (by decide +kernel) rfl (Nat.le_of_ble_eq_true rfl) rfl).trans ?_
  refine (X_iconst (m := 334) (pc := 19) (n := 2) (by decide +kernel) ).trans ?_
  exact X_ireturn (m := 334) (pc := 20) (f := 1) (by decide +kernel) (by decide +kernel) rfl
theorem B_L_writeDay_21 {k : Nat → Nat × Nat} {u : Nat → Nat → Int} {g : Nat → Nat → Nat} {t : Nat × Nat × Nat} {r0 : Nat} {x1 : Int} {x2 : Int} {r3 : Nat} {v4 : AV} : a_X 334 21 [a_r (r0), a_i (x1), a_i (x2), a_r (r3), v4] [a_x true] (k, u, g, t) = some (.inl (some (a_i (3))), (k, u, g, t)) := by
  refine (X_astoreX (m := 334) (pc := 21) (n := 4) (by decide +kernel) rfl (Nat.le_of_ble_eq_true rfl) rfl).trans ?_
  refine (X_iconst (m := 334) (pc := 23) (n := 3) (by decide +kernel) ).trans ?_
  exact X_ireturn (m := 334) (pc := 24) (f := 1) (by decide +kernel) (by decide +kernel) rfl
theorem B_L_writeDay_8 {k : Nat → Nat × Nat} {u : Nat → Nat → Int} {g : Nat → Nat → Nat} {t : Nat × Nat × Nat} {r0 : Nat} {x1 : Int} {x2 : Int} {r3 : Nat} {v4 : AV} {q0 : Nat} {y1 : Int} {y2 : Int} : a_X 334 8 [a_r (r0), a_i (x1), a_i (x2), a_r (r3), v4] [a_i (y2), a_i (y1), a_r (q0)] (k, u, g, t) = if (k q0).1 = 22 ∧ 0 ≤ (y1 : Int) ∧ (y1 : Int) < ((k q0).2 : Int) then some (.inl (some (a_i (0))), (k, (upm u q0 (y1 : Int).toNat y2), g, t)) else none := by
  refine (X_i2l (m := 334) (pc := 8)  (by decide +kernel) ).trans ?_
  refine (X_lastore (m := 334) (pc := 9)  (by decide +kernel) ).trans ?_
  refine ite_congr rfl (fun _ => ?_) (fun _ => rfl)
  refine (X_goto (m := 334) (pc := 10) (off := 15) (tg := 25) (by decide +kernel) (by decide +kernel)).trans ?_
  refine (X_iconst (m := 334) (pc := 25) (n := 0) (by decide +kernel) ).trans ?_
  exact X_ireturn (m := 334) (pc := 26) (f := 1) (by decide +kernel) (by decide +kernel) rfl
theorem E_L_writeMissing {σ : AS} {r0 : Nat} {x1 : Int} {r2 : Nat} : a_m 335 [a_r (r0), a_i (x1), a_r (r2)] σ = a_X 335 0 [a_r (r0), a_i (x1), a_r (r2), a_x false] [] σ := a_m_eq (by rw [a_entry, show m_maxL 335 = 4 from by decide +kernel]; rfl)
theorem B_L_writeMissing_0 {k : Nat → Nat × Nat} {u : Nat → Nat → Int} {g : Nat → Nat → Nat} {t : Nat × Nat × Nat} {r0 : Nat} {x1 : Int} {r2 : Nat} {v3 : AV} : a_X 335 0 [a_r (r0), a_i (x1), a_r (r2), v3] [] (k, u, g, t) = if (k r0).1 = 10 then (a_m 128 [a_r (r0), a_i (x1)] (k, u, g, t)).bind (a_back 335 4 3 [a_r (r0), a_i (x1), a_r (r2), v3] [a_i (0), a_r (r2)]) else none := by
  refine (X_aload_n (m := 335) (pc := 0) (n := 2) (by decide +kernel) rfl).trans ?_
  refine (X_iconst (m := 335) (pc := 1) (n := 0) (by decide +kernel) ).trans ?_
  refine (X_aload_n (m := 335) (pc := 2) (n := 0) (by decide +kernel) rfl).trans ?_
  refine (X_iload_n (m := 335) (pc := 3) (n := 1) (by decide +kernel) rfl).trans ?_
  refine (X_call_vi (m := 335) (pc := 4) (q := 122) (y := 128) (n := 2) (as := [a_r (r0), a_i (x1)]) (rest := [a_i (0), a_r (r2)]) (by decide +kernel) (by decide +kernel) (by decide +kernel) (by decide +kernel) rfl rfl (Nat.le_of_ble_eq_true rfl) (Nat.le_of_ble_eq_true rfl) rfl (by rw [show m_maxL 128 = 4 from by decide +kernel]; exact Nat.le_of_ble_eq_true rfl)).trans ?_
  exact ite_congr (by simp [a_rcv, show m_recv 128 = 10 from by decide +kernel]) (fun _ => rfl) (fun _ => rfl)
theorem B_L_writeMissing_12 {k : Nat → Nat × Nat} {u : Nat → Nat → Int} {g : Nat → Nat → Nat} {t : Nat × Nat × Nat} {r0 : Nat} {x1 : Int} {r2 : Nat} {v3 : AV} : a_X 335 12 [a_r (r0), a_i (x1), a_r (r2), v3] [a_x true] (k, u, g, t) = some (.inl (some (a_i (1))), (k, u, g, t)) := by
  refine (X_astoreX_n (m := 335) (pc := 12) (n := 3) (by decide +kernel) rfl (Nat.le_of_ble_eq_true rfl) rfl).trans ?_
  refine (X_iconst (m := 335) (pc := 13) (n := 1) (by decide +kernel) ).trans ?_
  exact X_ireturn (m := 335) (pc := 14) (f := 1) (by decide +kernel) (by decide +kernel) rfl
theorem B_L_writeMissing_15 {k : Nat → Nat × Nat} {u : Nat → Nat → Int} {g : Nat → Nat → Nat} {t : Nat × Nat × Nat} {r0 : Nat} {x1 : Int} {r2 : Nat} {v3 : AV} : a_X 335 15 [a_r (r0), a_i (x1), a_r (r2), v3] [a_x true] (k, u, g, t) = some (.inl (some (a_i (2))), (k, u, g, t)) := by
  refine (X_astoreX_n (m := 335) (pc := 15) (n := 3) (by decide +kernel) rfl (Nat.le_of_ble_eq_true rfl) rfl).trans ?_
  refine (X_iconst (m := 335) (pc := 16) (n := 2) (by decide +kernel) ).trans ?_
  exact X_ireturn (m := 335) (pc := 17) (f := 1) (by decide +kernel) (by decide +kernel) rfl
theorem B_L_writeMissing_7 {k : Nat → Nat × Nat} {u : Nat → Nat → Int} {g : Nat → Nat → Nat} {t : Nat × Nat × Nat} {r0 : Nat} {x1 : Int} {r2 : Nat} {v3 : AV} {q0 : Nat} {y1 : Int} {y2 : Int} : a_X 335 7 [a_r (r0), a_i (x1), a_r (r2), v3] [a_i (y2), a_i (y1), a_r (q0)] (k, u, g, t) = if (k q0).1 = 22 ∧ 0 ≤ (y1 : Int) ∧ (y1 : Int) < ((k q0).2 : Int) then some (.inl (some (a_i (0))), (k, (upm u q0 (y1 : Int).toNat y2), g, t)) else none := by
  refine (X_i2l (m := 335) (pc := 7)  (by decide +kernel) ).trans ?_
  refine (X_lastore (m := 335) (pc := 8)  (by decide +kernel) ).trans ?_
  refine ite_congr rfl (fun _ => ?_) (fun _ => rfl)
  refine (X_goto (m := 335) (pc := 9) (off := 9) (tg := 18) (by decide +kernel) (by decide +kernel)).trans ?_
  refine (X_iconst (m := 335) (pc := 18) (n := 0) (by decide +kernel) ).trans ?_
  exact X_ireturn (m := 335) (pc := 19) (f := 1) (by decide +kernel) (by decide +kernel) rfl
theorem E_L_textByte {σ : AS} {r0 : Nat} {x1 : Int} {r2 : Nat} : a_m 336 [a_r (r0), a_i (x1), a_r (r2)] σ = a_X 336 0 [a_r (r0), a_i (x1), a_r (r2), a_x false] [] σ := a_m_eq (by rw [a_entry, show m_maxL 336 = 4 from by decide +kernel]; rfl)
theorem B_L_textByte_0 {k : Nat → Nat × Nat} {u : Nat → Nat → Int} {g : Nat → Nat → Nat} {t : Nat × Nat × Nat} {r0 : Nat} {x1 : Int} {r2 : Nat} {v3 : AV} : a_X 336 0 [a_r (r0), a_i (x1), a_r (r2), v3] [] (k, u, g, t) = if (k r0).1 = 10 then (a_m 129 [a_r (r0), a_i (x1)] (k, u, g, t)).bind (a_back 336 4 3 [a_r (r0), a_i (x1), a_r (r2), v3] [a_i (0), a_r (r2)]) else none := by
  refine (X_aload_n (m := 336) (pc := 0) (n := 2) (by decide +kernel) rfl).trans ?_
  refine (X_iconst (m := 336) (pc := 1) (n := 0) (by decide +kernel) ).trans ?_
  refine (X_aload_n (m := 336) (pc := 2) (n := 0) (by decide +kernel) rfl).trans ?_
  refine (X_iload_n (m := 336) (pc := 3) (n := 1) (by decide +kernel) rfl).trans ?_
  refine (X_call_vi (m := 336) (pc := 4) (q := 125) (y := 129) (n := 2) (as := [a_r (r0), a_i (x1)]) (rest := [a_i (0), a_r (r2)]) (by decide +kernel) (by decide +kernel) (by decide +kernel) (by decide +kernel) rfl rfl (Nat.le_of_ble_eq_true rfl) (Nat.le_of_ble_eq_true rfl) rfl (by rw [show m_maxL 129 = 2 from by decide +kernel]; exact Nat.le_of_ble_eq_true rfl)).trans ?_
  exact ite_congr (by simp [a_rcv, show m_recv 129 = 10 from by decide +kernel]) (fun _ => rfl) (fun _ => rfl)
theorem B_L_textByte_12 {k : Nat → Nat × Nat} {u : Nat → Nat → Int} {g : Nat → Nat → Nat} {t : Nat × Nat × Nat} {r0 : Nat} {x1 : Int} {r2 : Nat} {v3 : AV} : a_X 336 12 [a_r (r0), a_i (x1), a_r (r2), v3] [a_x true] (k, u, g, t) = some (.inl (some (a_i (1))), (k, u, g, t)) := by
  refine (X_astoreX_n (m := 336) (pc := 12) (n := 3) (by decide +kernel) rfl (Nat.le_of_ble_eq_true rfl) rfl).trans ?_
  refine (X_iconst (m := 336) (pc := 13) (n := 1) (by decide +kernel) ).trans ?_
  exact X_ireturn (m := 336) (pc := 14) (f := 1) (by decide +kernel) (by decide +kernel) rfl
theorem B_L_textByte_7 {k : Nat → Nat × Nat} {u : Nat → Nat → Int} {g : Nat → Nat → Nat} {t : Nat × Nat × Nat} {r0 : Nat} {x1 : Int} {r2 : Nat} {v3 : AV} {q0 : Nat} {y1 : Int} {y2 : Int} : a_X 336 7 [a_r (r0), a_i (x1), a_r (r2), v3] [a_i (y2), a_i (y1), a_r (q0)] (k, u, g, t) = if (k q0).1 = 22 ∧ 0 ≤ (y1 : Int) ∧ (y1 : Int) < ((k q0).2 : Int) then some (.inl (some (a_i (0))), (k, (upm u q0 (y1 : Int).toNat y2), g, t)) else none := by
  refine (X_i2l (m := 336) (pc := 7)  (by decide +kernel) ).trans ?_
  refine (X_lastore (m := 336) (pc := 8)  (by decide +kernel) ).trans ?_
  refine ite_congr rfl (fun _ => ?_) (fun _ => rfl)
  refine (X_goto (m := 336) (pc := 9) (off := 6) (tg := 15) (by decide +kernel) (by decide +kernel)).trans ?_
  refine (X_iconst (m := 336) (pc := 15) (n := 0) (by decide +kernel) ).trans ?_
  exact X_ireturn (m := 336) (pc := 16) (f := 1) (by decide +kernel) (by decide +kernel) rfl
theorem E_L_correct {σ : AS} {r0 : Nat} {x1 : Int} {x2 : Int} {x3 : Int} {x4 : Int} {x5 : Int} {x6 : Int} {r7 : Nat} : a_m 337 [a_r (r0), a_i (x1), a_i (x2), a_i (x3), a_i (x4), a_i (x5), a_i (x6), a_r (r7)] σ = a_X 337 0 [a_r (r0), a_i (x1), a_i (x2), a_i (x3), a_i (x4), a_i (x5), a_i (x6), a_r (r7), a_x false] [] σ := a_m_eq (by rw [a_entry, show m_maxL 337 = 9 from by decide +kernel]; rfl)
theorem B_L_correct_0 {k : Nat → Nat × Nat} {u : Nat → Nat → Int} {g : Nat → Nat → Nat} {t : Nat × Nat × Nat} {r0 : Nat} {x1 : Int} {x2 : Int} {x3 : Int} {x4 : Int} {x5 : Int} {x6 : Int} {r7 : Nat} {v8 : AV} : a_X 337 0 [a_r (r0), a_i (x1), a_i (x2), a_i (x3), a_i (x4), a_i (x5), a_i (x6), a_r (r7), v8] [] (k, u, g, t) = if (k r0).1 = 10 then (a_m 130 [a_r (r0), a_i (x1), a_i (x2), a_i (x3), a_i (x4), a_i (x5), a_i (x6)] (k, u, g, t)).bind (a_back 337 13 3 [a_r (r0), a_i (x1), a_i (x2), a_i (x3), a_i (x4), a_i (x5), a_i (x6), a_r (r7), v8] [a_i (0), a_r (r7)]) else none := by
  refine (X_aload (m := 337) (pc := 0) (n := 7) (by decide +kernel) rfl).trans ?_
  refine (X_iconst (m := 337) (pc := 2) (n := 0) (by decide +kernel) ).trans ?_
  refine (X_aload_n (m := 337) (pc := 3) (n := 0) (by decide +kernel) rfl).trans ?_
  refine (X_iload_n (m := 337) (pc := 4) (n := 1) (by decide +kernel) rfl).trans ?_
  refine (X_iload_n (m := 337) (pc := 5) (n := 2) (by decide +kernel) rfl).trans ?_
  refine (X_iload_n (m := 337) (pc := 6) (n := 3) (by decide +kernel) rfl).trans ?_
  refine (X_iload (m := 337) (pc := 7) (n := 4) (by decide +kernel) rfl).trans ?_
  refine (X_iload (m := 337) (pc := 9) (n := 5) (by decide +kernel) rfl).trans ?_
  refine (X_iload (m := 337) (pc := 11) (n := 6) (by decide +kernel) rfl).trans ?_
  refine (X_call_vi (m := 337) (pc := 13) (q := 128) (y := 130) (n := 7) (as := [a_r (r0), a_i (x1), a_i (x2), a_i (x3), a_i (x4), a_i (x5), a_i (x6)]) (rest := [a_i (0), a_r (r7)]) (by decide +kernel) (by decide +kernel) (by decide +kernel) (by decide +kernel) rfl rfl (Nat.le_of_ble_eq_true rfl) (Nat.le_of_ble_eq_true rfl) rfl (by rw [show m_maxL 130 = 7 from by decide +kernel]; exact Nat.le_of_ble_eq_true rfl)).trans ?_
  exact ite_congr (by simp [a_rcv, show m_recv 130 = 10 from by decide +kernel]) (fun _ => rfl) (fun _ => rfl)
theorem B_L_correct_21 {k : Nat → Nat × Nat} {u : Nat → Nat → Int} {g : Nat → Nat → Nat} {t : Nat × Nat × Nat} {r0 : Nat} {x1 : Int} {x2 : Int} {x3 : Int} {x4 : Int} {x5 : Int} {x6 : Int} {r7 : Nat} {v8 : AV} : a_X 337 21 [a_r (r0), a_i (x1), a_i (x2), a_i (x3), a_i (x4), a_i (x5), a_i (x6), a_r (r7), v8] [a_x true] (k, u, g, t) = some (.inl (some (a_i (1))), (k, u, g, t)) := by
  refine (X_astoreX (m := 337) (pc := 21) (n := 8) (by decide +kernel) rfl (Nat.le_of_ble_eq_true rfl) rfl).trans ?_
  refine (X_iconst (m := 337) (pc := 23) (n := 1) (by decide +kernel) ).trans ?_
  exact X_ireturn (m := 337) (pc := 24) (f := 1) (by decide +kernel) (by decide +kernel) rfl
theorem B_L_correct_25 {k : Nat → Nat × Nat} {u : Nat → Nat → Int} {g : Nat → Nat → Nat} {t : Nat × Nat × Nat} {r0 : Nat} {x1 : Int} {x2 : Int} {x3 : Int} {x4 : Int} {x5 : Int} {x6 : Int} {r7 : Nat} {v8 : AV} : a_X 337 25 [a_r (r0), a_i (x1), a_i (x2), a_i (x3), a_i (x4), a_i (x5), a_i (x6), a_r (r7), v8] [a_x true] (k, u, g, t) = some (.inl (some (a_i (2))), (k, u, g, t)) := by
  refine (X_astoreX (m := 337) (pc := 25) (n := 8) (by decide +kernel) rfl (Nat.le_of_ble_eq_true rfl) rfl).trans ?_
  refine (X_iconst (m := 337) (pc := 27) (n := 2) (by decide +kernel) ).trans ?_
  exact X_ireturn (m := 337) (pc := 28) (f := 1) (by decide +kernel) (by decide +kernel) rfl
theorem B_L_correct_29 {k : Nat → Nat × Nat} {u : Nat → Nat → Int} {g : Nat → Nat → Nat} {t : Nat × Nat × Nat} {r0 : Nat} {x1 : Int} {x2 : Int} {x3 : Int} {x4 : Int} {x5 : Int} {x6 : Int} {r7 : Nat} {v8 : AV} : a_X 337 29 [a_r (r0), a_i (x1), a_i (x2), a_i (x3), a_i (x4), a_i (x5), a_i (x6), a_r (r7), v8] [a_x true] (k, u, g, t) = some (.inl (some (a_i (3))), (k, u, g, t)) := by
  refine (X_astoreX (m := 337) (pc := 29) (n := 8) (by decide +kernel) rfl (Nat.le_of_ble_eq_true rfl) rfl).trans ?_
  refine (X_iconst (m := 337) (pc := 31) (n := 3) (by decide +kernel) ).trans ?_
  exact X_ireturn (m := 337) (pc := 32) (f := 1) (by decide +kernel) (by decide +kernel) rfl
theorem B_L_correct_16 {k : Nat → Nat × Nat} {u : Nat → Nat → Int} {g : Nat → Nat → Nat} {t : Nat × Nat × Nat} {r0 : Nat} {x1 : Int} {x2 : Int} {x3 : Int} {x4 : Int} {x5 : Int} {x6 : Int} {r7 : Nat} {v8 : AV} {q0 : Nat} {y1 : Int} {y2 : Int} : a_X 337 16 [a_r (r0), a_i (x1), a_i (x2), a_i (x3), a_i (x4), a_i (x5), a_i (x6), a_r (r7), v8] [a_i (y2), a_i (y1), a_r (q0)] (k, u, g, t) = if (k q0).1 = 22 ∧ 0 ≤ (y1 : Int) ∧ (y1 : Int) < ((k q0).2 : Int) then some (.inl (some (a_i (0))), (k, (upm u q0 (y1 : Int).toNat y2), g, t)) else none := by
  refine (X_i2l (m := 337) (pc := 16)  (by decide +kernel) ).trans ?_
  refine (X_lastore (m := 337) (pc := 17)  (by decide +kernel) ).trans ?_
  refine ite_congr rfl (fun _ => ?_) (fun _ => rfl)
  refine (X_goto (m := 337) (pc := 18) (off := 15) (tg := 33) (by decide +kernel) (by decide +kernel)).trans ?_
  refine (X_iconst (m := 337) (pc := 33) (n := 0) (by decide +kernel) ).trans ?_
  exact X_ireturn (m := 337) (pc := 34) (f := 1) (by decide +kernel) (by decide +kernel) rfl
theorem E_L_cancel {σ : AS} {r0 : Nat} {x1 : Int} {x2 : Int} {r3 : Nat} : a_m 338 [a_r (r0), a_i (x1), a_i (x2), a_r (r3)] σ = a_X 338 0 [a_r (r0), a_i (x1), a_i (x2), a_r (r3), a_x false] [] σ := a_m_eq (by rw [a_entry, show m_maxL 338 = 5 from by decide +kernel]; rfl)
theorem B_L_cancel_0 {k : Nat → Nat × Nat} {u : Nat → Nat → Int} {g : Nat → Nat → Nat} {t : Nat × Nat × Nat} {r0 : Nat} {x1 : Int} {x2 : Int} {r3 : Nat} {v4 : AV} : a_X 338 0 [a_r (r0), a_i (x1), a_i (x2), a_r (r3), v4] [] (k, u, g, t) = if (k r0).1 = 10 then (a_m 131 [a_r (r0), a_i (x1), a_i (x2)] (k, u, g, t)).bind (a_back 338 5 3 [a_r (r0), a_i (x1), a_i (x2), a_r (r3), v4] [a_i (0), a_r (r3)]) else none := by
  refine (X_aload_n (m := 338) (pc := 0) (n := 3) (by decide +kernel) rfl).trans ?_
  refine (X_iconst (m := 338) (pc := 1) (n := 0) (by decide +kernel) ).trans ?_
  refine (X_aload_n (m := 338) (pc := 2) (n := 0) (by decide +kernel) rfl).trans ?_
  refine (X_iload_n (m := 338) (pc := 3) (n := 1) (by decide +kernel) rfl).trans ?_
  refine (X_iload_n (m := 338) (pc := 4) (n := 2) (by decide +kernel) rfl).trans ?_
  refine (X_call_vi (m := 338) (pc := 5) (q := 132) (y := 131) (n := 3) (as := [a_r (r0), a_i (x1), a_i (x2)]) (rest := [a_i (0), a_r (r3)]) (by decide +kernel) (by decide +kernel) (by decide +kernel) (by decide +kernel) rfl rfl (Nat.le_of_ble_eq_true rfl) (Nat.le_of_ble_eq_true rfl) rfl (by rw [show m_maxL 131 = 3 from by decide +kernel]; exact Nat.le_of_ble_eq_true rfl)).trans ?_
  exact ite_congr (by simp [a_rcv, show m_recv 131 = 10 from by decide +kernel]) (fun _ => rfl) (fun _ => rfl)
theorem B_L_cancel_13 {k : Nat → Nat × Nat} {u : Nat → Nat → Int} {g : Nat → Nat → Nat} {t : Nat × Nat × Nat} {r0 : Nat} {x1 : Int} {x2 : Int} {r3 : Nat} {v4 : AV} : a_X 338 13 [a_r (r0), a_i (x1), a_i (x2), a_r (r3), v4] [a_x true] (k, u, g, t) = some (.inl (some (a_i (1))), (k, u, g, t)) := by
  refine (X_astoreX (m := 338) (pc := 13) (n := 4) (by decide +kernel) rfl (Nat.le_of_ble_eq_true rfl) rfl).trans ?_
  refine (X_iconst (m := 338) (pc := 15) (n := 1) (by decide +kernel) ).trans ?_
  exact X_ireturn (m := 338) (pc := 16) (f := 1) (by decide +kernel) (by decide +kernel) rfl
theorem B_L_cancel_17 {k : Nat → Nat × Nat} {u : Nat → Nat → Int} {g : Nat → Nat → Nat} {t : Nat × Nat × Nat} {r0 : Nat} {x1 : Int} {x2 : Int} {r3 : Nat} {v4 : AV} : a_X 338 17 [a_r (r0), a_i (x1), a_i (x2), a_r (r3), v4] [a_x true] (k, u, g, t) = some (.inl (some (a_i (2))), (k, u, g, t)) := by
  refine (X_astoreX (m := 338) (pc := 17) (n := 4) (by decide +kernel) rfl (Nat.le_of_ble_eq_true rfl) rfl).trans ?_
  refine (X_iconst (m := 338) (pc := 19) (n := 2) (by decide +kernel) ).trans ?_
  exact X_ireturn (m := 338) (pc := 20) (f := 1) (by decide +kernel) (by decide +kernel) rfl
theorem B_L_cancel_21 {k : Nat → Nat × Nat} {u : Nat → Nat → Int} {g : Nat → Nat → Nat} {t : Nat × Nat × Nat} {r0 : Nat} {x1 : Int} {x2 : Int} {r3 : Nat} {v4 : AV} : a_X 338 21 [a_r (r0), a_i (x1), a_i (x2), a_r (r3), v4] [a_x true] (k, u, g, t) = some (.inl (some (a_i (3))), (k, u, g, t)) := by
  refine (X_astoreX (m := 338) (pc := 21) (n := 4) (by decide +kernel) rfl (Nat.le_of_ble_eq_true rfl) rfl).trans ?_
  refine (X_iconst (m := 338) (pc := 23) (n := 3) (by decide +kernel) ).trans ?_
  exact X_ireturn (m := 338) (pc := 24) (f := 1) (by decide +kernel) (by decide +kernel) rfl
theorem B_L_cancel_8 {k : Nat → Nat × Nat} {u : Nat → Nat → Int} {g : Nat → Nat → Nat} {t : Nat × Nat × Nat} {r0 : Nat} {x1 : Int} {x2 : Int} {r3 : Nat} {v4 : AV} {q0 : Nat} {y1 : Int} {y2 : Int} : a_X 338 8 [a_r (r0), a_i (x1), a_i (x2), a_r (r3), v4] [a_i (y2), a_i (y1), a_r (q0)] (k, u, g, t) = if (k q0).1 = 22 ∧ 0 ≤ (y1 : Int) ∧ (y1 : Int) < ((k q0).2 : Int) then some (.inl (some (a_i (0))), (k, (upm u q0 (y1 : Int).toNat y2), g, t)) else none := by
  refine (X_i2l (m := 338) (pc := 8)  (by decide +kernel) ).trans ?_
  refine (X_lastore (m := 338) (pc := 9)  (by decide +kernel) ).trans ?_
  refine ite_congr rfl (fun _ => ?_) (fun _ => rfl)
  refine (X_goto (m := 338) (pc := 10) (off := 15) (tg := 25) (by decide +kernel) (by decide +kernel)).trans ?_
  refine (X_iconst (m := 338) (pc := 25) (n := 0) (by decide +kernel) ).trans ?_
  exact X_ireturn (m := 338) (pc := 26) (f := 1) (by decide +kernel) (by decide +kernel) rfl
theorem E_L_repeat {σ : AS} {r0 : Nat} {x1 : Int} {x2 : Int} {r3 : Nat} : a_m 339 [a_r (r0), a_i (x1), a_i (x2), a_r (r3)] σ = a_X 339 0 [a_r (r0), a_i (x1), a_i (x2), a_r (r3), a_x false] [] σ := a_m_eq (by rw [a_entry, show m_maxL 339 = 5 from by decide +kernel]; rfl)
theorem B_L_repeat_0 {k : Nat → Nat × Nat} {u : Nat → Nat → Int} {g : Nat → Nat → Nat} {t : Nat × Nat × Nat} {r0 : Nat} {x1 : Int} {x2 : Int} {r3 : Nat} {v4 : AV} : a_X 339 0 [a_r (r0), a_i (x1), a_i (x2), a_r (r3), v4] [] (k, u, g, t) = if (k r0).1 = 10 then (a_m 132 [a_r (r0), a_i (x1), a_i (x2)] (k, u, g, t)).bind (a_back 339 5 3 [a_r (r0), a_i (x1), a_i (x2), a_r (r3), v4] [a_i (0), a_r (r3)]) else none := by
  refine (X_aload_n (m := 339) (pc := 0) (n := 3) (by decide +kernel) rfl).trans ?_
  refine (X_iconst (m := 339) (pc := 1) (n := 0) (by decide +kernel) ).trans ?_
  refine (X_aload_n (m := 339) (pc := 2) (n := 0) (by decide +kernel) rfl).trans ?_
  refine (X_iload_n (m := 339) (pc := 3) (n := 1) (by decide +kernel) rfl).trans ?_
  refine (X_iload_n (m := 339) (pc := 4) (n := 2) (by decide +kernel) rfl).trans ?_
  refine (X_call_vi (m := 339) (pc := 5) (q := 135) (y := 132) (n := 3) (as := [a_r (r0), a_i (x1), a_i (x2)]) (rest := [a_i (0), a_r (r3)]) (by decide +kernel) (by decide +kernel) (by decide +kernel) (by decide +kernel) rfl rfl (Nat.le_of_ble_eq_true rfl) (Nat.le_of_ble_eq_true rfl) rfl (by rw [show m_maxL 132 = 3 from by decide +kernel]; exact Nat.le_of_ble_eq_true rfl)).trans ?_
  exact ite_congr (by simp [a_rcv, show m_recv 132 = 10 from by decide +kernel]) (fun _ => rfl) (fun _ => rfl)
theorem B_L_repeat_13 {k : Nat → Nat × Nat} {u : Nat → Nat → Int} {g : Nat → Nat → Nat} {t : Nat × Nat × Nat} {r0 : Nat} {x1 : Int} {x2 : Int} {r3 : Nat} {v4 : AV} : a_X 339 13 [a_r (r0), a_i (x1), a_i (x2), a_r (r3), v4] [a_x true] (k, u, g, t) = some (.inl (some (a_i (1))), (k, u, g, t)) := by
  refine (X_astoreX (m := 339) (pc := 13) (n := 4) (by decide +kernel) rfl (Nat.le_of_ble_eq_true rfl) rfl).trans ?_
  refine (X_iconst (m := 339) (pc := 15) (n := 1) (by decide +kernel) ).trans ?_
  exact X_ireturn (m := 339) (pc := 16) (f := 1) (by decide +kernel) (by decide +kernel) rfl
theorem B_L_repeat_17 {k : Nat → Nat × Nat} {u : Nat → Nat → Int} {g : Nat → Nat → Nat} {t : Nat × Nat × Nat} {r0 : Nat} {x1 : Int} {x2 : Int} {r3 : Nat} {v4 : AV} : a_X 339 17 [a_r (r0), a_i (x1), a_i (x2), a_r (r3), v4] [a_x true] (k, u, g, t) = some (.inl (some (a_i (2))), (k, u, g, t)) := by
  refine (X_astoreX (m := 339) (pc := 17) (n := 4) (by decide +kernel) rfl (Nat.le_of_ble_eq_true rfl) rfl).trans ?_
  refine (X_iconst (m := 339) (pc := 19) (n := 2) (by decide +kernel) ).trans ?_
  exact X_ireturn (m := 339) (pc := 20) (f := 1) (by decide +kernel) (by decide +kernel) rfl
theorem B_L_repeat_8 {k : Nat → Nat × Nat} {u : Nat → Nat → Int} {g : Nat → Nat → Nat} {t : Nat × Nat × Nat} {r0 : Nat} {x1 : Int} {x2 : Int} {r3 : Nat} {v4 : AV} {q0 : Nat} {y1 : Int} {y2 : Int} : a_X 339 8 [a_r (r0), a_i (x1), a_i (x2), a_r (r3), v4] [a_i (y2), a_i (y1), a_r (q0)] (k, u, g, t) = if (k q0).1 = 22 ∧ 0 ≤ (y1 : Int) ∧ (y1 : Int) < ((k q0).2 : Int) then some (.inl (some (a_i (0))), (k, (upm u q0 (y1 : Int).toNat y2), g, t)) else none := by
  refine (X_i2l (m := 339) (pc := 8)  (by decide +kernel) ).trans ?_
  refine (X_lastore (m := 339) (pc := 9)  (by decide +kernel) ).trans ?_
  refine ite_congr rfl (fun _ => ?_) (fun _ => rfl)
  refine (X_goto (m := 339) (pc := 10) (off := 11) (tg := 21) (by decide +kernel) (by decide +kernel)).trans ?_
  refine (X_iconst (m := 339) (pc := 21) (n := 0) (by decide +kernel) ).trans ?_
  exact X_ireturn (m := 339) (pc := 22) (f := 1) (by decide +kernel) (by decide +kernel) rfl
theorem E_L_whole {σ : AS} {r0 : Nat} {x1 : Int} {r2 : Nat} : a_m 340 [a_r (r0), a_i (x1), a_r (r2)] σ = a_X 340 0 [a_r (r0), a_i (x1), a_r (r2), a_x false] [] σ := a_m_eq (by rw [a_entry, show m_maxL 340 = 4 from by decide +kernel]; rfl)
theorem B_L_whole_0 {k : Nat → Nat × Nat} {u : Nat → Nat → Int} {g : Nat → Nat → Nat} {t : Nat × Nat × Nat} {r0 : Nat} {x1 : Int} {r2 : Nat} {v3 : AV} : a_X 340 0 [a_r (r0), a_i (x1), a_r (r2), v3] [] (k, u, g, t) = if (k r0).1 = 10 then (a_m 133 [a_r (r0), a_i (x1)] (k, u, g, t)).bind (a_back 340 4 3 [a_r (r0), a_i (x1), a_r (r2), v3] [a_i (0), a_r (r2)]) else none := by
  refine (X_aload_n (m := 340) (pc := 0) (n := 2) (by decide +kernel) rfl).trans ?_
  refine (X_iconst (m := 340) (pc := 1) (n := 0) (by decide +kernel) ).trans ?_
  refine (X_aload_n (m := 340) (pc := 2) (n := 0) (by decide +kernel) rfl).trans ?_
  refine (X_iload_n (m := 340) (pc := 3) (n := 1) (by decide +kernel) rfl).trans ?_
  refine (X_call_vi (m := 340) (pc := 4) (q := 138) (y := 133) (n := 2) (as := [a_r (r0), a_i (x1)]) (rest := [a_i (0), a_r (r2)]) (by decide +kernel) (by decide +kernel) (by decide +kernel) (by decide +kernel) rfl rfl (Nat.le_of_ble_eq_true rfl) (Nat.le_of_ble_eq_true rfl) rfl (by rw [show m_maxL 133 = 2 from by decide +kernel]; exact Nat.le_of_ble_eq_true rfl)).trans ?_
  exact ite_congr (by simp [a_rcv, show m_recv 133 = 10 from by decide +kernel]) (fun _ => rfl) (fun _ => rfl)
theorem B_L_whole_12 {k : Nat → Nat × Nat} {u : Nat → Nat → Int} {g : Nat → Nat → Nat} {t : Nat × Nat × Nat} {r0 : Nat} {x1 : Int} {r2 : Nat} {v3 : AV} : a_X 340 12 [a_r (r0), a_i (x1), a_r (r2), v3] [a_x true] (k, u, g, t) = some (.inl (some (a_i (1))), (k, u, g, t)) := by
  refine (X_astoreX_n (m := 340) (pc := 12) (n := 3) (by decide +kernel) rfl (Nat.le_of_ble_eq_true rfl) rfl).trans ?_
  refine (X_iconst (m := 340) (pc := 13) (n := 1) (by decide +kernel) ).trans ?_
  exact X_ireturn (m := 340) (pc := 14) (f := 1) (by decide +kernel) (by decide +kernel) rfl
theorem B_L_whole_15 {k : Nat → Nat × Nat} {u : Nat → Nat → Int} {g : Nat → Nat → Nat} {t : Nat × Nat × Nat} {r0 : Nat} {x1 : Int} {r2 : Nat} {v3 : AV} : a_X 340 15 [a_r (r0), a_i (x1), a_r (r2), v3] [a_x true] (k, u, g, t) = some (.inl (some (a_i (2))), (k, u, g, t)) := by
  refine (X_astoreX_n (m := 340) (pc := 15) (n := 3) (by decide +kernel) rfl (Nat.le_of_ble_eq_true rfl) rfl).trans ?_
  refine (X_iconst (m := 340) (pc := 16) (n := 2) (by decide +kernel) ).trans ?_
  exact X_ireturn (m := 340) (pc := 17) (f := 1) (by decide +kernel) (by decide +kernel) rfl
theorem B_L_whole_7 {k : Nat → Nat × Nat} {u : Nat → Nat → Int} {g : Nat → Nat → Nat} {t : Nat × Nat × Nat} {r0 : Nat} {x1 : Int} {r2 : Nat} {v3 : AV} {q0 : Nat} {y1 : Int} {y2 : Int} : a_X 340 7 [a_r (r0), a_i (x1), a_r (r2), v3] [a_i (y2), a_i (y1), a_r (q0)] (k, u, g, t) = if (k q0).1 = 22 ∧ 0 ≤ (y1 : Int) ∧ (y1 : Int) < ((k q0).2 : Int) then some (.inl (some (a_i (0))), (k, (upm u q0 (y1 : Int).toNat y2), g, t)) else none := by
  refine (X_i2l (m := 340) (pc := 7)  (by decide +kernel) ).trans ?_
  refine (X_lastore (m := 340) (pc := 8)  (by decide +kernel) ).trans ?_
  refine ite_congr rfl (fun _ => ?_) (fun _ => rfl)
  refine (X_goto (m := 340) (pc := 9) (off := 9) (tg := 18) (by decide +kernel) (by decide +kernel)).trans ?_
  refine (X_iconst (m := 340) (pc := 18) (n := 0) (by decide +kernel) ).trans ?_
  exact X_ireturn (m := 340) (pc := 19) (f := 1) (by decide +kernel) (by decide +kernel) rfl
theorem E_L_tick {σ : AS} {r0 : Nat} {x1 : Int} {r2 : Nat} : a_m 341 [a_r (r0), a_i (x1), a_r (r2)] σ = a_X 341 0 [a_r (r0), a_i (x1), a_r (r2), a_x false] [] σ := a_m_eq (by rw [a_entry, show m_maxL 341 = 4 from by decide +kernel]; rfl)
theorem B_L_tick_0 {k : Nat → Nat × Nat} {u : Nat → Nat → Int} {g : Nat → Nat → Nat} {t : Nat × Nat × Nat} {r0 : Nat} {x1 : Int} {r2 : Nat} {v3 : AV} : a_X 341 0 [a_r (r0), a_i (x1), a_r (r2), v3] [] (k, u, g, t) = if (k r0).1 = 10 then (a_m 134 [a_r (r0), a_i (x1)] (k, u, g, t)).bind (a_back 341 4 3 [a_r (r0), a_i (x1), a_r (r2), v3] [a_i (0), a_r (r2)]) else none := by
  refine (X_aload_n (m := 341) (pc := 0) (n := 2) (by decide +kernel) rfl).trans ?_
  refine (X_iconst (m := 341) (pc := 1) (n := 0) (by decide +kernel) ).trans ?_
  refine (X_aload_n (m := 341) (pc := 2) (n := 0) (by decide +kernel) rfl).trans ?_
  refine (X_iload_n (m := 341) (pc := 3) (n := 1) (by decide +kernel) rfl).trans ?_
  refine (X_call_vi (m := 341) (pc := 4) (q := 141) (y := 134) (n := 2) (as := [a_r (r0), a_i (x1)]) (rest := [a_i (0), a_r (r2)]) (by decide +kernel) (by decide +kernel) (by decide +kernel) (by decide +kernel) rfl rfl (Nat.le_of_ble_eq_true rfl) (Nat.le_of_ble_eq_true rfl) rfl (by rw [show m_maxL 134 = 2 from by decide +kernel]; exact Nat.le_of_ble_eq_true rfl)).trans ?_
  exact ite_congr (by simp [a_rcv, show m_recv 134 = 10 from by decide +kernel]) (fun _ => rfl) (fun _ => rfl)
theorem B_L_tick_12 {k : Nat → Nat × Nat} {u : Nat → Nat → Int} {g : Nat → Nat → Nat} {t : Nat × Nat × Nat} {r0 : Nat} {x1 : Int} {r2 : Nat} {v3 : AV} : a_X 341 12 [a_r (r0), a_i (x1), a_r (r2), v3] [a_x true] (k, u, g, t) = some (.inl (some (a_i (1))), (k, u, g, t)) := by
  refine (X_astoreX_n (m := 341) (pc := 12) (n := 3) (by decide +kernel) rfl (Nat.le_of_ble_eq_true rfl) rfl).trans ?_
  refine (X_iconst (m := 341) (pc := 13) (n := 1) (by decide +kernel) ).trans ?_
  exact X_ireturn (m := 341) (pc := 14) (f := 1) (by decide +kernel) (by decide +kernel) rfl
theorem B_L_tick_15 {k : Nat → Nat × Nat} {u : Nat → Nat → Int} {g : Nat → Nat → Nat} {t : Nat × Nat × Nat} {r0 : Nat} {x1 : Int} {r2 : Nat} {v3 : AV} : a_X 341 15 [a_r (r0), a_i (x1), a_r (r2), v3] [a_x true] (k, u, g, t) = some (.inl (some (a_i (2))), (k, u, g, t)) := by
  refine (X_astoreX_n (m := 341) (pc := 15) (n := 3) (by decide +kernel) rfl (Nat.le_of_ble_eq_true rfl) rfl).trans ?_
  refine (X_iconst (m := 341) (pc := 16) (n := 2) (by decide +kernel) ).trans ?_
  exact X_ireturn (m := 341) (pc := 17) (f := 1) (by decide +kernel) (by decide +kernel) rfl
theorem B_L_tick_7 {k : Nat → Nat × Nat} {u : Nat → Nat → Int} {g : Nat → Nat → Nat} {t : Nat × Nat × Nat} {r0 : Nat} {x1 : Int} {r2 : Nat} {v3 : AV} {q0 : Nat} {y1 : Int} {y2 : Int} : a_X 341 7 [a_r (r0), a_i (x1), a_r (r2), v3] [a_i (y2), a_i (y1), a_r (q0)] (k, u, g, t) = if (k q0).1 = 22 ∧ 0 ≤ (y1 : Int) ∧ (y1 : Int) < ((k q0).2 : Int) then some (.inl (some (a_i (0))), (k, (upm u q0 (y1 : Int).toNat y2), g, t)) else none := by
  refine (X_i2l (m := 341) (pc := 7)  (by decide +kernel) ).trans ?_
  refine (X_lastore (m := 341) (pc := 8)  (by decide +kernel) ).trans ?_
  refine ite_congr rfl (fun _ => ?_) (fun _ => rfl)
  refine (X_goto (m := 341) (pc := 9) (off := 9) (tg := 18) (by decide +kernel) (by decide +kernel)).trans ?_
  refine (X_iconst (m := 341) (pc := 18) (n := 0) (by decide +kernel) ).trans ?_
  exact X_ireturn (m := 341) (pc := 19) (f := 1) (by decide +kernel) (by decide +kernel) rfl
theorem E_L_addGap {σ : AS} {r0 : Nat} {x1 : Int} {x2 : Int} {x3 : Int} {r4 : Nat} : a_m 342 [a_r (r0), a_i (x1), a_i (x2), a_i (x3), a_r (r4)] σ = a_X 342 0 [a_r (r0), a_i (x1), a_i (x2), a_i (x3), a_r (r4), a_x false] [] σ := a_m_eq (by rw [a_entry, show m_maxL 342 = 6 from by decide +kernel]; rfl)
theorem B_L_addGap_0 {k : Nat → Nat × Nat} {u : Nat → Nat → Int} {g : Nat → Nat → Nat} {t : Nat × Nat × Nat} {r0 : Nat} {x1 : Int} {x2 : Int} {x3 : Int} {r4 : Nat} {v5 : AV} : a_X 342 0 [a_r (r0), a_i (x1), a_i (x2), a_i (x3), a_r (r4), v5] [] (k, u, g, t) = if (k r0).1 = 10 then (a_m 135 [a_r (r0), a_i (x1), a_i (x2), a_i (x3)] (k, u, g, t)).bind (a_back 342 7 3 [a_r (r0), a_i (x1), a_i (x2), a_i (x3), a_r (r4), v5] [a_i (0), a_r (r4)]) else none := by
  refine (X_aload (m := 342) (pc := 0) (n := 4) (by decide +kernel) rfl).trans ?_
  refine (X_iconst (m := 342) (pc := 2) (n := 0) (by decide +kernel) ).trans ?_
  refine (X_aload_n (m := 342) (pc := 3) (n := 0) (by decide +kernel) rfl).trans ?_
  refine (X_iload_n (m := 342) (pc := 4) (n := 1) (by decide +kernel) rfl).trans ?_
  refine (X_iload_n (m := 342) (pc := 5) (n := 2) (by decide +kernel) rfl).trans ?_
  refine (X_iload_n (m := 342) (pc := 6) (n := 3) (by decide +kernel) rfl).trans ?_
  refine (X_call_vi (m := 342) (pc := 7) (q := 144) (y := 135) (n := 4) (as := [a_r (r0), a_i (x1), a_i (x2), a_i (x3)]) (rest := [a_i (0), a_r (r4)]) (by decide +kernel) (by decide +kernel) (by decide +kernel) (by decide +kernel) rfl rfl (Nat.le_of_ble_eq_true rfl) (Nat.le_of_ble_eq_true rfl) rfl (by rw [show m_maxL 135 = 4 from by decide +kernel]; exact Nat.le_of_ble_eq_true rfl)).trans ?_
  exact ite_congr (by simp [a_rcv, show m_recv 135 = 10 from by decide +kernel]) (fun _ => rfl) (fun _ => rfl)
theorem B_L_addGap_15 {k : Nat → Nat × Nat} {u : Nat → Nat → Int} {g : Nat → Nat → Nat} {t : Nat × Nat × Nat} {r0 : Nat} {x1 : Int} {x2 : Int} {x3 : Int} {r4 : Nat} {v5 : AV} : a_X 342 15 [a_r (r0), a_i (x1), a_i (x2), a_i (x3), a_r (r4), v5] [a_x true] (k, u, g, t) = some (.inl (some (a_i (1))), (k, u, g, t)) := by
  refine (X_astoreX (m := 342) (pc := 15) (n := 5) (by decide +kernel) rfl (Nat.le_of_ble_eq_true rfl) rfl).trans ?_
  refine (X_iconst (m := 342) (pc := 17) (n := 1) (by decide +kernel) ).trans ?_
  exact X_ireturn (m := 342) (pc := 18) (f := 1) (by decide +kernel) (by decide +kernel) rfl
theorem B_L_addGap_19 {k : Nat → Nat × Nat} {u : Nat → Nat → Int} {g : Nat → Nat → Nat} {t : Nat × Nat × Nat} {r0 : Nat} {x1 : Int} {x2 : Int} {x3 : Int} {r4 : Nat} {v5 : AV} : a_X 342 19 [a_r (r0), a_i (x1), a_i (x2), a_i (x3), a_r (r4), v5] [a_x true] (k, u, g, t) = some (.inl (some (a_i (2))), (k, u, g, t)) := by
  refine (X_astoreX (m := 342) (pc := 19) (n := 5) (by decide +kernel) rfl (Nat.le_of_ble_eq_true rfl) rfl).trans ?_
  refine (X_iconst (m := 342) (pc := 21) (n := 2) (by decide +kernel) ).trans ?_
  exact X_ireturn (m := 342) (pc := 22) (f := 1) (by decide +kernel) (by decide +kernel) rfl
theorem B_L_addGap_23 {k : Nat → Nat × Nat} {u : Nat → Nat → Int} {g : Nat → Nat → Nat} {t : Nat × Nat × Nat} {r0 : Nat} {x1 : Int} {x2 : Int} {x3 : Int} {r4 : Nat} {v5 : AV} : a_X 342 23 [a_r (r0), a_i (x1), a_i (x2), a_i (x3), a_r (r4), v5] [a_x true] (k, u, g, t) = some (.inl (some (a_i (3))), (k, u, g, t)) := by
  refine (X_astoreX (m := 342) (pc := 23) (n := 5) (by decide +kernel) rfl (Nat.le_of_ble_eq_true rfl) rfl).trans ?_
  refine (X_iconst (m := 342) (pc := 25) (n := 3) (by decide +kernel) ).trans ?_
  exact X_ireturn (m := 342) (pc := 26) (f := 1) (by decide +kernel) (by decide +kernel) rfl
theorem B_L_addGap_10 {k : Nat → Nat × Nat} {u : Nat → Nat → Int} {g : Nat → Nat → Nat} {t : Nat × Nat × Nat} {r0 : Nat} {x1 : Int} {x2 : Int} {x3 : Int} {r4 : Nat} {v5 : AV} {q0 : Nat} {y1 : Int} {y2 : Int} : a_X 342 10 [a_r (r0), a_i (x1), a_i (x2), a_i (x3), a_r (r4), v5] [a_i (y2), a_i (y1), a_r (q0)] (k, u, g, t) = if (k q0).1 = 22 ∧ 0 ≤ (y1 : Int) ∧ (y1 : Int) < ((k q0).2 : Int) then some (.inl (some (a_i (0))), (k, (upm u q0 (y1 : Int).toNat y2), g, t)) else none := by
  refine (X_i2l (m := 342) (pc := 10)  (by decide +kernel) ).trans ?_
  refine (X_lastore (m := 342) (pc := 11)  (by decide +kernel) ).trans ?_
  refine ite_congr rfl (fun _ => ?_) (fun _ => rfl)
  refine (X_goto (m := 342) (pc := 12) (off := 15) (tg := 27) (by decide +kernel) (by decide +kernel)).trans ?_
  refine (X_iconst (m := 342) (pc := 27) (n := 0) (by decide +kernel) ).trans ?_
  exact X_ireturn (m := 342) (pc := 28) (f := 1) (by decide +kernel) (by decide +kernel) rfl
theorem E_L_dropGap {σ : AS} {r0 : Nat} {x1 : Int} {x2 : Int} {r3 : Nat} : a_m 343 [a_r (r0), a_i (x1), a_i (x2), a_r (r3)] σ = a_X 343 0 [a_r (r0), a_i (x1), a_i (x2), a_r (r3), a_x false] [] σ := a_m_eq (by rw [a_entry, show m_maxL 343 = 5 from by decide +kernel]; rfl)
theorem B_L_dropGap_0 {k : Nat → Nat × Nat} {u : Nat → Nat → Int} {g : Nat → Nat → Nat} {t : Nat × Nat × Nat} {r0 : Nat} {x1 : Int} {x2 : Int} {r3 : Nat} {v4 : AV} : a_X 343 0 [a_r (r0), a_i (x1), a_i (x2), a_r (r3), v4] [] (k, u, g, t) = if (k r0).1 = 10 then (a_m 136 [a_r (r0), a_i (x1), a_i (x2)] (k, u, g, t)).bind (a_back 343 5 3 [a_r (r0), a_i (x1), a_i (x2), a_r (r3), v4] [a_i (0), a_r (r3)]) else none := by
  refine (X_aload_n (m := 343) (pc := 0) (n := 3) (by decide +kernel) rfl).trans ?_
  refine (X_iconst (m := 343) (pc := 1) (n := 0) (by decide +kernel) ).trans ?_
  refine (X_aload_n (m := 343) (pc := 2) (n := 0) (by decide +kernel) rfl).trans ?_
  refine (X_iload_n (m := 343) (pc := 3) (n := 1) (by decide +kernel) rfl).trans ?_
  refine (X_iload_n (m := 343) (pc := 4) (n := 2) (by decide +kernel) rfl).trans ?_
  refine (X_call_vi (m := 343) (pc := 5) (q := 147) (y := 136) (n := 3) (as := [a_r (r0), a_i (x1), a_i (x2)]) (rest := [a_i (0), a_r (r3)]) (by decide +kernel) (by decide +kernel) (by decide +kernel) (by decide +kernel) rfl rfl (Nat.le_of_ble_eq_true rfl) (Nat.le_of_ble_eq_true rfl) rfl (by rw [show m_maxL 136 = 3 from by decide +kernel]; exact Nat.le_of_ble_eq_true rfl)).trans ?_
  exact ite_congr (by simp [a_rcv, show m_recv 136 = 10 from by decide +kernel]) (fun _ => rfl) (fun _ => rfl)
theorem B_L_dropGap_13 {k : Nat → Nat × Nat} {u : Nat → Nat → Int} {g : Nat → Nat → Nat} {t : Nat × Nat × Nat} {r0 : Nat} {x1 : Int} {x2 : Int} {r3 : Nat} {v4 : AV} : a_X 343 13 [a_r (r0), a_i (x1), a_i (x2), a_r (r3), v4] [a_x true] (k, u, g, t) = some (.inl (some (a_i (1))), (k, u, g, t)) := by
  refine (X_astoreX (m := 343) (pc := 13) (n := 4) (by decide +kernel) rfl (Nat.le_of_ble_eq_true rfl) rfl).trans ?_
  refine (X_iconst (m := 343) (pc := 15) (n := 1) (by decide +kernel) ).trans ?_
  exact X_ireturn (m := 343) (pc := 16) (f := 1) (by decide +kernel) (by decide +kernel) rfl
theorem B_L_dropGap_17 {k : Nat → Nat × Nat} {u : Nat → Nat → Int} {g : Nat → Nat → Nat} {t : Nat × Nat × Nat} {r0 : Nat} {x1 : Int} {x2 : Int} {r3 : Nat} {v4 : AV} : a_X 343 17 [a_r (r0), a_i (x1), a_i (x2), a_r (r3), v4] [a_x true] (k, u, g, t) = some (.inl (some (a_i (2))), (k, u, g, t)) := by
  refine (X_astoreX (m := 343) (pc := 17) (n := 4) (by decide +kernel) rfl (Nat.le_of_ble_eq_true rfl) rfl).trans ?_
  refine (X_iconst (m := 343) (pc := 19) (n := 2) (by decide +kernel) ).trans ?_
  exact X_ireturn (m := 343) (pc := 20) (f := 1) (by decide +kernel) (by decide +kernel) rfl
theorem B_L_dropGap_8 {k : Nat → Nat × Nat} {u : Nat → Nat → Int} {g : Nat → Nat → Nat} {t : Nat × Nat × Nat} {r0 : Nat} {x1 : Int} {x2 : Int} {r3 : Nat} {v4 : AV} {q0 : Nat} {y1 : Int} {y2 : Int} : a_X 343 8 [a_r (r0), a_i (x1), a_i (x2), a_r (r3), v4] [a_i (y2), a_i (y1), a_r (q0)] (k, u, g, t) = if (k q0).1 = 22 ∧ 0 ≤ (y1 : Int) ∧ (y1 : Int) < ((k q0).2 : Int) then some (.inl (some (a_i (0))), (k, (upm u q0 (y1 : Int).toNat y2), g, t)) else none := by
  refine (X_i2l (m := 343) (pc := 8)  (by decide +kernel) ).trans ?_
  refine (X_lastore (m := 343) (pc := 9)  (by decide +kernel) ).trans ?_
  refine ite_congr rfl (fun _ => ?_) (fun _ => rfl)
  refine (X_goto (m := 343) (pc := 10) (off := 11) (tg := 21) (by decide +kernel) (by decide +kernel)).trans ?_
  refine (X_iconst (m := 343) (pc := 21) (n := 0) (by decide +kernel) ).trans ?_
  exact X_ireturn (m := 343) (pc := 22) (f := 1) (by decide +kernel) (by decide +kernel) rfl
theorem E_L_setDelay {σ : AS} {r0 : Nat} {x1 : Int} {x2 : Int} {r3 : Nat} : a_m 344 [a_r (r0), a_i (x1), a_i (x2), a_r (r3)] σ = a_X 344 0 [a_r (r0), a_i (x1), a_i (x2), a_r (r3), a_x false] [] σ := a_m_eq (by rw [a_entry, show m_maxL 344 = 5 from by decide +kernel]; rfl)
theorem B_L_setDelay_0 {k : Nat → Nat × Nat} {u : Nat → Nat → Int} {g : Nat → Nat → Nat} {t : Nat × Nat × Nat} {r0 : Nat} {x1 : Int} {x2 : Int} {r3 : Nat} {v4 : AV} : a_X 344 0 [a_r (r0), a_i (x1), a_i (x2), a_r (r3), v4] [] (k, u, g, t) = if (k r0).1 = 10 then (a_m 137 [a_r (r0), a_i (x1), a_i (x2)] (k, u, g, t)).bind (a_back 344 5 3 [a_r (r0), a_i (x1), a_i (x2), a_r (r3), v4] [a_i (0), a_r (r3)]) else none := by
  refine (X_aload_n (m := 344) (pc := 0) (n := 3) (by decide +kernel) rfl).trans ?_
  refine (X_iconst (m := 344) (pc := 1) (n := 0) (by decide +kernel) ).trans ?_
  refine (X_aload_n (m := 344) (pc := 2) (n := 0) (by decide +kernel) rfl).trans ?_
  refine (X_iload_n (m := 344) (pc := 3) (n := 1) (by decide +kernel) rfl).trans ?_
  refine (X_iload_n (m := 344) (pc := 4) (n := 2) (by decide +kernel) rfl).trans ?_
  refine (X_call_vi (m := 344) (pc := 5) (q := 150) (y := 137) (n := 3) (as := [a_r (r0), a_i (x1), a_i (x2)]) (rest := [a_i (0), a_r (r3)]) (by decide +kernel) (by decide +kernel) (by decide +kernel) (by decide +kernel) rfl rfl (Nat.le_of_ble_eq_true rfl) (Nat.le_of_ble_eq_true rfl) rfl (by rw [show m_maxL 137 = 4 from by decide +kernel]; exact Nat.le_of_ble_eq_true rfl)).trans ?_
  exact ite_congr (by simp [a_rcv, show m_recv 137 = 10 from by decide +kernel]) (fun _ => rfl) (fun _ => rfl)
theorem B_L_setDelay_13 {k : Nat → Nat × Nat} {u : Nat → Nat → Int} {g : Nat → Nat → Nat} {t : Nat × Nat × Nat} {r0 : Nat} {x1 : Int} {x2 : Int} {r3 : Nat} {v4 : AV} : a_X 344 13 [a_r (r0), a_i (x1), a_i (x2), a_r (r3), v4] [a_x true] (k, u, g, t) = some (.inl (some (a_i (1))), (k, u, g, t)) := by
  refine (X_astoreX (m := 344) (pc := 13) (n := 4) (by decide +kernel) rfl (Nat.le_of_ble_eq_true rfl) rfl).trans ?_
  refine (X_iconst (m := 344) (pc := 15) (n := 1) (by decide +kernel) ).trans ?_
  exact X_ireturn (m := 344) (pc := 16) (f := 1) (by decide +kernel) (by decide +kernel) rfl
theorem B_L_setDelay_17 {k : Nat → Nat × Nat} {u : Nat → Nat → Int} {g : Nat → Nat → Nat} {t : Nat × Nat × Nat} {r0 : Nat} {x1 : Int} {x2 : Int} {r3 : Nat} {v4 : AV} : a_X 344 17 [a_r (r0), a_i (x1), a_i (x2), a_r (r3), v4] [a_x true] (k, u, g, t) = some (.inl (some (a_i (2))), (k, u, g, t)) := by
  refine (X_astoreX (m := 344) (pc := 17) (n := 4) (by decide +kernel) rfl (Nat.le_of_ble_eq_true rfl) rfl).trans ?_
  refine (X_iconst (m := 344) (pc := 19) (n := 2) (by decide +kernel) ).trans ?_
  exact X_ireturn (m := 344) (pc := 20) (f := 1) (by decide +kernel) (by decide +kernel) rfl
theorem B_L_setDelay_21 {k : Nat → Nat × Nat} {u : Nat → Nat → Int} {g : Nat → Nat → Nat} {t : Nat × Nat × Nat} {r0 : Nat} {x1 : Int} {x2 : Int} {r3 : Nat} {v4 : AV} : a_X 344 21 [a_r (r0), a_i (x1), a_i (x2), a_r (r3), v4] [a_x true] (k, u, g, t) = some (.inl (some (a_i (3))), (k, u, g, t)) := by
  refine (X_astoreX (m := 344) (pc := 21) (n := 4) (by decide +kernel) rfl (Nat.le_of_ble_eq_true rfl) rfl).trans ?_
  refine (X_iconst (m := 344) (pc := 23) (n := 3) (by decide +kernel) ).trans ?_
  exact X_ireturn (m := 344) (pc := 24) (f := 1) (by decide +kernel) (by decide +kernel) rfl
theorem B_L_setDelay_8 {k : Nat → Nat × Nat} {u : Nat → Nat → Int} {g : Nat → Nat → Nat} {t : Nat × Nat × Nat} {r0 : Nat} {x1 : Int} {x2 : Int} {r3 : Nat} {v4 : AV} {q0 : Nat} {y1 : Int} {y2 : Int} : a_X 344 8 [a_r (r0), a_i (x1), a_i (x2), a_r (r3), v4] [a_i (y2), a_i (y1), a_r (q0)] (k, u, g, t) = if (k q0).1 = 22 ∧ 0 ≤ (y1 : Int) ∧ (y1 : Int) < ((k q0).2 : Int) then some (.inl (some (a_i (0))), (k, (upm u q0 (y1 : Int).toNat y2), g, t)) else none := by
  refine (X_i2l (m := 344) (pc := 8)  (by decide +kernel) ).trans ?_
  refine (X_lastore (m := 344) (pc := 9)  (by decide +kernel) ).trans ?_
  refine ite_congr rfl (fun _ => ?_) (fun _ => rfl)
  refine (X_goto (m := 344) (pc := 10) (off := 15) (tg := 25) (by decide +kernel) (by decide +kernel)).trans ?_
  refine (X_iconst (m := 344) (pc := 25) (n := 0) (by decide +kernel) ).trans ?_
  exact X_ireturn (m := 344) (pc := 26) (f := 1) (by decide +kernel) (by decide +kernel) rfl
theorem E_L_setPeriod {σ : AS} {r0 : Nat} {x1 : Int} {r2 : Nat} : a_m 345 [a_r (r0), a_i (x1), a_r (r2)] σ = a_X 345 0 [a_r (r0), a_i (x1), a_r (r2), a_x false] [] σ := a_m_eq (by rw [a_entry, show m_maxL 345 = 4 from by decide +kernel]; rfl)
theorem B_L_setPeriod_0 {k : Nat → Nat × Nat} {u : Nat → Nat → Int} {g : Nat → Nat → Nat} {t : Nat × Nat × Nat} {r0 : Nat} {x1 : Int} {r2 : Nat} {v3 : AV} : a_X 345 0 [a_r (r0), a_i (x1), a_r (r2), v3] [] (k, u, g, t) = if (k r0).1 = 10 then (a_m 138 [a_r (r0), a_i (x1)] (k, u, g, t)).bind (a_back 345 4 3 [a_r (r0), a_i (x1), a_r (r2), v3] [a_i (0), a_r (r2)]) else none := by
  refine (X_aload_n (m := 345) (pc := 0) (n := 2) (by decide +kernel) rfl).trans ?_
  refine (X_iconst (m := 345) (pc := 1) (n := 0) (by decide +kernel) ).trans ?_
  refine (X_aload_n (m := 345) (pc := 2) (n := 0) (by decide +kernel) rfl).trans ?_
  refine (X_iload_n (m := 345) (pc := 3) (n := 1) (by decide +kernel) rfl).trans ?_
  refine (X_call_vi (m := 345) (pc := 4) (q := 153) (y := 138) (n := 2) (as := [a_r (r0), a_i (x1)]) (rest := [a_i (0), a_r (r2)]) (by decide +kernel) (by decide +kernel) (by decide +kernel) (by decide +kernel) rfl rfl (Nat.le_of_ble_eq_true rfl) (Nat.le_of_ble_eq_true rfl) rfl (by rw [show m_maxL 138 = 3 from by decide +kernel]; exact Nat.le_of_ble_eq_true rfl)).trans ?_
  exact ite_congr (by simp [a_rcv, show m_recv 138 = 10 from by decide +kernel]) (fun _ => rfl) (fun _ => rfl)
theorem B_L_setPeriod_12 {k : Nat → Nat × Nat} {u : Nat → Nat → Int} {g : Nat → Nat → Nat} {t : Nat × Nat × Nat} {r0 : Nat} {x1 : Int} {r2 : Nat} {v3 : AV} : a_X 345 12 [a_r (r0), a_i (x1), a_r (r2), v3] [a_x true] (k, u, g, t) = some (.inl (some (a_i (1))), (k, u, g, t)) := by
  refine (X_astoreX_n (m := 345) (pc := 12) (n := 3) (by decide +kernel) rfl (Nat.le_of_ble_eq_true rfl) rfl).trans ?_
  refine (X_iconst (m := 345) (pc := 13) (n := 1) (by decide +kernel) ).trans ?_
  exact X_ireturn (m := 345) (pc := 14) (f := 1) (by decide +kernel) (by decide +kernel) rfl
theorem B_L_setPeriod_15 {k : Nat → Nat × Nat} {u : Nat → Nat → Int} {g : Nat → Nat → Nat} {t : Nat × Nat × Nat} {r0 : Nat} {x1 : Int} {r2 : Nat} {v3 : AV} : a_X 345 15 [a_r (r0), a_i (x1), a_r (r2), v3] [a_x true] (k, u, g, t) = some (.inl (some (a_i (2))), (k, u, g, t)) := by
  refine (X_astoreX_n (m := 345) (pc := 15) (n := 3) (by decide +kernel) rfl (Nat.le_of_ble_eq_true rfl) rfl).trans ?_
  refine (X_iconst (m := 345) (pc := 16) (n := 2) (by decide +kernel) ).trans ?_
  exact X_ireturn (m := 345) (pc := 17) (f := 1) (by decide +kernel) (by decide +kernel) rfl
theorem B_L_setPeriod_7 {k : Nat → Nat × Nat} {u : Nat → Nat → Int} {g : Nat → Nat → Nat} {t : Nat × Nat × Nat} {r0 : Nat} {x1 : Int} {r2 : Nat} {v3 : AV} {q0 : Nat} {y1 : Int} {y2 : Int} : a_X 345 7 [a_r (r0), a_i (x1), a_r (r2), v3] [a_i (y2), a_i (y1), a_r (q0)] (k, u, g, t) = if (k q0).1 = 22 ∧ 0 ≤ (y1 : Int) ∧ (y1 : Int) < ((k q0).2 : Int) then some (.inl (some (a_i (0))), (k, (upm u q0 (y1 : Int).toNat y2), g, t)) else none := by
  refine (X_i2l (m := 345) (pc := 7)  (by decide +kernel) ).trans ?_
  refine (X_lastore (m := 345) (pc := 8)  (by decide +kernel) ).trans ?_
  refine ite_congr rfl (fun _ => ?_) (fun _ => rfl)
  refine (X_goto (m := 345) (pc := 9) (off := 9) (tg := 18) (by decide +kernel) (by decide +kernel)).trans ?_
  refine (X_iconst (m := 345) (pc := 18) (n := 0) (by decide +kernel) ).trans ?_
  exact X_ireturn (m := 345) (pc := 19) (f := 1) (by decide +kernel) (by decide +kernel) rfl
theorem E_L_fetch {σ : AS} {r0 : Nat} {x1 : Int} {r2 : Nat} : a_m 346 [a_r (r0), a_i (x1), a_r (r2)] σ = a_X 346 0 [a_r (r0), a_i (x1), a_r (r2), a_x false] [] σ := a_m_eq (by rw [a_entry, show m_maxL 346 = 4 from by decide +kernel]; rfl)
theorem B_L_fetch_0 {k : Nat → Nat × Nat} {u : Nat → Nat → Int} {g : Nat → Nat → Nat} {t : Nat × Nat × Nat} {r0 : Nat} {x1 : Int} {r2 : Nat} {v3 : AV} : a_X 346 0 [a_r (r0), a_i (x1), a_r (r2), v3] [] (k, u, g, t) = if (k r0).1 = 10 then (a_m 139 [a_r (r0), a_i (x1)] (k, u, g, t)).bind (a_back 346 4 3 [a_r (r0), a_i (x1), a_r (r2), v3] [a_i (0), a_r (r2)]) else none := by
  refine (X_aload_n (m := 346) (pc := 0) (n := 2) (by decide +kernel) rfl).trans ?_
  refine (X_iconst (m := 346) (pc := 1) (n := 0) (by decide +kernel) ).trans ?_
  refine (X_aload_n (m := 346) (pc := 2) (n := 0) (by decide +kernel) rfl).trans ?_
  refine (X_iload_n (m := 346) (pc := 3) (n := 1) (by decide +kernel) rfl).trans ?_
  refine (X_call_vi (m := 346) (pc := 4) (q := 156) (y := 139) (n := 2) (as := [a_r (r0), a_i (x1)]) (rest := [a_i (0), a_r (r2)]) (by decide +kernel) (by decide +kernel) (by decide +kernel) (by decide +kernel) rfl rfl (Nat.le_of_ble_eq_true rfl) (Nat.le_of_ble_eq_true rfl) rfl (by rw [show m_maxL 139 = 3 from by decide +kernel]; exact Nat.le_of_ble_eq_true rfl)).trans ?_
  exact ite_congr (by simp [a_rcv, show m_recv 139 = 10 from by decide +kernel]) (fun _ => rfl) (fun _ => rfl)
theorem B_L_fetch_12 {k : Nat → Nat × Nat} {u : Nat → Nat → Int} {g : Nat → Nat → Nat} {t : Nat × Nat × Nat} {r0 : Nat} {x1 : Int} {r2 : Nat} {v3 : AV} : a_X 346 12 [a_r (r0), a_i (x1), a_r (r2), v3] [a_x true] (k, u, g, t) = some (.inl (some (a_i (1))), (k, u, g, t)) := by
  refine (X_astoreX_n (m := 346) (pc := 12) (n := 3) (by decide +kernel) rfl (Nat.le_of_ble_eq_true rfl) rfl).trans ?_
  refine (X_iconst (m := 346) (pc := 13) (n := 1) (by decide +kernel) ).trans ?_
  exact X_ireturn (m := 346) (pc := 14) (f := 1) (by decide +kernel) (by decide +kernel) rfl
theorem B_L_fetch_15 {k : Nat → Nat × Nat} {u : Nat → Nat → Int} {g : Nat → Nat → Nat} {t : Nat × Nat × Nat} {r0 : Nat} {x1 : Int} {r2 : Nat} {v3 : AV} : a_X 346 15 [a_r (r0), a_i (x1), a_r (r2), v3] [a_x true] (k, u, g, t) = some (.inl (some (a_i (2))), (k, u, g, t)) := by
  refine (X_astoreX_n (m := 346) (pc := 15) (n := 3) (by decide +kernel) rfl (Nat.le_of_ble_eq_true rfl) rfl).trans ?_
  refine (X_iconst (m := 346) (pc := 16) (n := 2) (by decide +kernel) ).trans ?_
  exact X_ireturn (m := 346) (pc := 17) (f := 1) (by decide +kernel) (by decide +kernel) rfl
theorem B_L_fetch_7 {k : Nat → Nat × Nat} {u : Nat → Nat → Int} {g : Nat → Nat → Nat} {t : Nat × Nat × Nat} {r0 : Nat} {x1 : Int} {r2 : Nat} {v3 : AV} {q0 : Nat} {y1 : Int} {y2 : Int} : a_X 346 7 [a_r (r0), a_i (x1), a_r (r2), v3] [a_i (y2), a_i (y1), a_r (q0)] (k, u, g, t) = if (k q0).1 = 22 ∧ 0 ≤ (y1 : Int) ∧ (y1 : Int) < ((k q0).2 : Int) then some (.inl (some (a_i (0))), (k, (upm u q0 (y1 : Int).toNat y2), g, t)) else none := by
  refine (X_i2l (m := 346) (pc := 7)  (by decide +kernel) ).trans ?_
  refine (X_lastore (m := 346) (pc := 8)  (by decide +kernel) ).trans ?_
  refine ite_congr rfl (fun _ => ?_) (fun _ => rfl)
  refine (X_goto (m := 346) (pc := 9) (off := 9) (tg := 18) (by decide +kernel) (by decide +kernel)).trans ?_
  refine (X_iconst (m := 346) (pc := 18) (n := 0) (by decide +kernel) ).trans ?_
  exact X_ireturn (m := 346) (pc := 19) (f := 1) (by decide +kernel) (by decide +kernel) rfl
theorem E_L_undo {σ : AS} {r0 : Nat} {r1 : Nat} : a_m 347 [a_r (r0), a_r (r1)] σ = a_X 347 0 [a_r (r0), a_r (r1), a_x false] [] σ := a_m_eq (by rw [a_entry, show m_maxL 347 = 3 from by decide +kernel]; rfl)
theorem B_L_undo_0 {k : Nat → Nat × Nat} {u : Nat → Nat → Int} {g : Nat → Nat → Nat} {t : Nat × Nat × Nat} {r0 : Nat} {r1 : Nat} {v2 : AV} : a_X 347 0 [a_r (r0), a_r (r1), v2] [] (k, u, g, t) = if (k r0).1 = 10 then (a_m 140 [a_r (r0)] (k, u, g, t)).bind (a_back 347 3 3 [a_r (r0), a_r (r1), v2] [a_i (0), a_r (r1)]) else none := by
  refine (X_aload_n (m := 347) (pc := 0) (n := 1) (by decide +kernel) rfl).trans ?_
  refine (X_iconst (m := 347) (pc := 1) (n := 0) (by decide +kernel) ).trans ?_
  refine (X_aload_n (m := 347) (pc := 2) (n := 0) (by decide +kernel) rfl).trans ?_
  refine (X_call_vi (m := 347) (pc := 3) (q := 159) (y := 140) (n := 1) (as := [a_r (r0)]) (rest := [a_i (0), a_r (r1)]) (by decide +kernel) (by decide +kernel) (by decide +kernel) (by decide +kernel) rfl rfl (Nat.le_of_ble_eq_true rfl) (Nat.le_of_ble_eq_true rfl) rfl (by rw [show m_maxL 140 = 1 from by decide +kernel]; exact Nat.le_of_ble_eq_true rfl)).trans ?_
  exact ite_congr (by simp [a_rcv, show m_recv 140 = 10 from by decide +kernel]) (fun _ => rfl) (fun _ => rfl)
theorem B_L_undo_11 {k : Nat → Nat × Nat} {u : Nat → Nat → Int} {g : Nat → Nat → Nat} {t : Nat × Nat × Nat} {r0 : Nat} {r1 : Nat} {v2 : AV} : a_X 347 11 [a_r (r0), a_r (r1), v2] [a_x true] (k, u, g, t) = some (.inl (some (a_i (1))), (k, u, g, t)) := by
  refine (X_astoreX_n (m := 347) (pc := 11) (n := 2) (by decide +kernel) rfl (Nat.le_of_ble_eq_true rfl) rfl).trans ?_
  refine (X_iconst (m := 347) (pc := 12) (n := 1) (by decide +kernel) ).trans ?_
  exact X_ireturn (m := 347) (pc := 13) (f := 1) (by decide +kernel) (by decide +kernel) rfl
theorem B_L_undo_6 {k : Nat → Nat × Nat} {u : Nat → Nat → Int} {g : Nat → Nat → Nat} {t : Nat × Nat × Nat} {r0 : Nat} {r1 : Nat} {v2 : AV} {q0 : Nat} {y1 : Int} {y2 : Int} : a_X 347 6 [a_r (r0), a_r (r1), v2] [a_i (y2), a_i (y1), a_r (q0)] (k, u, g, t) = if (k q0).1 = 22 ∧ 0 ≤ (y1 : Int) ∧ (y1 : Int) < ((k q0).2 : Int) then some (.inl (some (a_i (0))), (k, (upm u q0 (y1 : Int).toNat y2), g, t)) else none := by
  refine (X_i2l (m := 347) (pc := 6)  (by decide +kernel) ).trans ?_
  refine (X_lastore (m := 347) (pc := 7)  (by decide +kernel) ).trans ?_
  refine ite_congr rfl (fun _ => ?_) (fun _ => rfl)
  refine (X_goto (m := 347) (pc := 8) (off := 6) (tg := 14) (by decide +kernel) (by decide +kernel)).trans ?_
  refine (X_iconst (m := 347) (pc := 14) (n := 0) (by decide +kernel) ).trans ?_
  exact X_ireturn (m := 347) (pc := 15) (f := 1) (by decide +kernel) (by decide +kernel) rfl
theorem E_L_save {σ : AS} {r0 : Nat} {x1 : Int} {r2 : Nat} : a_m 348 [a_r (r0), a_i (x1), a_r (r2)] σ = a_X 348 0 [a_r (r0), a_i (x1), a_r (r2), a_x false] [] σ := a_m_eq (by rw [a_entry, show m_maxL 348 = 4 from by decide +kernel]; rfl)
theorem B_L_save_0 {k : Nat → Nat × Nat} {u : Nat → Nat → Int} {g : Nat → Nat → Nat} {t : Nat × Nat × Nat} {r0 : Nat} {x1 : Int} {r2 : Nat} {v3 : AV} : a_X 348 0 [a_r (r0), a_i (x1), a_r (r2), v3] [] (k, u, g, t) = if (k r0).1 = 10 then (a_m 142 [a_r (r0), a_i (x1)] (k, u, g, t)).bind (a_back 348 4 3 [a_r (r0), a_i (x1), a_r (r2), v3] [a_i (0), a_r (r2)]) else none := by
  refine (X_aload_n (m := 348) (pc := 0) (n := 2) (by decide +kernel) rfl).trans ?_
  refine (X_iconst (m := 348) (pc := 1) (n := 0) (by decide +kernel) ).trans ?_
  refine (X_aload_n (m := 348) (pc := 2) (n := 0) (by decide +kernel) rfl).trans ?_
  refine (X_iload_n (m := 348) (pc := 3) (n := 1) (by decide +kernel) rfl).trans ?_
  refine (X_call_vi (m := 348) (pc := 4) (q := 162) (y := 142) (n := 2) (as := [a_r (r0), a_i (x1)]) (rest := [a_i (0), a_r (r2)]) (by decide +kernel) (by decide +kernel) (by decide +kernel) (by decide +kernel) rfl rfl (Nat.le_of_ble_eq_true rfl) (Nat.le_of_ble_eq_true rfl) rfl (by rw [show m_maxL 142 = 2 from by decide +kernel]; exact Nat.le_of_ble_eq_true rfl)).trans ?_
  exact ite_congr (by simp [a_rcv, show m_recv 142 = 10 from by decide +kernel]) (fun _ => rfl) (fun _ => rfl)
theorem B_L_save_12 {k : Nat → Nat × Nat} {u : Nat → Nat → Int} {g : Nat → Nat → Nat} {t : Nat × Nat × Nat} {r0 : Nat} {x1 : Int} {r2 : Nat} {v3 : AV} : a_X 348 12 [a_r (r0), a_i (x1), a_r (r2), v3] [a_x true] (k, u, g, t) = some (.inl (some (a_i (1))), (k, u, g, t)) := by
  refine (X_astoreX_n (m := 348) (pc := 12) (n := 3) (by decide +kernel) rfl (Nat.le_of_ble_eq_true rfl) rfl).trans ?_
  refine (X_iconst (m := 348) (pc := 13) (n := 1) (by decide +kernel) ).trans ?_
  exact X_ireturn (m := 348) (pc := 14) (f := 1) (by decide +kernel) (by decide +kernel) rfl
theorem B_L_save_15 {k : Nat → Nat × Nat} {u : Nat → Nat → Int} {g : Nat → Nat → Nat} {t : Nat × Nat × Nat} {r0 : Nat} {x1 : Int} {r2 : Nat} {v3 : AV} : a_X 348 15 [a_r (r0), a_i (x1), a_r (r2), v3] [a_x true] (k, u, g, t) = some (.inl (some (a_i (2))), (k, u, g, t)) := by
  refine (X_astoreX_n (m := 348) (pc := 15) (n := 3) (by decide +kernel) rfl (Nat.le_of_ble_eq_true rfl) rfl).trans ?_
  refine (X_iconst (m := 348) (pc := 16) (n := 2) (by decide +kernel) ).trans ?_
  exact X_ireturn (m := 348) (pc := 17) (f := 1) (by decide +kernel) (by decide +kernel) rfl
theorem B_L_save_7 {k : Nat → Nat × Nat} {u : Nat → Nat → Int} {g : Nat → Nat → Nat} {t : Nat × Nat × Nat} {r0 : Nat} {x1 : Int} {r2 : Nat} {v3 : AV} {q0 : Nat} {y1 : Int} {y2 : Int} : a_X 348 7 [a_r (r0), a_i (x1), a_r (r2), v3] [a_i (y2), a_i (y1), a_r (q0)] (k, u, g, t) = if (k q0).1 = 22 ∧ 0 ≤ (y1 : Int) ∧ (y1 : Int) < ((k q0).2 : Int) then some (.inl (some (a_i (0))), (k, (upm u q0 (y1 : Int).toNat y2), g, t)) else none := by
  refine (X_i2l (m := 348) (pc := 7)  (by decide +kernel) ).trans ?_
  refine (X_lastore (m := 348) (pc := 8)  (by decide +kernel) ).trans ?_
  refine ite_congr rfl (fun _ => ?_) (fun _ => rfl)
  refine (X_goto (m := 348) (pc := 9) (off := 9) (tg := 18) (by decide +kernel) (by decide +kernel)).trans ?_
  refine (X_iconst (m := 348) (pc := 18) (n := 0) (by decide +kernel) ).trans ?_
  exact X_ireturn (m := 348) (pc := 19) (f := 1) (by decide +kernel) (by decide +kernel) rfl
theorem E_L_restore {σ : AS} {r0 : Nat} {x1 : Int} {r2 : Nat} : a_m 349 [a_r (r0), a_i (x1), a_r (r2)] σ = a_X 349 0 [a_r (r0), a_i (x1), a_r (r2), a_x false] [] σ := a_m_eq (by rw [a_entry, show m_maxL 349 = 4 from by decide +kernel]; rfl)
theorem B_L_restore_0 {k : Nat → Nat × Nat} {u : Nat → Nat → Int} {g : Nat → Nat → Nat} {t : Nat × Nat × Nat} {r0 : Nat} {x1 : Int} {r2 : Nat} {v3 : AV} : a_X 349 0 [a_r (r0), a_i (x1), a_r (r2), v3] [] (k, u, g, t) = if (k r0).1 = 10 then (a_m 143 [a_r (r0), a_i (x1)] (k, u, g, t)).bind (a_back 349 4 3 [a_r (r0), a_i (x1), a_r (r2), v3] [a_i (0), a_r (r2)]) else none := by
  refine (X_aload_n (m := 349) (pc := 0) (n := 2) (by decide +kernel) rfl).trans ?_
  refine (X_iconst (m := 349) (pc := 1) (n := 0) (by decide +kernel) ).trans ?_
  refine (X_aload_n (m := 349) (pc := 2) (n := 0) (by decide +kernel) rfl).trans ?_
  refine (X_iload_n (m := 349) (pc := 3) (n := 1) (by decide +kernel) rfl).trans ?_
  refine (X_call_vi (m := 349) (pc := 4) (q := 165) (y := 143) (n := 2) (as := [a_r (r0), a_i (x1)]) (rest := [a_i (0), a_r (r2)]) (by decide +kernel) (by decide +kernel) (by decide +kernel) (by decide +kernel) rfl rfl (Nat.le_of_ble_eq_true rfl) (Nat.le_of_ble_eq_true rfl) rfl (by rw [show m_maxL 143 = 2 from by decide +kernel]; exact Nat.le_of_ble_eq_true rfl)).trans ?_
  exact ite_congr (by simp [a_rcv, show m_recv 143 = 10 from by decide +kernel]) (fun _ => rfl) (fun _ => rfl)
theorem B_L_restore_12 {k : Nat → Nat × Nat} {u : Nat → Nat → Int} {g : Nat → Nat → Nat} {t : Nat × Nat × Nat} {r0 : Nat} {x1 : Int} {r2 : Nat} {v3 : AV} : a_X 349 12 [a_r (r0), a_i (x1), a_r (r2), v3] [a_x true] (k, u, g, t) = some (.inl (some (a_i (1))), (k, u, g, t)) := by
  refine (X_astoreX_n (m := 349) (pc := 12) (n := 3) (by decide +kernel) rfl (Nat.le_of_ble_eq_true rfl) rfl).trans ?_
  refine (X_iconst (m := 349) (pc := 13) (n := 1) (by decide +kernel) ).trans ?_
  exact X_ireturn (m := 349) (pc := 14) (f := 1) (by decide +kernel) (by decide +kernel) rfl
theorem B_L_restore_15 {k : Nat → Nat × Nat} {u : Nat → Nat → Int} {g : Nat → Nat → Nat} {t : Nat × Nat × Nat} {r0 : Nat} {x1 : Int} {r2 : Nat} {v3 : AV} : a_X 349 15 [a_r (r0), a_i (x1), a_r (r2), v3] [a_x true] (k, u, g, t) = some (.inl (some (a_i (2))), (k, u, g, t)) := by
  refine (X_astoreX_n (m := 349) (pc := 15) (n := 3) (by decide +kernel) rfl (Nat.le_of_ble_eq_true rfl) rfl).trans ?_
  refine (X_iconst (m := 349) (pc := 16) (n := 2) (by decide +kernel) ).trans ?_
  exact X_ireturn (m := 349) (pc := 17) (f := 1) (by decide +kernel) (by decide +kernel) rfl
theorem B_L_restore_7 {k : Nat → Nat × Nat} {u : Nat → Nat → Int} {g : Nat → Nat → Nat} {t : Nat × Nat × Nat} {r0 : Nat} {x1 : Int} {r2 : Nat} {v3 : AV} {q0 : Nat} {y1 : Int} {y2 : Int} : a_X 349 7 [a_r (r0), a_i (x1), a_r (r2), v3] [a_i (y2), a_i (y1), a_r (q0)] (k, u, g, t) = if (k q0).1 = 22 ∧ 0 ≤ (y1 : Int) ∧ (y1 : Int) < ((k q0).2 : Int) then some (.inl (some (a_i (0))), (k, (upm u q0 (y1 : Int).toNat y2), g, t)) else none := by
  refine (X_i2l (m := 349) (pc := 7)  (by decide +kernel) ).trans ?_
  refine (X_lastore (m := 349) (pc := 8)  (by decide +kernel) ).trans ?_
  refine ite_congr rfl (fun _ => ?_) (fun _ => rfl)
  refine (X_goto (m := 349) (pc := 9) (off := 9) (tg := 18) (by decide +kernel) (by decide +kernel)).trans ?_
  refine (X_iconst (m := 349) (pc := 18) (n := 0) (by decide +kernel) ).trans ?_
  exact X_ireturn (m := 349) (pc := 19) (f := 1) (by decide +kernel) (by decide +kernel) rfl
