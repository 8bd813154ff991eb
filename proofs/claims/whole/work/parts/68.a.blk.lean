/-! block equations, by wip/whole/gen_blocks.py -/
theorem E_J0_charAt_5068e {σ : AS} {r0 : Nat} {x1 : Int} : a_m 353 [a_r (r0), a_i (x1)] σ = a_X 353 0 [a_r (r0), a_i (x1)] [] σ := a_m_eq (by rw [a_entry, show m_maxL 353 = 2 from by decide +kernel]; rfl)
theorem B_J0_charAt_5068e_0 {k : Nat → Nat × Nat} {u : Nat → Nat → Int} {g : Nat → Nat → Nat} {t : Nat × Nat × Nat} {r0 : Nat} {x1 : Int} : a_X 353 0 [a_r (r0), a_i (x1)] [] (k, u, g, t) = if (k r0).1 = 25 then (a_m 355 [a_r (r0)] (k, u, g, t)).bind (a_back 353 1 3 [a_r (r0), a_i (x1)] []) else none := by
  refine (X_aload_n (m := 353) (pc := 0) (n := 0) (by decide +kernel) rfl).trans ?_
  refine (X_call_vi (m := 353) (pc := 1) (q := 492) (y := 355) (n := 1) (as := [a_r (r0)]) (rest := []) (by decide +kernel) (by decide +kernel) (by decide +kernel) (by decide +kernel) rfl rfl (Nat.le_of_ble_eq_true rfl) (Nat.le_of_ble_eq_true rfl) rfl (by rw [show m_maxL 355 = 1 from by decide +kernel]; exact Nat.le_of_ble_eq_true rfl)).trans ?_
  exact ite_congr (by simp [a_rcv, show m_recv 355 = 25 from by decide +kernel]) (fun _ => rfl) (fun _ => rfl)
theorem B_J0_charAt_5068e_4 {k : Nat → Nat × Nat} {u : Nat → Nat → Int} {g : Nat → Nat → Nat} {t : Nat × Nat × Nat} {r0 : Nat} {x1 : Int} {y0 : Int} : a_X 353 4 [a_r (r0), a_i (x1)] [a_i (y0)] (k, u, g, t) = if (y0 : Int) = 0 then if (k r0).1 = 25 then a_X 353 21 [a_r (r0), a_i (x1)] [a_i (x1), a_r (g r0 0)] (k, u, g, t) else none else if (k r0).1 = 25 then (a_m 357 [a_r (g r0 0), a_i (x1)] (k, u, g, t)).bind (a_back 353 12 3 [a_r (r0), a_i (x1)] []) else none := by
  refine (X_if_eq (m := 353) (pc := 4) (off := 12) (tg := 16) (by decide +kernel) (by decide +kernel)).trans ?_
  refine ite_congr rfl (fun _ => ?_) (fun _ => ?_)
  · refine (X_aload_n (m := 353) (pc := 16) (n := 0) (by decide +kernel) rfl).trans ?_
    refine (X_getR (m := 353) (pc := 17) (n := 9) (c := 25) (q := 0) (fi := true) (by decide +kernel) (by decide +kernel)).trans ?_
    refine ite_congr rfl (fun _ => ?_) (fun _ => rfl)
    refine (X_iload_n (m := 353) (pc := 20) (n := 1) (by decide +kernel) rfl).trans ?_
    rfl
  · refine (X_aload_n (m := 353) (pc := 7) (n := 0) (by decide +kernel) rfl).trans ?_
    refine (X_getR (m := 353) (pc := 8) (n := 9) (c := 25) (q := 0) (fi := true) (by decide +kernel) (by decide +kernel)).trans ?_
    refine ite_congr rfl (fun _ => ?_) (fun _ => rfl)
    refine (X_iload_n (m := 353) (pc := 11) (n := 1) (by decide +kernel) rfl).trans ?_
    refine (X_call_st (m := 353) (pc := 12) (q := 495) (y := 357) (n := 2) (as := [a_r (g r0 0), a_i (x1)]) (rest := []) (by decide +kernel) (by decide +kernel) (by decide +kernel) (by decide +kernel) rfl rfl (Nat.le_of_ble_eq_true rfl) (Nat.le_of_ble_eq_true rfl) rfl (by rw [show m_maxL 357 = 2 from by decide +kernel]; exact Nat.le_of_ble_eq_true rfl)).trans ?_
    exact if_pos rfl
theorem B_J0_charAt_5068e_15 {k : Nat → Nat × Nat} {u : Nat → Nat → Int} {g : Nat → Nat → Nat} {t : Nat × Nat × Nat} {r0 : Nat} {x1 : Int} {y0 : Int} : a_X 353 15 [a_r (r0), a_i (x1)] [a_i (y0)] (k, u, g, t) = if a_fit 7 (y0) = true then some (.inl (some (a_i (y0))), (k, u, g, t)) else none := by
  exact X_ireturnF (m := 353) (pc := 15) (f := 7) (by decide +kernel) (by decide +kernel)
theorem E_J3_checkIndex_8e157 {σ : AS} {x0 : Int} {x1 : Int} : a_m 358 [a_i (x0), a_i (x1), a_x true] σ = a_X 358 0 [a_i (x0), a_i (x1), a_x true] [] σ := a_m_eq (by rw [a_entry, show m_maxL 358 = 3 from by decide +kernel]; rfl)
theorem B_J3_checkIndex_8e157_0 {k : Nat → Nat × Nat} {u : Nat → Nat → Int} {g : Nat → Nat → Nat} {t : Nat × Nat × Nat} {x0 : Int} {x1 : Int} : a_X 358 0 [a_i (x0), a_i (x1), a_x true] [] (k, u, g, t) = if (x0 : Int) < 0 then a_X 358 9 [a_i (x0), a_i (x1), a_x true] [] (k, u, g, t) else if (x0 : Int) < (x1 : Int) then some (.inl (some (a_i (x0))), (k, u, g, t)) else a_X 358 9 [a_i (x0), a_i (x1), a_x true] [] (k, u, g, t) := by
  refine (X_iload_n (m := 358) (pc := 0) (n := 0) (by decide +kernel) rfl).trans ?_
  refine (X_if_lt (m := 358) (pc := 1) (off := 8) (tg := 9) (by decide +kernel) (by decide +kernel)).trans ?_
  refine ite_congr rfl (fun _ => ?_) (fun _ => ?_)
  · rfl
  · refine (X_iload_n (m := 358) (pc := 4) (n := 0) (by decide +kernel) rfl).trans ?_
    refine (X_iload_n (m := 358) (pc := 5) (n := 1) (by decide +kernel) rfl).trans ?_
    refine (X_ic_lt (m := 358) (pc := 6) (off := 10) (tg := 16) (by decide +kernel) (by decide +kernel)).trans ?_
    refine ite_congr rfl (fun _ => ?_) (fun _ => ?_)
    · refine (X_iload_n (m := 358) (pc := 16) (n := 0) (by decide +kernel) rfl).trans ?_
      exact X_ireturn (m := 358) (pc := 17) (f := 1) (by decide +kernel) (by decide +kernel) rfl
    · rfl
