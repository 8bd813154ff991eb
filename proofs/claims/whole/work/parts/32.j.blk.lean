/-! block equations, by wip/whole/gen_blocks.py -/
theorem E_J6_bitCount_0f7a4 {σ : AS} {x0 : Int} : a_m 351 [a_i (x0)] σ = a_X 351 0 [a_i (x0)] [] σ := a_m_eq (by rw [a_entry, show m_maxL 351 = 1 from by decide +kernel]; rfl)
theorem B_J6_bitCount_0f7a4_0 {k : Nat → Nat × Nat} {u : Nat → Nat → Int} {g : Nat → Nat → Nat} {t : Nat × Nat × Nat} {x0 : Int} : a_X 351 0 [a_i (x0)] [] (k, u, g, t) = some (.inl (some (a_i (zand (wr ((wr ((zand (wr ((wr ((zand (wr (x0 - (zand (zushr (x0) (1)) (1431655765)))) (858993459)) + (zand (zushr (wr (x0 - (zand (zushr (x0) (1)) (1431655765)))) (2)) (858993459)))) + (zushr (wr ((zand (wr (x0 - (zand (zushr (x0) (1)) (1431655765)))) (858993459)) + (zand (zushr (wr (x0 - (zand (zushr (x0) (1)) (1431655765)))) (2)) (858993459)))) (4)))) (252645135)) + (zushr (zand (wr ((wr ((zand (wr (x0 - (zand (zushr (x0) (1)) (1431655765)))) (858993459)) + (zand (zushr (wr (x0 - (zand (zushr (x0) (1)) (1431655765)))) (2)) (858993459)))) + (zushr (wr ((zand (wr (x0 - (zand (zushr (x0) (1)) (1431655765)))) (858993459)) + (zand (zushr (wr (x0 - (zand (zushr (x0) (1)) (1431655765)))) (2)) (858993459)))) (4)))) (252645135)) (8)))) + (zushr (wr ((zand (wr ((wr ((zand (wr (x0 - (zand (zushr (x0) (1)) (1431655765)))) (858993459)) + (zand (zushr (wr (x0 - (zand (zushr (x0) (1)) (1431655765)))) (2)) (858993459)))) + (zushr (wr ((zand (wr (x0 - (zand (zushr (x0) (1)) (1431655765)))) (858993459)) + (zand (zushr (wr (x0 - (zand (zushr (x0) (1)) (1431655765)))) (2)) (858993459)))) (4)))) (252645135)) + (zushr (zand (wr ((wr ((zand (wr (x0 - (zand (zushr (x0) (1)) (1431655765)))) (858993459)) + (zand (zushr (wr (x0 - (zand (zushr (x0) (1)) (1431655765)))) (2)) (858993459)))) + (zushr (wr ((zand (wr (x0 - (zand (zushr (x0) (1)) (1431655765)))) (858993459)) + (zand (zushr (wr (x0 - (zand (zushr (x0) (1)) (1431655765)))) (2)) (858993459)))) (4)))) (252645135)) (8)))) (16)))) (63)))), (k, u, g, t)) := by
  refine (X_iload_n (m := 351) (pc := 0) (n := 0) (by decide +kernel) rfl).trans ?_
  refine (X_iload_n (m := 351) (pc := 1) (n := 0) (by decide +kernel) rfl).trans ?_
  refine (X_iconst (m := 351) (pc := 2) (n := 1) (by decide +kernel) ).trans ?_
  refine (X_iushr (m := 351) (pc := 3)  (by decide +kernel) ).trans ?_
  refine (X_ldcw (m := 351) (pc := 4) (n := 265) (z := 1431655765) (by decide +kernel) (by decide +kernel)).trans ?_
  refine (X_iand (m := 351) (pc := 7)  (by decide +kernel) ).trans ?_
  refine (X_isub (m := 351) (pc := 8)  (by decide +kernel) ).trans ?_
  refine (X_istore_n (m := 351) (pc := 9) (n := 0) (by decide +kernel) rfl (Nat.le_of_ble_eq_true rfl) rfl).trans ?_
  refine (X_iload_n (m := 351) (pc := 10) (n := 0) (by decide +kernel) rfl).trans ?_
  refine (X_ldcw (m := 351) (pc := 11) (n := 266) (z := 858993459) (by decide +kernel) (by decide +kernel)).trans ?_
  refine (X_iand (m := 351) (pc := 14)  (by decide +kernel) ).trans ?_
  refine (X_iload_n (m := 351) (pc := 15) (n := 0) (by decide +kernel) rfl).trans ?_
  refine (X_iconst (m := 351) (pc := 16) (n := 2) (by decide +kernel) ).trans ?_
  refine (X_iushr (m := 351) (pc := 17)  (by decide +kernel) ).trans ?_
  refine (X_ldcw (m := 351) (pc := 18) (n := 266) (z := 858993459) (by decide +kernel) (by decide +kernel)).trans ?_
  refine (X_iand (m := 351) (pc := 21)  (by decide +kernel) ).trans ?_
  refine (X_iadd (m := 351) (pc := 22)  (by decide +kernel) ).trans ?_
  refine (X_istore_n (m := 351) (pc := 23) (n := 0) (by decide +kernel) rfl (Nat.le_of_ble_eq_true rfl) rfl).trans ?_
  refine (X_iload_n (m := 351) (pc := 24) (n := 0) (by decide +kernel) rfl).trans ?_
  refine (X_iload_n (m := 351) (pc := 25) (n := 0) (by decide +kernel) rfl).trans ?_
  refine (X_iconst (m := 351) (pc := 26) (n := 4) (by decide +kernel) ).trans ?_
  refine (X_iushr (m := 351) (pc := 27)  (by decide +kernel) ).trans ?_
  refine (X_iadd (m := 351) (pc := 28)  (by decide +kernel) ).trans ?_
  refine (X_ldcw (m := 351) (pc := 29) (n := 267) (z := 252645135) (by decide +kernel) (by decide +kernel)).trans ?_
  refine (X_iand (m := 351) (pc := 32)  (by decide +kernel) ).trans ?_
  refine (X_istore_n (m := 351) (pc := 33) (n := 0) (by decide +kernel) rfl (Nat.le_of_ble_eq_true rfl) rfl).trans ?_
  refine (X_iload_n (m := 351) (pc := 34) (n := 0) (by decide +kernel) rfl).trans ?_
  refine (X_iload_n (m := 351) (pc := 35) (n := 0) (by decide +kernel) rfl).trans ?_
  refine (X_bipush (m := 351) (pc := 36) (n := 8) (by decide +kernel) ).trans ?_
  refine (X_iushr (m := 351) (pc := 38)  (by decide +kernel) ).trans ?_
  refine (X_iadd (m := 351) (pc := 39)  (by decide +kernel) ).trans ?_
  refine (X_istore_n (m := 351) (pc := 40) (n := 0) (by decide +kernel) rfl (Nat.le_of_ble_eq_true rfl) rfl).trans ?_
  refine (X_iload_n (m := 351) (pc := 41) (n := 0) (by decide +kernel) rfl).trans ?_
  refine (X_iload_n (m := 351) (pc := 42) (n := 0) (by decide +kernel) rfl).trans ?_
  refine (X_bipush (m := 351) (pc := 43) (n := 16) (by decide +kernel) ).trans ?_
  refine (X_iushr (m := 351) (pc := 45)  (by decide +kernel) ).trans ?_
  refine (X_iadd (m := 351) (pc := 46)  (by decide +kernel) ).trans ?_
  refine (X_istore_n (m := 351) (pc := 47) (n := 0) (by decide +kernel) rfl (Nat.le_of_ble_eq_true rfl) rfl).trans ?_
  refine (X_iload_n (m := 351) (pc := 48) (n := 0) (by decide +kernel) rfl).trans ?_
  refine (X_bipush (m := 351) (pc := 49) (n := 63) (by decide +kernel) ).trans ?_
  refine (X_iand (m := 351) (pc := 51)  (by decide +kernel) ).trans ?_
  exact X_ireturn (m := 351) (pc := 52) (f := 1) (by decide +kernel) (by decide +kernel) rfl
theorem E_J0_length_8abf5 {σ : AS} {r0 : Nat} : a_m 352 [a_r (r0)] σ = a_X 352 0 [a_r (r0)] [] σ := a_m_eq (by rw [a_entry, show m_maxL 352 = 1 from by decide +kernel]; rfl)
theorem B_J0_length_8abf5_0 {k : Nat → Nat × Nat} {u : Nat → Nat → Int} {g : Nat → Nat → Nat} {t : Nat × Nat × Nat} {r0 : Nat} : a_X 352 0 [a_r (r0)] [] (k, u, g, t) = if (k r0).1 = 25 then if 20 ≤ (k (g r0 0)).1 ∧ (k (g r0 0)).1 ≠ 25 then if (k r0).1 = 25 then (a_m 354 [a_r (r0)] (k, u, g, t)).bind (a_back 352 6 3 [a_r (r0)] [a_i (((k (g r0 0)).2 : Int))]) else none else none else none := by
  refine (X_aload_n (m := 352) (pc := 0) (n := 0) (by decide +kernel) rfl).trans ?_
  refine (X_getR (m := 352) (pc := 1) (n := 9) (c := 25) (q := 0) (fi := true) (by decide +kernel) (by decide +kernel)).trans ?_
  refine ite_congr rfl (fun _ => ?_) (fun _ => rfl)
  refine (X_alen (m := 352) (pc := 4)  (by decide +kernel) ).trans ?_
  refine ite_congr rfl (fun _ => ?_) (fun _ => rfl)
  refine (X_aload_n (m := 352) (pc := 5) (n := 0) (by decide +kernel) rfl).trans ?_
  refine (X_call_vi (m := 352) (pc := 6) (q := 335) (y := 354) (n := 1) (as := [a_r (r0)]) (rest := [a_i (((k (g r0 0)).2 : Int))]) (by decide +kernel) (by decide +kernel) (by decide +kernel) (by decide +kernel) rfl rfl (Nat.le_of_ble_eq_true rfl) (Nat.le_of_ble_eq_true rfl) rfl (by rw [show m_maxL 354 = 1 from by decide +kernel]; exact Nat.le_of_ble_eq_true rfl)).trans ?_
  exact ite_congr (by simp [a_rcv, show m_recv 354 = 25 from by decide +kernel]) (fun _ => rfl) (fun _ => rfl)
theorem B_J0_length_8abf5_9 {k : Nat → Nat × Nat} {u : Nat → Nat → Int} {g : Nat → Nat → Nat} {t : Nat × Nat × Nat} {r0 : Nat} {y0 : Int} {y1 : Int} : a_X 352 9 [a_r (r0)] [a_i (y1), a_i (y0)] (k, u, g, t) = some (.inl (some (a_i (zshr (y0) (y1)))), (k, u, g, t)) := by
  refine (X_ishr (m := 352) (pc := 9)  (by decide +kernel) ).trans ?_
  exact X_ireturn (m := 352) (pc := 10) (f := 1) (by decide +kernel) (by decide +kernel) rfl
theorem E_J0_coder_7d493 {σ : AS} {r0 : Nat} : a_m 354 [a_r (r0)] σ = a_X 354 0 [a_r (r0)] [] σ := a_m_eq (by rw [a_entry, show m_maxL 354 = 1 from by decide +kernel]; rfl)
theorem B_J0_coder_7d493_0 {k : Nat → Nat × Nat} {u : Nat → Nat → Int} {g : Nat → Nat → Nat} {t : Nat × Nat × Nat} {r0 : Nat} : a_X 354 0 [a_r (r0)] [] (k, u, g, t) = if (1 : Int) = 0 then if a_fit 8 (1) = true then some (.inl (some (a_i (1))), (k, u, g, t)) else none else if (k r0).1 = 25 then if a_fit 8 (u r0 1) = true then some (.inl (some (a_i (u r0 1))), (k, u, g, t)) else none else none := by
  refine (X_static (m := 354) (pc := 0) (n := 38) (a := a_i 1) (by decide +kernel) (by decide +kernel)).trans ?_
  refine (X_if_eq (m := 354) (pc := 3) (off := 10) (tg := 13) (by decide +kernel) (by decide +kernel)).trans ?_
  refine ite_congr rfl (fun _ => ?_) (fun _ => ?_)
  · refine (X_iconst (m := 354) (pc := 13) (n := 1) (by decide +kernel) ).trans ?_
    exact X_ireturnF (m := 354) (pc := 14) (f := 8) (by decide +kernel) (by decide +kernel)
  · refine (X_aload_n (m := 354) (pc := 6) (n := 0) (by decide +kernel) rfl).trans ?_
    refine (X_getI (m := 354) (pc := 7) (n := 15) (c := 25) (q := 1) (ty := 8) (fi := true) (by decide +kernel) (by decide +kernel) (by decide +kernel)).trans ?_
    refine ite_congr rfl (fun _ => ?_) (fun _ => rfl)
    refine (X_goto (m := 354) (pc := 10) (off := 4) (tg := 14) (by decide +kernel) (by decide +kernel)).trans ?_
    exact X_ireturnF (m := 354) (pc := 14) (f := 8) (by decide +kernel) (by decide +kernel)
theorem E_J0_isLatin1_aae02 {σ : AS} {r0 : Nat} : a_m 355 [a_r (r0)] σ = a_X 355 0 [a_r (r0)] [] σ := a_m_eq (by rw [a_entry, show m_maxL 355 = 1 from by decide +kernel]; rfl)
theorem B_J0_isLatin1_aae02_0 {k : Nat → Nat × Nat} {u : Nat → Nat → Int} {g : Nat → Nat → Nat} {t : Nat × Nat × Nat} {r0 : Nat} : a_X 355 0 [a_r (r0)] [] (k, u, g, t) = if (1 : Int) = 0 then some (.inl (some (a_i (0))), (k, u, g, t)) else if (k r0).1 = 25 then if (u r0 1 : Int) ≠ 0 then some (.inl (some (a_i (0))), (k, u, g, t)) else some (.inl (some (a_i (1))), (k, u, g, t)) else none := by
  refine (X_static (m := 355) (pc := 0) (n := 38) (a := a_i 1) (by decide +kernel) (by decide +kernel)).trans ?_
  refine (X_if_eq (m := 355) (pc := 3) (off := 14) (tg := 17) (by decide +kernel) (by decide +kernel)).trans ?_
  refine ite_congr rfl (fun _ => ?_) (fun _ => ?_)
  · refine (X_iconst (m := 355) (pc := 17) (n := 0) (by decide +kernel) ).trans ?_
    exact X_ireturn (m := 355) (pc := 18) (f := 2) (by decide +kernel) (by decide +kernel) rfl
  · refine (X_aload_n (m := 355) (pc := 6) (n := 0) (by decide +kernel) rfl).trans ?_
    refine (X_getI (m := 355) (pc := 7) (n := 15) (c := 25) (q := 1) (ty := 8) (fi := true) (by decide +kernel) (by decide +kernel) (by decide +kernel)).trans ?_
    refine ite_congr rfl (fun _ => ?_) (fun _ => rfl)
    refine (X_if_ne (m := 355) (pc := 10) (off := 7) (tg := 17) (by decide +kernel) (by decide +kernel)).trans ?_
    refine ite_congr rfl (fun _ => ?_) (fun _ => ?_)
    · refine (X_iconst (m := 355) (pc := 17) (n := 0) (by decide +kernel) ).trans ?_
      exact X_ireturn (m := 355) (pc := 18) (f := 2) (by decide +kernel) (by decide +kernel) rfl
    · refine (X_iconst (m := 355) (pc := 13) (n := 1) (by decide +kernel) ).trans ?_
      refine (X_goto (m := 355) (pc := 14) (off := 4) (tg := 18) (by decide +kernel) (by decide +kernel)).trans ?_
      exact X_ireturn (m := 355) (pc := 18) (f := 2) (by decide +kernel) (by decide +kernel) rfl
theorem E_J0_checkIndex_df160 {σ : AS} {x0 : Int} {x1 : Int} : a_m 356 [a_i (x0), a_i (x1)] σ = a_X 356 0 [a_i (x0), a_i (x1)] [] σ := a_m_eq (by rw [a_entry, show m_maxL 356 = 2 from by decide +kernel]; rfl)
theorem B_J0_checkIndex_df160_0 {k : Nat → Nat × Nat} {u : Nat → Nat → Int} {g : Nat → Nat → Nat} {t : Nat × Nat × Nat} {x0 : Int} {x1 : Int} : a_X 356 0 [a_i (x0), a_i (x1)] [] (k, u, g, t) = (a_m 358 [a_i (x0), a_i (x1), a_x true] (k, u, g, t)).bind (a_back 356 5 3 [a_i (x0), a_i (x1)] []) := by
  refine (X_iload_n (m := 356) (pc := 0) (n := 0) (by decide +kernel) rfl).trans ?_
  refine (X_iload_n (m := 356) (pc := 1) (n := 1) (by decide +kernel) rfl).trans ?_
  refine (X_static (m := 356) (pc := 2) (n := 1053) (a := a_x true) (by decide +kernel) (by decide +kernel)).trans ?_
  refine (X_call_st (m := 356) (pc := 5) (q := 1059) (y := 358) (n := 3) (as := [a_i (x0), a_i (x1), a_x true]) (rest := []) (by decide +kernel) (by decide +kernel) (by decide +kernel) (by decide +kernel) rfl rfl (Nat.le_of_ble_eq_true rfl) (Nat.le_of_ble_eq_true rfl) rfl (by rw [show m_maxL 358 = 3 from by decide +kernel]; exact Nat.le_of_ble_eq_true rfl)).trans ?_
  exact if_pos rfl
theorem B_J0_checkIndex_df160_8 {k : Nat → Nat × Nat} {u : Nat → Nat → Int} {g : Nat → Nat → Nat} {t : Nat × Nat × Nat} {x0 : Int} {x1 : Int} {y0 : Int} : a_X 356 8 [a_i (x0), a_i (x1)] [a_i (y0)] (k, u, g, t) = some (.inl none, (k, u, g, t)) := by
  refine (X_pop (m := 356) (pc := 8)  (by decide +kernel) rfl rfl).trans ?_
  exact X_return (m := 356) (pc := 9) (by decide +kernel) (by decide +kernel)
theorem E_J1_charAt_3b067 {σ : AS} {r0 : Nat} {x1 : Int} : a_m 357 [a_r (r0), a_i (x1)] σ = a_X 357 0 [a_r (r0), a_i (x1)] [] σ := a_m_eq (by rw [a_entry, show m_maxL 357 = 2 from by decide +kernel]; rfl)
theorem B_J1_charAt_3b067_0 {k : Nat → Nat × Nat} {u : Nat → Nat → Int} {g : Nat → Nat → Nat} {t : Nat × Nat × Nat} {r0 : Nat} {x1 : Int} : a_X 357 0 [a_r (r0), a_i (x1)] [] (k, u, g, t) = if 20 ≤ (k r0).1 ∧ (k r0).1 ≠ 25 then (a_m 356 [a_i (x1), a_i (((k r0).2 : Int))] (k, u, g, t)).bind (a_back 357 3 3 [a_r (r0), a_i (x1)] []) else none := by
  refine (X_iload_n (m := 357) (pc := 0) (n := 1) (by decide +kernel) rfl).trans ?_
  refine (X_aload_n (m := 357) (pc := 1) (n := 0) (by decide +kernel) rfl).trans ?_
  refine (X_alen (m := 357) (pc := 2)  (by decide +kernel) ).trans ?_
  refine ite_congr rfl (fun _ => ?_) (fun _ => rfl)
  refine (X_call_st (m := 357) (pc := 3) (q := 9) (y := 356) (n := 2) (as := [a_i (x1), a_i (((k r0).2 : Int))]) (rest := []) (by decide +kernel) (by decide +kernel) (by decide +kernel) (by decide +kernel) rfl rfl (Nat.le_of_ble_eq_true rfl) (Nat.le_of_ble_eq_true rfl) rfl (by rw [show m_maxL 356 = 2 from by decide +kernel]; exact Nat.le_of_ble_eq_true rfl)).trans ?_
  exact if_pos rfl
theorem B_J1_charAt_3b067_6 {k : Nat → Nat × Nat} {u : Nat → Nat → Int} {g : Nat → Nat → Nat} {t : Nat × Nat × Nat} {r0 : Nat} {x1 : Int} : a_X 357 6 [a_r (r0), a_i (x1)] [] (k, u, g, t) = if ((k r0).1 = 21 ∨ (k r0).1 = 26) ∧ 0 ≤ (x1 : Int) ∧ (x1 : Int) < ((k r0).2 : Int) then if a_fit 7 (zchr (zand (u r0 (x1 : Int).toNat) (255))) = true then some (.inl (some (a_i (zchr (zand (u r0 (x1 : Int).toNat) (255))))), (k, u, g, t)) else none else none := by
  refine (X_aload_n (m := 357) (pc := 6) (n := 0) (by decide +kernel) rfl).trans ?_
  refine (X_iload_n (m := 357) (pc := 7) (n := 1) (by decide +kernel) rfl).trans ?_
  refine (X_baload (m := 357) (pc := 8)  (by decide +kernel) ).trans ?_
  refine ite_congr rfl (fun _ => ?_) (fun _ => rfl)
  refine (X_sipush (m := 357) (pc := 9) (n := 255) (by decide +kernel) ).trans ?_
  refine (X_iand (m := 357) (pc := 12)  (by decide +kernel) ).trans ?_
  refine (X_i2c (m := 357) (pc := 13)  (by decide +kernel) ).trans ?_
  exact X_ireturnF (m := 357) (pc := 14) (f := 7) (by decide +kernel) (by decide +kernel)
